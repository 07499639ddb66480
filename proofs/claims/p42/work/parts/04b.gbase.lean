/-! METHODS THAT MAKE THINGS: a contract's world behind it is told by addresses q of its own; a call keeps all that it wasn't given -/
abbrev gQi (D : va_G) (WQ : (Nat → Nat) → va_W) (r : Int32) (A : Nat → Prop) : Array Value → State → Outcome → State → Prop := va_Qi (fun (r2 : Int32) (_ : Nat → Nat) => r2 = r) (fun q t => va_P D vwCl (WQ q) t.heap ∧ va_D A (WQ q)) A
abbrev gQv (D : va_G) (WQ : (Nat → Nat) → va_W) (A : Nat → Prop) : Array Value → State → Outcome → State → Prop := va_Qv (fun (_ : Nat → Nat) => True) (fun q t => va_P D vwCl (WQ q) t.heap ∧ va_D A (WQ q)) A
abbrev gQr (D : va_G) (WQ : (Nat → Nat) → va_W) (ra : (Nat → Nat) → Nat) (A : Nat → Prop) : Array Value → State → Outcome → State → Prop := va_Qr (fun (_ : Nat → Nat) => True) (fun q a t => a = ra q ∧ va_P D vwCl (WQ q) t.heap ∧ va_D A (WQ q)) A
def vG (E : (Nat → Prop) → State → Heap → Prop) (l : Launch) (y : MethodName) (cd : ByteArray) (mL : Nat) (rt : Option FieldType) (fr lo mc ms : Nat) (D : va_G) (tys : List (ClassId × FieldType)) (av : List Value) (w : va_W) (Qk : (Nat → Prop) → Array Value → State → Outcome → State → Prop) : Prop :=
  ∀ sz : Nat, Met l y (Cond.code y cd mL rt :: wsL_law) ({ frames := fr, cells := mc, slots := ms, locals := lo }) (va_Pc av (fun U => U.heap.size = sz ∧ va_P D vwCl w U.heap ∧ va_K D vwCl tys U ∧ va_D (fun _ => True) w ∧ E (va_A w sz) U U.heap)) (Qk (va_A w sz)) mc ms (va_A w sz)
theorem vG_of {E : (Nat → Prop) → State → Heap → Prop} {l : Launch} {y : MethodName} {cd : ByteArray} {mL : Nat} {rt : Option FieldType} {fr lo mc ms : Nat} {D : va_G} {tys : List (ClassId × FieldType)} {av : List Value} {w : va_W} {Qk : (Nat → Prop) → Array Value → State → Outcome → State → Prop} (hE : vEok E) (hy : plainName y.cls = true) (hlen : (lg_sl av).length ≤ mL)
    (body : ∀ (p : Program) (e : Env) (s : State) (m : MethodId) (args : Array Value) (below : List Frame) (meth : Method) (c : Code) (A : Nat → Prop), vC E p l s m args meth c A D tys cd mL y.cls → meth.sig.returnType = rt → meth.name = y.name → vV p l e { frames := fr, cells := mc, slots := ms, locals := lo } s m args below meth c A D mL 0 0 (MQ below (Qk A) args s mc ms A) w 0 (lv_args 0 av) []) : vG E l y cd mL rt fr lo mc ms D tys av w Qk := by
  intro sz
  refine Met.ofW (cc := cd) (maxL := mL) (ret := rt) hy rfl ?_
  intro p e s m args below meth c s₁ B hml hv
  obtain ⟨rfl, hsz, hP, hK, hD0, hE0⟩ := hv
  have hown : s.vm.findClass y.cls = some m.cls := findClass_of_methodNamed B.named
  have hin : meth.name = y.name := (name_of_methodNamed B.named B.method).1
  subst hsz
  have hts := atoms_spec (ws := Cond.code y cd mL rt :: wsL_law) B.pre
  have hl := lv_entry av (n := mL) hlen
  rw [lg_entry_eq]
  exact body p e s m _ below meth c (va_A w s.heap.size) ⟨B.exec, B.bytes, hml, hown, fun w h => hts w (List.mem_cons_of_mem _ h), hK, fun q h => Or.inr h, B.notSynchronized, hE, hE0⟩ B.returns hin s.heap [] _ hP hD0.self va_S.rf hl
theorem vG_ofF {E : (Nat → Prop) → State → Heap → Prop} {l : Launch} {y : MethodName} {cd : ByteArray} {mL : Nat} {rt : Option FieldType} {fr lo mc ms : Nat} {D : va_G} {tys : List (ClassId × FieldType)} {av : List Value} {w : va_W} {Qk : (Nat → Prop) → Array Value → State → Outcome → State → Prop} (hE : vEok E) (hy : plainFor y = true) (hlen : (lg_sl av).length ≤ mL)
    (body : ∀ (p : Program) (e : Env) (s : State) (m : MethodId) (args : Array Value) (below : List Frame) (meth : Method) (c : Code) (A : Nat → Prop), vC E p l s m args meth c A D tys cd mL y.cls → meth.sig.returnType = rt → meth.name = y.name → vV p l e { frames := fr, cells := mc, slots := ms, locals := lo } s m args below meth c A D mL 0 0 (MQ below (Qk A) args s mc ms A) w 0 (lv_args 0 av) []) : vG E l y cd mL rt fr lo mc ms D tys av w Qk := by
  intro sz
  refine va_MetF (cc := cd) (maxL := mL) (ret := rt) hy rfl ?_
  intro p e s m args below meth c s₁ B hml hv
  obtain ⟨rfl, hsz, hP, hK, hD0, hE0⟩ := hv
  have hown : s.vm.findClass y.cls = some m.cls := findClass_of_methodNamed B.named
  have hin : meth.name = y.name := (name_of_methodNamed B.named B.method).1
  subst hsz
  have hts := atoms_spec (ws := Cond.code y cd mL rt :: wsL_law) B.pre
  have hl := lv_entry av (n := mL) hlen
  rw [lg_entry_eq]
  exact body p e s m _ below meth c (va_A w s.heap.size) ⟨B.exec, B.bytes, hml, hown, fun w h => hts w (List.mem_cons_of_mem _ h), hK, fun q h => Or.inr h, B.notSynchronized, hE, hE0⟩ B.returns hin s.heap [] _ hP hD0.self va_S.rf hl
section VGB
variable {E : (Nat → Prop) → State → Heap → Prop} {p : Program} {l : Launch} {e : Env} {R : Room} {s : State} {m : MethodId} {args : Array Value} {below : List Frame} {meth : Method} {c : Code} {A : Nat → Prop} {D : va_G} {tys : List (ClassId × FieldType)} {cc : ByteArray} {nL : Nat} {own : String} {kc ks kc1 ks1 : Nat} {Q : State → Prop} {w w1 wb wc : va_W} {pc : Nat} {lv lv' : List (Nat × Value)} {st : List Value}
theorem g_reti (C : vC E p l s m args meth c A D tys cc nL own) {mc ms : Nat} {WQ : (Nat → Nat) → va_W} {r : Int32} {ty : FieldType} (hr : meth.sig.returnType = some ty) (hn : narrow ty (.int r) = .int r) (q : Nat → Nat) (hw : w = WQ q) (hk : kc ≤ mc ∧ ks ≤ ms) (hd : decode cc pc = .ok (.ireturn, 1)) : vV p l e R s m args below meth c A D nL kc ks (MQ below (gQi D WQ r A) args s mc ms A) w pc lv [.int r] := by
  subst hw
  exact fun H locs ls hP hD hS hl => W.widen hk.1 hk.2 (W.zret C.1 C.2.1 hr hn (fun t ht hW => ⟨⟨r, q, rfl, rfl, by show va_P D vwCl (WQ q) t.heap; rw [ht]; exact hP, hD⟩, hS.F ht⟩) hS.2.2 hd C.2.2.2.2.2.2.2.1)
theorem g_retv (C : vC E p l s m args meth c A D tys cc nL own) {mc ms : Nat} {WQ : (Nat → Nat) → va_W} (hr : meth.sig.returnType = none) (q : Nat → Nat) (hw : w = WQ q) (hk : kc ≤ mc ∧ ks ≤ ms) (hd : decode cc pc = .ok (.return_, 1)) : vV p l e R s m args below meth c A D nL kc ks (MQ below (gQv D WQ A) args s mc ms A) w pc lv [] := by
  subst hw
  exact fun H locs ls hP hD hS hl => W.widen hk.1 hk.2 (W.vret C.1 C.2.1 hr (fun t ht hW => ⟨⟨q, rfl, trivial, by show va_P D vwCl (WQ q) t.heap; rw [ht]; exact hP, hD⟩, hS.F ht⟩) hS.2.2 hd C.2.2.2.2.2.2.2.1)
theorem g_retr (C : vC E p l s m args meth c A D tys cc nL own) {mc ms a : Nat} {WQ : (Nat → Nat) → va_W} {ra : (Nat → Nat) → Nat} {ty : FieldType} (hr : meth.sig.returnType = some ty) (ho : (∃ n, ty = .object n) ∨ ∃ t, ty = .array t) (q : Nat → Nat) (ha : a = ra q) (hw : w = WQ q) (hk : kc ≤ mc ∧ ks ≤ ms) (hd : decode cc pc = .ok (.areturn, 1)) : vV p l e R s m args below meth c A D nL kc ks (MQ below (gQr D WQ ra A) args s mc ms A) w pc lv [.ref a] := by
  subst hw
  exact fun H locs ls hP hD hS hl => W.widen hk.1 hk.2 (W.aret C.1 C.2.1 hr ho (Or.inr ⟨a, rfl⟩) (fun t ht hW => ⟨⟨q, a, rfl, trivial, ha, by show va_P D vwCl (WQ q) t.heap; rw [ht]; exact hP, hD⟩, hS.F ht⟩) hS.2.2 hd C.2.2.2.2.2.2.2.1)
theorem vi_pickX {ex ex2 : va_W} (is : List Nat) (hn : va_nd is = true) (hs : is.map (fun i => ex[i]?) = ex2.map some) (k : vV p l e R s m args below meth c A D nL kc ks Q (ex2 ++ wb) pc lv st) : vV p l e R s m args below meth c A D nL kc ks Q (ex ++ wb) pc lv st := by
  have key : ∀ (j : Nat) (q : Nat × va_E), ex2[j]? = some q → ∃ i, is[j]? = some i ∧ ex[i]? = some q ∧ i < ex.length := by
    intro j q hq
    have h := congrArg (fun l : List (Option (Nat × va_E)) => l[j]?) hs
    simp only [List.getElem?_map, hq, Option.map_some] at h
    cases hi : is[j]? with
    | none => rw [hi] at h; cases h
    | some i =>
      rw [hi] at h
      have h2 : ex[i]? = some q := Option.some.inj h
      exact ⟨i, rfl, h2, (List.getElem?_eq_some_iff.mp h2).1⟩
  have nd : ∀ (i j a : Nat), is[i]? = some a → is[j]? = some a → i = j := fun i j a h1 h2 => va_nd_inj is hn i j a h1 h2
  intro H locs ls hP hD hS hl
  have at1 : ∀ (j : Nat) (q : Nat × va_E), ex[j]? = some q → (ex ++ wb)[j]? = some q := fun j q h => by
    rw [List.getElem?_append_left (List.getElem?_eq_some_iff.mp h).1]; exact h
  have at2 : ∀ (j : Nat) (q : Nat × va_E), wb[j]? = some q → (ex ++ wb)[ex.length + j]? = some q := fun j q h => by
    rw [List.getElem?_append_right (by omega), show ex.length + j - ex.length = j by omega]; exact h
  have src : ∀ (j : Nat) (q : Nat × va_E), (ex2 ++ wb)[j]? = some q → (∃ i, is[j]? = some i ∧ ex[i]? = some q ∧ i < ex.length ∧ j < ex2.length) ∨ (ex2.length ≤ j ∧ wb[j - ex2.length]? = some q) := by
    intro j q h
    by_cases hj : j < ex2.length
    · rw [List.getElem?_append_left hj] at h
      obtain ⟨i, h1, h2, h3⟩ := key j q h
      exact Or.inl ⟨i, h1, h2, h3, hj⟩
    · rw [List.getElem?_append_right (by omega)] at h
      exact Or.inr ⟨by omega, h⟩
  refine k H locs ls (fun j q h => ?_) ⟨fun i j x y hx hy hxy => ?_, fun j q h => ?_⟩ hS hl
  · rcases src j q h with ⟨i, h1, h2, h3, h4⟩ | ⟨h1, h2⟩
    · exact hP i q (at1 i q h2)
    · exact hP _ q (at2 _ q h2)
  · rcases src i x hx with ⟨i1, g1, g2, g3, g4⟩ | ⟨g1, g2⟩ <;> rcases src j y hy with ⟨j1, f1, f2, f3, f4⟩ | ⟨f1, f2⟩
    · have e := hD.1 i1 j1 x y (at1 _ _ g2) (at1 _ _ f2) hxy
      subst e
      exact nd i j i1 g1 f1
    · have e := hD.1 _ _ x y (at1 _ _ g2) (at2 _ _ f2) hxy
      omega
    · have e := hD.1 _ _ x y (at2 _ _ g2) (at1 _ _ f2) hxy
      omega
    · have e := hD.1 _ _ x y (at2 _ _ g2) (at2 _ _ f2) hxy
      omega
  · rcases src j q h with ⟨i, h1, h2, h3, h4⟩ | ⟨h1, h2⟩
    · exact hD.2 i q (at1 i q h2)
    · exact hD.2 _ q (at2 _ q h2)
theorem vi_swp {w2 w3 : va_W} (k : vV p l e R s m args below meth c A D nL kc ks Q ((w1 ++ w3) ++ w2) pc lv st) : vV p l e R s m args below meth c A D nL kc ks Q ((w1 ++ w2) ++ w3) pc lv st := by
  have key : ∀ (a b c : va_W) (j : Nat) (q : Nat × va_E), ((a ++ b) ++ c)[j]? = some q → ((a ++ c) ++ b)[if j < a.length then j else if j < a.length + b.length then j + c.length else j - b.length]? = some q := by
    intro a b c j q h
    by_cases h1 : j < a.length
    · rw [if_pos h1]
      rw [List.append_assoc, List.getElem?_append_left h1] at h
      rw [List.append_assoc, List.getElem?_append_left h1]
      exact h
    · rw [if_neg h1]
      by_cases h2 : j < a.length + b.length
      · rw [if_pos h2]
        rw [List.getElem?_append_left (by simp; omega), List.getElem?_append_right (by omega)] at h
        rw [List.getElem?_append_right (by simp; omega)]
        rw [← h]
        congr 1
        simp
        omega
      · rw [if_neg h2]
        rw [List.getElem?_append_right (by simp; omega)] at h
        have hl := (List.getElem?_eq_some_iff.mp h).1
        simp at hl
        rw [List.getElem?_append_left (by simp; omega), List.getElem?_append_right (by omega)]
        rw [← h]
        congr 1
        simp
        omega
  intro H locs ls hP hD hS hl
  refine k H locs ls (fun j q h => hP _ q (key _ _ _ j q h)) ⟨fun i j x y hx hy hxy => ?_, fun j q h => hD.2 _ q (key _ _ _ j q h)⟩ hS hl
  have e := hD.1 _ _ x y (key _ _ _ i x hx) (key _ _ _ j y hy) hxy
  have hi := (List.getElem?_eq_some_iff.mp hx).1
  have hj := (List.getElem?_eq_some_iff.mp hy).1
  simp at hi hj
  revert e
  split <;> split <;> (try split) <;> (try split) <;> omega
theorem vi_kk (h1 : kc = kc1) (h2 : ks = ks1) (k : vV p l e R s m args below meth c A D nL kc1 ks1 Q w pc lv st) : vV p l e R s m args below meth c A D nL kc ks Q w pc lv st := by subst h1; subst h2; exact k
/-- a call: what it runs, from the part wc of the world -/
def gRun (p : Program) (l : Launch) (e : Env) (R : Room) (s : State) (m : MethodId) (args : Array Value) (below : List Frame) (meth : Method) (c : Code) (A : Nat → Prop) (D : va_G) (nL kc ks mc ms : Nat) (w wc : va_W) (pc : Nat) (lv : List (Nat × Value)) (st rest : List Value) (av : Array Value) (Qk : (Nat → Prop) → Array Value → State → Outcome → State → Prop) : Prop :=
  ∀ (H : Heap) (locs : List Loc) (ls : Array Slot), va_P D vwCl w H → va_D A w → va_S A s.heap H locs → lv_has ls nL lv → va_Run p l e R s m args below meth c H locs kc ks mc ms (F0 m pc ls st) rest (Qk (va_A wc H.size) av) (va_A wc H.size)
theorem g_runS (C : vC E p l s m args meth c A D tys cc nL own) {y : MethodName} {cd : ByteArray} {mL : Nat} {rt : Option FieldType} {fr lo mc ms : Nat} {As rest : List Value} {Qk : (Nat → Prop) → Array Value → State → Outcome → State → Prop} {idx : Nat} (hM : vG E l y cd mL rt fr lo mc ms D tys As wc Qk) (n : Nat) (hn : As.length = n) (hcode : Cond.code y cd mL rt ∈ wsL_law) (hlink : Cond.methodLink own idx y ∈ wsL_law) (hstat : Cond.static y ∈ wsL_law) (hini : Cond.initialized y.cls ∈ wsL_law) (hd : y.cls ≠ "java/lang/invoke/MethodHandle" ∧ y.cls ≠ "java/lang/invoke/VarHandle" ∧ (parseMethodDescriptor y.desc).map (fun d => d.parameters.length) = some n) (hR : fr + 1 ≤ R.frames ∧ 8 + (mL + 11) + lo ≤ R.locals) (hks : kc + mc ≤ R.cells ∧ ks + ms ≤ R.slots) (hst : st = As.reverse ++ rest) (hcat : (rest.map fun v => v.category).sum ≤ 8) (hdg : decode cc pc = .ok (.invokestatic idx, 3)) (hw : w = w1 ++ wc) : gRun p l e R s m args below meth c A D nL kc ks mc ms w wc pc lv st rest As.toArray Qk := by
  intro H locs ls hP hD hS hl
  obtain ⟨hkept, hnar, hmov, hsam⟩ := C.2.2.2.2.2.2.2.2.1
  have hE0 := C.2.2.2.2.2.2.2.2.2
  have hw2 : w = w1 ++ (wc ++ []) := by rw [hw]; simp
  have hF := vfree hw2 hD hS C.2.2.2.2.2.2.1
  refine va_runS (As := As) (rest := rest) ⟨C.1, C.2.1, C.2.2.1, C.2.2.2.1, C.2.2.2.2.1⟩ (hM H.size) ⟨callB_of n C.2.2.2.2.1 (vT_in hcode) rfl rfl rfl (C.2.2.2.2.1 _ hini) (C.2.2.2.2.1 _ hlink) hd hR, C.2.2.2.2.1 _ hstat⟩ ⟨fun a U g mk q => ?_, fun U hU hW => ?_⟩ rfl hn hl.1 hst (lv_room hcat) hdg hks
  · obtain ⟨q0, q1, qP, qK, qD, qE⟩ := q
    exact ⟨q0, q1, qP, va_K.moved (u := U) (U := U.calling g mk a) (Vm.Alike.refl U.vm) qK, qD, hsam _ U (U.calling g mk a) _ rfl qE⟩
  · refine ⟨rfl, by rw [hU], by rw [hU]; exact vsubP hw2 hP, va_K.moved hW.alike C.2.2.2.2.2.1, vsubD hw2 hD, ?_⟩
    rw [hU]
    exact hmov _ s U _ hW (hnar _ _ _ _ (hkept _ _ _ _ hE0 hS.2.1) hF)
theorem g_runI (C : vC E p l s m args meth c A D tys cc nL own) {y : MethodName} {cd : ByteArray} {mL : Nat} {fr lo mc ms : Nat} {As rest : List Value} {Qk : (Nat → Prop) → Array Value → State → Outcome → State → Prop} {idx : Nat} {b : Nat} (hM : vG E l y cd mL none fr lo mc ms D tys (.ref b :: As) wc Qk) (n : Nat) (hn : As.length = n) (hcode : Cond.code y cd mL none ∈ wsL_law) (hlink : Cond.methodLink own idx y ∈ wsL_law) (hinst : Cond.instanceMethod y ∈ wsL_law) (hyn : y.name = "<init>") (hini : Cond.initialized y.cls ∈ wsL_law) (hd : y.cls ≠ "java/lang/invoke/MethodHandle" ∧ y.cls ≠ "java/lang/invoke/VarHandle" ∧ (parseMethodDescriptor y.desc).map (fun d => d.parameters.length) = some n) (hR : fr + 1 ≤ R.frames ∧ 8 + (mL + 11) + lo ≤ R.locals) (hks : kc + mc ≤ R.cells ∧ ks + ms ≤ R.slots) (hst : st = As.reverse ++ .ref b :: rest) (hcat : (rest.map fun v => v.category).sum ≤ 8) (hdg : decode cc pc = .ok (.invokespecial idx, 3)) (hw : w = w1 ++ wc) : gRun p l e R s m args below meth c A D nL kc ks mc ms w wc pc lv st rest (Value.ref b :: As).toArray Qk := by
  intro H locs ls hP hD hS hl
  obtain ⟨hkept, hnar, hmov, hsam⟩ := C.2.2.2.2.2.2.2.2.1
  have hE0 := C.2.2.2.2.2.2.2.2.2
  have hw2 : w = w1 ++ (wc ++ []) := by rw [hw]; simp
  have hF := vfree hw2 hD hS C.2.2.2.2.2.2.1
  refine va_runI (As := As) (rest := rest) ⟨C.1, C.2.1, C.2.2.1, C.2.2.2.1, C.2.2.2.2.1⟩ (hM H.size) ⟨callB_of n C.2.2.2.2.1 (vT_in hcode) rfl rfl rfl (C.2.2.2.2.1 _ hini) (C.2.2.2.2.1 _ hlink) hd hR, hyn, C.2.2.2.2.1 _ hinst⟩ ⟨fun a U g mk q => ?_, fun U hU hW => ?_⟩ rfl hn hl.1 hst (lv_room hcat) hdg hks
  · obtain ⟨q0, q1, qP, qK, qD, qE⟩ := q
    exact ⟨q0, q1, qP, va_K.moved (u := U) (U := U.calling g mk a) (Vm.Alike.refl U.vm) qK, qD, hsam _ U (U.calling g mk a) _ rfl qE⟩
  · refine ⟨rfl, by rw [hU], by rw [hU]; exact vsubP hw2 hP, va_K.moved hW.alike C.2.2.2.2.2.1, vsubD hw2 hD, ?_⟩
    rw [hU]
    exact hmov _ s U _ hW (hnar _ _ _ _ (hkept _ _ _ _ hE0 hS.2.1) hF)
theorem g_runV (C : vC E p l s m args meth c A D tys cc nL own) {y : MethodName} {cd : ByteArray} {mL : Nat} {rt : Option FieldType} {fr lo mc ms : Nat} {As rest : List Value} {Qk : (Nat → Prop) → Array Value → State → Outcome → State → Prop} {idx : Nat} {b ci N : Nat} {T : u_T} {fs : List Value} (hM : vG E l y cd mL rt fr lo mc ms D tys (.ref b :: As) wc Qk) (n : Nat) (hn : As.length = n) (hcode : Cond.code y cd mL rt ∈ wsL_law) (hlink : Cond.methodLink own idx y ∈ wsL_law) (hinst : Cond.instanceMethod y ∈ wsL_law) (hsel : Cond.selects y.cls y y ∈ wsL_law) (hini : Cond.initialized y.cls ∈ wsL_law) (hd : y.cls ≠ "java/lang/invoke/MethodHandle" ∧ y.cls ≠ "java/lang/invoke/VarHandle" ∧ (parseMethodDescriptor y.desc).map (fun d => d.parameters.length) = some n) (hR : fr + 1 ≤ R.frames ∧ 8 + (mL + 11) + lo ≤ R.locals) (hks : kc + mc ≤ R.cells ∧ ks + ms ≤ R.slots) (q0 : Nat) (he : w[q0]? = some (b, .inr (ci, fs))) (hc : vwCl[ci]? = some (y.cls, T, N)) (hst : st = As.reverse ++ .ref b :: rest) (hcat : (rest.map fun v => v.category).sum ≤ 8) (hdg : decode cc pc = .ok (.invokevirtual idx, 3)) (hw : w = w1 ++ wc) : gRun p l e R s m args below meth c A D nL kc ks mc ms w wc pc lv st rest (Value.ref b :: As).toArray Qk := by
  intro H locs ls hP hD hS hl
  obtain ⟨hkept, hnar, hmov, hsam⟩ := C.2.2.2.2.2.2.2.2.1
  have hE0 := C.2.2.2.2.2.2.2.2.2
  have hw2 : w = w1 ++ (wc ++ []) := by rw [hw]; simp
  have hF := vfree hw2 hD hS C.2.2.2.2.2.2.1
  refine va_runV (As := As) (rest := rest) ⟨C.1, C.2.1, C.2.2.1, C.2.2.2.1, C.2.2.2.2.1⟩ (hM H.size) ⟨callB_of n C.2.2.2.2.1 (vT_in hcode) rfl rfl rfl (C.2.2.2.2.1 _ hini) (C.2.2.2.2.1 _ hlink) hd hR, C.2.2.2.2.1 _ hinst, C.2.2.2.2.1 _ hsel⟩ ⟨fun a U g mk q => ?_, va_recv C.2.2.2.2.2.1 hP hc he, fun U hU hW => ?_⟩ rfl hn hl.1 hst (lv_room hcat) hdg hks
  · obtain ⟨q0, q1, qP, qK, qD, qE⟩ := q
    exact ⟨q0, q1, qP, va_K.moved (u := U) (U := U.calling g mk a) (Vm.Alike.refl U.vm) qK, qD, hsam _ U (U.calling g mk a) _ rfl qE⟩
  · refine ⟨rfl, by rw [hU], by rw [hU]; exact vsubP hw2 hP, va_K.moved hW.alike C.2.2.2.2.2.1, vsubD hw2 hD, ?_⟩
    rw [hU]
    exact hmov _ s U _ hW (hnar _ _ _ _ (hkept _ _ _ _ hE0 hS.2.1) hF)
theorem g_runK (C : vC E p l s m args meth c A D tys cc nL own) {y : MethodName} {cd : ByteArray} {mL : Nat} {rt : Option FieldType} {fr lo mc ms : Nat} {As rest : List Value} {Qk : (Nat → Prop) → Array Value → State → Outcome → State → Prop} {idx : Nat} {b : Nat} (hM : vG E l y cd mL rt fr lo mc ms D tys (.ref b :: As) wc Qk) (n : Nat) (hn : As.length = n) (hcode : Cond.code y cd mL rt ∈ wsL_law) (hlink : Cond.methodLink own idx y ∈ wsL_law) (hinst : Cond.instanceMethod y ∈ wsL_law) (hsel : Cond.selects y.cls y y ∈ wsL_law) (hini : Cond.initialized y.cls ∈ wsL_law) (hd : y.cls ≠ "java/lang/invoke/MethodHandle" ∧ y.cls ≠ "java/lang/invoke/VarHandle" ∧ (parseMethodDescriptor y.desc).map (fun d => d.parameters.length) = some n) (hR : fr + 1 ≤ R.frames ∧ 8 + (mL + 11) + lo ≤ R.locals) (hks : kc + mc ≤ R.cells ∧ ks + ms ≤ R.slots) (hrec : ∀ (H : Heap) (locs : List Loc), va_S A s.heap H locs → ∃ cellB : Cell, H[b]? = some cellB ∧ cellB.vm.isStatics = false ∧ s.vm.findClass y.cls = some cellB.cls) (hst : st = As.reverse ++ .ref b :: rest) (hcat : (rest.map fun v => v.category).sum ≤ 8) (hdg : decode cc pc = .ok (.invokevirtual idx, 3)) (hw : w = w1 ++ wc) : gRun p l e R s m args below meth c A D nL kc ks mc ms w wc pc lv st rest (Value.ref b :: As).toArray Qk := by
  intro H locs ls hP hD hS hl
  obtain ⟨hkept, hnar, hmov, hsam⟩ := C.2.2.2.2.2.2.2.2.1
  have hE0 := C.2.2.2.2.2.2.2.2.2
  have hw2 : w = w1 ++ (wc ++ []) := by rw [hw]; simp
  have hF := vfree hw2 hD hS C.2.2.2.2.2.2.1
  refine va_runV (As := As) (rest := rest) ⟨C.1, C.2.1, C.2.2.1, C.2.2.2.1, C.2.2.2.2.1⟩ (hM H.size) ⟨callB_of n C.2.2.2.2.1 (vT_in hcode) rfl rfl rfl (C.2.2.2.2.1 _ hini) (C.2.2.2.2.1 _ hlink) hd hR, C.2.2.2.2.1 _ hinst, C.2.2.2.2.1 _ hsel⟩ ⟨fun a U g mk q => ?_, hrec _ _ hS, fun U hU hW => ?_⟩ rfl hn hl.1 hst (lv_room hcat) hdg hks
  · obtain ⟨q0, q1, qP, qK, qD, qE⟩ := q
    exact ⟨q0, q1, qP, va_K.moved (u := U) (U := U.calling g mk a) (Vm.Alike.refl U.vm) qK, qD, hsam _ U (U.calling g mk a) _ rfl qE⟩
  · refine ⟨rfl, by rw [hU], by rw [hU]; exact vsubP hw2 hP, va_K.moved hW.alike C.2.2.2.2.2.1, vsubD hw2 hD, ?_⟩
    rw [hU]
    exact hmov _ s U _ hW (hnar _ _ _ _ (hkept _ _ _ _ hE0 hS.2.1) hF)
theorem g_runU (C : vC E p l s m args meth c A D tys cc nL own) {y : MethodName} {cd : ByteArray} {mL : Nat} {rt : Option FieldType} {fr lo mc ms : Nat} {As rest : List Value} {Qk : (Nat → Prop) → Array Value → State → Outcome → State → Prop} {idx : Nat} {x : MethodName} {owner Cn : String} {b ci N : Nat} {T : u_T} {fs : List Value} (hM : vG E l y cd mL rt fr lo mc ms D tys (.ref b :: As) wc Qk) (n : Nat) (hn : As.length = n) (hcode : Cond.code y cd mL rt ∈ wsL_law) (hlink : Cond.methodLink own idx x ∈ wsL_law) (hinst : Cond.instanceMethod y ∈ wsL_law) (hsame : Cond.sameMethod x.cls owner x.name x.desc ∈ wsL_law) (hdecl : va_Decl s ⟨owner, x.name, x.desc⟩) (hsel : (Cond.selects Cn x y).before args s = true) (hini : Cond.initialized y.cls ∈ wsL_law) (hdo : owner ≠ "java/lang/invoke/MethodHandle" ∧ owner ≠ "java/lang/invoke/VarHandle") (hdn : (parseMethodDescriptor x.desc).map (fun d => d.parameters.length) = some n) (hR : fr + 1 ≤ R.frames ∧ 8 + (mL + 11) + lo ≤ R.locals) (hks : kc + mc ≤ R.cells ∧ ks + ms ≤ R.slots) (q0 : Nat) (he : w[q0]? = some (b, .inr (ci, fs))) (hc : vwCl[ci]? = some (Cn, T, N)) (hst : st = As.reverse ++ .ref b :: rest) (hcat : (rest.map fun v => v.category).sum ≤ 8) (hdg : decode cc pc = .ok (.invokevirtual idx, 3)) (hw : w = w1 ++ wc) : gRun p l e R s m args below meth c A D nL kc ks mc ms w wc pc lv st rest (Value.ref b :: As).toArray Qk := by
  intro H locs ls hP hD hS hl
  obtain ⟨hkept, hnar, hmov, hsam⟩ := C.2.2.2.2.2.2.2.2.1
  have hE0 := C.2.2.2.2.2.2.2.2.2
  have hw2 : w = w1 ++ (wc ++ []) := by rw [hw]; simp
  have hF := vfree hw2 hD hS C.2.2.2.2.2.2.1
  refine va_runU (As := As) (rest := rest) (C := Cn) (owner := owner) (x := x) (n := n) ⟨C.1, C.2.1, C.2.2.1, C.2.2.2.1, C.2.2.2.2.1⟩ (hM H.size) ⟨⟨rfl, rfl, hR.1, hR.2, pay_in C.2.2.2.2.1 (vT_in hcode), List.mem_cons_self⟩, C.2.2.2.2.1 _ hcode, C.2.2.2.2.1 _ hini, hdo, fun sig h => ?_, C.2.2.2.2.1 _ hlink, C.2.2.2.2.1 _ hsame, hdecl, hsel, C.2.2.2.2.1 _ hinst⟩ ⟨fun a U g mk q => ?_, va_recv C.2.2.2.2.2.1 hP hc he, fun U hU hW => ?_⟩ rfl hn hl.1 hst (lv_room hcat) hdg hks
  · rw [h] at hdn
    exact (Option.some.inj hdn).symm
  · obtain ⟨q0, q1, qP, qK, qD, qE⟩ := q
    exact ⟨q0, q1, qP, va_K.moved (u := U) (U := U.calling g mk a) (Vm.Alike.refl U.vm) qK, qD, hsam _ U (U.calling g mk a) _ rfl qE⟩
  · refine ⟨rfl, by rw [hU], by rw [hU]; exact vsubP hw2 hP, va_K.moved hW.alike C.2.2.2.2.2.1, vsubD hw2 hD, ?_⟩
    rw [hU]
    exact hmov _ s U _ hW (hnar _ _ _ _ (hkept _ _ _ _ hE0 hS.2.1) hF)
theorem g_runSU (C : vC E p l s m args meth c A D tys cc nL own) {y : MethodName} {cd : ByteArray} {mL : Nat} {rt : Option FieldType} {fr lo mc ms : Nat} {As rest : List Value} {Qk : (Nat → Prop) → Array Value → State → Outcome → State → Prop} {idx : Nat} {Cn : String} {b ci N : Nat} {T : u_T} {fs : List Value} (hM : vG E l y cd mL rt fr lo mc ms D tys (.ref b :: As) wc Qk) (n : Nat) (hn : As.length = n) (hcode : Cond.code y cd mL rt ∈ wsL_law) (hlink : Cond.methodLink own idx y ∈ wsL_law) (hinst : Cond.instanceMethod y ∈ wsL_law) (hsame : Cond.sameMethod y.cls y.cls y.name y.desc ∈ wsL_law) (hsup : Cond.superclass own y.cls ∈ wsL_law) (hini : Cond.initialized y.cls ∈ wsL_law) (hno : y.name ≠ "<init>") (hdn : (parseMethodDescriptor y.desc).map (fun d => d.parameters.length) = some n) (hR : fr + 1 ≤ R.frames ∧ 8 + (mL + 11) + lo ≤ R.locals) (hks : kc + mc ≤ R.cells ∧ ks + ms ≤ R.slots) (q0 : Nat) (he : w[q0]? = some (b, .inr (ci, fs))) (hc : vwCl[ci]? = some (Cn, T, N)) (hown : Cn = own) (hst : st = As.reverse ++ .ref b :: rest) (hcat : (rest.map fun v => v.category).sum ≤ 8) (hdg : decode cc pc = .ok (.invokespecial idx, 3)) (hw : w = w1 ++ wc) : gRun p l e R s m args below meth c A D nL kc ks mc ms w wc pc lv st rest (Value.ref b :: As).toArray Qk := by
  intro H locs ls hP hD hS hl
  obtain ⟨hkept, hnar, hmov, hsam⟩ := C.2.2.2.2.2.2.2.2.1
  have hE0 := C.2.2.2.2.2.2.2.2.2
  have hw2 : w = w1 ++ (wc ++ []) := by rw [hw]; simp
  have hF := vfree hw2 hD hS C.2.2.2.2.2.2.1
  refine va_runSU (As := As) (rest := rest) (n := n) (C.2.2.2.2.2.1.1 ci _ hc).2 ⟨C.1, C.2.1, C.2.2.1, C.2.2.2.1, C.2.2.2.2.1⟩ (hM H.size) ⟨⟨rfl, rfl, hR.1, hR.2, pay_in C.2.2.2.2.1 (vT_in hcode), List.mem_cons_self⟩, C.2.2.2.2.1 _ hlink, C.2.2.2.2.1 _ hsame, C.2.2.2.2.1 _ hsup, C.2.2.2.2.1 _ hinst, C.2.2.2.2.1 _ hini, C.2.2.2.2.1 _ hcode, hno, fun sig h => ?_⟩ ⟨fun a U g mk q => ?_, va_recv C.2.2.2.2.2.1 hP hc he, fun U hU hW => ?_⟩ rfl hn hl.1 hst (lv_room hcat) hdg hks
  · rw [h] at hdn
    exact (Option.some.inj hdn).symm
  · obtain ⟨q0, q1, qP, qK, qD, qE⟩ := q
    exact ⟨q0, q1, qP, va_K.moved (u := U) (U := U.calling g mk a) (Vm.Alike.refl U.vm) qK, qD, hsam _ U (U.calling g mk a) _ rfl qE⟩
  · refine ⟨rfl, by rw [hU], by rw [hU]; exact vsubP hw2 hP, va_K.moved hW.alike C.2.2.2.2.2.1, vsubD hw2 hD, ?_⟩
    rw [hU]
    exact hmov _ s U _ hW (hnar _ _ _ _ (hkept _ _ _ _ hE0 hS.2.1) hF)
theorem g_ci (C : vC E p l s m args meth c A D tys cc nL own) {mc ms : Nat} {av : Array Value} {rest : List Value} {WQ : (Nat → Nat) → va_W} {r : Int32} (hrun : gRun p l e R s m args below meth c A D nL kc ks mc ms w wc pc lv st rest av (gQi D WQ r)) (hw : w = w1 ++ wc) (k : ∀ q : Nat → Nat, vV p l e R s m args below meth c A D nL (kc + mc) (ks + ms) Q (w1 ++ WQ q) (pc + 3) lv (.int r :: rest)) : vV p l e R s m args below meth c A D nL kc ks Q w pc lv st := by
  intro H locs ls hP hD hS hl
  have hw2 : w = w1 ++ (wc ++ []) := by rw [hw]; simp
  have hF := vfree hw2 hD hS C.2.2.2.2.2.2.1
  refine va_calli (hrun H locs ls hP hD hS hl) hS (fun q _ h => hF q h) hF (fun r1 q t H1 locs1 ht hvm hr hB hz hk hS1 => ?_)
  obtain ⟨hB1, hB2⟩ := hB; subst hr; rw [ht] at hB1
  subst hw
  obtain ⟨hP1, hD1⟩ := vjn hP hD hk hF hB1 hB2
  exact k q H1 locs1 ls hP1 hD1 hS1 hl
theorem g_cv (C : vC E p l s m args meth c A D tys cc nL own) {mc ms : Nat} {av : Array Value} {rest : List Value} {WQ : (Nat → Nat) → va_W}  (hrun : gRun p l e R s m args below meth c A D nL kc ks mc ms w wc pc lv st rest av (gQv D WQ)) (hw : w = w1 ++ wc) (k : ∀ q : Nat → Nat, vV p l e R s m args below meth c A D nL (kc + mc) (ks + ms) Q (w1 ++ WQ q) (pc + 3) lv rest) : vV p l e R s m args below meth c A D nL kc ks Q w pc lv st := by
  intro H locs ls hP hD hS hl
  have hw2 : w = w1 ++ (wc ++ []) := by rw [hw]; simp
  have hF := vfree hw2 hD hS C.2.2.2.2.2.2.1
  refine va_callv (hrun H locs ls hP hD hS hl) hS (fun q _ h => hF q h) hF (fun q t H1 locs1 ht hvm hr hB hz hk hS1 => ?_)
  obtain ⟨hB1, hB2⟩ := hB; rw [ht] at hB1
  subst hw
  obtain ⟨hP1, hD1⟩ := vjn hP hD hk hF hB1 hB2
  exact k q H1 locs1 ls hP1 hD1 hS1 hl
theorem g_cr (C : vC E p l s m args meth c A D tys cc nL own) {mc ms : Nat} {av : Array Value} {rest : List Value} {WQ : (Nat → Nat) → va_W} {ra : (Nat → Nat) → Nat} (hrun : gRun p l e R s m args below meth c A D nL kc ks mc ms w wc pc lv st rest av (gQr D WQ ra)) (hw : w = w1 ++ wc) (k : ∀ q : Nat → Nat, vV p l e R s m args below meth c A D nL (kc + mc) (ks + ms) Q (w1 ++ WQ q) (pc + 3) lv (.ref (ra q) :: rest)) : vV p l e R s m args below meth c A D nL kc ks Q w pc lv st := by
  intro H locs ls hP hD hS hl
  have hw2 : w = w1 ++ (wc ++ []) := by rw [hw]; simp
  have hF := vfree hw2 hD hS C.2.2.2.2.2.2.1
  refine va_callr (hrun H locs ls hP hD hS hl) hS (fun q _ h => hF q h) hF (fun q a t H1 locs1 ht hvm hr hB hz hk hS1 => ?_)
  obtain ⟨ha, hB1, hB2⟩ := hB; subst ha; rw [ht] at hB1
  subst hw
  obtain ⟨hP1, hD1⟩ := vjn hP hD hk hF hB1 hB2
  exact k q H1 locs1 ls hP1 hD1 hS1 hl
theorem g_selPriv {Cn : String} {y : MethodName} {n : Nat} (hy : y.cls ≠ "java/lang/invoke/MethodHandle" ∧ y.cls ≠ "java/lang/invoke/VarHandle") (hins : (Cond.instantiable Cn n).before args s = true) (hpriv : (Cond.privateMethod y).before args s = true) (hinst : (Cond.instanceMethod y).before args s = true) (hsame : (Cond.sameMethod y.cls y.cls y.name y.desc).before args s = true) : (Cond.selects Cn y y).before args s = true := by
  obtain ⟨c, k, hc, hk, -, hniab, -, -⟩ := Cond.instantiable_spec hins
  have hni : k.isInterface = false := (Bool.or_eq_false_iff.mp hniab).1
  obtain ⟨mk, methM, hnamed, hmethM, -, -⟩ := Cond.instanceMethod_spec hinst
  have hfound : s.methodFound? y.cls y.name y.desc = some mk := State.methodFound?_of_named hnamed hy
  have hsel : selectMethod {} s.vm c mk = .method mk := selectMethod_private hmethM (Cond.privateMethod_at hpriv mk methM hnamed hmethM)
  have hfc : s.vm.findClass y.cls = some mk.cls := findClass_of_methodNamed hnamed
  have hn2 : s.methodNamed? ⟨y.cls, y.name, y.desc⟩ = some mk := hnamed
  have hany : Option.any (fun x : Class => !x.isInterface) s.vm.classes[mk.cls]? = true := by
    simpa [Cond.before, Cond.holds, Cond.value, hfc, hfound, hn2] using hsame
  simp only [Cond.before, Cond.holds, Cond.value, hc, hfound, hnamed, hsel, hk]
  simpa using hany
theorem vi_bald (C : vC E p l s m args meth c A D tys cc nL own) {a : Nat} {cA : ClassId} {n : Nat} {f : Nat → Int32} {i : Int32} (q0 t0 : Nat) (ha : w[q0]? = some (a, .inl (cA, n, .inl f))) (ht : tys[t0]? = some (cA, .byte)) (hin : ¬ (i < 0 ∨ n ≤ i.toNatClampNeg)) (hd : decode cc pc = .ok (.baload, 1)) (k : vV p l e R s m args below meth c A D nL kc ks Q w (pc + 1) lv (.int (f i.toNatClampNeg) :: st)) : vV p l e R s m args below meth c A D nL kc ks Q w pc lv (.int i :: .ref a :: st) := fun H locs ls hP hD hS hl => va_bald C.1 C.2.1 C.2.2.2.2.2.1 hP q0 t0 ha ht hin hd (k H locs ls hP hD hS hl)
theorem vi_bast (C : vC E p l s m args meth c A D tys cc nL own) {a : Nat} {cA : ClassId} {n : Nat} {f : Nat → Int32} {i : Int32} {x : Int32} {w2 : va_W} (q0 t0 : Nat) (ha : w[q0]? = some (a, .inl (cA, n, .inl f))) (ht : tys[t0]? = some (cA, .byte)) (hin : ¬ (i < 0 ∨ n ≤ i.toNatClampNeg)) (hw : w.set q0 (a, .inl (cA, n, .inl (upd f i.toNatClampNeg (vp_nar .byte x)))) = w2) (hd : decode cc pc = .ok (.bastore, 1)) (k : vV p l e R s m args below meth c A D nL kc ks Q w2 (pc + 1) lv st) : vV p l e R s m args below meth c A D nL kc ks Q w pc lv (.int x :: .int i :: .ref a :: st) := fun H locs ls hP hD hS hl => va_bast C.1 C.2.1 C.2.2.2.2.2.1 hP hD hS q0 t0 ha ht hin hd (fun H1 locs1 hP1 hD1 hS1 => k H1 locs1 ls (by rw [← hw]; exact hP1) (by rw [← hw]; exact hD1) hS1 hl)
theorem vi_zald (C : vC E p l s m args meth c A D tys cc nL own) {a : Nat} {cA : ClassId} {n : Nat} {f : Nat → Int32} {i : Int32} (q0 t0 : Nat) (ha : w[q0]? = some (a, .inl (cA, n, .inl f))) (ht : tys[t0]? = some (cA, .boolean)) (hin : ¬ (i < 0 ∨ n ≤ i.toNatClampNeg)) (hd : decode cc pc = .ok (.baload, 1)) (k : vV p l e R s m args below meth c A D nL kc ks Q w (pc + 1) lv (.int (f i.toNatClampNeg) :: st)) : vV p l e R s m args below meth c A D nL kc ks Q w pc lv (.int i :: .ref a :: st) := fun H locs ls hP hD hS hl => va_zald C.1 C.2.1 C.2.2.2.2.2.1 hP q0 t0 ha ht hin hd (k H locs ls hP hD hS hl)
theorem vi_zast (C : vC E p l s m args meth c A D tys cc nL own) {a : Nat} {cA : ClassId} {n : Nat} {f : Nat → Int32} {i : Int32} {x : Int32} {w2 : va_W} (q0 t0 : Nat) (ha : w[q0]? = some (a, .inl (cA, n, .inl f))) (ht : tys[t0]? = some (cA, .boolean)) (hin : ¬ (i < 0 ∨ n ≤ i.toNatClampNeg)) (hw : w.set q0 (a, .inl (cA, n, .inl (upd f i.toNatClampNeg (vp_nar .boolean x)))) = w2) (hd : decode cc pc = .ok (.bastore, 1)) (k : vV p l e R s m args below meth c A D nL kc ks Q w2 (pc + 1) lv st) : vV p l e R s m args below meth c A D nL kc ks Q w pc lv (.int x :: .int i :: .ref a :: st) := fun H locs ls hP hD hS hl => va_zast C.1 C.2.1 C.2.2.2.2.2.1 hP hD hS q0 t0 ha ht hin hd (fun H1 locs1 hP1 hD1 hS1 => k H1 locs1 ls (by rw [← hw]; exact hP1) (by rw [← hw]; exact hD1) hS1 hl)
theorem vi_i2b (C : vC E p l s m args meth c A D tys cc nL own) {x : Int32} (hd : decode cc pc = .ok (.i2b, 1)) (k : vV p l e R s m args below meth c A D nL kc ks Q w (pc + 1) lv (.int x.toInt8.toInt32 :: st)) : vV p l e R s m args below meth c A D nL kc ks Q w pc lv (.int x :: st) := fun H locs ls hP hD hS hl => lv_i2b C.1 C.2.1 hd rfl (k H locs ls hP hD hS hl)
theorem vi_dup_x1 (C : vC E p l s m args meth c A D tys cc nL own) {va vb : Value} (hd : decode cc pc = .ok (.dup_x1, 1)) (hva : va.category = 1) (hvb : vb.category = 1) (k : vV p l e R s m args below meth c A D nL kc ks Q w (pc + 1) lv (va :: vb :: va :: st)) : vV p l e R s m args below meth c A D nL kc ks Q w pc lv (va :: vb :: st) := fun H locs ls hP hD hS hl => lv_dup_x1 C.1 C.2.1 hd hva hvb (k H locs ls hP hD hS hl)
theorem vi_copyB (C : vC E p l s m args meth c A D tys cc nL own) {idx n0 n1 a a0 : Nat} {c0 : ClassId} {f g : Nat → Int32} {w2 : va_W} {sp dp n : Int32} (q0 q1 t0 : Nat) (hlink : Cond.methodLink own idx arraycopyName ∈ wsL_law) (hnat : Cond.native arraycopyName ∈ wsL_law) (hstat : Cond.static arraycopyName ∈ wsL_law) (hini : Cond.initialized "java/lang/System" ∈ wsL_law) (ha0 : w[q0]? = some (a0, .inl (c0, n0, .inl f))) (ha1 : w[q1]? = some (a, .inl (c0, n1, .inl g))) (ht : tys[t0]? = some (c0, .byte)) (hc : (¬ sp < 0 ∧ ¬ dp < 0 ∧ ¬ n < 0) ∧ sp.toNatClampNeg + n.toNatClampNeg ≤ n0 ∧ dp.toNatClampNeg + n.toNatClampNeg ≤ n1 ∧ ∀ i : Nat, i < n.toNatClampNeg → fits .byte (.int (f (sp.toNatClampNeg + i))) = true) (hw : w.set q1 (a, .inl (c0, n1, .inl (va_cpy f g sp.toNatClampNeg dp.toNatClampNeg n.toNatClampNeg))) = w2) (hfr : 1 ≤ R.frames) (hlo : (st.map fun v => v.category).sum + (nativeFrameWords "java/lang/System" "arraycopy" 5 + 11) ≤ R.locals) (hd : decode cc pc = .ok (.invokestatic idx, 3)) (k : vV p l e R s m args below meth c A D nL kc ks Q w2 (pc + 3) lv st) : vV p l e R s m args below meth c A D nL kc ks Q w pc lv (.int n :: .int dp :: .ref a :: .int sp :: .ref a0 :: st) := fun H locs ls hP hD hS hl => va_copyi C.1 C.2.1 (C.2.2.1.trans hl.1.symm) C.2.2.2.1 (C.2.2.2.2.1 _ hlink) (C.2.2.2.2.1 _ hnat) (C.2.2.2.2.1 _ hstat) (C.2.2.2.2.1 _ hini) C.2.2.2.2.2.1 hP hD hS q0 q1 t0 t0 ha0 ha1 ht ht rfl hc.1.1 hc.1.2.1 hc.1.2.2 hc.2.1 hc.2.2.1 hc.2.2.2 hfr hlo hd (fun H1 locs1 hP1 hD1 hS1 => k H1 locs1 ls (by rw [← hw]; exact hP1) (by rw [← hw]; exact hD1) hS1 hl)
theorem vi_copyK (C : vC E p l s m args meth c A D tys cc nL own) {idx n0 n1 a b0 : Nat} {c0 : ClassId} {f g : Nat → Int32} {w2 : va_W} {sp dp n : Int32} (hX : va_T .byte b0 n0 (fun j => .int (f j)) A s s.heap) (q1 t0 : Nat) (hlink : Cond.methodLink own idx arraycopyName ∈ wsL_law) (hnat : Cond.native arraycopyName ∈ wsL_law) (hstat : Cond.static arraycopyName ∈ wsL_law) (hini : Cond.initialized "java/lang/System" ∈ wsL_law) (ha1 : w[q1]? = some (a, .inl (c0, n1, .inl g))) (ht : tys[t0]? = some (c0, .byte)) (hc : (¬ sp < 0 ∧ ¬ dp < 0 ∧ ¬ n < 0) ∧ sp.toNatClampNeg + n.toNatClampNeg ≤ n0 ∧ dp.toNatClampNeg + n.toNatClampNeg ≤ n1 ∧ ∀ i : Nat, i < n.toNatClampNeg → fits .byte (.int (f (sp.toNatClampNeg + i))) = true) (hw : w.set q1 (a, .inl (c0, n1, .inl (va_cpy f g sp.toNatClampNeg dp.toNatClampNeg n.toNatClampNeg))) = w2) (hfr : 1 ≤ R.frames) (hlo : (st.map fun v => v.category).sum + (nativeFrameWords "java/lang/System" "arraycopy" 5 + 11) ≤ R.locals) (hd : decode cc pc = .ok (.invokestatic idx, 3)) (k : vV p l e R s m args below meth c A D nL kc ks Q w2 (pc + 3) lv st) : vV p l e R s m args below meth c A D nL kc ks Q w pc lv (.int n :: .int dp :: .ref a :: .int sp :: .ref b0 :: st) := fun H locs ls hP hD hS hl => vk_copyt C.1 C.2.1 (C.2.2.1.trans hl.1.symm) C.2.2.2.1 (C.2.2.2.2.1 _ hlink) (C.2.2.2.2.1 _ hnat) (C.2.2.2.2.1 _ hstat) (C.2.2.2.2.1 _ hini) C.2.2.2.2.2.1 hP hD hS hX q1 t0 ha1 ht hc.1.1 hc.1.2.1 hc.1.2.2 hc.2.1 hc.2.2.1 hc.2.2.2 hfr hlo hd (fun H1 locs1 hP1 hD1 hS1 => k H1 locs1 ls (by rw [← hw]; exact hP1) (by rw [← hw]; exact hD1) hS1 hl)
theorem vp_slots {cA : ClassId} {n : Nat} {f : Nat → Int32} {ty : FieldType} (h : ∀ i : Nat, i < n → fits ty (.int (f i)) = true) : ∀ (i : Nat) (v : Value), (vp_cell cA (n, .inl f)).slots[i]? = some v → fits ty v = true := by
  intro i v hv
  rw [vp_cell_i] at hv
  have hsz : (arrV cA n (fun j => Value.int (f j))).slots.size = n := arrV_size _ _ _
  have hi : i < n := by
    have := (Array.getElem?_eq_some_iff.mp hv).1
    rw [hsz] at this
    exact this
  have e : (arrV cA n (fun j => Value.int (f j))).slots[i]? = some (Value.int (f i)) := by
    simp [arrV, hi]
  rw [e] at hv
  cases hv
  exact h i hi
theorem vi_cloneB (C : vC E p l s m args meth c A D tys cc nL own) {idx a n : Nat} {cA : ClassId} {f : Nat → Int32} (q0 t0 : Nat) (hlink : Cond.methodLink own idx ⟨"[B", "clone", "()Ljava/lang/Object;"⟩ ∈ wsL_law) (hsame : Cond.sameMethod "[B" "java/lang/Object" "clone" "()Ljava/lang/Object;" ∈ wsL_law) (hnat : Cond.native ⟨"java/lang/Object", "clone", "()Ljava/lang/Object;"⟩ ∈ wsL_law) (hinst : Cond.instanceMethod ⟨"java/lang/Object", "clone", "()Ljava/lang/Object;"⟩ ∈ wsL_law) (hsel : Cond.selects "[B" ⟨"[B", "clone", "()Ljava/lang/Object;"⟩ ⟨"java/lang/Object", "clone", "()Ljava/lang/Object;"⟩ ∈ wsL_law) (hcl : va_Nw (.castable "[B" "java/lang/Cloneable") s) (ha : w[q0]? = some (a, .inl (cA, n, .inl f))) (ht : tys[t0]? = some (cA, .byte)) (hnm : s.vm.findClass "[B" = some cA) (hfit : ∀ i : Nat, i < n → fits .byte (.int (f i)) = true) (hfr : 1 ≤ R.frames) (hlo : (st.map fun v => v.category).sum + 14 ≤ R.locals) (hc1 : kc + 1 ≤ R.cells) (hs1 : ks + n ≤ R.slots) (hd : decode cc pc = .ok (.invokevirtual idx, 3)) (k : ∀ q : Nat, vV p l e R s m args below meth c A D nL (kc + 1) (ks + n) Q (w ++ [(q, .inl (cA, n, .inl f))]) (pc + 3) lv (.ref q :: st)) : vV p l e R s m args below meth c A D nL kc ks Q w pc lv (.ref a :: st) := fun H locs ls hP hD hS hl => va_clone C.1 C.2.1 (C.2.2.1.trans hl.1.symm) C.2.2.2.1 (C.2.2.2.2.1 _ hlink) (C.2.2.2.2.1 _ hsame) (C.2.2.2.2.1 _ hnat) (C.2.2.2.2.1 _ hinst) (C.2.2.2.2.1 _ hsel) hcl C.2.2.2.2.2.1 hP hD hS C.2.2.2.2.2.2.1 q0 t0 ha ht hnm (vp_slots hfit) hfr hlo hc1 hs1 hd (fun q H1 hK1 hP1 hD1 hS1 => k q H1 locs ls hP1 hD1 hS1 hl)
theorem vi_castA (C : vC E p l s m args meth c A D tys cc nL own) {idx a : Nat} {nm : String} {cA : ClassId} {x : vp_A} (q0 : Nat) (hlink : Cond.classLink own idx nm ∈ wsL_law) (ha : w[q0]? = some (a, .inl (cA, x))) (hnm : s.vm.findClass nm = some cA) (hd : decode cc pc = .ok (.checkcast idx, 3)) (k : vV p l e R s m args below meth c A D nL kc ks Q w (pc + 3) lv (.ref a :: st)) : vV p l e R s m args below meth c A D nL kc ks Q w pc lv (.ref a :: st) := fun H locs ls hP hD hS hl => va_castA C.1 C.2.1 C.2.2.2.1 (C.2.2.2.2.1 _ hlink) hP q0 ha hnm hd (k H locs ls hP hD hS hl)
theorem vi_castS (C : vC E p l s m args meth c A D tys cc nL own) {idx a ci N : Nat} {nm : String} {T : u_T} {fs : List Value} (q0 : Nat) (hlink : Cond.classLink own idx nm ∈ wsL_law) (he : w[q0]? = some (a, .inr (ci, fs))) (hc : vwCl[ci]? = some (nm, T, N)) (hd : decode cc pc = .ok (.checkcast idx, 3)) (k : vV p l e R s m args below meth c A D nL kc ks Q w (pc + 3) lv (.ref a :: st)) : vV p l e R s m args below meth c A D nL kc ks Q w pc lv (.ref a :: st) := fun H locs ls hP hD hS hl => va_castS C.1 C.2.1 C.2.2.2.1 (C.2.2.2.2.1 _ hlink) (C.2.2.2.2.2.1.1 ci _ hc).2 (va_recv C.2.2.2.2.2.1 hP hc he) hd (k H locs ls hP hD hS hl)
theorem vi_instS (C : vC E p l s m args meth c A D tys cc nL own) {idx a ci N : Nat} {nm : String} {T : u_T} {fs : List Value} (q0 : Nat) (hlink : Cond.classLink own idx nm ∈ wsL_law) (he : w[q0]? = some (a, .inr (ci, fs))) (hc : vwCl[ci]? = some (nm, T, N)) (hd : decode cc pc = .ok (.instanceof idx, 3)) (k : vV p l e R s m args below meth c A D nL kc ks Q w (pc + 3) lv (.int 1 :: st)) : vV p l e R s m args below meth c A D nL kc ks Q w pc lv (.ref a :: st) := fun H locs ls hP hD hS hl => va_instS C.1 C.2.1 C.2.2.2.1 (C.2.2.2.2.1 _ hlink) (C.2.2.2.2.2.1.1 ci _ hc).2 (va_recv C.2.2.2.2.2.1 hP hc he) hd (k H locs ls hP hD hS hl)
theorem vi_acmpO (C : vC E p l s m args meth c A D tys cc nL own) {a b : Nat} {ea eb : va_E} {off : Int} {tgt : Nat} (i j : Nat) (hij : i ≠ j) (ha : w[i]? = some (a, ea)) (hb : w[j]? = some (b, eb)) (hd : decode cc pc = .ok (.if_acmp .ne off, 3)) (ht : (pc : Int) + off = (tgt : Int)) (k : vV p l e R s m args below meth c A D nL kc ks Q w tgt lv st) : vV p l e R s m args below meth c A D nL kc ks Q w pc lv (.ref b :: .ref a :: st) := fun H locs ls hP hD hS hl => lv_acmp_ne (rx := some a) (ry := some b) C.1 C.2.1 hd ht (fun _ => k H locs ls hP hD hS hl) (fun z => absurd (hD.1 i j _ _ ha hb (Option.some.inj z)) hij)
theorem vi_ldcs (C : vC E p l s m args meth c A D tys cc nL own) {idx q : Nat} {tx : String} (hZ : vk_R own idx tx q s) (hd : decode cc pc = .ok (.ldc idx, 2)) (k : vV p l e R s m args below meth c A D nL kc ks Q w (pc + 2) lv (.ref q :: st)) : vV p l e R s m args below meth c A D nL kc ks Q w pc lv st := fun H locs ls hP hD hS hl => va_ldcS C.1 C.2.1 C.2.2.2.1 hZ hd (k H locs ls hP hD hS hl)
theorem vi_callS1i (C : vC E p l s m args meth c A D tys cc nL own) {y : MethodName} {cd : ByteArray} {mL : Nat} {rt : Option FieldType} {fr lo : Nat} {As rest : List Value} {idx : Nat} {r : Int32} (hM : vM E l y cd mL rt fr lo D tys As [] (vQi D [] r)) (n : Nat) (hn : As.length = n) (hcode : Cond.code y cd mL rt ∈ wsL_law) (hlink : Cond.methodLink own idx y ∈ wsL_law) (hstat : Cond.static y ∈ wsL_law) (hini : Cond.initialized y.cls ∈ wsL_law) (hd : y.cls ≠ "java/lang/invoke/MethodHandle" ∧ y.cls ≠ "java/lang/invoke/VarHandle" ∧ (parseMethodDescriptor y.desc).map (fun d => d.parameters.length) = some n) (hR : fr + 1 ≤ R.frames ∧ 8 + (mL + 11) + lo ≤ R.locals) (hks : kc ≤ R.cells ∧ ks ≤ R.slots) (hst : st = As.reverse ++ rest) (hcat : (rest.map fun v => v.category).sum ≤ 8) (hdg : decode cc pc = .ok (.invokestatic idx, 3)) (k : vV p l e R s m args below meth c A D nL kc ks Q w (pc + 3) lv (.int r :: rest)) : vV p l e R s m args below meth c A D nL kc ks Q w pc lv st := vi_callSi (w1 := []) (wc := []) (wd := []) (w2 := w) C hM n hn hcode hlink hstat hini hd hR hks rfl hst hcat hdg rfl k
theorem vi_callS1f (C : vC E p l s m args meth c A D tys cc nL own) {y : MethodName} {cd : ByteArray} {mL : Nat} {rt : Option FieldType} {fr lo : Nat} {As rest : List Value} {idx : Nat} {r : UInt32} (hM : vM E l y cd mL rt fr lo D tys As [] (vQf D [] r)) (n : Nat) (hn : As.length = n) (hcode : Cond.code y cd mL rt ∈ wsL_law) (hlink : Cond.methodLink own idx y ∈ wsL_law) (hstat : Cond.static y ∈ wsL_law) (hini : Cond.initialized y.cls ∈ wsL_law) (hd : y.cls ≠ "java/lang/invoke/MethodHandle" ∧ y.cls ≠ "java/lang/invoke/VarHandle" ∧ (parseMethodDescriptor y.desc).map (fun d => d.parameters.length) = some n) (hR : fr + 1 ≤ R.frames ∧ 8 + (mL + 11) + lo ≤ R.locals) (hks : kc ≤ R.cells ∧ ks ≤ R.slots) (hst : st = As.reverse ++ rest) (hcat : (rest.map fun v => v.category).sum ≤ 8) (hdg : decode cc pc = .ok (.invokestatic idx, 3)) (k : vV p l e R s m args below meth c A D nL kc ks Q w (pc + 3) lv (.float r :: rest)) : vV p l e R s m args below meth c A D nL kc ks Q w pc lv st := vi_callSf (w1 := []) (wc := []) (wd := []) (w2 := w) C hM n hn hcode hlink hstat hini hd hR hks rfl hst hcat hdg rfl k
theorem vi_callS1v (C : vC E p l s m args meth c A D tys cc nL own) {y : MethodName} {cd : ByteArray} {mL : Nat} {rt : Option FieldType} {fr lo : Nat} {As rest : List Value} {idx : Nat} (hM : vM E l y cd mL rt fr lo D tys As [] (vQv D [])) (n : Nat) (hn : As.length = n) (hcode : Cond.code y cd mL rt ∈ wsL_law) (hlink : Cond.methodLink own idx y ∈ wsL_law) (hstat : Cond.static y ∈ wsL_law) (hini : Cond.initialized y.cls ∈ wsL_law) (hd : y.cls ≠ "java/lang/invoke/MethodHandle" ∧ y.cls ≠ "java/lang/invoke/VarHandle" ∧ (parseMethodDescriptor y.desc).map (fun d => d.parameters.length) = some n) (hR : fr + 1 ≤ R.frames ∧ 8 + (mL + 11) + lo ≤ R.locals) (hks : kc ≤ R.cells ∧ ks ≤ R.slots) (hst : st = As.reverse ++ rest) (hcat : (rest.map fun v => v.category).sum ≤ 8) (hdg : decode cc pc = .ok (.invokestatic idx, 3)) (k : vV p l e R s m args below meth c A D nL kc ks Q w (pc + 3) lv rest) : vV p l e R s m args below meth c A D nL kc ks Q w pc lv st := vi_callSv (w1 := []) (wc := []) (wd := []) (w2 := w) C hM n hn hcode hlink hstat hini hd hR hks rfl hst hcat hdg rfl k
end VGB
section VGE
variable {p : Program} {l : Launch} {e : Env} {R : Room} {s : State} {m : MethodId} {args : Array Value} {below : List Frame} {meth : Method} {c : Code} {A : Nat → Prop} {D : va_G} {tys : List (ClassId × FieldType)} {cc : ByteArray} {nL : Nat} {own : String} {kc ks kc1 ks1 : Nat} {Q : State → Prop} {w w1 wb wc : va_W} {pc : Nat} {lv lv' : List (Nat × Value)} {st : List Value}
variable {ad adK adV : Nat → Nat} {tS tF : Nat} {tX sK sV : Nat → Nat}
theorem vE_x (C : vC (vE ad adK adV tS tF tX sK sV) p l s m args meth c A D tys cc nL own) : vEx tX sK sV A s s.heap ∧ vRs sK s := C.2.2.2.2.2.2.2.2.2.2.2.2.2.2.2.1.2
theorem vi_get_digits (C : vC (vE ad adK adV tS tF tX sK sV) p l s m args meth c A D tys cc nL own) {idx : Nat} (hm : Cond.fieldLink own idx "java/lang/Integer" "digits" "[C" ∈ wsL_law) (hd : decode cc pc = .ok (.getstatic idx, 3)) (k : vV p l e R s m args below meth c A D nL kc ks Q w (pc + 3) lv (.ref (tX 0) :: st)) : vV p l e R s m args below meth c A D nL kc ks Q w pc lv st := vi_gets C (vE_x C).1.1.1 hm rfl hd k
theorem vi_ld_digits (C : vC (vE ad adK adV tS tF tX sK sV) p l s m args meth c A D tys cc nL own) {i : Int32} (hin : ¬ (i < 0 ∨ 36 ≤ i.toNatClampNeg)) (hd : decode cc pc = .ok (.caload, 1)) (k : vV p l e R s m args below meth c A D nL kc ks Q w (pc + 1) lv (.int (vdig.getD i.toNatClampNeg 0) :: st)) : vV p l e R s m args below meth c A D nL kc ks Q w pc lv (.int i :: .ref (tX 0) :: st) := fun H locs ls hP hD hS hl => va_tc C.1 C.2.1 (vE_x C).1.1.2 hS hin rfl hd (k H locs ls hP hD hS hl)
theorem vi_get_tens (C : vC (vE ad adK adV tS tF tX sK sV) p l s m args meth c A D tys cc nL own) {idx : Nat} (hm : Cond.fieldLink own idx "java/lang/Integer" "DigitTens" "[B" ∈ wsL_law) (hd : decode cc pc = .ok (.getstatic idx, 3)) (k : vV p l e R s m args below meth c A D nL kc ks Q w (pc + 3) lv (.ref (tX 1) :: st)) : vV p l e R s m args below meth c A D nL kc ks Q w pc lv st := vi_gets C (vE_x C).1.2.1.1 hm rfl hd k
theorem vi_ld_tens (C : vC (vE ad adK adV tS tF tX sK sV) p l s m args meth c A D tys cc nL own) {i : Int32} (hin : ¬ (i < 0 ∨ 100 ≤ i.toNatClampNeg)) (hd : decode cc pc = .ok (.baload, 1)) (k : vV p l e R s m args below meth c A D nL kc ks Q w (pc + 1) lv (.int (nI (48 + i.toNatClampNeg / 10)) :: st)) : vV p l e R s m args below meth c A D nL kc ks Q w pc lv (.int i :: .ref (tX 1) :: st) := fun H locs ls hP hD hS hl => va_tb C.1 C.2.1 (vE_x C).1.2.1.2 hS hin rfl hd (k H locs ls hP hD hS hl)
theorem vi_get_ones (C : vC (vE ad adK adV tS tF tX sK sV) p l s m args meth c A D tys cc nL own) {idx : Nat} (hm : Cond.fieldLink own idx "java/lang/Integer" "DigitOnes" "[B" ∈ wsL_law) (hd : decode cc pc = .ok (.getstatic idx, 3)) (k : vV p l e R s m args below meth c A D nL kc ks Q w (pc + 3) lv (.ref (tX 2) :: st)) : vV p l e R s m args below meth c A D nL kc ks Q w pc lv st := vi_gets C (vE_x C).1.2.2.1.1 hm rfl hd k
theorem vi_ld_ones (C : vC (vE ad adK adV tS tF tX sK sV) p l s m args meth c A D tys cc nL own) {i : Int32} (hin : ¬ (i < 0 ∨ 100 ≤ i.toNatClampNeg)) (hd : decode cc pc = .ok (.baload, 1)) (k : vV p l e R s m args below meth c A D nL kc ks Q w (pc + 1) lv (.int (nI (48 + i.toNatClampNeg % 10)) :: st)) : vV p l e R s m args below meth c A D nL kc ks Q w pc lv (.int i :: .ref (tX 2) :: st) := fun H locs ls hP hD hS hl => va_tb C.1 C.2.1 (vE_x C).1.2.2.1.2 hS hin rfl hd (k H locs ls hP hD hS hl)
theorem vE_recvS (C : vC (vE ad adK adV tS tF tX sK sV) p l s m args meth c A D tys cc nL own) {i : Nat} (hi : i < 3) {H : Heap} {locs : List Loc} (hS : va_S A s.heap H locs) : ∃ cell : Cell, H[sK i]? = some cell ∧ cell.vm.isStatics = false ∧ s.vm.findClass "java/lang/String" = some cell.cls := by
  obtain ⟨cell, h1, h2, h3, -⟩ := (((vE_x C).1.2.2.2.1 i hi).1).kept hS.2.1
  exact ⟨cell, h1, h2, h3⟩
theorem vi_getCoderS (C : vC (vE ad adK adV tS tF tX sK sV) p l s m args meth c A D tys cc nL own) {idx i : Nat} (hi : i < 3) (hm : Cond.fieldLink own idx "java/lang/String" "coder" "B" ∈ wsL_law) (hd : decode cc pc = .ok (.getfield idx, 3)) (k : vV p l e R s m args below meth c A D nL kc ks Q w (pc + 3) lv (.int 0 :: st)) : vV p l e R s m args below meth c A D nL kc ks Q w pc lv (.ref (sK i) :: st) := vi_getO C ((vE_x C).1.2.2.2.1 i hi).2.1 hm rfl hd k
theorem vi_getValueS (C : vC (vE ad adK adV tS tF tX sK sV) p l s m args meth c A D tys cc nL own) {idx i : Nat} (hi : i < 3) (hm : Cond.fieldLink own idx "java/lang/String" "value" "[B" ∈ wsL_law) (hd : decode cc pc = .ok (.getfield idx, 3)) (k : vV p l e R s m args below meth c A D nL kc ks Q w (pc + 3) lv (.ref (sV i) :: st)) : vV p l e R s m args below meth c A D nL kc ks Q w pc lv (.ref (sK i) :: st) := vi_getO C ((vE_x C).1.2.2.2.1 i hi).2.2.1 hm rfl hd k
theorem vi_lenS (C : vC (vE ad adK adV tS tF tX sK sV) p l s m args meth c A D tys cc nL own) {i : Nat} (hi : i < 3) (hd : decode cc pc = .ok (.arraylength, 1)) (k : vV p l e R s m args below meth c A D nL kc ks Q w (pc + 1) lv (.int (Int32.ofNat (vLlen.getD i 0)) :: st)) : vV p l e R s m args below meth c A D nL kc ks Q w pc lv (.ref (sV i) :: st) := fun H locs ls hP hD hS hl => va_tlen C.1 C.2.1 ((vE_x C).1.2.2.2.1 i hi).2.2.2 hS rfl hd (k H locs ls hP hD hS hl)
theorem vE_tabS (C : vC (vE ad adK adV tS tF tX sK sV) p l s m args meth c A D tys cc nL own) {i : Nat} (hi : i < 3) : va_T .byte (sV i) (vLlen.getD i 0) (fun j => .int ((vLbyt.getD i []).getD j 0)) A s s.heap := ((vE_x C).1.2.2.2.1 i hi).2.2.2
end VGE
