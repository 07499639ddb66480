/-! Math.abs (F)F: the natives' entry stands in for its bytecode (overridden); where the argument is no NaN it draws nothing. Own text; the shape is that of Steps.objectInit (Enter.lean). -/
def vabsRow : NativeRow := (NativeRow.find? Native.java_lang_Math.nans.rows "java/lang/Math" "abs" "(F)F").get (by decide +kernel)
set_option maxRecDepth 100000 in
theorem vabs_row (p : Program) : NativeRow.find? p.tables.natives "java/lang/Math" "abs" "(F)F" = some vabsRow := by
  cases p <;> rfl
theorem vabs_sem {a : UInt32} (ha : a &&& 0x7fffffff ≤ 0x7f800000) (e : Env) (S : State) : ∃ acts, (vabsRow.sem #[.float a]).run e S = .ok (some (.float (a &&& 0x7fffffff))) S acts := by
  have hn : (a &&& 0x7fffffff) &&& 0x7fffffff ≤ 0x7f800000 := by rw [UInt32.and_assoc, UInt32.and_self]; exact ha
  have hs : vabsRow.sem #[.float a] = (do
      let r ← anyNaN32 (a &&& 0x7fffffff)
      mark "nat.java_lang_Math.abs/float"
      Pure.pure (some (.float r))) := rfl
  have hw : wpRun (vabsRow.sem #[.float a]) (fun v t _ => v = some (.float (a &&& 0x7fffffff)) ∧ t = S) (fun _ _ _ => False) e S := by
    rw [hs]
    simp [jvm, wpRun, anyNaN32, hn]
  have hr := (wpRun_iff_run _ _ _ _ _).mp hw
  generalize hq : (vabsRow.sem #[.float a]).run e S = out at hr ⊢
  cases out with
  | ok v t acts => exact ⟨acts, by rw [hr.1, hr.2]⟩
  | ctl x t acts => cases x <;> exact hr.elim
theorem vabs_walk {p : Program} {e : Env} {s target : State} {g : JFrame} {c : Code} {below : List Frame} (h : At s g.method c below) {m : MethodId} {k : Class} {meth : Method} {code : Code} {a : UInt32} {ig : Instr} {len : Nat} (acts : List Action)
    (hk : s.vm.classes[m.cls]? = some k) (hx : k.methods[m.idx]? = some meth) (hboot : k.loader = none) (hkn : k.name = "java/lang/Math") (hmn : meth.name = "abs") (hmd : meth.desc = "(F)F") (hsig : meth.sig = ⟨[.float], some .float⟩) (hc : meth.code = some code) (hml : code.maxLocals = 1) (hl : meth.locks = false)
    (hroom : e.platform.stackFull (((s.setTop g).threads[(s.setTop g).cur]?).getD { frames := [] }) (s.setTop g).frames code.maxLocals = false) (hdg : decode c.code g.pc = .ok (ig, len)) (ha : a &&& 0x7fffffff ≤ 0x7f800000)
    (hrest : Steps p.tables e below (s.setTop { g with pc := g.pc + len, stack := .float (a &&& 0x7fffffff) :: g.stack }) target) :
    Steps p.tables e below (doInvoke e (s.setTop g) acts m #[.float a]).1 target := by
  have hm : s.vm.method? m = some meth := by simp [Vm.method?, hk, hx]
  obtain ⟨g0, hg0⟩ := Option.isSome_iff_exists.mp h.top
  obtain ⟨r, hr⟩ := State.topJava?_eq_some.mp hg0
  obtain ⟨mid, hmid⟩ := h.above
  have hcur : s.cur < s.threads.size := State.cur_lt_of_frames hr
  rw [(doInvoke_java (s := s.setTop g) (e := e) (acts := acts) (args := #[.float a]) (meth := meth) (code := code) (by simpa using hm) hc hl hroom).1, hml]
  have hU : (s.setTop g).pushFrame (.java { method := m, pc := 0, locals := argsToLocals #[.float a] 1, stack := [], locked := none }) = s.setFrames (.java (entryFrame m #[.float a] 1) :: .java g :: r) := by
    rw [State.pushFrame, State.frames_setTop _ hr, State.setTop_of_frames _ hr, State.setFrames_setFrames]; rfl
  rw [hU]
  have hF : (s.setFrames (.java (entryFrame m #[.float a] 1) :: .java g :: r)).frames = .java (entryFrame m #[.float a] 1) :: .java g :: r := State.frames_setFrames _ hcur
  have hov : overridden p.tables e (s.setFrames (.java (entryFrame m #[.float a] 1) :: .java g :: r)) (entryFrame m #[.float a] 1) = some vabsRow := by
    have h1 : s.vm.classes[(entryFrame m #[.float a] 1).method.cls]? = some k := hk
    have h2 : k.methods[(entryFrame m #[.float a] 1).method.idx]? = some meth := hx
    have h3 : "java/lang/Math" ∈ overriddenIn := by decide
    have h4 : (entryFrame m #[.float a] 1).pc = 0 := rfl
    unfold overridden
    simp [h4, h1, h2, hkn, hboot, hmn, hmd, vabs_row, h3]
  obtain ⟨acts2, hr2⟩ := vabs_sem ha e (s.setFrames (.native { method := m, args := #[.float a] } :: .java g :: r))
  have hcode : ∀ F : List Frame, (s.setFrames F).code? g.method = some c := fun F => by
    have h1 := h.code
    rw [State.code?_eq] at h1 ⊢
    simpa [State.setFrames] using h1
  have hfs : handOver (s.setFrames (.native { method := m, args := #[.float a] } :: .java g :: r)) (some (.float (a &&& 0x7fffffff))) (.java g :: r) = some (.java { g with pc := g.pc + len, stack := .float (a &&& 0x7fffffff) :: g.stack } :: r) := by
    simp [handOver, hcode, hdg, Except.toOption]
  have hac : argCount (s.setFrames (.java (entryFrame m #[.float a] 1) :: .java g :: r)) m = 1 + (if meth.isStatic then 0 else 1) := by
    have h1 : ((s.setFrames (.java (entryFrame m #[.float a] 1) :: .java g :: r)).vm.classes[m.cls]?.bind fun y => y.methods[m.idx]?) = some meth := by
      show (s.vm.classes[m.cls]?.bind fun y => y.methods[m.idx]?) = some meth
      simp [hk, hx]
    unfold argCount
    rw [h1]
    simp [hsig]
  have hst : (stepThread p.tables e (s.setFrames (.java (entryFrame m #[.float a] 1) :: .java g :: r))).1 = s.setTop { g with pc := g.pc + len, stack := .float (a &&& 0x7fffffff) :: g.stack } := by
    have htk : ∀ n : Nat, List.take (1 + n) [Value.float a] = [Value.float a] := fun n => List.take_of_length_le (Nat.le_add_right 1 n)
    unfold stepThread
    simp only [hF, hov]
    have h5 : (entryFrame m #[.float a] 1).method = m := rfl
    simp only [h5, hac]
    simp [entryFrame, argsToLocals, Value.category, htk, hr2, afterNative]
    rw [doReturn_native (f := { method := m, args := #[.float a] }) (below := .java g :: r) (State.frames_setFrames _ hcur) rfl hfs, State.setFrames_setFrames, ← State.setTop_of_frames _ hr]
  refine Steps.head ⟨h.running, by simpa using h.runnable, by simpa using h.alone⟩ ⟨.java (entryFrame m #[.float a] 1) :: .java g :: mid, by rw [hF]; rw [hr] at hmid; simp at hmid; simp [hmid], by simp, by simp⟩ ?_
  rw [hst]
  exact hrest
theorem vabs_at {p : Program} {l : Launch} {e : Env} {R : Room} {s : State} {m : MethodId} {args : Array Value} {below : List Frame} {meth : Method} {c : Code} {T : State} {locs : List Loc} {cells slots : Nat} (X : Stand p l e R s m args below meth c T locs cells slots) (hexec : p.tables.exec = Jvm.exec) {own : String} {index : Nat}
    (hown : s.vm.findClass own = some m.cls) (hlink : (Cond.methodLink own index yJ9_abs_f6c48).before args s = true) (hcode : (Cond.code yJ9_abs_f6c48 cJ9_abs_f6c48 1 (some .float)).before args s = true) (hstat : (Cond.static yJ9_abs_f6c48).before args s = true) (hinit : (Cond.initialized "java/lang/Math").before args s = true)
    {g : JFrame} (hg : g.method = m) (hsize : g.locals.size = c.maxLocals) {a : UInt32} {rest : List Value} (hstack : g.stack = .float a :: rest) (hdg : decode c.code g.pc = .ok (.invokestatic index, 3)) (hfr : 1 ≤ R.frames) (hlo : 2 * g.monitorRoom + (rest.map fun v => v.category).sum + (1 + 11) ≤ R.locals) (ha : a &&& 0x7fffffff ≤ 0x7f800000) :
    ∃ vm', Stand p l e R s m args below meth c (T.setVm vm') locs cells slots ∧ ∀ target, Steps p.tables e below ((T.setVm vm').setTop { g with pc := g.pc + 3, stack := .float (a &&& 0x7fffffff) :: rest }) target → Steps p.tables e below (T.setTop g) target := by
  obtain ⟨mk, hnamed⟩ := Cond.code_named hcode
  obtain ⟨methS, cS, hmethS, -, -, -, -, -, -, hsigS⟩ := Cond.code_spec hnamed hcode
  have hstatic := Cond.static_spec hnamed hmethS hstat
  obtain ⟨kS, hkS, -⟩ := className_of_methodNamed hnamed
  have hinitS : kS.init = .initialized := Cond.initialized_spec (findClass_of_methodNamed hnamed) hkS hinit
  have hsg : parseMethodDescriptor yJ9_abs_f6c48.desc = some ⟨[.float], some .float⟩ := by decide +kernel
  obtain ⟨vm', X', step⟩ := X.invokestatic hexec hown hlink hnamed hmethS hstatic hkS hinitS (by decide) hg (argsL := [.float a]) (rest := rest) (by
    have h1 := hsigS
    rw [hsg] at h1
    rw [← Option.some.inj h1]; rfl) hstack hdg
  refine ⟨vm', X', fun target hrest => step target fun acts => ?_⟩
  subst hg
  have hnamed' : (T.setVm vm').methodNamed? yJ9_abs_f6c48 = some mk := X'.named hnamed
  have hcode' : (Cond.code yJ9_abs_f6c48 cJ9_abs_f6c48 1 (some .float)).before args (T.setVm vm') = true := Cond.tabsOnly_warm (args' := args) (T := T.setVm vm') X'.warmed _ rfl hcode
  obtain ⟨methM, cM, hmethM, hcodeM, -, hlocalsM, -, hlocksM, -, hsigM⟩ := Cond.code_spec hnamed' hcode'
  obtain ⟨kP, hkP, hkname⟩ := className_of_methodNamed hnamed'
  obtain ⟨hmnM, hmdM⟩ := name_of_methodNamed hnamed' hmethM
  have hkP2 : vm'.classes[mk.cls]? = some kP := hkP
  have hxP : kP.methods[mk.idx]? = some methM := by simpa [Vm.method?, hkP2] using hmethM
  exact vabs_walk (g := { g with stack := rest }) (ig := .invokestatic index) (len := 3) X'.here acts hkP hxP (Vm.bootOf_findClass (findClass_of_methodNamed hnamed') hkP) hkname hmnM hmdM (by
    have h1 := hsigM
    rw [hsg] at h1
    exact (Option.some.inj h1).symm) hcodeM hlocalsM hlocksM (X'.notFull (g := { g with stack := rest }) hsize (vars := cM.maxLocals) hfr (by rw [hlocalsM]; exact hlo)) hdg ha hrest
