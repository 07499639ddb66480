def fJx29ce0_ordinal_8abf5 (x1 : Nat) : Option (Int32) := if x1 < 10 then some (nI x1) else none
set_option maxRecDepth 100000 in
set_option maxHeartbeats 4000000 in
theorem kJx29ce0_ordinal_8abf5_e {ad adK adV : Nat → Nat} {tS tF : Nat} {p : Program} {l : Launch} {e : Env} {s : State} {m : MethodId} {args : Array Value} {below : List Frame} {meth : Method} {c : Code} {A : Nat → Prop} {D : va_G} {cI cF cC cS cO : ClassId} {Q : State → Prop} (C : vC (vE ad adK adV tS tF) p l s m args meth c A D (vT5 cI cF cC cS cO) cJx29ce0_ordinal_8abf5 1 RJx29ce0) {r0 : Int32} (RET : ∀ (pc : Nat) (lv : List (Nat × Value)), decode cJx29ce0_ordinal_8abf5 pc = .ok (.ireturn, 1) → vV p l e { frames := 0, cells := 0, slots := 0, locals := 0 } s m args below meth c A D 1 0 0 Q [] pc lv [.int r0]) {x1 : Nat} (h : fJx29ce0_ordinal_8abf5 x1 = some r0) : vV p l e { frames := 0, cells := 0, slots := 0, locals := 0 } s m args below meth c A D 1 0 0 Q [] 0 [(0, .ref (ad x1))] [] := by
  rw [fJx29ce0_ordinal_8abf5] at h
  refine vi_aload_n C 0 dJx29ce0_ordinal_8abf5_0 rfl ?_
  obtain ⟨hz1, h⟩ := ob_ok h
  refine vi_getOrd C hz1 tfJx29ce0_7 dJx29ce0_ordinal_8abf5_1 ?_
  exact vi_donei0  RET h dJx29ce0_ordinal_8abf5_4
theorem mJx29ce0_ordinal_8abf5 {ad adK adV : Nat → Nat} {tS tF : Nat} (hE : vEok (vE ad adK adV tS tF)) {l : Launch} {D : va_G} {cI cF cC cS cO : ClassId} {r0 : Int32}  {x1 : Nat} (h : fJx29ce0_ordinal_8abf5 x1 = some r0) : vM (vE ad adK adV tS tF) l yJx29ce0_ordinal_8abf5 cJx29ce0_ordinal_8abf5 1 (some .int) 0 0 D (vT5 cI cF cC cS cO) [.ref (ad x1)] [] (vQi D [] r0) :=
  vM_ofF hE (by decide +kernel) (Nat.le_of_ble_eq_true rfl) (fun p e s m args below meth c A C hr => kJx29ce0_ordinal_8abf5_e C (vi_reti C hr) h)
section VORD
variable {p : Program} {l : Launch} {e : Env} {R : Room} {s : State} {m : MethodId} {args : Array Value} {below : List Frame} {meth : Method} {c : Code} {A : Nat → Prop} {D : va_G} {cc : ByteArray} {nL : Nat} {own : String} {kc ks : Nat} {Q : State → Prop} {w : va_W} {pc : Nat} {lv lv' : List (Nat × Value)} {st : List Value}
variable {ad adK adV : Nat → Nat} {tS tF : Nat}
variable {cI cF cC cS cO : ClassId}
theorem vi_callOrd (C : vC (vE ad adK adV tS tF) p l s m args meth c A D (vT5 cI cF cC cS cO) cc nL own) {rest : List Value} {idx i : Nat} (hi : i < 10) (hlink : Cond.methodLink own idx ⟨"MoodSextant$Form", "ordinal", "()I"⟩ ∈ wsL_law) (hR : 0 + 1 ≤ R.frames ∧ 8 + (1 + 11) + 0 ≤ R.locals) (hcat : (rest.map fun v => v.category).sum ≤ 8) (hdg : decode cc pc = .ok (.invokevirtual idx, 3)) (k : vV p l e R s m args below meth c A D nL 0 0 Q w (pc + 3) lv (.int (nI i) :: rest)) : vV p l e R s m args below meth c A D nL 0 0 Q w pc lv (.ref (ad i) :: rest) := by
  intro H locs ls hP hD hS hl
  obtain ⟨hkept, hnar, hmov, hsam⟩ := C.2.2.2.2.2.2.2.2.1
  have hE0 := C.2.2.2.2.2.2.2.2.2
  have ts := C.2.2.2.2.1
  have hw : w = [] ++ ([] ++ w) := rfl
  have hF := vfree hw hD hS C.2.2.2.2.2.2.1
  have hf : fJx29ce0_ordinal_8abf5 i = some (nI i) := by rw [fJx29ce0_ordinal_8abf5, if_pos hi]
  have hM := mJx29ce0_ordinal_8abf5 (l := l) (D := D) (cI := cI) (cF := cF) (cC := cC) (cS := cS) (cO := cO) C.2.2.2.2.2.2.2.2.1 hf
  refine va_calli (va_runU (As := []) (rest := rest) (C := "MoodSextant$Form") (owner := "java/lang/Enum") (x := ⟨"MoodSextant$Form", "ordinal", "()I"⟩) (n := 0) ⟨C.1, C.2.1, C.2.2.1, C.2.2.2.1, ts⟩ (hM H.size) ⟨⟨rfl, rfl, hR.1, hR.2, pay_in ts (vT_in tcJx29ce0_ordinal_8abf5), List.mem_cons_self⟩, ts _ tcJx29ce0_ordinal_8abf5, ts _ tnJx29ce0, ⟨by decide, by decide⟩, fun sig h => ?_, ts _ hlink, ts _ tqSameOrd, va_Decl.of (ts _ tiJx29ce0_ordinal_8abf5) (ts _ tcJx29ce0_ordinal_8abf5), ts _ tqSelOrd, ts _ tiJx29ce0_ordinal_8abf5⟩ ⟨fun a U g mk q => ?_, vE_recvF C hi hS, fun U hU hW => ?_⟩ rfl rfl hl.1 rfl (lv_room hcat) hdg ⟨Nat.zero_le _, Nat.zero_le _⟩) hS (fun q _ h => hF q h) hF (fun r1 u t H1 locs1 ht hvm hr hB hz hk hS1 => ?_)
  · have h2 : (parseMethodDescriptor "()I").map (fun d => d.parameters.length) = some 0 := by decide +kernel
    rw [h] at h2
    exact (Option.some.inj h2).symm
  · obtain ⟨q0, q1, qP, qK, qD, qE⟩ := q
    exact ⟨q0, q1, qP, va_K.moved (u := U) (U := U.calling g mk a) (Vm.Alike.refl U.vm) qK, qD, hsam _ U (U.calling g mk a) _ rfl qE⟩
  · refine ⟨rfl, by rw [hU], by rw [hU]; exact vsubP hw hP, va_K.moved hW.alike C.2.2.2.2.2.1, vsubD hw hD, ?_⟩
    rw [hU]
    exact hmov _ s U _ hW (hnar _ _ _ _ (hkept _ _ _ _ hE0 hS.2.1) hF)
  · subst hr
    rw [ht] at hB
    obtain ⟨hP1, hD1⟩ := vj hw rfl hP hD hk hB
    exact k H1 locs1 ls hP1 hD1 hS1 hl
end VORD
