section VX0
variable {E : (Nat → Prop) → State → Heap → Prop} {p : Program} {l : Launch} {e : Env} {R : Room} {s : State} {m : MethodId} {args : Array Value} {below : List Frame} {meth : Method} {c : Code} {A : Nat → Prop} {D : va_G} {tys : List (ClassId × FieldType)} {cc : ByteArray} {nL : Nat} {own : String} {kc ks : Nat} {Q : State → Prop} {w : va_W} {pc : Nat} {lv lv' : List (Nat × Value)} {st : List Value}
theorem vi_astore_nN (C : vC E p l s m args meth c A D tys cc nL own) {f : Fin 4} {i : Nat} (hd : decode cc pc = .ok (.astore_n f, 1)) (hi : (f : Nat) = i) (hn : i < nL) (hf : (i, Value.null) :: lv.filter (fun q => !(q.1 == i) && !(q.1 + 1 == i && q.2.category == 2)) = lv') (k : vV p l e R s m args below meth c A D nL kc ks Q w (pc + 1) lv' st) : vV p l e R s m args below meth c A D nL kc ks Q w pc lv (.null :: st) := fun H locs ls hP hD hS hl => lv_astore_nN C.1 C.2.1 hd hi hl hn hf (fun ls' hl' => k H locs ls' hP hD hS hl')
theorem va_ldcwFl {T : State} {locs : List Loc} {cells slots : Nat} (X : Stand p l e R s m args below meth c T locs cells slots) (hexec : p.tables.exec = Jvm.exec) {own : String} {index : Nat} {v : UInt32} (hown : s.vm.findClass own = some m.cls) (hconst : (Cond.constantFloat own index v).before args s = true) {g : JFrame} (hg : g.method = m) (hdg : decode c.code g.pc = .ok (.ldc_w index, 3)) : ∀ target, Steps p.tables e below (T.setTop { g with pc := g.pc + 3, stack := .float v :: g.stack }) target → Steps p.tables e below (T.setTop g) target := by
  obtain ⟨k, cf, hk, hcf, hcp⟩ := Cond.constantFloat_spec hown hconst
  obtain ⟨k', hk', he⟩ := X.warmed.alike.2.2 _ _ hk
  intro target hrest
  subst hg
  jvm_step X.here [hexec, hdg, ldc_w.wp_float (s := T) (f := g) X.here.top hk' (by rw [he]; exact hcf) hcp]
  exact hrest
theorem vi_ldcwf (C : vC E p l s m args meth c A D tys cc nL own) {idx : Nat} {v : UInt32} (hd : decode cc pc = .ok (.ldc_w idx, 3)) (hm : Cond.constantFloat own idx v ∈ wsL_law) (k : vV p l e R s m args below meth c A D nL kc ks Q w (pc + 3) lv (.float v :: st)) : vV p l e R s m args below meth c A D nL kc ks Q w pc lv st := fun H locs ls hP hD hS hl T hT X => by
  obtain ⟨t, a, b⟩ := k H locs ls hP hD hS hl T hT X
  exact ⟨t, va_ldcwFl X C.1 C.2.2.2.1 (C.2.2.2.2.1 _ hm) (g := F0 m pc ls st) rfl (by rw [C.2.1]; exact hd) t a, b⟩
end VX0
