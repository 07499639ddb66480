section VLZ2
variable {E : (Nat → Prop) → State → Heap → Prop} {p : Program} {l : Launch} {e : Env} {R : Room} {s : State} {m : MethodId} {args : Array Value} {below : List Frame} {meth : Method} {c : Code} {A : Nat → Prop} {D : va_G} {tys : List (ClassId × FieldType)} {cc : ByteArray} {nL : Nat} {own : String} {kc ks : Nat} {Q : State → Prop} {w : va_W} {pc : Nat} {lv lv' : List (Nat × Value)} {st : List Value}
theorem vi_mabsG (C : vC E p l s m args meth c A D tys cc nL own) {idx : Nat} {x : UInt32} (hx : x &&& 0x7fffffff ≤ 0x7f800000) (hlink : Cond.methodLink own idx yJ9_abs_f6c48 ∈ wsL_law) (hcode : Cond.code yJ9_abs_f6c48 cJ9_abs_f6c48 1 (some .float) ∈ wsL_law) (hstat : Cond.static yJ9_abs_f6c48 ∈ wsL_law) (hini : Cond.initialized RJ9 ∈ wsL_law) (hfr : 1 ≤ R.frames) (hlo : (st.map fun v => v.category).sum + 20 ≤ R.locals) (hd : decode cc pc = .ok (.invokestatic idx, 3)) (k : vV p l e R s m args below meth c A D nL kc ks Q w (pc + 3) lv (.float (x &&& 0x7fffffff) :: st)) : vV p l e R s m args below meth c A D nL kc ks Q w pc lv (.float x :: st) := fun H locs ls hP hD hS hl => by
  intro T hT X
  obtain ⟨vm', X', st'⟩ := vabs_at X C.1 C.2.2.2.1 (C.2.2.2.2.1 _ hlink) (C.2.2.2.2.1 _ hcode) (C.2.2.2.2.1 _ hstat) (C.2.2.2.2.1 _ hini) (g := F0 m pc ls (.float x :: st)) (a := x) (rest := st) rfl (C.2.2.1.trans hl.1.symm).symm rfl (by rw [C.2.1]; exact hd) hfr (by show 2 * 0 + _ + _ ≤ _; omega) hx
  obtain ⟨t, a1, b1⟩ := k H locs ls hP hD hS hl (T.setVm vm') hT X'
  exact ⟨t, st' t a1, b1⟩
end VLZ2
