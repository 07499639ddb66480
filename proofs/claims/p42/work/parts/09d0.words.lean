/-! a long code is one of the tables' words: bytes compared along the lists -/
def wBq : List UInt8 → List UInt8 → Bool
  | [], [] => true
  | a :: as, b :: bs => a.toNat == b.toNat && wBq as bs
  | _, _ => false
theorem wBq_eq : ∀ {l k : List UInt8}, wBq l k = true → l = k
  | [], [], _ => rfl
  | [], _ :: _, h => by simp [wBq] at h
  | _ :: _, [], h => by simp [wBq] at h
  | a :: as, b :: bs, h => by
    rw [wBq, Bool.and_eq_true, beq_iff_eq] at h
    rw [UInt8.toNat_inj.mp h.1, wBq_eq h.2]
def wCo (w : Cond) (y : MethodName) (c : ByteArray) (n : Nat) (r : Option FieldType) : Bool := match w with
  | .code y' c' n' r' => decide (y' = y) && wBq c'.data.toList c.data.toList && decide (n' = n) && decide (r' = r)
  | _ => false
theorem wT_co (k : Nat) {y : MethodName} {c : ByteArray} {n : Nat} {r : Option FieldType} (h : (match lw_tbl[k]? with | some w => wCo w y c n r | none => false) = true) : lw_tbl[k]? = some (.code y c n r) := by
  generalize lw_tbl[k]? = o at h ⊢
  cases o with
  | none => cases h
  | some w =>
    have h : wCo w y c n r = true := h
    cases w with
    | code y' c' n' r' =>
      simp only [wCo, Bool.and_eq_true, decide_eq_true_eq] at h
      obtain ⟨⟨⟨h1, h2⟩, h3⟩, h4⟩ := h
      have h5 := wBq_eq h2
      have h6 : c' = c := by
        cases c'; cases c
        exact congrArg ByteArray.mk (Array.toList_inj.mp h5)
      rw [h1, h3, h4, h6]
    | _ => exact absurd h (by simp [wCo])
theorem tlL_224 : Cond.methodLink RL 224 yX7_undo ∈ wsL_law := wT_at 622 (by decide +kernel) (by decide +kernel)
theorem tcX7_undo : Cond.code yX7_undo cX7_undo 1 (some .int) ∈ wsL_law := wT_at 625 (by decide +kernel) (by decide +kernel)
theorem tiX7_undo : Cond.instanceMethod yX7_undo ∈ wsL_law := wT_at 623 (by decide +kernel) (by decide +kernel)
theorem tsX7_undo : Cond.selects RX7 yX7_undo yX7_undo ∈ wsL_law := wT_at 624 (by decide +kernel) (by decide +kernel)
theorem tkL_227 : Cond.constant RL 227 (-100003) ∈ wsL_law := wT_at 1189 (by decide +kernel) (by decide +kernel)
theorem tlL_228 : Cond.methodLink RL 228 yX7_reason ∈ wsL_law := wT_at 617 (by decide +kernel) (by decide +kernel)
theorem tcX7_reason : Cond.code yX7_reason cX7_reason 3 (some .int) ∈ wsL_law := wT_at 620 (by decide +kernel) (by decide +kernel)
theorem tiX7_reason : Cond.instanceMethod yX7_reason ∈ wsL_law := wT_at 618 (by decide +kernel) (by decide +kernel)
theorem tsX7_reason : Cond.selects RX7 yX7_reason yX7_reason ∈ wsL_law := wT_at 619 (by decide +kernel) (by decide +kernel)
theorem tkL_232 : Cond.constant RL 232 (-100002) ∈ wsL_law := wT_at 1190 (by decide +kernel) (by decide +kernel)
theorem tlL_233 : Cond.methodLink RL 233 yX7_fault ∈ wsL_law := wT_at 612 (by decide +kernel) (by decide +kernel)
theorem tcX7_fault : Cond.code yX7_fault cX7_fault 1 (some .int) ∈ wsL_law := wT_at 615 (by decide +kernel) (by decide +kernel)
theorem tiX7_fault : Cond.instanceMethod yX7_fault ∈ wsL_law := wT_at 613 (by decide +kernel) (by decide +kernel)
theorem tsX7_fault : Cond.selects RX7 yX7_fault yX7_fault ∈ wsL_law := wT_at 614 (by decide +kernel) (by decide +kernel)
theorem tlL_236 : Cond.methodLink RL 236 yX7_read ∈ wsL_law := wT_at 501 (by decide +kernel) (by decide +kernel)
theorem tcX7_read : Cond.code yX7_read cX7_read 2 (some .int) ∈ wsL_law := wT_at 504 (by decide +kernel) (by decide +kernel)
theorem tiX7_read : Cond.instanceMethod yX7_read ∈ wsL_law := wT_at 502 (by decide +kernel) (by decide +kernel)
theorem tsX7_read : Cond.selects RX7 yX7_read yX7_read ∈ wsL_law := wT_at 503 (by decide +kernel) (by decide +kernel)
theorem tkL_239 : Cond.constant RL 239 (-100005) ∈ wsL_law := wT_at 1191 (by decide +kernel) (by decide +kernel)
theorem tcL_stock : Cond.code yL_stock cL_stock 2 (some .int) ∈ wsL_law := wT_at 972 (by decide +kernel) (by decide +kernel)
theorem tlL_240 : Cond.methodLink RL 240 yL_stock ∈ wsL_law := wT_at 970 (by decide +kernel) (by decide +kernel)
theorem ttL_stock : Cond.static yL_stock ∈ wsL_law := wT_at 971 (by decide +kernel) (by decide +kernel)
theorem tcL_cell : Cond.code yL_cell cL_cell 2 (some .int) ∈ wsL_law := wT_at 655 (by decide +kernel) (by decide +kernel)
theorem tlL_244 : Cond.methodLink RL 244 yL_cell ∈ wsL_law := wT_at 653 (by decide +kernel) (by decide +kernel)
theorem ttL_cell : Cond.static yL_cell ∈ wsL_law := wT_at 654 (by decide +kernel) (by decide +kernel)
theorem tlcL_24 : Cond.classLink RL 24 RX8 ∈ wsL_law := wT_at 638 (by decide +kernel) (by decide +kernel)
theorem tinst_X8 : Cond.instantiable RX8 1 ∈ wsL_law := wT_at 639 (by decide +kernel) (by decide +kernel)
theorem tcX8_init : Cond.code yX8_init cX8_init 2 none ∈ wsL_law := wT_at 642 (by decide +kernel) (by decide +kernel)
theorem tlL_248 : Cond.methodLink RL 248 yX8_init ∈ wsL_law := wT_at 640 (by decide +kernel) (by decide +kernel)
theorem tiX8_init : Cond.instanceMethod yX8_init ∈ wsL_law := wT_at 641 (by decide +kernel) (by decide +kernel)
theorem tcL_told : Cond.code yL_told cL_told 3 (some (FieldType.object "java/lang/String")) ∈ wsL_law := wT_at 689 (by decide +kernel) (by decide +kernel)
theorem tlL_251 : Cond.methodLink RL 251 yL_told ∈ wsL_law := wT_at 687 (by decide +kernel) (by decide +kernel)
theorem ttL_told : Cond.static yL_told ∈ wsL_law := wT_at 688 (by decide +kernel) (by decide +kernel)
theorem tcL_acts : Cond.code yL_acts cL_acts 4 (some .int) ∈ wsL_law := wT_at 658 (by decide +kernel) (by decide +kernel)
theorem tlL_255 : Cond.methodLink RL 255 yL_acts ∈ wsL_law := wT_at 656 (by decide +kernel) (by decide +kernel)
theorem ttL_acts : Cond.static yL_acts ∈ wsL_law := wT_at 657 (by decide +kernel) (by decide +kernel)
theorem tcL_sailors : Cond.code yL_sailors cL_sailors 16 (some .boolean) ∈ wsL_law := wT_at 976 (wT_co 976 (by decide +kernel)) (by decide +kernel)
theorem tlL_259 : Cond.methodLink RL 259 yL_sailors ∈ wsL_law := wT_at 974 (by decide +kernel) (by decide +kernel)
theorem ttL_sailors : Cond.static yL_sailors ∈ wsL_law := wT_at 975 (by decide +kernel) (by decide +kernel)
theorem tcL_sights : Cond.code yL_sights cL_sights 13 (some .boolean) ∈ wsL_law := wT_at 1099 (wT_co 1099 (by decide +kernel)) (by decide +kernel)
theorem tlL_263 : Cond.methodLink RL 263 yL_sights ∈ wsL_law := wT_at 1097 (by decide +kernel) (by decide +kernel)
theorem ttL_sights : Cond.static yL_sights ∈ wsL_law := wT_at 1098 (by decide +kernel) (by decide +kernel)
theorem tcL_alike : Cond.code yL_alike cL_alike 12 (some .boolean) ∈ wsL_law := wT_at 1152 (by decide +kernel) (by decide +kernel)
theorem tlL_266 : Cond.methodLink RL 266 yL_alike ∈ wsL_law := wT_at 1150 (by decide +kernel) (by decide +kernel)
theorem ttL_alike : Cond.static yL_alike ∈ wsL_law := wT_at 1151 (by decide +kernel) (by decide +kernel)
theorem tcL_foretold : Cond.code yL_foretold cL_foretold 12 (some .boolean) ∈ wsL_law := wT_at 1176 (by decide +kernel) (by decide +kernel)
theorem tlL_269 : Cond.methodLink RL 269 yL_foretold ∈ wsL_law := wT_at 1174 (by decide +kernel) (by decide +kernel)
theorem ttL_foretold : Cond.static yL_foretold ∈ wsL_law := wT_at 1175 (by decide +kernel) (by decide +kernel)
theorem tdX7_undo : yX7_undo.cls ≠ "java/lang/invoke/MethodHandle" ∧ yX7_undo.cls ≠ "java/lang/invoke/VarHandle" ∧ (parseMethodDescriptor yX7_undo.desc).map (fun d => d.parameters.length) = some 0 := by decide +kernel
theorem tdX7_reason : yX7_reason.cls ≠ "java/lang/invoke/MethodHandle" ∧ yX7_reason.cls ≠ "java/lang/invoke/VarHandle" ∧ (parseMethodDescriptor yX7_reason.desc).map (fun d => d.parameters.length) = some 2 := by decide +kernel
theorem tdX7_fault : yX7_fault.cls ≠ "java/lang/invoke/MethodHandle" ∧ yX7_fault.cls ≠ "java/lang/invoke/VarHandle" ∧ (parseMethodDescriptor yX7_fault.desc).map (fun d => d.parameters.length) = some 0 := by decide +kernel
theorem tdX7_read : yX7_read.cls ≠ "java/lang/invoke/MethodHandle" ∧ yX7_read.cls ≠ "java/lang/invoke/VarHandle" ∧ (parseMethodDescriptor yX7_read.desc).map (fun d => d.parameters.length) = some 0 := by decide +kernel
theorem tdL_stock : yL_stock.cls ≠ "java/lang/invoke/MethodHandle" ∧ yL_stock.cls ≠ "java/lang/invoke/VarHandle" ∧ (parseMethodDescriptor yL_stock.desc).map (fun d => d.parameters.length) = some 1 := by decide +kernel
theorem tdL_cell : yL_cell.cls ≠ "java/lang/invoke/MethodHandle" ∧ yL_cell.cls ≠ "java/lang/invoke/VarHandle" ∧ (parseMethodDescriptor yL_cell.desc).map (fun d => d.parameters.length) = some 2 := by decide +kernel
theorem tdX8_init : yX8_init.cls ≠ "java/lang/invoke/MethodHandle" ∧ yX8_init.cls ≠ "java/lang/invoke/VarHandle" ∧ (parseMethodDescriptor yX8_init.desc).map (fun d => d.parameters.length) = some 1 := by decide +kernel
theorem tdL_told : yL_told.cls ≠ "java/lang/invoke/MethodHandle" ∧ yL_told.cls ≠ "java/lang/invoke/VarHandle" ∧ (parseMethodDescriptor yL_told.desc).map (fun d => d.parameters.length) = some 1 := by decide +kernel
theorem tdL_acts : yL_acts.cls ≠ "java/lang/invoke/MethodHandle" ∧ yL_acts.cls ≠ "java/lang/invoke/VarHandle" ∧ (parseMethodDescriptor yL_acts.desc).map (fun d => d.parameters.length) = some 3 := by decide +kernel
theorem tdL_sailors : yL_sailors.cls ≠ "java/lang/invoke/MethodHandle" ∧ yL_sailors.cls ≠ "java/lang/invoke/VarHandle" ∧ (parseMethodDescriptor yL_sailors.desc).map (fun d => d.parameters.length) = some 1 := by decide +kernel
theorem tdL_sights : yL_sights.cls ≠ "java/lang/invoke/MethodHandle" ∧ yL_sights.cls ≠ "java/lang/invoke/VarHandle" ∧ (parseMethodDescriptor yL_sights.desc).map (fun d => d.parameters.length) = some 1 := by decide +kernel
theorem tdL_alike : yL_alike.cls ≠ "java/lang/invoke/MethodHandle" ∧ yL_alike.cls ≠ "java/lang/invoke/VarHandle" ∧ (parseMethodDescriptor yL_alike.desc).map (fun d => d.parameters.length) = some 1 := by decide +kernel
theorem tdL_foretold : yL_foretold.cls ≠ "java/lang/invoke/MethodHandle" ∧ yL_foretold.cls ≠ "java/lang/invoke/VarHandle" ∧ (parseMethodDescriptor yL_foretold.desc).map (fun d => d.parameters.length) = some 2 := by decide +kernel
