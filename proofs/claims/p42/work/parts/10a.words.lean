theorem tinst_X7 : Cond.instantiable RX7 10 ∈ wsL_law := wT_at 45 (by decide +kernel) (by decide +kernel)
theorem tlcL_18 : Cond.classLink RL 18 RX7 ∈ wsL_law := wT_at 44 (by decide +kernel) (by decide +kernel)
theorem tcX7_init : Cond.code yX7_init cX7_init 1 none ∈ wsL_law := wT_at 48 (by decide +kernel) (by decide +kernel)
theorem tiX7_init : Cond.instanceMethod yX7_init ∈ wsL_law := wT_at 47 (by decide +kernel) (by decide +kernel)
theorem tlL_223 : Cond.methodLink RL 223 yX7_init ∈ wsL_law := wT_at 46 (by decide +kernel) (by decide +kernel)
theorem tdX7_init : yX7_init.cls ≠ "java/lang/invoke/MethodHandle" ∧ yX7_init.cls ≠ "java/lang/invoke/VarHandle" ∧ (parseMethodDescriptor yX7_init.desc).map (fun d => d.parameters.length) = some 0 := by decide +kernel
