theorem tinst_X7 : Cond.instantiable RX7 10 ∈ wsL_law := wT_at 78 (by decide +kernel) (by decide +kernel)
theorem tinst_X8 : Cond.instantiable RX8 24 ∈ wsL_law := wT_at 854 (by decide +kernel) (by decide +kernel)
theorem tlcL_7 : Cond.classLink RL 7 RX7 ∈ wsL_law := wT_at 77 (by decide +kernel) (by decide +kernel)
theorem tlcL_10 : Cond.classLink RL 10 RX8 ∈ wsL_law := wT_at 853 (by decide +kernel) (by decide +kernel)
theorem tcX7_init : Cond.code yX7_init cX7_init 1 none ∈ wsL_law := wT_at 81 (by decide +kernel) (by decide +kernel)
theorem tcX8_init : Cond.code yX8_init cX8_init 2 none ∈ wsL_law := wT_at 857 (by decide +kernel) (by decide +kernel)
theorem tiX7_init : Cond.instanceMethod yX7_init ∈ wsL_law := wT_at 80 (by decide +kernel) (by decide +kernel)
theorem tiX8_init : Cond.instanceMethod yX8_init ∈ wsL_law := wT_at 856 (by decide +kernel) (by decide +kernel)
theorem tlL_9 : Cond.methodLink RL 9 yX7_init ∈ wsL_law := wT_at 79 (by decide +kernel) (by decide +kernel)
theorem tlL_12 : Cond.methodLink RL 12 yX8_init ∈ wsL_law := wT_at 855 (by decide +kernel) (by decide +kernel)
theorem tdX7_init : yX7_init.cls ≠ "java/lang/invoke/MethodHandle" ∧ yX7_init.cls ≠ "java/lang/invoke/VarHandle" ∧ (parseMethodDescriptor yX7_init.desc).map (fun d => d.parameters.length) = some 0 := by decide +kernel
theorem tdX8_init : yX8_init.cls ≠ "java/lang/invoke/MethodHandle" ∧ yX8_init.cls ≠ "java/lang/invoke/VarHandle" ∧ (parseMethodDescriptor yX8_init.desc).map (fun d => d.parameters.length) = some 0 := by decide +kernel
