/-! ===== the law: words of its constructors' calls ===== -/
theorem ini_w0 : Cond.classLink RL 7 RX7 ∈ wsL_law := by decide +kernel
theorem ini_w1 : Cond.instantiable RX7 9 ∈ wsL_law := by decide +kernel
theorem ini_w2 : Cond.initialized RX7 ∈ wsL_law := by decide +kernel
theorem ini_w3 : Cond.methodLink RL 9 yX7_init ∈ wsL_law := by decide +kernel
theorem ini_w4 : Cond.instanceMethod yX7_init ∈ wsL_law := by decide +kernel
theorem ini_w5 : Cond.classLink RL 10 RX8 ∈ wsL_law := by decide +kernel
theorem ini_w6 : Cond.instantiable RX8 15 ∈ wsL_law := by decide +kernel
theorem ini_w7 : Cond.initialized RX8 ∈ wsL_law := by decide +kernel
theorem ini_w8 : Cond.methodLink RL 12 yX8_init ∈ wsL_law := by decide +kernel
theorem ini_w9 : Cond.instanceMethod yX8_init ∈ wsL_law := by decide +kernel
