theorem zm_wsL_firings_0 : ∀ w ∈ wsL_firings_r1, w ∈ wsL_firings := sorry
theorem zm_wsL_firings_1 : ∀ w ∈ wsL_firings_r2, w ∈ wsL_firings := sorry
theorem zm_wsL_firings_2 : ∀ w ∈ wsL_firings_r3, w ∈ wsL_firings := sorry
theorem zm_wsL_firings_3 : ∀ w ∈ wsL_firings_r4, w ∈ wsL_firings := sorry
theorem zm_wsL_firings_4 : ∀ w ∈ wsL_firings_r5, w ∈ wsL_firings := sorry
theorem zm_wsL_firings_5 : ∀ w ∈ wsL_firings_r6, w ∈ wsL_firings := sorry
theorem zm_wsL_firings_6 : ∀ w ∈ wsL_firings_r7, w ∈ wsL_firings := sorry
theorem zm_wsL_firings_7 : ∀ w ∈ wsL_firings_r8, w ∈ wsL_firings := sorry
theorem zm_wsL_firings_8 : ∀ w ∈ wsL_firings_r9, w ∈ wsL_firings := sorry
theorem zm_wsL_firings_9 : ∀ w ∈ wsL_firings_r10, w ∈ wsL_firings := sorry
theorem zm_wsL_firings_10 : ∀ w ∈ wsX110, w ∈ wsL_firings := sorry
theorem zm_wsL_firings_11 : ∀ w ∈ wsX40, w ∈ wsL_firings := sorry
theorem zm_wsL_firings_12 : ∀ w ∈ wsX90, w ∈ wsL_firings := sorry
theorem zm_wsL_firings_13 : ∀ w ∈ wsX20, w ∈ wsL_firings := sorry
theorem zm_wsL_firings_14 : ∀ w ∈ wsX60, w ∈ wsL_firings := sorry
theorem zm_wsL_firings_15 : ∀ w ∈ wsX70, w ∈ wsL_firings := sorry
theorem zm_wsL_firings_16 : ∀ w ∈ wsX80, w ∈ wsL_firings := sorry
theorem zm_wsL_isIdle_0 : ∀ w ∈ wsL_isIdle_r1, w ∈ wsL_isIdle := sorry
theorem zm_wsL_isIdle_1 : ∀ w ∈ wsL_isIdle_r2, w ∈ wsL_isIdle := sorry
theorem zm_wsL_isIdle_2 : ∀ w ∈ wsX110, w ∈ wsL_isIdle := sorry
theorem zm_wsL_isIdle_3 : ∀ w ∈ wsX90, w ∈ wsL_isIdle := sorry
theorem zm_wsL_isIdle_4 : ∀ w ∈ wsX20, w ∈ wsL_isIdle := sorry
theorem zm_wsL_isIdle_5 : ∀ w ∈ wsX60, w ∈ wsL_isIdle := sorry
theorem zm_wsL_layerOf_0 : ∀ w ∈ wsL_layerOf_r1, w ∈ wsL_layerOf := sorry
theorem zm_wsL_layerOf_1 : ∀ w ∈ wsL_layerOf_r2, w ∈ wsL_layerOf := sorry
theorem zm_wsL_layerOf_2 : ∀ w ∈ wsL_layerOf_r3, w ∈ wsL_layerOf := sorry
theorem zm_wsL_layerOf_3 : ∀ w ∈ wsL_layerOf_r4, w ∈ wsL_layerOf := sorry
theorem zm_wsL_layerOf_4 : ∀ w ∈ wsL_layerOf_r5, w ∈ wsL_layerOf := sorry
theorem zm_wsL_layerOf_5 : ∀ w ∈ wsL_layerOf_r6, w ∈ wsL_layerOf := sorry
theorem zm_wsL_layerOf_6 : ∀ w ∈ wsL_layerOf_r7, w ∈ wsL_layerOf := sorry
theorem zm_wsL_layerOf_7 : ∀ w ∈ wsL_layerOf_r8, w ∈ wsL_layerOf := sorry
theorem zm_wsL_layerOf_8 : ∀ w ∈ wsL_layerOf_r9, w ∈ wsL_layerOf := sorry
theorem zm_wsL_layerOf_9 : ∀ w ∈ wsL_layerOf_r10, w ∈ wsL_layerOf := sorry
theorem zm_wsL_layerOf_10 : ∀ w ∈ wsX110, w ∈ wsL_layerOf := sorry
theorem zm_wsL_layerOf_11 : ∀ w ∈ wsX40, w ∈ wsL_layerOf := sorry
theorem zm_wsL_layerOf_12 : ∀ w ∈ wsX90, w ∈ wsL_layerOf := sorry
theorem zm_wsL_layerOf_13 : ∀ w ∈ wsX20, w ∈ wsL_layerOf := sorry
theorem zm_wsL_layerOf_14 : ∀ w ∈ wsX60, w ∈ wsL_layerOf := sorry
theorem zm_wsL_layerOf_15 : ∀ w ∈ wsX70, w ∈ wsL_layerOf := sorry
theorem zm_wsL_layerOf_16 : ∀ w ∈ wsX80, w ∈ wsL_layerOf := sorry
set_option maxRecDepth 100000 in
theorem ggL_isIdle_X11_isIdle : GoodIn wsL_isIdle wsX11_isIdle := sorry
set_option maxRecDepth 100000 in
theorem gL_isIdle_X11_isIdle : GoodIn wsL_isIdle (wsV RL 116 RX11 yX11_isIdle wsX11_isIdle) := sorry
set_option maxRecDepth 100000 in
theorem ggL_layerOf_X11_layerOf : GoodIn wsL_layerOf wsX11_layerOf := sorry
set_option maxRecDepth 100000 in
theorem gL_layerOf_X11_layerOf : GoodIn wsL_layerOf (wsV RL 119 RX11 yX11_layerOf wsX11_layerOf) := sorry
set_option maxRecDepth 100000 in
theorem ggL_firings_X11_firings : GoodIn wsL_firings wsX11_firings := sorry
set_option maxRecDepth 100000 in
theorem gL_firings_X11_firings : GoodIn wsL_firings (wsV RL 122 RX11 yX11_firings wsX11_firings) := sorry
