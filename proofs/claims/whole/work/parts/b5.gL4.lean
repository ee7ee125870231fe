set_option maxRecDepth 100000 in
theorem gL_law_X11_ruleCount : GoodIn wsL_law (wsV RL 239 RX11 yX11_ruleCount wsX11_ruleCount) := sorry
set_option maxRecDepth 100000 in
theorem ggL_law_X12_ruleCount : GoodIn wsL_law wsX12_ruleCount := sorry
set_option maxRecDepth 100000 in
theorem gL_law_X12_ruleCount : GoodIn wsL_law (wsV RL 242 RX12 yX12_ruleCount wsX12_ruleCount) := sorry
set_option maxRecDepth 100000 in
theorem ggL_law_L_isIdle : GoodIn wsL_law wsL_isIdle := sorry
set_option maxRecDepth 100000 in
theorem gL_law_L_isIdle : GoodIn wsL_law (va_wsS RL 243 yL_isIdle wsL_isIdle) := sorry
set_option maxRecDepth 100000 in
theorem ggL_law_X12_isIdle : GoodIn wsL_law wsX12_isIdle := sorry
set_option maxRecDepth 100000 in
theorem gL_law_X12_isIdle : GoodIn wsL_law (wsV RL 245 RX12 yX12_isIdle wsX12_isIdle) := sorry
set_option maxRecDepth 100000 in
theorem ggL_law_L_layerOf : GoodIn wsL_law wsL_layerOf := sorry
set_option maxRecDepth 100000 in
theorem gL_law_L_layerOf : GoodIn wsL_law (va_wsS RL 246 yL_layerOf wsL_layerOf) := sorry
set_option maxRecDepth 100000 in
theorem ggL_law_X12_layerOf : GoodIn wsL_law wsX12_layerOf := sorry
set_option maxRecDepth 100000 in
theorem gL_law_X12_layerOf : GoodIn wsL_law (wsV RL 248 RX12 yX12_layerOf wsX12_layerOf) := sorry
set_option maxRecDepth 100000 in
theorem ggL_law_X11_rounds : GoodIn wsL_law wsX11_rounds := sorry
set_option maxRecDepth 100000 in
theorem gL_law_X11_rounds : GoodIn wsL_law (wsV RL 249 RX11 yX11_rounds wsX11_rounds) := sorry
set_option maxRecDepth 100000 in
theorem ggL_law_X12_rounds : GoodIn wsL_law wsX12_rounds := sorry
set_option maxRecDepth 100000 in
theorem gL_law_X12_rounds : GoodIn wsL_law (wsV RL 252 RX12 yX12_rounds wsX12_rounds) := sorry
set_option maxRecDepth 100000 in
theorem ggL_law_L_firings : GoodIn wsL_law wsL_firings := sorry
set_option maxRecDepth 100000 in
theorem gL_law_L_firings : GoodIn wsL_law (va_wsS RL 253 yL_firings wsL_firings) := sorry
set_option maxRecDepth 100000 in
theorem ggL_law_X12_firings : GoodIn wsL_law wsX12_firings := sorry
set_option maxRecDepth 100000 in
theorem gL_law_X12_firings : GoodIn wsL_law (wsV RL 255 RX12 yX12_firings wsX12_firings) := sorry
set_option maxRecDepth 100000 in
theorem ggL_law_X11_meanReasons : GoodIn wsL_law wsX11_meanReasons := sorry
set_option maxRecDepth 100000 in
theorem gL_law_X11_meanReasons : GoodIn wsL_law (wsV RL 256 RX11 yX11_meanReasons wsX11_meanReasons) := sorry
set_option maxRecDepth 100000 in
theorem ggL_law_X12_meanReasons : GoodIn wsL_law wsX12_meanReasons := sorry
set_option maxRecDepth 100000 in
theorem gL_law_X12_meanReasons : GoodIn wsL_law (wsV RL 260 RX12 yX12_meanReasons wsX12_meanReasons) := sorry
set_option maxRecDepth 100000 in
theorem ggL_law_X11_factShare : GoodIn wsL_law wsX11_factShare := sorry
set_option maxRecDepth 100000 in
theorem gL_law_X11_factShare : GoodIn wsL_law (wsV RL 261 RX11 yX11_factShare wsX11_factShare) := sorry
set_option maxRecDepth 100000 in
theorem ggL_law_X12_factShare : GoodIn wsL_law wsX12_factShare := sorry
set_option maxRecDepth 100000 in
theorem gL_law_X12_factShare : GoodIn wsL_law (wsV RL 265 RX12 yX12_factShare wsX12_factShare) := sorry
set_option maxRecDepth 100000 in
theorem ggL_law_X11_errors : GoodIn wsL_law wsX11_errors := sorry
set_option maxRecDepth 100000 in
theorem gL_law_X11_errors : GoodIn wsL_law (wsV RL 266 RX11 yX11_errors wsX11_errors) := sorry
set_option maxRecDepth 100000 in
theorem ggL_law_X12_errors : GoodIn wsL_law wsX12_errors := sorry
set_option maxRecDepth 100000 in
theorem gL_law_X12_errors : GoodIn wsL_law (wsV RL 269 RX12 yX12_errors wsX12_errors) := sorry
set_option maxRecDepth 100000 in
theorem ggL_law_X11_checksum : GoodIn wsL_law wsX11_checksum := sorry
set_option maxRecDepth 100000 in
theorem gL_law_X11_checksum : GoodIn wsL_law (wsV RL 270 RX11 yX11_checksum wsX11_checksum) := sorry
set_option maxRecDepth 100000 in
theorem ggL_law_X12_checksum : GoodIn wsL_law wsX12_checksum := sorry
set_option maxRecDepth 100000 in
theorem gL_law_X12_checksum : GoodIn wsL_law (wsV RL 273 RX12 yX12_checksum wsX12_checksum) := sorry
