set_option maxRecDepth 100000 in
theorem ggL_law_L_atomCount : GoodIn wsL_law wsL_atomCount := sorry
set_option maxRecDepth 100000 in
theorem gL_law_L_atomCount : GoodIn wsL_law (va_wsS RL 206 yL_atomCount wsL_atomCount) := sorry
set_option maxRecDepth 100000 in
theorem ggL_law_X12_atomCount : GoodIn wsL_law wsX12_atomCount := sorry
set_option maxRecDepth 100000 in
theorem gL_law_X12_atomCount : GoodIn wsL_law (wsV RL 208 RX12 yX12_atomCount wsX12_atomCount) := sorry
set_option maxRecDepth 100000 in
theorem ggL_law_L_answers : GoodIn wsL_law wsL_answers := sorry
set_option maxRecDepth 100000 in
theorem gL_law_L_answers : GoodIn wsL_law (va_wsS RL 209 yL_answers wsL_answers) := sorry
set_option maxRecDepth 100000 in
theorem ggL_law_X12_answers : GoodIn wsL_law wsX12_answers := sorry
set_option maxRecDepth 100000 in
theorem gL_law_X12_answers : GoodIn wsL_law (wsV RL 211 RX12 yX12_answers wsX12_answers) := sorry
set_option maxRecDepth 100000 in
theorem ggL_law_L_answerAt : GoodIn wsL_law wsL_answerAt := sorry
set_option maxRecDepth 100000 in
theorem gL_law_L_answerAt : GoodIn wsL_law (va_wsS RL 212 yL_answerAt wsL_answerAt) := sorry
set_option maxRecDepth 100000 in
theorem ggL_law_X12_answerAt : GoodIn wsL_law wsX12_answerAt := sorry
set_option maxRecDepth 100000 in
theorem gL_law_X12_answerAt : GoodIn wsL_law (wsV RL 214 RX12 yX12_answerAt wsX12_answerAt) := sorry
set_option maxRecDepth 100000 in
theorem ggL_law_L_seek : GoodIn wsL_law wsL_seek := sorry
set_option maxRecDepth 100000 in
theorem gL_law_L_seek : GoodIn wsL_law (va_wsS RL 215 yL_seek wsL_seek) := sorry
set_option maxRecDepth 100000 in
theorem ggL_law_X12_seek : GoodIn wsL_law wsX12_seek := sorry
set_option maxRecDepth 100000 in
theorem gL_law_X12_seek : GoodIn wsL_law (wsV RL 217 RX12 yX12_seek wsX12_seek) := sorry
set_option maxRecDepth 100000 in
theorem ggL_law_L_leaps : GoodIn wsL_law wsL_leaps := sorry
set_option maxRecDepth 100000 in
theorem gL_law_L_leaps : GoodIn wsL_law (va_wsS RL 218 yL_leaps wsL_leaps) := sorry
set_option maxRecDepth 100000 in
theorem ggL_law_X12_leaps_ : GoodIn wsL_law wsX12_leaps_ := sorry
set_option maxRecDepth 100000 in
theorem gL_law_X12_leaps_ : GoodIn wsL_law (wsV RL 220 RX12 yX12_leaps_ wsX12_leaps_) := sorry
set_option maxRecDepth 100000 in
theorem ggL_law_L_groups : GoodIn wsL_law wsL_groups := sorry
set_option maxRecDepth 100000 in
theorem gL_law_L_groups : GoodIn wsL_law (va_wsS RL 221 yL_groups wsL_groups) := sorry
set_option maxRecDepth 100000 in
theorem ggL_law_X12_groups : GoodIn wsL_law wsX12_groups := sorry
set_option maxRecDepth 100000 in
theorem gL_law_X12_groups : GoodIn wsL_law (wsV RL 223 RX12 yX12_groups wsX12_groups) := sorry
set_option maxRecDepth 100000 in
theorem ggL_law_L_groupSize : GoodIn wsL_law wsL_groupSize := sorry
set_option maxRecDepth 100000 in
theorem gL_law_L_groupSize : GoodIn wsL_law (va_wsS RL 224 yL_groupSize wsL_groupSize) := sorry
set_option maxRecDepth 100000 in
theorem ggL_law_X12_groupSize : GoodIn wsL_law wsX12_groupSize := sorry
set_option maxRecDepth 100000 in
theorem gL_law_X12_groupSize : GoodIn wsL_law (wsV RL 226 RX12 yX12_groupSize wsX12_groupSize) := sorry
set_option maxRecDepth 100000 in
theorem ggL_law_L_idleRows : GoodIn wsL_law wsL_idleRows := sorry
set_option maxRecDepth 100000 in
theorem gL_law_L_idleRows : GoodIn wsL_law (va_wsS RL 227 yL_idleRows wsL_idleRows) := sorry
set_option maxRecDepth 100000 in
theorem ggL_law_X12_idleRows : GoodIn wsL_law wsX12_idleRows := sorry
set_option maxRecDepth 100000 in
theorem gL_law_X12_idleRows : GoodIn wsL_law (wsV RL 229 RX12 yX12_idleRows wsX12_idleRows) := sorry
set_option maxRecDepth 100000 in
theorem ggL_law_L_isTree : GoodIn wsL_law wsL_isTree := sorry
set_option maxRecDepth 100000 in
theorem gL_law_L_isTree : GoodIn wsL_law (va_wsS RL 230 yL_isTree wsL_isTree) := sorry
set_option maxRecDepth 100000 in
theorem ggL_law_X12_isTree : GoodIn wsL_law wsX12_isTree := sorry
set_option maxRecDepth 100000 in
theorem gL_law_X12_isTree : GoodIn wsL_law (wsV RL 232 RX12 yX12_isTree wsX12_isTree) := sorry
set_option maxRecDepth 100000 in
theorem ggL_law_L_cover : GoodIn wsL_law wsL_cover := sorry
set_option maxRecDepth 100000 in
theorem gL_law_L_cover : GoodIn wsL_law (va_wsS RL 233 yL_cover wsL_cover) := sorry
set_option maxRecDepth 100000 in
theorem ggL_law_X12_cover : GoodIn wsL_law wsX12_cover := sorry
set_option maxRecDepth 100000 in
theorem gL_law_X12_cover : GoodIn wsL_law (wsV RL 235 RX12 yX12_cover wsX12_cover) := sorry
set_option maxRecDepth 100000 in
theorem ggL_law_L_bound : GoodIn wsL_law wsL_bound := sorry
set_option maxRecDepth 100000 in
theorem gL_law_L_bound : GoodIn wsL_law (va_wsS RL 236 yL_bound wsL_bound) := sorry
set_option maxRecDepth 100000 in
theorem ggL_law_X12_bound : GoodIn wsL_law wsX12_bound := sorry
set_option maxRecDepth 100000 in
theorem gL_law_X12_bound : GoodIn wsL_law (wsV RL 238 RX12 yX12_bound wsX12_bound) := sorry
set_option maxRecDepth 100000 in
theorem ggL_law_X11_ruleCount : GoodIn wsL_law wsX11_ruleCount := sorry
