set_option maxRecDepth 100000 in
theorem gL_law_X12_dropRule : GoodIn wsL_law (wsV RL 169 RX12 yX12_dropRule wsX12_dropRule) := sorry
set_option maxRecDepth 100000 in
theorem ggL_law_X11_undo : GoodIn wsL_law wsX11_undo := sorry
set_option maxRecDepth 100000 in
theorem gL_law_X11_undo : GoodIn wsL_law (wsV RL 170 RX11 yX11_undo wsX11_undo) := sorry
set_option maxRecDepth 100000 in
theorem ggL_law_X12_undo : GoodIn wsL_law wsX12_undo := sorry
set_option maxRecDepth 100000 in
theorem gL_law_X12_undo : GoodIn wsL_law (wsV RL 173 RX12 yX12_undo wsX12_undo) := sorry
set_option maxRecDepth 100000 in
theorem ggL_law_X11_tableCount : GoodIn wsL_law wsX11_tableCount := sorry
set_option maxRecDepth 100000 in
theorem gL_law_X11_tableCount : GoodIn wsL_law (wsV RL 174 RX11 yX11_tableCount wsX11_tableCount) := sorry
set_option maxRecDepth 100000 in
theorem ggL_law_X12_tableCount : GoodIn wsL_law wsX12_tableCount := sorry
set_option maxRecDepth 100000 in
theorem gL_law_X12_tableCount : GoodIn wsL_law (wsV RL 177 RX12 yX12_tableCount wsX12_tableCount) := sorry
set_option maxRecDepth 100000 in
theorem ggL_law_L_columns : GoodIn wsL_law wsL_columns := sorry
set_option maxRecDepth 100000 in
theorem gL_law_L_columns : GoodIn wsL_law (va_wsS RL 178 yL_columns wsL_columns) := sorry
set_option maxRecDepth 100000 in
theorem ggL_law_X12_columns : GoodIn wsL_law wsX12_columns := sorry
set_option maxRecDepth 100000 in
theorem gL_law_X12_columns : GoodIn wsL_law (wsV RL 180 RX12 yX12_columns wsX12_columns) := sorry
set_option maxRecDepth 100000 in
theorem ggL_law_L_factCount : GoodIn wsL_law wsL_factCount := sorry
set_option maxRecDepth 100000 in
theorem gL_law_L_factCount : GoodIn wsL_law (va_wsS RL 181 yL_factCount wsL_factCount) := sorry
set_option maxRecDepth 100000 in
theorem ggL_law_X12_factCount : GoodIn wsL_law wsX12_factCount := sorry
set_option maxRecDepth 100000 in
theorem gL_law_X12_factCount : GoodIn wsL_law (wsV RL 183 RX12 yX12_factCount wsX12_factCount) := sorry
set_option maxRecDepth 100000 in
theorem ggL_law_L_rowCount : GoodIn wsL_law wsL_rowCount := sorry
set_option maxRecDepth 100000 in
theorem gL_law_L_rowCount : GoodIn wsL_law (va_wsS RL 184 yL_rowCount wsL_rowCount) := sorry
set_option maxRecDepth 100000 in
theorem ggL_law_X12_rowCount : GoodIn wsL_law wsX12_rowCount := sorry
set_option maxRecDepth 100000 in
theorem gL_law_X12_rowCount : GoodIn wsL_law (wsV RL 186 RX12 yX12_rowCount wsX12_rowCount) := sorry
set_option maxRecDepth 100000 in
theorem ggL_law_L_isFact : GoodIn wsL_law wsL_isFact := sorry
set_option maxRecDepth 100000 in
theorem gL_law_L_isFact : GoodIn wsL_law (va_wsS RL 187 yL_isFact wsL_isFact) := sorry
set_option maxRecDepth 100000 in
theorem ggL_law_X12_isFact : GoodIn wsL_law wsX12_isFact := sorry
set_option maxRecDepth 100000 in
theorem gL_law_X12_isFact : GoodIn wsL_law (wsV RL 189 RX12 yX12_isFact wsX12_isFact) := sorry
set_option maxRecDepth 100000 in
theorem ggL_law_L_reasons : GoodIn wsL_law wsL_reasons := sorry
set_option maxRecDepth 100000 in
theorem gL_law_L_reasons : GoodIn wsL_law (va_wsS RL 190 yL_reasons wsL_reasons) := sorry
set_option maxRecDepth 100000 in
theorem ggL_law_X12_reasons : GoodIn wsL_law wsX12_reasons := sorry
set_option maxRecDepth 100000 in
theorem gL_law_X12_reasons : GoodIn wsL_law (wsV RL 192 RX12 yX12_reasons wsX12_reasons) := sorry
set_option maxRecDepth 100000 in
theorem ggL_law_L_rowAt : GoodIn wsL_law wsL_rowAt := sorry
set_option maxRecDepth 100000 in
theorem gL_law_L_rowAt : GoodIn wsL_law (va_wsS RL 193 yL_rowAt wsL_rowAt) := sorry
set_option maxRecDepth 100000 in
theorem ggL_law_X12_rowAt : GoodIn wsL_law wsX12_rowAt := sorry
set_option maxRecDepth 100000 in
theorem gL_law_X12_rowAt : GoodIn wsL_law (wsV RL 196 RX12 yX12_rowAt wsX12_rowAt) := sorry
set_option maxRecDepth 100000 in
theorem ggL_law_L_firstFrom : GoodIn wsL_law wsL_firstFrom := sorry
set_option maxRecDepth 100000 in
theorem gL_law_L_firstFrom : GoodIn wsL_law (va_wsS RL 197 yL_firstFrom wsL_firstFrom) := sorry
set_option maxRecDepth 100000 in
theorem ggL_law_X12_firstFrom : GoodIn wsL_law wsX12_firstFrom := sorry
set_option maxRecDepth 100000 in
theorem gL_law_X12_firstFrom : GoodIn wsL_law (wsV RL 199 RX12 yX12_firstFrom wsX12_firstFrom) := sorry
set_option maxRecDepth 100000 in
theorem ggL_law_L_values : GoodIn wsL_law wsL_values := sorry
set_option maxRecDepth 100000 in
theorem gL_law_L_values : GoodIn wsL_law (va_wsS RL 200 yL_values wsL_values) := sorry
set_option maxRecDepth 100000 in
theorem ggL_law_X12_values : GoodIn wsL_law wsX12_values := sorry
set_option maxRecDepth 100000 in
theorem gL_law_X12_values : GoodIn wsL_law (wsV RL 202 RX12 yX12_values wsX12_values) := sorry
set_option maxRecDepth 100000 in
theorem ggL_law_L_lower : GoodIn wsL_law wsL_lower := sorry
set_option maxRecDepth 100000 in
theorem gL_law_L_lower : GoodIn wsL_law (va_wsS RL 203 yL_lower wsL_lower) := sorry
set_option maxRecDepth 100000 in
theorem ggL_law_X12_lower : GoodIn wsL_law wsX12_lower := sorry
set_option maxRecDepth 100000 in
theorem gL_law_X12_lower : GoodIn wsL_law (wsV RL 205 RX12 yX12_lower wsX12_lower) := sorry
