theorem zm_wsL_addAtom_0 : ∀ w ∈ wsL_addAtom_r1, w ∈ wsL_addAtom := sorry
theorem zm_wsL_addAtom_1 : ∀ w ∈ wsL_addAtom_r2, w ∈ wsL_addAtom := sorry
theorem zm_wsL_addAtom_2 : ∀ w ∈ wsL_addAtom_r3, w ∈ wsL_addAtom := sorry
theorem zm_wsL_addAtom_3 : ∀ w ∈ wsL_addAtom_r4, w ∈ wsL_addAtom := sorry
theorem zm_wsL_addAtom_4 : ∀ w ∈ wsL_addAtom_r5, w ∈ wsL_addAtom := sorry
theorem zm_wsL_addAtom_5 : ∀ w ∈ wsX110, w ∈ wsL_addAtom := sorry
theorem zm_wsL_addAtom_6 : ∀ w ∈ wsX20, w ∈ wsL_addAtom := sorry
theorem zm_wsL_addAtom_7 : ∀ w ∈ wsX90, w ∈ wsL_addAtom := sorry
theorem zm_wsL_addAtom_8 : ∀ w ∈ wsX60, w ∈ wsL_addAtom := sorry
theorem zm_wsL_addAtom_9 : ∀ w ∈ wsX50, w ∈ wsL_addAtom := sorry
theorem zm_wsL_addAtom_10 : ∀ w ∈ wsX70, w ∈ wsL_addAtom := sorry
theorem zm_wsL_addFact_0 : ∀ w ∈ wsL_addFact_r1, w ∈ wsL_addFact := sorry
theorem zm_wsL_addFact_1 : ∀ w ∈ wsL_addFact_r2, w ∈ wsL_addFact := sorry
theorem zm_wsL_addFact_2 : ∀ w ∈ wsL_addFact_r3, w ∈ wsL_addFact := sorry
theorem zm_wsL_addFact_3 : ∀ w ∈ wsL_addFact_r4, w ∈ wsL_addFact := sorry
theorem zm_wsL_addFact_4 : ∀ w ∈ wsL_addFact_r5, w ∈ wsL_addFact := sorry
theorem zm_wsL_addFact_5 : ∀ w ∈ wsL_addFact_r6, w ∈ wsL_addFact := sorry
theorem zm_wsL_addFact_6 : ∀ w ∈ wsX110, w ∈ wsL_addFact := sorry
theorem zm_wsL_addFact_7 : ∀ w ∈ wsX90, w ∈ wsL_addFact := sorry
theorem zm_wsL_addFact_8 : ∀ w ∈ wsX60, w ∈ wsL_addFact := sorry
theorem zm_wsL_addFact_9 : ∀ w ∈ wsX70, w ∈ wsL_addFact := sorry
theorem zm_wsL_addFact_10 : ∀ w ∈ wsX50, w ∈ wsL_addFact := sorry
theorem zm_wsL_addFact_11 : ∀ w ∈ wsX20, w ∈ wsL_addFact := sorry
theorem zm_wsL_addFact_12 : ∀ w ∈ wsX40, w ∈ wsL_addFact := sorry
theorem zm_wsL_addRule_0 : ∀ w ∈ wsL_addRule_r1, w ∈ wsL_addRule := sorry
theorem zm_wsL_addRule_1 : ∀ w ∈ wsL_addRule_r2, w ∈ wsL_addRule := sorry
theorem zm_wsL_addRule_2 : ∀ w ∈ wsL_addRule_r3, w ∈ wsL_addRule := sorry
theorem zm_wsL_addRule_3 : ∀ w ∈ wsL_addRule_r4, w ∈ wsL_addRule := sorry
theorem zm_wsL_addRule_4 : ∀ w ∈ wsL_addRule_r5, w ∈ wsL_addRule := sorry
theorem zm_wsL_addRule_5 : ∀ w ∈ wsX110, w ∈ wsL_addRule := sorry
theorem zm_wsL_addRule_6 : ∀ w ∈ wsX90, w ∈ wsL_addRule := sorry
theorem zm_wsL_addRule_7 : ∀ w ∈ wsX60, w ∈ wsL_addRule := sorry
theorem zm_wsL_addRule_8 : ∀ w ∈ wsX50, w ∈ wsL_addRule := sorry
theorem zm_wsL_addRule_9 : ∀ w ∈ wsX70, w ∈ wsL_addRule := sorry
theorem zm_wsL_addRule_10 : ∀ w ∈ wsX20, w ∈ wsL_addRule := sorry
theorem zm_wsL_addRule_11 : ∀ w ∈ wsX40, w ∈ wsL_addRule := sorry
theorem zm_wsL_addRuleAtom_0 : ∀ w ∈ wsL_addRuleAtom_r1, w ∈ wsL_addRuleAtom := sorry
theorem zm_wsL_addRuleAtom_1 : ∀ w ∈ wsL_addRuleAtom_r2, w ∈ wsL_addRuleAtom := sorry
theorem zm_wsL_addRuleAtom_2 : ∀ w ∈ wsL_addRuleAtom_r3, w ∈ wsL_addRuleAtom := sorry
theorem zm_wsL_addRuleAtom_3 : ∀ w ∈ wsL_addRuleAtom_r4, w ∈ wsL_addRuleAtom := sorry
theorem zm_wsL_addRuleAtom_4 : ∀ w ∈ wsL_addRuleAtom_r5, w ∈ wsL_addRuleAtom := sorry
theorem zm_wsL_addRuleAtom_5 : ∀ w ∈ wsL_addRuleAtom_r6, w ∈ wsL_addRuleAtom := sorry
theorem zm_wsL_addRuleAtom_6 : ∀ w ∈ wsL_addRuleAtom_r7, w ∈ wsL_addRuleAtom := sorry
theorem zm_wsL_addRuleAtom_7 : ∀ w ∈ wsX110, w ∈ wsL_addRuleAtom := sorry
theorem zm_wsL_addRuleAtom_8 : ∀ w ∈ wsX20, w ∈ wsL_addRuleAtom := sorry
theorem zm_wsL_addRuleAtom_9 : ∀ w ∈ wsX90, w ∈ wsL_addRuleAtom := sorry
theorem zm_wsL_addRuleAtom_10 : ∀ w ∈ wsX60, w ∈ wsL_addRuleAtom := sorry
theorem zm_wsL_addRuleAtom_11 : ∀ w ∈ wsX40, w ∈ wsL_addRuleAtom := sorry
theorem zm_wsL_addRuleAtom_12 : ∀ w ∈ wsX50, w ∈ wsL_addRuleAtom := sorry
theorem zm_wsL_addRuleAtom_13 : ∀ w ∈ wsX70, w ∈ wsL_addRuleAtom := sorry
theorem zm_wsL_addTable_0 : ∀ w ∈ wsL_addTable_r1, w ∈ wsL_addTable := sorry
theorem zm_wsL_addTable_1 : ∀ w ∈ wsL_addTable_r2, w ∈ wsL_addTable := sorry
theorem zm_wsL_addTable_2 : ∀ w ∈ wsL_addTable_r3, w ∈ wsL_addTable := sorry
theorem zm_wsL_addTable_3 : ∀ w ∈ wsL_addTable_r4, w ∈ wsL_addTable := sorry
theorem zm_wsL_addTable_4 : ∀ w ∈ wsX110, w ∈ wsL_addTable := sorry
theorem zm_wsL_addTable_5 : ∀ w ∈ wsX90, w ∈ wsL_addTable := sorry
theorem zm_wsL_addTable_6 : ∀ w ∈ wsX50, w ∈ wsL_addTable := sorry
theorem zm_wsL_addTable_7 : ∀ w ∈ wsX60, w ∈ wsL_addTable := sorry
theorem zm_wsL_addTable_8 : ∀ w ∈ wsX70, w ∈ wsL_addTable := sorry
theorem zm_wsL_addTable_9 : ∀ w ∈ wsX20, w ∈ wsL_addTable := sorry
theorem zm_wsL_addTable_10 : ∀ w ∈ wsX40, w ∈ wsL_addTable := sorry
theorem zm_wsL_clearIdle_0 : ∀ w ∈ wsL_clearIdle_r1, w ∈ wsL_clearIdle := sorry
theorem zm_wsL_clearIdle_1 : ∀ w ∈ wsL_clearIdle_r2, w ∈ wsL_clearIdle := sorry
theorem zm_wsL_clearIdle_2 : ∀ w ∈ wsL_clearIdle_r3, w ∈ wsL_clearIdle := sorry
theorem zm_wsL_clearIdle_3 : ∀ w ∈ wsL_clearIdle_r4, w ∈ wsL_clearIdle := sorry
theorem zm_wsL_clearIdle_4 : ∀ w ∈ wsL_clearIdle_r5, w ∈ wsL_clearIdle := sorry
theorem zm_wsL_clearIdle_5 : ∀ w ∈ wsL_clearIdle_r6, w ∈ wsL_clearIdle := sorry
theorem zm_wsL_clearIdle_6 : ∀ w ∈ wsL_clearIdle_r7, w ∈ wsL_clearIdle := sorry
theorem zm_wsL_clearIdle_7 : ∀ w ∈ wsL_clearIdle_r8, w ∈ wsL_clearIdle := sorry
theorem zm_wsL_clearIdle_8 : ∀ w ∈ wsL_clearIdle_r9, w ∈ wsL_clearIdle := sorry
theorem zm_wsL_clearIdle_9 : ∀ w ∈ wsL_clearIdle_r10, w ∈ wsL_clearIdle := sorry
theorem zm_wsL_clearIdle_10 : ∀ w ∈ wsL_clearIdle_r11, w ∈ wsL_clearIdle := sorry
theorem zm_wsL_clearIdle_11 : ∀ w ∈ wsL_clearIdle_r12, w ∈ wsL_clearIdle := sorry
theorem zm_wsL_clearIdle_12 : ∀ w ∈ wsL_clearIdle_r13, w ∈ wsL_clearIdle := sorry
theorem zm_wsL_clearIdle_13 : ∀ w ∈ wsL_clearIdle_r14, w ∈ wsL_clearIdle := sorry
theorem zm_wsL_clearIdle_14 : ∀ w ∈ wsL_clearIdle_r15, w ∈ wsL_clearIdle := sorry
theorem zm_wsL_clearIdle_15 : ∀ w ∈ wsX110, w ∈ wsL_clearIdle := sorry
theorem zm_wsL_clearIdle_16 : ∀ w ∈ wsX90, w ∈ wsL_clearIdle := sorry
theorem zm_wsL_clearIdle_17 : ∀ w ∈ wsX20, w ∈ wsL_clearIdle := sorry
theorem zm_wsL_clearIdle_18 : ∀ w ∈ wsX40, w ∈ wsL_clearIdle := sorry
theorem zm_wsL_clearIdle_19 : ∀ w ∈ wsX60, w ∈ wsL_clearIdle := sorry
theorem zm_wsL_clearIdle_20 : ∀ w ∈ wsX70, w ∈ wsL_clearIdle := sorry
theorem zm_wsL_clearIdle_21 : ∀ w ∈ wsX80, w ∈ wsL_clearIdle := sorry
theorem zm_wsL_clearIdle_22 : ∀ w ∈ wsX00, w ∈ wsL_clearIdle := sorry
theorem zm_wsL_clearIdle_23 : ∀ w ∈ wsX50, w ∈ wsL_clearIdle := sorry
theorem zm_wsL_clearQuery_0 : ∀ w ∈ wsL_clearQuery_r1, w ∈ wsL_clearQuery := sorry
theorem zm_wsL_clearQuery_1 : ∀ w ∈ wsL_clearQuery_r2, w ∈ wsL_clearQuery := sorry
theorem zm_wsL_clearQuery_2 : ∀ w ∈ wsL_clearQuery_r3, w ∈ wsL_clearQuery := sorry
theorem zm_wsL_clearQuery_3 : ∀ w ∈ wsL_clearQuery_r4, w ∈ wsL_clearQuery := sorry
theorem zm_wsL_clearQuery_4 : ∀ w ∈ wsX110, w ∈ wsL_clearQuery := sorry
theorem zm_wsL_clearQuery_5 : ∀ w ∈ wsX20, w ∈ wsL_clearQuery := sorry
theorem zm_wsL_clearQuery_6 : ∀ w ∈ wsX90, w ∈ wsL_clearQuery := sorry
theorem zm_wsL_clearQuery_7 : ∀ w ∈ wsX50, w ∈ wsL_clearQuery := sorry
theorem zm_wsL_clearQuery_8 : ∀ w ∈ wsX60, w ∈ wsL_clearQuery := sorry
theorem zm_wsL_clearQuery_9 : ∀ w ∈ wsX70, w ∈ wsL_clearQuery := sorry
theorem zm_wsL_columns_1 : ∀ w ∈ wsX110, w ∈ wsL_columns := sorry
theorem zm_wsL_columns_2 : ∀ w ∈ wsX90, w ∈ wsL_columns := sorry
theorem zm_wsL_columns_3 : ∀ w ∈ wsX60, w ∈ wsL_columns := sorry
theorem zm_wsL_dropRule_0 : ∀ w ∈ wsL_dropRule_r1, w ∈ wsL_dropRule := sorry
theorem zm_wsL_dropRule_1 : ∀ w ∈ wsL_dropRule_r2, w ∈ wsL_dropRule := sorry
theorem zm_wsL_dropRule_2 : ∀ w ∈ wsL_dropRule_r3, w ∈ wsL_dropRule := sorry
theorem zm_wsL_dropRule_3 : ∀ w ∈ wsL_dropRule_r4, w ∈ wsL_dropRule := sorry
theorem zm_wsL_dropRule_4 : ∀ w ∈ wsX110, w ∈ wsL_dropRule := sorry
theorem zm_wsL_dropRule_5 : ∀ w ∈ wsX90, w ∈ wsL_dropRule := sorry
theorem zm_wsL_dropRule_6 : ∀ w ∈ wsX50, w ∈ wsL_dropRule := sorry
theorem zm_wsL_dropRule_7 : ∀ w ∈ wsX60, w ∈ wsL_dropRule := sorry
theorem zm_wsL_dropRule_8 : ∀ w ∈ wsX70, w ∈ wsL_dropRule := sorry
theorem zm_wsL_dropRule_9 : ∀ w ∈ wsX20, w ∈ wsL_dropRule := sorry
theorem zm_wsL_dropRule_10 : ∀ w ∈ wsX40, w ∈ wsL_dropRule := sorry
theorem zm_wsL_factCount_0 : ∀ w ∈ wsL_factCount_r1, w ∈ wsL_factCount := sorry
theorem zm_wsL_factCount_1 : ∀ w ∈ wsL_factCount_r2, w ∈ wsL_factCount := sorry
theorem zm_wsL_factCount_2 : ∀ w ∈ wsX110, w ∈ wsL_factCount := sorry
theorem zm_wsL_factCount_3 : ∀ w ∈ wsX90, w ∈ wsL_factCount := sorry
theorem zm_wsL_factCount_4 : ∀ w ∈ wsX70, w ∈ wsL_factCount := sorry
theorem zm_wsL_isFact_0 : ∀ w ∈ wsL_isFact_r1, w ∈ wsL_isFact := sorry
theorem zm_wsL_isFact_1 : ∀ w ∈ wsL_isFact_r2, w ∈ wsL_isFact := sorry
theorem zm_wsL_isFact_2 : ∀ w ∈ wsX110, w ∈ wsL_isFact := sorry
theorem zm_wsL_isFact_3 : ∀ w ∈ wsX90, w ∈ wsL_isFact := sorry
theorem zm_wsL_isFact_4 : ∀ w ∈ wsX60, w ∈ wsL_isFact := sorry
theorem zm_wsL_isFact_5 : ∀ w ∈ wsX70, w ∈ wsL_isFact := sorry
theorem zm_wsL_reasons_0 : ∀ w ∈ wsL_reasons_r1, w ∈ wsL_reasons := sorry
theorem zm_wsL_reasons_1 : ∀ w ∈ wsL_reasons_r2, w ∈ wsL_reasons := sorry
theorem zm_wsL_reasons_2 : ∀ w ∈ wsL_reasons_r3, w ∈ wsL_reasons := sorry
theorem zm_wsL_reasons_3 : ∀ w ∈ wsL_reasons_r4, w ∈ wsL_reasons := sorry
theorem zm_wsL_reasons_4 : ∀ w ∈ wsL_reasons_r5, w ∈ wsL_reasons := sorry
theorem zm_wsL_reasons_5 : ∀ w ∈ wsL_reasons_r6, w ∈ wsL_reasons := sorry
theorem zm_wsL_reasons_6 : ∀ w ∈ wsL_reasons_r7, w ∈ wsL_reasons := sorry
theorem zm_wsL_reasons_7 : ∀ w ∈ wsL_reasons_r8, w ∈ wsL_reasons := sorry
theorem zm_wsL_reasons_8 : ∀ w ∈ wsL_reasons_r9, w ∈ wsL_reasons := sorry
theorem zm_wsL_reasons_9 : ∀ w ∈ wsL_reasons_r10, w ∈ wsL_reasons := sorry
theorem zm_wsL_reasons_10 : ∀ w ∈ wsL_reasons_r11, w ∈ wsL_reasons := sorry
theorem zm_wsL_reasons_11 : ∀ w ∈ wsX110, w ∈ wsL_reasons := sorry
theorem zm_wsL_reasons_12 : ∀ w ∈ wsX90, w ∈ wsL_reasons := sorry
theorem zm_wsL_reasons_13 : ∀ w ∈ wsX60, w ∈ wsL_reasons := sorry
theorem zm_wsL_reasons_14 : ∀ w ∈ wsX40, w ∈ wsL_reasons := sorry
theorem zm_wsL_reasons_15 : ∀ w ∈ wsX20, w ∈ wsL_reasons := sorry
theorem zm_wsL_reasons_16 : ∀ w ∈ wsX70, w ∈ wsL_reasons := sorry
theorem zm_wsL_reasons_17 : ∀ w ∈ wsX80, w ∈ wsL_reasons := sorry
theorem zm_wsL_removeFact_0 : ∀ w ∈ wsL_removeFact_r1, w ∈ wsL_removeFact := sorry
theorem zm_wsL_removeFact_1 : ∀ w ∈ wsL_removeFact_r2, w ∈ wsL_removeFact := sorry
theorem zm_wsL_removeFact_2 : ∀ w ∈ wsL_removeFact_r3, w ∈ wsL_removeFact := sorry
theorem zm_wsL_removeFact_3 : ∀ w ∈ wsL_removeFact_r4, w ∈ wsL_removeFact := sorry
theorem zm_wsL_removeFact_4 : ∀ w ∈ wsL_removeFact_r5, w ∈ wsL_removeFact := sorry
theorem zm_wsL_removeFact_5 : ∀ w ∈ wsL_removeFact_r6, w ∈ wsL_removeFact := sorry
theorem zm_wsL_removeFact_6 : ∀ w ∈ wsX110, w ∈ wsL_removeFact := sorry
theorem zm_wsL_removeFact_7 : ∀ w ∈ wsX90, w ∈ wsL_removeFact := sorry
theorem zm_wsL_removeFact_8 : ∀ w ∈ wsX60, w ∈ wsL_removeFact := sorry
theorem zm_wsL_removeFact_9 : ∀ w ∈ wsX70, w ∈ wsL_removeFact := sorry
theorem zm_wsL_removeFact_10 : ∀ w ∈ wsX50, w ∈ wsL_removeFact := sorry
theorem zm_wsL_removeFact_11 : ∀ w ∈ wsX20, w ∈ wsL_removeFact := sorry
theorem zm_wsL_removeFact_12 : ∀ w ∈ wsX40, w ∈ wsL_removeFact := sorry
theorem zm_wsL_rowCount_0 : ∀ w ∈ wsL_rowCount_r1, w ∈ wsL_rowCount := sorry
theorem zm_wsL_rowCount_1 : ∀ w ∈ wsL_rowCount_r2, w ∈ wsL_rowCount := sorry
theorem zm_wsL_rowCount_2 : ∀ w ∈ wsL_rowCount_r3, w ∈ wsL_rowCount := sorry
theorem zm_wsL_rowCount_3 : ∀ w ∈ wsL_rowCount_r4, w ∈ wsL_rowCount := sorry
theorem zm_wsL_rowCount_4 : ∀ w ∈ wsL_rowCount_r5, w ∈ wsL_rowCount := sorry
theorem zm_wsL_rowCount_5 : ∀ w ∈ wsL_rowCount_r6, w ∈ wsL_rowCount := sorry
theorem zm_wsL_rowCount_6 : ∀ w ∈ wsL_rowCount_r7, w ∈ wsL_rowCount := sorry
theorem zm_wsL_rowCount_7 : ∀ w ∈ wsL_rowCount_r8, w ∈ wsL_rowCount := sorry
theorem zm_wsL_rowCount_8 : ∀ w ∈ wsL_rowCount_r9, w ∈ wsL_rowCount := sorry
theorem zm_wsL_rowCount_9 : ∀ w ∈ wsL_rowCount_r10, w ∈ wsL_rowCount := sorry
theorem zm_wsL_rowCount_10 : ∀ w ∈ wsL_rowCount_r11, w ∈ wsL_rowCount := sorry
theorem zm_wsL_rowCount_11 : ∀ w ∈ wsX110, w ∈ wsL_rowCount := sorry
theorem zm_wsL_rowCount_12 : ∀ w ∈ wsX40, w ∈ wsL_rowCount := sorry
theorem zm_wsL_rowCount_13 : ∀ w ∈ wsX90, w ∈ wsL_rowCount := sorry
theorem zm_wsL_rowCount_14 : ∀ w ∈ wsX20, w ∈ wsL_rowCount := sorry
theorem zm_wsL_rowCount_15 : ∀ w ∈ wsX60, w ∈ wsL_rowCount := sorry
theorem zm_wsL_rowCount_16 : ∀ w ∈ wsX70, w ∈ wsL_rowCount := sorry
theorem zm_wsL_rowCount_17 : ∀ w ∈ wsX80, w ∈ wsL_rowCount := sorry
theorem zm_wsL_setOrder_0 : ∀ w ∈ wsL_setOrder_r1, w ∈ wsL_setOrder := sorry
theorem zm_wsL_setOrder_1 : ∀ w ∈ wsL_setOrder_r2, w ∈ wsL_setOrder := sorry
theorem zm_wsL_setOrder_2 : ∀ w ∈ wsL_setOrder_r3, w ∈ wsL_setOrder := sorry
theorem zm_wsL_setOrder_3 : ∀ w ∈ wsL_setOrder_r4, w ∈ wsL_setOrder := sorry
theorem zm_wsL_setOrder_4 : ∀ w ∈ wsX110, w ∈ wsL_setOrder := sorry
theorem zm_wsL_setOrder_5 : ∀ w ∈ wsX90, w ∈ wsL_setOrder := sorry
theorem zm_wsL_setOrder_6 : ∀ w ∈ wsX60, w ∈ wsL_setOrder := sorry
theorem zm_wsL_setOrder_7 : ∀ w ∈ wsX50, w ∈ wsL_setOrder := sorry
theorem zm_wsL_setOrder_8 : ∀ w ∈ wsX70, w ∈ wsL_setOrder := sorry
theorem zm_wsL_setOrder_9 : ∀ w ∈ wsX20, w ∈ wsL_setOrder := sorry
set_option maxRecDepth 100000 in
theorem ggL_addTable_X11_addTable : GoodIn wsL_addTable wsX11_addTable := sorry
set_option maxRecDepth 100000 in
theorem gL_addTable_X11_addTable : GoodIn wsL_addTable (wsV RL 7 RX11 yX11_addTable wsX11_addTable) := sorry
set_option maxRecDepth 100000 in
theorem ggL_addFact_X11_addFact : GoodIn wsL_addFact wsX11_addFact := sorry
set_option maxRecDepth 100000 in
theorem gL_addFact_X11_addFact : GoodIn wsL_addFact (wsV RL 17 RX11 yX11_addFact wsX11_addFact) := sorry
set_option maxRecDepth 100000 in
theorem ggL_removeFact_X11_removeFact : GoodIn wsL_removeFact wsX11_removeFact := sorry
set_option maxRecDepth 100000 in
theorem gL_removeFact_X11_removeFact : GoodIn wsL_removeFact (wsV RL 23 RX11 yX11_removeFact wsX11_removeFact) := sorry
set_option maxRecDepth 100000 in
theorem ggL_addAtom_X11_addAtom : GoodIn wsL_addAtom wsX11_addAtom := sorry
set_option maxRecDepth 100000 in
theorem gL_addAtom_X11_addAtom : GoodIn wsL_addAtom (wsV RL 28 RX11 yX11_addAtom wsX11_addAtom) := sorry
set_option maxRecDepth 100000 in
theorem ggL_clearQuery_X11_clearQuery : GoodIn wsL_clearQuery wsX11_clearQuery := sorry
set_option maxRecDepth 100000 in
theorem gL_clearQuery_X11_clearQuery : GoodIn wsL_clearQuery (wsV RL 32 RX11 yX11_clearQuery wsX11_clearQuery) := sorry
set_option maxRecDepth 100000 in
theorem ggL_setOrder_X11_setOrder : GoodIn wsL_setOrder wsX11_setOrder := sorry
set_option maxRecDepth 100000 in
theorem gL_setOrder_X11_setOrder : GoodIn wsL_setOrder (wsV RL 35 RX11 yX11_setOrder wsX11_setOrder) := sorry
set_option maxRecDepth 100000 in
theorem ggL_clearIdle_X11_clearIdle : GoodIn wsL_clearIdle wsX11_clearIdle := sorry
set_option maxRecDepth 100000 in
theorem gL_clearIdle_X11_clearIdle : GoodIn wsL_clearIdle (wsV RL 39 RX11 yX11_clearIdle wsX11_clearIdle) := sorry
set_option maxRecDepth 100000 in
theorem ggL_addRule_X11_addRule : GoodIn wsL_addRule wsX11_addRule := sorry
set_option maxRecDepth 100000 in
theorem gL_addRule_X11_addRule : GoodIn wsL_addRule (wsV RL 42 RX11 yX11_addRule wsX11_addRule) := sorry
set_option maxRecDepth 100000 in
theorem ggL_addRuleAtom_X11_addRuleAtom : GoodIn wsL_addRuleAtom wsX11_addRuleAtom := sorry
set_option maxRecDepth 100000 in
theorem gL_addRuleAtom_X11_addRuleAtom : GoodIn wsL_addRuleAtom (wsV RL 45 RX11 yX11_addRuleAtom wsX11_addRuleAtom) := sorry
set_option maxRecDepth 100000 in
theorem ggL_dropRule_X11_dropRule : GoodIn wsL_dropRule wsX11_dropRule := sorry
set_option maxRecDepth 100000 in
theorem gL_dropRule_X11_dropRule : GoodIn wsL_dropRule (wsV RL 49 RX11 yX11_dropRule wsX11_dropRule) := sorry
set_option maxRecDepth 100000 in
theorem ggL_columns_X11_columns : GoodIn wsL_columns wsX11_columns := sorry
set_option maxRecDepth 100000 in
theorem gL_columns_X11_columns : GoodIn wsL_columns (wsV RL 52 RX11 yX11_columns wsX11_columns) := sorry
set_option maxRecDepth 100000 in
theorem ggL_factCount_X11_factCount : GoodIn wsL_factCount wsX11_factCount := sorry
set_option maxRecDepth 100000 in
theorem gL_factCount_X11_factCount : GoodIn wsL_factCount (wsV RL 55 RX11 yX11_factCount wsX11_factCount) := sorry
set_option maxRecDepth 100000 in
theorem ggL_rowCount_X11_rowCount : GoodIn wsL_rowCount wsX11_rowCount := sorry
set_option maxRecDepth 100000 in
theorem gL_rowCount_X11_rowCount : GoodIn wsL_rowCount (wsV RL 58 RX11 yX11_rowCount wsX11_rowCount) := sorry
set_option maxRecDepth 100000 in
theorem ggL_isFact_X11_isFact : GoodIn wsL_isFact wsX11_isFact := sorry
set_option maxRecDepth 100000 in
theorem gL_isFact_X11_isFact : GoodIn wsL_isFact (wsV RL 61 RX11 yX11_isFact wsX11_isFact) := sorry
set_option maxRecDepth 100000 in
theorem ggL_reasons_X11_reasons : GoodIn wsL_reasons wsX11_reasons := sorry
set_option maxRecDepth 100000 in
theorem gL_reasons_X11_reasons : GoodIn wsL_reasons (wsV RL 65 RX11 yX11_reasons wsX11_reasons) := sorry
