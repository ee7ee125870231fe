theorem zm_wsL_law_0 : ∀ w ∈ wsL_law0_r1, w ∈ wsL_law := sorry
theorem zm_wsL_law_1 : ∀ w ∈ wsL_law0_r2, w ∈ wsL_law := sorry
theorem zm_wsL_law_2 : ∀ w ∈ wsL_law0_r3, w ∈ wsL_law := sorry
theorem zm_wsL_law_3 : ∀ w ∈ wsL_law0_r4, w ∈ wsL_law := sorry
theorem zm_wsL_law_4 : ∀ w ∈ wsL_law0_r5, w ∈ wsL_law := sorry
theorem zm_wsL_law_5 : ∀ w ∈ wsL_law0_r6, w ∈ wsL_law := sorry
theorem zm_wsL_law_6 : ∀ w ∈ wsL_law0_r7, w ∈ wsL_law := sorry
theorem zm_wsL_law_7 : ∀ w ∈ wsL_law0_r8, w ∈ wsL_law := sorry
theorem zm_wsL_law_8 : ∀ w ∈ wsL_law0_r9, w ∈ wsL_law := sorry
theorem zm_wsL_law_9 : ∀ w ∈ wsL_law0_r10, w ∈ wsL_law := sorry
theorem zm_wsL_law_10 : ∀ w ∈ wsL_law0_r11, w ∈ wsL_law := sorry
theorem zm_wsL_law_11 : ∀ w ∈ wsL_law0_r12, w ∈ wsL_law := sorry
theorem zm_wsL_law_12 : ∀ w ∈ wsL_law0_r13, w ∈ wsL_law := sorry
theorem zm_wsL_law_13 : ∀ w ∈ wsL_law0_r14, w ∈ wsL_law := sorry
theorem zm_wsL_law_14 : ∀ w ∈ wsL_law0_r15, w ∈ wsL_law := sorry
theorem zm_wsL_law_15 : ∀ w ∈ wsL_law0_r16, w ∈ wsL_law := sorry
theorem zm_wsL_law_16 : ∀ w ∈ wsL_law0_r17, w ∈ wsL_law := sorry
theorem zm_wsL_law_17 : ∀ w ∈ wsL_law0_r18, w ∈ wsL_law := sorry
theorem zm_wsL_law_18 : ∀ w ∈ wsL_law0_r19, w ∈ wsL_law := sorry
theorem zm_wsL_law_19 : ∀ w ∈ wsL_law0_r20, w ∈ wsL_law := sorry
theorem zm_wsL_law_20 : ∀ w ∈ wsL_law0_r21, w ∈ wsL_law := sorry
theorem zm_wsL_law_21 : ∀ w ∈ wsL_law0_r22, w ∈ wsL_law := sorry
theorem zm_wsL_law_22 : ∀ w ∈ wsL_law0_r23, w ∈ wsL_law := sorry
theorem zm_wsL_law_23 : ∀ w ∈ wsL_law0_r24, w ∈ wsL_law := sorry
theorem zm_wsL_law_24 : ∀ w ∈ wsL_law0_r25, w ∈ wsL_law := sorry
theorem zm_wsL_law_25 : ∀ w ∈ wsL_law0_r26, w ∈ wsL_law := sorry
theorem zm_wsL_law_26 : ∀ w ∈ wsL_law0_r27, w ∈ wsL_law := sorry
theorem zm_wsL_law_27 : ∀ w ∈ wsL_law0_r28, w ∈ wsL_law := sorry
theorem zm_wsL_law_28 : ∀ w ∈ wsL_law0_r29, w ∈ wsL_law := sorry
theorem zm_wsL_law_29 : ∀ w ∈ wsL_law0_r30, w ∈ wsL_law := sorry
theorem zm_wsL_law_30 : ∀ w ∈ wsL_law0_r31, w ∈ wsL_law := sorry
theorem zm_wsL_law_31 : ∀ w ∈ wsL_law0_r32, w ∈ wsL_law := sorry
theorem zm_wsL_law_32 : ∀ w ∈ wsL_law0_r33, w ∈ wsL_law := sorry
theorem zm_wsL_law_33 : ∀ w ∈ wsL_law0_r34, w ∈ wsL_law := sorry
theorem zm_wsL_law_34 : ∀ w ∈ wsL_law0_r35, w ∈ wsL_law := sorry
theorem zm_wsL_law_35 : ∀ w ∈ wsL_law0_r36, w ∈ wsL_law := sorry
theorem zm_wsL_law_36 : ∀ w ∈ wsL_law0_r37, w ∈ wsL_law := sorry
theorem zm_wsL_law_37 : ∀ w ∈ wsL_law0_r38, w ∈ wsL_law := sorry
theorem zm_wsL_law_38 : ∀ w ∈ wsL_law0_r39, w ∈ wsL_law := sorry
theorem zm_wsL_law_39 : ∀ w ∈ wsL_law0_r40, w ∈ wsL_law := sorry
theorem zm_wsL_law_40 : ∀ w ∈ wsL_law0_r41, w ∈ wsL_law := sorry
theorem zm_wsL_law_41 : ∀ w ∈ wsL_law0_r42, w ∈ wsL_law := sorry
theorem zm_wsL_law_42 : ∀ w ∈ wsL_law0_r43, w ∈ wsL_law := sorry
theorem zm_wsL_law_43 : ∀ w ∈ wsL_law0_r44, w ∈ wsL_law := sorry
theorem zm_wsL_law_44 : ∀ w ∈ wsL_law0_r45, w ∈ wsL_law := sorry
theorem zm_wsL_law_45 : ∀ w ∈ wsL_law0_r46, w ∈ wsL_law := sorry
theorem zm_wsL_law_46 : ∀ w ∈ wsL_law0_r47, w ∈ wsL_law := sorry
theorem zm_wsL_law_47 : ∀ w ∈ wsL_law0_r48, w ∈ wsL_law := sorry
theorem zm_wsL_law_48 : ∀ w ∈ wsL_law0_r49, w ∈ wsL_law := sorry
theorem zm_wsL_law_49 : ∀ w ∈ wsL_law0_r50, w ∈ wsL_law := sorry
theorem zm_wsL_law_50 : ∀ w ∈ wsL_law0_r51, w ∈ wsL_law := sorry
theorem zm_wsL_law_51 : ∀ w ∈ wsL_law0_r52, w ∈ wsL_law := sorry
theorem zm_wsL_law_52 : ∀ w ∈ wsL_law0_r53, w ∈ wsL_law := sorry
theorem zm_wsL_law_53 : ∀ w ∈ wsL_law0_r54, w ∈ wsL_law := sorry
theorem zm_wsL_law_54 : ∀ w ∈ wsL_law0_r55, w ∈ wsL_law := sorry
theorem zm_wsL_law_55 : ∀ w ∈ wsL_law0_r56, w ∈ wsL_law := sorry
theorem zm_wsL_law_56 : ∀ w ∈ wsX110, w ∈ wsL_law := sorry
theorem zm_wsL_law_57 : ∀ w ∈ wsX120, w ∈ wsL_law := sorry
theorem zm_wsL_law_58 : ∀ w ∈ wsX90, w ∈ wsL_law := sorry
theorem zm_wsL_law_59 : ∀ w ∈ wsX50, w ∈ wsL_law := sorry
theorem zm_wsL_law_60 : ∀ w ∈ wsX40, w ∈ wsL_law := sorry
theorem zm_wsL_law_61 : ∀ w ∈ wsX00, w ∈ wsL_law := sorry
theorem zm_wsL_law_62 : ∀ w ∈ wsX30, w ∈ wsL_law := sorry
theorem zm_wsL_law_63 : ∀ w ∈ wsX100, w ∈ wsL_law := sorry
theorem zm_wsL_law_64 : ∀ w ∈ wsX70, w ∈ wsL_law := sorry
theorem zm_wsL_law_65 : ∀ w ∈ wsX60, w ∈ wsL_law := sorry
theorem zm_wsL_law_66 : ∀ w ∈ wsX20, w ∈ wsL_law := sorry
theorem zm_wsL_law_67 : ∀ w ∈ wsX80, w ∈ wsL_law := sorry
set_option maxRecDepth 100000 in
theorem ggL_law_X11_init : GoodIn wsL_law wsX11_init := sorry
set_option maxRecDepth 100000 in
theorem gL_law_X11_init : GoodIn wsL_law (wsX11_init) := sorry
set_option maxRecDepth 100000 in
theorem ggL_law_X12_init : GoodIn wsL_law wsX12_init := sorry
set_option maxRecDepth 100000 in
theorem gL_law_X12_init : GoodIn wsL_law (wsX12_init) := sorry
set_option maxRecDepth 100000 in
theorem ggL_law_L_addTable : GoodIn wsL_law wsL_addTable := sorry
set_option maxRecDepth 100000 in
theorem gL_law_L_addTable : GoodIn wsL_law (va_wsS RL 129 yL_addTable wsL_addTable) := sorry
set_option maxRecDepth 100000 in
theorem ggL_law_X12_addTable : GoodIn wsL_law wsX12_addTable := sorry
set_option maxRecDepth 100000 in
theorem gL_law_X12_addTable : GoodIn wsL_law (wsV RL 134 RX12 yX12_addTable wsX12_addTable) := sorry
set_option maxRecDepth 100000 in
theorem ggL_law_X12_thrown : GoodIn wsL_law wsX12_thrown := sorry
set_option maxRecDepth 100000 in
theorem gL_law_X12_thrown : GoodIn wsL_law (wsV RL 135 RX12 yX12_thrown wsX12_thrown) := sorry
set_option maxRecDepth 100000 in
theorem ggL_law_L_addFact : GoodIn wsL_law wsL_addFact := sorry
set_option maxRecDepth 100000 in
theorem gL_law_L_addFact : GoodIn wsL_law (va_wsS RL 139 yL_addFact wsL_addFact) := sorry
set_option maxRecDepth 100000 in
theorem ggL_law_X12_addFact : GoodIn wsL_law wsX12_addFact := sorry
set_option maxRecDepth 100000 in
theorem gL_law_X12_addFact : GoodIn wsL_law (wsV RL 142 RX12 yX12_addFact wsX12_addFact) := sorry
set_option maxRecDepth 100000 in
theorem ggL_law_L_removeFact : GoodIn wsL_law wsL_removeFact := sorry
set_option maxRecDepth 100000 in
theorem gL_law_L_removeFact : GoodIn wsL_law (va_wsS RL 143 yL_removeFact wsL_removeFact) := sorry
set_option maxRecDepth 100000 in
theorem ggL_law_X12_removeFact : GoodIn wsL_law wsX12_removeFact := sorry
set_option maxRecDepth 100000 in
theorem gL_law_X12_removeFact : GoodIn wsL_law (wsV RL 145 RX12 yX12_removeFact wsX12_removeFact) := sorry
set_option maxRecDepth 100000 in
theorem ggL_law_L_addAtom : GoodIn wsL_law wsL_addAtom := sorry
set_option maxRecDepth 100000 in
theorem gL_law_L_addAtom : GoodIn wsL_law (va_wsS RL 146 yL_addAtom wsL_addAtom) := sorry
set_option maxRecDepth 100000 in
theorem ggL_law_X12_addAtom : GoodIn wsL_law wsX12_addAtom := sorry
set_option maxRecDepth 100000 in
theorem gL_law_X12_addAtom : GoodIn wsL_law (wsV RL 149 RX12 yX12_addAtom wsX12_addAtom) := sorry
set_option maxRecDepth 100000 in
theorem ggL_law_L_clearQuery : GoodIn wsL_law wsL_clearQuery := sorry
set_option maxRecDepth 100000 in
theorem gL_law_L_clearQuery : GoodIn wsL_law (va_wsS RL 150 yL_clearQuery wsL_clearQuery) := sorry
set_option maxRecDepth 100000 in
theorem ggL_law_X12_clearQuery : GoodIn wsL_law wsX12_clearQuery := sorry
set_option maxRecDepth 100000 in
theorem gL_law_X12_clearQuery : GoodIn wsL_law (wsV RL 152 RX12 yX12_clearQuery wsX12_clearQuery) := sorry
set_option maxRecDepth 100000 in
theorem ggL_law_L_setOrder : GoodIn wsL_law wsL_setOrder := sorry
set_option maxRecDepth 100000 in
theorem gL_law_L_setOrder : GoodIn wsL_law (va_wsS RL 153 yL_setOrder wsL_setOrder) := sorry
set_option maxRecDepth 100000 in
theorem ggL_law_X12_setOrder : GoodIn wsL_law wsX12_setOrder := sorry
set_option maxRecDepth 100000 in
theorem gL_law_X12_setOrder : GoodIn wsL_law (wsV RL 156 RX12 yX12_setOrder wsX12_setOrder) := sorry
set_option maxRecDepth 100000 in
theorem ggL_law_L_clearIdle : GoodIn wsL_law wsL_clearIdle := sorry
set_option maxRecDepth 100000 in
theorem gL_law_L_clearIdle : GoodIn wsL_law (va_wsS RL 157 yL_clearIdle wsL_clearIdle) := sorry
set_option maxRecDepth 100000 in
theorem ggL_law_X12_clearIdle : GoodIn wsL_law wsX12_clearIdle := sorry
set_option maxRecDepth 100000 in
theorem gL_law_X12_clearIdle : GoodIn wsL_law (wsV RL 159 RX12 yX12_clearIdle wsX12_clearIdle) := sorry
set_option maxRecDepth 100000 in
theorem ggL_law_L_addRule : GoodIn wsL_law wsL_addRule := sorry
set_option maxRecDepth 100000 in
theorem gL_law_L_addRule : GoodIn wsL_law (va_wsS RL 160 yL_addRule wsL_addRule) := sorry
set_option maxRecDepth 100000 in
theorem ggL_law_X12_addRule : GoodIn wsL_law wsX12_addRule := sorry
set_option maxRecDepth 100000 in
theorem gL_law_X12_addRule : GoodIn wsL_law (wsV RL 162 RX12 yX12_addRule wsX12_addRule) := sorry
set_option maxRecDepth 100000 in
theorem ggL_law_L_addRuleAtom : GoodIn wsL_law wsL_addRuleAtom := sorry
set_option maxRecDepth 100000 in
theorem gL_law_L_addRuleAtom : GoodIn wsL_law (va_wsS RL 163 yL_addRuleAtom wsL_addRuleAtom) := sorry
set_option maxRecDepth 100000 in
theorem ggL_law_X12_addRuleAtom : GoodIn wsL_law wsX12_addRuleAtom := sorry
set_option maxRecDepth 100000 in
theorem gL_law_X12_addRuleAtom : GoodIn wsL_law (wsV RL 166 RX12 yX12_addRuleAtom wsX12_addRuleAtom) := sorry
set_option maxRecDepth 100000 in
theorem ggL_law_L_dropRule : GoodIn wsL_law wsL_dropRule := sorry
set_option maxRecDepth 100000 in
theorem gL_law_L_dropRule : GoodIn wsL_law (va_wsS RL 167 yL_dropRule wsL_dropRule) := sorry
set_option maxRecDepth 100000 in
theorem ggL_law_X12_dropRule : GoodIn wsL_law wsX12_dropRule := sorry
