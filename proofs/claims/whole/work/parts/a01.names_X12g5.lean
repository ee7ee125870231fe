set_option maxRecDepth 20000 in
theorem ggX12_addRule_X12_areRight : GoodIn wsX12_addRule wsX12_areRight := goodIn_r _ [18, 19, 20, 21, 6, 22, 2, 8, 9, 10, 110, 111, 112, 113, 114, 115, 116, 117, 118, 119, 120, 121, 122, 123, 124] (by decide +kernel) (by decide +kernel)
set_option maxRecDepth 20000 in
theorem gX12_addRule_X12_areRight : GoodIn wsX12_addRule (wsV RX12 223 RX12 yX12_areRight wsX12_areRight) := goodIn_app (goodIn_of _ (by decide +kernel)) ggX12_addRule_X12_areRight
set_option maxRecDepth 20000 in
theorem ggX12_addRule_X12_keeps : GoodIn wsX12_addRule wsX12_keeps := goodIn_r _ [26, 27, 28, 29, 30, 31, 32, 2, 110, 111, 112, 113, 114, 115, 116, 117, 118, 119, 120, 121, 122, 123, 124] (by decide +kernel) (by decide +kernel)
set_option maxRecDepth 20000 in
theorem gX12_addRule_X12_keeps : GoodIn wsX12_addRule (wsV RX12 217 RX12 yX12_keeps wsX12_keeps) := goodIn_app (goodIn_of _ (by decide +kernel)) ggX12_addRule_X12_keeps
set_option maxRecDepth 20000 in
theorem ggX12_addRule_X12_laysRule : GoodIn wsX12_addRule wsX12_laysRule := goodIn_r _ [36, 2, 37, 38, 39, 6, 40, 41, 42, 43, 44, 110, 111, 112, 113, 114, 115, 116, 117, 118, 119, 120, 121, 122, 123, 124] (by decide +kernel) (by decide +kernel)
set_option maxRecDepth 20000 in
theorem gX12_addRule_X12_laysRule : GoodIn wsX12_addRule (wsV RX12 49 RX12 yX12_laysRule wsX12_laysRule) := goodIn_app (goodIn_of _ (by decide +kernel)) ggX12_addRule_X12_laysRule
set_option maxRecDepth 20000 in
theorem ggX12_addRule_X12_follows : GoodIn wsX12_addRule wsX12_follows := goodIn_r _ [48, 49, 2, 50, 51, 52, 53, 6, 54, 55, 37, 38, 39, 40, 56, 57, 58, 59, 60, 61, 62, 63, 64, 65, 66, 67, 68, 69, 70, 71, 72, 73, 74, 75, 76, 77, 78, 79, 80, 81, 82, 83, 19, 20, 21, 22, 84, 85, 86, 87, 88, 89, 90, 91, 92, 93, 94, 95, 96, 97, 98, 99, 100, 101, 102, 103, 104, 105, 106, 107, 108, 109, 110, 111, 112, 113, 114, 115, 116, 117, 118, 119, 120, 121, 122, 123, 124] (by decide +kernel) (by decide +kernel)
set_option maxRecDepth 20000 in
theorem gX12_addRule_X12_follows : GoodIn wsX12_addRule (wsV RX12 57 RX12 yX12_follows wsX12_follows) := goodIn_app (goodIn_of _ (by decide +kernel)) ggX12_addRule_X12_follows
set_option maxRecDepth 20000 in
theorem ggX12_addRuleAtom_X12_isRule : GoodIn wsX12_addRuleAtom wsX12_isRule := goodIn_r _ [7, 2, 8, 9, 6, 10, 114, 115, 116, 117, 118, 119, 120, 121, 122, 123, 124, 125, 126, 127, 128] (by decide +kernel) (by decide +kernel)
set_option maxRecDepth 20000 in
theorem gX12_addRuleAtom_X12_isRule : GoodIn wsX12_addRuleAtom (wsV RX12 239 RX12 yX12_isRule wsX12_isRule) := goodIn_app (goodIn_of _ (by decide +kernel)) ggX12_addRuleAtom_X12_isRule
set_option maxRecDepth 20000 in
theorem ggX12_addRuleAtom_X12_isTable : GoodIn wsX12_addRuleAtom wsX12_isTable := goodIn_r _ [14, 2, 8, 9, 6, 10, 114, 115, 116, 117, 118, 119, 120, 121, 122, 123, 124, 125, 126, 127, 128] (by decide +kernel) (by decide +kernel)
set_option maxRecDepth 20000 in
theorem gX12_addRuleAtom_X12_isTable : GoodIn wsX12_addRuleAtom (wsV RX12 220 RX12 yX12_isTable wsX12_isTable) := goodIn_app (goodIn_of _ (by decide +kernel)) ggX12_addRuleAtom_X12_isTable
set_option maxRecDepth 20000 in
theorem ggX12_addRuleAtom_X12_fails : GoodIn wsX12_addRuleAtom wsX12_fails := goodIn_r _ [18, 1, 114, 115, 116, 117, 118, 119, 120, 121, 122, 123, 124, 125, 126, 127, 128] (by decide +kernel) (by decide +kernel)
set_option maxRecDepth 20000 in
theorem gX12_addRuleAtom_X12_fails : GoodIn wsX12_addRuleAtom (wsV RX12 214 RX12 yX12_fails wsX12_fails) := goodIn_app (goodIn_of _ (by decide +kernel)) ggX12_addRuleAtom_X12_fails
set_option maxRecDepth 20000 in
theorem ggX12_addRuleAtom_X12_areRight : GoodIn wsX12_addRuleAtom wsX12_areRight := goodIn_r _ [22, 23, 24, 25, 6, 26, 2, 8, 9, 10, 114, 115, 116, 117, 118, 119, 120, 121, 122, 123, 124, 125, 126, 127, 128] (by decide +kernel) (by decide +kernel)
set_option maxRecDepth 20000 in
theorem gX12_addRuleAtom_X12_areRight : GoodIn wsX12_addRuleAtom (wsV RX12 223 RX12 yX12_areRight wsX12_areRight) := goodIn_app (goodIn_of _ (by decide +kernel)) ggX12_addRuleAtom_X12_areRight
set_option maxRecDepth 20000 in
theorem ggX12_addRuleAtom_X12_ruleAtoms : GoodIn wsX12_addRuleAtom wsX12_ruleAtoms := goodIn_r _ [30, 2, 31, 32, 33, 6, 34, 114, 115, 116, 117, 118, 119, 120, 121, 122, 123, 124, 125, 126, 127, 128] (by decide +kernel) (by decide +kernel)
set_option maxRecDepth 20000 in
theorem gX12_addRuleAtom_X12_ruleAtoms : GoodIn wsX12_addRuleAtom (wsV RX12 92 RX12 yX12_ruleAtoms wsX12_ruleAtoms) := goodIn_app (goodIn_of _ (by decide +kernel)) ggX12_addRuleAtom_X12_ruleAtoms
set_option maxRecDepth 20000 in
theorem ggX12_addRuleAtom_X12_laysRuleAtom : GoodIn wsX12_addRuleAtom wsX12_laysRuleAtom := goodIn_r _ [38, 2, 27, 28, 29, 6, 30, 31, 32, 33, 34, 39, 40, 41, 42, 43, 44, 45, 46, 114, 115, 116, 117, 118, 119, 120, 121, 122, 123, 124, 125, 126, 127, 128] (by decide +kernel) (by decide +kernel)
set_option maxRecDepth 20000 in
theorem gX12_addRuleAtom_X12_laysRuleAtom : GoodIn wsX12_addRuleAtom (wsV RX12 53 RX12 yX12_laysRuleAtom wsX12_laysRuleAtom) := goodIn_app (goodIn_of _ (by decide +kernel)) ggX12_addRuleAtom_X12_laysRuleAtom
set_option maxRecDepth 20000 in
theorem ggX12_addRuleAtom_X12_findsLayers : GoodIn wsX12_addRuleAtom wsX12_findsLayers := goodIn_r _ [50, 51, 2, 31, 32, 33, 6, 34, 27, 28, 29, 30, 39, 40, 41, 42, 114, 115, 116, 117, 118, 119, 120, 121, 122, 123, 124, 125, 126, 127, 128] (by decide +kernel) (by decide +kernel)
set_option maxRecDepth 20000 in
theorem gX12_addRuleAtom_X12_findsLayers : GoodIn wsX12_addRuleAtom (wsV RX12 138 RX12 yX12_findsLayers wsX12_findsLayers) := goodIn_app (goodIn_of _ (by decide +kernel)) ggX12_addRuleAtom_X12_findsLayers
set_option maxRecDepth 20000 in
theorem ggX12_addRuleAtom_X12_headAt : GoodIn wsX12_addRuleAtom wsX12_headAt := goodIn_r _ [34] (by decide +kernel) (by decide +kernel)
set_option maxRecDepth 20000 in
theorem gX12_addRuleAtom_X12_headAt : GoodIn wsX12_addRuleAtom (wsV RX12 86 RX12 yX12_headAt wsX12_headAt) := goodIn_app (goodIn_of _ (by decide +kernel)) ggX12_addRuleAtom_X12_headAt
set_option maxRecDepth 20000 in
theorem ggX12_addRuleAtom_X12_keeps : GoodIn wsX12_addRuleAtom wsX12_keeps := goodIn_r _ [55, 56, 57, 58, 59, 60, 61, 2, 114, 115, 116, 117, 118, 119, 120, 121, 122, 123, 124, 125, 126, 127, 128] (by decide +kernel) (by decide +kernel)
set_option maxRecDepth 20000 in
theorem gX12_addRuleAtom_X12_keeps : GoodIn wsX12_addRuleAtom (wsV RX12 217 RX12 yX12_keeps wsX12_keeps) := goodIn_app (goodIn_of _ (by decide +kernel)) ggX12_addRuleAtom_X12_keeps
set_option maxRecDepth 20000 in
theorem ggX12_addRuleAtom_X12_follows : GoodIn wsX12_addRuleAtom wsX12_follows := goodIn_r _ [65, 66, 2, 67, 47, 48, 49, 6, 50, 51, 31, 32, 33, 34, 27, 28, 29, 30, 39, 40, 41, 42, 68, 69, 70, 71, 72, 73, 74, 75, 76, 77, 78, 79, 80, 81, 82, 83, 84, 85, 86, 87, 23, 24, 25, 26, 88, 89, 90, 91, 92, 93, 94, 95, 96, 97, 98, 99, 100, 101, 102, 103, 104, 105, 106, 107, 108, 109, 110, 111, 112, 113, 114, 115, 116, 117, 118, 119, 120, 121, 122, 123, 124, 125, 126, 127, 128] (by decide +kernel) (by decide +kernel)
set_option maxRecDepth 20000 in
theorem gX12_addRuleAtom_X12_follows : GoodIn wsX12_addRuleAtom (wsV RX12 57 RX12 yX12_follows wsX12_follows) := goodIn_app (goodIn_of _ (by decide +kernel)) ggX12_addRuleAtom_X12_follows
set_option maxRecDepth 20000 in
theorem ggX12_dropRule_X12_isRule : GoodIn wsX12_dropRule wsX12_isRule := goodIn_r _ [7, 2, 8, 9, 6, 10, 98, 99, 100, 101, 102, 103, 104, 105, 106, 107, 108, 109, 110, 111, 112] (by decide +kernel) (by decide +kernel)
set_option maxRecDepth 20000 in
theorem gX12_dropRule_X12_isRule : GoodIn wsX12_dropRule (wsV RX12 239 RX12 yX12_isRule wsX12_isRule) := goodIn_app (goodIn_of _ (by decide +kernel)) ggX12_dropRule_X12_isRule
set_option maxRecDepth 20000 in
theorem ggX12_dropRule_X12_fails : GoodIn wsX12_dropRule wsX12_fails := goodIn_r _ [14, 1, 98, 99, 100, 101, 102, 103, 104, 105, 106, 107, 108, 109, 110, 111, 112] (by decide +kernel) (by decide +kernel)
set_option maxRecDepth 20000 in
theorem gX12_dropRule_X12_fails : GoodIn wsX12_dropRule (wsV RX12 214 RX12 yX12_fails wsX12_fails) := goodIn_app (goodIn_of _ (by decide +kernel)) ggX12_dropRule_X12_fails
set_option maxRecDepth 20000 in
theorem ggX12_dropRule_X12_keeps : GoodIn wsX12_dropRule wsX12_keeps := goodIn_r _ [18, 19, 20, 21, 22, 23, 24, 2, 98, 99, 100, 101, 102, 103, 104, 105, 106, 107, 108, 109, 110, 111, 112] (by decide +kernel) (by decide +kernel)
set_option maxRecDepth 20000 in
theorem gX12_dropRule_X12_keeps : GoodIn wsX12_dropRule (wsV RX12 217 RX12 yX12_keeps wsX12_keeps) := goodIn_app (goodIn_of _ (by decide +kernel)) ggX12_dropRule_X12_keeps
set_option maxRecDepth 20000 in
theorem ggX12_dropRule_X12_headAt : GoodIn wsX12_dropRule wsX12_headAt := goodIn_r _ [28] (by decide +kernel) (by decide +kernel)
set_option maxRecDepth 20000 in
theorem gX12_dropRule_X12_headAt : GoodIn wsX12_dropRule (wsV RX12 86 RX12 yX12_headAt wsX12_headAt) := goodIn_app (goodIn_of _ (by decide +kernel)) ggX12_dropRule_X12_headAt
set_option maxRecDepth 20000 in
theorem ggX12_dropRule_X12_follows : GoodIn wsX12_dropRule wsX12_follows := goodIn_r _ [32, 33, 2, 34, 35, 36, 37, 6, 38, 39, 25, 26, 27, 28, 40, 41, 42, 43, 44, 45, 46, 47, 48, 49, 50, 51, 52, 53, 54, 55, 56, 57, 58, 59, 60, 61, 62, 63, 64, 65, 66, 67, 68, 69, 70, 71, 72, 73, 74, 75, 76, 77, 78, 79, 80, 81, 82, 83, 84, 85, 86, 87, 88, 89, 90, 91, 92, 93, 94, 95, 96, 97, 98, 99, 100, 101, 102, 103, 104, 105, 106, 107, 108, 109, 110, 111, 112] (by decide +kernel) (by decide +kernel)
set_option maxRecDepth 20000 in
theorem gX12_dropRule_X12_follows : GoodIn wsX12_dropRule (wsV RX12 57 RX12 yX12_follows wsX12_follows) := goodIn_app (goodIn_of _ (by decide +kernel)) ggX12_dropRule_X12_follows
set_option maxRecDepth 20000 in
theorem ggX12_undo_X12_follows : GoodIn wsX12_undo wsX12_follows := goodIn_r _ [13, 14, 4, 15, 16, 17, 18, 12, 19, 20, 21, 22, 23, 24, 25, 26, 27, 28, 29, 30, 31, 32, 33, 34, 35, 36, 37, 38, 39, 40, 41, 42, 43, 44, 45, 46, 47, 48, 49, 50, 51, 52, 53, 54, 55, 56, 57, 58, 59, 60, 61, 62, 63, 64, 65, 66, 67, 68, 69, 70, 71, 72, 73, 74, 75, 76, 77, 78, 79, 80, 81, 82, 83, 84, 85, 86, 87, 88, 89, 90, 91, 92, 93, 94, 95, 96, 97] (by decide +kernel) (by decide +kernel)
set_option maxRecDepth 20000 in
theorem gX12_undo_X12_follows : GoodIn wsX12_undo (wsV RX12 57 RX12 yX12_follows wsX12_follows) := goodIn_app (goodIn_of _ (by decide +kernel)) ggX12_undo_X12_follows
set_option maxRecDepth 20000 in
theorem ggX12_columns_X12_isTable : GoodIn wsX12_columns wsX12_isTable := goodIn_r _ [6, 7, 8, 9, 5, 10, 19, 20, 21, 22, 23, 24, 25, 26, 27, 28, 29, 30, 31, 32, 33] (by decide +kernel) (by decide +kernel)
set_option maxRecDepth 20000 in
theorem gX12_columns_X12_isTable : GoodIn wsX12_columns (wsV RX12 220 RX12 yX12_isTable wsX12_isTable) := goodIn_app (goodIn_of _ (by decide +kernel)) ggX12_columns_X12_isTable
set_option maxRecDepth 20000 in
theorem ggX12_columns_X12_columnsOf : GoodIn wsX12_columns wsX12_columnsOf := goodIn_r _ [14, 7, 19, 20, 21, 22, 23, 24, 25, 26, 27, 28, 29, 30, 31, 32, 33] (by decide +kernel) (by decide +kernel)
set_option maxRecDepth 20000 in
theorem gX12_columns_X12_columnsOf : GoodIn wsX12_columns (wsV RX12 68 RX12 yX12_columnsOf wsX12_columnsOf) := goodIn_app (goodIn_of _ (by decide +kernel)) ggX12_columns_X12_columnsOf
set_option maxRecDepth 20000 in
theorem ggX12_columns_X12_fails : GoodIn wsX12_columns wsX12_fails := goodIn_r _ [18, 1, 19, 20, 21, 22, 23, 24, 25, 26, 27, 28, 29, 30, 31, 32, 33] (by decide +kernel) (by decide +kernel)
set_option maxRecDepth 20000 in
theorem gX12_columns_X12_fails : GoodIn wsX12_columns (wsV RX12 214 RX12 yX12_fails wsX12_fails) := goodIn_app (goodIn_of _ (by decide +kernel)) ggX12_columns_X12_fails
set_option maxRecDepth 20000 in
theorem ggX12_factCount_X12_isTable : GoodIn wsX12_factCount wsX12_isTable := goodIn_r _ [6, 7, 8, 9, 5, 10, 19, 20, 21, 22, 23, 24, 25, 26, 27, 28, 29, 30, 31, 32, 33] (by decide +kernel) (by decide +kernel)
set_option maxRecDepth 20000 in
theorem gX12_factCount_X12_isTable : GoodIn wsX12_factCount (wsV RX12 220 RX12 yX12_isTable wsX12_isTable) := goodIn_app (goodIn_of _ (by decide +kernel)) ggX12_factCount_X12_isTable
set_option maxRecDepth 20000 in
theorem ggX12_factCount_X12_factsOf : GoodIn wsX12_factCount wsX12_factsOf := goodIn_r _ [14, 7, 19, 20, 21, 22, 23, 24, 25, 26, 27, 28, 29, 30, 31, 32, 33] (by decide +kernel) (by decide +kernel)
set_option maxRecDepth 20000 in
theorem gX12_factCount_X12_factsOf : GoodIn wsX12_factCount (wsV RX12 227 RX12 yX12_factsOf wsX12_factsOf) := goodIn_app (goodIn_of _ (by decide +kernel)) ggX12_factCount_X12_factsOf
set_option maxRecDepth 20000 in
theorem ggX12_factCount_X12_fails : GoodIn wsX12_factCount wsX12_fails := goodIn_r _ [18, 1, 19, 20, 21, 22, 23, 24, 25, 26, 27, 28, 29, 30, 31, 32, 33] (by decide +kernel) (by decide +kernel)
set_option maxRecDepth 20000 in
theorem gX12_factCount_X12_fails : GoodIn wsX12_factCount (wsV RX12 214 RX12 yX12_fails wsX12_fails) := goodIn_app (goodIn_of _ (by decide +kernel)) ggX12_factCount_X12_fails
set_option maxRecDepth 20000 in
theorem ggX12_rowCount_X12_isTable : GoodIn wsX12_rowCount wsX12_isTable := goodIn_r _ [6, 7, 8, 9, 5, 10, 20, 21, 22, 23, 24, 25, 26, 27, 28, 29, 30, 31, 32, 33, 34] (by decide +kernel) (by decide +kernel)
set_option maxRecDepth 20000 in
theorem gX12_rowCount_X12_isTable : GoodIn wsX12_rowCount (wsV RX12 220 RX12 yX12_isTable wsX12_isTable) := goodIn_app (goodIn_of _ (by decide +kernel)) ggX12_rowCount_X12_isTable
set_option maxRecDepth 20000 in
theorem ggX12_rowCount_X12_rowsOf : GoodIn wsX12_rowCount wsX12_rowsOf := goodIn_r _ [14, 15, 20, 21, 22, 23, 24, 25, 26, 27, 28, 29, 30, 31, 32, 33, 34] (by decide +kernel) (by decide +kernel)
set_option maxRecDepth 20000 in
theorem gX12_rowCount_X12_rowsOf : GoodIn wsX12_rowCount (wsV RX12 242 RX12 yX12_rowsOf wsX12_rowsOf) := goodIn_app (goodIn_of _ (by decide +kernel)) ggX12_rowCount_X12_rowsOf
set_option maxRecDepth 20000 in
theorem ggX12_rowCount_X12_fails : GoodIn wsX12_rowCount wsX12_fails := goodIn_r _ [19, 1, 20, 21, 22, 23, 24, 25, 26, 27, 28, 29, 30, 31, 32, 33, 34] (by decide +kernel) (by decide +kernel)
set_option maxRecDepth 20000 in
theorem gX12_rowCount_X12_fails : GoodIn wsX12_rowCount (wsV RX12 214 RX12 yX12_fails wsX12_fails) := goodIn_app (goodIn_of _ (by decide +kernel)) ggX12_rowCount_X12_fails
set_option maxRecDepth 20000 in
theorem ggX12_isFact_X12_isTable : GoodIn wsX12_isFact wsX12_isTable := goodIn_r _ [6, 7, 8, 9, 5, 10, 26, 27, 28, 29, 30, 31, 32, 33, 34, 35, 36, 37, 38, 39, 40] (by decide +kernel) (by decide +kernel)
set_option maxRecDepth 20000 in
theorem gX12_isFact_X12_isTable : GoodIn wsX12_isFact (wsV RX12 220 RX12 yX12_isTable wsX12_isTable) := goodIn_app (goodIn_of _ (by decide +kernel)) ggX12_isFact_X12_isTable
set_option maxRecDepth 20000 in
theorem ggX12_isFact_X12_areRight : GoodIn wsX12_isFact wsX12_areRight := goodIn_r _ [14, 15, 16, 17, 5, 18, 7, 8, 9, 10, 26, 27, 28, 29, 30, 31, 32, 33, 34, 35, 36, 37, 38, 39, 40] (by decide +kernel) (by decide +kernel)
set_option maxRecDepth 20000 in
theorem gX12_isFact_X12_areRight : GoodIn wsX12_isFact (wsV RX12 223 RX12 yX12_areRight wsX12_areRight) := goodIn_app (goodIn_of _ (by decide +kernel)) ggX12_isFact_X12_areRight
set_option maxRecDepth 20000 in
theorem ggX12_isFact_X12_code : GoodIn wsX12_isFact wsX12_code := goodIn_r _ [21] (by decide +kernel) (by decide +kernel)
set_option maxRecDepth 20000 in
theorem gX12_isFact_X12_code : GoodIn wsX12_isFact (va_wsS RX12 72 yX12_code wsX12_code) := goodIn_app (goodIn_of _ (by decide +kernel)) ggX12_isFact_X12_code
set_option maxRecDepth 20000 in
theorem ggX12_isFact_X12_isFactAt : GoodIn wsX12_isFact wsX12_isFactAt := goodIn_r _ [25, 7, 26, 27, 28, 29, 30, 31, 32, 33, 34, 35, 36, 37, 38, 39, 40] (by decide +kernel) (by decide +kernel)
set_option maxRecDepth 20000 in
theorem gX12_isFact_X12_isFactAt : GoodIn wsX12_isFact (wsV RX12 148 RX12 yX12_isFactAt wsX12_isFactAt) := goodIn_app (goodIn_of _ (by decide +kernel)) ggX12_isFact_X12_isFactAt
set_option maxRecDepth 20000 in
theorem ggX12_reasons_X12_isTable : GoodIn wsX12_reasons wsX12_isTable := goodIn_r _ [6, 7, 8, 9, 5, 10, 84, 85, 86, 87, 88, 89, 90, 91, 92, 93, 94, 95, 96, 97, 98] (by decide +kernel) (by decide +kernel)
set_option maxRecDepth 20000 in
theorem gX12_reasons_X12_isTable : GoodIn wsX12_reasons (wsV RX12 220 RX12 yX12_isTable wsX12_isTable) := goodIn_app (goodIn_of _ (by decide +kernel)) ggX12_reasons_X12_isTable
set_option maxRecDepth 20000 in
theorem ggX12_reasons_X12_fails : GoodIn wsX12_reasons wsX12_fails := goodIn_r _ [14, 1, 84, 85, 86, 87, 88, 89, 90, 91, 92, 93, 94, 95, 96, 97, 98] (by decide +kernel) (by decide +kernel)
set_option maxRecDepth 20000 in
theorem gX12_reasons_X12_fails : GoodIn wsX12_reasons (wsV RX12 214 RX12 yX12_fails wsX12_fails) := goodIn_app (goodIn_of _ (by decide +kernel)) ggX12_reasons_X12_fails
set_option maxRecDepth 20000 in
theorem ggX12_reasons_X12_areRight : GoodIn wsX12_reasons wsX12_areRight := goodIn_r _ [18, 19, 20, 21, 5, 22, 7, 8, 9, 10, 84, 85, 86, 87, 88, 89, 90, 91, 92, 93, 94, 95, 96, 97, 98] (by decide +kernel) (by decide +kernel)
set_option maxRecDepth 20000 in
theorem gX12_reasons_X12_areRight : GoodIn wsX12_reasons (wsV RX12 223 RX12 yX12_areRight wsX12_areRight) := goodIn_app (goodIn_of _ (by decide +kernel)) ggX12_reasons_X12_areRight
set_option maxRecDepth 20000 in
theorem ggX12_reasons_X12_code : GoodIn wsX12_reasons wsX12_code := goodIn_r _ [25] (by decide +kernel) (by decide +kernel)
set_option maxRecDepth 20000 in
theorem gX12_reasons_X12_code : GoodIn wsX12_reasons (va_wsS RX12 72 yX12_code wsX12_code) := goodIn_app (goodIn_of _ (by decide +kernel)) ggX12_reasons_X12_code
set_option maxRecDepth 20000 in
theorem ggX12_reasons_X12_reasonsOf : GoodIn wsX12_reasons wsX12_reasonsOf := goodIn_r _ [29, 30, 7, 31, 32, 33, 5, 34, 35, 36, 37, 38, 39, 40, 41, 42, 43, 44, 45, 46, 47, 48, 49, 50, 51, 52, 53, 54, 55, 56, 57, 58, 59, 60, 61, 62, 63, 64, 65, 66, 19, 20, 21, 22, 67, 68, 69, 70, 71, 72, 73, 74, 75, 76, 77, 78, 79, 80, 81, 82, 83, 84, 85, 86, 87, 88, 89, 90, 91, 92, 93, 94, 95, 96, 97, 98] (by decide +kernel) (by decide +kernel)
set_option maxRecDepth 20000 in
theorem gX12_reasons_X12_reasonsOf : GoodIn wsX12_reasons (wsV RX12 245 RX12 yX12_reasonsOf wsX12_reasonsOf) := goodIn_app (goodIn_of _ (by decide +kernel)) ggX12_reasons_X12_reasonsOf
set_option maxRecDepth 20000 in
theorem ggX12_rowAt_X12_isTable : GoodIn wsX12_rowAt wsX12_isTable := goodIn_r _ [7, 8, 9, 10, 6, 11, 27, 28, 29, 30, 31, 32, 33, 34, 35, 36, 37, 38, 39, 40, 41] (by decide +kernel) (by decide +kernel)
set_option maxRecDepth 20000 in
theorem gX12_rowAt_X12_isTable : GoodIn wsX12_rowAt (wsV RX12 220 RX12 yX12_isTable wsX12_isTable) := goodIn_app (goodIn_of _ (by decide +kernel)) ggX12_rowAt_X12_isTable
set_option maxRecDepth 20000 in
theorem ggX12_rowAt_X12_rowsOf : GoodIn wsX12_rowAt wsX12_rowsOf := goodIn_r _ [15, 2, 27, 28, 29, 30, 31, 32, 33, 34, 35, 36, 37, 38, 39, 40, 41] (by decide +kernel) (by decide +kernel)
set_option maxRecDepth 20000 in
theorem gX12_rowAt_X12_rowsOf : GoodIn wsX12_rowAt (wsV RX12 242 RX12 yX12_rowsOf wsX12_rowsOf) := goodIn_app (goodIn_of _ (by decide +kernel)) ggX12_rowAt_X12_rowsOf
