set_option maxRecDepth 20000 in
theorem ggX12_init_X12_tells : GoodIn wsX12_init wsX12_tells := goodIn_r _ [20, 5, 21, 22, 19, 23, 117, 118, 119, 120, 121, 122, 123, 124, 125, 126, 127, 128, 129, 130, 131] (by decide +kernel) (by decide +kernel)
set_option maxRecDepth 20000 in
theorem gX12_init_X12_tells : GoodIn wsX12_init (wsV RX12 41 RX12 yX12_tells wsX12_tells) := goodIn_app (goodIn_of _ (by decide +kernel)) ggX12_init_X12_tells
set_option maxRecDepth 20000 in
theorem ggX12_init_X12_laysAtom : GoodIn wsX12_init wsX12_laysAtom := goodIn_r _ [27, 5, 28, 29, 30, 19, 31, 32, 33, 34, 35, 36, 37, 38, 39, 117, 118, 119, 120, 121, 122, 123, 124, 125, 126, 127, 128, 129, 130, 131] (by decide +kernel) (by decide +kernel)
set_option maxRecDepth 20000 in
theorem gX12_init_X12_laysAtom : GoodIn wsX12_init (wsV RX12 45 RX12 yX12_laysAtom wsX12_laysAtom) := goodIn_app (goodIn_of _ (by decide +kernel)) ggX12_init_X12_laysAtom
set_option maxRecDepth 20000 in
theorem ggX12_init_X12_laysRule : GoodIn wsX12_init wsX12_laysRule := goodIn_r _ [43, 5, 44, 45, 46, 19, 47, 36, 37, 38, 39, 117, 118, 119, 120, 121, 122, 123, 124, 125, 126, 127, 128, 129, 130, 131] (by decide +kernel) (by decide +kernel)
set_option maxRecDepth 20000 in
theorem gX12_init_X12_laysRule : GoodIn wsX12_init (wsV RX12 49 RX12 yX12_laysRule wsX12_laysRule) := goodIn_app (goodIn_of _ (by decide +kernel)) ggX12_init_X12_laysRule
set_option maxRecDepth 20000 in
theorem ggX12_init_X12_laysRuleAtom : GoodIn wsX12_init wsX12_laysRuleAtom := goodIn_r _ [51, 5, 52, 53, 54, 19, 55, 44, 45, 46, 47, 56, 57, 58, 59, 36, 37, 38, 39, 117, 118, 119, 120, 121, 122, 123, 124, 125, 126, 127, 128, 129, 130, 131] (by decide +kernel) (by decide +kernel)
set_option maxRecDepth 20000 in
theorem gX12_init_X12_laysRuleAtom : GoodIn wsX12_init (wsV RX12 53 RX12 yX12_laysRuleAtom wsX12_laysRuleAtom) := goodIn_app (goodIn_of _ (by decide +kernel)) ggX12_init_X12_laysRuleAtom
set_option maxRecDepth 20000 in
theorem ggX12_init_X12_follows : GoodIn wsX12_init wsX12_follows := goodIn_r _ [63, 8, 5, 64, 65, 66, 67, 19, 68, 10, 44, 45, 46, 47, 52, 53, 54, 55, 56, 57, 58, 59, 69, 70, 71, 72, 73, 74, 75, 76, 77, 78, 79, 80, 81, 82, 83, 84, 85, 86, 87, 88, 89, 90, 91, 92, 93, 94, 95, 96, 9, 97, 98, 99, 100, 101, 102, 103, 104, 11, 105, 106, 107, 108, 109, 110, 111, 112, 113, 114, 115, 116, 117, 118, 119, 120, 121, 122, 123, 124, 125, 126, 127, 128, 129, 130, 131] (by decide +kernel) (by decide +kernel)
set_option maxRecDepth 20000 in
theorem gX12_init_X12_follows : GoodIn wsX12_init (wsV RX12 57 RX12 yX12_follows wsX12_follows) := goodIn_app (goodIn_of _ (by decide +kernel)) ggX12_init_X12_follows
set_option maxRecDepth 20000 in
theorem ggX12_isTable_X12_in : GoodIn wsX12_isTable wsX12_in := goodIn_r _ [5] (by decide +kernel) (by decide +kernel)
set_option maxRecDepth 20000 in
theorem gX12_isTable_X12_in : GoodIn wsX12_isTable (va_wsS RX12 64 yX12_in wsX12_in) := goodIn_app (goodIn_of _ (by decide +kernel)) ggX12_isTable_X12_in
set_option maxRecDepth 20000 in
theorem ggX12_isQuery_X12_in : GoodIn wsX12_isQuery wsX12_in := goodIn_r _ [4] (by decide +kernel) (by decide +kernel)
set_option maxRecDepth 20000 in
theorem gX12_isQuery_X12_in : GoodIn wsX12_isQuery (va_wsS RX12 64 yX12_in wsX12_in) := goodIn_app (goodIn_of _ (by decide +kernel)) ggX12_isQuery_X12_in
set_option maxRecDepth 20000 in
theorem ggX12_isRule_X12_in : GoodIn wsX12_isRule wsX12_in := goodIn_r _ [5] (by decide +kernel) (by decide +kernel)
set_option maxRecDepth 20000 in
theorem gX12_isRule_X12_in : GoodIn wsX12_isRule (va_wsS RX12 64 yX12_in wsX12_in) := goodIn_app (goodIn_of _ (by decide +kernel)) ggX12_isRule_X12_in
set_option maxRecDepth 20000 in
theorem ggX12_areRight_X12_columnsOf : GoodIn wsX12_areRight wsX12_columnsOf := goodIn_r _ [5, 6, 10, 11, 12, 13, 14, 15, 16, 17, 18, 19, 20, 21, 22, 23, 24] (by decide +kernel) (by decide +kernel)
set_option maxRecDepth 20000 in
theorem gX12_areRight_X12_columnsOf : GoodIn wsX12_areRight (wsV RX12 68 RX12 yX12_columnsOf wsX12_columnsOf) := goodIn_app (goodIn_of _ (by decide +kernel)) ggX12_areRight_X12_columnsOf
set_option maxRecDepth 20000 in
theorem ggX12_areRight_X12_in : GoodIn wsX12_areRight wsX12_in := goodIn_r _ [9] (by decide +kernel) (by decide +kernel)
set_option maxRecDepth 20000 in
theorem gX12_areRight_X12_in : GoodIn wsX12_areRight (va_wsS RX12 64 yX12_in wsX12_in) := goodIn_app (goodIn_of _ (by decide +kernel)) ggX12_areRight_X12_in
set_option maxRecDepth 20000 in
theorem ggX12_tells_X12_code : GoodIn wsX12_tells wsX12_code := goodIn_r _ [5] (by decide +kernel) (by decide +kernel)
set_option maxRecDepth 20000 in
theorem gX12_tells_X12_code : GoodIn wsX12_tells (va_wsS RX12 72 yX12_code wsX12_code) := goodIn_app (goodIn_of _ (by decide +kernel)) ggX12_tells_X12_code
set_option maxRecDepth 20000 in
theorem ggX12_laysAtom_X12_atoms : GoodIn wsX12_laysAtom wsX12_atoms := goodIn_r _ [6, 1, 15, 16, 17, 18, 19, 20, 21, 22, 23, 24, 25, 26, 27, 28, 29] (by decide +kernel) (by decide +kernel)
set_option maxRecDepth 20000 in
theorem gX12_laysAtom_X12_atoms : GoodIn wsX12_laysAtom (wsV RX12 76 RX12 yX12_atoms wsX12_atoms) := goodIn_app (goodIn_of _ (by decide +kernel)) ggX12_laysAtom_X12_atoms
set_option maxRecDepth 20000 in
theorem ggX12_laysAtom_X12_atomAt : GoodIn wsX12_laysAtom wsX12_atomAt := goodIn_r _ [10] (by decide +kernel) (by decide +kernel)
set_option maxRecDepth 20000 in
theorem gX12_laysAtom_X12_atomAt : GoodIn wsX12_laysAtom (wsV RX12 79 RX12 yX12_atomAt wsX12_atomAt) := goodIn_app (goodIn_of _ (by decide +kernel)) ggX12_laysAtom_X12_atomAt
set_option maxRecDepth 20000 in
theorem ggX12_laysAtom_X12_laysHead : GoodIn wsX12_laysAtom wsX12_laysHead := goodIn_r _ [14, 1, 15, 16, 17, 18, 19, 20, 21, 22, 23, 24, 25, 26, 27, 28, 29] (by decide +kernel) (by decide +kernel)
set_option maxRecDepth 20000 in
theorem gX12_laysAtom_X12_laysHead : GoodIn wsX12_laysAtom (wsV RX12 83 RX12 yX12_laysHead wsX12_laysHead) := goodIn_app (goodIn_of _ (by decide +kernel)) ggX12_laysAtom_X12_laysHead
set_option maxRecDepth 20000 in
theorem ggX12_ruleAtoms_X12_headAt : GoodIn wsX12_ruleAtoms wsX12_headAt := goodIn_r _ [6] (by decide +kernel) (by decide +kernel)
set_option maxRecDepth 20000 in
theorem gX12_ruleAtoms_X12_headAt : GoodIn wsX12_ruleAtoms (wsV RX12 86 RX12 yX12_headAt wsX12_headAt) := goodIn_app (goodIn_of _ (by decide +kernel)) ggX12_ruleAtoms_X12_headAt
set_option maxRecDepth 20000 in
theorem ggX12_ruleAtomAt_X12_headAt : GoodIn wsX12_ruleAtomAt wsX12_headAt := goodIn_r _ [5] (by decide +kernel) (by decide +kernel)
set_option maxRecDepth 20000 in
theorem gX12_ruleAtomAt_X12_headAt : GoodIn wsX12_ruleAtomAt (wsV RX12 86 RX12 yX12_headAt wsX12_headAt) := goodIn_app (goodIn_of _ (by decide +kernel)) ggX12_ruleAtomAt_X12_headAt
set_option maxRecDepth 20000 in
theorem ggX12_isNotAt_X12_ruleAtomAt : GoodIn wsX12_isNotAt wsX12_ruleAtomAt := goodIn_r _ [6, 7, 8, 9, 5, 10] (by decide +kernel) (by decide +kernel)
set_option maxRecDepth 20000 in
theorem gX12_isNotAt_X12_ruleAtomAt : GoodIn wsX12_isNotAt (wsV RX12 89 RX12 yX12_ruleAtomAt wsX12_ruleAtomAt) := goodIn_app (goodIn_of _ (by decide +kernel)) ggX12_isNotAt_X12_ruleAtomAt
set_option maxRecDepth 20000 in
theorem ggX12_laysRule_X12_headAt : GoodIn wsX12_laysRule wsX12_headAt := goodIn_r _ [6] (by decide +kernel) (by decide +kernel)
set_option maxRecDepth 20000 in
theorem gX12_laysRule_X12_headAt : GoodIn wsX12_laysRule (wsV RX12 86 RX12 yX12_headAt wsX12_headAt) := goodIn_app (goodIn_of _ (by decide +kernel)) ggX12_laysRule_X12_headAt
set_option maxRecDepth 20000 in
theorem ggX12_laysRule_X12_laysHead : GoodIn wsX12_laysRule wsX12_laysHead := goodIn_r _ [10, 1, 11, 12, 13, 14, 15, 16, 17, 18, 19, 20, 21, 22, 23, 24, 25] (by decide +kernel) (by decide +kernel)
set_option maxRecDepth 20000 in
theorem gX12_laysRule_X12_laysHead : GoodIn wsX12_laysRule (wsV RX12 83 RX12 yX12_laysHead wsX12_laysHead) := goodIn_app (goodIn_of _ (by decide +kernel)) ggX12_laysRule_X12_laysHead
set_option maxRecDepth 20000 in
theorem ggX12_laysRuleAtom_X12_ruleAtoms : GoodIn wsX12_laysRuleAtom wsX12_ruleAtoms := goodIn_r _ [6, 1, 7, 8, 9, 5, 10, 19, 20, 21, 22, 23, 24, 25, 26, 27, 28, 29, 30, 31, 32, 33] (by decide +kernel) (by decide +kernel)
set_option maxRecDepth 20000 in
theorem gX12_laysRuleAtom_X12_ruleAtoms : GoodIn wsX12_laysRuleAtom (wsV RX12 92 RX12 yX12_ruleAtoms wsX12_ruleAtoms) := goodIn_app (goodIn_of _ (by decide +kernel)) ggX12_laysRuleAtom_X12_ruleAtoms
set_option maxRecDepth 20000 in
theorem ggX12_laysRuleAtom_X12_ruleAtomAt : GoodIn wsX12_laysRuleAtom wsX12_ruleAtomAt := goodIn_r _ [14, 7, 8, 9, 5, 10] (by decide +kernel) (by decide +kernel)
set_option maxRecDepth 20000 in
theorem gX12_laysRuleAtom_X12_ruleAtomAt : GoodIn wsX12_laysRuleAtom (wsV RX12 89 RX12 yX12_ruleAtomAt wsX12_ruleAtomAt) := goodIn_app (goodIn_of _ (by decide +kernel)) ggX12_laysRuleAtom_X12_ruleAtomAt
set_option maxRecDepth 20000 in
theorem ggX12_laysRuleAtom_X12_laysHead : GoodIn wsX12_laysRuleAtom wsX12_laysHead := goodIn_r _ [18, 1, 19, 20, 21, 22, 23, 24, 25, 26, 27, 28, 29, 30, 31, 32, 33] (by decide +kernel) (by decide +kernel)
set_option maxRecDepth 20000 in
theorem gX12_laysRuleAtom_X12_laysHead : GoodIn wsX12_laysRuleAtom (wsV RX12 83 RX12 yX12_laysHead wsX12_laysHead) := goodIn_app (goodIn_of _ (by decide +kernel)) ggX12_laysRuleAtom_X12_laysHead
set_option maxRecDepth 20000 in
theorem ggX12_laysRuleAtom_X12_headAt : GoodIn wsX12_laysRuleAtom wsX12_headAt := goodIn_r _ [10] (by decide +kernel) (by decide +kernel)
set_option maxRecDepth 20000 in
theorem gX12_laysRuleAtom_X12_headAt : GoodIn wsX12_laysRuleAtom (wsV RX12 86 RX12 yX12_headAt wsX12_headAt) := goodIn_app (goodIn_of _ (by decide +kernel)) ggX12_laysRuleAtom_X12_headAt
set_option maxRecDepth 20000 in
theorem ggX12_variables_X12_columnsOf : GoodIn wsX12_variables wsX12_columnsOf := goodIn_r _ [6, 1, 7, 8, 9, 10, 11, 12, 13, 14, 15, 16, 17, 18, 19, 20, 21] (by decide +kernel) (by decide +kernel)
set_option maxRecDepth 20000 in
theorem gX12_variables_X12_columnsOf : GoodIn wsX12_variables (wsV RX12 68 RX12 yX12_columnsOf wsX12_columnsOf) := goodIn_app (goodIn_of _ (by decide +kernel)) ggX12_variables_X12_columnsOf
set_option maxRecDepth 20000 in
theorem ggX12_codeBy_X12_columnsOf : GoodIn wsX12_codeBy wsX12_columnsOf := goodIn_r _ [7, 1, 8, 9, 10, 11, 12, 13, 14, 15, 16, 17, 18, 19, 20, 21, 22] (by decide +kernel) (by decide +kernel)
set_option maxRecDepth 20000 in
theorem gX12_codeBy_X12_columnsOf : GoodIn wsX12_codeBy (wsV RX12 68 RX12 yX12_columnsOf wsX12_columnsOf) := goodIn_app (goodIn_of _ (by decide +kernel)) ggX12_codeBy_X12_columnsOf
set_option maxRecDepth 20000 in
theorem ggX12_fits_X12_codeBy : GoodIn wsX12_fits wsX12_codeBy := goodIn_r _ [7, 2, 8, 9, 10, 11, 6, 12, 13, 14, 15, 16, 17, 18, 19, 20, 21, 22, 23, 24, 25, 26, 27] (by decide +kernel) (by decide +kernel)
set_option maxRecDepth 20000 in
theorem gX12_fits_X12_codeBy : GoodIn wsX12_fits (wsV RX12 104 RX12 yX12_codeBy wsX12_codeBy) := goodIn_app (goodIn_of _ (by decide +kernel)) ggX12_fits_X12_codeBy
set_option maxRecDepth 20000 in
theorem ggX12_variablesOfRule_X12_ruleAtoms : GoodIn wsX12_variablesOfRule wsX12_ruleAtoms := goodIn_r _ [5, 6, 7, 8, 9, 4, 10, 27, 28, 29, 30, 31, 32, 33, 34, 35, 36, 37, 38, 39, 40, 41] (by decide +kernel) (by decide +kernel)
set_option maxRecDepth 20000 in
theorem gX12_variablesOfRule_X12_ruleAtoms : GoodIn wsX12_variablesOfRule (wsV RX12 92 RX12 yX12_ruleAtoms wsX12_ruleAtoms) := goodIn_app (goodIn_of _ (by decide +kernel)) ggX12_variablesOfRule_X12_ruleAtoms
set_option maxRecDepth 20000 in
theorem ggX12_variablesOfRule_X12_isNotAt : GoodIn wsX12_variablesOfRule wsX12_isNotAt := goodIn_r _ [14, 6, 15, 16, 17, 4, 18, 7, 8, 9, 10, 27, 28, 29, 30, 31, 32, 33, 34, 35, 36, 37, 38, 39, 40, 41] (by decide +kernel) (by decide +kernel)
set_option maxRecDepth 20000 in
theorem gX12_variablesOfRule_X12_isNotAt : GoodIn wsX12_variablesOfRule (wsV RX12 107 RX12 yX12_isNotAt wsX12_isNotAt) := goodIn_app (goodIn_of _ (by decide +kernel)) ggX12_variablesOfRule_X12_isNotAt
set_option maxRecDepth 20000 in
theorem ggX12_variablesOfRule_X12_ruleAtomAt : GoodIn wsX12_variablesOfRule wsX12_ruleAtomAt := goodIn_r _ [18, 7, 8, 9, 4, 10] (by decide +kernel) (by decide +kernel)
set_option maxRecDepth 20000 in
theorem gX12_variablesOfRule_X12_ruleAtomAt : GoodIn wsX12_variablesOfRule (wsV RX12 89 RX12 yX12_ruleAtomAt wsX12_ruleAtomAt) := goodIn_app (goodIn_of _ (by decide +kernel)) ggX12_variablesOfRule_X12_ruleAtomAt
set_option maxRecDepth 20000 in
theorem ggX12_variablesOfRule_X12_variables : GoodIn wsX12_variablesOfRule wsX12_variables := goodIn_r _ [22, 6, 23, 24, 25, 4, 26, 27, 28, 29, 30, 31, 32, 33, 34, 35, 36, 37, 38, 39, 40, 41] (by decide +kernel) (by decide +kernel)
set_option maxRecDepth 20000 in
theorem gX12_variablesOfRule_X12_variables : GoodIn wsX12_variablesOfRule (wsV RX12 111 RX12 yX12_variables wsX12_variables) := goodIn_app (goodIn_of _ (by decide +kernel)) ggX12_variablesOfRule_X12_variables
set_option maxRecDepth 20000 in
theorem ggX12_isIdleRule_X12_variablesOfRule : GoodIn wsX12_isIdleRule wsX12_variablesOfRule := goodIn_r _ [5, 6, 7, 8, 4, 9, 10, 11, 12, 13, 14, 15, 16, 17, 18, 19, 20, 21, 22, 23, 24, 25, 26, 27, 28, 29, 30, 31, 32, 33, 34, 35, 36, 37, 38, 39, 40, 41, 42, 43, 44, 45] (by decide +kernel) (by decide +kernel)
set_option maxRecDepth 20000 in
theorem gX12_isIdleRule_X12_variablesOfRule : GoodIn wsX12_isIdleRule (wsV RX12 114 RX12 yX12_variablesOfRule wsX12_variablesOfRule) := goodIn_app (goodIn_of _ (by decide +kernel)) ggX12_isIdleRule_X12_variablesOfRule
set_option maxRecDepth 20000 in
theorem ggX12_isIdleRule_X12_headAt : GoodIn wsX12_isIdleRule wsX12_headAt := goodIn_r _ [14] (by decide +kernel) (by decide +kernel)
set_option maxRecDepth 20000 in
theorem gX12_isIdleRule_X12_headAt : GoodIn wsX12_isIdleRule (wsV RX12 86 RX12 yX12_headAt wsX12_headAt) := goodIn_app (goodIn_of _ (by decide +kernel)) ggX12_isIdleRule_X12_headAt
set_option maxRecDepth 20000 in
theorem ggX12_isIdleRule_X12_variables : GoodIn wsX12_isIdleRule wsX12_variables := goodIn_r _ [26, 10, 27, 28, 29, 4, 30, 31, 32, 33, 34, 35, 36, 37, 38, 39, 40, 41, 42, 43, 44, 45] (by decide +kernel) (by decide +kernel)
set_option maxRecDepth 20000 in
theorem gX12_isIdleRule_X12_variables : GoodIn wsX12_isIdleRule (wsV RX12 111 RX12 yX12_variables wsX12_variables) := goodIn_app (goodIn_of _ (by decide +kernel)) ggX12_isIdleRule_X12_variables
set_option maxRecDepth 20000 in
theorem ggX12_findsLayers_X12_headAt : GoodIn wsX12_findsLayers wsX12_headAt := goodIn_r _ [7] (by decide +kernel) (by decide +kernel)
set_option maxRecDepth 20000 in
theorem gX12_findsLayers_X12_headAt : GoodIn wsX12_findsLayers (wsV RX12 86 RX12 yX12_headAt wsX12_headAt) := goodIn_app (goodIn_of _ (by decide +kernel)) ggX12_findsLayers_X12_headAt
set_option maxRecDepth 20000 in
theorem ggX12_findsLayers_X12_ruleAtoms : GoodIn wsX12_findsLayers wsX12_ruleAtoms := goodIn_r _ [11, 2, 3, 4, 5, 6, 7, 16, 17, 18, 19, 20, 21, 22, 23, 24, 25, 26, 27, 28, 29, 30] (by decide +kernel) (by decide +kernel)
set_option maxRecDepth 20000 in
theorem gX12_findsLayers_X12_ruleAtoms : GoodIn wsX12_findsLayers (wsV RX12 92 RX12 yX12_ruleAtoms wsX12_ruleAtoms) := goodIn_app (goodIn_of _ (by decide +kernel)) ggX12_findsLayers_X12_ruleAtoms
set_option maxRecDepth 20000 in
theorem ggX12_findsLayers_X12_ruleAtomAt : GoodIn wsX12_findsLayers wsX12_ruleAtomAt := goodIn_r _ [15, 3, 4, 5, 6, 7] (by decide +kernel) (by decide +kernel)
set_option maxRecDepth 20000 in
theorem gX12_findsLayers_X12_ruleAtomAt : GoodIn wsX12_findsLayers (wsV RX12 89 RX12 yX12_ruleAtomAt wsX12_ruleAtomAt) := goodIn_app (goodIn_of _ (by decide +kernel)) ggX12_findsLayers_X12_ruleAtomAt
set_option maxRecDepth 20000 in
theorem ggX12_gives_X12_ruleAtoms : GoodIn wsX12_gives wsX12_ruleAtoms := goodIn_r _ [5, 6, 7, 8, 9, 4, 10, 33, 34, 35, 36, 37, 38, 39, 40, 41, 42, 43, 44, 45, 46, 47] (by decide +kernel) (by decide +kernel)
set_option maxRecDepth 20000 in
theorem gX12_gives_X12_ruleAtoms : GoodIn wsX12_gives (wsV RX12 92 RX12 yX12_ruleAtoms wsX12_ruleAtoms) := goodIn_app (goodIn_of _ (by decide +kernel)) ggX12_gives_X12_ruleAtoms
set_option maxRecDepth 20000 in
theorem ggX12_gives_X12_ruleAtomAt : GoodIn wsX12_gives wsX12_ruleAtomAt := goodIn_r _ [14, 7, 8, 9, 4, 10] (by decide +kernel) (by decide +kernel)
set_option maxRecDepth 20000 in
theorem gX12_gives_X12_ruleAtomAt : GoodIn wsX12_gives (wsV RX12 89 RX12 yX12_ruleAtomAt wsX12_ruleAtomAt) := goodIn_app (goodIn_of _ (by decide +kernel)) ggX12_gives_X12_ruleAtomAt
set_option maxRecDepth 20000 in
theorem ggX12_gives_X12_fits : GoodIn wsX12_gives wsX12_fits := goodIn_r _ [18, 19, 6, 20, 21, 22, 4, 23, 24, 25, 26, 27, 28, 33, 34, 35, 36, 37, 38, 39, 40, 41, 42, 43, 44, 45, 46, 47] (by decide +kernel) (by decide +kernel)
set_option maxRecDepth 20000 in
theorem gX12_gives_X12_fits : GoodIn wsX12_gives (wsV RX12 118 RX12 yX12_fits wsX12_fits) := goodIn_app (goodIn_of _ (by decide +kernel)) ggX12_gives_X12_fits
set_option maxRecDepth 20000 in
theorem ggX12_gives_X12_isNotAt : GoodIn wsX12_gives wsX12_isNotAt := goodIn_r _ [32, 6, 11, 12, 13, 4, 14, 7, 8, 9, 10, 33, 34, 35, 36, 37, 38, 39, 40, 41, 42, 43, 44, 45, 46, 47] (by decide +kernel) (by decide +kernel)
set_option maxRecDepth 20000 in
theorem gX12_gives_X12_isNotAt : GoodIn wsX12_gives (wsV RX12 107 RX12 yX12_isNotAt wsX12_isNotAt) := goodIn_app (goodIn_of _ (by decide +kernel)) ggX12_gives_X12_isNotAt
