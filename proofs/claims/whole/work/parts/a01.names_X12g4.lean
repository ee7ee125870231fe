set_option maxRecDepth 20000 in
theorem ggX12_addFact_X12_code : GoodIn wsX12_addFact wsX12_code := goodIn_r _ [25] (by decide +kernel) (by decide +kernel)
set_option maxRecDepth 20000 in
theorem gX12_addFact_X12_code : GoodIn wsX12_addFact (va_wsS RX12 72 yX12_code wsX12_code) := goodIn_app (goodIn_of _ (by decide +kernel)) ggX12_addFact_X12_code
set_option maxRecDepth 20000 in
theorem ggX12_addFact_X12_isFactAt : GoodIn wsX12_addFact wsX12_isFactAt := goodIn_r _ [29, 2, 113, 114, 115, 116, 117, 118, 119, 120, 121, 122, 123, 124, 125, 126, 127] (by decide +kernel) (by decide +kernel)
set_option maxRecDepth 20000 in
theorem gX12_addFact_X12_isFactAt : GoodIn wsX12_addFact (wsV RX12 148 RX12 yX12_isFactAt wsX12_isFactAt) := goodIn_app (goodIn_of _ (by decide +kernel)) ggX12_addFact_X12_isFactAt
set_option maxRecDepth 20000 in
theorem ggX12_addFact_X12_factsOf : GoodIn wsX12_addFact wsX12_factsOf := goodIn_r _ [33, 2, 113, 114, 115, 116, 117, 118, 119, 120, 121, 122, 123, 124, 125, 126, 127] (by decide +kernel) (by decide +kernel)
set_option maxRecDepth 20000 in
theorem gX12_addFact_X12_factsOf : GoodIn wsX12_addFact (wsV RX12 227 RX12 yX12_factsOf wsX12_factsOf) := goodIn_app (goodIn_of _ (by decide +kernel)) ggX12_addFact_X12_factsOf
set_option maxRecDepth 20000 in
theorem ggX12_addFact_X12_keeps : GoodIn wsX12_addFact wsX12_keeps := goodIn_r _ [37, 38, 39, 40, 41, 42, 43, 2, 113, 114, 115, 116, 117, 118, 119, 120, 121, 122, 123, 124, 125, 126, 127] (by decide +kernel) (by decide +kernel)
set_option maxRecDepth 20000 in
theorem gX12_addFact_X12_keeps : GoodIn wsX12_addFact (wsV RX12 217 RX12 yX12_keeps wsX12_keeps) := goodIn_app (goodIn_of _ (by decide +kernel)) ggX12_addFact_X12_keeps
set_option maxRecDepth 20000 in
theorem ggX12_addFact_X12_follows : GoodIn wsX12_addFact wsX12_follows := goodIn_r _ [47, 48, 2, 49, 50, 51, 52, 6, 53, 54, 55, 56, 57, 58, 59, 60, 61, 62, 63, 64, 65, 66, 67, 68, 69, 70, 71, 72, 73, 74, 75, 76, 77, 78, 79, 80, 81, 82, 83, 84, 85, 86, 19, 20, 21, 22, 87, 88, 89, 90, 91, 92, 93, 94, 95, 96, 97, 98, 99, 100, 101, 102, 103, 104, 105, 106, 107, 108, 109, 110, 111, 112, 113, 114, 115, 116, 117, 118, 119, 120, 121, 122, 123, 124, 125, 126, 127] (by decide +kernel) (by decide +kernel)
set_option maxRecDepth 20000 in
theorem gX12_addFact_X12_follows : GoodIn wsX12_addFact (wsV RX12 57 RX12 yX12_follows wsX12_follows) := goodIn_app (goodIn_of _ (by decide +kernel)) ggX12_addFact_X12_follows
set_option maxRecDepth 20000 in
theorem ggX12_removeFact_X12_isTable : GoodIn wsX12_removeFact wsX12_isTable := goodIn_r _ [7, 2, 8, 9, 6, 10, 113, 114, 115, 116, 117, 118, 119, 120, 121, 122, 123, 124, 125, 126, 127] (by decide +kernel) (by decide +kernel)
set_option maxRecDepth 20000 in
theorem gX12_removeFact_X12_isTable : GoodIn wsX12_removeFact (wsV RX12 220 RX12 yX12_isTable wsX12_isTable) := goodIn_app (goodIn_of _ (by decide +kernel)) ggX12_removeFact_X12_isTable
set_option maxRecDepth 20000 in
theorem ggX12_removeFact_X12_fails : GoodIn wsX12_removeFact wsX12_fails := goodIn_r _ [14, 1, 113, 114, 115, 116, 117, 118, 119, 120, 121, 122, 123, 124, 125, 126, 127] (by decide +kernel) (by decide +kernel)
set_option maxRecDepth 20000 in
theorem gX12_removeFact_X12_fails : GoodIn wsX12_removeFact (wsV RX12 214 RX12 yX12_fails wsX12_fails) := goodIn_app (goodIn_of _ (by decide +kernel)) ggX12_removeFact_X12_fails
set_option maxRecDepth 20000 in
theorem ggX12_removeFact_X12_areRight : GoodIn wsX12_removeFact wsX12_areRight := goodIn_r _ [18, 19, 20, 21, 6, 22, 2, 8, 9, 10, 113, 114, 115, 116, 117, 118, 119, 120, 121, 122, 123, 124, 125, 126, 127] (by decide +kernel) (by decide +kernel)
set_option maxRecDepth 20000 in
theorem gX12_removeFact_X12_areRight : GoodIn wsX12_removeFact (wsV RX12 223 RX12 yX12_areRight wsX12_areRight) := goodIn_app (goodIn_of _ (by decide +kernel)) ggX12_removeFact_X12_areRight
set_option maxRecDepth 20000 in
theorem ggX12_removeFact_X12_code : GoodIn wsX12_removeFact wsX12_code := goodIn_r _ [25] (by decide +kernel) (by decide +kernel)
set_option maxRecDepth 20000 in
theorem gX12_removeFact_X12_code : GoodIn wsX12_removeFact (va_wsS RX12 72 yX12_code wsX12_code) := goodIn_app (goodIn_of _ (by decide +kernel)) ggX12_removeFact_X12_code
set_option maxRecDepth 20000 in
theorem ggX12_removeFact_X12_isFactAt : GoodIn wsX12_removeFact wsX12_isFactAt := goodIn_r _ [29, 2, 113, 114, 115, 116, 117, 118, 119, 120, 121, 122, 123, 124, 125, 126, 127] (by decide +kernel) (by decide +kernel)
set_option maxRecDepth 20000 in
theorem gX12_removeFact_X12_isFactAt : GoodIn wsX12_removeFact (wsV RX12 148 RX12 yX12_isFactAt wsX12_isFactAt) := goodIn_app (goodIn_of _ (by decide +kernel)) ggX12_removeFact_X12_isFactAt
set_option maxRecDepth 20000 in
theorem ggX12_removeFact_X12_keeps : GoodIn wsX12_removeFact wsX12_keeps := goodIn_r _ [33, 34, 35, 36, 37, 38, 39, 2, 113, 114, 115, 116, 117, 118, 119, 120, 121, 122, 123, 124, 125, 126, 127] (by decide +kernel) (by decide +kernel)
set_option maxRecDepth 20000 in
theorem gX12_removeFact_X12_keeps : GoodIn wsX12_removeFact (wsV RX12 217 RX12 yX12_keeps wsX12_keeps) := goodIn_app (goodIn_of _ (by decide +kernel)) ggX12_removeFact_X12_keeps
set_option maxRecDepth 20000 in
theorem ggX12_removeFact_X12_follows : GoodIn wsX12_removeFact wsX12_follows := goodIn_r _ [43, 44, 2, 45, 46, 47, 48, 6, 49, 50, 51, 52, 53, 54, 55, 56, 57, 58, 59, 60, 61, 62, 63, 64, 65, 66, 67, 68, 69, 70, 71, 72, 73, 74, 75, 76, 77, 78, 79, 80, 81, 82, 19, 20, 21, 22, 83, 84, 85, 86, 87, 88, 89, 90, 91, 92, 93, 94, 95, 96, 97, 98, 99, 100, 101, 102, 103, 104, 105, 106, 107, 108, 113, 114, 115, 116, 117, 118, 119, 120, 121, 122, 123, 124, 125, 126, 127] (by decide +kernel) (by decide +kernel)
set_option maxRecDepth 20000 in
theorem gX12_removeFact_X12_follows : GoodIn wsX12_removeFact (wsV RX12 57 RX12 yX12_follows wsX12_follows) := goodIn_app (goodIn_of _ (by decide +kernel)) ggX12_removeFact_X12_follows
set_option maxRecDepth 20000 in
theorem ggX12_removeFact_X12_factsOf : GoodIn wsX12_removeFact wsX12_factsOf := goodIn_r _ [112, 2, 113, 114, 115, 116, 117, 118, 119, 120, 121, 122, 123, 124, 125, 126, 127] (by decide +kernel) (by decide +kernel)
set_option maxRecDepth 20000 in
theorem gX12_removeFact_X12_factsOf : GoodIn wsX12_removeFact (wsV RX12 227 RX12 yX12_factsOf wsX12_factsOf) := goodIn_app (goodIn_of _ (by decide +kernel)) ggX12_removeFact_X12_factsOf
set_option maxRecDepth 20000 in
theorem ggX12_addAtom_X12_isQuery : GoodIn wsX12_addAtom wsX12_isQuery := goodIn_r _ [5, 6, 7, 4, 8] (by decide +kernel) (by decide +kernel)
set_option maxRecDepth 20000 in
theorem gX12_addAtom_X12_isQuery : GoodIn wsX12_addAtom (va_wsS RX12 230 yX12_isQuery wsX12_isQuery) := goodIn_app (goodIn_of _ (by decide +kernel)) ggX12_addAtom_X12_isQuery
set_option maxRecDepth 20000 in
theorem ggX12_addAtom_X12_isTable : GoodIn wsX12_addAtom wsX12_isTable := goodIn_r _ [12, 13, 6, 7, 4, 8, 52, 53, 54, 55, 56, 57, 58, 59, 60, 61, 62, 63, 64, 65, 66] (by decide +kernel) (by decide +kernel)
set_option maxRecDepth 20000 in
theorem gX12_addAtom_X12_isTable : GoodIn wsX12_addAtom (wsV RX12 220 RX12 yX12_isTable wsX12_isTable) := goodIn_app (goodIn_of _ (by decide +kernel)) ggX12_addAtom_X12_isTable
set_option maxRecDepth 20000 in
theorem ggX12_addAtom_X12_fails : GoodIn wsX12_addAtom wsX12_fails := goodIn_r _ [17, 1, 52, 53, 54, 55, 56, 57, 58, 59, 60, 61, 62, 63, 64, 65, 66] (by decide +kernel) (by decide +kernel)
set_option maxRecDepth 20000 in
theorem gX12_addAtom_X12_fails : GoodIn wsX12_addAtom (wsV RX12 214 RX12 yX12_fails wsX12_fails) := goodIn_app (goodIn_of _ (by decide +kernel)) ggX12_addAtom_X12_fails
set_option maxRecDepth 20000 in
theorem ggX12_addAtom_X12_areRight : GoodIn wsX12_addAtom wsX12_areRight := goodIn_r _ [21, 22, 23, 24, 4, 25, 13, 6, 7, 8, 52, 53, 54, 55, 56, 57, 58, 59, 60, 61, 62, 63, 64, 65, 66] (by decide +kernel) (by decide +kernel)
set_option maxRecDepth 20000 in
theorem gX12_addAtom_X12_areRight : GoodIn wsX12_addAtom (wsV RX12 223 RX12 yX12_areRight wsX12_areRight) := goodIn_app (goodIn_of _ (by decide +kernel)) ggX12_addAtom_X12_areRight
set_option maxRecDepth 20000 in
theorem ggX12_addAtom_X12_atoms : GoodIn wsX12_addAtom wsX12_atoms := goodIn_r _ [29, 13, 52, 53, 54, 55, 56, 57, 58, 59, 60, 61, 62, 63, 64, 65, 66] (by decide +kernel) (by decide +kernel)
set_option maxRecDepth 20000 in
theorem gX12_addAtom_X12_atoms : GoodIn wsX12_addAtom (wsV RX12 76 RX12 yX12_atoms wsX12_atoms) := goodIn_app (goodIn_of _ (by decide +kernel)) ggX12_addAtom_X12_atoms
set_option maxRecDepth 20000 in
theorem ggX12_addAtom_X12_keeps : GoodIn wsX12_addAtom wsX12_keeps := goodIn_r _ [33, 34, 35, 36, 37, 38, 39, 13, 52, 53, 54, 55, 56, 57, 58, 59, 60, 61, 62, 63, 64, 65, 66] (by decide +kernel) (by decide +kernel)
set_option maxRecDepth 20000 in
theorem gX12_addAtom_X12_keeps : GoodIn wsX12_addAtom (wsV RX12 217 RX12 yX12_keeps wsX12_keeps) := goodIn_app (goodIn_of _ (by decide +kernel)) ggX12_addAtom_X12_keeps
set_option maxRecDepth 20000 in
theorem ggX12_addAtom_X12_laysAtom : GoodIn wsX12_addAtom wsX12_laysAtom := goodIn_r _ [43, 13, 26, 27, 28, 4, 29, 44, 45, 46, 47, 48, 49, 50, 51, 52, 53, 54, 55, 56, 57, 58, 59, 60, 61, 62, 63, 64, 65, 66] (by decide +kernel) (by decide +kernel)
set_option maxRecDepth 20000 in
theorem gX12_addAtom_X12_laysAtom : GoodIn wsX12_addAtom (wsV RX12 45 RX12 yX12_laysAtom wsX12_laysAtom) := goodIn_app (goodIn_of _ (by decide +kernel)) ggX12_addAtom_X12_laysAtom
set_option maxRecDepth 20000 in
theorem ggX12_clearQuery_X12_isQuery : GoodIn wsX12_clearQuery wsX12_isQuery := goodIn_r _ [6, 7, 8, 5, 9] (by decide +kernel) (by decide +kernel)
set_option maxRecDepth 20000 in
theorem gX12_clearQuery_X12_isQuery : GoodIn wsX12_clearQuery (va_wsS RX12 230 yX12_isQuery wsX12_isQuery) := goodIn_app (goodIn_of _ (by decide +kernel)) ggX12_clearQuery_X12_isQuery
set_option maxRecDepth 20000 in
theorem ggX12_clearQuery_X12_fails : GoodIn wsX12_clearQuery wsX12_fails := goodIn_r _ [13, 1, 28, 29, 30, 31, 32, 33, 34, 35, 36, 37, 38, 39, 40, 41, 42] (by decide +kernel) (by decide +kernel)
set_option maxRecDepth 20000 in
theorem gX12_clearQuery_X12_fails : GoodIn wsX12_clearQuery (wsV RX12 214 RX12 yX12_fails wsX12_fails) := goodIn_app (goodIn_of _ (by decide +kernel)) ggX12_clearQuery_X12_fails
set_option maxRecDepth 20000 in
theorem ggX12_clearQuery_X12_keeps : GoodIn wsX12_clearQuery wsX12_keeps := goodIn_r _ [17, 18, 19, 20, 21, 22, 23, 2, 28, 29, 30, 31, 32, 33, 34, 35, 36, 37, 38, 39, 40, 41, 42] (by decide +kernel) (by decide +kernel)
set_option maxRecDepth 20000 in
theorem gX12_clearQuery_X12_keeps : GoodIn wsX12_clearQuery (wsV RX12 217 RX12 yX12_keeps wsX12_keeps) := goodIn_app (goodIn_of _ (by decide +kernel)) ggX12_clearQuery_X12_keeps
set_option maxRecDepth 20000 in
theorem ggX12_clearQuery_X12_atoms : GoodIn wsX12_clearQuery wsX12_atoms := goodIn_r _ [27, 2, 28, 29, 30, 31, 32, 33, 34, 35, 36, 37, 38, 39, 40, 41, 42] (by decide +kernel) (by decide +kernel)
set_option maxRecDepth 20000 in
theorem gX12_clearQuery_X12_atoms : GoodIn wsX12_clearQuery (wsV RX12 76 RX12 yX12_atoms wsX12_atoms) := goodIn_app (goodIn_of _ (by decide +kernel)) ggX12_clearQuery_X12_atoms
set_option maxRecDepth 20000 in
theorem ggX12_setOrder_X12_isQuery : GoodIn wsX12_setOrder wsX12_isQuery := goodIn_r _ [6, 7, 8, 5, 9] (by decide +kernel) (by decide +kernel)
set_option maxRecDepth 20000 in
theorem gX12_setOrder_X12_isQuery : GoodIn wsX12_setOrder (va_wsS RX12 230 yX12_isQuery wsX12_isQuery) := goodIn_app (goodIn_of _ (by decide +kernel)) ggX12_setOrder_X12_isQuery
set_option maxRecDepth 20000 in
theorem ggX12_setOrder_X12_fails : GoodIn wsX12_setOrder wsX12_fails := goodIn_r _ [13, 1, 27, 28, 29, 30, 31, 32, 33, 34, 35, 36, 37, 38, 39, 40, 41] (by decide +kernel) (by decide +kernel)
set_option maxRecDepth 20000 in
theorem gX12_setOrder_X12_fails : GoodIn wsX12_setOrder (wsV RX12 214 RX12 yX12_fails wsX12_fails) := goodIn_app (goodIn_of _ (by decide +kernel)) ggX12_setOrder_X12_fails
set_option maxRecDepth 20000 in
theorem ggX12_setOrder_X12_in : GoodIn wsX12_setOrder wsX12_in := goodIn_r _ [9] (by decide +kernel) (by decide +kernel)
set_option maxRecDepth 20000 in
theorem gX12_setOrder_X12_in : GoodIn wsX12_setOrder (va_wsS RX12 64 yX12_in wsX12_in) := goodIn_app (goodIn_of _ (by decide +kernel)) ggX12_setOrder_X12_in
set_option maxRecDepth 20000 in
theorem ggX12_setOrder_X12_isOrder : GoodIn wsX12_setOrder wsX12_isOrder := goodIn_r _ [16] (by decide +kernel) (by decide +kernel)
set_option maxRecDepth 20000 in
theorem gX12_setOrder_X12_isOrder : GoodIn wsX12_setOrder (va_wsS RX12 233 yX12_isOrder wsX12_isOrder) := goodIn_app (goodIn_of _ (by decide +kernel)) ggX12_setOrder_X12_isOrder
set_option maxRecDepth 20000 in
theorem ggX12_setOrder_X12_keeps : GoodIn wsX12_setOrder wsX12_keeps := goodIn_r _ [20, 21, 22, 23, 24, 25, 26, 2, 27, 28, 29, 30, 31, 32, 33, 34, 35, 36, 37, 38, 39, 40, 41] (by decide +kernel) (by decide +kernel)
set_option maxRecDepth 20000 in
theorem gX12_setOrder_X12_keeps : GoodIn wsX12_setOrder (wsV RX12 217 RX12 yX12_keeps wsX12_keeps) := goodIn_app (goodIn_of _ (by decide +kernel)) ggX12_setOrder_X12_keeps
set_option maxRecDepth 20000 in
theorem ggX12_clearIdle_X12_isQuery : GoodIn wsX12_clearIdle wsX12_isQuery := goodIn_r _ [7, 8, 9, 6, 10] (by decide +kernel) (by decide +kernel)
set_option maxRecDepth 20000 in
theorem gX12_clearIdle_X12_isQuery : GoodIn wsX12_clearIdle (va_wsS RX12 230 yX12_isQuery wsX12_isQuery) := goodIn_app (goodIn_of _ (by decide +kernel)) ggX12_clearIdle_X12_isQuery
set_option maxRecDepth 20000 in
theorem ggX12_clearIdle_X12_atoms : GoodIn wsX12_clearIdle wsX12_atoms := goodIn_r _ [14, 2, 136, 137, 138, 139, 140, 141, 142, 143, 144, 145, 146, 147, 148, 149, 150] (by decide +kernel) (by decide +kernel)
set_option maxRecDepth 20000 in
theorem gX12_clearIdle_X12_atoms : GoodIn wsX12_clearIdle (wsV RX12 76 RX12 yX12_atoms wsX12_atoms) := goodIn_app (goodIn_of _ (by decide +kernel)) ggX12_clearIdle_X12_atoms
set_option maxRecDepth 20000 in
theorem ggX12_clearIdle_X12_in : GoodIn wsX12_clearIdle wsX12_in := goodIn_r _ [10] (by decide +kernel) (by decide +kernel)
set_option maxRecDepth 20000 in
theorem gX12_clearIdle_X12_in : GoodIn wsX12_clearIdle (va_wsS RX12 64 yX12_in wsX12_in) := goodIn_app (goodIn_of _ (by decide +kernel)) ggX12_clearIdle_X12_in
set_option maxRecDepth 20000 in
theorem ggX12_clearIdle_X12_fails : GoodIn wsX12_clearIdle wsX12_fails := goodIn_r _ [18, 1, 136, 137, 138, 139, 140, 141, 142, 143, 144, 145, 146, 147, 148, 149, 150] (by decide +kernel) (by decide +kernel)
set_option maxRecDepth 20000 in
theorem gX12_clearIdle_X12_fails : GoodIn wsX12_clearIdle (wsV RX12 214 RX12 yX12_fails wsX12_fails) := goodIn_app (goodIn_of _ (by decide +kernel)) ggX12_clearIdle_X12_fails
set_option maxRecDepth 20000 in
theorem ggX12_clearIdle_X12_keeps : GoodIn wsX12_clearIdle wsX12_keeps := goodIn_r _ [22, 23, 24, 25, 26, 27, 28, 2, 136, 137, 138, 139, 140, 141, 142, 143, 144, 145, 146, 147, 148, 149, 150] (by decide +kernel) (by decide +kernel)
set_option maxRecDepth 20000 in
theorem gX12_clearIdle_X12_keeps : GoodIn wsX12_clearIdle (wsV RX12 217 RX12 yX12_keeps wsX12_keeps) := goodIn_app (goodIn_of _ (by decide +kernel)) ggX12_clearIdle_X12_keeps
set_option maxRecDepth 20000 in
theorem ggX12_clearIdle_X12_findsMade : GoodIn wsX12_clearIdle wsX12_findsMade := goodIn_r _ [32, 3, 33, 34, 35, 6, 36, 37, 38, 39, 40, 41, 2, 42, 43, 44, 45, 46, 11, 12, 13, 14, 47, 48, 49, 50, 51, 52, 53, 54, 55, 56, 57, 58, 59, 60, 61, 62, 63, 64, 65, 66, 67, 68, 69, 70, 71, 72, 73, 74, 75, 76, 136, 137, 138, 139, 140, 141, 142, 143, 144, 145, 146, 147, 148, 149, 150] (by decide +kernel) (by decide +kernel)
set_option maxRecDepth 20000 in
theorem gX12_clearIdle_X12_findsMade : GoodIn wsX12_clearIdle (wsV RX12 236 RX12 yX12_findsMade wsX12_findsMade) := goodIn_app (goodIn_of _ (by decide +kernel)) ggX12_clearIdle_X12_findsMade
set_option maxRecDepth 20000 in
theorem ggX12_clearIdle_X12_atomAt : GoodIn wsX12_clearIdle wsX12_atomAt := goodIn_r _ [50] (by decide +kernel) (by decide +kernel)
set_option maxRecDepth 20000 in
theorem gX12_clearIdle_X12_atomAt : GoodIn wsX12_clearIdle (wsV RX12 79 RX12 yX12_atomAt wsX12_atomAt) := goodIn_app (goodIn_of _ (by decide +kernel)) ggX12_clearIdle_X12_atomAt
set_option maxRecDepth 20000 in
theorem ggX12_clearIdle_X12_isFactAt : GoodIn wsX12_clearIdle wsX12_isFactAt := goodIn_r _ [80, 2, 136, 137, 138, 139, 140, 141, 142, 143, 144, 145, 146, 147, 148, 149, 150] (by decide +kernel) (by decide +kernel)
set_option maxRecDepth 20000 in
theorem gX12_clearIdle_X12_isFactAt : GoodIn wsX12_clearIdle (wsV RX12 148 RX12 yX12_isFactAt wsX12_isFactAt) := goodIn_app (goodIn_of _ (by decide +kernel)) ggX12_clearIdle_X12_isFactAt
set_option maxRecDepth 20000 in
theorem ggX12_clearIdle_X12_follows : GoodIn wsX12_clearIdle wsX12_follows := goodIn_r _ [84, 72, 2, 85, 86, 87, 88, 6, 89, 90, 91, 92, 93, 94, 95, 96, 97, 98, 99, 100, 101, 102, 103, 104, 105, 106, 107, 108, 109, 110, 111, 112, 113, 114, 115, 116, 117, 118, 51, 52, 53, 54, 55, 56, 57, 58, 119, 120, 121, 122, 123, 124, 125, 126, 127, 128, 129, 130, 131, 67, 132, 133, 134, 135, 68, 69, 70, 71, 73, 74, 75, 76, 136, 137, 138, 139, 140, 141, 142, 143, 144, 145, 146, 147, 148, 149, 150] (by decide +kernel) (by decide +kernel)
set_option maxRecDepth 20000 in
theorem gX12_clearIdle_X12_follows : GoodIn wsX12_clearIdle (wsV RX12 57 RX12 yX12_follows wsX12_follows) := goodIn_app (goodIn_of _ (by decide +kernel)) ggX12_clearIdle_X12_follows
set_option maxRecDepth 20000 in
theorem ggX12_addRule_X12_isTable : GoodIn wsX12_addRule wsX12_isTable := goodIn_r _ [7, 2, 8, 9, 6, 10, 110, 111, 112, 113, 114, 115, 116, 117, 118, 119, 120, 121, 122, 123, 124] (by decide +kernel) (by decide +kernel)
set_option maxRecDepth 20000 in
theorem gX12_addRule_X12_isTable : GoodIn wsX12_addRule (wsV RX12 220 RX12 yX12_isTable wsX12_isTable) := goodIn_app (goodIn_of _ (by decide +kernel)) ggX12_addRule_X12_isTable
set_option maxRecDepth 20000 in
theorem ggX12_addRule_X12_fails : GoodIn wsX12_addRule wsX12_fails := goodIn_r _ [14, 1, 110, 111, 112, 113, 114, 115, 116, 117, 118, 119, 120, 121, 122, 123, 124] (by decide +kernel) (by decide +kernel)
set_option maxRecDepth 20000 in
theorem gX12_addRule_X12_fails : GoodIn wsX12_addRule (wsV RX12 214 RX12 yX12_fails wsX12_fails) := goodIn_app (goodIn_of _ (by decide +kernel)) ggX12_addRule_X12_fails
