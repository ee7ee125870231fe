set_option maxRecDepth 20000 in
theorem ggX12_rowAt_X12_in : GoodIn wsX12_rowAt wsX12_in := goodIn_r _ [11] (by decide +kernel) (by decide +kernel)
set_option maxRecDepth 20000 in
theorem gX12_rowAt_X12_in : GoodIn wsX12_rowAt (va_wsS RX12 64 yX12_in wsX12_in) := goodIn_app (goodIn_of _ (by decide +kernel)) ggX12_rowAt_X12_in
set_option maxRecDepth 20000 in
theorem ggX12_rowAt_X12_columnsOf : GoodIn wsX12_rowAt wsX12_columnsOf := goodIn_r _ [19, 8, 27, 28, 29, 30, 31, 32, 33, 34, 35, 36, 37, 38, 39, 40, 41] (by decide +kernel) (by decide +kernel)
set_option maxRecDepth 20000 in
theorem gX12_rowAt_X12_columnsOf : GoodIn wsX12_rowAt (wsV RX12 68 RX12 yX12_columnsOf wsX12_columnsOf) := goodIn_app (goodIn_of _ (by decide +kernel)) ggX12_rowAt_X12_columnsOf
set_option maxRecDepth 20000 in
theorem ggX12_rowAt_X12_fails : GoodIn wsX12_rowAt wsX12_fails := goodIn_r _ [23, 1, 27, 28, 29, 30, 31, 32, 33, 34, 35, 36, 37, 38, 39, 40, 41] (by decide +kernel) (by decide +kernel)
set_option maxRecDepth 20000 in
theorem gX12_rowAt_X12_fails : GoodIn wsX12_rowAt (wsV RX12 214 RX12 yX12_fails wsX12_fails) := goodIn_app (goodIn_of _ (by decide +kernel)) ggX12_rowAt_X12_fails
set_option maxRecDepth 20000 in
theorem ggX12_rowAt_X12_valueIn : GoodIn wsX12_rowAt wsX12_valueIn := goodIn_r _ [26] (by decide +kernel) (by decide +kernel)
set_option maxRecDepth 20000 in
theorem gX12_rowAt_X12_valueIn : GoodIn wsX12_rowAt (va_wsS RX12 172 yX12_valueIn wsX12_valueIn) := goodIn_app (goodIn_of _ (by decide +kernel)) ggX12_rowAt_X12_valueIn
set_option maxRecDepth 20000 in
theorem ggX12_firstFrom_X12_isTable : GoodIn wsX12_firstFrom wsX12_isTable := goodIn_r _ [7, 8, 9, 10, 6, 11, 31, 32, 33, 34, 35, 36, 37, 38, 39, 40, 41, 42, 43, 44, 45] (by decide +kernel) (by decide +kernel)
set_option maxRecDepth 20000 in
theorem gX12_firstFrom_X12_isTable : GoodIn wsX12_firstFrom (wsV RX12 220 RX12 yX12_isTable wsX12_isTable) := goodIn_app (goodIn_of _ (by decide +kernel)) ggX12_firstFrom_X12_isTable
set_option maxRecDepth 20000 in
theorem ggX12_firstFrom_X12_fails : GoodIn wsX12_firstFrom wsX12_fails := goodIn_r _ [15, 1, 31, 32, 33, 34, 35, 36, 37, 38, 39, 40, 41, 42, 43, 44, 45] (by decide +kernel) (by decide +kernel)
set_option maxRecDepth 20000 in
theorem gX12_firstFrom_X12_fails : GoodIn wsX12_firstFrom (wsV RX12 214 RX12 yX12_fails wsX12_fails) := goodIn_app (goodIn_of _ (by decide +kernel)) ggX12_firstFrom_X12_fails
set_option maxRecDepth 20000 in
theorem ggX12_firstFrom_X12_areRight : GoodIn wsX12_firstFrom wsX12_areRight := goodIn_r _ [19, 20, 21, 22, 6, 23, 8, 9, 10, 11, 31, 32, 33, 34, 35, 36, 37, 38, 39, 40, 41, 42, 43, 44, 45] (by decide +kernel) (by decide +kernel)
set_option maxRecDepth 20000 in
theorem gX12_firstFrom_X12_areRight : GoodIn wsX12_firstFrom (wsV RX12 223 RX12 yX12_areRight wsX12_areRight) := goodIn_app (goodIn_of _ (by decide +kernel)) ggX12_firstFrom_X12_areRight
set_option maxRecDepth 20000 in
theorem ggX12_firstFrom_X12_code : GoodIn wsX12_firstFrom wsX12_code := goodIn_r _ [26] (by decide +kernel) (by decide +kernel)
set_option maxRecDepth 20000 in
theorem gX12_firstFrom_X12_code : GoodIn wsX12_firstFrom (va_wsS RX12 72 yX12_code wsX12_code) := goodIn_app (goodIn_of _ (by decide +kernel)) ggX12_firstFrom_X12_code
set_option maxRecDepth 20000 in
theorem ggX12_firstFrom_X12_rowsOf : GoodIn wsX12_firstFrom wsX12_rowsOf := goodIn_r _ [30, 2, 31, 32, 33, 34, 35, 36, 37, 38, 39, 40, 41, 42, 43, 44, 45] (by decide +kernel) (by decide +kernel)
set_option maxRecDepth 20000 in
theorem gX12_firstFrom_X12_rowsOf : GoodIn wsX12_firstFrom (wsV RX12 242 RX12 yX12_rowsOf wsX12_rowsOf) := goodIn_app (goodIn_of _ (by decide +kernel)) ggX12_firstFrom_X12_rowsOf
set_option maxRecDepth 20000 in
theorem ggX12_values_X12_isTable : GoodIn wsX12_values wsX12_isTable := goodIn_r _ [7, 8, 9, 10, 6, 11, 26, 27, 28, 29, 30, 31, 32, 33, 34, 35, 36, 37, 38, 39, 40] (by decide +kernel) (by decide +kernel)
set_option maxRecDepth 20000 in
theorem gX12_values_X12_isTable : GoodIn wsX12_values (wsV RX12 220 RX12 yX12_isTable wsX12_isTable) := goodIn_app (goodIn_of _ (by decide +kernel)) ggX12_values_X12_isTable
set_option maxRecDepth 20000 in
theorem ggX12_values_X12_columnsOf : GoodIn wsX12_values wsX12_columnsOf := goodIn_r _ [15, 8, 26, 27, 28, 29, 30, 31, 32, 33, 34, 35, 36, 37, 38, 39, 40] (by decide +kernel) (by decide +kernel)
set_option maxRecDepth 20000 in
theorem gX12_values_X12_columnsOf : GoodIn wsX12_values (wsV RX12 68 RX12 yX12_columnsOf wsX12_columnsOf) := goodIn_app (goodIn_of _ (by decide +kernel)) ggX12_values_X12_columnsOf
set_option maxRecDepth 20000 in
theorem ggX12_values_X12_in : GoodIn wsX12_values wsX12_in := goodIn_r _ [11] (by decide +kernel) (by decide +kernel)
set_option maxRecDepth 20000 in
theorem gX12_values_X12_in : GoodIn wsX12_values (va_wsS RX12 64 yX12_in wsX12_in) := goodIn_app (goodIn_of _ (by decide +kernel)) ggX12_values_X12_in
set_option maxRecDepth 20000 in
theorem ggX12_values_X12_fails : GoodIn wsX12_values wsX12_fails := goodIn_r _ [19, 1, 26, 27, 28, 29, 30, 31, 32, 33, 34, 35, 36, 37, 38, 39, 40] (by decide +kernel) (by decide +kernel)
set_option maxRecDepth 20000 in
theorem gX12_values_X12_fails : GoodIn wsX12_values (wsV RX12 214 RX12 yX12_fails wsX12_fails) := goodIn_app (goodIn_of _ (by decide +kernel)) ggX12_values_X12_fails
set_option maxRecDepth 20000 in
theorem ggX12_values_X12_valueIn : GoodIn wsX12_values wsX12_valueIn := goodIn_r _ [22] (by decide +kernel) (by decide +kernel)
set_option maxRecDepth 20000 in
theorem gX12_values_X12_valueIn : GoodIn wsX12_values (va_wsS RX12 172 yX12_valueIn wsX12_valueIn) := goodIn_app (goodIn_of _ (by decide +kernel)) ggX12_values_X12_valueIn
set_option maxRecDepth 20000 in
theorem ggX12_values_X12_bitsOf : GoodIn wsX12_values wsX12_bitsOf := goodIn_r _ [25] (by decide +kernel) (by decide +kernel)
set_option maxRecDepth 20000 in
theorem gX12_values_X12_bitsOf : GoodIn wsX12_values (va_wsS RX12 248 yX12_bitsOf wsX12_bitsOf) := goodIn_app (goodIn_of _ (by decide +kernel)) ggX12_values_X12_bitsOf
set_option maxRecDepth 20000 in
theorem ggX12_lower_X12_isTable : GoodIn wsX12_lower wsX12_isTable := goodIn_r _ [7, 8, 9, 10, 6, 11, 19, 20, 21, 22, 23, 24, 25, 26, 27, 28, 29, 30, 31, 32, 33] (by decide +kernel) (by decide +kernel)
set_option maxRecDepth 20000 in
theorem gX12_lower_X12_isTable : GoodIn wsX12_lower (wsV RX12 220 RX12 yX12_isTable wsX12_isTable) := goodIn_app (goodIn_of _ (by decide +kernel)) ggX12_lower_X12_isTable
set_option maxRecDepth 20000 in
theorem ggX12_lower_X12_fails : GoodIn wsX12_lower wsX12_fails := goodIn_r _ [15, 1, 19, 20, 21, 22, 23, 24, 25, 26, 27, 28, 29, 30, 31, 32, 33] (by decide +kernel) (by decide +kernel)
set_option maxRecDepth 20000 in
theorem gX12_lower_X12_fails : GoodIn wsX12_lower (wsV RX12 214 RX12 yX12_fails wsX12_fails) := goodIn_app (goodIn_of _ (by decide +kernel)) ggX12_lower_X12_fails
set_option maxRecDepth 20000 in
theorem ggX12_lower_X12_in : GoodIn wsX12_lower wsX12_in := goodIn_r _ [11] (by decide +kernel) (by decide +kernel)
set_option maxRecDepth 20000 in
theorem gX12_lower_X12_in : GoodIn wsX12_lower (va_wsS RX12 64 yX12_in wsX12_in) := goodIn_app (goodIn_of _ (by decide +kernel)) ggX12_lower_X12_in
set_option maxRecDepth 20000 in
theorem ggX12_lower_X12_valueIn : GoodIn wsX12_lower wsX12_valueIn := goodIn_r _ [18] (by decide +kernel) (by decide +kernel)
set_option maxRecDepth 20000 in
theorem gX12_lower_X12_valueIn : GoodIn wsX12_lower (va_wsS RX12 172 yX12_valueIn wsX12_valueIn) := goodIn_app (goodIn_of _ (by decide +kernel)) ggX12_lower_X12_valueIn
set_option maxRecDepth 20000 in
theorem ggX12_atomCount_X12_isQuery : GoodIn wsX12_atomCount wsX12_isQuery := goodIn_r _ [5, 6, 7, 4, 8] (by decide +kernel) (by decide +kernel)
set_option maxRecDepth 20000 in
theorem gX12_atomCount_X12_isQuery : GoodIn wsX12_atomCount (va_wsS RX12 230 yX12_isQuery wsX12_isQuery) := goodIn_app (goodIn_of _ (by decide +kernel)) ggX12_atomCount_X12_isQuery
set_option maxRecDepth 20000 in
theorem ggX12_atomCount_X12_atoms : GoodIn wsX12_atomCount wsX12_atoms := goodIn_r _ [12, 13, 18, 19, 20, 21, 22, 23, 24, 25, 26, 27, 28, 29, 30, 31, 32] (by decide +kernel) (by decide +kernel)
set_option maxRecDepth 20000 in
theorem gX12_atomCount_X12_atoms : GoodIn wsX12_atomCount (wsV RX12 76 RX12 yX12_atoms wsX12_atoms) := goodIn_app (goodIn_of _ (by decide +kernel)) ggX12_atomCount_X12_atoms
set_option maxRecDepth 20000 in
theorem ggX12_atomCount_X12_fails : GoodIn wsX12_atomCount wsX12_fails := goodIn_r _ [17, 1, 18, 19, 20, 21, 22, 23, 24, 25, 26, 27, 28, 29, 30, 31, 32] (by decide +kernel) (by decide +kernel)
set_option maxRecDepth 20000 in
theorem gX12_atomCount_X12_fails : GoodIn wsX12_atomCount (wsV RX12 214 RX12 yX12_fails wsX12_fails) := goodIn_app (goodIn_of _ (by decide +kernel)) ggX12_atomCount_X12_fails
set_option maxRecDepth 20000 in
theorem ggX12_answers_X12_isQuery : GoodIn wsX12_answers wsX12_isQuery := goodIn_r _ [5, 6, 7, 4, 8] (by decide +kernel) (by decide +kernel)
set_option maxRecDepth 20000 in
theorem gX12_answers_X12_isQuery : GoodIn wsX12_answers (va_wsS RX12 230 yX12_isQuery wsX12_isQuery) := goodIn_app (goodIn_of _ (by decide +kernel)) ggX12_answers_X12_isQuery
set_option maxRecDepth 20000 in
theorem ggX12_answers_X12_answersOf : GoodIn wsX12_answers wsX12_answersOf := goodIn_r _ [12, 13, 14, 15, 4, 16, 17, 18, 19, 20, 21, 22, 23, 24, 25, 26, 27, 28, 29, 30, 31, 32, 33, 34, 35, 36, 37, 38, 39, 40, 41, 42, 43, 44, 45, 46, 47, 48, 49, 50, 51, 52, 53, 54, 55, 56, 57, 58, 59, 60, 61, 66, 67, 68, 69, 70, 71, 72, 73, 74, 75, 76, 77, 78, 79, 80] (by decide +kernel) (by decide +kernel)
set_option maxRecDepth 20000 in
theorem gX12_answers_X12_answersOf : GoodIn wsX12_answers (wsV RX12 251 RX12 yX12_answersOf wsX12_answersOf) := goodIn_app (goodIn_of _ (by decide +kernel)) ggX12_answers_X12_answersOf
set_option maxRecDepth 20000 in
theorem ggX12_answers_X12_fails : GoodIn wsX12_answers wsX12_fails := goodIn_r _ [65, 1, 66, 67, 68, 69, 70, 71, 72, 73, 74, 75, 76, 77, 78, 79, 80] (by decide +kernel) (by decide +kernel)
set_option maxRecDepth 20000 in
theorem gX12_answers_X12_fails : GoodIn wsX12_answers (wsV RX12 214 RX12 yX12_fails wsX12_fails) := goodIn_app (goodIn_of _ (by decide +kernel)) ggX12_answers_X12_fails
set_option maxRecDepth 20000 in
theorem ggX12_answerAt_X12_isQuery : GoodIn wsX12_answerAt wsX12_isQuery := goodIn_r _ [6, 7, 8, 5, 9] (by decide +kernel) (by decide +kernel)
set_option maxRecDepth 20000 in
theorem gX12_answerAt_X12_isQuery : GoodIn wsX12_answerAt (va_wsS RX12 230 yX12_isQuery wsX12_isQuery) := goodIn_app (goodIn_of _ (by decide +kernel)) ggX12_answerAt_X12_isQuery
set_option maxRecDepth 20000 in
theorem ggX12_answerAt_X12_standsIn : GoodIn wsX12_answerAt wsX12_standsIn := goodIn_r _ [13, 7, 8, 5, 9, 14, 15, 16, 17, 18, 19, 20, 21, 22, 23, 24, 25, 26, 27, 28, 29, 30, 31, 32, 33, 34, 66, 67, 68, 69, 70, 71, 72, 73, 74, 75, 76, 77, 78, 79, 80] (by decide +kernel) (by decide +kernel)
set_option maxRecDepth 20000 in
theorem gX12_answerAt_X12_standsIn : GoodIn wsX12_answerAt (wsV RX12 201 RX12 yX12_standsIn wsX12_standsIn) := goodIn_app (goodIn_of _ (by decide +kernel)) ggX12_answerAt_X12_standsIn
set_option maxRecDepth 20000 in
theorem ggX12_answerAt_X12_fails : GoodIn wsX12_answerAt wsX12_fails := goodIn_r _ [38, 1, 66, 67, 68, 69, 70, 71, 72, 73, 74, 75, 76, 77, 78, 79, 80] (by decide +kernel) (by decide +kernel)
set_option maxRecDepth 20000 in
theorem gX12_answerAt_X12_fails : GoodIn wsX12_answerAt (wsV RX12 214 RX12 yX12_fails wsX12_fails) := goodIn_app (goodIn_of _ (by decide +kernel)) ggX12_answerAt_X12_fails
set_option maxRecDepth 20000 in
theorem ggX12_answerAt_X12_choices : GoodIn wsX12_answerAt wsX12_choices := goodIn_r _ [42, 43, 44, 45, 46, 5, 47, 22, 48, 14, 15, 16, 17, 18, 19, 20, 21, 23, 24, 25, 26, 27, 28, 29, 30, 31, 32, 33, 34, 66, 67, 68, 69, 70, 71, 72, 73, 74, 75, 76, 77, 78, 79, 80] (by decide +kernel) (by decide +kernel)
set_option maxRecDepth 20000 in
theorem gX12_answerAt_X12_choices : GoodIn wsX12_answerAt (wsV RX12 166 RX12 yX12_choices wsX12_choices) := goodIn_app (goodIn_of _ (by decide +kernel)) ggX12_answerAt_X12_choices
set_option maxRecDepth 20000 in
theorem ggX12_answerAt_X12_isAnswer : GoodIn wsX12_answerAt wsX12_isAnswer := goodIn_r _ [52, 53, 54, 55, 5, 56, 43, 2, 48, 18, 19, 20, 21, 22, 23, 24, 25, 26, 57, 58, 59, 60, 61, 62, 63, 64, 65, 31, 32, 33, 34, 66, 67, 68, 69, 70, 71, 72, 73, 74, 75, 76, 77, 78, 79, 80] (by decide +kernel) (by decide +kernel)
set_option maxRecDepth 20000 in
theorem gX12_answerAt_X12_isAnswer : GoodIn wsX12_answerAt (wsV RX12 169 RX12 yX12_isAnswer wsX12_isAnswer) := goodIn_app (goodIn_of _ (by decide +kernel)) ggX12_answerAt_X12_isAnswer
set_option maxRecDepth 20000 in
theorem ggX12_seek_X12_isQuery : GoodIn wsX12_seek wsX12_isQuery := goodIn_r _ [6, 7, 8, 5, 9] (by decide +kernel) (by decide +kernel)
set_option maxRecDepth 20000 in
theorem gX12_seek_X12_isQuery : GoodIn wsX12_seek (va_wsS RX12 230 yX12_isQuery wsX12_isQuery) := goodIn_app (goodIn_of _ (by decide +kernel)) ggX12_seek_X12_isQuery
set_option maxRecDepth 20000 in
theorem ggX12_seek_X12_fails : GoodIn wsX12_seek wsX12_fails := goodIn_r _ [13, 1, 62, 63, 64, 65, 66, 67, 68, 69, 70, 71, 72, 73, 74, 75, 76] (by decide +kernel) (by decide +kernel)
set_option maxRecDepth 20000 in
theorem gX12_seek_X12_fails : GoodIn wsX12_seek (wsV RX12 214 RX12 yX12_fails wsX12_fails) := goodIn_app (goodIn_of _ (by decide +kernel)) ggX12_seek_X12_fails
set_option maxRecDepth 20000 in
theorem ggX12_seek_X12_in : GoodIn wsX12_seek wsX12_in := goodIn_r _ [9] (by decide +kernel) (by decide +kernel)
set_option maxRecDepth 20000 in
theorem gX12_seek_X12_in : GoodIn wsX12_seek (va_wsS RX12 64 yX12_in wsX12_in) := goodIn_app (goodIn_of _ (by decide +kernel)) ggX12_seek_X12_in
set_option maxRecDepth 20000 in
theorem ggX12_seek_X12_choices : GoodIn wsX12_seek wsX12_choices := goodIn_r _ [17, 2, 18, 19, 20, 5, 21, 22, 23, 24, 25, 26, 27, 28, 29, 30, 31, 32, 33, 34, 35, 36, 37, 38, 39, 40, 41, 42, 43, 62, 63, 64, 65, 66, 67, 68, 69, 70, 71, 72, 73, 74, 75, 76] (by decide +kernel) (by decide +kernel)
set_option maxRecDepth 20000 in
theorem gX12_seek_X12_choices : GoodIn wsX12_seek (wsV RX12 166 RX12 yX12_choices wsX12_choices) := goodIn_app (goodIn_of _ (by decide +kernel)) ggX12_seek_X12_choices
set_option maxRecDepth 20000 in
theorem ggX12_seek_X12_isAnswer : GoodIn wsX12_seek wsX12_isAnswer := goodIn_r _ [47, 48, 49, 50, 5, 51, 2, 52, 23, 28, 29, 30, 31, 22, 32, 33, 34, 35, 53, 54, 55, 56, 57, 58, 59, 60, 61, 40, 41, 42, 43, 62, 63, 64, 65, 66, 67, 68, 69, 70, 71, 72, 73, 74, 75, 76] (by decide +kernel) (by decide +kernel)
set_option maxRecDepth 20000 in
theorem gX12_seek_X12_isAnswer : GoodIn wsX12_seek (wsV RX12 169 RX12 yX12_isAnswer wsX12_isAnswer) := goodIn_app (goodIn_of _ (by decide +kernel)) ggX12_seek_X12_isAnswer
set_option maxRecDepth 20000 in
theorem ggX12_leaps__X12_isQuery : GoodIn wsX12_leaps_ wsX12_isQuery := goodIn_r _ [7, 8, 9, 6, 10] (by decide +kernel) (by decide +kernel)
set_option maxRecDepth 20000 in
theorem gX12_leaps__X12_isQuery : GoodIn wsX12_leaps_ (va_wsS RX12 230 yX12_isQuery wsX12_isQuery) := goodIn_app (goodIn_of _ (by decide +kernel)) ggX12_leaps__X12_isQuery
set_option maxRecDepth 20000 in
theorem ggX12_leaps__X12_fails : GoodIn wsX12_leaps_ wsX12_fails := goodIn_r _ [14, 1, 66, 67, 68, 69, 70, 71, 72, 73, 74, 75, 76, 77, 78, 79, 80] (by decide +kernel) (by decide +kernel)
set_option maxRecDepth 20000 in
theorem gX12_leaps__X12_fails : GoodIn wsX12_leaps_ (wsV RX12 214 RX12 yX12_fails wsX12_fails) := goodIn_app (goodIn_of _ (by decide +kernel)) ggX12_leaps__X12_fails
set_option maxRecDepth 20000 in
theorem ggX12_leaps__X12_findsPlaces : GoodIn wsX12_leaps_ wsX12_findsPlaces := goodIn_r _ [18, 3, 19, 20, 21, 22, 23, 6, 24, 25, 26, 27, 28, 29, 30, 31, 32, 33, 34, 35, 36, 37, 38, 39, 40, 66, 67, 68, 69, 70, 71, 72, 73, 74, 75, 76, 77, 78, 79, 80] (by decide +kernel) (by decide +kernel)
set_option maxRecDepth 20000 in
theorem gX12_leaps__X12_findsPlaces : GoodIn wsX12_leaps_ (wsV RX12 163 RX12 yX12_findsPlaces wsX12_findsPlaces) := goodIn_app (goodIn_of _ (by decide +kernel)) ggX12_leaps__X12_findsPlaces
set_option maxRecDepth 20000 in
theorem ggX12_leaps__X12_leaps : GoodIn wsX12_leaps_ wsX12_leaps := goodIn_r _ [44, 20, 2, 45, 3, 46, 47, 48, 6, 49, 25, 26, 27, 28, 19, 29, 30, 31, 32, 33, 34, 35, 36, 37, 38, 39, 40, 50, 51, 52, 53, 54, 55, 56, 57, 58, 59, 60, 61, 62, 63, 64, 65, 41, 42, 43, 66, 67, 68, 69, 70, 71, 72, 73, 74, 75, 76, 77, 78, 79, 80] (by decide +kernel) (by decide +kernel)
set_option maxRecDepth 20000 in
theorem gX12_leaps__X12_leaps : GoodIn wsX12_leaps_ (wsV RX12 191 RX12 yX12_leaps wsX12_leaps) := goodIn_app (goodIn_of _ (by decide +kernel)) ggX12_leaps__X12_leaps
set_option maxRecDepth 20000 in
theorem ggX12_groups_X12_isQuery : GoodIn wsX12_groups wsX12_isQuery := goodIn_r _ [6, 7, 8, 5, 9] (by decide +kernel) (by decide +kernel)
set_option maxRecDepth 20000 in
theorem gX12_groups_X12_isQuery : GoodIn wsX12_groups (va_wsS RX12 230 yX12_isQuery wsX12_isQuery) := goodIn_app (goodIn_of _ (by decide +kernel)) ggX12_groups_X12_isQuery
