set_option maxRecDepth 20000 in
theorem ggX12_applies_X12_variablesOfRule : GoodIn wsX12_applies wsX12_variablesOfRule := goodIn_r _ [7, 8, 9, 10, 6, 11, 2, 12, 13, 14, 15, 16, 17, 18, 19, 20, 21, 22, 23, 24, 25, 26, 27, 28, 29, 30, 31, 50, 51, 52, 53, 54, 55, 56, 57, 58, 59, 60, 61, 62, 63, 64] (by decide +kernel) (by decide +kernel)
set_option maxRecDepth 20000 in
theorem gX12_applies_X12_variablesOfRule : GoodIn wsX12_applies (wsV RX12 114 RX12 yX12_variablesOfRule wsX12_variablesOfRule) := goodIn_app (goodIn_of _ (by decide +kernel)) ggX12_applies_X12_variablesOfRule
set_option maxRecDepth 20000 in
theorem ggX12_applies_X12_headAt : GoodIn wsX12_applies wsX12_headAt := goodIn_r _ [15] (by decide +kernel) (by decide +kernel)
set_option maxRecDepth 20000 in
theorem gX12_applies_X12_headAt : GoodIn wsX12_applies (wsV RX12 86 RX12 yX12_headAt wsX12_headAt) := goodIn_app (goodIn_of _ (by decide +kernel)) ggX12_applies_X12_headAt
set_option maxRecDepth 20000 in
theorem ggX12_applies_X12_chooses : GoodIn wsX12_applies wsX12_chooses := goodIn_r _ [35, 36, 50, 51, 52, 53, 54, 55, 56, 57, 58, 59, 60, 61, 62, 63, 64] (by decide +kernel) (by decide +kernel)
set_option maxRecDepth 20000 in
theorem gX12_applies_X12_chooses : GoodIn wsX12_applies (wsV RX12 122 RX12 yX12_chooses wsX12_chooses) := goodIn_app (goodIn_of _ (by decide +kernel)) ggX12_applies_X12_chooses
set_option maxRecDepth 20000 in
theorem ggX12_applies_X12_gives : GoodIn wsX12_applies wsX12_gives := goodIn_r _ [40, 8, 9, 10, 6, 11, 2, 12, 13, 14, 15, 20, 21, 22, 23, 41, 42, 43, 44, 45, 46, 47, 48, 49, 36, 28, 29, 30, 31, 16, 17, 18, 19, 50, 51, 52, 53, 54, 55, 56, 57, 58, 59, 60, 61, 62, 63, 64] (by decide +kernel) (by decide +kernel)
set_option maxRecDepth 20000 in
theorem gX12_applies_X12_gives : GoodIn wsX12_applies (wsV RX12 125 RX12 yX12_gives wsX12_gives) := goodIn_app (goodIn_of _ (by decide +kernel)) ggX12_applies_X12_gives
set_option maxRecDepth 20000 in
theorem ggX12_applies_X12_codeBy : GoodIn wsX12_applies wsX12_codeBy := goodIn_r _ [49, 2, 36, 28, 29, 30, 6, 31, 50, 51, 52, 53, 54, 55, 56, 57, 58, 59, 60, 61, 62, 63, 64] (by decide +kernel) (by decide +kernel)
set_option maxRecDepth 20000 in
theorem gX12_applies_X12_codeBy : GoodIn wsX12_applies (wsV RX12 104 RX12 yX12_codeBy wsX12_codeBy) := goodIn_app (goodIn_of _ (by decide +kernel)) ggX12_applies_X12_codeBy
set_option maxRecDepth 20000 in
theorem ggX12_goesRound_X12_isIdleRule : GoodIn wsX12_goesRound wsX12_isIdleRule := goodIn_r _ [10, 11, 12, 13, 9, 14, 15, 16, 17, 18, 2, 19, 20, 21, 22, 23, 24, 25, 26, 27, 28, 29, 30, 31, 32, 33, 34, 35, 36, 37, 38, 60, 61, 62, 63, 64, 65, 66, 67, 68, 69, 70, 71, 72, 73, 74] (by decide +kernel) (by decide +kernel)
set_option maxRecDepth 20000 in
theorem gX12_goesRound_X12_isIdleRule : GoodIn wsX12_goesRound (wsV RX12 128 RX12 yX12_isIdleRule wsX12_isIdleRule) := goodIn_app (goodIn_of _ (by decide +kernel)) ggX12_goesRound_X12_isIdleRule
set_option maxRecDepth 20000 in
theorem ggX12_goesRound_X12_headAt : GoodIn wsX12_goesRound wsX12_headAt := goodIn_r _ [22] (by decide +kernel) (by decide +kernel)
set_option maxRecDepth 20000 in
theorem gX12_goesRound_X12_headAt : GoodIn wsX12_goesRound (wsV RX12 86 RX12 yX12_headAt wsX12_headAt) := goodIn_app (goodIn_of _ (by decide +kernel)) ggX12_goesRound_X12_headAt
set_option maxRecDepth 20000 in
theorem ggX12_goesRound_X12_applies : GoodIn wsX12_goesRound wsX12_applies := goodIn_r _ [42, 1, 2, 11, 12, 13, 9, 14, 15, 16, 17, 18, 19, 20, 21, 22, 23, 24, 25, 26, 27, 28, 29, 30, 31, 32, 33, 34, 35, 36, 37, 38, 43, 44, 45, 46, 47, 48, 49, 50, 51, 52, 53, 54, 55, 4, 56, 57, 58, 59, 60, 61, 62, 63, 64, 65, 66, 67, 68, 69, 70, 71, 72, 73, 74] (by decide +kernel) (by decide +kernel)
set_option maxRecDepth 20000 in
theorem gX12_goesRound_X12_applies : GoodIn wsX12_goesRound (wsV RX12 131 RX12 yX12_applies wsX12_applies) := goodIn_app (goodIn_of _ (by decide +kernel)) ggX12_goesRound_X12_applies
set_option maxRecDepth 20000 in
theorem ggX12_hasRules_X12_isIdleRule : GoodIn wsX12_hasRules wsX12_isIdleRule := goodIn_r _ [7, 8, 9, 10, 6, 11, 12, 13, 14, 15, 1, 16, 17, 18, 19, 20, 21, 22, 23, 24, 25, 26, 27, 28, 29, 30, 31, 32, 33, 34, 35, 36, 37, 38, 39, 40, 41, 42, 43, 44, 45, 46, 47, 48, 49, 50] (by decide +kernel) (by decide +kernel)
set_option maxRecDepth 20000 in
theorem gX12_hasRules_X12_isIdleRule : GoodIn wsX12_hasRules (wsV RX12 128 RX12 yX12_isIdleRule wsX12_isIdleRule) := goodIn_app (goodIn_of _ (by decide +kernel)) ggX12_hasRules_X12_isIdleRule
set_option maxRecDepth 20000 in
theorem ggX12_hasRules_X12_headAt : GoodIn wsX12_hasRules wsX12_headAt := goodIn_r _ [19] (by decide +kernel) (by decide +kernel)
set_option maxRecDepth 20000 in
theorem gX12_hasRules_X12_headAt : GoodIn wsX12_hasRules (wsV RX12 86 RX12 yX12_headAt wsX12_headAt) := goodIn_app (goodIn_of _ (by decide +kernel)) ggX12_hasRules_X12_headAt
set_option maxRecDepth 20000 in
theorem ggX12_follows_X12_findsLayers : GoodIn wsX12_follows wsX12_findsLayers := goodIn_r _ [8, 9, 2, 10, 11, 12, 7, 13, 14, 15, 16, 17, 18, 19, 20, 21, 72, 73, 74, 75, 76, 77, 78, 79, 80, 81, 82, 83, 84, 85, 86] (by decide +kernel) (by decide +kernel)
set_option maxRecDepth 20000 in
theorem gX12_follows_X12_findsLayers : GoodIn wsX12_follows (wsV RX12 138 RX12 yX12_findsLayers wsX12_findsLayers) := goodIn_app (goodIn_of _ (by decide +kernel)) ggX12_follows_X12_findsLayers
set_option maxRecDepth 20000 in
theorem ggX12_follows_X12_hasRules : GoodIn wsX12_follows wsX12_hasRules := goodIn_r _ [25, 2, 9, 26, 27, 28, 7, 29, 30, 31, 32, 33, 14, 15, 16, 17, 10, 11, 12, 13, 34, 35, 36, 37, 18, 19, 20, 21, 38, 39, 40, 41, 42, 43, 44, 45, 72, 73, 74, 75, 76, 77, 78, 79, 80, 81, 82, 83, 84, 85, 86] (by decide +kernel) (by decide +kernel)
set_option maxRecDepth 20000 in
theorem gX12_follows_X12_hasRules : GoodIn wsX12_follows (wsV RX12 142 RX12 yX12_hasRules wsX12_hasRules) := goodIn_app (goodIn_of _ (by decide +kernel)) ggX12_follows_X12_hasRules
set_option maxRecDepth 20000 in
theorem ggX12_follows_X12_goesRound : GoodIn wsX12_follows wsX12_goesRound := goodIn_r _ [49, 50, 2, 9, 1, 3, 26, 27, 28, 7, 29, 30, 31, 32, 33, 14, 15, 16, 17, 10, 11, 12, 13, 34, 35, 36, 37, 18, 19, 20, 21, 38, 39, 40, 41, 42, 43, 44, 45, 51, 52, 53, 54, 55, 56, 57, 58, 59, 60, 61, 62, 63, 64, 65, 66, 67, 68, 69, 70, 71, 72, 73, 74, 75, 76, 77, 78, 79, 80, 81, 82, 83, 84, 85, 86] (by decide +kernel) (by decide +kernel)
set_option maxRecDepth 20000 in
theorem gX12_follows_X12_goesRound : GoodIn wsX12_follows (wsV RX12 145 RX12 yX12_goesRound wsX12_goesRound) := goodIn_app (goodIn_of _ (by decide +kernel)) ggX12_follows_X12_goesRound
set_option maxRecDepth 20000 in
theorem ggX12_firingsOf_X12_isIdleRule : GoodIn wsX12_firingsOf wsX12_isIdleRule := goodIn_r _ [5, 6, 7, 8, 4, 9, 10, 11, 12, 13, 14, 15, 16, 17, 18, 19, 20, 21, 22, 23, 24, 25, 26, 27, 28, 29, 30, 31, 32, 33, 34, 53, 54, 55, 56, 57, 58, 59, 60, 61, 62, 63, 64, 65, 66, 67] (by decide +kernel) (by decide +kernel)
set_option maxRecDepth 20000 in
theorem gX12_firingsOf_X12_isIdleRule : GoodIn wsX12_firingsOf (wsV RX12 128 RX12 yX12_isIdleRule wsX12_isIdleRule) := goodIn_app (goodIn_of _ (by decide +kernel)) ggX12_firingsOf_X12_isIdleRule
set_option maxRecDepth 20000 in
theorem ggX12_firingsOf_X12_variablesOfRule : GoodIn wsX12_firingsOf wsX12_variablesOfRule := goodIn_r _ [9, 10, 11, 12, 4, 13, 14, 15, 16, 17, 18, 19, 20, 21, 22, 23, 24, 25, 26, 27, 28, 29, 30, 31, 32, 33, 34, 53, 54, 55, 56, 57, 58, 59, 60, 61, 62, 63, 64, 65, 66, 67] (by decide +kernel) (by decide +kernel)
set_option maxRecDepth 20000 in
theorem gX12_firingsOf_X12_variablesOfRule : GoodIn wsX12_firingsOf (wsV RX12 114 RX12 yX12_variablesOfRule wsX12_variablesOfRule) := goodIn_app (goodIn_of _ (by decide +kernel)) ggX12_firingsOf_X12_variablesOfRule
set_option maxRecDepth 20000 in
theorem ggX12_firingsOf_X12_chooses : GoodIn wsX12_firingsOf wsX12_chooses := goodIn_r _ [38, 39, 53, 54, 55, 56, 57, 58, 59, 60, 61, 62, 63, 64, 65, 66, 67] (by decide +kernel) (by decide +kernel)
set_option maxRecDepth 20000 in
theorem gX12_firingsOf_X12_chooses : GoodIn wsX12_firingsOf (wsV RX12 122 RX12 yX12_chooses wsX12_chooses) := goodIn_app (goodIn_of _ (by decide +kernel)) ggX12_firingsOf_X12_chooses
set_option maxRecDepth 20000 in
theorem ggX12_firingsOf_X12_gives : GoodIn wsX12_firingsOf wsX12_gives := goodIn_r _ [43, 10, 11, 12, 4, 13, 14, 15, 16, 17, 18, 23, 24, 25, 26, 44, 45, 46, 47, 48, 49, 50, 51, 52, 39, 31, 32, 33, 34, 19, 20, 21, 22, 53, 54, 55, 56, 57, 58, 59, 60, 61, 62, 63, 64, 65, 66, 67] (by decide +kernel) (by decide +kernel)
set_option maxRecDepth 20000 in
theorem gX12_firingsOf_X12_gives : GoodIn wsX12_firingsOf (wsV RX12 125 RX12 yX12_gives wsX12_gives) := goodIn_app (goodIn_of _ (by decide +kernel)) ggX12_firingsOf_X12_gives
set_option maxRecDepth 20000 in
theorem ggX12_firingsOf_X12_headAt : GoodIn wsX12_firingsOf wsX12_headAt := goodIn_r _ [18] (by decide +kernel) (by decide +kernel)
set_option maxRecDepth 20000 in
theorem gX12_firingsOf_X12_headAt : GoodIn wsX12_firingsOf (wsV RX12 86 RX12 yX12_headAt wsX12_headAt) := goodIn_app (goodIn_of _ (by decide +kernel)) ggX12_firingsOf_X12_headAt
set_option maxRecDepth 20000 in
theorem ggX12_firingsOf_X12_codeBy : GoodIn wsX12_firingsOf wsX12_codeBy := goodIn_r _ [52, 14, 39, 31, 32, 33, 4, 34, 53, 54, 55, 56, 57, 58, 59, 60, 61, 62, 63, 64, 65, 66, 67] (by decide +kernel) (by decide +kernel)
set_option maxRecDepth 20000 in
theorem gX12_firingsOf_X12_codeBy : GoodIn wsX12_firingsOf (wsV RX12 104 RX12 yX12_codeBy wsX12_codeBy) := goodIn_app (goodIn_of _ (by decide +kernel)) ggX12_firingsOf_X12_codeBy
set_option maxRecDepth 20000 in
theorem ggX12_reasonsOf_X12_isFactAt : GoodIn wsX12_reasonsOf wsX12_isFactAt := goodIn_r _ [7, 2, 61, 62, 63, 64, 65, 66, 67, 68, 69, 70, 71, 72, 73, 74, 75] (by decide +kernel) (by decide +kernel)
set_option maxRecDepth 20000 in
theorem gX12_reasonsOf_X12_isFactAt : GoodIn wsX12_reasonsOf (wsV RX12 148 RX12 yX12_isFactAt wsX12_isFactAt) := goodIn_app (goodIn_of _ (by decide +kernel)) ggX12_reasonsOf_X12_isFactAt
set_option maxRecDepth 20000 in
theorem ggX12_reasonsOf_X12_headAt : GoodIn wsX12_reasonsOf wsX12_headAt := goodIn_r _ [11] (by decide +kernel) (by decide +kernel)
set_option maxRecDepth 20000 in
theorem gX12_reasonsOf_X12_headAt : GoodIn wsX12_reasonsOf (wsV RX12 86 RX12 yX12_headAt wsX12_headAt) := goodIn_app (goodIn_of _ (by decide +kernel)) ggX12_reasonsOf_X12_headAt
set_option maxRecDepth 20000 in
theorem ggX12_reasonsOf_X12_firingsOf : GoodIn wsX12_reasonsOf wsX12_firingsOf := goodIn_r _ [15, 16, 17, 18, 6, 19, 20, 21, 22, 23, 24, 25, 26, 27, 2, 8, 9, 10, 11, 28, 29, 30, 31, 32, 33, 34, 35, 36, 37, 38, 39, 40, 41, 42, 43, 44, 45, 46, 47, 48, 49, 50, 51, 52, 53, 54, 55, 56, 1, 57, 58, 59, 60, 61, 62, 63, 64, 65, 66, 67, 68, 69, 70, 71, 72, 73, 74, 75] (by decide +kernel) (by decide +kernel)
set_option maxRecDepth 20000 in
theorem gX12_reasonsOf_X12_firingsOf : GoodIn wsX12_reasonsOf (wsV RX12 151 RX12 yX12_firingsOf wsX12_firingsOf) := goodIn_app (goodIn_of _ (by decide +kernel)) ggX12_reasonsOf_X12_firingsOf
set_option maxRecDepth 20000 in
theorem ggX12_variablesOfQuery_X12_atoms : GoodIn wsX12_variablesOfQuery wsX12_atoms := goodIn_r _ [5, 6, 19, 20, 21, 22, 23, 24, 25, 26, 27, 28, 29, 30, 31, 32, 33] (by decide +kernel) (by decide +kernel)
set_option maxRecDepth 20000 in
theorem gX12_variablesOfQuery_X12_atoms : GoodIn wsX12_variablesOfQuery (wsV RX12 76 RX12 yX12_atoms wsX12_atoms) := goodIn_app (goodIn_of _ (by decide +kernel)) ggX12_variablesOfQuery_X12_atoms
set_option maxRecDepth 20000 in
theorem ggX12_variablesOfQuery_X12_atomAt : GoodIn wsX12_variablesOfQuery wsX12_atomAt := goodIn_r _ [10] (by decide +kernel) (by decide +kernel)
set_option maxRecDepth 20000 in
theorem gX12_variablesOfQuery_X12_atomAt : GoodIn wsX12_variablesOfQuery (wsV RX12 79 RX12 yX12_atomAt wsX12_atomAt) := goodIn_app (goodIn_of _ (by decide +kernel)) ggX12_variablesOfQuery_X12_atomAt
set_option maxRecDepth 20000 in
theorem ggX12_variablesOfQuery_X12_variables : GoodIn wsX12_variablesOfQuery wsX12_variables := goodIn_r _ [14, 6, 15, 16, 17, 4, 18, 19, 20, 21, 22, 23, 24, 25, 26, 27, 28, 29, 30, 31, 32, 33] (by decide +kernel) (by decide +kernel)
set_option maxRecDepth 20000 in
theorem gX12_variablesOfQuery_X12_variables : GoodIn wsX12_variablesOfQuery (wsV RX12 111 RX12 yX12_variables wsX12_variables) := goodIn_app (goodIn_of _ (by decide +kernel)) ggX12_variablesOfQuery_X12_variables
set_option maxRecDepth 20000 in
theorem ggX12_standsIn_X12_in : GoodIn wsX12_standsIn wsX12_in := goodIn_r _ [4] (by decide +kernel) (by decide +kernel)
set_option maxRecDepth 20000 in
theorem gX12_standsIn_X12_in : GoodIn wsX12_standsIn (va_wsS RX12 64 yX12_in wsX12_in) := goodIn_app (goodIn_of _ (by decide +kernel)) ggX12_standsIn_X12_in
set_option maxRecDepth 20000 in
theorem ggX12_standsIn_X12_variablesOfQuery : GoodIn wsX12_standsIn wsX12_variablesOfQuery := goodIn_r _ [8, 9, 10, 11, 3, 12, 13, 14, 15, 16, 17, 18, 19, 20, 21, 22, 23, 24, 25, 26, 27, 28, 29, 30, 31, 32, 33, 34, 35, 36, 37, 38, 39, 40] (by decide +kernel) (by decide +kernel)
set_option maxRecDepth 20000 in
theorem gX12_standsIn_X12_variablesOfQuery : GoodIn wsX12_standsIn (wsV RX12 154 RX12 yX12_variablesOfQuery wsX12_variablesOfQuery) := goodIn_app (goodIn_of _ (by decide +kernel)) ggX12_standsIn_X12_variablesOfQuery
set_option maxRecDepth 20000 in
theorem ggX12_findsPlaces_X12_variablesOfQuery : GoodIn wsX12_findsPlaces wsX12_variablesOfQuery := goodIn_r _ [8, 9, 10, 11, 7, 12, 2, 13, 14, 15, 16, 17, 18, 19, 20, 21, 22, 23, 24, 25, 26, 27, 28, 29, 30, 31, 32, 33, 34, 35, 36, 37, 38, 39] (by decide +kernel) (by decide +kernel)
set_option maxRecDepth 20000 in
theorem gX12_findsPlaces_X12_variablesOfQuery : GoodIn wsX12_findsPlaces (wsV RX12 154 RX12 yX12_variablesOfQuery wsX12_variablesOfQuery) := goodIn_app (goodIn_of _ (by decide +kernel)) ggX12_findsPlaces_X12_variablesOfQuery
set_option maxRecDepth 20000 in
theorem ggX12_isAnswer_X12_takes : GoodIn wsX12_isAnswer wsX12_takes := goodIn_r _ [5, 6, 7, 8, 31, 32, 33, 34, 35, 36, 37, 38, 39, 40, 41, 42, 43, 44, 45] (by decide +kernel) (by decide +kernel)
set_option maxRecDepth 20000 in
theorem gX12_isAnswer_X12_takes : GoodIn wsX12_isAnswer (wsV RX12 160 RX12 yX12_takes wsX12_takes) := goodIn_app (goodIn_of _ (by decide +kernel)) ggX12_isAnswer_X12_takes
set_option maxRecDepth 20000 in
theorem ggX12_isAnswer_X12_atoms : GoodIn wsX12_isAnswer wsX12_atoms := goodIn_r _ [12, 13, 31, 32, 33, 34, 35, 36, 37, 38, 39, 40, 41, 42, 43, 44, 45] (by decide +kernel) (by decide +kernel)
set_option maxRecDepth 20000 in
theorem gX12_isAnswer_X12_atoms : GoodIn wsX12_isAnswer (wsV RX12 76 RX12 yX12_atoms wsX12_atoms) := goodIn_app (goodIn_of _ (by decide +kernel)) ggX12_isAnswer_X12_atoms
set_option maxRecDepth 20000 in
theorem ggX12_isAnswer_X12_atomAt : GoodIn wsX12_isAnswer wsX12_atomAt := goodIn_r _ [17] (by decide +kernel) (by decide +kernel)
set_option maxRecDepth 20000 in
theorem gX12_isAnswer_X12_atomAt : GoodIn wsX12_isAnswer (wsV RX12 79 RX12 yX12_atomAt wsX12_atomAt) := goodIn_app (goodIn_of _ (by decide +kernel)) ggX12_isAnswer_X12_atomAt
set_option maxRecDepth 20000 in
theorem ggX12_isAnswer_X12_fits : GoodIn wsX12_isAnswer wsX12_fits := goodIn_r _ [21, 22, 13, 23, 24, 25, 4, 26, 7, 27, 28, 29, 30, 31, 32, 33, 34, 35, 36, 37, 38, 39, 40, 41, 42, 43, 44, 45] (by decide +kernel) (by decide +kernel)
set_option maxRecDepth 20000 in
theorem gX12_isAnswer_X12_fits : GoodIn wsX12_isAnswer (wsV RX12 118 RX12 yX12_fits wsX12_fits) := goodIn_app (goodIn_of _ (by decide +kernel)) ggX12_isAnswer_X12_fits
set_option maxRecDepth 20000 in
theorem ggX12_choices_X12_findsPlaces : GoodIn wsX12_choices wsX12_findsPlaces := goodIn_r _ [6, 1, 7, 8, 9, 10, 11, 5, 12, 13, 14, 15, 16, 17, 18, 19, 20, 21, 22, 23, 24, 25, 26, 27, 28, 29, 30, 31, 32, 33, 34, 35, 36, 37, 38, 39, 40, 41, 42, 43] (by decide +kernel) (by decide +kernel)
set_option maxRecDepth 20000 in
theorem gX12_choices_X12_findsPlaces : GoodIn wsX12_choices (wsV RX12 163 RX12 yX12_findsPlaces wsX12_findsPlaces) := goodIn_app (goodIn_of _ (by decide +kernel)) ggX12_choices_X12_findsPlaces
set_option maxRecDepth 20000 in
theorem ggX12_answersOf_X12_choices : GoodIn wsX12_answersOf wsX12_choices := goodIn_r _ [5, 6, 7, 8, 9, 4, 10, 11, 12, 13, 14, 15, 16, 17, 18, 19, 20, 21, 22, 23, 24, 25, 26, 27, 28, 29, 30, 31, 32, 51, 52, 53, 54, 55, 56, 57, 58, 59, 60, 61, 62, 63, 64, 65] (by decide +kernel) (by decide +kernel)
set_option maxRecDepth 20000 in
theorem gX12_answersOf_X12_choices : GoodIn wsX12_answersOf (wsV RX12 166 RX12 yX12_choices wsX12_choices) := goodIn_app (goodIn_of _ (by decide +kernel)) ggX12_answersOf_X12_choices
set_option maxRecDepth 20000 in
theorem ggX12_answersOf_X12_isAnswer : GoodIn wsX12_answersOf wsX12_isAnswer := goodIn_r _ [36, 37, 38, 39, 4, 40, 6, 41, 12, 17, 18, 19, 20, 11, 21, 22, 23, 24, 42, 43, 44, 45, 46, 47, 48, 49, 50, 29, 30, 31, 32, 51, 52, 53, 54, 55, 56, 57, 58, 59, 60, 61, 62, 63, 64, 65] (by decide +kernel) (by decide +kernel)
set_option maxRecDepth 20000 in
theorem gX12_answersOf_X12_isAnswer : GoodIn wsX12_answersOf (wsV RX12 169 RX12 yX12_isAnswer wsX12_isAnswer) := goodIn_app (goodIn_of _ (by decide +kernel)) ggX12_answersOf_X12_isAnswer
set_option maxRecDepth 20000 in
theorem ggX12_findsMade_X12_choices : GoodIn wsX12_findsMade wsX12_choices := goodIn_r _ [6, 7, 8, 9, 10, 5, 11, 12, 13, 14, 15, 16, 17, 18, 19, 20, 21, 22, 23, 24, 25, 26, 27, 28, 29, 30, 31, 32, 33, 52, 53, 54, 55, 56, 57, 58, 59, 60, 61, 62, 63, 64, 65, 66] (by decide +kernel) (by decide +kernel)
set_option maxRecDepth 20000 in
theorem gX12_findsMade_X12_choices : GoodIn wsX12_findsMade (wsV RX12 166 RX12 yX12_choices wsX12_choices) := goodIn_app (goodIn_of _ (by decide +kernel)) ggX12_findsMade_X12_choices
set_option maxRecDepth 20000 in
theorem ggX12_findsMade_X12_isAnswer : GoodIn wsX12_findsMade wsX12_isAnswer := goodIn_r _ [37, 38, 39, 40, 5, 41, 7, 42, 13, 18, 19, 20, 21, 12, 22, 23, 24, 25, 43, 44, 45, 46, 47, 48, 49, 50, 51, 30, 31, 32, 33, 52, 53, 54, 55, 56, 57, 58, 59, 60, 61, 62, 63, 64, 65, 66] (by decide +kernel) (by decide +kernel)
set_option maxRecDepth 20000 in
theorem gX12_findsMade_X12_isAnswer : GoodIn wsX12_findsMade (wsV RX12 169 RX12 yX12_isAnswer wsX12_isAnswer) := goodIn_app (goodIn_of _ (by decide +kernel)) ggX12_findsMade_X12_isAnswer
set_option maxRecDepth 20000 in
theorem ggX12_findsMade_X12_atomAt : GoodIn wsX12_findsMade wsX12_atomAt := goodIn_r _ [25] (by decide +kernel) (by decide +kernel)
set_option maxRecDepth 20000 in
theorem gX12_findsMade_X12_atomAt : GoodIn wsX12_findsMade (wsV RX12 79 RX12 yX12_atomAt wsX12_atomAt) := goodIn_app (goodIn_of _ (by decide +kernel)) ggX12_findsMade_X12_atomAt
set_option maxRecDepth 20000 in
theorem ggX12_findsMade_X12_codeBy : GoodIn wsX12_findsMade wsX12_codeBy := goodIn_r _ [51, 12, 42, 30, 31, 32, 5, 33, 52, 53, 54, 55, 56, 57, 58, 59, 60, 61, 62, 63, 64, 65, 66] (by decide +kernel) (by decide +kernel)
set_option maxRecDepth 20000 in
theorem gX12_findsMade_X12_codeBy : GoodIn wsX12_findsMade (wsV RX12 104 RX12 yX12_codeBy wsX12_codeBy) := goodIn_app (goodIn_of _ (by decide +kernel)) ggX12_findsMade_X12_codeBy
set_option maxRecDepth 20000 in
theorem ggX12_isRowFor_X12_columnsOf : GoodIn wsX12_isRowFor wsX12_columnsOf := goodIn_r _ [8, 1, 12, 13, 14, 15, 16, 17, 18, 19, 20, 21, 22, 23, 24, 25, 26] (by decide +kernel) (by decide +kernel)
set_option maxRecDepth 20000 in
theorem gX12_isRowFor_X12_columnsOf : GoodIn wsX12_isRowFor (wsV RX12 68 RX12 yX12_columnsOf wsX12_columnsOf) := goodIn_app (goodIn_of _ (by decide +kernel)) ggX12_isRowFor_X12_columnsOf
