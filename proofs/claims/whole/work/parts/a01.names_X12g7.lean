set_option maxRecDepth 20000 in
theorem ggX12_groups_X12_standsIn : GoodIn wsX12_groups wsX12_standsIn := goodIn_r _ [13, 7, 8, 5, 9, 14, 15, 16, 17, 18, 19, 20, 21, 22, 23, 24, 25, 26, 27, 28, 29, 30, 31, 32, 33, 34, 69, 70, 71, 72, 73, 74, 75, 76, 77, 78, 79, 80, 81, 82, 83] (by decide +kernel) (by decide +kernel)
set_option maxRecDepth 20000 in
theorem gX12_groups_X12_standsIn : GoodIn wsX12_groups (wsV RX12 201 RX12 yX12_standsIn wsX12_standsIn) := goodIn_app (goodIn_of _ (by decide +kernel)) ggX12_groups_X12_standsIn
set_option maxRecDepth 20000 in
theorem ggX12_groups_X12_fails : GoodIn wsX12_groups wsX12_fails := goodIn_r _ [38, 1, 69, 70, 71, 72, 73, 74, 75, 76, 77, 78, 79, 80, 81, 82, 83] (by decide +kernel) (by decide +kernel)
set_option maxRecDepth 20000 in
theorem gX12_groups_X12_fails : GoodIn wsX12_groups (wsV RX12 214 RX12 yX12_fails wsX12_fails) := goodIn_app (goodIn_of _ (by decide +kernel)) ggX12_groups_X12_fails
set_option maxRecDepth 20000 in
theorem ggX12_groups_X12_choices : GoodIn wsX12_groups wsX12_choices := goodIn_r _ [42, 43, 44, 45, 46, 5, 47, 22, 48, 14, 15, 16, 17, 18, 19, 20, 21, 23, 24, 25, 26, 27, 28, 29, 30, 31, 32, 33, 34, 69, 70, 71, 72, 73, 74, 75, 76, 77, 78, 79, 80, 81, 82, 83] (by decide +kernel) (by decide +kernel)
set_option maxRecDepth 20000 in
theorem gX12_groups_X12_choices : GoodIn wsX12_groups (wsV RX12 166 RX12 yX12_choices wsX12_choices) := goodIn_app (goodIn_of _ (by decide +kernel)) ggX12_groups_X12_choices
set_option maxRecDepth 20000 in
theorem ggX12_groups_X12_isAnswer : GoodIn wsX12_groups wsX12_isAnswer := goodIn_r _ [52, 53, 54, 55, 5, 56, 43, 2, 48, 18, 19, 20, 21, 22, 23, 24, 25, 26, 57, 58, 59, 60, 61, 62, 63, 64, 65, 31, 32, 33, 34, 69, 70, 71, 72, 73, 74, 75, 76, 77, 78, 79, 80, 81, 82, 83] (by decide +kernel) (by decide +kernel)
set_option maxRecDepth 20000 in
theorem gX12_groups_X12_isAnswer : GoodIn wsX12_groups (wsV RX12 169 RX12 yX12_isAnswer wsX12_isAnswer) := goodIn_app (goodIn_of _ (by decide +kernel)) ggX12_groups_X12_isAnswer
set_option maxRecDepth 20000 in
theorem ggX12_groups_X12_bitsOf : GoodIn wsX12_groups wsX12_bitsOf := goodIn_r _ [68] (by decide +kernel) (by decide +kernel)
set_option maxRecDepth 20000 in
theorem gX12_groups_X12_bitsOf : GoodIn wsX12_groups (va_wsS RX12 248 yX12_bitsOf wsX12_bitsOf) := goodIn_app (goodIn_of _ (by decide +kernel)) ggX12_groups_X12_bitsOf
set_option maxRecDepth 20000 in
theorem ggX12_groupSize_X12_isQuery : GoodIn wsX12_groupSize wsX12_isQuery := goodIn_r _ [6, 7, 8, 5, 9] (by decide +kernel) (by decide +kernel)
set_option maxRecDepth 20000 in
theorem gX12_groupSize_X12_isQuery : GoodIn wsX12_groupSize (va_wsS RX12 230 yX12_isQuery wsX12_isQuery) := goodIn_app (goodIn_of _ (by decide +kernel)) ggX12_groupSize_X12_isQuery
set_option maxRecDepth 20000 in
theorem ggX12_groupSize_X12_standsIn : GoodIn wsX12_groupSize wsX12_standsIn := goodIn_r _ [13, 7, 8, 5, 9, 14, 15, 16, 17, 18, 19, 20, 21, 22, 23, 24, 25, 26, 27, 28, 29, 30, 31, 32, 33, 34, 66, 67, 68, 69, 70, 71, 72, 73, 74, 75, 76, 77, 78, 79, 80] (by decide +kernel) (by decide +kernel)
set_option maxRecDepth 20000 in
theorem gX12_groupSize_X12_standsIn : GoodIn wsX12_groupSize (wsV RX12 201 RX12 yX12_standsIn wsX12_standsIn) := goodIn_app (goodIn_of _ (by decide +kernel)) ggX12_groupSize_X12_standsIn
set_option maxRecDepth 20000 in
theorem ggX12_groupSize_X12_fails : GoodIn wsX12_groupSize wsX12_fails := goodIn_r _ [38, 1, 66, 67, 68, 69, 70, 71, 72, 73, 74, 75, 76, 77, 78, 79, 80] (by decide +kernel) (by decide +kernel)
set_option maxRecDepth 20000 in
theorem gX12_groupSize_X12_fails : GoodIn wsX12_groupSize (wsV RX12 214 RX12 yX12_fails wsX12_fails) := goodIn_app (goodIn_of _ (by decide +kernel)) ggX12_groupSize_X12_fails
set_option maxRecDepth 20000 in
theorem ggX12_groupSize_X12_in : GoodIn wsX12_groupSize wsX12_in := goodIn_r _ [9] (by decide +kernel) (by decide +kernel)
set_option maxRecDepth 20000 in
theorem gX12_groupSize_X12_in : GoodIn wsX12_groupSize (va_wsS RX12 64 yX12_in wsX12_in) := goodIn_app (goodIn_of _ (by decide +kernel)) ggX12_groupSize_X12_in
set_option maxRecDepth 20000 in
theorem ggX12_groupSize_X12_choices : GoodIn wsX12_groupSize wsX12_choices := goodIn_r _ [42, 43, 44, 45, 46, 5, 47, 22, 48, 14, 15, 16, 17, 18, 19, 20, 21, 23, 24, 25, 26, 27, 28, 29, 30, 31, 32, 33, 34, 66, 67, 68, 69, 70, 71, 72, 73, 74, 75, 76, 77, 78, 79, 80] (by decide +kernel) (by decide +kernel)
set_option maxRecDepth 20000 in
theorem gX12_groupSize_X12_choices : GoodIn wsX12_groupSize (wsV RX12 166 RX12 yX12_choices wsX12_choices) := goodIn_app (goodIn_of _ (by decide +kernel)) ggX12_groupSize_X12_choices
set_option maxRecDepth 20000 in
theorem ggX12_groupSize_X12_isAnswer : GoodIn wsX12_groupSize wsX12_isAnswer := goodIn_r _ [52, 53, 54, 55, 5, 56, 43, 2, 48, 18, 19, 20, 21, 22, 23, 24, 25, 26, 57, 58, 59, 60, 61, 62, 63, 64, 65, 31, 32, 33, 34, 66, 67, 68, 69, 70, 71, 72, 73, 74, 75, 76, 77, 78, 79, 80] (by decide +kernel) (by decide +kernel)
set_option maxRecDepth 20000 in
theorem gX12_groupSize_X12_isAnswer : GoodIn wsX12_groupSize (wsV RX12 169 RX12 yX12_isAnswer wsX12_isAnswer) := goodIn_app (goodIn_of _ (by decide +kernel)) ggX12_groupSize_X12_isAnswer
set_option maxRecDepth 20000 in
theorem ggX12_idleRows_X12_isQuery : GoodIn wsX12_idleRows wsX12_isQuery := goodIn_r _ [8, 9, 10, 7, 11] (by decide +kernel) (by decide +kernel)
set_option maxRecDepth 20000 in
theorem gX12_idleRows_X12_isQuery : GoodIn wsX12_idleRows (va_wsS RX12 230 yX12_isQuery wsX12_isQuery) := goodIn_app (goodIn_of _ (by decide +kernel)) ggX12_idleRows_X12_isQuery
set_option maxRecDepth 20000 in
theorem ggX12_idleRows_X12_atoms : GoodIn wsX12_idleRows wsX12_atoms := goodIn_r _ [15, 2, 67, 68, 69, 70, 71, 72, 73, 74, 75, 76, 77, 78, 79, 80, 81] (by decide +kernel) (by decide +kernel)
set_option maxRecDepth 20000 in
theorem gX12_idleRows_X12_atoms : GoodIn wsX12_idleRows (wsV RX12 76 RX12 yX12_atoms wsX12_atoms) := goodIn_app (goodIn_of _ (by decide +kernel)) ggX12_idleRows_X12_atoms
set_option maxRecDepth 20000 in
theorem ggX12_idleRows_X12_in : GoodIn wsX12_idleRows wsX12_in := goodIn_r _ [11] (by decide +kernel) (by decide +kernel)
set_option maxRecDepth 20000 in
theorem gX12_idleRows_X12_in : GoodIn wsX12_idleRows (va_wsS RX12 64 yX12_in wsX12_in) := goodIn_app (goodIn_of _ (by decide +kernel)) ggX12_idleRows_X12_in
set_option maxRecDepth 20000 in
theorem ggX12_idleRows_X12_fails : GoodIn wsX12_idleRows wsX12_fails := goodIn_r _ [19, 1, 67, 68, 69, 70, 71, 72, 73, 74, 75, 76, 77, 78, 79, 80, 81] (by decide +kernel) (by decide +kernel)
set_option maxRecDepth 20000 in
theorem gX12_idleRows_X12_fails : GoodIn wsX12_idleRows (wsV RX12 214 RX12 yX12_fails wsX12_fails) := goodIn_app (goodIn_of _ (by decide +kernel)) ggX12_idleRows_X12_fails
set_option maxRecDepth 20000 in
theorem ggX12_idleRows_X12_findsMade : GoodIn wsX12_idleRows wsX12_findsMade := goodIn_r _ [23, 4, 24, 25, 26, 7, 27, 28, 29, 30, 31, 32, 2, 33, 34, 35, 36, 37, 12, 13, 14, 15, 38, 39, 40, 41, 42, 43, 44, 45, 46, 47, 48, 49, 50, 51, 52, 53, 54, 55, 56, 57, 58, 59, 60, 61, 62, 3, 63, 64, 65, 66, 67, 68, 69, 70, 71, 72, 73, 74, 75, 76, 77, 78, 79, 80, 81] (by decide +kernel) (by decide +kernel)
set_option maxRecDepth 20000 in
theorem gX12_idleRows_X12_findsMade : GoodIn wsX12_idleRows (wsV RX12 236 RX12 yX12_findsMade wsX12_findsMade) := goodIn_app (goodIn_of _ (by decide +kernel)) ggX12_idleRows_X12_findsMade
set_option maxRecDepth 20000 in
theorem ggX12_idleRows_X12_atomAt : GoodIn wsX12_idleRows wsX12_atomAt := goodIn_r _ [41] (by decide +kernel) (by decide +kernel)
set_option maxRecDepth 20000 in
theorem gX12_idleRows_X12_atomAt : GoodIn wsX12_idleRows (wsV RX12 79 RX12 yX12_atomAt wsX12_atomAt) := goodIn_app (goodIn_of _ (by decide +kernel)) ggX12_idleRows_X12_atomAt
set_option maxRecDepth 20000 in
theorem ggX12_isTree_X12_isQuery : GoodIn wsX12_isTree wsX12_isQuery := goodIn_r _ [5, 6, 7, 4, 8] (by decide +kernel) (by decide +kernel)
set_option maxRecDepth 20000 in
theorem gX12_isTree_X12_isQuery : GoodIn wsX12_isTree (va_wsS RX12 230 yX12_isQuery wsX12_isQuery) := goodIn_app (goodIn_of _ (by decide +kernel)) ggX12_isTree_X12_isQuery
set_option maxRecDepth 20000 in
theorem ggX12_isTree_X12_isTreeOf : GoodIn wsX12_isTree wsX12_isTreeOf := goodIn_r _ [12, 13, 14, 15, 16, 17, 4, 18, 19, 20, 21, 22, 23, 24, 25, 26, 27, 28, 29, 30, 31, 32, 33, 34, 35, 36, 37, 38, 39, 40, 41, 42, 43, 44, 45, 46, 47, 48, 49, 50, 51, 52, 53, 54] (by decide +kernel) (by decide +kernel)
set_option maxRecDepth 20000 in
theorem gX12_isTree_X12_isTreeOf : GoodIn wsX12_isTree (wsV RX12 254 RX12 yX12_isTreeOf wsX12_isTreeOf) := goodIn_app (goodIn_of _ (by decide +kernel)) ggX12_isTree_X12_isTreeOf
set_option maxRecDepth 20000 in
theorem ggX12_cover_X12_isQuery : GoodIn wsX12_cover wsX12_isQuery := goodIn_r _ [5, 6, 7, 4, 8] (by decide +kernel) (by decide +kernel)
set_option maxRecDepth 20000 in
theorem gX12_cover_X12_isQuery : GoodIn wsX12_cover (va_wsS RX12 230 yX12_isQuery wsX12_isQuery) := goodIn_app (goodIn_of _ (by decide +kernel)) ggX12_cover_X12_isQuery
set_option maxRecDepth 20000 in
theorem ggX12_cover_X12_fails : GoodIn wsX12_cover wsX12_fails := goodIn_r _ [12, 1, 49, 50, 51, 52, 53, 54, 55, 56, 57, 58, 59, 60, 61, 62, 63] (by decide +kernel) (by decide +kernel)
set_option maxRecDepth 20000 in
theorem gX12_cover_X12_fails : GoodIn wsX12_cover (wsV RX12 214 RX12 yX12_fails wsX12_fails) := goodIn_app (goodIn_of _ (by decide +kernel)) ggX12_cover_X12_fails
set_option maxRecDepth 20000 in
theorem ggX12_cover_X12_allHalves : GoodIn wsX12_cover wsX12_allHalves := goodIn_r _ [16, 17, 18, 19, 4, 20, 21, 49, 50, 51, 52, 53, 54, 55, 56, 57, 58, 59, 60, 61, 62, 63] (by decide +kernel) (by decide +kernel)
set_option maxRecDepth 20000 in
theorem gX12_cover_X12_allHalves : GoodIn wsX12_cover (wsV RX12 257 RX12 yX12_allHalves wsX12_allHalves) := goodIn_app (goodIn_of _ (by decide +kernel)) ggX12_cover_X12_allHalves
set_option maxRecDepth 20000 in
theorem ggX12_cover_X12_atoms : GoodIn wsX12_cover wsX12_atoms := goodIn_r _ [20, 21, 49, 50, 51, 52, 53, 54, 55, 56, 57, 58, 59, 60, 61, 62, 63] (by decide +kernel) (by decide +kernel)
set_option maxRecDepth 20000 in
theorem gX12_cover_X12_atoms : GoodIn wsX12_cover (wsV RX12 76 RX12 yX12_atoms wsX12_atoms) := goodIn_app (goodIn_of _ (by decide +kernel)) ggX12_cover_X12_atoms
set_option maxRecDepth 20000 in
theorem ggX12_cover_X12_halves : GoodIn wsX12_cover wsX12_halves := goodIn_r _ [24] (by decide +kernel) (by decide +kernel)
set_option maxRecDepth 20000 in
theorem gX12_cover_X12_halves : GoodIn wsX12_cover (va_wsS RX12 204 yX12_halves wsX12_halves) := goodIn_app (goodIn_of _ (by decide +kernel)) ggX12_cover_X12_halves
set_option maxRecDepth 20000 in
theorem ggX12_cover_X12_covers : GoodIn wsX12_cover wsX12_covers := goodIn_r _ [28, 29, 30, 31, 4, 32, 6, 7, 8, 33, 34, 35, 36, 17, 18, 19, 20, 21, 37, 38, 39, 40, 41, 42, 43, 44, 45, 46, 47, 48, 22, 23, 24, 49, 50, 51, 52, 53, 54, 55, 56, 57, 58, 59, 60, 61, 62, 63] (by decide +kernel) (by decide +kernel)
set_option maxRecDepth 20000 in
theorem gX12_cover_X12_covers : GoodIn wsX12_cover (wsV RX12 260 RX12 yX12_covers wsX12_covers) := goodIn_app (goodIn_of _ (by decide +kernel)) ggX12_cover_X12_covers
set_option maxRecDepth 20000 in
theorem ggX12_bound_X12_isQuery : GoodIn wsX12_bound wsX12_isQuery := goodIn_r _ [6, 7, 8, 5, 9] (by decide +kernel) (by decide +kernel)
set_option maxRecDepth 20000 in
theorem gX12_bound_X12_isQuery : GoodIn wsX12_bound (va_wsS RX12 230 yX12_isQuery wsX12_isQuery) := goodIn_app (goodIn_of _ (by decide +kernel)) ggX12_bound_X12_isQuery
set_option maxRecDepth 20000 in
theorem ggX12_bound_X12_fails : GoodIn wsX12_bound wsX12_fails := goodIn_r _ [13, 1, 68, 69, 70, 71, 72, 73, 74, 75, 76, 77, 78, 79, 80, 81, 82] (by decide +kernel) (by decide +kernel)
set_option maxRecDepth 20000 in
theorem gX12_bound_X12_fails : GoodIn wsX12_bound (wsV RX12 214 RX12 yX12_fails wsX12_fails) := goodIn_app (goodIn_of _ (by decide +kernel)) ggX12_bound_X12_fails
set_option maxRecDepth 20000 in
theorem ggX12_bound_X12_allHalves : GoodIn wsX12_bound wsX12_allHalves := goodIn_r _ [17, 18, 19, 20, 5, 21, 22, 68, 69, 70, 71, 72, 73, 74, 75, 76, 77, 78, 79, 80, 81, 82] (by decide +kernel) (by decide +kernel)
set_option maxRecDepth 20000 in
theorem gX12_bound_X12_allHalves : GoodIn wsX12_bound (wsV RX12 257 RX12 yX12_allHalves wsX12_allHalves) := goodIn_app (goodIn_of _ (by decide +kernel)) ggX12_bound_X12_allHalves
set_option maxRecDepth 20000 in
theorem ggX12_bound_X12_covers : GoodIn wsX12_bound wsX12_covers := goodIn_r _ [26, 27, 28, 29, 5, 30, 7, 8, 9, 31, 32, 33, 34, 18, 19, 20, 21, 22, 35, 36, 37, 38, 39, 40, 41, 42, 43, 44, 45, 46, 47, 48, 49, 68, 69, 70, 71, 72, 73, 74, 75, 76, 77, 78, 79, 80, 81, 82] (by decide +kernel) (by decide +kernel)
set_option maxRecDepth 20000 in
theorem gX12_bound_X12_covers : GoodIn wsX12_bound (wsV RX12 260 RX12 yX12_covers wsX12_covers) := goodIn_app (goodIn_of _ (by decide +kernel)) ggX12_bound_X12_covers
set_option maxRecDepth 20000 in
theorem ggX12_bound_X12_product : GoodIn wsX12_bound wsX12_product := goodIn_r _ [53, 2, 18, 19, 20, 5, 21, 22, 35, 36, 37, 38, 54, 55, 56, 57, 58, 59, 60, 61, 62, 63, 64, 43, 44, 45, 46, 65, 66, 67, 47, 48, 49, 68, 69, 70, 71, 72, 73, 74, 75, 76, 77, 78, 79, 80, 81, 82] (by decide +kernel) (by decide +kernel)
set_option maxRecDepth 20000 in
theorem gX12_bound_X12_product : GoodIn wsX12_bound (wsV RX12 263 RX12 yX12_product wsX12_product) := goodIn_app (goodIn_of _ (by decide +kernel)) ggX12_bound_X12_product
set_option maxRecDepth 20000 in
theorem ggX12_isIdle_X12_isRule : GoodIn wsX12_isIdle wsX12_isRule := goodIn_r _ [6, 7, 8, 9, 5, 10, 43, 44, 45, 46, 47, 48, 49, 50, 51, 52, 53, 54, 55, 56, 57] (by decide +kernel) (by decide +kernel)
set_option maxRecDepth 20000 in
theorem gX12_isIdle_X12_isRule : GoodIn wsX12_isIdle (wsV RX12 239 RX12 yX12_isRule wsX12_isRule) := goodIn_app (goodIn_of _ (by decide +kernel)) ggX12_isIdle_X12_isRule
set_option maxRecDepth 20000 in
theorem ggX12_isIdle_X12_isIdleRule : GoodIn wsX12_isIdle wsX12_isIdleRule := goodIn_r _ [14, 15, 16, 17, 5, 18, 19, 20, 21, 22, 7, 23, 24, 25, 26, 27, 28, 29, 30, 31, 32, 33, 34, 35, 36, 37, 38, 39, 40, 41, 42, 43, 44, 45, 46, 47, 48, 49, 50, 51, 52, 53, 54, 55, 56, 57] (by decide +kernel) (by decide +kernel)
set_option maxRecDepth 20000 in
theorem gX12_isIdle_X12_isIdleRule : GoodIn wsX12_isIdle (wsV RX12 128 RX12 yX12_isIdleRule wsX12_isIdleRule) := goodIn_app (goodIn_of _ (by decide +kernel)) ggX12_isIdle_X12_isIdleRule
set_option maxRecDepth 20000 in
theorem ggX12_layerOf_X12_isTable : GoodIn wsX12_layerOf wsX12_isTable := goodIn_r _ [7, 8, 9, 10, 6, 11, 16, 17, 18, 19, 20, 21, 22, 23, 24, 25, 26, 27, 28, 29, 30] (by decide +kernel) (by decide +kernel)
set_option maxRecDepth 20000 in
theorem gX12_layerOf_X12_isTable : GoodIn wsX12_layerOf (wsV RX12 220 RX12 yX12_isTable wsX12_isTable) := goodIn_app (goodIn_of _ (by decide +kernel)) ggX12_layerOf_X12_isTable
set_option maxRecDepth 20000 in
theorem ggX12_layerOf_X12_fails : GoodIn wsX12_layerOf wsX12_fails := goodIn_r _ [15, 1, 16, 17, 18, 19, 20, 21, 22, 23, 24, 25, 26, 27, 28, 29, 30] (by decide +kernel) (by decide +kernel)
set_option maxRecDepth 20000 in
theorem gX12_layerOf_X12_fails : GoodIn wsX12_layerOf (wsV RX12 214 RX12 yX12_fails wsX12_fails) := goodIn_app (goodIn_of _ (by decide +kernel)) ggX12_layerOf_X12_fails
set_option maxRecDepth 20000 in
theorem ggX12_firings_X12_isRule : GoodIn wsX12_firings wsX12_isRule := goodIn_r _ [6, 7, 8, 9, 5, 10, 69, 70, 71, 72, 73, 74, 75, 76, 77, 78, 79, 80, 81, 82, 83] (by decide +kernel) (by decide +kernel)
set_option maxRecDepth 20000 in
theorem gX12_firings_X12_isRule : GoodIn wsX12_firings (wsV RX12 239 RX12 yX12_isRule wsX12_isRule) := goodIn_app (goodIn_of _ (by decide +kernel)) ggX12_firings_X12_isRule
set_option maxRecDepth 20000 in
theorem ggX12_firings_X12_firingsOf : GoodIn wsX12_firings wsX12_firingsOf := goodIn_r _ [14, 15, 16, 17, 5, 18, 19, 20, 21, 22, 23, 24, 25, 26, 7, 27, 28, 29, 30, 31, 32, 33, 34, 35, 36, 37, 38, 39, 40, 41, 42, 43, 44, 45, 46, 47, 48, 49, 50, 51, 52, 53, 54, 55, 56, 57, 58, 59, 60, 61, 62, 63, 64, 69, 70, 71, 72, 73, 74, 75, 76, 77, 78, 79, 80, 81, 82, 83] (by decide +kernel) (by decide +kernel)
set_option maxRecDepth 20000 in
theorem gX12_firings_X12_firingsOf : GoodIn wsX12_firings (wsV RX12 151 RX12 yX12_firingsOf wsX12_firingsOf) := goodIn_app (goodIn_of _ (by decide +kernel)) ggX12_firings_X12_firingsOf
set_option maxRecDepth 20000 in
theorem ggX12_firings_X12_fails : GoodIn wsX12_firings wsX12_fails := goodIn_r _ [68, 1, 69, 70, 71, 72, 73, 74, 75, 76, 77, 78, 79, 80, 81, 82, 83] (by decide +kernel) (by decide +kernel)
set_option maxRecDepth 20000 in
theorem gX12_firings_X12_fails : GoodIn wsX12_firings (wsV RX12 214 RX12 yX12_fails wsX12_fails) := goodIn_app (goodIn_of _ (by decide +kernel)) ggX12_firings_X12_fails
set_option maxRecDepth 20000 in
theorem ggX12_meanReasons_X12_rowsOf : GoodIn wsX12_meanReasons wsX12_rowsOf := goodIn_r _ [7, 8, 70, 71, 72, 73, 74, 75, 76, 77, 78, 79, 80, 81, 82, 83, 84] (by decide +kernel) (by decide +kernel)
set_option maxRecDepth 20000 in
theorem gX12_meanReasons_X12_rowsOf : GoodIn wsX12_meanReasons (wsV RX12 242 RX12 yX12_rowsOf wsX12_rowsOf) := goodIn_app (goodIn_of _ (by decide +kernel)) ggX12_meanReasons_X12_rowsOf
set_option maxRecDepth 20000 in
theorem ggX12_meanReasons_X12_reasonsOf : GoodIn wsX12_meanReasons wsX12_reasonsOf := goodIn_r _ [12, 8, 2, 13, 14, 15, 6, 16, 17, 18, 19, 20, 21, 22, 23, 24, 25, 26, 27, 28, 29, 30, 31, 32, 33, 34, 35, 36, 37, 38, 39, 40, 41, 42, 43, 44, 45, 46, 47, 48, 49, 50, 51, 52, 53, 54, 55, 56, 57, 58, 59, 60, 61, 62, 63, 64, 65, 66, 67, 68, 69, 70, 71, 72, 73, 74, 75, 76, 77, 78, 79, 80, 81, 82, 83, 84] (by decide +kernel) (by decide +kernel)
set_option maxRecDepth 20000 in
theorem gX12_meanReasons_X12_reasonsOf : GoodIn wsX12_meanReasons (wsV RX12 245 RX12 yX12_reasonsOf wsX12_reasonsOf) := goodIn_app (goodIn_of _ (by decide +kernel)) ggX12_meanReasons_X12_reasonsOf
set_option maxRecDepth 20000 in
theorem ggX12_factShare_X12_factsOf : GoodIn wsX12_factShare wsX12_factsOf := goodIn_r _ [7, 2, 13, 14, 15, 16, 17, 18, 19, 20, 21, 22, 23, 24, 25, 26, 27] (by decide +kernel) (by decide +kernel)
set_option maxRecDepth 20000 in
theorem gX12_factShare_X12_factsOf : GoodIn wsX12_factShare (wsV RX12 227 RX12 yX12_factsOf wsX12_factsOf) := goodIn_app (goodIn_of _ (by decide +kernel)) ggX12_factShare_X12_factsOf
