set_option maxRecDepth 20000 in
theorem ggX12_isRowFor_X12_valueIn : GoodIn wsX12_isRowFor wsX12_valueIn := goodIn_r _ [11] (by decide +kernel) (by decide +kernel)
set_option maxRecDepth 20000 in
theorem gX12_isRowFor_X12_valueIn : GoodIn wsX12_isRowFor (va_wsS RX12 172 yX12_valueIn wsX12_valueIn) := goodIn_app (goodIn_of _ (by decide +kernel)) ggX12_isRowFor_X12_valueIn
set_option maxRecDepth 20000 in
theorem ggX12_told_X12_isRowFor : GoodIn wsX12_told wsX12_isRowFor := goodIn_r _ [7, 1, 8, 9, 10, 11, 12, 6, 13, 14, 15, 16, 17, 18, 19, 20, 21, 22, 23, 24, 25, 26, 27, 28, 29, 30, 31] (by decide +kernel) (by decide +kernel)
set_option maxRecDepth 20000 in
theorem gX12_told_X12_isRowFor : GoodIn wsX12_told (wsV RX12 175 RX12 yX12_isRowFor wsX12_isRowFor) := goodIn_app (goodIn_of _ (by decide +kernel)) ggX12_told_X12_isRowFor
set_option maxRecDepth 20000 in
theorem ggX12_told_X12_valueIn : GoodIn wsX12_told wsX12_valueIn := goodIn_r _ [16] (by decide +kernel) (by decide +kernel)
set_option maxRecDepth 20000 in
theorem gX12_told_X12_valueIn : GoodIn wsX12_told (va_wsS RX12 172 yX12_valueIn wsX12_valueIn) := goodIn_app (goodIn_of _ (by decide +kernel)) ggX12_told_X12_valueIn
set_option maxRecDepth 20000 in
theorem ggX12_nextAtom_X12_atoms : GoodIn wsX12_nextAtom wsX12_atoms := goodIn_r _ [5, 6, 19, 20, 21, 22, 23, 24, 25, 26, 27, 28, 29, 30, 31, 32, 33] (by decide +kernel) (by decide +kernel)
set_option maxRecDepth 20000 in
theorem gX12_nextAtom_X12_atoms : GoodIn wsX12_nextAtom (wsV RX12 76 RX12 yX12_atoms wsX12_atoms) := goodIn_app (goodIn_of _ (by decide +kernel)) ggX12_nextAtom_X12_atoms
set_option maxRecDepth 20000 in
theorem ggX12_nextAtom_X12_atomAt : GoodIn wsX12_nextAtom wsX12_atomAt := goodIn_r _ [10] (by decide +kernel) (by decide +kernel)
set_option maxRecDepth 20000 in
theorem gX12_nextAtom_X12_atomAt : GoodIn wsX12_nextAtom (wsV RX12 79 RX12 yX12_atomAt wsX12_atomAt) := goodIn_app (goodIn_of _ (by decide +kernel)) ggX12_nextAtom_X12_atomAt
set_option maxRecDepth 20000 in
theorem ggX12_nextAtom_X12_variables : GoodIn wsX12_nextAtom wsX12_variables := goodIn_r _ [14, 6, 15, 16, 17, 4, 18, 19, 20, 21, 22, 23, 24, 25, 26, 27, 28, 29, 30, 31, 32, 33] (by decide +kernel) (by decide +kernel)
set_option maxRecDepth 20000 in
theorem gX12_nextAtom_X12_variables : GoodIn wsX12_nextAtom (wsV RX12 111 RX12 yX12_variables wsX12_variables) := goodIn_app (goodIn_of _ (by decide +kernel)) ggX12_nextAtom_X12_variables
set_option maxRecDepth 20000 in
theorem ggX12_atomsWith_X12_atoms : GoodIn wsX12_atomsWith wsX12_atoms := goodIn_r _ [5, 6, 19, 20, 21, 22, 23, 24, 25, 26, 27, 28, 29, 30, 31, 32, 33] (by decide +kernel) (by decide +kernel)
set_option maxRecDepth 20000 in
theorem gX12_atomsWith_X12_atoms : GoodIn wsX12_atomsWith (wsV RX12 76 RX12 yX12_atoms wsX12_atoms) := goodIn_app (goodIn_of _ (by decide +kernel)) ggX12_atomsWith_X12_atoms
set_option maxRecDepth 20000 in
theorem ggX12_atomsWith_X12_atomAt : GoodIn wsX12_atomsWith wsX12_atomAt := goodIn_r _ [10] (by decide +kernel) (by decide +kernel)
set_option maxRecDepth 20000 in
theorem gX12_atomsWith_X12_atomAt : GoodIn wsX12_atomsWith (wsV RX12 79 RX12 yX12_atomAt wsX12_atomAt) := goodIn_app (goodIn_of _ (by decide +kernel)) ggX12_atomsWith_X12_atomAt
set_option maxRecDepth 20000 in
theorem ggX12_atomsWith_X12_variables : GoodIn wsX12_atomsWith wsX12_variables := goodIn_r _ [14, 6, 15, 16, 17, 4, 18, 19, 20, 21, 22, 23, 24, 25, 26, 27, 28, 29, 30, 31, 32, 33] (by decide +kernel) (by decide +kernel)
set_option maxRecDepth 20000 in
theorem gX12_atomsWith_X12_variables : GoodIn wsX12_atomsWith (wsV RX12 111 RX12 yX12_variables wsX12_variables) := goodIn_app (goodIn_of _ (by decide +kernel)) ggX12_atomsWith_X12_variables
set_option maxRecDepth 20000 in
theorem ggX12_leaps_X12_atomsWith : GoodIn wsX12_leaps wsX12_atomsWith := goodIn_r _ [9, 10, 11, 12, 8, 13, 14, 15, 16, 17, 18, 19, 20, 21, 22, 23, 24, 25, 26, 46, 47, 48, 49, 50, 51, 52, 53, 54, 55, 56, 57, 58, 59, 60] (by decide +kernel) (by decide +kernel)
set_option maxRecDepth 20000 in
theorem gX12_leaps_X12_atomsWith : GoodIn wsX12_leaps (wsV RX12 178 RX12 yX12_atomsWith wsX12_atomsWith) := goodIn_app (goodIn_of _ (by decide +kernel)) ggX12_leaps_X12_atomsWith
set_option maxRecDepth 20000 in
theorem ggX12_leaps_X12_atoms : GoodIn wsX12_leaps wsX12_atoms := goodIn_r _ [13, 14, 46, 47, 48, 49, 50, 51, 52, 53, 54, 55, 56, 57, 58, 59, 60] (by decide +kernel) (by decide +kernel)
set_option maxRecDepth 20000 in
theorem gX12_leaps_X12_atoms : GoodIn wsX12_leaps (wsV RX12 76 RX12 yX12_atoms wsX12_atoms) := goodIn_app (goodIn_of _ (by decide +kernel)) ggX12_leaps_X12_atoms
set_option maxRecDepth 20000 in
theorem ggX12_leaps_X12_nextAtom : GoodIn wsX12_leaps wsX12_nextAtom := goodIn_r _ [30, 10, 11, 12, 8, 13, 14, 15, 16, 17, 18, 19, 20, 21, 22, 23, 24, 25, 26, 46, 47, 48, 49, 50, 51, 52, 53, 54, 55, 56, 57, 58, 59, 60] (by decide +kernel) (by decide +kernel)
set_option maxRecDepth 20000 in
theorem gX12_leaps_X12_nextAtom : GoodIn wsX12_leaps (wsV RX12 181 RX12 yX12_nextAtom wsX12_nextAtom) := goodIn_app (goodIn_of _ (by decide +kernel)) ggX12_leaps_X12_nextAtom
set_option maxRecDepth 20000 in
theorem ggX12_leaps_X12_atomAt : GoodIn wsX12_leaps wsX12_atomAt := goodIn_r _ [18] (by decide +kernel) (by decide +kernel)
set_option maxRecDepth 20000 in
theorem gX12_leaps_X12_atomAt : GoodIn wsX12_leaps (wsV RX12 79 RX12 yX12_atomAt wsX12_atomAt) := goodIn_app (goodIn_of _ (by decide +kernel)) ggX12_leaps_X12_atomAt
set_option maxRecDepth 20000 in
theorem ggX12_leaps_X12_told : GoodIn wsX12_leaps wsX12_told := goodIn_r _ [34, 14, 35, 36, 37, 38, 8, 39, 1, 3, 23, 24, 25, 26, 40, 41, 42, 46, 47, 48, 49, 50, 51, 52, 53, 54, 55, 56, 57, 58, 59, 60] (by decide +kernel) (by decide +kernel)
set_option maxRecDepth 20000 in
theorem gX12_leaps_X12_told : GoodIn wsX12_leaps (wsV RX12 187 RX12 yX12_told wsX12_told) := goodIn_app (goodIn_of _ (by decide +kernel)) ggX12_leaps_X12_told
set_option maxRecDepth 20000 in
theorem ggX12_leaps_X12_leaps : GoodIn wsX12_leaps wsX12_leaps := goodIn_r _ [0, 1, 2, 3, 4, 5, 6, 7, 8, 9, 10, 11, 12, 13, 14, 15, 16, 17, 18, 19, 20, 21, 22, 23, 24, 25, 26, 27, 28, 29, 30, 31, 32, 33, 34, 35, 36, 37, 38, 39, 40, 41, 42, 43, 44, 45, 46, 47, 48, 49, 50, 51, 52, 53, 54, 55, 56, 57, 58, 59, 60] (by decide +kernel) (by decide +kernel)
set_option maxRecDepth 20000 in
theorem gX12_leaps_X12_leaps : GoodIn wsX12_leaps (wsV RX12 191 RX12 yX12_leaps wsX12_leaps) := goodIn_app (goodIn_of _ (by decide +kernel)) ggX12_leaps_X12_leaps
set_option maxRecDepth 20000 in
theorem ggX12_standing_X12_atoms : GoodIn wsX12_standing wsX12_atoms := goodIn_r _ [7, 8, 9, 10, 11, 12, 13, 14, 15, 16, 17, 18, 19, 20, 21, 22, 23] (by decide +kernel) (by decide +kernel)
set_option maxRecDepth 20000 in
theorem gX12_standing_X12_atoms : GoodIn wsX12_standing (wsV RX12 76 RX12 yX12_atoms wsX12_atoms) := goodIn_app (goodIn_of _ (by decide +kernel)) ggX12_standing_X12_atoms
set_option maxRecDepth 20000 in
theorem ggX12_goes_X12_atoms : GoodIn wsX12_goes wsX12_atoms := goodIn_r _ [7, 8, 9, 10, 11, 12, 13, 14, 15, 16, 17, 18, 19, 20, 21, 22, 23] (by decide +kernel) (by decide +kernel)
set_option maxRecDepth 20000 in
theorem gX12_goes_X12_atoms : GoodIn wsX12_goes (wsV RX12 76 RX12 yX12_atoms wsX12_atoms) := goodIn_app (goodIn_of _ (by decide +kernel)) ggX12_goes_X12_atoms
set_option maxRecDepth 20000 in
theorem ggX12_isTreeOf_X12_atoms : GoodIn wsX12_isTreeOf wsX12_atoms := goodIn_r _ [7, 8, 29, 30, 31, 32, 33, 34, 35, 36, 37, 38, 39, 40, 41, 42, 43] (by decide +kernel) (by decide +kernel)
set_option maxRecDepth 20000 in
theorem gX12_isTreeOf_X12_atoms : GoodIn wsX12_isTreeOf (wsV RX12 76 RX12 yX12_atoms wsX12_atoms) := goodIn_app (goodIn_of _ (by decide +kernel)) ggX12_isTreeOf_X12_atoms
set_option maxRecDepth 20000 in
theorem ggX12_isTreeOf_X12_atomAt : GoodIn wsX12_isTreeOf wsX12_atomAt := goodIn_r _ [12] (by decide +kernel) (by decide +kernel)
set_option maxRecDepth 20000 in
theorem gX12_isTreeOf_X12_atomAt : GoodIn wsX12_isTreeOf (wsV RX12 79 RX12 yX12_atomAt wsX12_atomAt) := goodIn_app (goodIn_of _ (by decide +kernel)) ggX12_isTreeOf_X12_atomAt
set_option maxRecDepth 20000 in
theorem ggX12_isTreeOf_X12_variables : GoodIn wsX12_isTreeOf wsX12_variables := goodIn_r _ [16, 8, 17, 18, 19, 6, 20, 29, 30, 31, 32, 33, 34, 35, 36, 37, 38, 39, 40, 41, 42, 43] (by decide +kernel) (by decide +kernel)
set_option maxRecDepth 20000 in
theorem gX12_isTreeOf_X12_variables : GoodIn wsX12_isTreeOf (wsV RX12 111 RX12 yX12_variables wsX12_variables) := goodIn_app (goodIn_of _ (by decide +kernel)) ggX12_isTreeOf_X12_variables
set_option maxRecDepth 20000 in
theorem ggX12_isTreeOf_X12_standing : GoodIn wsX12_isTreeOf wsX12_standing := goodIn_r _ [24, 2, 1, 3, 4, 5, 6, 7, 8, 29, 30, 31, 32, 33, 34, 35, 36, 37, 38, 39, 40, 41, 42, 43] (by decide +kernel) (by decide +kernel)
set_option maxRecDepth 20000 in
theorem gX12_isTreeOf_X12_standing : GoodIn wsX12_isTreeOf (wsV RX12 195 RX12 yX12_standing wsX12_standing) := goodIn_app (goodIn_of _ (by decide +kernel)) ggX12_isTreeOf_X12_standing
set_option maxRecDepth 20000 in
theorem ggX12_isTreeOf_X12_goes : GoodIn wsX12_isTreeOf wsX12_goes := goodIn_r _ [28, 1, 2, 3, 4, 5, 6, 7, 8, 29, 30, 31, 32, 33, 34, 35, 36, 37, 38, 39, 40, 41, 42, 43] (by decide +kernel) (by decide +kernel)
set_option maxRecDepth 20000 in
theorem gX12_isTreeOf_X12_goes : GoodIn wsX12_isTreeOf (wsV RX12 198 RX12 yX12_goes wsX12_goes) := goodIn_app (goodIn_of _ (by decide +kernel)) ggX12_isTreeOf_X12_goes
set_option maxRecDepth 20000 in
theorem ggX12_covers_X12_standsIn : GoodIn wsX12_covers wsX12_standsIn := goodIn_r _ [5, 6, 7, 4, 8, 9, 10, 11, 12, 13, 14, 15, 16, 17, 18, 19, 20, 21, 22, 23, 24, 25, 26, 27, 28, 29, 33, 34, 35, 36, 37, 38, 39, 40, 41, 42, 43, 44, 45, 46, 47] (by decide +kernel) (by decide +kernel)
set_option maxRecDepth 20000 in
theorem gX12_covers_X12_standsIn : GoodIn wsX12_covers (wsV RX12 201 RX12 yX12_standsIn wsX12_standsIn) := goodIn_app (goodIn_of _ (by decide +kernel)) ggX12_covers_X12_standsIn
set_option maxRecDepth 20000 in
theorem ggX12_covers_X12_atoms : GoodIn wsX12_covers wsX12_atoms := goodIn_r _ [16, 17, 33, 34, 35, 36, 37, 38, 39, 40, 41, 42, 43, 44, 45, 46, 47] (by decide +kernel) (by decide +kernel)
set_option maxRecDepth 20000 in
theorem gX12_covers_X12_atoms : GoodIn wsX12_covers (wsV RX12 76 RX12 yX12_atoms wsX12_atoms) := goodIn_app (goodIn_of _ (by decide +kernel)) ggX12_covers_X12_atoms
set_option maxRecDepth 20000 in
theorem ggX12_covers_X12_atomAt : GoodIn wsX12_covers wsX12_atomAt := goodIn_r _ [21] (by decide +kernel) (by decide +kernel)
set_option maxRecDepth 20000 in
theorem gX12_covers_X12_atomAt : GoodIn wsX12_covers (wsV RX12 79 RX12 yX12_atomAt wsX12_atomAt) := goodIn_app (goodIn_of _ (by decide +kernel)) ggX12_covers_X12_atomAt
set_option maxRecDepth 20000 in
theorem ggX12_covers_X12_variables : GoodIn wsX12_covers wsX12_variables := goodIn_r _ [25, 17, 26, 27, 28, 4, 29, 33, 34, 35, 36, 37, 38, 39, 40, 41, 42, 43, 44, 45, 46, 47] (by decide +kernel) (by decide +kernel)
set_option maxRecDepth 20000 in
theorem gX12_covers_X12_variables : GoodIn wsX12_covers (wsV RX12 111 RX12 yX12_variables wsX12_variables) := goodIn_app (goodIn_of _ (by decide +kernel)) ggX12_covers_X12_variables
set_option maxRecDepth 20000 in
theorem ggX12_covers_X12_halves : GoodIn wsX12_covers wsX12_halves := goodIn_r _ [32] (by decide +kernel) (by decide +kernel)
set_option maxRecDepth 20000 in
theorem gX12_covers_X12_halves : GoodIn wsX12_covers (va_wsS RX12 204 yX12_halves wsX12_halves) := goodIn_app (goodIn_of _ (by decide +kernel)) ggX12_covers_X12_halves
set_option maxRecDepth 20000 in
theorem ggX12_allHalves_X12_atoms : GoodIn wsX12_allHalves wsX12_atoms := goodIn_r _ [5, 6, 7, 8, 9, 10, 11, 12, 13, 14, 15, 16, 17, 18, 19, 20, 21] (by decide +kernel) (by decide +kernel)
set_option maxRecDepth 20000 in
theorem gX12_allHalves_X12_atoms : GoodIn wsX12_allHalves (wsV RX12 76 RX12 yX12_atoms wsX12_atoms) := goodIn_app (goodIn_of _ (by decide +kernel)) ggX12_allHalves_X12_atoms
set_option maxRecDepth 20000 in
theorem ggX12_sizeOf_X12_isRowFor : GoodIn wsX12_sizeOf wsX12_isRowFor := goodIn_r _ [7, 2, 8, 9, 10, 11, 12, 6, 13, 14, 15, 16, 17, 18, 19, 20, 21, 22, 23, 24, 25, 26, 27, 28, 29, 30, 31] (by decide +kernel) (by decide +kernel)
set_option maxRecDepth 20000 in
theorem gX12_sizeOf_X12_isRowFor : GoodIn wsX12_sizeOf (wsV RX12 175 RX12 yX12_isRowFor wsX12_isRowFor) := goodIn_app (goodIn_of _ (by decide +kernel)) ggX12_sizeOf_X12_isRowFor
set_option maxRecDepth 20000 in
theorem ggX12_product_X12_atoms : GoodIn wsX12_product wsX12_atoms := goodIn_r _ [6, 7, 33, 34, 35, 36, 37, 38, 39, 40, 41, 42, 43, 44, 45, 46, 47] (by decide +kernel) (by decide +kernel)
set_option maxRecDepth 20000 in
theorem gX12_product_X12_atoms : GoodIn wsX12_product (wsV RX12 76 RX12 yX12_atoms wsX12_atoms) := goodIn_app (goodIn_of _ (by decide +kernel)) ggX12_product_X12_atoms
set_option maxRecDepth 20000 in
theorem ggX12_product_X12_atomAt : GoodIn wsX12_product wsX12_atomAt := goodIn_r _ [11] (by decide +kernel) (by decide +kernel)
set_option maxRecDepth 20000 in
theorem gX12_product_X12_atomAt : GoodIn wsX12_product (wsV RX12 79 RX12 yX12_atomAt wsX12_atomAt) := goodIn_app (goodIn_of _ (by decide +kernel)) ggX12_product_X12_atomAt
set_option maxRecDepth 20000 in
theorem ggX12_product_X12_sizeOf : GoodIn wsX12_product wsX12_sizeOf := goodIn_r _ [15, 16, 7, 17, 18, 19, 5, 20, 21, 22, 23, 24, 25, 26, 27, 28, 29, 33, 34, 35, 36, 37, 38, 39, 40, 41, 42, 43, 44, 45, 46, 47] (by decide +kernel) (by decide +kernel)
set_option maxRecDepth 20000 in
theorem gX12_product_X12_sizeOf : GoodIn wsX12_product (wsV RX12 207 RX12 yX12_sizeOf wsX12_sizeOf) := goodIn_app (goodIn_of _ (by decide +kernel)) ggX12_product_X12_sizeOf
set_option maxRecDepth 20000 in
theorem ggX12_product_X12_halves : GoodIn wsX12_product wsX12_halves := goodIn_r _ [32] (by decide +kernel) (by decide +kernel)
set_option maxRecDepth 20000 in
theorem gX12_product_X12_halves : GoodIn wsX12_product (va_wsS RX12 204 yX12_halves wsX12_halves) := goodIn_app (goodIn_of _ (by decide +kernel)) ggX12_product_X12_halves
set_option maxRecDepth 20000 in
theorem ggX12_addTable_X12_in : GoodIn wsX12_addTable wsX12_in := goodIn_r _ [6] (by decide +kernel) (by decide +kernel)
set_option maxRecDepth 20000 in
theorem gX12_addTable_X12_in : GoodIn wsX12_addTable (va_wsS RX12 64 yX12_in wsX12_in) := goodIn_app (goodIn_of _ (by decide +kernel)) ggX12_addTable_X12_in
set_option maxRecDepth 20000 in
theorem ggX12_addTable_X12_fails : GoodIn wsX12_addTable wsX12_fails := goodIn_r _ [10, 1, 94, 95, 96, 97, 98, 99, 100, 101, 102, 103, 104, 105, 106, 107, 108] (by decide +kernel) (by decide +kernel)
set_option maxRecDepth 20000 in
theorem gX12_addTable_X12_fails : GoodIn wsX12_addTable (wsV RX12 214 RX12 yX12_fails wsX12_fails) := goodIn_app (goodIn_of _ (by decide +kernel)) ggX12_addTable_X12_fails
set_option maxRecDepth 20000 in
theorem ggX12_addTable_X12_keeps : GoodIn wsX12_addTable wsX12_keeps := goodIn_r _ [14, 15, 16, 17, 18, 19, 20, 2, 94, 95, 96, 97, 98, 99, 100, 101, 102, 103, 104, 105, 106, 107, 108] (by decide +kernel) (by decide +kernel)
set_option maxRecDepth 20000 in
theorem gX12_addTable_X12_keeps : GoodIn wsX12_addTable (wsV RX12 217 RX12 yX12_keeps wsX12_keeps) := goodIn_app (goodIn_of _ (by decide +kernel)) ggX12_addTable_X12_keeps
set_option maxRecDepth 20000 in
theorem ggX12_addTable_X12_follows : GoodIn wsX12_addTable wsX12_follows := goodIn_r _ [24, 25, 2, 26, 27, 28, 29, 5, 30, 31, 32, 33, 34, 35, 36, 37, 38, 39, 40, 41, 42, 43, 44, 45, 46, 47, 48, 49, 50, 51, 52, 53, 54, 55, 56, 57, 58, 59, 60, 61, 62, 63, 64, 65, 66, 67, 68, 69, 70, 71, 72, 73, 74, 75, 76, 77, 78, 79, 80, 81, 82, 83, 84, 85, 86, 87, 88, 89, 90, 91, 92, 93, 94, 95, 96, 97, 98, 99, 100, 101, 102, 103, 104, 105, 106, 107, 108] (by decide +kernel) (by decide +kernel)
set_option maxRecDepth 20000 in
theorem gX12_addTable_X12_follows : GoodIn wsX12_addTable (wsV RX12 57 RX12 yX12_follows wsX12_follows) := goodIn_app (goodIn_of _ (by decide +kernel)) ggX12_addTable_X12_follows
set_option maxRecDepth 20000 in
theorem ggX12_addFact_X12_isTable : GoodIn wsX12_addFact wsX12_isTable := goodIn_r _ [7, 2, 8, 9, 6, 10, 113, 114, 115, 116, 117, 118, 119, 120, 121, 122, 123, 124, 125, 126, 127] (by decide +kernel) (by decide +kernel)
set_option maxRecDepth 20000 in
theorem gX12_addFact_X12_isTable : GoodIn wsX12_addFact (wsV RX12 220 RX12 yX12_isTable wsX12_isTable) := goodIn_app (goodIn_of _ (by decide +kernel)) ggX12_addFact_X12_isTable
set_option maxRecDepth 20000 in
theorem ggX12_addFact_X12_fails : GoodIn wsX12_addFact wsX12_fails := goodIn_r _ [14, 1, 113, 114, 115, 116, 117, 118, 119, 120, 121, 122, 123, 124, 125, 126, 127] (by decide +kernel) (by decide +kernel)
set_option maxRecDepth 20000 in
theorem gX12_addFact_X12_fails : GoodIn wsX12_addFact (wsV RX12 214 RX12 yX12_fails wsX12_fails) := goodIn_app (goodIn_of _ (by decide +kernel)) ggX12_addFact_X12_fails
set_option maxRecDepth 20000 in
theorem ggX12_addFact_X12_areRight : GoodIn wsX12_addFact wsX12_areRight := goodIn_r _ [18, 19, 20, 21, 6, 22, 2, 8, 9, 10, 113, 114, 115, 116, 117, 118, 119, 120, 121, 122, 123, 124, 125, 126, 127] (by decide +kernel) (by decide +kernel)
set_option maxRecDepth 20000 in
theorem gX12_addFact_X12_areRight : GoodIn wsX12_addFact (wsV RX12 223 RX12 yX12_areRight wsX12_areRight) := goodIn_app (goodIn_of _ (by decide +kernel)) ggX12_addFact_X12_areRight
