set_option maxRecDepth 20000 in
theorem ggX11_init_X9_init : GoodIn wsX11_init wsX9_init := goodIn_r _ [35, 36, 2, 3, 37, 38, 39, 40, 41, 29, 30, 42, 43, 44, 45, 46, 47, 48, 49, 50, 51, 52, 53, 54, 55, 56, 57, 58, 59, 60, 61, 62, 63, 64, 65, 66, 67, 68, 69, 70, 71, 72, 73, 74, 75, 213, 175, 176, 177, 178, 179, 180, 181, 182, 183, 212, 214, 215] (by decide +kernel) (by decide +kernel)
set_option maxRecDepth 20000 in
theorem gX11_init_X9_init : GoodIn wsX11_init (wsX9_init) := ggX11_init_X9_init
set_option maxRecDepth 20000 in
theorem ggX11_init_X5_init : GoodIn wsX11_init wsX5_init := goodIn_r _ [78, 79, 2, 3, 80, 81, 5, 6, 82, 34, 35, 36, 37, 38, 39, 40, 41, 29, 30, 42, 43, 44, 45, 46, 47, 48, 49, 50, 51, 52, 53, 54, 55, 56, 57, 58, 59, 60, 61, 62, 63, 64, 65, 66, 67, 68, 69, 70, 71, 72, 73, 74, 75, 192, 193, 194, 175, 176, 177, 178, 179, 180, 181, 182, 183, 213, 212, 214, 215] (by decide +kernel) (by decide +kernel)
set_option maxRecDepth 20000 in
theorem gX11_init_X5_init : GoodIn wsX11_init (wsX5_init) := ggX11_init_X5_init
set_option maxRecDepth 20000 in
theorem ggX11_init_X4_init : GoodIn wsX11_init wsX4_init := goodIn_r _ [84, 85, 2, 3, 86, 87, 88, 89, 90, 29, 30, 91, 92, 93, 38, 39, 94, 95, 96, 97, 98, 99, 100, 101, 48, 49, 102, 103, 104, 105, 106, 107, 108, 109, 62, 63, 64, 65, 66, 67, 52, 53, 54, 55, 56, 110, 57, 58, 59, 60, 61, 111, 216, 217, 218, 219, 220, 221, 222, 223, 224, 225, 226, 227, 195, 196, 197, 198, 199, 200, 201, 202, 203, 212, 213, 214, 215] (by decide +kernel) (by decide +kernel)
set_option maxRecDepth 20000 in
theorem gX11_init_X4_init_n25 : GoodIn wsX11_init (wsX4_init) := ggX11_init_X4_init
set_option maxRecDepth 20000 in
theorem ggX11_init_X0_init : GoodIn wsX11_init wsX0_init := goodIn_r _ [113, 114, 2, 3, 115, 87, 88, 116, 60, 117, 98, 99, 100, 101, 48, 49, 102, 103, 38, 39, 104, 105, 106, 107, 108, 109, 62, 63, 64, 65, 66, 67, 52, 53, 54, 55, 56, 110, 216, 217, 218, 219, 220, 221, 222, 223, 224, 225, 226, 227, 204, 205, 206, 207, 214, 215, 213] (by decide +kernel) (by decide +kernel)
set_option maxRecDepth 20000 in
theorem gX11_init_X0_init_n32 : GoodIn wsX11_init (wsX0_init) := ggX11_init_X0_init
set_option maxRecDepth 20000 in
theorem ggX11_init_X3_init : GoodIn wsX11_init wsX3_init := goodIn_r _ [119, 120, 2, 3, 121, 38, 39, 122, 123, 52, 53, 54, 55, 56, 213, 208, 209, 210] (by decide +kernel) (by decide +kernel)
set_option maxRecDepth 20000 in
theorem gX11_init_X3_init_n39 : GoodIn wsX11_init (wsX3_init) := ggX11_init_X3_init
set_option maxRecDepth 20000 in
theorem ggX11_init_X10_init : GoodIn wsX11_init wsX10_init := goodIn_r _ [125, 126, 2, 3, 127, 38, 39, 128, 129, 52, 53, 54, 55, 56, 213, 211] (by decide +kernel) (by decide +kernel)
set_option maxRecDepth 20000 in
theorem gX11_init_X10_init_n46 : GoodIn wsX11_init (wsX10_init) := ggX11_init_X10_init
set_option maxRecDepth 20000 in
theorem ggX11_init_X7_init : GoodIn wsX11_init wsX7_init := goodIn_r _ [58, 59, 2, 3, 60, 61, 212] (by decide +kernel) (by decide +kernel)
set_option maxRecDepth 20000 in
theorem gX11_init_X7_init_n53 : GoodIn wsX11_init (wsX7_init) := ggX11_init_X7_init
set_option maxRecDepth 20000 in
theorem ggX11_init_X9_openTable : GoodIn wsX11_init wsX9_openTable := goodIn_r _ [133, 40, 134, 135, 136, 137, 39, 138, 56, 175, 176, 177, 178, 179, 180, 181, 182, 183, 213] (by decide +kernel) (by decide +kernel)
set_option maxRecDepth 20000 in
theorem gX11_init_X9_openTable : GoodIn wsX11_init (wsV RX11 62 RX9 yX9_openTable wsX9_openTable) := goodIn_app (goodIn_of _ (by decide +kernel)) ggX11_init_X9_openTable
set_option maxRecDepth 20000 in
theorem ggX11_init_X11_rowOf : GoodIn wsX11_init wsX11_rowOf := goodIn_r _ [142] (by decide +kernel) (by decide +kernel)
set_option maxRecDepth 20000 in
theorem gX11_init_X11_rowOf : GoodIn wsX11_init (va_wsS RX11 69 yX11_rowOf wsX11_rowOf) := goodIn_app (goodIn_of _ (by decide +kernel)) ggX11_init_X11_rowOf
set_option maxRecDepth 20000 in
theorem ggX11_init_X7_add : GoodIn wsX11_init wsX7_add := goodIn_r _ [146, 61, 212] (by decide +kernel) (by decide +kernel)
set_option maxRecDepth 20000 in
theorem gX11_init_X7_add : GoodIn wsX11_init (wsV RX11 73 RX7 yX7_add wsX7_add) := goodIn_app (goodIn_of _ (by decide +kernel)) ggX11_init_X7_add
set_option maxRecDepth 20000 in
theorem ggX11_init_X1_code : GoodIn wsX11_init wsX1_code := goodIn_r _ [150] (by decide +kernel) (by decide +kernel)
set_option maxRecDepth 20000 in
theorem gX11_init_X1_code : GoodIn wsX11_init (va_wsS RX11 77 yX1_code wsX1_code) := goodIn_app (goodIn_of _ (by decide +kernel)) ggX11_init_X1_code
set_option maxRecDepth 20000 in
theorem ggX11_init_X9_openRule : GoodIn wsX11_init wsX9_openRule := goodIn_r _ [154, 44, 155, 135, 136, 137, 39, 138, 56, 156, 157, 158, 6, 159, 47, 50, 160, 161, 162, 49, 163, 164, 175, 176, 177, 178, 179, 180, 181, 182, 183, 213, 214, 215] (by decide +kernel) (by decide +kernel)
set_option maxRecDepth 20000 in
theorem gX11_init_X9_openRule : GoodIn wsX11_init (wsV RX11 83 RX9 yX9_openRule wsX9_openRule) := goodIn_app (goodIn_of _ (by decide +kernel)) ggX11_init_X9_openRule
set_option maxRecDepth 20000 in
theorem ggX11_init_X9_body : GoodIn wsX11_init wsX9_body := goodIn_r _ [159, 47, 50, 175, 176, 177, 178, 179, 180, 181, 182, 183] (by decide +kernel) (by decide +kernel)
set_option maxRecDepth 20000 in
theorem gX11_init_X9_body : GoodIn wsX11_init (wsV RX11 86 RX9 yX9_body wsX9_body) := goodIn_app (goodIn_of _ (by decide +kernel)) ggX11_init_X9_body
set_option maxRecDepth 20000 in
theorem ggX11_init_X2_add : GoodIn wsX11_init wsX2_add := goodIn_r _ [169, 164, 66, 170, 136, 137, 39, 138, 56, 214, 215, 213] (by decide +kernel) (by decide +kernel)
set_option maxRecDepth 20000 in
theorem gX11_init_X2_add : GoodIn wsX11_init (wsV RX11 90 RX2 yX2_add wsX2_add) := goodIn_app (goodIn_of _ (by decide +kernel)) ggX11_init_X2_add
set_option maxRecDepth 20000 in
theorem ggX11_init_X9_query : GoodIn wsX11_init wsX9_query := goodIn_r _ [174, 46, 50, 175, 176, 177, 178, 179, 180, 181, 182, 183] (by decide +kernel) (by decide +kernel)
set_option maxRecDepth 20000 in
theorem gX11_init_X9_query : GoodIn wsX11_init (wsV RX11 94 RX9 yX9_query wsX9_query) := goodIn_app (goodIn_of _ (by decide +kernel)) ggX11_init_X9_query
set_option maxRecDepth 20000 in
theorem ggX11_addTable_X11_keepForUndo : GoodIn wsX11_addTable wsX11_keepForUndo := goodIn_r _ [11, 12, 5, 13, 14, 15, 16, 17, 18, 19, 20, 21, 22, 23, 24, 25, 26, 27, 28, 29, 30, 31, 32, 33, 34, 35, 36, 37, 38, 39, 40, 41, 42, 43, 44, 45, 46, 47, 48, 49, 50, 51, 52, 53, 54, 55, 56, 57, 58, 59, 60, 61, 62, 63, 64, 65, 66, 67, 82, 83, 84, 85, 86, 87, 88, 89, 99, 100, 101, 90, 91, 92, 93, 94, 95, 96, 97, 98, 102, 103, 104, 105] (by decide +kernel) (by decide +kernel)
set_option maxRecDepth 20000 in
theorem gX11_addTable_X11_keepForUndo : GoodIn wsX11_addTable (wsV RX11 112 RX11 yX11_keepForUndo wsX11_keepForUndo) := goodIn_app (goodIn_of _ (by decide +kernel)) ggX11_addTable_X11_keepForUndo
set_option maxRecDepth 20000 in
theorem ggX11_addTable_X4_forget : GoodIn wsX11_addTable wsX4_forget := goodIn_r _ [72, 73, 106, 107, 108, 109, 110, 111, 112, 113, 114] (by decide +kernel) (by decide +kernel)
set_option maxRecDepth 20000 in
theorem gX11_addTable_X4_forget : GoodIn wsX11_addTable (wsV RX11 115 RX4 yX4_forget wsX4_forget) := goodIn_app (goodIn_of _ (by decide +kernel)) ggX11_addTable_X4_forget
set_option maxRecDepth 20000 in
theorem ggX11_addTable_X9_openTable : GoodIn wsX11_addTable wsX9_openTable := goodIn_r _ [77, 31, 35, 78, 79, 80, 40, 81, 42, 90, 91, 92, 93, 94, 95, 96, 97, 98, 102] (by decide +kernel) (by decide +kernel)
set_option maxRecDepth 20000 in
theorem gX11_addTable_X9_openTable : GoodIn wsX11_addTable (wsV RX11 62 RX9 yX9_openTable wsX9_openTable) := goodIn_app (goodIn_of _ (by decide +kernel)) ggX11_addTable_X9_openTable
set_option maxRecDepth 20000 in
theorem ggX11_addFact_X11_needTable : GoodIn wsX11_addFact wsX11_needTable := goodIn_ca (goodIn_r _ [9, 10, 11, 3, 117, 118, 119, 120, 121, 122, 123, 124, 125, 126, 127, 128, 129, 130, 131, 132, 133] (by decide +kernel) (by decide +kernel)) (goodIn_sub (fun _ h => List.mem_cons_of_mem _ (List.mem_append_left _ (List.mem_append_right _ h))) (by decide +kernel))
set_option maxRecDepth 20000 in
theorem gX11_addFact_X11_needTable : GoodIn wsX11_addFact (wsV RX11 118 RX11 yX11_needTable wsX11_needTable) := goodIn_app (goodIn_of _ (by decide +kernel)) ggX11_addFact_X11_needTable
set_option maxRecDepth 20000 in
theorem ggX11_addFact_X11_needRow : GoodIn wsX11_addFact wsX11_needRow := goodIn_ca (goodIn_r _ [15, 16, 17, 3, 18, 19, 20, 21, 22, 23, 24, 25, 8, 26, 117, 118, 119, 120, 121, 122, 123, 124, 125, 126, 127, 128, 129, 130, 131, 132, 133, 134] (by decide +kernel) (by decide +kernel)) (goodIn_sub (fun _ h => List.mem_cons_of_mem _ (List.mem_append_right _ h)) (by decide +kernel))
set_option maxRecDepth 20000 in
theorem gX11_addFact_X11_needRow : GoodIn wsX11_addFact (wsV RX11 121 RX11 yX11_needRow wsX11_needRow) := goodIn_app (goodIn_of _ (by decide +kernel)) ggX11_addFact_X11_needRow
set_option maxRecDepth 20000 in
theorem ggX11_addFact_X11_rowOf : GoodIn wsX11_addFact wsX11_rowOf := goodIn_r _ [29] (by decide +kernel) (by decide +kernel)
set_option maxRecDepth 20000 in
theorem gX11_addFact_X11_rowOf : GoodIn wsX11_addFact (va_wsS RX11 69 yX11_rowOf wsX11_rowOf) := goodIn_app (goodIn_of _ (by decide +kernel)) ggX11_addFact_X11_rowOf
set_option maxRecDepth 20000 in
theorem ggX11_addFact_X7_has : GoodIn wsX11_addFact wsX7_has := goodIn_r _ [34, 35, 135] (by decide +kernel) (by decide +kernel)
set_option maxRecDepth 20000 in
theorem gX11_addFact_X7_has : GoodIn wsX11_addFact (wsV RX11 125 RX7 yX7_has wsX7_has) := goodIn_app (goodIn_of _ (by decide +kernel)) ggX11_addFact_X7_has
set_option maxRecDepth 20000 in
theorem ggX11_addFact_X7_size : GoodIn wsX11_addFact wsX7_size := goodIn_r _ [39, 40, 41, 42, 33, 43, 35, 44, 45, 46, 47, 48, 49, 50, 135] (by decide +kernel) (by decide +kernel)
set_option maxRecDepth 20000 in
theorem gX11_addFact_X7_size : GoodIn wsX11_addFact (wsV RX11 131 RX7 yX7_size wsX7_size) := goodIn_app (goodIn_of _ (by decide +kernel)) ggX11_addFact_X7_size
set_option maxRecDepth 20000 in
theorem ggX11_addFact_X11_keepForUndo : GoodIn wsX11_addFact wsX11_keepForUndo := goodIn_r _ [54, 55, 3, 56, 57, 58, 59, 60, 61, 62, 63, 64, 65, 66, 67, 68, 69, 70, 71, 72, 73, 74, 75, 76, 77, 78, 79, 80, 81, 82, 21, 83, 23, 84, 85, 86, 33, 87, 35, 88, 89, 90, 91, 92, 93, 94, 95, 96, 97, 98, 99, 100, 101, 102, 103, 104, 105, 106, 117, 118, 119, 120, 121, 122, 123, 124, 136, 137, 138, 125, 126, 127, 128, 129, 130, 131, 132, 133, 134, 135, 139, 140] (by decide +kernel) (by decide +kernel)
set_option maxRecDepth 20000 in
theorem gX11_addFact_X11_keepForUndo : GoodIn wsX11_addFact (wsV RX11 112 RX11 yX11_keepForUndo wsX11_keepForUndo) := goodIn_app (goodIn_of _ (by decide +kernel)) ggX11_addFact_X11_keepForUndo
set_option maxRecDepth 20000 in
theorem ggX11_addFact_X4_forget : GoodIn wsX11_addFact wsX4_forget := goodIn_r _ [111, 112, 141, 142, 143, 144, 145, 146, 147, 148, 149] (by decide +kernel) (by decide +kernel)
set_option maxRecDepth 20000 in
theorem gX11_addFact_X4_forget : GoodIn wsX11_addFact (wsV RX11 115 RX4 yX4_forget wsX4_forget) := goodIn_app (goodIn_of _ (by decide +kernel)) ggX11_addFact_X4_forget
set_option maxRecDepth 20000 in
theorem ggX11_addFact_X7_add : GoodIn wsX11_addFact wsX7_add := goodIn_r _ [116, 35, 135] (by decide +kernel) (by decide +kernel)
set_option maxRecDepth 20000 in
theorem gX11_addFact_X7_add : GoodIn wsX11_addFact (wsV RX11 73 RX7 yX7_add wsX7_add) := goodIn_app (goodIn_of _ (by decide +kernel)) ggX11_addFact_X7_add
set_option maxRecDepth 20000 in
theorem ggX11_removeFact_X11_needTable : GoodIn wsX11_removeFact wsX11_needTable := goodIn_ca (goodIn_r _ [9, 10, 11, 3, 118, 119, 120, 121, 122, 123, 124, 125, 126, 127, 128, 129, 130, 131, 132, 133, 134] (by decide +kernel) (by decide +kernel)) (goodIn_sub (fun _ h => List.mem_cons_of_mem _ (List.mem_append_left _ (List.mem_append_right _ h))) (by decide +kernel))
set_option maxRecDepth 20000 in
theorem gX11_removeFact_X11_needTable : GoodIn wsX11_removeFact (wsV RX11 118 RX11 yX11_needTable wsX11_needTable) := goodIn_app (goodIn_of _ (by decide +kernel)) ggX11_removeFact_X11_needTable
set_option maxRecDepth 20000 in
theorem ggX11_removeFact_X11_needRow : GoodIn wsX11_removeFact wsX11_needRow := goodIn_ca (goodIn_r _ [15, 16, 17, 3, 18, 19, 20, 21, 22, 23, 24, 25, 8, 26, 118, 119, 120, 121, 122, 123, 124, 125, 126, 127, 128, 129, 130, 131, 132, 133, 134, 135] (by decide +kernel) (by decide +kernel)) (goodIn_sub (fun _ h => List.mem_cons_of_mem _ (List.mem_append_right _ h)) (by decide +kernel))
set_option maxRecDepth 20000 in
theorem gX11_removeFact_X11_needRow : GoodIn wsX11_removeFact (wsV RX11 121 RX11 yX11_needRow wsX11_needRow) := goodIn_app (goodIn_of _ (by decide +kernel)) ggX11_removeFact_X11_needRow
set_option maxRecDepth 20000 in
theorem ggX11_removeFact_X11_rowOf : GoodIn wsX11_removeFact wsX11_rowOf := goodIn_r _ [29] (by decide +kernel) (by decide +kernel)
set_option maxRecDepth 20000 in
theorem gX11_removeFact_X11_rowOf : GoodIn wsX11_removeFact (va_wsS RX11 69 yX11_rowOf wsX11_rowOf) := goodIn_app (goodIn_of _ (by decide +kernel)) ggX11_removeFact_X11_rowOf
set_option maxRecDepth 20000 in
theorem ggX11_removeFact_X7_has : GoodIn wsX11_removeFact wsX7_has := goodIn_r _ [34, 35, 136] (by decide +kernel) (by decide +kernel)
set_option maxRecDepth 20000 in
theorem gX11_removeFact_X7_has : GoodIn wsX11_removeFact (wsV RX11 125 RX7 yX7_has wsX7_has) := goodIn_app (goodIn_of _ (by decide +kernel)) ggX11_removeFact_X7_has
set_option maxRecDepth 20000 in
theorem ggX11_removeFact_X11_keepForUndo : GoodIn wsX11_removeFact wsX11_keepForUndo := goodIn_r _ [39, 40, 3, 41, 42, 43, 44, 45, 46, 47, 48, 49, 50, 51, 52, 53, 54, 55, 56, 57, 58, 59, 60, 61, 62, 63, 64, 65, 66, 67, 21, 68, 23, 69, 70, 71, 33, 72, 35, 73, 74, 75, 76, 77, 78, 79, 80, 81, 82, 83, 84, 85, 86, 87, 88, 89, 90, 91, 118, 119, 120, 121, 122, 123, 124, 125, 137, 138, 139, 126, 127, 128, 129, 130, 131, 132, 133, 134, 135, 136, 140, 141] (by decide +kernel) (by decide +kernel)
set_option maxRecDepth 20000 in
theorem gX11_removeFact_X11_keepForUndo : GoodIn wsX11_removeFact (wsV RX11 112 RX11 yX11_keepForUndo wsX11_keepForUndo) := goodIn_app (goodIn_of _ (by decide +kernel)) ggX11_removeFact_X11_keepForUndo
set_option maxRecDepth 20000 in
theorem ggX11_removeFact_X4_forget : GoodIn wsX11_removeFact wsX4_forget := goodIn_r _ [96, 97, 142, 143, 144, 145, 146, 147, 148, 149, 150] (by decide +kernel) (by decide +kernel)
set_option maxRecDepth 20000 in
theorem gX11_removeFact_X4_forget : GoodIn wsX11_removeFact (wsV RX11 115 RX4 yX4_forget wsX4_forget) := goodIn_app (goodIn_of _ (by decide +kernel)) ggX11_removeFact_X4_forget
set_option maxRecDepth 20000 in
theorem ggX11_removeFact_X7_remove : GoodIn wsX11_removeFact wsX7_remove := goodIn_r _ [101, 35, 102, 136] (by decide +kernel) (by decide +kernel)
set_option maxRecDepth 20000 in
theorem gX11_removeFact_X7_remove : GoodIn wsX11_removeFact (wsV RX11 142 RX7 yX7_remove wsX7_remove) := goodIn_app (goodIn_of _ (by decide +kernel)) ggX11_removeFact_X7_remove
set_option maxRecDepth 20000 in
theorem ggX11_removeFact_X7_size : GoodIn wsX11_removeFact wsX7_size := goodIn_r _ [106, 107, 108, 109, 33, 110, 35, 111, 112, 113, 114, 115, 116, 117, 136] (by decide +kernel) (by decide +kernel)
set_option maxRecDepth 20000 in
theorem gX11_removeFact_X7_size : GoodIn wsX11_removeFact (wsV RX11 131 RX7 yX7_size wsX7_size) := goodIn_app (goodIn_of _ (by decide +kernel)) ggX11_removeFact_X7_size
set_option maxRecDepth 20000 in
theorem ggX11_addAtom_X11_needQuery : GoodIn wsX11_addAtom wsX11_needQuery := goodIn_ca (goodIn_r _ [8, 9, 10] (by decide +kernel) (by decide +kernel)) (goodIn_sub (fun _ h => List.mem_cons_of_mem _ (List.mem_append_left _ (List.mem_append_right _ h))) (by decide +kernel))
set_option maxRecDepth 20000 in
theorem gX11_addAtom_X11_needQuery : GoodIn wsX11_addAtom (wsV RX11 145 RX11 yX11_needQuery wsX11_needQuery) := goodIn_app (goodIn_of _ (by decide +kernel)) ggX11_addAtom_X11_needQuery
set_option maxRecDepth 20000 in
theorem ggX11_addAtom_X11_needTable : GoodIn wsX11_addAtom wsX11_needTable := goodIn_ca (goodIn_r _ [14, 9, 10, 3, 101, 102, 103, 104, 105, 106, 107, 108, 111, 112, 113, 114, 115, 116, 117, 118, 119] (by decide +kernel) (by decide +kernel)) (goodIn_sub (fun _ h => List.mem_cons_of_mem _ (List.mem_append_left _ (List.mem_append_right _ h))) (by decide +kernel))
set_option maxRecDepth 20000 in
theorem gX11_addAtom_X11_needTable : GoodIn wsX11_addAtom (wsV RX11 118 RX11 yX11_needTable wsX11_needTable) := goodIn_app (goodIn_of _ (by decide +kernel)) ggX11_addAtom_X11_needTable
set_option maxRecDepth 20000 in
theorem ggX11_addAtom_X11_needVariables : GoodIn wsX11_addAtom wsX11_needVariables := goodIn_ca (goodIn_r _ [18, 19, 20, 3, 21, 22, 23, 24, 25, 26, 27, 28, 7, 29, 101, 102, 103, 104, 105, 106, 107, 108, 111, 112, 113, 114, 115, 116, 117, 118, 119, 120] (by decide +kernel) (by decide +kernel)) (goodIn_sub (fun _ h => List.mem_cons_of_mem _ (List.mem_append_right _ h)) (by decide +kernel))
set_option maxRecDepth 20000 in
theorem gX11_addAtom_X11_needVariables : GoodIn wsX11_addAtom (wsV RX11 148 RX11 yX11_needVariables wsX11_needVariables) := goodIn_app (goodIn_of _ (by decide +kernel)) ggX11_addAtom_X11_needVariables
set_option maxRecDepth 20000 in
theorem ggX11_addAtom_X9_query : GoodIn wsX11_addAtom wsX9_query := goodIn_r _ [34, 35, 36, 111, 112, 113, 114, 115, 116, 117, 118, 119] (by decide +kernel) (by decide +kernel)
set_option maxRecDepth 20000 in
theorem gX11_addAtom_X9_query : GoodIn wsX11_addAtom (wsV RX11 94 RX9 yX9_query wsX9_query) := goodIn_app (goodIn_of _ (by decide +kernel)) ggX11_addAtom_X9_query
set_option maxRecDepth 20000 in
theorem ggX11_addAtom_X11_keepForUndo : GoodIn wsX11_addAtom wsX11_keepForUndo := goodIn_r _ [40, 41, 3, 42, 43, 44, 45, 46, 47, 48, 49, 50, 51, 52, 53, 54, 55, 56, 57, 33, 58, 59, 60, 61, 62, 63, 64, 65, 66, 67, 24, 68, 26, 69, 70, 71, 72, 73, 74, 75, 31, 32, 34, 35, 36, 76, 77, 78, 79, 80, 81, 82, 83, 84, 85, 86, 87, 88, 101, 102, 103, 104, 105, 106, 107, 108, 121, 122, 123, 111, 112, 113, 114, 115, 116, 117, 118, 119, 120, 124, 109, 110] (by decide +kernel) (by decide +kernel)
set_option maxRecDepth 20000 in
theorem gX11_addAtom_X11_keepForUndo : GoodIn wsX11_addAtom (wsV RX11 112 RX11 yX11_keepForUndo wsX11_keepForUndo) := goodIn_app (goodIn_of _ (by decide +kernel)) ggX11_addAtom_X11_keepForUndo
set_option maxRecDepth 20000 in
theorem ggX11_addAtom_X6_at : GoodIn wsX11_addAtom wsX6_at := goodIn_r _ [25, 26, 120] (by decide +kernel) (by decide +kernel)
set_option maxRecDepth 20000 in
theorem gX11_addAtom_X6_at : GoodIn wsX11_addAtom (wsV RX11 159 RX6 yX6_at wsX6_at) := goodIn_app (goodIn_of _ (by decide +kernel)) ggX11_addAtom_X6_at
set_option maxRecDepth 20000 in
theorem ggX11_addAtom_X1_code : GoodIn wsX11_addAtom wsX1_code := goodIn_r _ [92] (by decide +kernel) (by decide +kernel)
set_option maxRecDepth 20000 in
theorem gX11_addAtom_X1_code : GoodIn wsX11_addAtom (va_wsS RX11 77 yX1_code wsX1_code) := goodIn_app (goodIn_of _ (by decide +kernel)) ggX11_addAtom_X1_code
set_option maxRecDepth 20000 in
theorem ggX11_addAtom_X2_add : GoodIn wsX11_addAtom wsX2_add := goodIn_r _ [96, 82, 81, 97, 98, 99, 24, 100, 26, 109, 110, 120] (by decide +kernel) (by decide +kernel)
set_option maxRecDepth 20000 in
theorem gX11_addAtom_X2_add : GoodIn wsX11_addAtom (wsV RX11 90 RX2 yX2_add wsX2_add) := goodIn_app (goodIn_of _ (by decide +kernel)) ggX11_addAtom_X2_add
set_option maxRecDepth 20000 in
theorem ggX11_clearQuery_X11_needQuery : GoodIn wsX11_clearQuery wsX11_needQuery := goodIn_ca (goodIn_r _ [6, 7, 8] (by decide +kernel) (by decide +kernel)) (goodIn_sub (fun _ h => List.mem_cons_of_mem _ (List.mem_append_right _ h)) (by decide +kernel))
set_option maxRecDepth 20000 in
theorem gX11_clearQuery_X11_needQuery : GoodIn wsX11_clearQuery (wsV RX11 145 RX11 yX11_needQuery wsX11_needQuery) := goodIn_app (goodIn_of _ (by decide +kernel)) ggX11_clearQuery_X11_needQuery
set_option maxRecDepth 20000 in
theorem ggX11_clearQuery_X9_query : GoodIn wsX11_clearQuery wsX9_query := goodIn_r _ [13, 14, 15, 84, 85, 86, 87, 88, 89, 90, 91, 92] (by decide +kernel) (by decide +kernel)
set_option maxRecDepth 20000 in
theorem gX11_clearQuery_X9_query : GoodIn wsX11_clearQuery (wsV RX11 94 RX9 yX9_query wsX9_query) := goodIn_app (goodIn_of _ (by decide +kernel)) ggX11_clearQuery_X9_query
set_option maxRecDepth 20000 in
theorem ggX11_clearQuery_X11_keepForUndo : GoodIn wsX11_clearQuery wsX11_keepForUndo := goodIn_r _ [19, 20, 1, 21, 22, 23, 24, 25, 26, 27, 28, 29, 30, 31, 32, 33, 34, 35, 36, 12, 37, 38, 39, 40, 41, 42, 43, 44, 45, 46, 47, 48, 49, 50, 51, 52, 53, 54, 55, 56, 10, 11, 13, 14, 15, 57, 58, 59, 60, 61, 62, 63, 64, 65, 66, 67, 68, 69, 74, 75, 76, 77, 78, 79, 80, 81, 93, 94, 95, 84, 85, 86, 87, 88, 89, 90, 91, 92, 96, 97, 82, 83] (by decide +kernel) (by decide +kernel)
set_option maxRecDepth 20000 in
theorem gX11_clearQuery_X11_keepForUndo : GoodIn wsX11_clearQuery (wsV RX11 112 RX11 yX11_keepForUndo wsX11_keepForUndo) := goodIn_app (goodIn_of _ (by decide +kernel)) ggX11_clearQuery_X11_keepForUndo
set_option maxRecDepth 20000 in
theorem ggX11_clearQuery_X2_clear : GoodIn wsX11_clearQuery wsX2_clear := goodIn_r _ [73, 63, 82, 83] (by decide +kernel) (by decide +kernel)
set_option maxRecDepth 20000 in
theorem gX11_clearQuery_X2_clear : GoodIn wsX11_clearQuery (wsV RX11 164 RX2 yX2_clear wsX2_clear) := goodIn_app (goodIn_of _ (by decide +kernel)) ggX11_clearQuery_X2_clear
set_option maxRecDepth 20000 in
theorem ggX11_setOrder_X11_needQuery : GoodIn wsX11_setOrder wsX11_needQuery := goodIn_ca (goodIn_r _ [8, 9, 10] (by decide +kernel) (by decide +kernel)) (goodIn_sub (fun _ h => List.mem_cons_of_mem _ (List.mem_append_right _ h)) (by decide +kernel))
set_option maxRecDepth 20000 in
theorem gX11_setOrder_X11_needQuery : GoodIn wsX11_setOrder (wsV RX11 145 RX11 yX11_needQuery wsX11_needQuery) := goodIn_app (goodIn_of _ (by decide +kernel)) ggX11_setOrder_X11_needQuery
set_option maxRecDepth 20000 in
theorem ggX11_setOrder_X11_isOrder : GoodIn wsX11_setOrder wsX11_isOrder := goodIn_r _ [13, 14, 15, 7, 16] (by decide +kernel) (by decide +kernel)
set_option maxRecDepth 20000 in
theorem gX11_setOrder_X11_isOrder : GoodIn wsX11_setOrder (va_wsS RX11 167 yX11_isOrder wsX11_isOrder) := goodIn_app (goodIn_of _ (by decide +kernel)) ggX11_setOrder_X11_isOrder
set_option maxRecDepth 20000 in
theorem ggX11_setOrder_X6_at : GoodIn wsX11_setOrder wsX6_at := goodIn_r _ [21, 22, 102] (by decide +kernel) (by decide +kernel)
set_option maxRecDepth 20000 in
theorem gX11_setOrder_X6_at : GoodIn wsX11_setOrder (wsV RX11 159 RX6 yX6_at wsX6_at) := goodIn_app (goodIn_of _ (by decide +kernel)) ggX11_setOrder_X6_at
set_option maxRecDepth 20000 in
theorem ggX11_setOrder_X11_keepForUndo : GoodIn wsX11_setOrder wsX11_keepForUndo := goodIn_r _ [26, 27, 3, 28, 29, 30, 31, 32, 33, 34, 35, 36, 37, 38, 39, 40, 41, 42, 43, 44, 45, 46, 47, 48, 49, 50, 51, 52, 53, 54, 20, 55, 22, 56, 57, 58, 59, 60, 61, 62, 63, 64, 65, 66, 67, 68, 69, 70, 71, 72, 73, 74, 75, 76, 77, 78, 79, 80, 85, 86, 87, 88, 89, 90, 91, 92, 103, 104, 105, 93, 94, 95, 96, 97, 98, 99, 100, 101, 102, 106, 107, 108] (by decide +kernel) (by decide +kernel)
set_option maxRecDepth 20000 in
theorem gX11_setOrder_X11_keepForUndo : GoodIn wsX11_setOrder (wsV RX11 112 RX11 yX11_keepForUndo wsX11_keepForUndo) := goodIn_app (goodIn_of _ (by decide +kernel)) ggX11_setOrder_X11_keepForUndo
set_option maxRecDepth 20000 in
theorem ggX11_setOrder_X6_put : GoodIn wsX11_setOrder wsX6_put := goodIn_r _ [84, 22, 102] (by decide +kernel) (by decide +kernel)
set_option maxRecDepth 20000 in
theorem gX11_setOrder_X6_put : GoodIn wsX11_setOrder (wsV RX11 176 RX6 yX6_put wsX6_put) := goodIn_app (goodIn_of _ (by decide +kernel)) ggX11_setOrder_X6_put
set_option maxRecDepth 20000 in
theorem ggX11_clearIdle_X11_needQuery : GoodIn wsX11_clearIdle wsX11_needQuery := goodIn_ca (goodIn_r _ [8, 9, 10] (by decide +kernel) (by decide +kernel)) (goodIn_sub (fun _ h => List.mem_cons_of_mem _ (List.mem_append_right _ h)) (by decide +kernel))
set_option maxRecDepth 20000 in
theorem gX11_clearIdle_X11_needQuery : GoodIn wsX11_clearIdle (wsV RX11 145 RX11 yX11_needQuery wsX11_needQuery) := goodIn_app (goodIn_of _ (by decide +kernel)) ggX11_clearIdle_X11_needQuery
set_option maxRecDepth 20000 in
theorem ggX11_clearIdle_X11_needAtom : GoodIn wsX11_clearIdle wsX11_needAtom := goodIn_ca (goodIn_r _ [14, 9, 10, 2, 15, 16, 17, 18, 19, 20, 21, 335, 336, 337, 338, 339, 340, 341, 342, 352, 353, 343, 344, 345, 346, 347, 348, 349, 350, 351] (by decide +kernel) (by decide +kernel)) (goodIn_sub (fun _ h => List.mem_cons_of_mem _ (List.mem_append_right _ h)) (by decide +kernel))
set_option maxRecDepth 20000 in
theorem gX11_clearIdle_X11_needAtom : GoodIn wsX11_clearIdle (wsV RX11 179 RX11 yX11_needAtom wsX11_needAtom) := goodIn_app (goodIn_of _ (by decide +kernel)) ggX11_clearIdle_X11_needAtom
set_option maxRecDepth 20000 in
theorem ggX11_clearIdle_X4_refresh : GoodIn wsX11_clearIdle wsX4_refresh := goodIn_r _ [26, 27, 28, 29, 30, 31, 32, 33, 34, 35, 36, 25, 37, 38, 39, 40, 41, 42, 43, 44, 45, 46, 47, 48, 49, 50, 18, 51, 52, 21, 53, 54, 55, 56, 57, 58, 59, 60, 61, 62, 63, 64, 65, 66, 67, 68, 69, 70, 71, 72, 73, 74, 75, 76, 77, 78, 79, 80, 81, 82, 83, 84, 85, 86, 87, 88, 89, 90, 91, 92, 93, 94, 95, 96, 97, 98, 99, 100, 101, 102, 103, 104, 105, 106, 107, 108, 109, 110, 111, 112, 113, 114, 115, 116, 117, 118, 119, 120, 121, 122, 123, 124, 125, 126, 127, 128, 129, 130, 131, 132, 133, 134, 135, 136, 137, 138, 139, 140, 141, 142, 143, 144, 145, 146, 147, 7, 148, 149, 150, 151, 152, 153, 154, 155, 156, 157, 158, 159, 160, 161, 162, 163, 164, 165, 166, 167, 168, 169, 170, 171, 172, 173, 174, 175, 176, 177, 178, 179, 180, 181, 182, 183, 184, 185, 186, 187, 188, 189, 190, 191, 192, 193, 194, 195, 196, 197, 198, 199, 200, 201, 202, 203, 204, 205, 206, 207, 208, 209, 210, 211, 212, 213, 214, 215, 216, 217, 218, 219, 220, 221, 222, 223, 224, 225, 226, 227, 228, 229, 230, 231, 232, 233, 234, 235, 236, 237, 238, 239, 354, 355, 356, 357, 358, 359, 360, 361, 362, 343, 344, 345, 346, 347, 348, 349, 350, 351, 352, 353, 363, 364, 365, 366, 367, 368, 369, 370, 371, 372, 373, 374, 375, 376] (by decide +kernel) (by decide +kernel)
set_option maxRecDepth 20000 in
theorem gX11_clearIdle_X4_refresh : GoodIn wsX11_clearIdle (wsV RX11 182 RX4 yX4_refresh wsX4_refresh) := goodIn_app (goodIn_of _ (by decide +kernel)) ggX11_clearIdle_X4_refresh
set_option maxRecDepth 20000 in
theorem ggX11_clearIdle_X11_look : GoodIn wsX11_clearIdle wsX11_look := goodIn_r _ [243, 244, 245, 2, 1, 15, 16, 17, 18, 19, 20, 21, 246, 54, 55, 41, 56, 43, 247, 248, 249, 250, 251, 252, 253, 254, 255, 115, 46, 116, 256, 123, 124, 125, 126, 127, 128, 129, 130, 131, 132, 133, 134, 135, 136, 137, 60, 138, 103, 139, 58, 59, 61, 62, 63, 140, 72, 69, 73, 74, 141, 142, 143, 144, 145, 76, 77, 78, 146, 100, 101, 102, 104, 105, 106, 107, 147, 7, 148, 149, 150, 151, 152, 153, 154, 155, 156, 157, 158, 159, 160, 161, 162, 163, 164, 257, 166, 167, 168, 169, 170, 171, 172, 173, 174, 175, 176, 177, 178, 179, 180, 181, 182, 183, 184, 185, 186, 187, 188, 189, 190, 191, 192, 193, 194, 195, 196, 197, 198, 199, 200, 201, 202, 203, 68, 70, 204, 205, 206, 82, 207, 84, 208, 209, 210, 211, 212, 213, 214, 215, 216, 217, 218, 335, 336, 337, 338, 339, 340, 341, 342, 343, 344, 345, 346, 347, 348, 349, 350, 351, 354, 355, 356, 357, 358, 359, 360, 361, 362, 363, 377, 378, 379, 380, 365, 366, 367, 368, 369, 370, 371, 372, 373, 374, 375, 376, 352, 353, 364] (by decide +kernel) (by decide +kernel)
set_option maxRecDepth 20000 in
theorem gX11_clearIdle_X11_look : GoodIn wsX11_clearIdle (wsV RX11 186 RX11 yX11_look wsX11_look) := goodIn_app (goodIn_of _ (by decide +kernel)) ggX11_clearIdle_X11_look
set_option maxRecDepth 20000 in
theorem ggX11_clearIdle_X9_query : GoodIn wsX11_clearIdle wsX9_query := goodIn_r _ [19, 20, 21, 343, 344, 345, 346, 347, 348, 349, 350, 351] (by decide +kernel) (by decide +kernel)
set_option maxRecDepth 20000 in
theorem gX11_clearIdle_X9_query : GoodIn wsX11_clearIdle (wsV RX11 94 RX9 yX9_query wsX9_query) := goodIn_app (goodIn_of _ (by decide +kernel)) ggX11_clearIdle_X9_query
set_option maxRecDepth 20000 in
theorem ggX11_clearIdle_X2_at : GoodIn wsX11_clearIdle wsX2_at := goodIn_r _ [61, 62, 63, 54, 55, 41, 56, 43, 352, 353, 363] (by decide +kernel) (by decide +kernel)
set_option maxRecDepth 20000 in
theorem gX11_clearIdle_X2_at : GoodIn wsX11_clearIdle (wsV RX11 189 RX2 yX2_at wsX2_at) := goodIn_app (goodIn_of _ (by decide +kernel)) ggX11_clearIdle_X2_at
set_option maxRecDepth 20000 in
theorem ggX11_clearIdle_X11_markMade : GoodIn wsX11_clearIdle wsX11_markMade := goodIn_r _ [262, 3, 245, 263, 111, 112, 82, 113, 84, 114, 115, 46, 116, 264, 265, 266, 250, 267, 268, 254, 269, 270, 271, 272, 252, 273, 54, 55, 41, 56, 43, 274, 217, 69, 218, 275, 68, 70, 276, 224, 225, 226, 191, 192, 227, 201, 202, 277, 233, 234, 235, 335, 336, 337, 338, 339, 340, 341, 342, 377, 378, 379, 380, 364, 365, 366, 367, 368, 369, 370, 371, 372, 373, 374, 375, 376, 363] (by decide +kernel) (by decide +kernel)
set_option maxRecDepth 20000 in
theorem gX11_clearIdle_X11_markMade : GoodIn wsX11_clearIdle (wsV RX11 190 RX11 yX11_markMade wsX11_markMade) := goodIn_app (goodIn_of _ (by decide +kernel)) ggX11_clearIdle_X11_markMade
set_option maxRecDepth 20000 in
theorem ggX11_clearIdle_X11_keepForUndo : GoodIn wsX11_clearIdle wsX11_keepForUndo := goodIn_r _ [281, 282, 2, 244, 283, 284, 285, 286, 287, 288, 289, 290, 291, 292, 293, 294, 295, 296, 297, 18, 298, 299, 300, 301, 97, 302, 303, 304, 305, 306, 41, 307, 43, 308, 80, 81, 82, 83, 84, 309, 16, 17, 19, 20, 21, 310, 311, 312, 60, 313, 62, 103, 314, 98, 49, 50, 51, 52, 335, 336, 337, 338, 339, 340, 341, 342, 381, 382, 383, 343, 344, 345, 346, 347, 348, 349, 350, 351, 363, 364, 352, 353] (by decide +kernel) (by decide +kernel)
set_option maxRecDepth 20000 in
theorem gX11_clearIdle_X11_keepForUndo : GoodIn wsX11_clearIdle (wsV RX11 112 RX11 yX11_keepForUndo wsX11_keepForUndo) := goodIn_app (goodIn_of _ (by decide +kernel)) ggX11_clearIdle_X11_keepForUndo
set_option maxRecDepth 20000 in
theorem ggX11_clearIdle_X4_forget : GoodIn wsX11_clearIdle wsX4_forget := goodIn_r _ [318, 27, 354, 355, 356, 357, 358, 359, 360, 361, 362] (by decide +kernel) (by decide +kernel)
set_option maxRecDepth 20000 in
theorem gX11_clearIdle_X4_forget : GoodIn wsX11_clearIdle (wsV RX11 115 RX4 yX4_forget wsX4_forget) := goodIn_app (goodIn_of _ (by decide +kernel)) ggX11_clearIdle_X4_forget
