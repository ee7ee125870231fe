set_option maxRecDepth 20000 in
theorem ggX11_clearIdle_X1_table : GoodIn wsX11_clearIdle wsX1_table := goodIn_r _ [70] (by decide +kernel) (by decide +kernel)
set_option maxRecDepth 20000 in
theorem gX11_clearIdle_X1_table : GoodIn wsX11_clearIdle (va_wsS RX11 193 yX1_table wsX1_table) := goodIn_app (goodIn_of _ (by decide +kernel)) ggX11_clearIdle_X1_table
set_option maxRecDepth 20000 in
theorem ggX11_clearIdle_X7_size : GoodIn wsX11_clearIdle wsX7_size := goodIn_r _ [322, 323, 205, 206, 82, 207, 84, 324, 325, 326, 327, 328, 329, 330, 364] (by decide +kernel) (by decide +kernel)
set_option maxRecDepth 20000 in
theorem gX11_clearIdle_X7_size : GoodIn wsX11_clearIdle (wsV RX11 131 RX7 yX7_size wsX7_size) := goodIn_app (goodIn_of _ (by decide +kernel)) ggX11_clearIdle_X7_size
set_option maxRecDepth 20000 in
theorem ggX11_clearIdle_X7_keepOnly : GoodIn wsX11_clearIdle wsX7_keepOnly := goodIn_r _ [334, 84, 323, 205, 206, 82, 207, 364] (by decide +kernel) (by decide +kernel)
set_option maxRecDepth 20000 in
theorem gX11_clearIdle_X7_keepOnly : GoodIn wsX11_clearIdle (wsV RX11 196 RX7 yX7_keepOnly wsX7_keepOnly) := goodIn_app (goodIn_of _ (by decide +kernel)) ggX11_clearIdle_X7_keepOnly
set_option maxRecDepth 20000 in
theorem ggX11_addRule_X11_needTable : GoodIn wsX11_addRule wsX11_needTable := goodIn_ca (goodIn_r _ [9, 10, 11, 3, 107, 108, 109, 110, 111, 112, 113, 114, 115, 116, 117, 118, 119, 120, 121, 122, 123] (by decide +kernel) (by decide +kernel)) (goodIn_sub (fun _ h => List.mem_cons_of_mem _ (List.mem_append_left _ (List.mem_append_right _ h))) (by decide +kernel))
set_option maxRecDepth 20000 in
theorem gX11_addRule_X11_needTable : GoodIn wsX11_addRule (wsV RX11 118 RX11 yX11_needTable wsX11_needTable) := goodIn_app (goodIn_of _ (by decide +kernel)) ggX11_addRule_X11_needTable
set_option maxRecDepth 20000 in
theorem ggX11_addRule_X11_needVariables : GoodIn wsX11_addRule wsX11_needVariables := goodIn_ca (goodIn_r _ [15, 16, 17, 3, 18, 19, 20, 21, 22, 23, 24, 25, 8, 26, 107, 108, 109, 110, 111, 112, 113, 114, 115, 116, 117, 118, 119, 120, 121, 122, 123, 124] (by decide +kernel) (by decide +kernel)) (goodIn_sub (fun _ h => List.mem_cons_of_mem _ (List.mem_append_right _ h)) (by decide +kernel))
set_option maxRecDepth 20000 in
theorem gX11_addRule_X11_needVariables : GoodIn wsX11_addRule (wsV RX11 148 RX11 yX11_needVariables wsX11_needVariables) := goodIn_app (goodIn_of _ (by decide +kernel)) ggX11_addRule_X11_needVariables
set_option maxRecDepth 20000 in
theorem ggX11_addRule_X11_keepForUndo : GoodIn wsX11_addRule wsX11_keepForUndo := goodIn_r _ [30, 31, 3, 32, 33, 34, 35, 36, 37, 38, 39, 40, 41, 42, 43, 44, 45, 46, 47, 48, 49, 50, 51, 52, 53, 54, 55, 56, 57, 58, 21, 59, 23, 60, 61, 62, 63, 64, 65, 66, 67, 68, 69, 70, 71, 72, 73, 74, 75, 76, 77, 78, 79, 80, 81, 82, 83, 84, 107, 108, 109, 110, 111, 112, 113, 114, 125, 126, 127, 115, 116, 117, 118, 119, 120, 121, 122, 123, 124, 128, 129, 130] (by decide +kernel) (by decide +kernel)
set_option maxRecDepth 20000 in
theorem gX11_addRule_X11_keepForUndo : GoodIn wsX11_addRule (wsV RX11 112 RX11 yX11_keepForUndo wsX11_keepForUndo) := goodIn_app (goodIn_of _ (by decide +kernel)) ggX11_addRule_X11_keepForUndo
set_option maxRecDepth 20000 in
theorem ggX11_addRule_X4_forget : GoodIn wsX11_addRule wsX4_forget := goodIn_r _ [89, 90, 131, 132, 133, 134, 135, 136, 137, 138, 139] (by decide +kernel) (by decide +kernel)
set_option maxRecDepth 20000 in
theorem gX11_addRule_X4_forget : GoodIn wsX11_addRule (wsV RX11 115 RX4 yX4_forget wsX4_forget) := goodIn_app (goodIn_of _ (by decide +kernel)) ggX11_addRule_X4_forget
set_option maxRecDepth 20000 in
theorem ggX11_addRule_X6_at : GoodIn wsX11_addRule wsX6_at := goodIn_r _ [22, 23, 124] (by decide +kernel) (by decide +kernel)
set_option maxRecDepth 20000 in
theorem gX11_addRule_X6_at : GoodIn wsX11_addRule (wsV RX11 159 RX6 yX6_at wsX6_at) := goodIn_app (goodIn_of _ (by decide +kernel)) ggX11_addRule_X6_at
set_option maxRecDepth 20000 in
theorem ggX11_addRule_X1_code : GoodIn wsX11_addRule wsX1_code := goodIn_r _ [94] (by decide +kernel) (by decide +kernel)
set_option maxRecDepth 20000 in
theorem gX11_addRule_X1_code : GoodIn wsX11_addRule (va_wsS RX11 77 yX1_code wsX1_code) := goodIn_app (goodIn_of _ (by decide +kernel)) ggX11_addRule_X1_code
set_option maxRecDepth 20000 in
theorem ggX11_addRule_X9_openRule : GoodIn wsX11_addRule wsX9_openRule := goodIn_r _ [98, 53, 55, 99, 100, 101, 21, 102, 23, 80, 81, 82, 48, 83, 84, 71, 103, 104, 105, 75, 106, 78, 115, 116, 117, 118, 119, 120, 121, 122, 123, 124, 129, 130] (by decide +kernel) (by decide +kernel)
set_option maxRecDepth 20000 in
theorem gX11_addRule_X9_openRule : GoodIn wsX11_addRule (wsV RX11 83 RX9 yX9_openRule wsX9_openRule) := goodIn_app (goodIn_of _ (by decide +kernel)) ggX11_addRule_X9_openRule
set_option maxRecDepth 20000 in
theorem ggX11_addRuleAtom_X11_needRule : GoodIn wsX11_addRuleAtom wsX11_needRule := goodIn_ca (goodIn_r _ [9, 10, 11, 3, 145, 146, 147, 148, 149, 150, 151, 152, 155, 156, 157, 158, 159, 160, 161, 162, 163] (by decide +kernel) (by decide +kernel)) (goodIn_sub (fun _ h => List.mem_cons_of_mem _ (List.mem_append_left _ (List.mem_append_right _ h))) (by decide +kernel))
set_option maxRecDepth 20000 in
theorem gX11_addRuleAtom_X11_needRule : GoodIn wsX11_addRuleAtom (wsV RX11 205 RX11 yX11_needRule wsX11_needRule) := goodIn_app (goodIn_of _ (by decide +kernel)) ggX11_addRuleAtom_X11_needRule
set_option maxRecDepth 20000 in
theorem ggX11_addRuleAtom_X11_needTable : GoodIn wsX11_addRuleAtom wsX11_needTable := goodIn_ca (goodIn_r _ [15, 10, 11, 3, 145, 146, 147, 148, 149, 150, 151, 152, 155, 156, 157, 158, 159, 160, 161, 162, 163] (by decide +kernel) (by decide +kernel)) (goodIn_sub (fun _ h => List.mem_cons_of_mem _ (List.mem_append_left _ (List.mem_append_right _ h))) (by decide +kernel))
set_option maxRecDepth 20000 in
theorem gX11_addRuleAtom_X11_needTable : GoodIn wsX11_addRuleAtom (wsV RX11 118 RX11 yX11_needTable wsX11_needTable) := goodIn_app (goodIn_of _ (by decide +kernel)) ggX11_addRuleAtom_X11_needTable
set_option maxRecDepth 20000 in
theorem ggX11_addRuleAtom_X11_needVariables : GoodIn wsX11_addRuleAtom wsX11_needVariables := goodIn_ca (goodIn_r _ [19, 20, 21, 3, 22, 23, 24, 25, 26, 27, 28, 29, 8, 30, 145, 146, 147, 148, 149, 150, 151, 152, 155, 156, 157, 158, 159, 160, 161, 162, 163, 164] (by decide +kernel) (by decide +kernel)) (goodIn_sub (fun _ h => List.mem_cons_of_mem _ (List.mem_append_right _ h)) (by decide +kernel))
set_option maxRecDepth 20000 in
theorem gX11_addRuleAtom_X11_needVariables : GoodIn wsX11_addRuleAtom (wsV RX11 148 RX11 yX11_needVariables wsX11_needVariables) := goodIn_app (goodIn_of _ (by decide +kernel)) ggX11_addRuleAtom_X11_needVariables
set_option maxRecDepth 20000 in
theorem ggX11_addRuleAtom_X9_body : GoodIn wsX11_addRuleAtom wsX9_body := goodIn_r _ [35, 36, 37, 155, 156, 157, 158, 159, 160, 161, 162, 163] (by decide +kernel) (by decide +kernel)
set_option maxRecDepth 20000 in
theorem gX11_addRuleAtom_X9_body : GoodIn wsX11_addRuleAtom (wsV RX11 86 RX9 yX9_body wsX9_body) := goodIn_app (goodIn_of _ (by decide +kernel)) ggX11_addRuleAtom_X9_body
set_option maxRecDepth 20000 in
theorem ggX11_addRuleAtom_X6_at : GoodIn wsX11_addRuleAtom wsX6_at := goodIn_r _ [26, 27, 164] (by decide +kernel) (by decide +kernel)
set_option maxRecDepth 20000 in
theorem gX11_addRuleAtom_X6_at : GoodIn wsX11_addRuleAtom (wsV RX11 159 RX6 yX6_at wsX6_at) := goodIn_app (goodIn_of _ (by decide +kernel)) ggX11_addRuleAtom_X6_at
set_option maxRecDepth 20000 in
theorem ggX11_addRuleAtom_X1_code : GoodIn wsX11_addRuleAtom wsX1_code := goodIn_r _ [41] (by decide +kernel) (by decide +kernel)
set_option maxRecDepth 20000 in
theorem gX11_addRuleAtom_X1_code : GoodIn wsX11_addRuleAtom (va_wsS RX11 77 yX1_code wsX1_code) := goodIn_app (goodIn_of _ (by decide +kernel)) ggX11_addRuleAtom_X1_code
set_option maxRecDepth 20000 in
theorem ggX11_addRuleAtom_X1_withNot : GoodIn wsX11_addRuleAtom wsX1_withNot := goodIn_r _ [44, 45] (by decide +kernel) (by decide +kernel)
set_option maxRecDepth 20000 in
theorem gX11_addRuleAtom_X1_withNot : GoodIn wsX11_addRuleAtom (va_wsS RX11 210 yX1_withNot wsX1_withNot) := goodIn_app (goodIn_of _ (by decide +kernel)) ggX11_addRuleAtom_X1_withNot
set_option maxRecDepth 20000 in
theorem ggX11_addRuleAtom_X4_staysLayered : GoodIn wsX11_addRuleAtom wsX4_staysLayered := goodIn_r _ [50, 51, 52, 53, 49, 54, 55, 56, 57, 25, 58, 27, 59, 60, 61, 62, 63, 32, 33, 34, 35, 36, 37, 64, 23, 24, 26, 65, 66, 67, 68, 69, 70, 71, 72, 73, 74, 75, 76, 40, 77, 78, 79, 80, 45, 81, 82, 83, 84, 165, 166, 167, 168, 169, 170, 171, 172, 173, 155, 156, 157, 158, 159, 160, 161, 162, 163, 153, 154, 164] (by decide +kernel) (by decide +kernel)
set_option maxRecDepth 20000 in
theorem gX11_addRuleAtom_X4_staysLayered : GoodIn wsX11_addRuleAtom (wsV RX11 213 RX4 yX4_staysLayered wsX4_staysLayered) := goodIn_app (goodIn_of _ (by decide +kernel)) ggX11_addRuleAtom_X4_staysLayered
set_option maxRecDepth 20000 in
theorem ggX11_addRuleAtom_X11_keepForUndo : GoodIn wsX11_addRuleAtom wsX11_keepForUndo := goodIn_r _ [88, 89, 3, 90, 91, 92, 93, 94, 95, 96, 97, 98, 99, 100, 101, 102, 103, 104, 105, 34, 106, 107, 108, 109, 110, 111, 112, 113, 114, 115, 25, 116, 27, 117, 118, 119, 120, 121, 122, 123, 124, 125, 126, 127, 37, 128, 129, 130, 68, 131, 70, 132, 133, 134, 32, 33, 35, 36, 145, 146, 147, 148, 149, 150, 151, 152, 174, 175, 176, 155, 156, 157, 158, 159, 160, 161, 162, 163, 164, 177, 153, 154] (by decide +kernel) (by decide +kernel)
set_option maxRecDepth 20000 in
theorem gX11_addRuleAtom_X11_keepForUndo : GoodIn wsX11_addRuleAtom (wsV RX11 112 RX11 yX11_keepForUndo wsX11_keepForUndo) := goodIn_app (goodIn_of _ (by decide +kernel)) ggX11_addRuleAtom_X11_keepForUndo
set_option maxRecDepth 20000 in
theorem ggX11_addRuleAtom_X4_forget : GoodIn wsX11_addRuleAtom wsX4_forget := goodIn_r _ [138, 139, 165, 166, 167, 168, 169, 170, 171, 172, 173] (by decide +kernel) (by decide +kernel)
set_option maxRecDepth 20000 in
theorem gX11_addRuleAtom_X4_forget : GoodIn wsX11_addRuleAtom (wsV RX11 115 RX4 yX4_forget wsX4_forget) := goodIn_app (goodIn_of _ (by decide +kernel)) ggX11_addRuleAtom_X4_forget
set_option maxRecDepth 20000 in
theorem ggX11_addRuleAtom_X2_add : GoodIn wsX11_addRuleAtom wsX2_add := goodIn_r _ [143, 132, 70, 144, 82, 83, 25, 84, 27, 153, 154, 164] (by decide +kernel) (by decide +kernel)
set_option maxRecDepth 20000 in
theorem gX11_addRuleAtom_X2_add : GoodIn wsX11_addRuleAtom (wsV RX11 90 RX2 yX2_add wsX2_add) := goodIn_app (goodIn_of _ (by decide +kernel)) ggX11_addRuleAtom_X2_add
set_option maxRecDepth 20000 in
theorem ggX11_dropRule_X11_needRule : GoodIn wsX11_dropRule wsX11_needRule := goodIn_ca (goodIn_r _ [7, 8, 9, 2, 88, 89, 90, 91, 92, 93, 94, 95, 96, 97, 98, 99, 100, 101, 102, 103, 104] (by decide +kernel) (by decide +kernel)) (goodIn_sub (fun _ h => List.mem_cons_of_mem _ (List.mem_append_right _ h)) (by decide +kernel))
set_option maxRecDepth 20000 in
theorem gX11_dropRule_X11_needRule : GoodIn wsX11_dropRule (wsV RX11 205 RX11 yX11_needRule wsX11_needRule) := goodIn_app (goodIn_of _ (by decide +kernel)) ggX11_dropRule_X11_needRule
set_option maxRecDepth 20000 in
theorem ggX11_dropRule_X11_keepForUndo : GoodIn wsX11_dropRule wsX11_keepForUndo := goodIn_r _ [13, 14, 2, 15, 16, 17, 18, 19, 20, 21, 22, 23, 24, 25, 26, 27, 28, 29, 30, 31, 32, 33, 34, 35, 36, 37, 38, 39, 40, 41, 42, 43, 44, 45, 46, 47, 48, 49, 50, 51, 52, 53, 54, 55, 56, 57, 58, 59, 60, 61, 62, 63, 64, 65, 66, 67, 68, 69, 88, 89, 90, 91, 92, 93, 94, 95, 105, 106, 107, 96, 97, 98, 99, 100, 101, 102, 103, 104, 108, 109, 110, 111] (by decide +kernel) (by decide +kernel)
set_option maxRecDepth 20000 in
theorem gX11_dropRule_X11_keepForUndo : GoodIn wsX11_dropRule (wsV RX11 112 RX11 yX11_keepForUndo wsX11_keepForUndo) := goodIn_app (goodIn_of _ (by decide +kernel)) ggX11_dropRule_X11_keepForUndo
set_option maxRecDepth 20000 in
theorem ggX11_dropRule_X4_forget : GoodIn wsX11_dropRule wsX4_forget := goodIn_r _ [74, 75, 112, 113, 114, 115, 116, 117, 118, 119, 120] (by decide +kernel) (by decide +kernel)
set_option maxRecDepth 20000 in
theorem gX11_dropRule_X4_forget : GoodIn wsX11_dropRule (wsV RX11 115 RX4 yX4_forget wsX4_forget) := goodIn_app (goodIn_of _ (by decide +kernel)) ggX11_dropRule_X4_forget
set_option maxRecDepth 20000 in
theorem ggX11_dropRule_X9_closeRule : GoodIn wsX11_dropRule wsX9_closeRule := goodIn_r _ [79, 38, 36, 80, 81, 82, 42, 83, 44, 84, 85, 86, 87, 65, 66, 67, 31, 68, 69, 56, 57, 58, 59, 60, 61, 62, 63, 64, 40, 41, 43, 96, 97, 98, 99, 100, 101, 102, 103, 104, 108, 110, 111] (by decide +kernel) (by decide +kernel)
set_option maxRecDepth 20000 in
theorem gX11_dropRule_X9_closeRule : GoodIn wsX11_dropRule (wsV RX11 219 RX9 yX9_closeRule wsX9_closeRule) := goodIn_app (goodIn_of _ (by decide +kernel)) ggX11_dropRule_X9_closeRule
set_option maxRecDepth 20000 in
theorem ggX11_undo_X5_bringBack : GoodIn wsX11_undo wsX5_bringBack := goodIn_r _ [9, 10, 11, 12, 13, 14, 8, 15, 16, 17, 18, 19, 20, 21, 22, 23, 24, 25, 26, 27, 28, 29, 30, 31, 32, 33, 34, 35, 36, 37, 38, 39, 40, 41, 42, 43, 44, 45, 46, 47, 48, 49, 50, 51, 52, 53, 54, 55, 56, 57, 58, 73, 74, 75, 76, 77, 78, 79, 80, 81, 82, 83, 84, 85, 86, 87, 88] (by decide +kernel) (by decide +kernel)
set_option maxRecDepth 20000 in
theorem gX11_undo_X5_bringBack : GoodIn wsX11_undo (wsV RX11 225 RX5 yX5_bringBack wsX5_bringBack) := goodIn_app (goodIn_of _ (by decide +kernel)) ggX11_undo_X5_bringBack
set_option maxRecDepth 20000 in
theorem ggX11_undo_X4_forget : GoodIn wsX11_undo wsX4_forget := goodIn_r _ [63, 64, 89, 90, 91, 92, 93, 94, 95, 96, 97] (by decide +kernel) (by decide +kernel)
set_option maxRecDepth 20000 in
theorem gX11_undo_X4_forget : GoodIn wsX11_undo (wsV RX11 115 RX4 yX4_forget wsX4_forget) := goodIn_app (goodIn_of _ (by decide +kernel)) ggX11_undo_X4_forget
set_option maxRecDepth 20000 in
theorem ggX11_columns_X11_needTable : GoodIn wsX11_columns wsX11_needTable := goodIn_ca (goodIn_r _ [6, 7, 8, 1, 15, 16, 17, 18, 19, 20, 21, 22, 23, 24, 25, 26, 27, 28, 29, 30, 31] (by decide +kernel) (by decide +kernel)) (goodIn_sub (fun _ h => List.mem_cons_of_mem _ (List.mem_append_right _ h)) (by decide +kernel))
set_option maxRecDepth 20000 in
theorem gX11_columns_X11_needTable : GoodIn wsX11_columns (wsV RX11 118 RX11 yX11_needTable wsX11_needTable) := goodIn_app (goodIn_of _ (by decide +kernel)) ggX11_columns_X11_needTable
set_option maxRecDepth 20000 in
theorem ggX11_columns_X6_at : GoodIn wsX11_columns wsX6_at := goodIn_r _ [13, 14, 32] (by decide +kernel) (by decide +kernel)
set_option maxRecDepth 20000 in
theorem gX11_columns_X6_at : GoodIn wsX11_columns (wsV RX11 159 RX6 yX6_at wsX6_at) := goodIn_app (goodIn_of _ (by decide +kernel)) ggX11_columns_X6_at
set_option maxRecDepth 20000 in
theorem ggX11_factCount_X11_needTable : GoodIn wsX11_factCount wsX11_needTable := goodIn_ca (goodIn_r _ [6, 7, 8, 1, 26, 27, 28, 29, 30, 31, 32, 33, 34, 35, 36, 37, 38, 39, 40, 41, 42] (by decide +kernel) (by decide +kernel)) (goodIn_sub (fun _ h => List.mem_cons_of_mem _ (List.mem_append_right _ h)) (by decide +kernel))
set_option maxRecDepth 20000 in
theorem gX11_factCount_X11_needTable : GoodIn wsX11_factCount (wsV RX11 118 RX11 yX11_needTable wsX11_needTable) := goodIn_app (goodIn_of _ (by decide +kernel)) ggX11_factCount_X11_needTable
set_option maxRecDepth 20000 in
theorem ggX11_factCount_X7_size : GoodIn wsX11_factCount wsX7_size := goodIn_r _ [13, 14, 15, 16, 12, 17, 18, 19, 20, 21, 22, 23, 24, 25, 43] (by decide +kernel) (by decide +kernel)
set_option maxRecDepth 20000 in
theorem gX11_factCount_X7_size : GoodIn wsX11_factCount (wsV RX11 131 RX7 yX7_size wsX7_size) := goodIn_app (goodIn_of _ (by decide +kernel)) ggX11_factCount_X7_size
set_option maxRecDepth 20000 in
theorem ggX11_rowCount_X11_needTable : GoodIn wsX11_rowCount wsX11_needTable := goodIn_ca (goodIn_r _ [7, 8, 9, 2, 242, 243, 244, 245, 246, 247, 248, 249, 259, 260, 261, 262, 263, 264, 265, 266, 267] (by decide +kernel) (by decide +kernel)) (goodIn_sub (fun _ h => List.mem_cons_of_mem _ (List.mem_append_right _ h)) (by decide +kernel))
set_option maxRecDepth 20000 in
theorem gX11_rowCount_X11_needTable : GoodIn wsX11_rowCount (wsV RX11 118 RX11 yX11_needTable wsX11_needTable) := goodIn_app (goodIn_of _ (by decide +kernel)) ggX11_rowCount_X11_needTable
set_option maxRecDepth 20000 in
theorem ggX11_rowCount_X4_refresh : GoodIn wsX11_rowCount wsX4_refresh := goodIn_r _ [14, 15, 16, 17, 18, 19, 20, 21, 22, 23, 24, 13, 25, 26, 27, 28, 29, 30, 31, 32, 33, 34, 35, 36, 37, 38, 39, 40, 41, 42, 43, 44, 45, 46, 47, 48, 49, 50, 51, 52, 53, 54, 55, 56, 57, 58, 59, 60, 61, 62, 63, 64, 65, 66, 67, 68, 69, 70, 71, 72, 73, 74, 75, 76, 77, 78, 79, 80, 81, 82, 83, 84, 85, 86, 87, 88, 89, 90, 91, 92, 93, 94, 95, 96, 97, 98, 99, 100, 101, 102, 103, 104, 105, 106, 107, 108, 109, 110, 111, 112, 113, 114, 115, 116, 117, 118, 119, 120, 121, 122, 123, 124, 125, 126, 127, 128, 129, 130, 131, 132, 133, 134, 135, 136, 137, 6, 138, 139, 140, 141, 142, 143, 144, 145, 146, 147, 148, 149, 150, 151, 152, 153, 154, 155, 156, 157, 158, 159, 160, 161, 162, 163, 164, 165, 166, 167, 168, 169, 170, 171, 172, 173, 174, 175, 176, 177, 178, 179, 180, 181, 182, 183, 184, 185, 186, 187, 188, 189, 190, 191, 192, 193, 194, 195, 196, 197, 198, 199, 200, 201, 202, 203, 204, 205, 206, 207, 208, 209, 210, 211, 212, 213, 214, 215, 216, 217, 218, 219, 220, 221, 222, 223, 224, 225, 226, 227, 228, 229, 250, 251, 252, 253, 254, 255, 256, 257, 258, 259, 260, 261, 262, 263, 264, 265, 266, 267, 268, 269, 270, 271, 272, 273, 274, 275, 276, 277, 278, 279, 280, 281, 282, 283] (by decide +kernel) (by decide +kernel)
set_option maxRecDepth 20000 in
theorem gX11_rowCount_X4_refresh : GoodIn wsX11_rowCount (wsV RX11 182 RX4 yX4_refresh wsX4_refresh) := goodIn_app (goodIn_of _ (by decide +kernel)) ggX11_rowCount_X4_refresh
set_option maxRecDepth 20000 in
theorem ggX11_rowCount_X7_size : GoodIn wsX11_rowCount wsX7_size := goodIn_r _ [233, 234, 195, 196, 72, 197, 74, 235, 236, 237, 238, 239, 240, 241, 271] (by decide +kernel) (by decide +kernel)
set_option maxRecDepth 20000 in
theorem gX11_rowCount_X7_size : GoodIn wsX11_rowCount (wsV RX11 131 RX7 yX7_size wsX7_size) := goodIn_app (goodIn_of _ (by decide +kernel)) ggX11_rowCount_X7_size
set_option maxRecDepth 20000 in
theorem ggX11_isFact_X11_needTable : GoodIn wsX11_isFact wsX11_needTable := goodIn_ca (goodIn_r _ [6, 7, 8, 1, 33, 34, 35, 36, 37, 38, 39, 40, 41, 42, 43, 44, 45, 46, 47, 48, 49] (by decide +kernel) (by decide +kernel)) (goodIn_sub (fun _ h => List.mem_cons_of_mem _ (List.mem_append_left _ (List.mem_append_right _ h))) (by decide +kernel))
set_option maxRecDepth 20000 in
theorem gX11_isFact_X11_needTable : GoodIn wsX11_isFact (wsV RX11 118 RX11 yX11_needTable wsX11_needTable) := goodIn_app (goodIn_of _ (by decide +kernel)) ggX11_isFact_X11_needTable
set_option maxRecDepth 20000 in
theorem ggX11_isFact_X11_needRow : GoodIn wsX11_isFact wsX11_needRow := goodIn_ca (goodIn_r _ [12, 13, 14, 1, 15, 16, 17, 18, 19, 20, 21, 22, 5, 23, 33, 34, 35, 36, 37, 38, 39, 40, 41, 42, 43, 44, 45, 46, 47, 48, 49, 50] (by decide +kernel) (by decide +kernel)) (goodIn_sub (fun _ h => List.mem_cons_of_mem _ (List.mem_append_right _ h)) (by decide +kernel))
set_option maxRecDepth 20000 in
theorem gX11_isFact_X11_needRow : GoodIn wsX11_isFact (wsV RX11 121 RX11 yX11_needRow wsX11_needRow) := goodIn_app (goodIn_of _ (by decide +kernel)) ggX11_isFact_X11_needRow
set_option maxRecDepth 20000 in
theorem ggX11_isFact_X11_rowOf : GoodIn wsX11_isFact wsX11_rowOf := goodIn_r _ [26] (by decide +kernel) (by decide +kernel)
set_option maxRecDepth 20000 in
theorem gX11_isFact_X11_rowOf : GoodIn wsX11_isFact (va_wsS RX11 69 yX11_rowOf wsX11_rowOf) := goodIn_app (goodIn_of _ (by decide +kernel)) ggX11_isFact_X11_rowOf
set_option maxRecDepth 20000 in
theorem ggX11_isFact_X7_has : GoodIn wsX11_isFact wsX7_has := goodIn_r _ [31, 32, 51] (by decide +kernel) (by decide +kernel)
set_option maxRecDepth 20000 in
theorem gX11_isFact_X7_has : GoodIn wsX11_isFact (wsV RX11 125 RX7 yX7_has wsX7_has) := goodIn_app (goodIn_of _ (by decide +kernel)) ggX11_isFact_X7_has
set_option maxRecDepth 20000 in
theorem ggX11_reasons_X11_needTable : GoodIn wsX11_reasons wsX11_needTable := goodIn_ca (goodIn_r _ [7, 8, 9, 2, 247, 248, 249, 250, 251, 252, 253, 254, 255, 256, 257, 258, 259, 260, 261, 262, 263] (by decide +kernel) (by decide +kernel)) (goodIn_sub (fun _ h => List.mem_cons_of_mem _ (List.mem_append_left _ (List.mem_append_right _ h))) (by decide +kernel))
set_option maxRecDepth 20000 in
theorem gX11_reasons_X11_needTable : GoodIn wsX11_reasons (wsV RX11 118 RX11 yX11_needTable wsX11_needTable) := goodIn_app (goodIn_of _ (by decide +kernel)) ggX11_reasons_X11_needTable
set_option maxRecDepth 20000 in
theorem ggX11_reasons_X11_needRow : GoodIn wsX11_reasons wsX11_needRow := goodIn_ca (goodIn_r _ [13, 14, 15, 2, 16, 17, 18, 19, 20, 21, 22, 23, 6, 24, 247, 248, 249, 250, 251, 252, 253, 254, 255, 256, 257, 258, 259, 260, 261, 262, 263, 264] (by decide +kernel) (by decide +kernel)) (goodIn_sub (fun _ h => List.mem_cons_of_mem _ (List.mem_append_right _ h)) (by decide +kernel))
set_option maxRecDepth 20000 in
theorem gX11_reasons_X11_needRow : GoodIn wsX11_reasons (wsV RX11 121 RX11 yX11_needRow wsX11_needRow) := goodIn_app (goodIn_of _ (by decide +kernel)) ggX11_reasons_X11_needRow
set_option maxRecDepth 20000 in
theorem ggX11_reasons_X4_refresh : GoodIn wsX11_reasons wsX4_refresh := goodIn_r _ [29, 30, 31, 32, 33, 34, 35, 36, 37, 38, 39, 28, 40, 41, 42, 43, 19, 44, 21, 45, 46, 47, 48, 49, 50, 51, 52, 53, 54, 55, 56, 17, 18, 20, 57, 58, 59, 60, 61, 62, 63, 64, 65, 66, 67, 68, 69, 70, 71, 72, 73, 74, 75, 76, 77, 78, 79, 80, 81, 82, 83, 84, 85, 86, 87, 88, 89, 90, 91, 92, 93, 94, 95, 96, 97, 98, 99, 100, 101, 102, 103, 104, 105, 106, 107, 108, 109, 110, 111, 112, 113, 114, 115, 116, 117, 118, 119, 120, 121, 122, 123, 124, 125, 126, 127, 128, 129, 130, 131, 132, 133, 134, 135, 136, 137, 138, 139, 140, 141, 142, 143, 144, 145, 146, 147, 6, 148, 149, 150, 151, 152, 153, 154, 155, 156, 157, 158, 159, 160, 161, 162, 163, 164, 165, 166, 167, 168, 169, 170, 171, 172, 173, 174, 175, 176, 177, 178, 179, 180, 181, 182, 183, 184, 185, 186, 187, 188, 189, 190, 191, 192, 193, 194, 195, 196, 197, 198, 199, 200, 201, 202, 203, 204, 205, 206, 207, 208, 209, 210, 211, 212, 213, 214, 215, 216, 217, 218, 219, 220, 221, 222, 223, 224, 225, 226, 227, 228, 229, 230, 231, 232, 233, 234, 235, 236, 237, 238, 239, 265, 266, 267, 268, 269, 270, 271, 272, 273, 255, 256, 257, 258, 259, 260, 261, 262, 263, 274, 275, 264, 276, 277, 278, 279, 280, 281, 282, 283, 284, 285, 286, 287, 288] (by decide +kernel) (by decide +kernel)
set_option maxRecDepth 20000 in
theorem gX11_reasons_X4_refresh : GoodIn wsX11_reasons (wsV RX11 182 RX4 yX4_refresh wsX4_refresh) := goodIn_app (goodIn_of _ (by decide +kernel)) ggX11_reasons_X4_refresh
set_option maxRecDepth 20000 in
theorem ggX11_reasons_X11_rowOf : GoodIn wsX11_reasons wsX11_rowOf := goodIn_r _ [242] (by decide +kernel) (by decide +kernel)
set_option maxRecDepth 20000 in
theorem gX11_reasons_X11_rowOf : GoodIn wsX11_reasons (va_wsS RX11 69 yX11_rowOf wsX11_rowOf) := goodIn_app (goodIn_of _ (by decide +kernel)) ggX11_reasons_X11_rowOf
set_option maxRecDepth 20000 in
theorem ggX11_reasons_X4_reasonsOf : GoodIn wsX11_reasons wsX4_reasonsOf := goodIn_r _ [246, 37, 56, 17, 18, 19, 20, 21, 228, 229, 230, 82, 231, 84, 265, 266, 267, 268, 269, 270, 271, 272, 273, 255, 256, 257, 258, 259, 260, 261, 262, 263, 264, 276] (by decide +kernel) (by decide +kernel)
set_option maxRecDepth 20000 in
theorem gX11_reasons_X4_reasonsOf : GoodIn wsX11_reasons (wsV RX11 231 RX4 yX4_reasonsOf wsX4_reasonsOf) := goodIn_app (goodIn_of _ (by decide +kernel)) ggX11_reasons_X4_reasonsOf
set_option maxRecDepth 20000 in
theorem ggX11_rowAt_X11_needTable : GoodIn wsX11_rowAt wsX11_needTable := goodIn_ca (goodIn_r _ [9, 1, 2, 4, 255, 256, 257, 258, 259, 260, 261, 262, 272, 273, 274, 275, 276, 277, 278, 279, 280] (by decide +kernel) (by decide +kernel)) (goodIn_sub (fun _ h => List.mem_cons_of_mem _ (List.mem_append_right _ h)) (by decide +kernel))
set_option maxRecDepth 20000 in
theorem gX11_rowAt_X11_needTable : GoodIn wsX11_rowAt (wsV RX11 118 RX11 yX11_needTable wsX11_needTable) := goodIn_app (goodIn_of _ (by decide +kernel)) ggX11_rowAt_X11_needTable
set_option maxRecDepth 20000 in
theorem ggX11_rowAt_X11_needColumn : GoodIn wsX11_rowAt wsX11_needColumn := goodIn_ca (goodIn_r _ [13, 1, 2, 4, 14, 15, 16, 17, 18, 19, 255, 256, 257, 258, 259, 260, 261, 262, 272, 273, 274, 275, 276, 277, 278, 279, 280, 281] (by decide +kernel) (by decide +kernel)) (goodIn_sub (fun _ h => List.mem_cons_of_mem _ (List.mem_append_right _ h)) (by decide +kernel))
set_option maxRecDepth 20000 in
theorem gX11_rowAt_X11_needColumn : GoodIn wsX11_rowAt (wsV RX11 235 RX11 yX11_needColumn wsX11_needColumn) := goodIn_app (goodIn_of _ (by decide +kernel)) ggX11_rowAt_X11_needColumn
set_option maxRecDepth 20000 in
theorem ggX11_rowAt_X4_refresh : GoodIn wsX11_rowAt wsX4_refresh := goodIn_r _ [24, 25, 26, 27, 28, 29, 30, 31, 32, 33, 34, 23, 35, 36, 37, 38, 17, 39, 19, 40, 41, 42, 43, 44, 45, 46, 47, 48, 49, 50, 51, 15, 16, 18, 52, 53, 54, 55, 56, 57, 58, 59, 60, 61, 62, 63, 64, 65, 66, 67, 68, 69, 70, 71, 72, 73, 74, 75, 76, 77, 78, 79, 80, 81, 82, 83, 84, 85, 86, 87, 88, 89, 90, 91, 92, 93, 94, 95, 96, 97, 98, 99, 100, 101, 102, 103, 104, 105, 106, 107, 108, 109, 110, 111, 112, 113, 114, 115, 116, 117, 118, 119, 120, 121, 122, 123, 124, 125, 126, 127, 128, 129, 130, 131, 132, 133, 134, 135, 136, 137, 138, 139, 140, 141, 142, 8, 143, 144, 145, 146, 147, 148, 149, 150, 151, 152, 153, 154, 155, 156, 157, 158, 159, 160, 161, 162, 163, 164, 165, 166, 167, 168, 169, 170, 171, 172, 173, 174, 175, 176, 177, 178, 179, 180, 181, 182, 183, 184, 185, 186, 187, 188, 189, 190, 191, 192, 193, 194, 195, 196, 197, 198, 199, 200, 201, 202, 203, 204, 205, 206, 207, 208, 209, 210, 211, 212, 213, 214, 215, 216, 217, 218, 219, 220, 221, 222, 223, 224, 225, 226, 227, 228, 229, 230, 231, 232, 233, 234, 263, 264, 265, 266, 267, 268, 269, 270, 271, 272, 273, 274, 275, 276, 277, 278, 279, 280, 282, 283, 281, 284, 285, 286, 287, 288, 289, 290, 291, 292, 293, 294, 295, 296] (by decide +kernel) (by decide +kernel)
set_option maxRecDepth 20000 in
theorem gX11_rowAt_X4_refresh : GoodIn wsX11_rowAt (wsV RX11 182 RX4 yX4_refresh wsX4_refresh) := goodIn_app (goodIn_of _ (by decide +kernel)) ggX11_rowAt_X4_refresh
set_option maxRecDepth 20000 in
theorem ggX11_rowAt_X7_size : GoodIn wsX11_rowAt wsX7_size := goodIn_r _ [238, 239, 200, 201, 77, 202, 79, 240, 241, 242, 243, 244, 245, 246, 284] (by decide +kernel) (by decide +kernel)
set_option maxRecDepth 20000 in
theorem gX11_rowAt_X7_size : GoodIn wsX11_rowAt (wsV RX11 131 RX7 yX7_size wsX7_size) := goodIn_app (goodIn_of _ (by decide +kernel)) ggX11_rowAt_X7_size
set_option maxRecDepth 20000 in
theorem ggX11_rowAt_X7_numbered : GoodIn wsX11_rowAt wsX7_numbered := goodIn_r _ [250, 251, 224, 225, 77, 226, 79, 284] (by decide +kernel) (by decide +kernel)
set_option maxRecDepth 20000 in
theorem gX11_rowAt_X7_numbered : GoodIn wsX11_rowAt (wsV RX11 243 RX7 yX7_numbered wsX7_numbered) := goodIn_app (goodIn_of _ (by decide +kernel)) ggX11_rowAt_X7_numbered
set_option maxRecDepth 20000 in
theorem ggX11_rowAt_X11_valueIn : GoodIn wsX11_rowAt wsX11_valueIn := goodIn_r _ [254] (by decide +kernel) (by decide +kernel)
set_option maxRecDepth 20000 in
theorem gX11_rowAt_X11_valueIn : GoodIn wsX11_rowAt (va_wsS RX11 247 yX11_valueIn wsX11_valueIn) := goodIn_app (goodIn_of _ (by decide +kernel)) ggX11_rowAt_X11_valueIn
set_option maxRecDepth 20000 in
theorem ggX11_firstFrom_X11_needTable : GoodIn wsX11_firstFrom wsX11_needTable := goodIn_ca (goodIn_r _ [9, 10, 11, 4, 262, 263, 264, 265, 266, 267, 268, 269, 279, 280, 281, 282, 283, 284, 285, 286, 287] (by decide +kernel) (by decide +kernel)) (goodIn_sub (fun _ h => List.mem_cons_of_mem _ (List.mem_append_left _ (List.mem_append_right _ h))) (by decide +kernel))
set_option maxRecDepth 20000 in
theorem gX11_firstFrom_X11_needTable : GoodIn wsX11_firstFrom (wsV RX11 118 RX11 yX11_needTable wsX11_needTable) := goodIn_app (goodIn_of _ (by decide +kernel)) ggX11_firstFrom_X11_needTable
set_option maxRecDepth 20000 in
theorem ggX11_firstFrom_X11_needRow : GoodIn wsX11_firstFrom wsX11_needRow := goodIn_ca (goodIn_r _ [15, 16, 17, 4, 18, 19, 20, 21, 22, 23, 24, 25, 8, 26, 262, 263, 264, 265, 266, 267, 268, 269, 279, 280, 281, 282, 283, 284, 285, 286, 287, 288] (by decide +kernel) (by decide +kernel)) (goodIn_sub (fun _ h => List.mem_cons_of_mem _ (List.mem_append_right _ h)) (by decide +kernel))
set_option maxRecDepth 20000 in
theorem gX11_firstFrom_X11_needRow : GoodIn wsX11_firstFrom (wsV RX11 121 RX11 yX11_needRow wsX11_needRow) := goodIn_app (goodIn_of _ (by decide +kernel)) ggX11_firstFrom_X11_needRow
set_option maxRecDepth 20000 in
theorem ggX11_firstFrom_X4_refresh : GoodIn wsX11_firstFrom wsX4_refresh := goodIn_r _ [31, 32, 33, 34, 35, 36, 37, 38, 39, 40, 41, 30, 42, 43, 44, 45, 21, 46, 23, 47, 48, 49, 50, 51, 52, 53, 54, 55, 56, 57, 58, 19, 20, 22, 59, 60, 61, 62, 63, 64, 65, 66, 67, 68, 69, 70, 71, 72, 73, 74, 75, 76, 77, 78, 79, 80, 81, 82, 83, 84, 85, 86, 87, 88, 89, 90, 91, 92, 93, 94, 95, 96, 97, 98, 99, 100, 101, 102, 103, 104, 105, 106, 107, 108, 109, 110, 111, 112, 113, 114, 115, 116, 117, 118, 119, 120, 121, 122, 123, 124, 125, 126, 127, 128, 129, 130, 131, 132, 133, 134, 135, 136, 137, 138, 139, 140, 141, 142, 143, 144, 145, 146, 147, 148, 149, 8, 150, 151, 152, 153, 154, 155, 156, 157, 158, 159, 160, 161, 162, 163, 164, 165, 166, 167, 168, 169, 170, 171, 172, 173, 174, 175, 176, 177, 178, 179, 180, 181, 182, 183, 184, 185, 186, 187, 188, 189, 190, 191, 192, 193, 194, 195, 196, 197, 198, 199, 200, 201, 202, 203, 204, 205, 206, 207, 208, 209, 210, 211, 212, 213, 214, 215, 216, 217, 218, 219, 220, 221, 222, 223, 224, 225, 226, 227, 228, 229, 230, 231, 232, 233, 234, 235, 236, 237, 238, 239, 240, 241, 270, 271, 272, 273, 274, 275, 276, 277, 278, 279, 280, 281, 282, 283, 284, 285, 286, 287, 289, 290, 288, 291, 292, 293, 294, 295, 296, 297, 298, 299, 300, 301, 302, 303] (by decide +kernel) (by decide +kernel)
set_option maxRecDepth 20000 in
theorem gX11_firstFrom_X4_refresh : GoodIn wsX11_firstFrom (wsV RX11 182 RX4 yX4_refresh wsX4_refresh) := goodIn_app (goodIn_of _ (by decide +kernel)) ggX11_firstFrom_X4_refresh
set_option maxRecDepth 20000 in
theorem ggX11_firstFrom_X11_rowOf : GoodIn wsX11_firstFrom wsX11_rowOf := goodIn_r _ [244] (by decide +kernel) (by decide +kernel)
set_option maxRecDepth 20000 in
theorem gX11_firstFrom_X11_rowOf : GoodIn wsX11_firstFrom (va_wsS RX11 69 yX11_rowOf wsX11_rowOf) := goodIn_app (goodIn_of _ (by decide +kernel)) ggX11_firstFrom_X11_rowOf
set_option maxRecDepth 20000 in
theorem ggX11_firstFrom_X7_below : GoodIn wsX11_firstFrom wsX7_below := goodIn_r _ [248, 249, 231, 232, 84, 233, 86, 291] (by decide +kernel) (by decide +kernel)
set_option maxRecDepth 20000 in
theorem gX11_firstFrom_X7_below : GoodIn wsX11_firstFrom (wsV RX11 250 RX7 yX7_below wsX7_below) := goodIn_app (goodIn_of _ (by decide +kernel)) ggX11_firstFrom_X7_below
set_option maxRecDepth 20000 in
theorem ggX11_firstFrom_X7_size : GoodIn wsX11_firstFrom wsX7_size := goodIn_r _ [253, 254, 207, 208, 84, 209, 86, 255, 256, 257, 258, 259, 260, 261, 291] (by decide +kernel) (by decide +kernel)
set_option maxRecDepth 20000 in
theorem gX11_firstFrom_X7_size : GoodIn wsX11_firstFrom (wsV RX11 131 RX7 yX7_size wsX7_size) := goodIn_app (goodIn_of _ (by decide +kernel)) ggX11_firstFrom_X7_size
set_option maxRecDepth 20000 in
theorem ggX11_values_X11_needTable : GoodIn wsX11_values wsX11_needTable := goodIn_ca (goodIn_r _ [7, 8, 9, 2, 246, 247, 248, 249, 250, 251, 252, 253, 263, 264, 265, 266, 267, 268, 269, 270, 271] (by decide +kernel) (by decide +kernel)) (goodIn_sub (fun _ h => List.mem_cons_of_mem _ (List.mem_append_right _ h)) (by decide +kernel))
set_option maxRecDepth 20000 in
theorem gX11_values_X11_needTable : GoodIn wsX11_values (wsV RX11 118 RX11 yX11_needTable wsX11_needTable) := goodIn_app (goodIn_of _ (by decide +kernel)) ggX11_values_X11_needTable
set_option maxRecDepth 20000 in
theorem ggX11_values_X11_needColumn : GoodIn wsX11_values wsX11_needColumn := goodIn_ca (goodIn_r _ [13, 8, 9, 2, 14, 15, 16, 17, 18, 19, 246, 247, 248, 249, 250, 251, 252, 253, 263, 264, 265, 266, 267, 268, 269, 270, 271, 272] (by decide +kernel) (by decide +kernel)) (goodIn_sub (fun _ h => List.mem_cons_of_mem _ (List.mem_append_right _ h)) (by decide +kernel))
set_option maxRecDepth 20000 in
theorem gX11_values_X11_needColumn : GoodIn wsX11_values (wsV RX11 235 RX11 yX11_needColumn wsX11_needColumn) := goodIn_app (goodIn_of _ (by decide +kernel)) ggX11_values_X11_needColumn
set_option maxRecDepth 20000 in
theorem ggX11_values_X4_refresh : GoodIn wsX11_values wsX4_refresh := goodIn_r _ [24, 25, 26, 27, 28, 29, 30, 31, 32, 33, 34, 23, 35, 36, 37, 38, 17, 39, 19, 40, 41, 42, 43, 44, 45, 46, 47, 48, 49, 50, 51, 15, 16, 18, 52, 53, 54, 55, 56, 57, 58, 59, 60, 61, 62, 63, 64, 65, 66, 67, 68, 69, 70, 71, 72, 73, 74, 75, 76, 77, 78, 79, 80, 81, 82, 83, 84, 85, 86, 87, 88, 89, 90, 91, 92, 93, 94, 95, 96, 97, 98, 99, 100, 101, 102, 103, 104, 105, 106, 107, 108, 109, 110, 111, 112, 113, 114, 115, 116, 117, 118, 119, 120, 121, 122, 123, 124, 125, 126, 127, 128, 129, 130, 131, 132, 133, 134, 135, 136, 137, 138, 139, 140, 141, 142, 6, 143, 144, 145, 146, 147, 148, 149, 150, 151, 152, 153, 154, 155, 156, 157, 158, 159, 160, 161, 162, 163, 164, 165, 166, 167, 168, 169, 170, 171, 172, 173, 174, 175, 176, 177, 178, 179, 180, 181, 182, 183, 184, 185, 186, 187, 188, 189, 190, 191, 192, 193, 194, 195, 196, 197, 198, 199, 200, 201, 202, 203, 204, 205, 206, 207, 208, 209, 210, 211, 212, 213, 214, 215, 216, 217, 218, 219, 220, 221, 222, 223, 224, 225, 226, 227, 228, 229, 230, 231, 232, 233, 234, 254, 255, 256, 257, 258, 259, 260, 261, 262, 263, 264, 265, 266, 267, 268, 269, 270, 271, 273, 274, 272, 275, 276, 277, 278, 279, 280, 281, 282, 283, 284, 285, 286, 287] (by decide +kernel) (by decide +kernel)
set_option maxRecDepth 20000 in
theorem gX11_values_X4_refresh : GoodIn wsX11_values (wsV RX11 182 RX4 yX4_refresh wsX4_refresh) := goodIn_app (goodIn_of _ (by decide +kernel)) ggX11_values_X4_refresh
set_option maxRecDepth 20000 in
theorem ggX11_values_X7_has : GoodIn wsX11_values wsX7_has := goodIn_r _ [226, 79, 275] (by decide +kernel) (by decide +kernel)
set_option maxRecDepth 20000 in
theorem gX11_values_X7_has : GoodIn wsX11_values (wsV RX11 125 RX7 yX7_has wsX7_has) := goodIn_app (goodIn_of _ (by decide +kernel)) ggX11_values_X7_has
set_option maxRecDepth 20000 in
theorem ggX11_values_X11_valueIn : GoodIn wsX11_values wsX11_valueIn := goodIn_r _ [238] (by decide +kernel) (by decide +kernel)
set_option maxRecDepth 20000 in
theorem gX11_values_X11_valueIn : GoodIn wsX11_values (va_wsS RX11 247 yX11_valueIn wsX11_valueIn) := goodIn_app (goodIn_of _ (by decide +kernel)) ggX11_values_X11_valueIn
