set_option maxRecDepth 20000 in
theorem ggX11_values_J6_bitCount_0f7a4 : GoodIn wsX11_values wsJ6_bitCount_0f7a4 := goodIn_r _ [242, 243, 244, 245] (by decide +kernel) (by decide +kernel)
set_option maxRecDepth 20000 in
theorem gX11_values_J6_bitCount_0f7a4 : GoodIn wsX11_values (va_wsS RX11 255 yJ6_bitCount_0f7a4 wsJ6_bitCount_0f7a4) := goodIn_app (goodIn_of _ (by decide +kernel)) ggX11_values_J6_bitCount_0f7a4
set_option maxRecDepth 20000 in
theorem ggX11_lower_X11_needTable : GoodIn wsX11_lower wsX11_needTable := goodIn_ca (goodIn_r _ [11, 12, 13, 6, 235, 236, 237, 238, 239, 240, 241, 242, 252, 253, 254, 255, 256, 257, 258, 259, 260] (by decide +kernel) (by decide +kernel)) (goodIn_sub (fun _ h => List.mem_cons_of_mem _ (List.mem_append_right _ h)) (by decide +kernel))
set_option maxRecDepth 20000 in
theorem gX11_lower_X11_needTable : GoodIn wsX11_lower (wsV RX11 118 RX11 yX11_needTable wsX11_needTable) := goodIn_app (goodIn_of _ (by decide +kernel)) ggX11_lower_X11_needTable
set_option maxRecDepth 20000 in
theorem ggX11_lower_X4_refresh : GoodIn wsX11_lower wsX4_refresh := goodIn_r _ [18, 19, 20, 21, 22, 23, 24, 25, 26, 27, 28, 17, 29, 30, 31, 32, 33, 34, 35, 36, 37, 38, 39, 40, 41, 42, 43, 44, 45, 46, 47, 48, 49, 50, 51, 52, 53, 54, 55, 56, 57, 58, 59, 60, 61, 62, 63, 64, 65, 66, 67, 68, 69, 70, 71, 72, 73, 74, 75, 76, 77, 78, 79, 80, 81, 82, 83, 84, 85, 86, 87, 88, 89, 90, 91, 92, 93, 94, 95, 96, 97, 98, 99, 100, 101, 102, 103, 104, 105, 106, 107, 108, 109, 110, 111, 112, 113, 114, 115, 116, 117, 118, 119, 120, 121, 122, 123, 124, 125, 126, 127, 128, 129, 130, 131, 132, 133, 134, 135, 136, 137, 138, 139, 140, 141, 10, 142, 143, 144, 145, 146, 147, 148, 149, 150, 151, 152, 153, 154, 155, 156, 157, 158, 159, 160, 161, 162, 163, 164, 165, 166, 167, 168, 169, 170, 171, 172, 173, 174, 175, 176, 177, 178, 179, 180, 181, 182, 183, 184, 185, 186, 187, 188, 189, 190, 191, 192, 193, 194, 195, 196, 197, 198, 199, 200, 201, 202, 203, 204, 205, 206, 207, 208, 209, 210, 211, 212, 213, 214, 215, 216, 217, 218, 219, 220, 221, 222, 223, 224, 225, 226, 227, 228, 229, 230, 231, 232, 233, 243, 244, 245, 246, 247, 248, 249, 250, 251, 252, 253, 254, 255, 256, 257, 258, 259, 260, 261, 262, 263, 264, 265, 266, 267, 268, 269, 270, 271, 272, 273, 274, 275, 276] (by decide +kernel) (by decide +kernel)
set_option maxRecDepth 20000 in
theorem gX11_lower_X4_refresh : GoodIn wsX11_lower (wsV RX11 182 RX4 yX4_refresh wsX4_refresh) := goodIn_app (goodIn_of _ (by decide +kernel)) ggX11_lower_X4_refresh
set_option maxRecDepth 20000 in
theorem ggX11_lower_X7_word : GoodIn wsX11_lower wsX7_word := goodIn_r _ [201, 78, 264] (by decide +kernel) (by decide +kernel)
set_option maxRecDepth 20000 in
theorem gX11_lower_X7_word : GoodIn wsX11_lower (wsV RX11 262 RX7 yX7_word wsX7_word) := goodIn_app (goodIn_of _ (by decide +kernel)) ggX11_lower_X7_word
set_option maxRecDepth 20000 in
theorem ggX11_atomCount_X11_needQuery : GoodIn wsX11_atomCount wsX11_needQuery := goodIn_ca (goodIn_r _ [6, 7, 8] (by decide +kernel) (by decide +kernel)) (goodIn_sub (fun _ h => List.mem_cons_of_mem _ (List.mem_append_right _ h)) (by decide +kernel))
set_option maxRecDepth 20000 in
theorem gX11_atomCount_X11_needQuery : GoodIn wsX11_atomCount (wsV RX11 145 RX11 yX11_needQuery wsX11_needQuery) := goodIn_app (goodIn_of _ (by decide +kernel)) ggX11_atomCount_X11_needQuery
set_option maxRecDepth 20000 in
theorem ggX11_atomCount_X9_query : GoodIn wsX11_atomCount wsX9_query := goodIn_r _ [13, 14, 15, 26, 27, 28, 29, 30, 31, 32, 33, 34] (by decide +kernel) (by decide +kernel)
set_option maxRecDepth 20000 in
theorem gX11_atomCount_X9_query : GoodIn wsX11_atomCount (wsV RX11 94 RX9 yX9_query wsX9_query) := goodIn_app (goodIn_of _ (by decide +kernel)) ggX11_atomCount_X9_query
set_option maxRecDepth 20000 in
theorem ggX11_answers_X11_needQuery : GoodIn wsX11_answers wsX11_needQuery := goodIn_ca (goodIn_r _ [8, 9, 10] (by decide +kernel) (by decide +kernel)) (goodIn_sub (fun _ h => List.mem_cons_of_mem _ (List.mem_append_right _ h)) (by decide +kernel))
set_option maxRecDepth 20000 in
theorem gX11_answers_X11_needQuery : GoodIn wsX11_answers (wsV RX11 145 RX11 yX11_needQuery wsX11_needQuery) := goodIn_app (goodIn_of _ (by decide +kernel)) ggX11_answers_X11_needQuery
set_option maxRecDepth 20000 in
theorem ggX11_answers_X4_refresh : GoodIn wsX11_answers wsX4_refresh := goodIn_r _ [15, 16, 17, 18, 19, 20, 21, 22, 23, 24, 25, 14, 26, 27, 28, 29, 30, 31, 32, 33, 34, 35, 36, 37, 38, 39, 40, 41, 42, 43, 44, 45, 46, 47, 48, 49, 50, 51, 52, 53, 54, 55, 56, 57, 58, 59, 60, 61, 62, 63, 64, 65, 66, 67, 68, 69, 70, 71, 72, 73, 74, 75, 76, 77, 78, 79, 80, 81, 82, 83, 84, 85, 86, 87, 88, 89, 90, 91, 92, 93, 94, 95, 96, 97, 98, 99, 100, 101, 102, 103, 104, 105, 106, 107, 108, 109, 110, 111, 112, 113, 114, 115, 116, 117, 118, 119, 120, 121, 122, 123, 124, 125, 126, 127, 128, 129, 130, 131, 132, 133, 134, 135, 136, 137, 138, 7, 139, 140, 141, 142, 143, 144, 145, 146, 147, 148, 149, 150, 151, 152, 153, 154, 155, 156, 157, 158, 159, 160, 161, 162, 163, 164, 165, 166, 167, 168, 169, 170, 171, 172, 173, 174, 175, 176, 177, 178, 179, 180, 181, 182, 183, 184, 185, 186, 187, 188, 189, 190, 191, 192, 193, 194, 195, 196, 197, 198, 199, 200, 201, 202, 203, 204, 205, 206, 207, 208, 209, 210, 211, 212, 213, 214, 215, 216, 217, 218, 219, 220, 221, 222, 223, 224, 225, 226, 227, 228, 229, 230, 265, 266, 267, 268, 269, 270, 271, 272, 273, 274, 275, 276, 277, 278, 279, 280, 281, 282, 283, 284, 285, 286, 287, 288, 289, 290, 291, 292, 293, 294, 295, 296, 297, 298] (by decide +kernel) (by decide +kernel)
set_option maxRecDepth 20000 in
theorem gX11_answers_X4_refresh : GoodIn wsX11_answers (wsV RX11 182 RX4 yX4_refresh wsX4_refresh) := goodIn_app (goodIn_of _ (by decide +kernel)) ggX11_answers_X4_refresh
set_option maxRecDepth 20000 in
theorem ggX11_answers_X11_look : GoodIn wsX11_answers wsX11_look := goodIn_r _ [234, 235, 3, 2, 1, 236, 237, 238, 40, 239, 240, 43, 241, 45, 46, 30, 47, 32, 242, 243, 244, 245, 246, 247, 248, 249, 250, 106, 35, 107, 251, 114, 115, 116, 117, 118, 119, 120, 121, 122, 123, 124, 125, 126, 127, 128, 51, 129, 94, 130, 49, 50, 52, 53, 54, 131, 63, 60, 64, 65, 132, 133, 134, 135, 136, 67, 68, 69, 137, 91, 92, 93, 95, 96, 97, 98, 138, 7, 139, 140, 141, 142, 143, 144, 145, 146, 147, 148, 149, 150, 151, 152, 153, 154, 155, 252, 157, 158, 159, 160, 161, 162, 163, 164, 165, 166, 167, 168, 169, 170, 171, 172, 173, 174, 175, 176, 177, 178, 179, 180, 181, 182, 183, 184, 185, 186, 187, 188, 189, 190, 191, 192, 193, 194, 59, 61, 195, 196, 197, 73, 198, 75, 199, 200, 201, 202, 203, 204, 205, 206, 207, 208, 209, 253, 254, 255, 256, 257, 258, 259, 260, 274, 275, 276, 277, 278, 279, 280, 281, 282, 265, 266, 267, 268, 269, 270, 271, 272, 273, 285, 261, 262, 263, 264, 287, 288, 289, 290, 291, 292, 293, 294, 295, 296, 297, 298, 283, 284, 286] (by decide +kernel) (by decide +kernel)
set_option maxRecDepth 20000 in
theorem gX11_answers_X11_look : GoodIn wsX11_answers (wsV RX11 186 RX11 yX11_look wsX11_look) := goodIn_app (goodIn_of _ (by decide +kernel)) ggX11_answers_X11_look
set_option maxRecDepth 20000 in
theorem ggX11_answerAt_X11_needQuery : GoodIn wsX11_answerAt wsX11_needQuery := goodIn_ca (goodIn_r _ [10, 1, 2] (by decide +kernel) (by decide +kernel)) (goodIn_sub (fun _ h => List.mem_cons_of_mem _ (List.mem_append_right _ h)) (by decide +kernel))
set_option maxRecDepth 20000 in
theorem gX11_answerAt_X11_needQuery : GoodIn wsX11_answerAt (wsV RX11 145 RX11 yX11_needQuery wsX11_needQuery) := goodIn_app (goodIn_of _ (by decide +kernel)) ggX11_answerAt_X11_needQuery
set_option maxRecDepth 20000 in
theorem ggX11_answerAt_X11_needStanding : GoodIn wsX11_answerAt wsX11_needStanding := goodIn_ca (goodIn_r _ [14, 1, 2, 4, 15, 16, 17, 18, 19, 20, 21, 22, 23, 24, 25, 26, 27, 28, 29, 30, 31, 32, 33, 34, 35, 36, 37, 38, 39, 40, 41, 42, 271, 272, 273, 274, 275, 276, 277, 278, 283, 284, 285, 286, 287, 288, 289, 290, 291, 292, 293, 294] (by decide +kernel) (by decide +kernel)) (goodIn_sub (fun _ h => List.mem_cons_of_mem _ (List.mem_append_right _ h)) (by decide +kernel))
set_option maxRecDepth 20000 in
theorem gX11_answerAt_X11_needStanding : GoodIn wsX11_answerAt (wsV RX11 271 RX11 yX11_needStanding wsX11_needStanding) := goodIn_app (goodIn_of _ (by decide +kernel)) ggX11_answerAt_X11_needStanding
set_option maxRecDepth 20000 in
theorem ggX11_answerAt_X4_refresh : GoodIn wsX11_answerAt wsX4_refresh := goodIn_r _ [47, 48, 49, 50, 51, 52, 53, 54, 55, 56, 57, 46, 58, 59, 60, 61, 32, 62, 34, 63, 64, 65, 66, 67, 68, 69, 18, 70, 71, 21, 72, 30, 31, 33, 73, 74, 75, 25, 76, 28, 29, 77, 78, 79, 80, 81, 37, 82, 83, 36, 38, 39, 84, 85, 86, 87, 88, 89, 90, 91, 92, 93, 94, 95, 96, 97, 98, 99, 100, 101, 102, 103, 104, 105, 106, 107, 108, 23, 24, 26, 27, 35, 40, 41, 42, 109, 110, 111, 112, 113, 114, 115, 116, 117, 118, 119, 120, 121, 122, 123, 124, 125, 126, 127, 128, 129, 130, 131, 132, 133, 134, 135, 136, 137, 138, 139, 140, 141, 142, 143, 144, 145, 146, 147, 148, 9, 149, 150, 151, 152, 153, 154, 155, 156, 157, 158, 159, 160, 161, 162, 163, 164, 165, 166, 167, 168, 169, 170, 171, 172, 173, 174, 175, 176, 177, 178, 179, 180, 181, 182, 183, 184, 185, 186, 187, 188, 189, 190, 191, 192, 193, 194, 195, 196, 197, 198, 199, 200, 201, 202, 203, 204, 205, 206, 207, 208, 209, 210, 211, 212, 213, 214, 215, 216, 217, 218, 219, 220, 221, 222, 223, 224, 225, 226, 227, 228, 229, 230, 231, 232, 233, 234, 235, 236, 237, 238, 239, 240, 295, 296, 297, 298, 299, 300, 301, 302, 303, 283, 284, 285, 286, 287, 288, 289, 290, 291, 292, 293, 294, 304, 305, 306, 307, 308, 309, 310, 311, 312, 313, 314, 315, 316] (by decide +kernel) (by decide +kernel)
set_option maxRecDepth 20000 in
theorem gX11_answerAt_X4_refresh : GoodIn wsX11_answerAt (wsV RX11 182 RX4 yX4_refresh wsX4_refresh) := goodIn_app (goodIn_of _ (by decide +kernel)) ggX11_answerAt_X4_refresh
set_option maxRecDepth 20000 in
theorem ggX11_answerAt_X11_look : GoodIn wsX11_answerAt wsX11_look := goodIn_r _ [244, 245, 5, 4, 3, 15, 16, 17, 18, 19, 20, 21, 246, 30, 31, 32, 33, 34, 247, 248, 249, 250, 251, 252, 253, 254, 255, 116, 65, 117, 256, 124, 125, 126, 127, 128, 129, 130, 131, 132, 133, 134, 135, 136, 137, 138, 25, 139, 27, 140, 74, 75, 76, 28, 29, 141, 36, 37, 38, 39, 142, 143, 144, 145, 146, 85, 86, 87, 147, 23, 24, 26, 35, 40, 41, 42, 148, 9, 149, 150, 151, 152, 153, 154, 155, 156, 157, 158, 159, 160, 161, 162, 163, 164, 165, 257, 167, 168, 169, 170, 171, 172, 173, 174, 175, 176, 177, 178, 179, 180, 181, 182, 183, 184, 185, 186, 187, 188, 189, 190, 191, 192, 193, 194, 195, 196, 197, 198, 199, 200, 201, 202, 203, 204, 81, 82, 205, 206, 207, 91, 208, 93, 209, 210, 211, 212, 213, 214, 215, 216, 217, 218, 219, 271, 272, 273, 274, 275, 276, 277, 278, 283, 284, 285, 286, 287, 288, 289, 290, 291, 295, 296, 297, 298, 299, 300, 301, 302, 303, 294, 279, 280, 281, 282, 305, 306, 307, 308, 309, 310, 311, 312, 313, 314, 315, 316, 292, 293, 304] (by decide +kernel) (by decide +kernel)
set_option maxRecDepth 20000 in
theorem gX11_answerAt_X11_look : GoodIn wsX11_answerAt (wsV RX11 186 RX11 yX11_look wsX11_look) := goodIn_app (goodIn_of _ (by decide +kernel)) ggX11_answerAt_X11_look
set_option maxRecDepth 20000 in
theorem ggX11_answerAt_X0_after : GoodIn wsX11_answerAt wsX0_after := goodIn_r _ [261, 252, 279, 280, 281, 282] (by decide +kernel) (by decide +kernel)
set_option maxRecDepth 20000 in
theorem gX11_answerAt_X0_after : GoodIn wsX11_answerAt (wsV RX11 276 RX0 yX0_after wsX0_after) := goodIn_app (goodIn_of _ (by decide +kernel)) ggX11_answerAt_X0_after
set_option maxRecDepth 20000 in
theorem ggX11_answerAt_X0_pickAfter : GoodIn wsX11_answerAt wsX0_pickAfter := goodIn_r _ [265, 266, 254, 267, 259, 260, 250, 261, 252, 268, 30, 31, 32, 33, 34, 269, 218, 37, 219, 279, 280, 281, 282, 305, 306, 307, 308, 309, 310, 311, 312, 313, 314, 315, 316, 294] (by decide +kernel) (by decide +kernel)
set_option maxRecDepth 20000 in
theorem gX11_answerAt_X0_pickAfter : GoodIn wsX11_answerAt (wsV RX11 279 RX0 yX0_pickAfter wsX0_pickAfter) := goodIn_app (goodIn_of _ (by decide +kernel)) ggX11_answerAt_X0_pickAfter
set_option maxRecDepth 20000 in
theorem ggX11_answerAt_X1_valueOf : GoodIn wsX11_answerAt wsX1_valueOf := goodIn_r _ [203] (by decide +kernel) (by decide +kernel)
set_option maxRecDepth 20000 in
theorem gX11_answerAt_X1_valueOf : GoodIn wsX11_answerAt (va_wsS RX11 285 yX1_valueOf wsX1_valueOf) := goodIn_app (goodIn_of _ (by decide +kernel)) ggX11_answerAt_X1_valueOf
set_option maxRecDepth 20000 in
theorem ggX11_seek_X11_needQuery : GoodIn wsX11_seek wsX11_needQuery := goodIn_ca (goodIn_r _ [12, 13, 14] (by decide +kernel) (by decide +kernel)) (goodIn_sub (fun _ h => List.mem_cons_of_mem _ (List.mem_append_right _ h)) (by decide +kernel))
set_option maxRecDepth 20000 in
theorem gX11_seek_X11_needQuery : GoodIn wsX11_seek (wsV RX11 145 RX11 yX11_needQuery wsX11_needQuery) := goodIn_app (goodIn_of _ (by decide +kernel)) ggX11_seek_X11_needQuery
set_option maxRecDepth 20000 in
theorem ggX11_seek_X11_isValue : GoodIn wsX11_seek wsX11_isValue := goodIn_r _ [17] (by decide +kernel) (by decide +kernel)
set_option maxRecDepth 20000 in
theorem gX11_seek_X11_isValue : GoodIn wsX11_seek (va_wsS RX11 288 yX11_isValue wsX11_isValue) := goodIn_app (goodIn_of _ (by decide +kernel)) ggX11_seek_X11_isValue
set_option maxRecDepth 20000 in
theorem ggX11_seek_X4_refresh : GoodIn wsX11_seek wsX4_refresh := goodIn_r _ [22, 23, 24, 25, 26, 27, 28, 29, 30, 31, 32, 21, 33, 34, 35, 36, 37, 38, 39, 40, 41, 42, 43, 44, 45, 46, 47, 48, 49, 50, 51, 52, 53, 54, 55, 56, 57, 58, 59, 60, 61, 62, 63, 64, 65, 66, 67, 68, 69, 70, 71, 72, 73, 74, 75, 76, 77, 78, 79, 80, 81, 82, 83, 84, 85, 86, 87, 88, 89, 90, 91, 92, 93, 94, 95, 96, 97, 98, 99, 100, 101, 102, 103, 104, 105, 106, 107, 108, 109, 110, 111, 112, 113, 114, 115, 116, 117, 118, 119, 120, 121, 122, 123, 124, 125, 126, 127, 128, 129, 130, 131, 132, 133, 134, 135, 136, 137, 138, 139, 140, 141, 142, 143, 144, 145, 11, 146, 147, 148, 149, 150, 151, 152, 153, 154, 155, 156, 157, 158, 159, 160, 161, 162, 163, 164, 165, 166, 167, 168, 169, 170, 171, 172, 173, 174, 175, 176, 177, 178, 179, 180, 181, 182, 183, 184, 185, 186, 187, 188, 189, 190, 191, 192, 193, 194, 195, 196, 197, 198, 199, 200, 201, 202, 203, 204, 205, 206, 207, 208, 209, 210, 211, 212, 213, 214, 215, 216, 217, 218, 219, 220, 221, 222, 223, 224, 225, 226, 227, 228, 229, 230, 231, 232, 233, 234, 235, 236, 237, 284, 285, 286, 287, 288, 289, 290, 291, 292, 293, 294, 295, 296, 297, 298, 299, 300, 301, 302, 303, 304, 305, 306, 307, 308, 309, 310, 311, 312, 313, 314, 315, 316, 317] (by decide +kernel) (by decide +kernel)
set_option maxRecDepth 20000 in
theorem gX11_seek_X4_refresh : GoodIn wsX11_seek (wsV RX11 182 RX4 yX4_refresh wsX4_refresh) := goodIn_app (goodIn_of _ (by decide +kernel)) ggX11_seek_X4_refresh
set_option maxRecDepth 20000 in
theorem ggX11_seek_X11_look : GoodIn wsX11_seek wsX11_look := goodIn_r _ [241, 242, 7, 6, 5, 243, 244, 245, 47, 246, 247, 50, 248, 52, 53, 37, 54, 39, 249, 250, 251, 252, 253, 254, 255, 256, 257, 113, 42, 114, 258, 121, 122, 123, 124, 125, 126, 127, 128, 129, 130, 131, 132, 133, 134, 135, 58, 136, 101, 137, 56, 57, 59, 60, 61, 138, 70, 67, 71, 72, 139, 140, 141, 142, 143, 74, 75, 76, 144, 98, 99, 100, 102, 103, 104, 105, 145, 11, 146, 147, 148, 149, 150, 151, 152, 153, 154, 155, 156, 157, 158, 159, 160, 161, 162, 259, 164, 165, 166, 167, 168, 169, 170, 171, 172, 173, 174, 175, 176, 177, 178, 179, 180, 181, 182, 183, 184, 185, 186, 187, 188, 189, 190, 191, 192, 193, 194, 195, 196, 197, 198, 199, 200, 201, 66, 68, 202, 203, 204, 80, 205, 82, 206, 207, 208, 209, 210, 211, 212, 213, 214, 215, 216, 272, 273, 274, 275, 276, 277, 278, 279, 293, 294, 295, 296, 297, 298, 299, 300, 301, 284, 285, 286, 287, 288, 289, 290, 291, 292, 304, 280, 281, 282, 283, 306, 307, 308, 309, 310, 311, 312, 313, 314, 315, 316, 317, 302, 303, 305] (by decide +kernel) (by decide +kernel)
set_option maxRecDepth 20000 in
theorem gX11_seek_X11_look : GoodIn wsX11_seek (wsV RX11 186 RX11 yX11_look wsX11_look) := goodIn_app (goodIn_of _ (by decide +kernel)) ggX11_seek_X11_look
set_option maxRecDepth 20000 in
theorem ggX11_seek_X0_keyOf : GoodIn wsX11_seek wsX0_keyOf := goodIn_r _ [263, 256, 280, 281, 282, 283, 306, 307, 308, 309, 310, 311, 312, 313, 314, 315, 316, 317] (by decide +kernel) (by decide +kernel)
set_option maxRecDepth 20000 in
theorem gX11_seek_X0_keyOf : GoodIn wsX11_seek (wsV RX11 293 RX0 yX0_keyOf wsX0_keyOf) := goodIn_app (goodIn_of _ (by decide +kernel)) ggX11_seek_X0_keyOf
set_option maxRecDepth 20000 in
theorem ggX11_seek_X0_before : GoodIn wsX11_seek wsX0_before := goodIn_r _ [267, 255, 268, 269, 270, 252, 271, 254, 280, 281, 282, 283] (by decide +kernel) (by decide +kernel)
set_option maxRecDepth 20000 in
theorem gX11_seek_X0_before : GoodIn wsX11_seek (wsV RX11 297 RX0 yX0_before wsX0_before) := goodIn_app (goodIn_of _ (by decide +kernel)) ggX11_seek_X0_before
set_option maxRecDepth 20000 in
theorem ggX11_leaps_X11_needQuery : GoodIn wsX11_leaps wsX11_needQuery := goodIn_ca (goodIn_r _ [8, 9, 10] (by decide +kernel) (by decide +kernel)) (goodIn_sub (fun _ h => List.mem_cons_of_mem _ (List.mem_append_right _ h)) (by decide +kernel))
set_option maxRecDepth 20000 in
theorem gX11_leaps_X11_needQuery : GoodIn wsX11_leaps (wsV RX11 145 RX11 yX11_needQuery wsX11_needQuery) := goodIn_app (goodIn_of _ (by decide +kernel)) ggX11_leaps_X11_needQuery
set_option maxRecDepth 20000 in
theorem ggX11_leaps_X4_refresh : GoodIn wsX11_leaps wsX4_refresh := goodIn_r _ [15, 16, 17, 18, 19, 20, 21, 22, 23, 24, 25, 14, 26, 27, 28, 29, 30, 31, 32, 33, 34, 35, 36, 37, 38, 39, 40, 41, 42, 43, 44, 45, 46, 47, 48, 49, 50, 51, 52, 53, 54, 55, 56, 57, 58, 59, 60, 61, 62, 63, 64, 65, 66, 67, 68, 69, 70, 71, 72, 73, 74, 75, 76, 77, 78, 79, 80, 81, 82, 83, 84, 85, 86, 87, 88, 89, 90, 91, 92, 93, 94, 95, 96, 97, 98, 99, 100, 101, 102, 103, 104, 105, 106, 107, 108, 109, 110, 111, 112, 113, 114, 115, 116, 117, 118, 119, 120, 121, 122, 123, 124, 125, 126, 127, 128, 129, 130, 131, 132, 133, 134, 135, 136, 137, 138, 7, 139, 140, 141, 142, 143, 144, 145, 146, 147, 148, 149, 150, 151, 152, 153, 154, 155, 156, 157, 158, 159, 160, 161, 162, 163, 164, 165, 166, 167, 168, 169, 170, 171, 172, 173, 174, 175, 176, 177, 178, 179, 180, 181, 182, 183, 184, 185, 186, 187, 188, 189, 190, 191, 192, 193, 194, 195, 196, 197, 198, 199, 200, 201, 202, 203, 204, 205, 206, 207, 208, 209, 210, 211, 212, 213, 214, 215, 216, 217, 218, 219, 220, 221, 222, 223, 224, 225, 226, 227, 228, 229, 230, 277, 278, 279, 280, 281, 282, 283, 284, 285, 286, 287, 288, 289, 290, 291, 292, 293, 294, 295, 296, 297, 298, 265, 266, 267, 268, 269, 270, 271, 272, 273, 274, 275, 276] (by decide +kernel) (by decide +kernel)
set_option maxRecDepth 20000 in
theorem gX11_leaps_X4_refresh : GoodIn wsX11_leaps (wsV RX11 182 RX4 yX4_refresh wsX4_refresh) := goodIn_app (goodIn_of _ (by decide +kernel)) ggX11_leaps_X4_refresh
set_option maxRecDepth 20000 in
theorem ggX11_leaps_X11_look : GoodIn wsX11_leaps wsX11_look := goodIn_r _ [234, 235, 3, 2, 1, 236, 237, 238, 40, 239, 240, 43, 241, 45, 46, 30, 47, 32, 242, 243, 244, 245, 246, 247, 248, 249, 250, 106, 35, 107, 251, 114, 115, 116, 117, 118, 119, 120, 121, 122, 123, 124, 125, 126, 127, 128, 51, 129, 94, 130, 49, 50, 52, 53, 54, 131, 63, 60, 64, 65, 132, 133, 134, 135, 136, 67, 68, 69, 137, 91, 92, 93, 95, 96, 97, 98, 138, 7, 139, 140, 141, 142, 143, 144, 145, 146, 147, 148, 149, 150, 151, 152, 153, 154, 155, 252, 157, 158, 159, 160, 161, 162, 163, 164, 165, 166, 167, 168, 169, 170, 171, 172, 173, 174, 175, 176, 177, 178, 179, 180, 181, 182, 183, 184, 185, 186, 187, 188, 189, 190, 191, 192, 193, 194, 59, 61, 195, 196, 197, 73, 198, 75, 199, 200, 201, 202, 203, 204, 205, 206, 207, 208, 209, 253, 254, 255, 256, 257, 258, 259, 260, 286, 287, 288, 289, 290, 291, 292, 293, 294, 277, 278, 279, 280, 281, 282, 283, 284, 285, 297, 261, 262, 263, 264, 265, 266, 267, 268, 269, 270, 271, 272, 273, 274, 275, 276, 295, 296, 298] (by decide +kernel) (by decide +kernel)
set_option maxRecDepth 20000 in
theorem gX11_leaps_X11_look : GoodIn wsX11_leaps (wsV RX11 186 RX11 yX11_look wsX11_look) := goodIn_app (goodIn_of _ (by decide +kernel)) ggX11_leaps_X11_look
set_option maxRecDepth 20000 in
theorem ggX11_groups_X11_needQuery : GoodIn wsX11_groups wsX11_needQuery := goodIn_ca (goodIn_r _ [8, 9, 10] (by decide +kernel) (by decide +kernel)) (goodIn_sub (fun _ h => List.mem_cons_of_mem _ (List.mem_append_right _ h)) (by decide +kernel))
set_option maxRecDepth 20000 in
theorem gX11_groups_X11_needQuery : GoodIn wsX11_groups (wsV RX11 145 RX11 yX11_needQuery wsX11_needQuery) := goodIn_app (goodIn_of _ (by decide +kernel)) ggX11_groups_X11_needQuery
set_option maxRecDepth 20000 in
theorem ggX11_groups_X11_needStanding : GoodIn wsX11_groups wsX11_needStanding := goodIn_ca (goodIn_r _ [14, 9, 10, 2, 15, 16, 17, 18, 19, 20, 21, 22, 23, 24, 25, 26, 27, 28, 29, 30, 31, 32, 33, 34, 35, 36, 37, 38, 39, 40, 41, 42, 274, 275, 276, 277, 278, 279, 280, 281, 282, 283, 284, 285, 286, 287, 288, 289, 290, 291, 292, 293] (by decide +kernel) (by decide +kernel)) (goodIn_sub (fun _ h => List.mem_cons_of_mem _ (List.mem_append_right _ h)) (by decide +kernel))
set_option maxRecDepth 20000 in
theorem gX11_groups_X11_needStanding : GoodIn wsX11_groups (wsV RX11 271 RX11 yX11_needStanding wsX11_needStanding) := goodIn_app (goodIn_of _ (by decide +kernel)) ggX11_groups_X11_needStanding
set_option maxRecDepth 20000 in
theorem ggX11_groups_X4_refresh : GoodIn wsX11_groups wsX4_refresh := goodIn_r _ [47, 48, 49, 50, 51, 52, 53, 54, 55, 56, 57, 46, 58, 59, 60, 61, 32, 62, 34, 63, 64, 65, 66, 67, 68, 69, 18, 70, 71, 21, 72, 30, 31, 33, 73, 74, 75, 25, 76, 28, 29, 77, 78, 79, 80, 81, 37, 82, 83, 36, 38, 39, 84, 85, 86, 87, 88, 89, 90, 91, 92, 93, 94, 95, 96, 97, 98, 99, 100, 101, 102, 103, 104, 105, 106, 107, 108, 23, 24, 26, 27, 35, 40, 41, 42, 109, 110, 111, 112, 113, 114, 115, 116, 117, 118, 119, 120, 121, 122, 123, 124, 125, 126, 127, 128, 129, 130, 131, 132, 133, 134, 135, 136, 137, 138, 139, 140, 141, 142, 143, 144, 145, 146, 147, 148, 7, 149, 150, 151, 152, 153, 154, 155, 156, 157, 158, 159, 160, 161, 162, 163, 164, 165, 166, 167, 168, 169, 170, 171, 172, 173, 174, 175, 176, 177, 178, 179, 180, 181, 182, 183, 184, 185, 186, 187, 188, 189, 190, 191, 192, 193, 194, 195, 196, 197, 198, 199, 200, 201, 202, 203, 204, 205, 206, 207, 208, 209, 210, 211, 212, 213, 214, 215, 216, 217, 218, 219, 220, 221, 222, 223, 224, 225, 226, 227, 228, 229, 230, 231, 232, 233, 234, 235, 236, 237, 238, 239, 240, 294, 295, 296, 297, 298, 299, 300, 301, 302, 282, 283, 284, 285, 286, 287, 288, 289, 290, 291, 292, 293, 303, 304, 305, 306, 307, 308, 309, 310, 311, 312, 313, 314, 315] (by decide +kernel) (by decide +kernel)
set_option maxRecDepth 20000 in
theorem gX11_groups_X4_refresh : GoodIn wsX11_groups (wsV RX11 182 RX4 yX4_refresh wsX4_refresh) := goodIn_app (goodIn_of _ (by decide +kernel)) ggX11_groups_X4_refresh
set_option maxRecDepth 20000 in
theorem ggX11_groups_X11_look : GoodIn wsX11_groups wsX11_look := goodIn_r _ [244, 245, 3, 2, 1, 15, 16, 17, 18, 19, 20, 21, 246, 30, 31, 32, 33, 34, 247, 248, 249, 250, 251, 252, 253, 254, 255, 116, 65, 117, 256, 124, 125, 126, 127, 128, 129, 130, 131, 132, 133, 134, 135, 136, 137, 138, 25, 139, 27, 140, 74, 75, 76, 28, 29, 141, 36, 37, 38, 39, 142, 143, 144, 145, 146, 85, 86, 87, 147, 23, 24, 26, 35, 40, 41, 42, 148, 7, 149, 150, 151, 152, 153, 154, 155, 156, 157, 158, 159, 160, 161, 162, 163, 164, 165, 257, 167, 168, 169, 170, 171, 172, 173, 174, 175, 176, 177, 178, 179, 180, 181, 182, 183, 184, 185, 186, 187, 188, 189, 190, 191, 192, 193, 194, 195, 196, 197, 198, 199, 200, 201, 202, 203, 204, 81, 82, 205, 206, 207, 91, 208, 93, 209, 210, 211, 212, 213, 214, 215, 216, 217, 218, 219, 274, 275, 276, 277, 278, 279, 280, 281, 282, 283, 284, 285, 286, 287, 288, 289, 290, 294, 295, 296, 297, 298, 299, 300, 301, 302, 293, 316, 317, 318, 319, 304, 305, 306, 307, 308, 309, 310, 311, 312, 313, 314, 315, 291, 292, 303] (by decide +kernel) (by decide +kernel)
set_option maxRecDepth 20000 in
theorem gX11_groups_X11_look : GoodIn wsX11_groups (wsV RX11 186 RX11 yX11_look wsX11_look) := goodIn_app (goodIn_of _ (by decide +kernel)) ggX11_groups_X11_look
set_option maxRecDepth 20000 in
theorem ggX11_groups_X0_sizeWith : GoodIn wsX11_groups wsX0_sizeWith := goodIn_r _ [261, 253, 262, 263, 264, 265, 250, 266, 254, 267, 268, 269, 270, 252, 271, 30, 31, 32, 33, 34, 272, 218, 37, 219, 273, 202, 203, 316, 317, 318, 319, 304, 305, 306, 307, 308, 309, 310, 311, 312, 313, 314, 315, 293] (by decide +kernel) (by decide +kernel)
set_option maxRecDepth 20000 in
theorem gX11_groups_X0_sizeWith : GoodIn wsX11_groups (wsV RX11 311 RX0 yX0_sizeWith wsX0_sizeWith) := goodIn_app (goodIn_of _ (by decide +kernel)) ggX11_groups_X0_sizeWith
set_option maxRecDepth 20000 in
theorem ggX11_groupSize_X11_needQuery : GoodIn wsX11_groupSize wsX11_needQuery := goodIn_ca (goodIn_r _ [10, 11, 12] (by decide +kernel) (by decide +kernel)) (goodIn_sub (fun _ h => List.mem_cons_of_mem _ (List.mem_append_right _ h)) (by decide +kernel))
set_option maxRecDepth 20000 in
theorem gX11_groupSize_X11_needQuery : GoodIn wsX11_groupSize (wsV RX11 145 RX11 yX11_needQuery wsX11_needQuery) := goodIn_app (goodIn_of _ (by decide +kernel)) ggX11_groupSize_X11_needQuery
set_option maxRecDepth 20000 in
theorem ggX11_groupSize_X11_needStanding : GoodIn wsX11_groupSize wsX11_needStanding := goodIn_ca (goodIn_r _ [16, 11, 12, 4, 17, 18, 19, 20, 21, 22, 23, 24, 25, 26, 27, 28, 29, 30, 31, 32, 33, 34, 35, 36, 37, 38, 39, 40, 41, 42, 43, 44, 279, 280, 281, 282, 283, 284, 285, 286, 287, 288, 289, 290, 291, 292, 293, 294, 295, 296, 297, 298] (by decide +kernel) (by decide +kernel)) (goodIn_sub (fun _ h => List.mem_cons_of_mem _ (List.mem_append_right _ h)) (by decide +kernel))
set_option maxRecDepth 20000 in
theorem gX11_groupSize_X11_needStanding : GoodIn wsX11_groupSize (wsV RX11 271 RX11 yX11_needStanding wsX11_needStanding) := goodIn_app (goodIn_of _ (by decide +kernel)) ggX11_groupSize_X11_needStanding
set_option maxRecDepth 20000 in
theorem ggX11_groupSize_X11_isValue : GoodIn wsX11_groupSize wsX11_isValue := goodIn_r _ [47] (by decide +kernel) (by decide +kernel)
set_option maxRecDepth 20000 in
theorem gX11_groupSize_X11_isValue : GoodIn wsX11_groupSize (va_wsS RX11 288 yX11_isValue wsX11_isValue) := goodIn_app (goodIn_of _ (by decide +kernel)) ggX11_groupSize_X11_isValue
set_option maxRecDepth 20000 in
theorem ggX11_groupSize_X4_refresh : GoodIn wsX11_groupSize wsX4_refresh := goodIn_r _ [52, 53, 54, 55, 56, 57, 58, 59, 60, 61, 62, 51, 63, 64, 65, 66, 34, 67, 36, 68, 69, 70, 71, 72, 73, 74, 20, 75, 76, 23, 77, 32, 33, 35, 78, 79, 80, 27, 81, 30, 31, 82, 83, 84, 85, 86, 39, 87, 88, 38, 40, 41, 89, 90, 91, 92, 93, 94, 95, 96, 97, 98, 99, 100, 101, 102, 103, 104, 105, 106, 107, 108, 109, 110, 111, 112, 113, 25, 26, 28, 29, 37, 42, 43, 44, 114, 115, 116, 117, 118, 119, 120, 121, 122, 123, 124, 125, 126, 127, 128, 129, 130, 131, 132, 133, 134, 135, 136, 137, 138, 139, 140, 141, 142, 143, 144, 145, 146, 147, 148, 149, 150, 151, 152, 153, 9, 154, 155, 156, 157, 158, 159, 160, 161, 162, 163, 164, 165, 166, 167, 168, 169, 170, 171, 172, 173, 174, 175, 176, 177, 178, 179, 180, 181, 182, 183, 184, 185, 186, 187, 188, 189, 190, 191, 192, 193, 194, 195, 196, 197, 198, 199, 200, 201, 202, 203, 204, 205, 206, 207, 208, 209, 210, 211, 212, 213, 214, 215, 216, 217, 218, 219, 220, 221, 222, 223, 224, 225, 226, 227, 228, 229, 230, 231, 232, 233, 234, 235, 236, 237, 238, 239, 240, 241, 242, 243, 244, 245, 299, 300, 301, 302, 303, 304, 305, 306, 307, 287, 288, 289, 290, 291, 292, 293, 294, 295, 296, 297, 298, 308, 309, 310, 311, 312, 313, 314, 315, 316, 317, 318, 319, 320] (by decide +kernel) (by decide +kernel)
set_option maxRecDepth 20000 in
theorem gX11_groupSize_X4_refresh : GoodIn wsX11_groupSize (wsV RX11 182 RX4 yX4_refresh wsX4_refresh) := goodIn_app (goodIn_of _ (by decide +kernel)) ggX11_groupSize_X4_refresh
set_option maxRecDepth 20000 in
theorem ggX11_groupSize_X11_look : GoodIn wsX11_groupSize wsX11_look := goodIn_r _ [249, 250, 5, 4, 3, 17, 18, 19, 20, 21, 22, 23, 251, 32, 33, 34, 35, 36, 252, 253, 254, 255, 256, 257, 258, 259, 260, 121, 70, 122, 261, 129, 130, 131, 132, 133, 134, 135, 136, 137, 138, 139, 140, 141, 142, 143, 27, 144, 29, 145, 79, 80, 81, 30, 31, 146, 38, 39, 40, 41, 147, 148, 149, 150, 151, 90, 91, 92, 152, 25, 26, 28, 37, 42, 43, 44, 153, 9, 154, 155, 156, 157, 158, 159, 160, 161, 162, 163, 164, 165, 166, 167, 168, 169, 170, 262, 172, 173, 174, 175, 176, 177, 178, 179, 180, 181, 182, 183, 184, 185, 186, 187, 188, 189, 190, 191, 192, 193, 194, 195, 196, 197, 198, 199, 200, 201, 202, 203, 204, 205, 206, 207, 208, 209, 86, 87, 210, 211, 212, 96, 213, 98, 214, 215, 216, 217, 218, 219, 220, 221, 222, 223, 224, 279, 280, 281, 282, 283, 284, 285, 286, 287, 288, 289, 290, 291, 292, 293, 294, 295, 299, 300, 301, 302, 303, 304, 305, 306, 307, 298, 321, 322, 323, 324, 309, 310, 311, 312, 313, 314, 315, 316, 317, 318, 319, 320, 296, 297, 308] (by decide +kernel) (by decide +kernel)
set_option maxRecDepth 20000 in
theorem gX11_groupSize_X11_look : GoodIn wsX11_groupSize (wsV RX11 186 RX11 yX11_look wsX11_look) := goodIn_app (goodIn_of _ (by decide +kernel)) ggX11_groupSize_X11_look
set_option maxRecDepth 20000 in
theorem ggX11_groupSize_X0_sizeWith : GoodIn wsX11_groupSize wsX0_sizeWith := goodIn_r _ [266, 258, 267, 268, 269, 270, 255, 271, 259, 272, 273, 274, 275, 257, 276, 32, 33, 34, 35, 36, 277, 223, 39, 224, 278, 207, 208, 321, 322, 323, 324, 309, 310, 311, 312, 313, 314, 315, 316, 317, 318, 319, 320, 298] (by decide +kernel) (by decide +kernel)
set_option maxRecDepth 20000 in
theorem gX11_groupSize_X0_sizeWith : GoodIn wsX11_groupSize (wsV RX11 311 RX0 yX0_sizeWith wsX0_sizeWith) := goodIn_app (goodIn_of _ (by decide +kernel)) ggX11_groupSize_X0_sizeWith
set_option maxRecDepth 20000 in
theorem ggX11_idleRows_X11_needQuery : GoodIn wsX11_idleRows wsX11_needQuery := goodIn_ca (goodIn_r _ [8, 9, 10] (by decide +kernel) (by decide +kernel)) (goodIn_sub (fun _ h => List.mem_cons_of_mem _ (List.mem_append_right _ h)) (by decide +kernel))
set_option maxRecDepth 20000 in
theorem gX11_idleRows_X11_needQuery : GoodIn wsX11_idleRows (wsV RX11 145 RX11 yX11_needQuery wsX11_needQuery) := goodIn_app (goodIn_of _ (by decide +kernel)) ggX11_idleRows_X11_needQuery
set_option maxRecDepth 20000 in
theorem ggX11_idleRows_X11_needAtom : GoodIn wsX11_idleRows wsX11_needAtom := goodIn_ca (goodIn_r _ [14, 9, 10, 2, 15, 16, 17, 18, 19, 20, 21, 290, 291, 292, 293, 294, 295, 296, 297, 307, 308, 309, 310, 311, 312, 313, 314, 315, 316, 317] (by decide +kernel) (by decide +kernel)) (goodIn_sub (fun _ h => List.mem_cons_of_mem _ (List.mem_append_right _ h)) (by decide +kernel))
set_option maxRecDepth 20000 in
theorem gX11_idleRows_X11_needAtom : GoodIn wsX11_idleRows (wsV RX11 179 RX11 yX11_needAtom wsX11_needAtom) := goodIn_app (goodIn_of _ (by decide +kernel)) ggX11_idleRows_X11_needAtom
set_option maxRecDepth 20000 in
theorem ggX11_idleRows_X4_refresh : GoodIn wsX11_idleRows wsX4_refresh := goodIn_r _ [26, 27, 28, 29, 30, 31, 32, 33, 34, 35, 36, 25, 37, 38, 39, 40, 41, 42, 43, 44, 45, 46, 47, 48, 49, 50, 18, 51, 52, 21, 53, 54, 55, 56, 57, 58, 59, 60, 61, 62, 63, 64, 65, 66, 67, 68, 69, 70, 71, 72, 73, 74, 75, 76, 77, 78, 79, 80, 81, 82, 83, 84, 85, 86, 87, 88, 89, 90, 91, 92, 93, 94, 95, 96, 97, 98, 99, 100, 101, 102, 103, 104, 105, 106, 107, 108, 109, 110, 111, 112, 113, 114, 115, 116, 117, 118, 119, 120, 121, 122, 123, 124, 125, 126, 127, 128, 129, 130, 131, 132, 133, 134, 135, 136, 137, 138, 139, 140, 141, 142, 143, 144, 145, 146, 147, 7, 148, 149, 150, 151, 152, 153, 154, 155, 156, 157, 158, 159, 160, 161, 162, 163, 164, 165, 166, 167, 168, 169, 170, 171, 172, 173, 174, 175, 176, 177, 178, 179, 180, 181, 182, 183, 184, 185, 186, 187, 188, 189, 190, 191, 192, 193, 194, 195, 196, 197, 198, 199, 200, 201, 202, 203, 204, 205, 206, 207, 208, 209, 210, 211, 212, 213, 214, 215, 216, 217, 218, 219, 220, 221, 222, 223, 224, 225, 226, 227, 228, 229, 230, 231, 232, 233, 234, 235, 236, 237, 238, 239, 298, 299, 300, 301, 302, 303, 304, 305, 306, 309, 310, 311, 312, 313, 314, 315, 316, 317, 307, 308, 318, 319, 320, 321, 322, 323, 324, 325, 326, 327, 328, 329, 330, 331] (by decide +kernel) (by decide +kernel)
set_option maxRecDepth 20000 in
theorem gX11_idleRows_X4_refresh : GoodIn wsX11_idleRows (wsV RX11 182 RX4 yX4_refresh wsX4_refresh) := goodIn_app (goodIn_of _ (by decide +kernel)) ggX11_idleRows_X4_refresh
set_option maxRecDepth 20000 in
theorem ggX11_idleRows_X11_look : GoodIn wsX11_idleRows wsX11_look := goodIn_r _ [243, 244, 245, 2, 1, 15, 16, 17, 18, 19, 20, 21, 246, 54, 55, 41, 56, 43, 247, 248, 249, 250, 251, 252, 253, 254, 255, 115, 46, 116, 256, 123, 124, 125, 126, 127, 128, 129, 130, 131, 132, 133, 134, 135, 136, 137, 60, 138, 103, 139, 58, 59, 61, 62, 63, 140, 72, 69, 73, 74, 141, 142, 143, 144, 145, 76, 77, 78, 146, 100, 101, 102, 104, 105, 106, 107, 147, 7, 148, 149, 150, 151, 152, 153, 154, 155, 156, 157, 158, 159, 160, 161, 162, 163, 164, 257, 166, 167, 168, 169, 170, 171, 172, 173, 174, 175, 176, 177, 178, 179, 180, 181, 182, 183, 184, 185, 186, 187, 188, 189, 190, 191, 192, 193, 194, 195, 196, 197, 198, 199, 200, 201, 202, 203, 68, 70, 204, 205, 206, 82, 207, 84, 208, 209, 210, 211, 212, 213, 214, 215, 216, 217, 218, 290, 291, 292, 293, 294, 295, 296, 297, 309, 310, 311, 312, 313, 314, 315, 316, 317, 298, 299, 300, 301, 302, 303, 304, 305, 306, 318, 332, 333, 334, 335, 320, 321, 322, 323, 324, 325, 326, 327, 328, 329, 330, 331, 307, 308, 319] (by decide +kernel) (by decide +kernel)
set_option maxRecDepth 20000 in
theorem gX11_idleRows_X11_look : GoodIn wsX11_idleRows (wsV RX11 186 RX11 yX11_look wsX11_look) := goodIn_app (goodIn_of _ (by decide +kernel)) ggX11_idleRows_X11_look
set_option maxRecDepth 20000 in
theorem ggX11_idleRows_X9_query : GoodIn wsX11_idleRows wsX9_query := goodIn_r _ [19, 20, 21, 309, 310, 311, 312, 313, 314, 315, 316, 317] (by decide +kernel) (by decide +kernel)
set_option maxRecDepth 20000 in
theorem gX11_idleRows_X9_query : GoodIn wsX11_idleRows (wsV RX11 94 RX9 yX9_query wsX9_query) := goodIn_app (goodIn_of _ (by decide +kernel)) ggX11_idleRows_X9_query
set_option maxRecDepth 20000 in
theorem ggX11_idleRows_X2_at : GoodIn wsX11_idleRows wsX2_at := goodIn_r _ [61, 62, 63, 54, 55, 41, 56, 43, 307, 308, 318] (by decide +kernel) (by decide +kernel)
set_option maxRecDepth 20000 in
theorem gX11_idleRows_X2_at : GoodIn wsX11_idleRows (wsV RX11 189 RX2 yX2_at wsX2_at) := goodIn_app (goodIn_of _ (by decide +kernel)) ggX11_idleRows_X2_at
set_option maxRecDepth 20000 in
theorem ggX11_idleRows_X11_markMade : GoodIn wsX11_idleRows wsX11_markMade := goodIn_r _ [262, 3, 245, 263, 111, 112, 82, 113, 84, 114, 115, 46, 116, 264, 265, 266, 250, 267, 268, 254, 269, 270, 271, 272, 252, 273, 54, 55, 41, 56, 43, 274, 217, 69, 218, 275, 68, 70, 276, 224, 225, 226, 191, 192, 227, 201, 202, 277, 233, 234, 235, 290, 291, 292, 293, 294, 295, 296, 297, 332, 333, 334, 335, 319, 320, 321, 322, 323, 324, 325, 326, 327, 328, 329, 330, 331, 318] (by decide +kernel) (by decide +kernel)
set_option maxRecDepth 20000 in
theorem gX11_idleRows_X11_markMade : GoodIn wsX11_idleRows (wsV RX11 190 RX11 yX11_markMade wsX11_markMade) := goodIn_app (goodIn_of _ (by decide +kernel)) ggX11_idleRows_X11_markMade
set_option maxRecDepth 20000 in
theorem ggX11_idleRows_X1_table : GoodIn wsX11_idleRows wsX1_table := goodIn_r _ [70] (by decide +kernel) (by decide +kernel)
set_option maxRecDepth 20000 in
theorem gX11_idleRows_X1_table : GoodIn wsX11_idleRows (va_wsS RX11 193 yX1_table wsX1_table) := goodIn_app (goodIn_of _ (by decide +kernel)) ggX11_idleRows_X1_table
set_option maxRecDepth 20000 in
theorem ggX11_idleRows_X7_size : GoodIn wsX11_idleRows wsX7_size := goodIn_r _ [281, 282, 205, 206, 82, 207, 84, 283, 284, 285, 286, 287, 288, 289, 319] (by decide +kernel) (by decide +kernel)
set_option maxRecDepth 20000 in
theorem gX11_idleRows_X7_size : GoodIn wsX11_idleRows (wsV RX11 131 RX7 yX7_size wsX7_size) := goodIn_app (goodIn_of _ (by decide +kernel)) ggX11_idleRows_X7_size
set_option maxRecDepth 20000 in
theorem ggX11_isTree_X11_needQuery : GoodIn wsX11_isTree wsX11_needQuery := goodIn_ca (goodIn_r _ [7, 8, 9] (by decide +kernel) (by decide +kernel)) (goodIn_sub (fun _ h => List.mem_cons_of_mem _ (List.mem_append_right _ h)) (by decide +kernel))
set_option maxRecDepth 20000 in
theorem gX11_isTree_X11_needQuery : GoodIn wsX11_isTree (wsV RX11 145 RX11 yX11_needQuery wsX11_needQuery) := goodIn_app (goodIn_of _ (by decide +kernel)) ggX11_isTree_X11_needQuery
set_option maxRecDepth 20000 in
theorem ggX11_isTree_X9_query : GoodIn wsX11_isTree wsX9_query := goodIn_r _ [14, 15, 16, 65, 66, 67, 68, 69, 70, 71, 72, 73] (by decide +kernel) (by decide +kernel)
set_option maxRecDepth 20000 in
theorem gX11_isTree_X9_query : GoodIn wsX11_isTree (wsV RX11 94 RX9 yX9_query wsX9_query) := goodIn_app (goodIn_of _ (by decide +kernel)) ggX11_isTree_X9_query
set_option maxRecDepth 20000 in
theorem ggX11_isTree_X10_reduces : GoodIn wsX11_isTree wsX10_reduces := goodIn_r _ [21, 22, 23, 24, 25, 26, 27, 28, 29, 30, 31, 32, 33, 34, 35, 36, 37, 38, 39, 40, 41, 42, 43, 44, 45, 46, 20, 47, 48, 49, 50, 51, 52, 53, 54, 55, 56, 74, 75, 76, 77] (by decide +kernel) (by decide +kernel)
set_option maxRecDepth 20000 in
theorem gX11_isTree_X10_reduces : GoodIn wsX11_isTree (wsV RX11 314 RX10 yX10_reduces wsX10_reduces) := goodIn_app (goodIn_of _ (by decide +kernel)) ggX11_isTree_X10_reduces
set_option maxRecDepth 20000 in
theorem ggX11_cover_X11_needQuery : GoodIn wsX11_cover wsX11_needQuery := goodIn_ca (goodIn_r _ [8, 9, 10] (by decide +kernel) (by decide +kernel)) (goodIn_sub (fun _ h => List.mem_cons_of_mem _ (List.mem_append_right _ h)) (by decide +kernel))
set_option maxRecDepth 20000 in
theorem gX11_cover_X11_needQuery : GoodIn wsX11_cover (wsV RX11 145 RX11 yX11_needQuery wsX11_needQuery) := goodIn_app (goodIn_of _ (by decide +kernel)) ggX11_cover_X11_needQuery
set_option maxRecDepth 20000 in
theorem ggX11_cover_X4_refresh : GoodIn wsX11_cover wsX4_refresh := goodIn_r _ [15, 16, 17, 18, 19, 20, 21, 22, 23, 24, 25, 14, 26, 27, 28, 29, 30, 31, 32, 33, 34, 35, 36, 37, 38, 39, 40, 41, 42, 43, 44, 45, 46, 47, 48, 49, 50, 51, 52, 53, 54, 55, 56, 57, 58, 59, 60, 61, 62, 63, 64, 65, 66, 67, 68, 69, 70, 71, 72, 73, 74, 75, 76, 77, 78, 79, 80, 81, 82, 83, 84, 85, 86, 87, 88, 89, 90, 91, 92, 93, 94, 95, 96, 97, 98, 99, 100, 101, 102, 103, 104, 105, 106, 107, 108, 109, 110, 111, 112, 113, 114, 115, 116, 117, 118, 119, 120, 121, 122, 123, 124, 125, 126, 127, 128, 129, 130, 131, 132, 133, 134, 135, 136, 137, 138, 7, 139, 140, 141, 142, 143, 144, 145, 146, 147, 148, 149, 150, 151, 152, 153, 154, 155, 156, 157, 158, 159, 160, 161, 162, 163, 164, 165, 166, 167, 168, 169, 170, 171, 172, 173, 174, 175, 176, 177, 178, 179, 180, 181, 182, 183, 184, 185, 186, 187, 188, 189, 190, 191, 192, 193, 194, 195, 196, 197, 198, 199, 200, 201, 202, 203, 204, 205, 206, 207, 208, 209, 210, 211, 212, 213, 214, 215, 216, 217, 218, 219, 220, 221, 222, 223, 224, 225, 226, 227, 228, 229, 230, 287, 288, 289, 290, 291, 292, 293, 294, 295, 299, 300, 301, 302, 303, 304, 305, 306, 307, 308, 309, 310, 311, 312, 313, 314, 315, 316, 317, 318, 319, 320, 321, 322, 323] (by decide +kernel) (by decide +kernel)
set_option maxRecDepth 20000 in
theorem gX11_cover_X4_refresh : GoodIn wsX11_cover (wsV RX11 182 RX4 yX4_refresh wsX4_refresh) := goodIn_app (goodIn_of _ (by decide +kernel)) ggX11_cover_X4_refresh
set_option maxRecDepth 20000 in
theorem ggX11_cover_X9_query : GoodIn wsX11_cover wsX9_query := goodIn_r _ [234, 235, 43, 299, 300, 301, 302, 303, 304, 305, 306, 307] (by decide +kernel) (by decide +kernel)
set_option maxRecDepth 20000 in
theorem gX11_cover_X9_query : GoodIn wsX11_cover (wsV RX11 94 RX9 yX9_query wsX9_query) := goodIn_app (goodIn_of _ (by decide +kernel)) ggX11_cover_X9_query
set_option maxRecDepth 20000 in
theorem ggX11_cover_X3_weighAll : GoodIn wsX11_cover wsX3_weighAll := goodIn_r _ [240, 241, 242, 243, 244, 245, 49, 50, 51, 52, 53, 54, 45, 46, 30, 47, 32, 246, 247, 239, 248, 249, 59, 60, 61, 250, 220, 221, 73, 222, 75, 251, 252, 253, 254, 255, 256, 217, 182, 183, 257, 7, 258, 259, 208, 209, 260, 215, 216, 218, 192, 193, 261, 67, 68, 69, 262, 263, 264, 265, 266, 267, 268, 269, 270, 271, 272, 273, 97, 98, 274, 275, 276, 277, 278, 91, 92, 93, 94, 95, 63, 64, 65, 96, 308, 309, 296, 297, 298, 310, 311] (by decide +kernel) (by decide +kernel)
set_option maxRecDepth 20000 in
theorem gX11_cover_X3_weighAll : GoodIn wsX11_cover (wsV RX11 318 RX3 yX3_weighAll wsX3_weighAll) := goodIn_app (goodIn_of _ (by decide +kernel)) ggX11_cover_X3_weighAll
set_option maxRecDepth 20000 in
theorem ggX11_bound_X11_needQuery : GoodIn wsX11_bound wsX11_needQuery := goodIn_ca (goodIn_r _ [8, 9, 10] (by decide +kernel) (by decide +kernel)) (goodIn_sub (fun _ h => List.mem_cons_of_mem _ (List.mem_append_right _ h)) (by decide +kernel))
set_option maxRecDepth 20000 in
theorem gX11_bound_X11_needQuery : GoodIn wsX11_bound (wsV RX11 145 RX11 yX11_needQuery wsX11_needQuery) := goodIn_app (goodIn_of _ (by decide +kernel)) ggX11_bound_X11_needQuery
set_option maxRecDepth 20000 in
theorem ggX11_bound_X4_refresh : GoodIn wsX11_bound wsX4_refresh := goodIn_r _ [15, 16, 17, 18, 19, 20, 21, 22, 23, 24, 25, 14, 26, 27, 28, 29, 30, 31, 32, 33, 34, 35, 36, 37, 38, 39, 40, 41, 42, 43, 44, 45, 46, 47, 48, 49, 50, 51, 52, 53, 54, 55, 56, 57, 58, 59, 60, 61, 62, 63, 64, 65, 66, 67, 68, 69, 70, 71, 72, 73, 74, 75, 76, 77, 78, 79, 80, 81, 82, 83, 84, 85, 86, 87, 88, 89, 90, 91, 92, 93, 94, 95, 96, 97, 98, 99, 100, 101, 102, 103, 104, 105, 106, 107, 108, 109, 110, 111, 112, 113, 114, 115, 116, 117, 118, 119, 120, 121, 122, 123, 124, 125, 126, 127, 128, 129, 130, 131, 132, 133, 134, 135, 136, 137, 138, 7, 139, 140, 141, 142, 143, 144, 145, 146, 147, 148, 149, 150, 151, 152, 153, 154, 155, 156, 157, 158, 159, 160, 161, 162, 163, 164, 165, 166, 167, 168, 169, 170, 171, 172, 173, 174, 175, 176, 177, 178, 179, 180, 181, 182, 183, 184, 185, 186, 187, 188, 189, 190, 191, 192, 193, 194, 195, 196, 197, 198, 199, 200, 201, 202, 203, 204, 205, 206, 207, 208, 209, 210, 211, 212, 213, 214, 215, 216, 217, 218, 219, 220, 221, 222, 223, 224, 225, 226, 227, 228, 229, 230, 287, 288, 289, 290, 291, 292, 293, 294, 295, 299, 300, 301, 302, 303, 304, 305, 306, 307, 308, 309, 310, 311, 312, 313, 314, 315, 316, 317, 318, 319, 320, 321, 322, 323] (by decide +kernel) (by decide +kernel)
set_option maxRecDepth 20000 in
theorem gX11_bound_X4_refresh : GoodIn wsX11_bound (wsV RX11 182 RX4 yX4_refresh wsX4_refresh) := goodIn_app (goodIn_of _ (by decide +kernel)) ggX11_bound_X4_refresh
set_option maxRecDepth 20000 in
theorem ggX11_bound_X9_query : GoodIn wsX11_bound wsX9_query := goodIn_r _ [234, 235, 43, 299, 300, 301, 302, 303, 304, 305, 306, 307] (by decide +kernel) (by decide +kernel)
set_option maxRecDepth 20000 in
theorem gX11_bound_X9_query : GoodIn wsX11_bound (wsV RX11 94 RX9 yX9_query wsX9_query) := goodIn_app (goodIn_of _ (by decide +kernel)) ggX11_bound_X9_query
set_option maxRecDepth 20000 in
theorem ggX11_bound_X3_weighAll : GoodIn wsX11_bound wsX3_weighAll := goodIn_r _ [240, 241, 242, 243, 244, 245, 49, 50, 51, 52, 53, 54, 45, 46, 30, 47, 32, 246, 247, 239, 248, 249, 59, 60, 61, 250, 220, 221, 73, 222, 75, 251, 252, 253, 254, 255, 256, 217, 182, 183, 257, 7, 258, 259, 208, 209, 260, 215, 216, 218, 192, 193, 261, 67, 68, 69, 262, 263, 264, 265, 266, 267, 268, 269, 270, 271, 272, 273, 97, 98, 274, 275, 276, 277, 278, 91, 92, 93, 94, 95, 63, 64, 65, 96, 308, 309, 296, 297, 298, 310, 311] (by decide +kernel) (by decide +kernel)
set_option maxRecDepth 20000 in
theorem gX11_bound_X3_weighAll : GoodIn wsX11_bound (wsV RX11 318 RX3 yX3_weighAll wsX3_weighAll) := goodIn_app (goodIn_of _ (by decide +kernel)) ggX11_bound_X3_weighAll
set_option maxRecDepth 20000 in
theorem ggX11_isIdle_X11_needRule : GoodIn wsX11_isIdle wsX11_needRule := goodIn_ca (goodIn_r _ [6, 7, 8, 1, 44, 45, 46, 47, 48, 49, 50, 51, 52, 53, 54, 55, 56, 57, 58, 59, 60] (by decide +kernel) (by decide +kernel)) (goodIn_sub (fun _ h => List.mem_cons_of_mem _ (List.mem_append_right _ h)) (by decide +kernel))
set_option maxRecDepth 20000 in
theorem gX11_isIdle_X11_needRule : GoodIn wsX11_isIdle (wsV RX11 205 RX11 yX11_needRule wsX11_needRule) := goodIn_app (goodIn_of _ (by decide +kernel)) ggX11_isIdle_X11_needRule
set_option maxRecDepth 20000 in
theorem ggX11_isIdle_X9_rests : GoodIn wsX11_isIdle wsX9_rests := goodIn_r _ [13, 14, 15, 16, 17, 12, 18, 19, 20, 21, 22, 23, 24, 25, 26, 27, 28, 29, 30, 31, 32, 33, 34, 35, 36, 37, 38, 39, 40, 41, 42, 43, 52, 53, 54, 55, 56, 57, 58, 59, 60, 61, 62, 63] (by decide +kernel) (by decide +kernel)
set_option maxRecDepth 20000 in
theorem gX11_isIdle_X9_rests : GoodIn wsX11_isIdle (wsV RX11 329 RX9 yX9_rests wsX9_rests) := goodIn_app (goodIn_of _ (by decide +kernel)) ggX11_isIdle_X9_rests
set_option maxRecDepth 20000 in
theorem ggX11_layerOf_X11_needTable : GoodIn wsX11_layerOf wsX11_needTable := goodIn_ca (goodIn_r _ [7, 8, 9, 2, 231, 232, 233, 234, 235, 236, 237, 238, 248, 249, 250, 251, 252, 253, 254, 255, 256] (by decide +kernel) (by decide +kernel)) (goodIn_sub (fun _ h => List.mem_cons_of_mem _ (List.mem_append_right _ h)) (by decide +kernel))
set_option maxRecDepth 20000 in
theorem gX11_layerOf_X11_needTable : GoodIn wsX11_layerOf (wsV RX11 118 RX11 yX11_needTable wsX11_needTable) := goodIn_app (goodIn_of _ (by decide +kernel)) ggX11_layerOf_X11_needTable
set_option maxRecDepth 20000 in
theorem ggX11_layerOf_X4_refresh : GoodIn wsX11_layerOf wsX4_refresh := goodIn_r _ [14, 15, 16, 17, 18, 19, 20, 21, 22, 23, 24, 13, 25, 26, 27, 28, 29, 30, 31, 32, 33, 34, 35, 36, 37, 38, 39, 40, 41, 42, 43, 44, 45, 46, 47, 48, 49, 50, 51, 52, 53, 54, 55, 56, 57, 58, 59, 60, 61, 62, 63, 64, 65, 66, 67, 68, 69, 70, 71, 72, 73, 74, 75, 76, 77, 78, 79, 80, 81, 82, 83, 84, 85, 86, 87, 88, 89, 90, 91, 92, 93, 94, 95, 96, 97, 98, 99, 100, 101, 102, 103, 104, 105, 106, 107, 108, 109, 110, 111, 112, 113, 114, 115, 116, 117, 118, 119, 120, 121, 122, 123, 124, 125, 126, 127, 128, 129, 130, 131, 132, 133, 134, 135, 136, 137, 6, 138, 139, 140, 141, 142, 143, 144, 145, 146, 147, 148, 149, 150, 151, 152, 153, 154, 155, 156, 157, 158, 159, 160, 161, 162, 163, 164, 165, 166, 167, 168, 169, 170, 171, 172, 173, 174, 175, 176, 177, 178, 179, 180, 181, 182, 183, 184, 185, 186, 187, 188, 189, 190, 191, 192, 193, 194, 195, 196, 197, 198, 199, 200, 201, 202, 203, 204, 205, 206, 207, 208, 209, 210, 211, 212, 213, 214, 215, 216, 217, 218, 219, 220, 221, 222, 223, 224, 225, 226, 227, 228, 229, 239, 240, 241, 242, 243, 244, 245, 246, 247, 248, 249, 250, 251, 252, 253, 254, 255, 256, 257, 258, 259, 260, 261, 262, 263, 264, 265, 266, 267, 268, 269, 270, 271, 272] (by decide +kernel) (by decide +kernel)
set_option maxRecDepth 20000 in
theorem gX11_layerOf_X4_refresh : GoodIn wsX11_layerOf (wsV RX11 182 RX4 yX4_refresh wsX4_refresh) := goodIn_app (goodIn_of _ (by decide +kernel)) ggX11_layerOf_X4_refresh
