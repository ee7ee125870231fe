set_option maxRecDepth 20000 in
theorem ggX11_layerOf_X6_at : GoodIn wsX11_layerOf wsX6_at := goodIn_r _ [46, 31, 259] (by decide +kernel) (by decide +kernel)
set_option maxRecDepth 20000 in
theorem gX11_layerOf_X6_at : GoodIn wsX11_layerOf (wsV RX11 159 RX6 yX6_at wsX6_at) := goodIn_app (goodIn_of _ (by decide +kernel)) ggX11_layerOf_X6_at
set_option maxRecDepth 20000 in
theorem ggX11_rounds_X4_refresh : GoodIn wsX11_rounds wsX4_refresh := goodIn_r _ [7, 8, 9, 10, 11, 12, 13, 14, 15, 16, 17, 6, 18, 19, 20, 21, 22, 23, 24, 25, 26, 27, 28, 29, 30, 31, 32, 33, 34, 35, 36, 37, 38, 39, 40, 41, 42, 43, 44, 45, 46, 47, 48, 49, 50, 51, 52, 53, 54, 55, 56, 57, 58, 59, 60, 61, 62, 63, 64, 65, 66, 67, 68, 69, 70, 71, 72, 73, 74, 75, 76, 77, 78, 79, 80, 81, 82, 83, 84, 85, 86, 87, 88, 89, 90, 91, 92, 93, 94, 95, 96, 97, 98, 99, 100, 101, 102, 103, 104, 105, 106, 107, 108, 109, 110, 111, 112, 113, 114, 115, 116, 117, 118, 119, 120, 121, 122, 123, 124, 125, 126, 127, 128, 129, 130, 131, 132, 133, 134, 135, 136, 137, 138, 139, 140, 141, 142, 143, 144, 145, 146, 147, 148, 149, 150, 151, 152, 153, 154, 155, 156, 157, 158, 159, 160, 161, 162, 163, 164, 165, 166, 167, 168, 169, 170, 171, 172, 173, 174, 175, 176, 177, 178, 179, 180, 181, 182, 183, 184, 185, 186, 187, 188, 189, 190, 191, 192, 193, 194, 195, 196, 197, 198, 199, 200, 201, 202, 203, 204, 205, 206, 207, 208, 209, 210, 211, 212, 213, 214, 215, 216, 217, 218, 219, 220, 221, 222, 223, 232, 233, 234, 235, 236, 237, 238, 239, 240, 241, 242, 243, 244, 245, 246, 247, 248, 249, 250, 251, 252, 253, 254, 255, 256, 257, 258, 259, 260, 261, 262, 263, 264, 265] (by decide +kernel) (by decide +kernel)
set_option maxRecDepth 20000 in
theorem gX11_rounds_X4_refresh : GoodIn wsX11_rounds (wsV RX11 182 RX4 yX4_refresh wsX4_refresh) := goodIn_app (goodIn_of _ (by decide +kernel)) ggX11_rounds_X4_refresh
set_option maxRecDepth 20000 in
theorem ggX11_firings_X11_needRule : GoodIn wsX11_firings wsX11_needRule := goodIn_ca (goodIn_r _ [7, 8, 9, 2, 231, 232, 233, 234, 235, 236, 237, 238, 248, 249, 250, 251, 252, 253, 254, 255, 256] (by decide +kernel) (by decide +kernel)) (goodIn_sub (fun _ h => List.mem_cons_of_mem _ (List.mem_append_right _ h)) (by decide +kernel))
set_option maxRecDepth 20000 in
theorem gX11_firings_X11_needRule : GoodIn wsX11_firings (wsV RX11 205 RX11 yX11_needRule wsX11_needRule) := goodIn_app (goodIn_of _ (by decide +kernel)) ggX11_firings_X11_needRule
set_option maxRecDepth 20000 in
theorem ggX11_firings_X4_refresh : GoodIn wsX11_firings wsX4_refresh := goodIn_r _ [14, 15, 16, 17, 18, 19, 20, 21, 22, 23, 24, 13, 25, 26, 27, 28, 29, 30, 31, 32, 33, 34, 35, 36, 37, 38, 39, 40, 41, 42, 43, 44, 45, 46, 47, 48, 49, 50, 51, 52, 53, 54, 55, 56, 57, 58, 59, 60, 61, 62, 63, 64, 65, 66, 67, 68, 69, 70, 71, 72, 73, 74, 75, 76, 77, 78, 79, 80, 81, 82, 83, 84, 85, 86, 87, 88, 89, 90, 91, 92, 93, 94, 95, 96, 97, 98, 99, 100, 101, 102, 103, 104, 105, 106, 107, 108, 109, 110, 111, 112, 113, 114, 115, 116, 117, 118, 119, 120, 121, 122, 123, 124, 125, 126, 127, 128, 129, 130, 131, 132, 133, 134, 135, 136, 137, 6, 138, 139, 140, 141, 142, 143, 144, 145, 146, 147, 148, 149, 150, 151, 152, 153, 154, 155, 156, 157, 158, 159, 160, 161, 162, 163, 164, 165, 166, 167, 168, 169, 170, 171, 172, 173, 174, 175, 176, 177, 178, 179, 180, 181, 182, 183, 184, 185, 186, 187, 188, 189, 190, 191, 192, 193, 194, 195, 196, 197, 198, 199, 200, 201, 202, 203, 204, 205, 206, 207, 208, 209, 210, 211, 212, 213, 214, 215, 216, 217, 218, 219, 220, 221, 222, 223, 224, 225, 226, 227, 228, 229, 239, 240, 241, 242, 243, 244, 245, 246, 247, 248, 249, 250, 251, 252, 253, 254, 255, 256, 257, 258, 259, 260, 261, 262, 263, 264, 265, 266, 267, 268, 269, 270, 271, 272] (by decide +kernel) (by decide +kernel)
set_option maxRecDepth 20000 in
theorem gX11_firings_X4_refresh : GoodIn wsX11_firings (wsV RX11 182 RX4 yX4_refresh wsX4_refresh) := goodIn_app (goodIn_of _ (by decide +kernel)) ggX11_firings_X4_refresh
set_option maxRecDepth 20000 in
theorem ggX11_firings_X6_at : GoodIn wsX11_firings wsX6_at := goodIn_r _ [46, 31, 259] (by decide +kernel) (by decide +kernel)
set_option maxRecDepth 20000 in
theorem gX11_firings_X6_at : GoodIn wsX11_firings (wsV RX11 159 RX6 yX6_at wsX6_at) := goodIn_app (goodIn_of _ (by decide +kernel)) ggX11_firings_X6_at
set_option maxRecDepth 20000 in
theorem ggX11_meanReasons_X4_refresh : GoodIn wsX11_meanReasons wsX4_refresh := goodIn_r _ [7, 8, 9, 10, 11, 12, 13, 14, 15, 16, 17, 6, 18, 19, 20, 21, 22, 23, 24, 25, 26, 27, 28, 29, 30, 31, 32, 33, 34, 35, 36, 37, 38, 39, 40, 41, 42, 43, 44, 45, 46, 47, 48, 49, 50, 51, 52, 53, 54, 55, 56, 57, 58, 59, 60, 61, 62, 63, 64, 65, 66, 67, 68, 69, 70, 71, 72, 73, 74, 75, 76, 77, 78, 79, 80, 81, 82, 83, 84, 85, 86, 87, 88, 89, 90, 91, 92, 93, 94, 95, 96, 97, 98, 99, 100, 101, 102, 103, 104, 105, 106, 107, 108, 109, 110, 111, 112, 113, 114, 115, 116, 117, 118, 119, 120, 121, 122, 123, 124, 125, 126, 127, 128, 129, 130, 131, 132, 133, 134, 135, 136, 137, 138, 139, 140, 141, 142, 143, 144, 145, 146, 147, 148, 149, 150, 151, 152, 153, 154, 155, 156, 157, 158, 159, 160, 161, 162, 163, 164, 165, 166, 167, 168, 169, 170, 171, 172, 173, 174, 175, 176, 177, 178, 179, 180, 181, 182, 183, 184, 185, 186, 187, 188, 189, 190, 191, 192, 193, 194, 195, 196, 197, 198, 199, 200, 201, 202, 203, 204, 205, 206, 207, 208, 209, 210, 211, 212, 213, 214, 215, 216, 217, 218, 219, 220, 221, 222, 223, 261, 262, 263, 264, 265, 266, 267, 268, 269, 252, 253, 254, 255, 256, 257, 258, 259, 260, 270, 271, 272, 273, 274, 275, 276, 277, 278, 279, 280, 281, 282, 283, 284, 285] (by decide +kernel) (by decide +kernel)
set_option maxRecDepth 20000 in
theorem gX11_meanReasons_X4_refresh : GoodIn wsX11_meanReasons (wsV RX11 182 RX4 yX4_refresh wsX4_refresh) := goodIn_app (goodIn_of _ (by decide +kernel)) ggX11_meanReasons_X4_refresh
set_option maxRecDepth 20000 in
theorem ggX11_meanReasons_X11_rowTotal : GoodIn wsX11_meanReasons wsX11_rowTotal := goodIn_r _ [227, 2, 1, 228, 229, 230, 65, 231, 232, 189, 190, 191, 67, 233, 234, 235, 236, 237, 238, 239, 244, 245, 246, 247, 248, 249, 250, 251, 252, 253, 254, 255, 256, 257, 258, 259, 260, 261, 262, 263, 264, 265, 266, 267, 268, 269, 273] (by decide +kernel) (by decide +kernel)
set_option maxRecDepth 20000 in
theorem gX11_meanReasons_X11_rowTotal : GoodIn wsX11_meanReasons (wsV RX11 341 RX11 yX11_rowTotal wsX11_rowTotal) := goodIn_app (goodIn_of _ (by decide +kernel)) ggX11_meanReasons_X11_rowTotal
set_option maxRecDepth 20000 in
theorem ggX11_meanReasons_X4_reasonsOf : GoodIn wsX11_meanReasons wsX4_reasonsOf := goodIn_r _ [243, 15, 36, 37, 38, 22, 39, 24, 212, 213, 214, 65, 215, 67, 261, 262, 263, 264, 265, 266, 267, 268, 269, 252, 253, 254, 255, 256, 257, 258, 259, 260, 272, 273] (by decide +kernel) (by decide +kernel)
set_option maxRecDepth 20000 in
theorem gX11_meanReasons_X4_reasonsOf : GoodIn wsX11_meanReasons (wsV RX11 231 RX4 yX4_reasonsOf wsX4_reasonsOf) := goodIn_app (goodIn_of _ (by decide +kernel)) ggX11_meanReasons_X4_reasonsOf
set_option maxRecDepth 20000 in
theorem ggX11_factShare_X4_refresh : GoodIn wsX11_factShare wsX4_refresh := goodIn_r _ [7, 8, 9, 10, 11, 12, 13, 14, 15, 16, 17, 6, 18, 19, 20, 21, 22, 23, 24, 25, 26, 27, 28, 29, 30, 31, 32, 33, 34, 35, 36, 37, 38, 39, 40, 41, 42, 43, 44, 45, 46, 47, 48, 49, 50, 51, 52, 53, 54, 55, 56, 57, 58, 59, 60, 61, 62, 63, 64, 65, 66, 67, 68, 69, 70, 71, 72, 73, 74, 75, 76, 77, 78, 79, 80, 81, 82, 83, 84, 85, 86, 87, 88, 89, 90, 91, 92, 93, 94, 95, 96, 97, 98, 99, 100, 101, 102, 103, 104, 105, 106, 107, 108, 109, 110, 111, 112, 113, 114, 115, 116, 117, 118, 119, 120, 121, 122, 123, 124, 125, 126, 127, 128, 129, 130, 131, 132, 133, 134, 135, 136, 137, 138, 139, 140, 141, 142, 143, 144, 145, 146, 147, 148, 149, 150, 151, 152, 153, 154, 155, 156, 157, 158, 159, 160, 161, 162, 163, 164, 165, 166, 167, 168, 169, 170, 171, 172, 173, 174, 175, 176, 177, 178, 179, 180, 181, 182, 183, 184, 185, 186, 187, 188, 189, 190, 191, 192, 193, 194, 195, 196, 197, 198, 199, 200, 201, 202, 203, 204, 205, 206, 207, 208, 209, 210, 211, 212, 213, 214, 215, 216, 217, 218, 219, 220, 221, 222, 223, 257, 258, 259, 260, 261, 262, 263, 264, 265, 248, 249, 250, 251, 252, 253, 254, 255, 256, 266, 267, 268, 269, 270, 271, 272, 273, 274, 275, 276, 277, 278, 279, 280, 281] (by decide +kernel) (by decide +kernel)
set_option maxRecDepth 20000 in
theorem gX11_factShare_X4_refresh : GoodIn wsX11_factShare (wsV RX11 182 RX4 yX4_refresh wsX4_refresh) := goodIn_app (goodIn_of _ (by decide +kernel)) ggX11_factShare_X4_refresh
set_option maxRecDepth 20000 in
theorem ggX11_factShare_X11_rowTotal : GoodIn wsX11_factShare wsX11_rowTotal := goodIn_r _ [227, 2, 1, 228, 229, 230, 65, 231, 232, 189, 190, 191, 67, 233, 234, 235, 236, 237, 238, 239, 240, 241, 242, 243, 244, 245, 246, 247, 248, 249, 250, 251, 252, 253, 254, 255, 256, 257, 258, 259, 260, 261, 262, 263, 264, 265, 269] (by decide +kernel) (by decide +kernel)
set_option maxRecDepth 20000 in
theorem gX11_factShare_X11_rowTotal : GoodIn wsX11_factShare (wsV RX11 341 RX11 yX11_rowTotal wsX11_rowTotal) := goodIn_app (goodIn_of _ (by decide +kernel)) ggX11_factShare_X11_rowTotal
set_option maxRecDepth 20000 in
theorem ggX11_factShare_X7_size : GoodIn wsX11_factShare wsX7_size := goodIn_r _ [231, 232, 189, 190, 65, 191, 67, 233, 234, 235, 236, 237, 238, 239, 269] (by decide +kernel) (by decide +kernel)
set_option maxRecDepth 20000 in
theorem gX11_factShare_X7_size : GoodIn wsX11_factShare (wsV RX11 131 RX7 yX7_size wsX7_size) := goodIn_app (goodIn_of _ (by decide +kernel)) ggX11_factShare_X7_size
set_option maxRecDepth 20000 in
theorem ggX11_errors_X4_refresh : GoodIn wsX11_errors wsX4_refresh := goodIn_r _ [8, 9, 10, 11, 12, 13, 14, 15, 16, 17, 18, 7, 19, 20, 21, 22, 23, 24, 25, 26, 27, 28, 29, 30, 31, 32, 33, 34, 35, 36, 37, 38, 39, 40, 41, 42, 43, 44, 45, 46, 47, 48, 49, 50, 51, 52, 53, 54, 55, 56, 57, 58, 59, 60, 61, 62, 63, 64, 65, 66, 67, 68, 69, 70, 71, 72, 73, 74, 75, 76, 77, 78, 79, 80, 81, 82, 83, 84, 85, 86, 87, 88, 89, 90, 91, 92, 93, 94, 95, 96, 97, 98, 99, 100, 101, 102, 103, 104, 105, 106, 107, 108, 109, 110, 111, 112, 113, 114, 115, 116, 117, 118, 119, 120, 121, 122, 123, 124, 125, 126, 127, 128, 129, 130, 131, 132, 133, 134, 135, 136, 137, 138, 139, 140, 141, 142, 143, 144, 145, 146, 147, 148, 149, 150, 151, 152, 153, 154, 155, 156, 157, 158, 159, 160, 161, 162, 163, 164, 165, 166, 167, 168, 169, 170, 171, 172, 173, 174, 175, 176, 177, 178, 179, 180, 181, 182, 183, 184, 185, 186, 187, 188, 189, 190, 191, 192, 193, 194, 195, 196, 197, 198, 199, 200, 201, 202, 203, 204, 205, 206, 207, 208, 209, 210, 211, 212, 213, 214, 215, 216, 217, 218, 219, 220, 221, 222, 223, 224, 300, 301, 302, 303, 304, 305, 306, 307, 308, 291, 292, 293, 294, 295, 296, 297, 298, 299, 309, 310, 311, 312, 313, 314, 315, 316, 317, 318, 319, 320, 321, 322, 323, 324] (by decide +kernel) (by decide +kernel)
set_option maxRecDepth 20000 in
theorem gX11_errors_X4_refresh : GoodIn wsX11_errors (wsV RX11 182 RX4 yX4_refresh wsX4_refresh) := goodIn_app (goodIn_of _ (by decide +kernel)) ggX11_errors_X4_refresh
set_option maxRecDepth 20000 in
theorem ggX11_errors_X11_look : GoodIn wsX11_errors wsX11_look := goodIn_r _ [228, 229, 3, 2, 1, 230, 231, 232, 33, 233, 234, 36, 235, 38, 39, 23, 40, 25, 236, 237, 238, 239, 240, 241, 242, 243, 244, 99, 28, 100, 245, 107, 108, 109, 110, 111, 112, 113, 114, 115, 116, 117, 118, 119, 120, 121, 44, 122, 87, 123, 42, 43, 45, 46, 47, 124, 56, 53, 57, 58, 125, 126, 127, 128, 129, 60, 61, 62, 130, 84, 85, 86, 88, 89, 90, 91, 131, 132, 133, 134, 135, 136, 137, 138, 139, 140, 141, 142, 143, 144, 145, 146, 147, 148, 149, 246, 151, 152, 153, 154, 155, 156, 157, 158, 159, 160, 161, 162, 163, 164, 165, 166, 167, 168, 169, 170, 171, 172, 173, 174, 175, 176, 177, 178, 179, 180, 181, 182, 183, 184, 185, 186, 187, 188, 52, 54, 189, 190, 191, 66, 192, 68, 193, 194, 195, 196, 197, 198, 199, 200, 201, 202, 203, 279, 280, 281, 282, 283, 284, 285, 286, 291, 292, 293, 294, 295, 296, 297, 298, 299, 300, 301, 302, 303, 304, 305, 306, 307, 308, 311, 287, 288, 289, 290, 313, 314, 315, 316, 317, 318, 319, 320, 321, 322, 323, 324, 309, 310, 312] (by decide +kernel) (by decide +kernel)
set_option maxRecDepth 20000 in
theorem gX11_errors_X11_look : GoodIn wsX11_errors (wsV RX11 186 RX11 yX11_look wsX11_look) := goodIn_app (goodIn_of _ (by decide +kernel)) ggX11_errors_X11_look
set_option maxRecDepth 20000 in
theorem ggX11_errors_X9_query : GoodIn wsX11_errors wsX9_query := goodIn_r _ [233, 234, 36, 291, 292, 293, 294, 295, 296, 297, 298, 299] (by decide +kernel) (by decide +kernel)
set_option maxRecDepth 20000 in
theorem gX11_errors_X9_query : GoodIn wsX11_errors (wsV RX11 94 RX9 yX9_query wsX9_query) := goodIn_app (goodIn_of _ (by decide +kernel)) ggX11_errors_X9_query
set_option maxRecDepth 20000 in
theorem ggX11_errors_X11_countPlainly : GoodIn wsX11_errors wsX11_countPlainly := goodIn_r _ [250, 251, 84, 85, 44, 86, 87, 46, 47, 38, 39, 23, 40, 25, 88, 56, 53, 57, 58, 89, 90, 91, 252, 253, 254, 255, 256, 257, 258, 259, 260, 261, 262, 202, 203, 263, 264, 265, 132, 266, 1, 267, 42, 43, 45, 268, 52, 54, 269, 209, 210, 211, 176, 177, 212, 186, 187, 270, 214, 215, 66, 216, 68, 309, 310, 311, 279, 280, 281, 282, 283, 284, 285, 286, 300, 301, 302, 303, 304, 305, 306, 307, 308, 312] (by decide +kernel) (by decide +kernel)
set_option maxRecDepth 20000 in
theorem gX11_errors_X11_countPlainly : GoodIn wsX11_errors (wsV RX11 345 RX11 yX11_countPlainly wsX11_countPlainly) := goodIn_app (goodIn_of _ (by decide +kernel)) ggX11_errors_X11_countPlainly
set_option maxRecDepth 20000 in
theorem ggX11_errors_X11_rowsWithoutReason : GoodIn wsX11_errors wsX11_rowsWithoutReason := goodIn_r _ [274, 1, 2, 270, 214, 215, 66, 216, 68, 275, 276, 277, 7, 278, 16, 37, 38, 39, 23, 40, 25, 213, 279, 280, 281, 282, 283, 284, 285, 286, 300, 301, 302, 303, 304, 305, 306, 307, 308, 312, 291, 292, 293, 294, 295, 296, 297, 298, 299, 311] (by decide +kernel) (by decide +kernel)
set_option maxRecDepth 20000 in
theorem gX11_errors_X11_rowsWithoutReason : GoodIn wsX11_errors (wsV RX11 349 RX11 yX11_rowsWithoutReason wsX11_rowsWithoutReason) := goodIn_app (goodIn_of _ (by decide +kernel)) ggX11_errors_X11_rowsWithoutReason
set_option maxRecDepth 20000 in
theorem ggX11_checksum_X4_refresh : GoodIn wsX11_checksum wsX4_refresh := goodIn_r _ [8, 9, 10, 11, 12, 13, 14, 15, 16, 17, 18, 7, 19, 20, 21, 22, 23, 24, 25, 26, 27, 28, 29, 30, 31, 32, 33, 34, 35, 36, 37, 38, 39, 40, 41, 42, 43, 44, 45, 46, 47, 48, 49, 50, 51, 52, 53, 54, 55, 56, 57, 58, 59, 60, 61, 62, 63, 64, 65, 66, 67, 68, 69, 70, 71, 72, 73, 74, 75, 76, 77, 78, 79, 80, 81, 82, 83, 84, 85, 86, 87, 88, 89, 90, 91, 92, 93, 94, 95, 96, 97, 98, 99, 100, 101, 102, 103, 104, 105, 106, 107, 108, 109, 110, 111, 112, 113, 114, 115, 116, 117, 118, 119, 120, 121, 122, 123, 124, 125, 126, 127, 128, 129, 130, 131, 132, 133, 134, 135, 136, 137, 138, 139, 140, 141, 142, 143, 144, 145, 146, 147, 148, 149, 150, 151, 152, 153, 154, 155, 156, 157, 158, 159, 160, 161, 162, 163, 164, 165, 166, 167, 168, 169, 170, 171, 172, 173, 174, 175, 176, 177, 178, 179, 180, 181, 182, 183, 184, 185, 186, 187, 188, 189, 190, 191, 192, 193, 194, 195, 196, 197, 198, 199, 200, 201, 202, 203, 204, 205, 206, 207, 208, 209, 210, 211, 212, 213, 214, 215, 216, 217, 218, 219, 220, 221, 222, 223, 224, 271, 272, 273, 274, 275, 276, 277, 278, 279, 262, 263, 264, 265, 266, 267, 268, 269, 270, 284, 285, 286, 287, 288, 289, 290, 291, 292, 293, 294, 295, 296, 297, 298, 299] (by decide +kernel) (by decide +kernel)
set_option maxRecDepth 20000 in
theorem gX11_checksum_X4_refresh : GoodIn wsX11_checksum (wsV RX11 182 RX4 yX4_refresh wsX4_refresh) := goodIn_app (goodIn_of _ (by decide +kernel)) ggX11_checksum_X4_refresh
set_option maxRecDepth 20000 in
theorem ggX11_checksum_X7_has : GoodIn wsX11_checksum wsX7_has := goodIn_r _ [216, 68, 287] (by decide +kernel) (by decide +kernel)
set_option maxRecDepth 20000 in
theorem gX11_checksum_X7_has : GoodIn wsX11_checksum (wsV RX11 125 RX7 yX7_has wsX7_has) := goodIn_app (goodIn_of _ (by decide +kernel)) ggX11_checksum_X7_has
set_option maxRecDepth 20000 in
theorem ggX11_checksum_X6_at : GoodIn wsX11_checksum wsX6_at := goodIn_r _ [40, 25, 286] (by decide +kernel) (by decide +kernel)
set_option maxRecDepth 20000 in
theorem gX11_checksum_X6_at : GoodIn wsX11_checksum (wsV RX11 159 RX6 yX6_at wsX6_at) := goodIn_app (goodIn_of _ (by decide +kernel)) ggX11_checksum_X6_at
set_option maxRecDepth 20000 in
theorem ggX11_checksum_X11_withRow : GoodIn wsX11_checksum wsX11_withRow := goodIn_r _ [229, 230, 231, 132, 232] (by decide +kernel) (by decide +kernel)
set_option maxRecDepth 20000 in
theorem gX11_checksum_X11_withRow : GoodIn wsX11_checksum (va_wsS RX11 352 yX11_withRow wsX11_withRow) := goodIn_app (goodIn_of _ (by decide +kernel)) ggX11_checksum_X11_withRow
set_option maxRecDepth 20000 in
theorem ggX11_checksum_X11_look : GoodIn wsX11_checksum wsX11_look := goodIn_r _ [236, 237, 3, 2, 1, 238, 239, 240, 33, 241, 242, 36, 226, 38, 39, 23, 40, 25, 243, 244, 245, 246, 247, 248, 249, 250, 251, 99, 28, 100, 252, 107, 108, 109, 110, 111, 112, 113, 114, 115, 116, 117, 118, 119, 120, 121, 44, 122, 87, 123, 42, 43, 45, 46, 47, 124, 56, 53, 57, 58, 125, 126, 127, 128, 129, 60, 61, 62, 130, 84, 85, 86, 88, 89, 90, 91, 131, 132, 133, 134, 135, 136, 137, 138, 139, 140, 141, 142, 143, 144, 145, 146, 147, 148, 149, 253, 151, 152, 153, 154, 155, 156, 157, 158, 159, 160, 161, 162, 163, 164, 165, 166, 167, 168, 169, 170, 171, 172, 173, 174, 175, 176, 177, 178, 179, 180, 181, 182, 183, 184, 185, 186, 187, 188, 52, 54, 189, 190, 191, 66, 192, 68, 193, 194, 195, 196, 197, 198, 199, 200, 201, 202, 203, 254, 255, 256, 257, 258, 259, 260, 261, 262, 263, 264, 265, 266, 267, 268, 269, 270, 271, 272, 273, 274, 275, 276, 277, 278, 279, 286, 280, 281, 282, 283, 288, 289, 290, 291, 292, 293, 294, 295, 296, 297, 298, 299, 284, 285, 287] (by decide +kernel) (by decide +kernel)
set_option maxRecDepth 20000 in
theorem gX11_checksum_X11_look : GoodIn wsX11_checksum (wsV RX11 186 RX11 yX11_look wsX11_look) := goodIn_app (goodIn_of _ (by decide +kernel)) ggX11_checksum_X11_look
set_option maxRecDepth 20000 in
theorem ggX11_needColumn_X6_at : GoodIn wsX11_needColumn wsX6_at := goodIn_r _ [8, 9, 27] (by decide +kernel) (by decide +kernel)
set_option maxRecDepth 20000 in
theorem gX11_needColumn_X6_at : GoodIn wsX11_needColumn (wsV RX11 159 RX6 yX6_at wsX6_at) := goodIn_app (goodIn_of _ (by decide +kernel)) ggX11_needColumn_X6_at
set_option maxRecDepth 20000 in
theorem ggX11_needAtom_X9_query : GoodIn wsX11_needAtom wsX9_query := goodIn_r _ [8, 9, 10, 21, 22, 23, 24, 25, 26, 27, 28, 29] (by decide +kernel) (by decide +kernel)
set_option maxRecDepth 20000 in
theorem gX11_needAtom_X9_query : GoodIn wsX11_needAtom (wsV RX11 94 RX9 yX9_query wsX9_query) := goodIn_app (goodIn_of _ (by decide +kernel)) ggX11_needAtom_X9_query
set_option maxRecDepth 20000 in
theorem ggX11_needStanding_X9_query : GoodIn wsX11_needStanding wsX9_query := goodIn_r _ [8, 9, 10, 40, 41, 42, 43, 44, 45, 46, 47, 48] (by decide +kernel) (by decide +kernel)
set_option maxRecDepth 20000 in
theorem gX11_needStanding_X9_query : GoodIn wsX11_needStanding (wsV RX11 94 RX9 yX9_query wsX9_query) := goodIn_app (goodIn_of _ (by decide +kernel)) ggX11_needStanding_X9_query
set_option maxRecDepth 20000 in
theorem ggX11_needStanding_X2_variables : GoodIn wsX11_needStanding wsX2_variables := goodIn_r _ [15, 16, 17, 18, 19, 20, 21, 22, 23, 24, 25, 26, 27, 28, 29, 30, 31, 49, 50, 51] (by decide +kernel) (by decide +kernel)
set_option maxRecDepth 20000 in
theorem gX11_needStanding_X2_variables : GoodIn wsX11_needStanding (wsV RX11 365 RX2 yX2_variables wsX2_variables) := goodIn_app (goodIn_of _ (by decide +kernel)) ggX11_needStanding_X2_variables
set_option maxRecDepth 20000 in
theorem ggX11_needRow_X6_at : GoodIn wsX11_needRow wsX6_at := goodIn_r _ [8, 9, 31] (by decide +kernel) (by decide +kernel)
set_option maxRecDepth 20000 in
theorem gX11_needRow_X6_at : GoodIn wsX11_needRow (wsV RX11 159 RX6 yX6_at wsX6_at) := goodIn_app (goodIn_of _ (by decide +kernel)) ggX11_needRow_X6_at
set_option maxRecDepth 20000 in
theorem ggX11_needRow_X11_areInColumns : GoodIn wsX11_needRow wsX11_areInColumns := goodIn_r _ [13] (by decide +kernel) (by decide +kernel)
set_option maxRecDepth 20000 in
theorem gX11_needRow_X11_areInColumns : GoodIn wsX11_needRow (va_wsS RX11 373 yX11_areInColumns wsX11_areInColumns) := goodIn_app (goodIn_of _ (by decide +kernel)) ggX11_needRow_X11_areInColumns
set_option maxRecDepth 20000 in
theorem ggX11_needVariables_X6_at : GoodIn wsX11_needVariables wsX6_at := goodIn_r _ [8, 9, 31] (by decide +kernel) (by decide +kernel)
set_option maxRecDepth 20000 in
theorem gX11_needVariables_X6_at : GoodIn wsX11_needVariables (wsV RX11 159 RX6 yX6_at wsX6_at) := goodIn_app (goodIn_of _ (by decide +kernel)) ggX11_needVariables_X6_at
set_option maxRecDepth 20000 in
theorem ggX11_needVariables_X11_areInColumns : GoodIn wsX11_needVariables wsX11_areInColumns := goodIn_r _ [13] (by decide +kernel) (by decide +kernel)
set_option maxRecDepth 20000 in
theorem gX11_needVariables_X11_areInColumns : GoodIn wsX11_needVariables (va_wsS RX11 373 yX11_areInColumns wsX11_areInColumns) := goodIn_app (goodIn_of _ (by decide +kernel)) ggX11_needVariables_X11_areInColumns
set_option maxRecDepth 20000 in
theorem ggX11_isOrder_X11_digitOf : GoodIn wsX11_isOrder wsX11_digitOf := goodIn_r _ [4] (by decide +kernel) (by decide +kernel)
set_option maxRecDepth 20000 in
theorem gX11_isOrder_X11_digitOf : GoodIn wsX11_isOrder (va_wsS RX11 381 yX11_digitOf wsX11_digitOf) := goodIn_app (goodIn_of _ (by decide +kernel)) ggX11_isOrder_X11_digitOf
set_option maxRecDepth 20000 in
theorem ggX11_withRow_X11_valueIn : GoodIn wsX11_withRow wsX11_valueIn := goodIn_r _ [4] (by decide +kernel) (by decide +kernel)
set_option maxRecDepth 20000 in
theorem gX11_withRow_X11_valueIn : GoodIn wsX11_withRow (va_wsS RX11 247 yX11_valueIn wsX11_valueIn) := goodIn_app (goodIn_of _ (by decide +kernel)) ggX11_withRow_X11_valueIn
set_option maxRecDepth 20000 in
theorem ggX11_keepForUndo_X5_keep : GoodIn wsX11_keepForUndo wsX5_keep := goodIn_r _ [8, 9, 10, 11, 12, 13, 7, 14, 15, 16, 17, 18, 19, 20, 21, 22, 23, 24, 25, 26, 27, 28, 29, 30, 31, 32, 33, 34, 35, 36, 37, 38, 39, 40, 41, 42, 43, 44, 45, 46, 47, 48, 49, 50, 51, 52, 53, 54, 55, 56, 57, 66, 67, 68, 69, 70, 71, 72, 73, 74, 75, 76, 77, 78, 79, 80, 81] (by decide +kernel) (by decide +kernel)
set_option maxRecDepth 20000 in
theorem gX11_keepForUndo_X5_keep : GoodIn wsX11_keepForUndo (wsV RX11 384 RX5 yX5_keep wsX5_keep) := goodIn_app (goodIn_of _ (by decide +kernel)) ggX11_keepForUndo_X5_keep
set_option maxRecDepth 20000 in
theorem ggX11_look_X9_query : GoodIn wsX11_look wsX9_query := goodIn_r _ [9, 10, 11, 161, 162, 163, 164, 165, 166, 167, 168, 169] (by decide +kernel) (by decide +kernel)
set_option maxRecDepth 20000 in
theorem gX11_look_X9_query : GoodIn wsX11_look (wsV RX11 94 RX9 yX9_query wsX9_query) := goodIn_app (goodIn_of _ (by decide +kernel)) ggX11_look_X9_query
set_option maxRecDepth 20000 in
theorem ggX11_look_X6_at : GoodIn wsX11_look wsX6_at := goodIn_r _ [16, 17, 179] (by decide +kernel) (by decide +kernel)
set_option maxRecDepth 20000 in
theorem gX11_look_X6_at : GoodIn wsX11_look (wsV RX11 159 RX6 yX6_at wsX6_at) := goodIn_app (goodIn_of _ (by decide +kernel)) ggX11_look_X6_at
set_option maxRecDepth 20000 in
theorem ggX11_look_X0_find : GoodIn wsX11_look wsX0_find := goodIn_r _ [22, 23, 24, 25, 26, 27, 28, 29, 30, 31, 32, 33, 34, 35, 36, 37, 38, 39, 40, 41, 42, 43, 44, 45, 46, 47, 48, 49, 50, 51, 52, 53, 54, 13, 14, 15, 16, 17, 55, 56, 57, 58, 59, 60, 61, 62, 63, 64, 65, 66, 67, 68, 69, 70, 71, 72, 73, 74, 75, 76, 77, 78, 79, 80, 81, 82, 83, 84, 85, 86, 87, 88, 89, 90, 91, 92, 93, 94, 95, 96, 97, 98, 99, 100, 101, 102, 103, 104, 105, 106, 107, 108, 109, 110, 111, 112, 113, 114, 115, 116, 117, 118, 119, 120, 121, 122, 123, 124, 125, 126, 127, 128, 129, 130, 131, 132, 133, 134, 135, 136, 137, 138, 139, 140, 141, 142, 143, 144, 145, 146, 147, 148, 149, 150, 151, 152, 180, 181, 182, 183, 184, 185, 186, 187, 188, 189, 190, 191, 192, 193, 194, 195, 196, 197, 179, 198] (by decide +kernel) (by decide +kernel)
set_option maxRecDepth 20000 in
theorem gX11_look_X0_find : GoodIn wsX11_look (wsV RX11 387 RX0 yX0_find wsX0_find) := goodIn_app (goodIn_of _ (by decide +kernel)) ggX11_look_X0_find
set_option maxRecDepth 20000 in
theorem ggX11_markMade_X7_clear : GoodIn wsX11_markMade wsX7_clear := goodIn_r _ [7, 8, 9, 10, 11, 12, 63] (by decide +kernel) (by decide +kernel)
set_option maxRecDepth 20000 in
theorem gX11_markMade_X7_clear : GoodIn wsX11_markMade (wsV RX11 391 RX7 yX7_clear wsX7_clear) := goodIn_app (goodIn_of _ (by decide +kernel)) ggX11_markMade_X7_clear
set_option maxRecDepth 20000 in
theorem ggX11_markMade_X0_pickAfter : GoodIn wsX11_markMade wsX0_pickAfter := goodIn_r _ [17, 18, 19, 20, 21, 22, 16, 23, 24, 25, 26, 27, 28, 29, 30, 31, 32, 33, 34, 59, 60, 61, 62, 64, 65, 66, 67, 68, 69, 70, 71, 72, 73, 74, 75, 76] (by decide +kernel) (by decide +kernel)
set_option maxRecDepth 20000 in
theorem gX11_markMade_X0_pickAfter : GoodIn wsX11_markMade (wsV RX11 279 RX0 yX0_pickAfter wsX0_pickAfter) := goodIn_app (goodIn_of _ (by decide +kernel)) ggX11_markMade_X0_pickAfter
set_option maxRecDepth 20000 in
theorem ggX11_markMade_X1_table : GoodIn wsX11_markMade wsX1_table := goodIn_r _ [37] (by decide +kernel) (by decide +kernel)
set_option maxRecDepth 20000 in
theorem gX11_markMade_X1_table : GoodIn wsX11_markMade (va_wsS RX11 193 yX1_table wsX1_table) := goodIn_app (goodIn_of _ (by decide +kernel)) ggX11_markMade_X1_table
set_option maxRecDepth 20000 in
theorem ggX11_markMade_X1_row : GoodIn wsX11_markMade wsX1_row := goodIn_r _ [40, 41, 42, 33, 43, 44, 45, 46] (by decide +kernel) (by decide +kernel)
set_option maxRecDepth 20000 in
theorem gX11_markMade_X1_row : GoodIn wsX11_markMade (va_wsS RX11 392 yX1_row wsX1_row) := goodIn_app (goodIn_of _ (by decide +kernel)) ggX11_markMade_X1_row
set_option maxRecDepth 20000 in
theorem ggX11_markMade_X7_add : GoodIn wsX11_markMade wsX7_add := goodIn_r _ [50, 8, 63] (by decide +kernel) (by decide +kernel)
set_option maxRecDepth 20000 in
theorem gX11_markMade_X7_add : GoodIn wsX11_markMade (wsV RX11 73 RX7 yX7_add wsX7_add) := goodIn_app (goodIn_of _ (by decide +kernel)) ggX11_markMade_X7_add
set_option maxRecDepth 20000 in
theorem ggX11_rowTotal_X7_size : GoodIn wsX11_rowTotal wsX7_size := goodIn_r _ [7, 8, 9, 10, 6, 11, 12, 13, 14, 15, 16, 17, 18, 19, 46] (by decide +kernel) (by decide +kernel)
set_option maxRecDepth 20000 in
theorem gX11_rowTotal_X7_size : GoodIn wsX11_rowTotal (wsV RX11 131 RX7 yX7_size wsX7_size) := goodIn_app (goodIn_of _ (by decide +kernel)) ggX11_rowTotal_X7_size
set_option maxRecDepth 20000 in
theorem ggX11_countPlainly_X2_variables : GoodIn wsX11_countPlainly wsX2_variables := goodIn_r _ [5, 6, 7, 8, 9, 10, 11, 12, 13, 14, 15, 16, 17, 18, 19, 20, 21, 63, 64, 65] (by decide +kernel) (by decide +kernel)
set_option maxRecDepth 20000 in
theorem gX11_countPlainly_X2_variables : GoodIn wsX11_countPlainly (wsV RX11 365 RX2 yX2_variables wsX2_variables) := goodIn_app (goodIn_of _ (by decide +kernel)) ggX11_countPlainly_X2_variables
set_option maxRecDepth 20000 in
theorem ggX11_countPlainly_J6_bitCount_0f7a4 : GoodIn wsX11_countPlainly wsJ6_bitCount_0f7a4 := goodIn_r _ [25, 26, 27, 28] (by decide +kernel) (by decide +kernel)
set_option maxRecDepth 20000 in
theorem gX11_countPlainly_J6_bitCount_0f7a4 : GoodIn wsX11_countPlainly (va_wsS RX11 255 yJ6_bitCount_0f7a4 wsJ6_bitCount_0f7a4) := goodIn_app (goodIn_of _ (by decide +kernel)) ggX11_countPlainly_J6_bitCount_0f7a4
set_option maxRecDepth 20000 in
theorem ggX11_countPlainly_X1_spread : GoodIn wsX11_countPlainly wsX1_spread := goodIn_r _ [31, 32, 33, 16, 34] (by decide +kernel) (by decide +kernel)
set_option maxRecDepth 20000 in
theorem gX11_countPlainly_X1_spread : GoodIn wsX11_countPlainly (va_wsS RX11 395 yX1_spread wsX1_spread) := goodIn_app (goodIn_of _ (by decide +kernel)) ggX11_countPlainly_X1_spread
set_option maxRecDepth 20000 in
theorem ggX11_countPlainly_X11_allFit : GoodIn wsX11_countPlainly wsX11_allFit := goodIn_r _ [39, 40, 41, 42, 43, 4, 44, 7, 8, 9, 10, 11, 12, 13, 45, 46, 16, 47, 48, 49, 50, 51, 52, 53, 54, 55, 56, 57, 58, 59, 60, 61, 62, 63, 64, 66, 67, 68, 69, 70, 71, 72, 73, 74, 75, 76, 77, 78, 79, 80, 81, 82, 65, 83] (by decide +kernel) (by decide +kernel)
set_option maxRecDepth 20000 in
theorem gX11_countPlainly_X11_allFit : GoodIn wsX11_countPlainly (wsV RX11 398 RX11 yX11_allFit wsX11_allFit) := goodIn_app (goodIn_of _ (by decide +kernel)) ggX11_countPlainly_X11_allFit
set_option maxRecDepth 20000 in
theorem ggX11_allFit_X2_at : GoodIn wsX11_allFit wsX2_at := goodIn_r _ [6, 7, 8, 9, 10, 11, 12, 13, 33, 34, 52] (by decide +kernel) (by decide +kernel)
set_option maxRecDepth 20000 in
theorem gX11_allFit_X2_at : GoodIn wsX11_allFit (wsV RX11 189 RX2 yX2_at wsX2_at) := goodIn_app (goodIn_of _ (by decide +kernel)) ggX11_allFit_X2_at
set_option maxRecDepth 20000 in
theorem ggX11_allFit_X1_table : GoodIn wsX11_allFit wsX1_table := goodIn_r _ [17] (by decide +kernel) (by decide +kernel)
set_option maxRecDepth 20000 in
theorem gX11_allFit_X1_table : GoodIn wsX11_allFit (va_wsS RX11 193 yX1_table wsX1_table) := goodIn_app (goodIn_of _ (by decide +kernel)) ggX11_allFit_X1_table
set_option maxRecDepth 20000 in
theorem ggX11_allFit_X1_row : GoodIn wsX11_allFit wsX1_row := goodIn_r _ [20, 21, 22, 16, 23, 24, 25, 26] (by decide +kernel) (by decide +kernel)
set_option maxRecDepth 20000 in
theorem gX11_allFit_X1_row : GoodIn wsX11_allFit (va_wsS RX11 392 yX1_row wsX1_row) := goodIn_app (goodIn_of _ (by decide +kernel)) ggX11_allFit_X1_row
set_option maxRecDepth 20000 in
theorem ggX11_allFit_X7_has : GoodIn wsX11_allFit wsX7_has := goodIn_r _ [31, 32, 53] (by decide +kernel) (by decide +kernel)
set_option maxRecDepth 20000 in
theorem gX11_allFit_X7_has : GoodIn wsX11_allFit (wsV RX11 125 RX7 yX7_has wsX7_has) := goodIn_app (goodIn_of _ (by decide +kernel)) ggX11_allFit_X7_has
set_option maxRecDepth 20000 in
theorem ggX11_rowsWithoutReason_X7_has : GoodIn wsX11_rowsWithoutReason wsX7_has := goodIn_r _ [7, 8, 39] (by decide +kernel) (by decide +kernel)
set_option maxRecDepth 20000 in
theorem gX11_rowsWithoutReason_X7_has : GoodIn wsX11_rowsWithoutReason (wsV RX11 125 RX7 yX7_has wsX7_has) := goodIn_app (goodIn_of _ (by decide +kernel)) ggX11_rowsWithoutReason_X7_has
set_option maxRecDepth 20000 in
theorem ggX11_rowsWithoutReason_X4_reasonsOf : GoodIn wsX11_rowsWithoutReason wsX4_reasonsOf := goodIn_r _ [13, 14, 15, 16, 17, 18, 19, 20, 21, 4, 5, 6, 7, 8, 30, 31, 32, 33, 34, 35, 36, 37, 38, 40, 41, 42, 43, 44, 45, 46, 47, 48, 49, 39] (by decide +kernel) (by decide +kernel)
set_option maxRecDepth 20000 in
theorem gX11_rowsWithoutReason_X4_reasonsOf : GoodIn wsX11_rowsWithoutReason (wsV RX11 231 RX4 yX4_reasonsOf wsX4_reasonsOf) := goodIn_app (goodIn_of _ (by decide +kernel)) ggX11_rowsWithoutReason_X4_reasonsOf
