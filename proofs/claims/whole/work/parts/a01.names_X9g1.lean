set_option maxRecDepth 20000 in
theorem ggX9_init_X6_init : GoodIn wsX9_init wsX6_init := goodIn_r _ [22, 23, 2, 3, 24, 25, 45] (by decide +kernel) (by decide +kernel)
set_option maxRecDepth 20000 in
theorem gX9_init_X6_init : GoodIn wsX9_init (wsX6_init) := ggX9_init_X6_init
set_option maxRecDepth 20000 in
theorem ggX9_init_X7_init : GoodIn wsX9_init wsX7_init := goodIn_r _ [27, 28, 2, 3, 29, 30, 55] (by decide +kernel) (by decide +kernel)
set_option maxRecDepth 20000 in
theorem gX9_init_X7_init_n22 : GoodIn wsX9_init (wsX7_init) := ggX9_init_X7_init
set_option maxRecDepth 20000 in
theorem ggX9_init_X2_init : GoodIn wsX9_init wsX2_init := goodIn_r _ [32, 33, 2, 3, 34, 5, 6, 35, 36, 21, 22, 23, 24, 25, 45, 56, 57] (by decide +kernel) (by decide +kernel)
set_option maxRecDepth 20000 in
theorem gX9_init_X2_init_n42 : GoodIn wsX9_init (wsX2_init) := ggX9_init_X2_init
set_option maxRecDepth 20000 in
theorem ggX9_init_X6_fill : GoodIn wsX9_init wsX6_fill := goodIn_r _ [40, 25, 41, 42, 43, 44, 45] (by decide +kernel) (by decide +kernel)
set_option maxRecDepth 20000 in
theorem gX9_init_X6_fill : GoodIn wsX9_init (wsV RX9 47 RX6 yX6_fill wsX6_fill) := goodIn_app (goodIn_of _ (by decide +kernel)) ggX9_init_X6_fill
set_option maxRecDepth 20000 in
theorem ggX9_openTable_X6_put : GoodIn wsX9_openTable wsX6_put := goodIn_r _ [7, 8, 18] (by decide +kernel) (by decide +kernel)
set_option maxRecDepth 20000 in
theorem gX9_openTable_X6_put : GoodIn wsX9_openTable (wsV RX9 54 RX6 yX6_put wsX6_put) := goodIn_app (goodIn_of _ (by decide +kernel)) ggX9_openTable_X6_put
set_option maxRecDepth 20000 in
theorem ggX9_openRule_X6_put : GoodIn wsX9_openRule wsX6_put := goodIn_r _ [7, 8, 31] (by decide +kernel) (by decide +kernel)
set_option maxRecDepth 20000 in
theorem gX9_openRule_X6_put : GoodIn wsX9_openRule (wsV RX9 54 RX6 yX6_put wsX6_put) := goodIn_app (goodIn_of _ (by decide +kernel)) ggX9_openRule_X6_put
set_option maxRecDepth 20000 in
theorem ggX9_openRule_X9_body : GoodIn wsX9_openRule wsX9_body := goodIn_r _ [13, 14, 15, 22, 23, 24, 25, 26, 27, 28, 29, 30] (by decide +kernel) (by decide +kernel)
set_option maxRecDepth 20000 in
theorem gX9_openRule_X9_body : GoodIn wsX9_openRule (wsV RX9 61 RX9 yX9_body wsX9_body) := goodIn_app (goodIn_of _ (by decide +kernel)) ggX9_openRule_X9_body
set_option maxRecDepth 20000 in
theorem ggX9_openRule_X2_clear : GoodIn wsX9_openRule wsX2_clear := goodIn_r _ [20, 21, 32, 33] (by decide +kernel) (by decide +kernel)
set_option maxRecDepth 20000 in
theorem gX9_openRule_X2_clear : GoodIn wsX9_openRule (wsV RX9 65 RX2 yX2_clear wsX2_clear) := goodIn_app (goodIn_of _ (by decide +kernel)) ggX9_openRule_X2_clear
set_option maxRecDepth 20000 in
theorem ggX9_closeRule_X6_at : GoodIn wsX9_closeRule wsX6_at := goodIn_r _ [7, 8, 40] (by decide +kernel) (by decide +kernel)
set_option maxRecDepth 20000 in
theorem gX9_closeRule_X6_at : GoodIn wsX9_closeRule (wsV RX9 68 RX6 yX6_at wsX6_at) := goodIn_app (goodIn_of _ (by decide +kernel)) ggX9_closeRule_X6_at
set_option maxRecDepth 20000 in
theorem ggX9_closeRule_X6_put : GoodIn wsX9_closeRule wsX6_put := goodIn_r _ [12, 8, 40] (by decide +kernel) (by decide +kernel)
set_option maxRecDepth 20000 in
theorem gX9_closeRule_X6_put : GoodIn wsX9_closeRule (wsV RX9 54 RX6 yX6_put wsX6_put) := goodIn_app (goodIn_of _ (by decide +kernel)) ggX9_closeRule_X6_put
set_option maxRecDepth 20000 in
theorem ggX9_closeRule_X9_body : GoodIn wsX9_closeRule wsX9_body := goodIn_r _ [17, 18, 19, 31, 32, 33, 34, 35, 36, 37, 38, 39] (by decide +kernel) (by decide +kernel)
set_option maxRecDepth 20000 in
theorem gX9_closeRule_X9_body : GoodIn wsX9_closeRule (wsV RX9 61 RX9 yX9_body wsX9_body) := goodIn_app (goodIn_of _ (by decide +kernel)) ggX9_closeRule_X9_body
set_option maxRecDepth 20000 in
theorem ggX9_closeRule_X2_copyFrom : GoodIn wsX9_closeRule wsX2_copyFrom := goodIn_r _ [24, 25, 26, 27, 28, 29, 6, 30, 8, 41, 42, 40] (by decide +kernel) (by decide +kernel)
set_option maxRecDepth 20000 in
theorem gX9_closeRule_X2_copyFrom : GoodIn wsX9_closeRule (wsV RX9 72 RX2 yX2_copyFrom wsX2_copyFrom) := goodIn_app (goodIn_of _ (by decide +kernel)) ggX9_closeRule_X2_copyFrom
set_option maxRecDepth 20000 in
theorem ggX9_rests_X9_body : GoodIn wsX9_rests wsX9_body := goodIn_r _ [6, 7, 8, 32, 33, 34, 35, 36, 37, 38, 39, 40] (by decide +kernel) (by decide +kernel)
set_option maxRecDepth 20000 in
theorem gX9_rests_X9_body : GoodIn wsX9_rests (wsV RX9 61 RX9 yX9_body wsX9_body) := goodIn_app (goodIn_of _ (by decide +kernel)) ggX9_rests_X9_body
set_option maxRecDepth 20000 in
theorem ggX9_rests_X2_variables : GoodIn wsX9_rests wsX2_variables := goodIn_r _ [13, 14, 15, 16, 17, 18, 19, 20, 21, 22, 23, 24, 25, 26, 27, 28, 29, 41, 42, 43] (by decide +kernel) (by decide +kernel)
set_option maxRecDepth 20000 in
theorem gX9_rests_X2_variables : GoodIn wsX9_rests (wsV RX9 76 RX2 yX2_variables wsX2_variables) := goodIn_app (goodIn_of _ (by decide +kernel)) ggX9_rests_X2_variables
set_option maxRecDepth 20000 in
theorem ggX9_rests_X6_at : GoodIn wsX9_rests wsX6_at := goodIn_r _ [20, 21, 43] (by decide +kernel) (by decide +kernel)
set_option maxRecDepth 20000 in
theorem gX9_rests_X6_at : GoodIn wsX9_rests (wsV RX9 68 RX6 yX6_at wsX6_at) := goodIn_app (goodIn_of _ (by decide +kernel)) ggX9_rests_X6_at
set_option maxRecDepth 20000 in
theorem ggX9_rests_X1_variables : GoodIn wsX9_rests wsX1_variables := goodIn_r _ [29] (by decide +kernel) (by decide +kernel)
set_option maxRecDepth 20000 in
theorem gX9_rests_X1_variables : GoodIn wsX9_rests (va_wsS RX9 80 yX1_variables wsX1_variables) := goodIn_app (goodIn_of _ (by decide +kernel)) ggX9_rests_X1_variables
set_option maxRecDepth 20000 in
theorem ggX9_copyFrom_X6_copyFrom : GoodIn wsX9_copyFrom wsX6_copyFrom := goodIn_r _ [11, 12, 48] (by decide +kernel) (by decide +kernel)
set_option maxRecDepth 20000 in
theorem gX9_copyFrom_X6_copyFrom : GoodIn wsX9_copyFrom (wsV RX9 84 RX6 yX6_copyFrom wsX6_copyFrom) := goodIn_app (goodIn_of _ (by decide +kernel)) ggX9_copyFrom_X6_copyFrom
set_option maxRecDepth 20000 in
theorem ggX9_copyFrom_X7_copyFrom : GoodIn wsX9_copyFrom wsX7_copyFrom := goodIn_r _ [17, 18, 49] (by decide +kernel) (by decide +kernel)
set_option maxRecDepth 20000 in
theorem gX9_copyFrom_X7_copyFrom : GoodIn wsX9_copyFrom (wsV RX9 87 RX7 yX7_copyFrom wsX7_copyFrom) := goodIn_app (goodIn_of _ (by decide +kernel)) ggX9_copyFrom_X7_copyFrom
set_option maxRecDepth 20000 in
theorem ggX9_copyFrom_X9_query : GoodIn wsX9_copyFrom wsX9_query := goodIn_r _ [23, 24, 25, 39, 40, 41, 42, 43, 44, 45, 46, 47] (by decide +kernel) (by decide +kernel)
set_option maxRecDepth 20000 in
theorem gX9_copyFrom_X9_query : GoodIn wsX9_copyFrom (wsV RX9 90 RX9 yX9_query wsX9_query) := goodIn_app (goodIn_of _ (by decide +kernel)) ggX9_copyFrom_X9_query
set_option maxRecDepth 20000 in
theorem ggX9_copyFrom_X2_copyFrom : GoodIn wsX9_copyFrom wsX2_copyFrom := goodIn_r _ [30, 31, 32, 33, 8, 9, 10, 11, 12, 50, 51, 48] (by decide +kernel) (by decide +kernel)
set_option maxRecDepth 20000 in
theorem gX9_copyFrom_X2_copyFrom : GoodIn wsX9_copyFrom (wsV RX9 72 RX2 yX2_copyFrom wsX2_copyFrom) := goodIn_app (goodIn_of _ (by decide +kernel)) ggX9_copyFrom_X2_copyFrom
set_option maxRecDepth 20000 in
theorem ggX9_copyFrom_X9_body : GoodIn wsX9_copyFrom wsX9_body := goodIn_r _ [37, 38, 25, 39, 40, 41, 42, 43, 44, 45, 46, 47] (by decide +kernel) (by decide +kernel)
set_option maxRecDepth 20000 in
theorem gX9_copyFrom_X9_body : GoodIn wsX9_copyFrom (wsV RX9 61 RX9 yX9_body wsX9_body) := goodIn_app (goodIn_of _ (by decide +kernel)) ggX9_copyFrom_X9_body
