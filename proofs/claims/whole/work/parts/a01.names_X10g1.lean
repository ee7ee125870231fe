set_option maxRecDepth 20000 in
theorem ggX10_init_X6_init : GoodIn wsX10_init wsX6_init := goodIn_r _ [10, 11, 2, 3, 12, 13, 14] (by decide +kernel) (by decide +kernel)
set_option maxRecDepth 20000 in
theorem gX10_init_X6_init : GoodIn wsX10_init (wsX6_init) := ggX10_init_X6_init
set_option maxRecDepth 20000 in
theorem ggX10_reduces_X2_at : GoodIn wsX10_reduces wsX2_at := goodIn_r _ [7, 8, 9, 10, 11, 12, 13, 14, 37, 38, 40] (by decide +kernel) (by decide +kernel)
set_option maxRecDepth 20000 in
theorem gX10_reduces_X2_at : GoodIn wsX10_reduces (wsV RX10 26 RX2 yX2_at wsX2_at) := goodIn_app (goodIn_of _ (by decide +kernel)) ggX10_reduces_X2_at
set_option maxRecDepth 20000 in
theorem ggX10_reduces_X1_variables : GoodIn wsX10_reduces wsX1_variables := goodIn_r _ [18] (by decide +kernel) (by decide +kernel)
set_option maxRecDepth 20000 in
theorem gX10_reduces_X1_variables : GoodIn wsX10_reduces (va_wsS RX10 30 yX1_variables wsX1_variables) := goodIn_app (goodIn_of _ (by decide +kernel)) ggX10_reduces_X1_variables
set_option maxRecDepth 20000 in
theorem ggX10_reduces_X6_put : GoodIn wsX10_reduces wsX6_put := goodIn_r _ [22, 14, 40] (by decide +kernel) (by decide +kernel)
set_option maxRecDepth 20000 in
theorem gX10_reduces_X6_put : GoodIn wsX10_reduces (wsV RX10 35 RX6 yX6_put wsX6_put) := goodIn_app (goodIn_of _ (by decide +kernel)) ggX10_reduces_X6_put
set_option maxRecDepth 20000 in
theorem ggX10_reduces_X10_takeVariable : GoodIn wsX10_reduces wsX10_takeVariable := goodIn_r _ [27, 1, 28, 10, 11, 12, 13, 14, 19, 20, 21, 22, 39, 40] (by decide +kernel) (by decide +kernel)
set_option maxRecDepth 20000 in
theorem gX10_reduces_X10_takeVariable : GoodIn wsX10_reduces (wsV RX10 40 RX10 yX10_takeVariable wsX10_takeVariable) := goodIn_app (goodIn_of _ (by decide +kernel)) ggX10_reduces_X10_takeVariable
set_option maxRecDepth 20000 in
theorem ggX10_reduces_X10_takeAtom : GoodIn wsX10_reduces wsX10_takeAtom := goodIn_r _ [32, 1, 28, 10, 11, 12, 13, 14, 33, 34, 35, 26, 36, 19, 20, 21, 22, 39, 40] (by decide +kernel) (by decide +kernel)
set_option maxRecDepth 20000 in
theorem gX10_reduces_X10_takeAtom : GoodIn wsX10_reduces (wsV RX10 44 RX10 yX10_takeAtom wsX10_takeAtom) := goodIn_app (goodIn_of _ (by decide +kernel)) ggX10_reduces_X10_takeAtom
set_option maxRecDepth 20000 in
theorem ggX10_reduces_X6_at : GoodIn wsX10_reduces wsX6_at := goodIn_r _ [13, 14, 40] (by decide +kernel) (by decide +kernel)
set_option maxRecDepth 20000 in
theorem gX10_reduces_X6_at : GoodIn wsX10_reduces (wsV RX10 47 RX6 yX6_at wsX6_at) := goodIn_app (goodIn_of _ (by decide +kernel)) ggX10_reduces_X6_at
set_option maxRecDepth 20000 in
theorem ggX10_takeVariable_X6_at : GoodIn wsX10_takeVariable wsX6_at := goodIn_r _ [6, 7, 13] (by decide +kernel) (by decide +kernel)
set_option maxRecDepth 20000 in
theorem gX10_takeVariable_X6_at : GoodIn wsX10_takeVariable (wsV RX10 47 RX6 yX6_at wsX6_at) := goodIn_app (goodIn_of _ (by decide +kernel)) ggX10_takeVariable_X6_at
set_option maxRecDepth 20000 in
theorem ggX10_takeVariable_X6_put : GoodIn wsX10_takeVariable wsX6_put := goodIn_r _ [11, 7, 13] (by decide +kernel) (by decide +kernel)
set_option maxRecDepth 20000 in
theorem gX10_takeVariable_X6_put : GoodIn wsX10_takeVariable (wsV RX10 35 RX6 yX6_put wsX6_put) := goodIn_app (goodIn_of _ (by decide +kernel)) ggX10_takeVariable_X6_put
set_option maxRecDepth 20000 in
theorem ggX10_takeAtom_X6_at : GoodIn wsX10_takeAtom wsX6_at := goodIn_r _ [6, 7, 18] (by decide +kernel) (by decide +kernel)
set_option maxRecDepth 20000 in
theorem gX10_takeAtom_X6_at : GoodIn wsX10_takeAtom (wsV RX10 47 RX6 yX6_at wsX6_at) := goodIn_app (goodIn_of _ (by decide +kernel)) ggX10_takeAtom_X6_at
set_option maxRecDepth 20000 in
theorem ggX10_takeAtom_X10_isSpare : GoodIn wsX10_takeAtom wsX10_isSpare := goodIn_r _ [12, 1, 2, 3, 4, 5, 6, 7, 17, 18] (by decide +kernel) (by decide +kernel)
set_option maxRecDepth 20000 in
theorem gX10_takeAtom_X10_isSpare : GoodIn wsX10_takeAtom (wsV RX10 48 RX10 yX10_isSpare wsX10_isSpare) := goodIn_app (goodIn_of _ (by decide +kernel)) ggX10_takeAtom_X10_isSpare
set_option maxRecDepth 20000 in
theorem ggX10_takeAtom_X6_put : GoodIn wsX10_takeAtom wsX6_put := goodIn_r _ [16, 7, 18] (by decide +kernel) (by decide +kernel)
set_option maxRecDepth 20000 in
theorem gX10_takeAtom_X6_put : GoodIn wsX10_takeAtom (wsV RX10 35 RX6 yX6_put wsX6_put) := goodIn_app (goodIn_of _ (by decide +kernel)) ggX10_takeAtom_X6_put
set_option maxRecDepth 20000 in
theorem ggX10_isSpare_X6_at : GoodIn wsX10_isSpare wsX6_at := goodIn_r _ [6, 7, 9] (by decide +kernel) (by decide +kernel)
set_option maxRecDepth 20000 in
theorem gX10_isSpare_X6_at : GoodIn wsX10_isSpare (wsV RX10 47 RX6 yX6_at wsX6_at) := goodIn_app (goodIn_of _ (by decide +kernel)) ggX10_isSpare_X6_at
