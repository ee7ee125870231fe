set_option maxRecDepth 20000 in
theorem ggX8_choose_X6_at : GoodIn wsX8_choose wsX6_at := goodIn_r _ [12, 13, 34] (by decide +kernel) (by decide +kernel)
set_option maxRecDepth 20000 in
theorem gX8_choose_X6_at : GoodIn wsX8_choose (wsV RX8 100 RX6 yX6_at wsX6_at) := goodIn_app (goodIn_of _ (by decide +kernel)) ggX8_choose_X6_at
set_option maxRecDepth 20000 in
theorem ggX8_choose_X1_withValue : GoodIn wsX8_choose wsX1_withValue := goodIn_r _ [17] (by decide +kernel) (by decide +kernel)
set_option maxRecDepth 20000 in
theorem gX8_choose_X1_withValue : GoodIn wsX8_choose (va_wsS RX8 114 yX1_withValue wsX1_withValue) := goodIn_app (goodIn_of _ (by decide +kernel)) ggX8_choose_X1_withValue
set_option maxRecDepth 20000 in
theorem ggX8_choose_X6_put : GoodIn wsX8_choose wsX6_put := goodIn_r _ [21, 13, 34] (by decide +kernel) (by decide +kernel)
set_option maxRecDepth 20000 in
theorem gX8_choose_X6_put : GoodIn wsX8_choose (wsV RX8 73 RX6 yX6_put wsX6_put) := goodIn_app (goodIn_of _ (by decide +kernel)) ggX8_choose_X6_put
set_option maxRecDepth 20000 in
theorem ggX8_least_X1_variable : GoodIn wsX8_least wsX1_variable := goodIn_r _ [9] (by decide +kernel) (by decide +kernel)
set_option maxRecDepth 20000 in
theorem gX8_least_X1_variable : GoodIn wsX8_least (va_wsS RX8 118 yX1_variable wsX1_variable) := goodIn_app (goodIn_of _ (by decide +kernel)) ggX8_least_X1_variable
set_option maxRecDepth 20000 in
theorem ggX8_least_X8_mask : GoodIn wsX8_least wsX8_mask := goodIn_r _ [14, 4, 5, 34, 35, 36, 37, 38, 39, 40, 41, 42, 43, 44, 45] (by decide +kernel) (by decide +kernel)
set_option maxRecDepth 20000 in
theorem gX8_least_X8_mask : GoodIn wsX8_least (wsV RX8 123 RX8 yX8_mask wsX8_mask) := goodIn_app (goodIn_of _ (by decide +kernel)) ggX8_least_X8_mask
set_option maxRecDepth 20000 in
theorem ggX8_least_X1_hasValue : GoodIn wsX8_least wsX1_hasValue := goodIn_r _ [17] (by decide +kernel) (by decide +kernel)
set_option maxRecDepth 20000 in
theorem gX8_least_X1_hasValue : GoodIn wsX8_least (va_wsS RX8 133 yX1_hasValue wsX1_hasValue) := goodIn_app (goodIn_of _ (by decide +kernel)) ggX8_least_X1_hasValue
set_option maxRecDepth 20000 in
theorem ggX8_least_X1_valueOf : GoodIn wsX8_least wsX1_valueOf := goodIn_r _ [20] (by decide +kernel) (by decide +kernel)
set_option maxRecDepth 20000 in
theorem gX8_least_X1_valueOf : GoodIn wsX8_least (va_wsS RX8 137 yX1_valueOf wsX1_valueOf) := goodIn_app (goodIn_of _ (by decide +kernel)) ggX8_least_X1_valueOf
set_option maxRecDepth 20000 in
theorem ggX8_least_X1_table : GoodIn wsX8_least wsX1_table := goodIn_r _ [23] (by decide +kernel) (by decide +kernel)
set_option maxRecDepth 20000 in
theorem gX8_least_X1_table : GoodIn wsX8_least (va_wsS RX8 140 yX1_table wsX1_table) := goodIn_app (goodIn_of _ (by decide +kernel)) ggX8_least_X1_table
set_option maxRecDepth 20000 in
theorem ggX8_least_X7_word : GoodIn wsX8_least wsX7_word := goodIn_r _ [28, 29, 46] (by decide +kernel) (by decide +kernel)
set_option maxRecDepth 20000 in
theorem gX8_least_X7_word : GoodIn wsX8_least (wsV RX8 143 RX7 yX7_word wsX7_word) := goodIn_app (goodIn_of _ (by decide +kernel)) ggX8_least_X7_word
set_option maxRecDepth 20000 in
theorem ggX8_least_X8_leastIn : GoodIn wsX8_least wsX8_leastIn := goodIn_r _ [33, 1, 2] (by decide +kernel) (by decide +kernel)
set_option maxRecDepth 20000 in
theorem gX8_least_X8_leastIn : GoodIn wsX8_least (wsV RX8 149 RX8 yX8_leastIn wsX8_leastIn) := goodIn_app (goodIn_of _ (by decide +kernel)) ggX8_least_X8_leastIn
