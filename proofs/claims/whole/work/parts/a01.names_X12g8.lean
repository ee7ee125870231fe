set_option maxRecDepth 20000 in
theorem ggX12_factShare_X12_rowsOf : GoodIn wsX12_factShare wsX12_rowsOf := goodIn_r _ [11, 12, 13, 14, 15, 16, 17, 18, 19, 20, 21, 22, 23, 24, 25, 26, 27] (by decide +kernel) (by decide +kernel)
set_option maxRecDepth 20000 in
theorem gX12_factShare_X12_rowsOf : GoodIn wsX12_factShare (wsV RX12 242 RX12 yX12_rowsOf wsX12_rowsOf) := goodIn_app (goodIn_of _ (by decide +kernel)) ggX12_factShare_X12_rowsOf
set_option maxRecDepth 20000 in
theorem ggX12_errors_X12_reasonsOf : GoodIn wsX12_errors wsX12_reasonsOf := goodIn_r _ [8, 3, 2, 9, 10, 11, 7, 12, 13, 14, 15, 16, 17, 18, 19, 20, 21, 22, 23, 24, 25, 26, 27, 28, 29, 30, 31, 32, 33, 34, 35, 36, 37, 38, 39, 40, 41, 42, 43, 44, 45, 46, 47, 48, 49, 50, 51, 52, 53, 54, 55, 56, 57, 58, 59, 60, 61, 62, 63, 64, 65, 66, 67, 68, 69, 70, 71, 72, 73, 74, 75, 76, 77, 78, 79, 80] (by decide +kernel) (by decide +kernel)
set_option maxRecDepth 20000 in
theorem gX12_errors_X12_reasonsOf : GoodIn wsX12_errors (wsV RX12 245 RX12 yX12_reasonsOf wsX12_reasonsOf) := goodIn_app (goodIn_of _ (by decide +kernel)) ggX12_errors_X12_reasonsOf
set_option maxRecDepth 20000 in
theorem ggX12_checksum_X12_columnsOf : GoodIn wsX12_checksum wsX12_columnsOf := goodIn_r _ [8, 2, 59, 60, 61, 62, 63, 64, 65, 66, 67, 68, 69, 70, 71, 72, 73] (by decide +kernel) (by decide +kernel)
set_option maxRecDepth 20000 in
theorem gX12_checksum_X12_columnsOf : GoodIn wsX12_checksum (wsV RX12 68 RX12 yX12_columnsOf wsX12_columnsOf) := goodIn_app (goodIn_of _ (by decide +kernel)) ggX12_checksum_X12_columnsOf
set_option maxRecDepth 20000 in
theorem ggX12_checksum_X12_valueIn : GoodIn wsX12_checksum wsX12_valueIn := goodIn_r _ [11] (by decide +kernel) (by decide +kernel)
set_option maxRecDepth 20000 in
theorem gX12_checksum_X12_valueIn : GoodIn wsX12_checksum (va_wsS RX12 172 yX12_valueIn wsX12_valueIn) := goodIn_app (goodIn_of _ (by decide +kernel)) ggX12_checksum_X12_valueIn
set_option maxRecDepth 20000 in
theorem ggX12_checksum_X12_answersOf : GoodIn wsX12_checksum wsX12_answersOf := goodIn_r _ [15, 16, 17, 18, 7, 19, 20, 21, 22, 23, 24, 2, 25, 26, 27, 28, 29, 30, 31, 32, 33, 34, 35, 36, 37, 38, 39, 40, 41, 4, 5, 6, 8, 42, 43, 44, 45, 46, 47, 48, 49, 50, 51, 52, 53, 54, 3, 55, 56, 57, 58, 59, 60, 61, 62, 63, 64, 65, 66, 67, 68, 69, 70, 71, 72, 73] (by decide +kernel) (by decide +kernel)
set_option maxRecDepth 20000 in
theorem gX12_checksum_X12_answersOf : GoodIn wsX12_checksum (wsV RX12 251 RX12 yX12_answersOf wsX12_answersOf) := goodIn_app (goodIn_of _ (by decide +kernel)) ggX12_checksum_X12_answersOf
