set_option maxRecDepth 20000 in
theorem ggX12_piece_X12_takes : GoodIn wsX12_piece wsX12_takes := goodIn_r _ [24, 6, 2, 1, 25, 26, 27, 28, 29, 30, 31, 32, 33, 34, 35, 36, 37, 38, 39, 40, 41, 42, 43, 44, 45, 46, 47, 48, 49, 50, 51, 52, 53, 54, 55, 56, 57, 58, 59, 60, 61, 62, 63, 64, 65, 66, 67, 68, 69, 70, 71, 72, 73, 74, 75, 76] (by decide +kernel) (by decide +kernel)
set_option maxRecDepth 20000 in
theorem gX12_piece_X12_takes : GoodIn wsX12_piece (wsV RX12 186 RX12 yX12_takes wsX12_takes) := goodIn_app (goodIn_of _ (by decide +kernel)) ggX12_piece_X12_takes
set_option maxRecDepth 20000 in
theorem ggX12_item_X12_isItem : GoodIn wsX12_item wsX12_isItem := goodIn_r _ [10, 11, 12, 13, 9, 14, 29, 30, 31, 32, 33, 34, 35, 36, 37, 38, 39, 40, 41, 42, 43, 44, 45, 46, 47, 48, 49, 50, 51, 52, 53, 54, 55, 56, 57, 58, 59, 60, 61, 62, 63, 64, 65, 66, 67, 68, 69, 70, 71, 72, 73, 74, 75, 76, 77, 78, 79, 80] (by decide +kernel) (by decide +kernel)
set_option maxRecDepth 20000 in
theorem gX12_item_X12_isItem : GoodIn wsX12_item (wsV RX12 151 RX12 yX12_isItem wsX12_isItem) := goodIn_app (goodIn_of _ (by decide +kernel)) ggX12_item_X12_isItem
set_option maxRecDepth 20000 in
theorem ggX12_item_X12_standing : GoodIn wsX12_item wsX12_standing := goodIn_r _ [18, 2, 19, 20, 21, 9, 22, 23, 24, 25, 26, 27, 28, 29, 30, 31, 32, 33, 34, 35, 36, 37, 38, 39, 40, 41, 42, 43, 44, 45, 46, 47, 48, 49, 50, 51, 52, 53, 54, 55, 56, 57, 58, 59, 60, 61, 62, 63, 64, 65, 66, 67, 68, 69, 70, 71, 72, 73, 74, 75, 76, 77, 78, 79, 80] (by decide +kernel) (by decide +kernel)
set_option maxRecDepth 20000 in
theorem gX12_item_X12_standing : GoodIn wsX12_item (wsV RX12 248 RX12 yX12_standing wsX12_standing) := goodIn_app (goodIn_of _ (by decide +kernel)) ggX12_item_X12_standing
set_option maxRecDepth 20000 in
theorem ggX12_shortOf_X12_isPage : GoodIn wsX12_shortOf wsX12_isPage := goodIn_r _ [6, 7, 8, 5, 9] (by decide +kernel) (by decide +kernel)
set_option maxRecDepth 20000 in
theorem gX12_shortOf_X12_isPage : GoodIn wsX12_shortOf (va_wsS RX12 155 yX12_isPage wsX12_isPage) := goodIn_app (goodIn_of _ (by decide +kernel)) ggX12_shortOf_X12_isPage
set_option maxRecDepth 20000 in
theorem ggX12_shortOf_X12_in : GoodIn wsX12_shortOf wsX12_in := goodIn_r _ [9] (by decide +kernel) (by decide +kernel)
set_option maxRecDepth 20000 in
theorem gX12_shortOf_X12_in : GoodIn wsX12_shortOf (va_wsS RX12 143 yX12_in wsX12_in) := goodIn_app (goodIn_of _ (by decide +kernel)) ggX12_shortOf_X12_in
set_option maxRecDepth 20000 in
theorem ggX12_shortOf_X12_at : GoodIn wsX12_shortOf wsX12_at := goodIn_r _ [12] (by decide +kernel) (by decide +kernel)
set_option maxRecDepth 20000 in
theorem gX12_shortOf_X12_at : GoodIn wsX12_shortOf (va_wsS RX12 161 yX12_at wsX12_at) := goodIn_app (goodIn_of _ (by decide +kernel)) ggX12_shortOf_X12_at
set_option maxRecDepth 20000 in
theorem ggX12_printed_X12_isItem : GoodIn wsX12_printed wsX12_isItem := goodIn_r _ [10, 11, 12, 13, 9, 14, 22, 23, 24, 25, 26, 27, 28, 29, 30, 31, 32, 33, 34, 35, 36, 37, 38, 39, 40, 41, 42, 43, 44, 45, 46, 47, 48, 49, 50, 51, 52, 53, 54, 55, 56, 57, 58, 59, 60, 61, 62, 63, 64, 65, 66, 67, 68, 69, 70, 71, 72, 73] (by decide +kernel) (by decide +kernel)
set_option maxRecDepth 20000 in
theorem gX12_printed_X12_isItem : GoodIn wsX12_printed (wsV RX12 151 RX12 yX12_isItem wsX12_isItem) := goodIn_app (goodIn_of _ (by decide +kernel)) ggX12_printed_X12_isItem
set_option maxRecDepth 20000 in
theorem ggX12_printed_X12_in : GoodIn wsX12_printed wsX12_in := goodIn_r _ [14] (by decide +kernel) (by decide +kernel)
set_option maxRecDepth 20000 in
theorem gX12_printed_X12_in : GoodIn wsX12_printed (va_wsS RX12 143 yX12_in wsX12_in) := goodIn_app (goodIn_of _ (by decide +kernel)) ggX12_printed_X12_in
set_option maxRecDepth 20000 in
theorem ggX12_printed_X12_isNow : GoodIn wsX12_printed wsX12_isNow := goodIn_r _ [18, 19, 20, 3, 21, 4, 22, 23, 24, 25, 26, 27, 28, 29, 30, 31, 32, 33, 34, 35, 36, 37, 38, 39, 40, 41, 42, 43, 44, 45, 46, 47, 48, 49, 50, 51, 52, 53, 54, 55, 56, 57, 58, 59, 60, 61, 62, 63, 64, 65, 66, 67, 68, 69, 70, 71, 72, 73] (by decide +kernel) (by decide +kernel)
set_option maxRecDepth 20000 in
theorem gX12_printed_X12_isNow : GoodIn wsX12_printed (wsV RX12 260 RX12 yX12_isNow wsX12_isNow) := goodIn_app (goodIn_of _ (by decide +kernel)) ggX12_printed_X12_isNow
set_option maxRecDepth 20000 in
theorem ggX12_plated_X12_isPage : GoodIn wsX12_plated wsX12_isPage := goodIn_r _ [7, 8, 9, 6, 10] (by decide +kernel) (by decide +kernel)
set_option maxRecDepth 20000 in
theorem gX12_plated_X12_isPage : GoodIn wsX12_plated (va_wsS RX12 155 yX12_isPage wsX12_isPage) := goodIn_app (goodIn_of _ (by decide +kernel)) ggX12_plated_X12_isPage
set_option maxRecDepth 20000 in
theorem ggX12_plated_X12_in : GoodIn wsX12_plated wsX12_in := goodIn_r _ [10] (by decide +kernel) (by decide +kernel)
set_option maxRecDepth 20000 in
theorem gX12_plated_X12_in : GoodIn wsX12_plated (va_wsS RX12 143 yX12_in wsX12_in) := goodIn_app (goodIn_of _ (by decide +kernel)) ggX12_plated_X12_in
set_option maxRecDepth 20000 in
theorem ggX12_plated_X12_at : GoodIn wsX12_plated wsX12_at := goodIn_r _ [13] (by decide +kernel) (by decide +kernel)
set_option maxRecDepth 20000 in
theorem gX12_plated_X12_at : GoodIn wsX12_plated (va_wsS RX12 161 yX12_at wsX12_at) := goodIn_app (goodIn_of _ (by decide +kernel)) ggX12_plated_X12_at
set_option maxRecDepth 20000 in
theorem ggX12_plateOf_X12_isPage : GoodIn wsX12_plateOf wsX12_isPage := goodIn_r _ [7, 8, 9, 6, 10] (by decide +kernel) (by decide +kernel)
set_option maxRecDepth 20000 in
theorem gX12_plateOf_X12_isPage : GoodIn wsX12_plateOf (va_wsS RX12 155 yX12_isPage wsX12_isPage) := goodIn_app (goodIn_of _ (by decide +kernel)) ggX12_plateOf_X12_isPage
set_option maxRecDepth 20000 in
theorem ggX12_bill_X12_isBuyer : GoodIn wsX12_bill wsX12_isBuyer := goodIn_r _ [13, 14, 15, 12, 16] (by decide +kernel) (by decide +kernel)
set_option maxRecDepth 20000 in
theorem gX12_bill_X12_isBuyer : GoodIn wsX12_bill (va_wsS RX12 179 yX12_isBuyer wsX12_isBuyer) := goodIn_app (goodIn_of _ (by decide +kernel)) ggX12_bill_X12_isBuyer
set_option maxRecDepth 20000 in
theorem ggX12_bill_X12_in : GoodIn wsX12_bill wsX12_in := goodIn_r _ [16] (by decide +kernel) (by decide +kernel)
set_option maxRecDepth 20000 in
theorem gX12_bill_X12_in : GoodIn wsX12_bill (va_wsS RX12 143 yX12_in wsX12_in) := goodIn_app (goodIn_of _ (by decide +kernel)) ggX12_bill_X12_in
set_option maxRecDepth 20000 in
theorem ggX12_bill_X12_isNow : GoodIn wsX12_bill wsX12_isNow := goodIn_r _ [20, 21, 22, 1, 23, 24, 25, 26, 27, 28, 29, 30, 31, 32, 33, 34, 35, 36, 37, 38, 39, 40, 41, 42, 43, 44, 45, 46, 47, 48, 49, 50, 51, 52, 53, 54, 55, 56, 57, 58, 59, 60, 61, 62, 63, 64, 65, 66, 67, 68, 69, 70, 71, 72, 73, 74, 75, 76] (by decide +kernel) (by decide +kernel)
set_option maxRecDepth 20000 in
theorem gX12_bill_X12_isNow : GoodIn wsX12_bill (wsV RX12 260 RX12 yX12_isNow wsX12_isNow) := goodIn_app (goodIn_of _ (by decide +kernel)) ggX12_bill_X12_isNow
set_option maxRecDepth 20000 in
theorem ggX12_about_X12_isNow : GoodIn wsX12_about wsX12_isNow := goodIn_r _ [9, 10, 11, 1, 12, 2, 13, 14, 15, 16, 17, 18, 19, 20, 21, 22, 23, 24, 25, 26, 27, 28, 29, 30, 31, 32, 33, 34, 35, 36, 37, 38, 39, 40, 41, 42, 43, 44, 45, 46, 47, 48, 49, 50, 51, 52, 53, 54, 55, 56, 57, 58, 59, 60, 61, 62, 63, 64] (by decide +kernel) (by decide +kernel)
set_option maxRecDepth 20000 in
theorem gX12_about_X12_isNow : GoodIn wsX12_about (wsV RX12 260 RX12 yX12_isNow wsX12_isNow) := goodIn_app (goodIn_of _ (by decide +kernel)) ggX12_about_X12_isNow
