set_option maxRecDepth 100000 in
theorem ggX12_piece_X12_takes : GoodIn wsX12_piece (wsX12_takes) := zk q_wsX12_piece q_wsX12_takes k_wsX12_piece k_wsX12_takes (by decide +kernel) (by decide +kernel)
set_option maxRecDepth 100000 in
theorem gX12_piece_X12_takes : GoodIn wsX12_piece (wsV RX12 186 RX12 yX12_takes wsX12_takes) := goodIn_app (zk q_wsX12_piece (zq_c (i := 1147) rfl (zq_c (i := 1149) rfl (zq_c (i := 37) rfl (zq_c (i := 56) rfl zq_nil)))) k_wsX12_piece rfl (by decide +kernel) (by decide +kernel)) (ggX12_piece_X12_takes)
set_option maxRecDepth 100000 in
theorem ggX12_item_X12_isItem : GoodIn wsX12_item (wsX12_isItem) := zk q_wsX12_item q_wsX12_isItem k_wsX12_item k_wsX12_isItem (by decide +kernel) (by decide +kernel)
set_option maxRecDepth 100000 in
theorem gX12_item_X12_isItem : GoodIn wsX12_item (wsV RX12 151 RX12 yX12_isItem wsX12_isItem) := goodIn_app (zk q_wsX12_item (zq_c (i := 1076) rfl (zq_c (i := 1078) rfl (zq_c (i := 30) rfl (zq_c (i := 56) rfl zq_nil)))) k_wsX12_item rfl (by decide +kernel) (by decide +kernel)) (ggX12_item_X12_isItem)
set_option maxRecDepth 100000 in
theorem ggX12_item_X12_standing : GoodIn wsX12_item (wsX12_standing) := zk q_wsX12_item q_wsX12_standing k_wsX12_item k_wsX12_standing (by decide +kernel) (by decide +kernel)
set_option maxRecDepth 100000 in
theorem gX12_item_X12_standing : GoodIn wsX12_item (wsV RX12 248 RX12 yX12_standing wsX12_standing) := goodIn_app (zk q_wsX12_item (zq_c (i := 1211) rfl (zq_c (i := 1213) rfl (zq_c (i := 48) rfl (zq_c (i := 56) rfl zq_nil)))) k_wsX12_item rfl (by decide +kernel) (by decide +kernel)) (ggX12_item_X12_standing)
set_option maxRecDepth 100000 in
theorem ggX12_shortOf_X12_isPage : GoodIn wsX12_shortOf (wsX12_isPage) := zk q_wsX12_shortOf q_wsX12_isPage k_wsX12_shortOf k_wsX12_isPage (by decide +kernel) (by decide +kernel)
set_option maxRecDepth 100000 in
theorem gX12_shortOf_X12_isPage : GoodIn wsX12_shortOf (va_wsS RX12 155 yX12_isPage wsX12_isPage) := goodIn_app (zk q_wsX12_shortOf (zq_c (i := 1043) rfl (zq_c (i := 1044) rfl (zq_c (i := 56) rfl zq_nil))) k_wsX12_shortOf rfl (by decide +kernel) (by decide +kernel)) (ggX12_shortOf_X12_isPage)
set_option maxRecDepth 100000 in
theorem ggX12_shortOf_X12_in : GoodIn wsX12_shortOf (wsX12_in) := zk q_wsX12_shortOf q_wsX12_in k_wsX12_shortOf k_wsX12_in (by decide +kernel) (by decide +kernel)
set_option maxRecDepth 100000 in
theorem gX12_shortOf_X12_in : GoodIn wsX12_shortOf (va_wsS RX12 143 yX12_in wsX12_in) := goodIn_app (zk q_wsX12_shortOf (zq_c (i := 1046) rfl (zq_c (i := 1047) rfl (zq_c (i := 56) rfl zq_nil))) k_wsX12_shortOf rfl (by decide +kernel) (by decide +kernel)) (ggX12_shortOf_X12_in)
set_option maxRecDepth 100000 in
theorem ggX12_shortOf_X12_at : GoodIn wsX12_shortOf (wsX12_at) := zk q_wsX12_shortOf q_wsX12_at k_wsX12_shortOf k_wsX12_at (by decide +kernel) (by decide +kernel)
set_option maxRecDepth 100000 in
theorem gX12_shortOf_X12_at : GoodIn wsX12_shortOf (va_wsS RX12 161 yX12_at wsX12_at) := goodIn_app (zk q_wsX12_shortOf (zq_c (i := 1049) rfl (zq_c (i := 1050) rfl (zq_c (i := 56) rfl zq_nil))) k_wsX12_shortOf rfl (by decide +kernel) (by decide +kernel)) (ggX12_shortOf_X12_at)
set_option maxRecDepth 100000 in
theorem ggX12_printed_X12_isItem : GoodIn wsX12_printed (wsX12_isItem) := zk q_wsX12_printed q_wsX12_isItem k_wsX12_printed k_wsX12_isItem (by decide +kernel) (by decide +kernel)
set_option maxRecDepth 100000 in
theorem gX12_printed_X12_isItem : GoodIn wsX12_printed (wsV RX12 151 RX12 yX12_isItem wsX12_isItem) := goodIn_app (zk q_wsX12_printed (zq_c (i := 1076) rfl (zq_c (i := 1078) rfl (zq_c (i := 30) rfl (zq_c (i := 56) rfl zq_nil)))) k_wsX12_printed rfl (by decide +kernel) (by decide +kernel)) (ggX12_printed_X12_isItem)
set_option maxRecDepth 100000 in
theorem ggX12_printed_X12_in : GoodIn wsX12_printed (wsX12_in) := zk q_wsX12_printed q_wsX12_in k_wsX12_printed k_wsX12_in (by decide +kernel) (by decide +kernel)
set_option maxRecDepth 100000 in
theorem gX12_printed_X12_in : GoodIn wsX12_printed (va_wsS RX12 143 yX12_in wsX12_in) := goodIn_app (zk q_wsX12_printed (zq_c (i := 1046) rfl (zq_c (i := 1047) rfl (zq_c (i := 56) rfl zq_nil))) k_wsX12_printed rfl (by decide +kernel) (by decide +kernel)) (ggX12_printed_X12_in)
set_option maxRecDepth 100000 in
theorem ggX12_printed_X12_isNow : GoodIn wsX12_printed (wsX12_isNow) := zk q_wsX12_printed q_wsX12_isNow k_wsX12_printed k_wsX12_isNow (by decide +kernel) (by decide +kernel)
set_option maxRecDepth 100000 in
theorem gX12_printed_X12_isNow : GoodIn wsX12_printed (wsV RX12 260 RX12 yX12_isNow wsX12_isNow) := goodIn_app (zk q_wsX12_printed (zq_c (i := 1111) rfl (zq_c (i := 1113) rfl (zq_c (i := 31) rfl (zq_c (i := 56) rfl zq_nil)))) k_wsX12_printed rfl (by decide +kernel) (by decide +kernel)) (ggX12_printed_X12_isNow)
set_option maxRecDepth 100000 in
theorem ggX12_plated_X12_isPage : GoodIn wsX12_plated (wsX12_isPage) := zk q_wsX12_plated q_wsX12_isPage k_wsX12_plated k_wsX12_isPage (by decide +kernel) (by decide +kernel)
set_option maxRecDepth 100000 in
theorem gX12_plated_X12_isPage : GoodIn wsX12_plated (va_wsS RX12 155 yX12_isPage wsX12_isPage) := goodIn_app (zk q_wsX12_plated (zq_c (i := 1043) rfl (zq_c (i := 1044) rfl (zq_c (i := 56) rfl zq_nil))) k_wsX12_plated rfl (by decide +kernel) (by decide +kernel)) (ggX12_plated_X12_isPage)
set_option maxRecDepth 100000 in
theorem ggX12_plated_X12_in : GoodIn wsX12_plated (wsX12_in) := zk q_wsX12_plated q_wsX12_in k_wsX12_plated k_wsX12_in (by decide +kernel) (by decide +kernel)
set_option maxRecDepth 100000 in
theorem gX12_plated_X12_in : GoodIn wsX12_plated (va_wsS RX12 143 yX12_in wsX12_in) := goodIn_app (zk q_wsX12_plated (zq_c (i := 1046) rfl (zq_c (i := 1047) rfl (zq_c (i := 56) rfl zq_nil))) k_wsX12_plated rfl (by decide +kernel) (by decide +kernel)) (ggX12_plated_X12_in)
set_option maxRecDepth 100000 in
theorem ggX12_plated_X12_at : GoodIn wsX12_plated (wsX12_at) := zk q_wsX12_plated q_wsX12_at k_wsX12_plated k_wsX12_at (by decide +kernel) (by decide +kernel)
set_option maxRecDepth 100000 in
theorem gX12_plated_X12_at : GoodIn wsX12_plated (va_wsS RX12 161 yX12_at wsX12_at) := goodIn_app (zk q_wsX12_plated (zq_c (i := 1049) rfl (zq_c (i := 1050) rfl (zq_c (i := 56) rfl zq_nil))) k_wsX12_plated rfl (by decide +kernel) (by decide +kernel)) (ggX12_plated_X12_at)
set_option maxRecDepth 100000 in
theorem ggX12_plateOf_X12_isPage : GoodIn wsX12_plateOf (wsX12_isPage) := zk q_wsX12_plateOf q_wsX12_isPage k_wsX12_plateOf k_wsX12_isPage (by decide +kernel) (by decide +kernel)
set_option maxRecDepth 100000 in
theorem gX12_plateOf_X12_isPage : GoodIn wsX12_plateOf (va_wsS RX12 155 yX12_isPage wsX12_isPage) := goodIn_app (zk q_wsX12_plateOf (zq_c (i := 1043) rfl (zq_c (i := 1044) rfl (zq_c (i := 56) rfl zq_nil))) k_wsX12_plateOf rfl (by decide +kernel) (by decide +kernel)) (ggX12_plateOf_X12_isPage)
set_option maxRecDepth 100000 in
theorem ggX12_bill_X12_isBuyer : GoodIn wsX12_bill (wsX12_isBuyer) := zk q_wsX12_bill q_wsX12_isBuyer k_wsX12_bill k_wsX12_isBuyer (by decide +kernel) (by decide +kernel)
set_option maxRecDepth 100000 in
theorem gX12_bill_X12_isBuyer : GoodIn wsX12_bill (va_wsS RX12 179 yX12_isBuyer wsX12_isBuyer) := goodIn_app (zk q_wsX12_bill (zq_c (i := 1096) rfl (zq_c (i := 1097) rfl (zq_c (i := 56) rfl zq_nil))) k_wsX12_bill rfl (by decide +kernel) (by decide +kernel)) (ggX12_bill_X12_isBuyer)
set_option maxRecDepth 100000 in
theorem ggX12_bill_X12_in : GoodIn wsX12_bill (wsX12_in) := zk q_wsX12_bill q_wsX12_in k_wsX12_bill k_wsX12_in (by decide +kernel) (by decide +kernel)
set_option maxRecDepth 100000 in
theorem gX12_bill_X12_in : GoodIn wsX12_bill (va_wsS RX12 143 yX12_in wsX12_in) := goodIn_app (zk q_wsX12_bill (zq_c (i := 1046) rfl (zq_c (i := 1047) rfl (zq_c (i := 56) rfl zq_nil))) k_wsX12_bill rfl (by decide +kernel) (by decide +kernel)) (ggX12_bill_X12_in)
set_option maxRecDepth 100000 in
theorem ggX12_bill_X12_isNow : GoodIn wsX12_bill (wsX12_isNow) := zk q_wsX12_bill q_wsX12_isNow k_wsX12_bill k_wsX12_isNow (by decide +kernel) (by decide +kernel)
set_option maxRecDepth 100000 in
theorem gX12_bill_X12_isNow : GoodIn wsX12_bill (wsV RX12 260 RX12 yX12_isNow wsX12_isNow) := goodIn_app (zk q_wsX12_bill (zq_c (i := 1111) rfl (zq_c (i := 1113) rfl (zq_c (i := 31) rfl (zq_c (i := 56) rfl zq_nil)))) k_wsX12_bill rfl (by decide +kernel) (by decide +kernel)) (ggX12_bill_X12_isNow)
set_option maxRecDepth 100000 in
theorem ggX12_about_X12_isNow : GoodIn wsX12_about (wsX12_isNow) := zk q_wsX12_about q_wsX12_isNow k_wsX12_about k_wsX12_isNow (by decide +kernel) (by decide +kernel)
set_option maxRecDepth 100000 in
theorem gX12_about_X12_isNow : GoodIn wsX12_about (wsV RX12 260 RX12 yX12_isNow wsX12_isNow) := goodIn_app (zk q_wsX12_about (zq_c (i := 1111) rfl (zq_c (i := 1113) rfl (zq_c (i := 31) rfl (zq_c (i := 56) rfl zq_nil)))) k_wsX12_about rfl (by decide +kernel) (by decide +kernel)) (ggX12_about_X12_isNow)
