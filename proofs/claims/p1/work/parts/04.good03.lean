set_option maxRecDepth 20000 in
theorem ggX12_piece_X12_takes : GoodIn wsX12_piece wsX12_takes := goodIn_r _ [24, 6, 2, 1, 25, 26, 27, 28, 29, 30, 31, 32, 33, 34, 35, 36, 37, 38, 39, 40, 41, 42, 43, 44, 45, 46, 47, 48, 49, 50, 51, 52, 53, 54, 55, 56, 57, 58, 59, 60, 61, 62, 63, 64, 65, 66, 67, 68, 69, 70, 71, 72, 73, 74, 75, 76] (by decide +kernel) (by decide +kernel)
set_option maxRecDepth 20000 in
theorem gX12_piece_X12_takes : GoodIn wsX12_piece (wsV RX12 186 RX12 yX12_takes wsX12_takes) := goodIn_app (goodIn_of _ (by decide +kernel)) ggX12_piece_X12_takes
set_option maxRecDepth 20000 in
theorem ggX12_item_X12_isItem : GoodIn wsX12_item wsX12_isItem := goodIn_r _ [10, 11, 12, 13, 9, 14, 29, 30, 31, 32, 33, 34, 35, 36, 37, 38, 39, 40, 41, 42, 43, 44, 45, 46, 47, 48, 49, 50, 51, 52, 53, 54, 55, 56, 57, 58, 59, 60, 61, 62, 63, 64, 65, 66, 67, 68, 69, 70, 71, 72, 73, 74, 75, 76, 77, 78, 79, 80] (by decide +kernel) (by decide +kernel)
set_option maxRecDepth 20000 in
theorem gX12_item_X12_isItem : GoodIn wsX12_item (wsV RX12 151 RX12 yX12_isItem wsX12_isItem) := goodIn_app (goodIn_of _ (by decide +kernel)) ggX12_item_X12_isItem
set_option maxRecDepth 20000 in
theorem ggX12_item_X12_standing : GoodIn wsX12_item wsX12_standing := goodIn_r _ [18, 2, 19, 20, 21, 9, 22, 23, 24, 25, 26, 27, 28, 29, 30, 31, 32, 33, 34, 35, 36, 37, 38, 39, 40, 41, 42, 43, 44, 45, 46, 47, 48, 49, 50, 51, 52, 53, 54, 55, 56, 57, 58, 59, 60, 61, 62, 63, 64, 65, 66, 67, 68, 69, 70, 71, 72, 73, 74, 75, 76, 77, 78, 79, 80] (by decide +kernel) (by decide +kernel)
set_option maxRecDepth 20000 in
theorem gX12_item_X12_standing : GoodIn wsX12_item (wsV RX12 248 RX12 yX12_standing wsX12_standing) := goodIn_app (goodIn_of _ (by decide +kernel)) ggX12_item_X12_standing
set_option maxRecDepth 20000 in
theorem ggX12_shortOf_X12_isPage : GoodIn wsX12_shortOf wsX12_isPage := goodIn_r _ [6, 7, 8, 5, 9] (by decide +kernel) (by decide +kernel)
set_option maxRecDepth 20000 in
theorem gX12_shortOf_X12_isPage : GoodIn wsX12_shortOf (va_wsS RX12 155 yX12_isPage wsX12_isPage) := goodIn_app (goodIn_of _ (by decide +kernel)) ggX12_shortOf_X12_isPage
set_option maxRecDepth 20000 in
theorem ggX12_shortOf_X12_in : GoodIn wsX12_shortOf wsX12_in := goodIn_r _ [9] (by decide +kernel) (by decide +kernel)
set_option maxRecDepth 20000 in
theorem gX12_shortOf_X12_in : GoodIn wsX12_shortOf (va_wsS RX12 143 yX12_in wsX12_in) := goodIn_app (goodIn_of _ (by decide +kernel)) ggX12_shortOf_X12_in
set_option maxRecDepth 20000 in
theorem ggX12_shortOf_X12_at : GoodIn wsX12_shortOf wsX12_at := goodIn_r _ [12] (by decide +kernel) (by decide +kernel)
set_option maxRecDepth 20000 in
theorem gX12_shortOf_X12_at : GoodIn wsX12_shortOf (va_wsS RX12 161 yX12_at wsX12_at) := goodIn_app (goodIn_of _ (by decide +kernel)) ggX12_shortOf_X12_at
set_option maxRecDepth 20000 in
theorem ggX12_printed_X12_isItem : GoodIn wsX12_printed wsX12_isItem := goodIn_r _ [10, 11, 12, 13, 9, 14, 22, 23, 24, 25, 26, 27, 28, 29, 30, 31, 32, 33, 34, 35, 36, 37, 38, 39, 40, 41, 42, 43, 44, 45, 46, 47, 48, 49, 50, 51, 52, 53, 54, 55, 56, 57, 58, 59, 60, 61, 62, 63, 64, 65, 66, 67, 68, 69, 70, 71, 72, 73] (by decide +kernel) (by decide +kernel)
set_option maxRecDepth 20000 in
theorem gX12_printed_X12_isItem : GoodIn wsX12_printed (wsV RX12 151 RX12 yX12_isItem wsX12_isItem) := goodIn_app (goodIn_of _ (by decide +kernel)) ggX12_printed_X12_isItem
set_option maxRecDepth 20000 in
theorem ggX12_printed_X12_in : GoodIn wsX12_printed wsX12_in := goodIn_r _ [14] (by decide +kernel) (by decide +kernel)
set_option maxRecDepth 20000 in
theorem gX12_printed_X12_in : GoodIn wsX12_printed (va_wsS RX12 143 yX12_in wsX12_in) := goodIn_app (goodIn_of _ (by decide +kernel)) ggX12_printed_X12_in
set_option maxRecDepth 20000 in
theorem ggX12_printed_X12_isNow : GoodIn wsX12_printed wsX12_isNow := goodIn_r _ [18, 19, 20, 3, 21, 4, 22, 23, 24, 25, 26, 27, 28, 29, 30, 31, 32, 33, 34, 35, 36, 37, 38, 39, 40, 41, 42, 43, 44, 45, 46, 47, 48, 49, 50, 51, 52, 53, 54, 55, 56, 57, 58, 59, 60, 61, 62, 63, 64, 65, 66, 67, 68, 69, 70, 71, 72, 73] (by decide +kernel) (by decide +kernel)
set_option maxRecDepth 20000 in
theorem gX12_printed_X12_isNow : GoodIn wsX12_printed (wsV RX12 260 RX12 yX12_isNow wsX12_isNow) := goodIn_app (goodIn_of _ (by decide +kernel)) ggX12_printed_X12_isNow
set_option maxRecDepth 20000 in
theorem ggX12_plated_X12_isPage : GoodIn wsX12_plated wsX12_isPage := goodIn_r _ [7, 8, 9, 6, 10] (by decide +kernel) (by decide +kernel)
set_option maxRecDepth 20000 in
theorem gX12_plated_X12_isPage : GoodIn wsX12_plated (va_wsS RX12 155 yX12_isPage wsX12_isPage) := goodIn_app (goodIn_of _ (by decide +kernel)) ggX12_plated_X12_isPage
set_option maxRecDepth 20000 in
theorem ggX12_plated_X12_in : GoodIn wsX12_plated wsX12_in := goodIn_r _ [10] (by decide +kernel) (by decide +kernel)
set_option maxRecDepth 20000 in
theorem gX12_plated_X12_in : GoodIn wsX12_plated (va_wsS RX12 143 yX12_in wsX12_in) := goodIn_app (goodIn_of _ (by decide +kernel)) ggX12_plated_X12_in
set_option maxRecDepth 20000 in
theorem ggX12_plated_X12_at : GoodIn wsX12_plated wsX12_at := goodIn_r _ [13] (by decide +kernel) (by decide +kernel)
set_option maxRecDepth 20000 in
theorem gX12_plated_X12_at : GoodIn wsX12_plated (va_wsS RX12 161 yX12_at wsX12_at) := goodIn_app (goodIn_of _ (by decide +kernel)) ggX12_plated_X12_at
set_option maxRecDepth 20000 in
theorem ggX12_plateOf_X12_isPage : GoodIn wsX12_plateOf wsX12_isPage := goodIn_r _ [7, 8, 9, 6, 10] (by decide +kernel) (by decide +kernel)
set_option maxRecDepth 20000 in
theorem gX12_plateOf_X12_isPage : GoodIn wsX12_plateOf (va_wsS RX12 155 yX12_isPage wsX12_isPage) := goodIn_app (goodIn_of _ (by decide +kernel)) ggX12_plateOf_X12_isPage
set_option maxRecDepth 20000 in
theorem ggX12_bill_X12_isBuyer : GoodIn wsX12_bill wsX12_isBuyer := goodIn_r _ [13, 14, 15, 12, 16] (by decide +kernel) (by decide +kernel)
set_option maxRecDepth 20000 in
theorem gX12_bill_X12_isBuyer : GoodIn wsX12_bill (va_wsS RX12 179 yX12_isBuyer wsX12_isBuyer) := goodIn_app (goodIn_of _ (by decide +kernel)) ggX12_bill_X12_isBuyer
set_option maxRecDepth 20000 in
theorem ggX12_bill_X12_in : GoodIn wsX12_bill wsX12_in := goodIn_r _ [16] (by decide +kernel) (by decide +kernel)
set_option maxRecDepth 20000 in
theorem gX12_bill_X12_in : GoodIn wsX12_bill (va_wsS RX12 143 yX12_in wsX12_in) := goodIn_app (goodIn_of _ (by decide +kernel)) ggX12_bill_X12_in
set_option maxRecDepth 20000 in
theorem ggX12_bill_X12_isNow : GoodIn wsX12_bill wsX12_isNow := goodIn_r _ [20, 21, 22, 1, 23, 24, 25, 26, 27, 28, 29, 30, 31, 32, 33, 34, 35, 36, 37, 38, 39, 40, 41, 42, 43, 44, 45, 46, 47, 48, 49, 50, 51, 52, 53, 54, 55, 56, 57, 58, 59, 60, 61, 62, 63, 64, 65, 66, 67, 68, 69, 70, 71, 72, 73, 74, 75, 76] (by decide +kernel) (by decide +kernel)
set_option maxRecDepth 20000 in
theorem gX12_bill_X12_isNow : GoodIn wsX12_bill (wsV RX12 260 RX12 yX12_isNow wsX12_isNow) := goodIn_app (goodIn_of _ (by decide +kernel)) ggX12_bill_X12_isNow
set_option maxRecDepth 20000 in
theorem ggX12_about_X12_isNow : GoodIn wsX12_about wsX12_isNow := goodIn_r _ [9, 10, 11, 1, 12, 2, 13, 14, 15, 16, 17, 18, 19, 20, 21, 22, 23, 24, 25, 26, 27, 28, 29, 30, 31, 32, 33, 34, 35, 36, 37, 38, 39, 40, 41, 42, 43, 44, 45, 46, 47, 48, 49, 50, 51, 52, 53, 54, 55, 56, 57, 58, 59, 60, 61, 62, 63, 64] (by decide +kernel) (by decide +kernel)
set_option maxRecDepth 20000 in
theorem gX12_about_X12_isNow : GoodIn wsX12_about (wsV RX12 260 RX12 yX12_isNow wsX12_isNow) := goodIn_app (goodIn_of _ (by decide +kernel)) ggX12_about_X12_isNow
set_option maxRecDepth 20000 in
theorem ggL_law_X11_init : GoodIn wsL_law wsX11_init := goodIn_r _ [8, 9, 10, 11, 12, 13, 14, 15, 16, 17, 18, 19, 20, 21, 22, 23, 24, 25, 26, 27, 28, 29, 30, 31, 32, 33, 34, 35, 36, 37, 38, 39, 40, 978, 979, 980, 981, 982, 983, 984, 985, 986, 1039, 1040, 1041, 1042, 1043] (by decide +kernel) (by decide +kernel)
set_option maxRecDepth 20000 in
theorem gL_law_X11_init : GoodIn wsL_law (wsX11_init) := ggL_law_X11_init
set_option maxRecDepth 20000 in
theorem ggL_law_X12_init : GoodIn wsL_law wsX12_init := goodIn_r _ [43, 44, 10, 11, 31, 45, 46, 47, 48, 49, 50, 51, 52, 53, 54, 55, 56, 57, 58, 59, 60, 61, 62, 63, 21, 64, 65, 66, 67, 68, 69, 70, 71, 72, 73, 74, 75, 76, 77, 78, 79, 80, 81, 82, 83, 84, 85, 86, 87, 88, 987, 988, 989, 990, 991, 992, 993, 994, 995, 996, 997, 998, 999, 1000, 1001, 1002, 1003, 1004, 1005, 1006, 1007, 1008, 1009, 1010, 1011, 1012, 1013, 1014, 1015, 1016, 1017, 1018, 1019, 1020, 1021, 1022, 1023, 1024, 1025, 1026, 1027, 1028, 1029, 1030, 1031, 1032, 1033, 1034, 1035, 1036, 1037, 1038] (by decide +kernel) (by decide +kernel)
set_option maxRecDepth 20000 in
theorem gL_law_X12_init : GoodIn wsL_law (wsX12_init) := ggL_law_X12_init
set_option maxRecDepth 20000 in
theorem ggL_law_X11_column : GoodIn wsL_law wsX11_column := goodIn_r _ [92, 20, 13, 93, 94, 95, 2, 96, 97, 98, 99, 100, 101, 102, 978, 979, 980, 981, 982, 983, 984, 985, 986, 1039, 1040, 1041, 1042, 1043] (by decide +kernel) (by decide +kernel)
set_option maxRecDepth 20000 in
theorem gL_law_X11_column : GoodIn wsL_law (wsV RL 13 RX11 yX11_column wsX11_column) := goodIn_app (goodIn_of _ (by decide +kernel)) ggL_law_X11_column
set_option maxRecDepth 20000 in
theorem ggL_law_X12_column : GoodIn wsL_law wsX12_column := goodIn_r _ [106, 107, 47, 45, 108, 109, 5, 110, 111, 112, 113, 114, 115, 116, 987, 988, 989, 990, 991, 992, 993, 994, 995, 996, 997, 998, 999, 1000, 1001, 1002, 1003, 1004, 1005, 1006, 1007, 1008, 1009, 1010, 1011, 1012, 1013, 1014, 1015, 1016, 1017, 1018, 1019, 1020, 1021, 1022, 1023, 1024, 1025, 1026, 1027, 1028, 1029, 1030, 1031, 1032, 1033, 1034, 1035, 1036, 1037, 1038] (by decide +kernel) (by decide +kernel)
set_option maxRecDepth 20000 in
theorem gL_law_X12_column : GoodIn wsL_law (wsV RL 17 RX12 yX12_column wsX12_column) := goodIn_app (goodIn_of _ (by decide +kernel)) ggL_law_X12_column
set_option maxRecDepth 20000 in
theorem ggL_law_X11_measure : GoodIn wsL_law wsX11_measure := goodIn_r _ [120, 20, 13, 121, 94, 95, 2, 96, 97, 98, 99, 978, 979, 980, 981, 982, 983, 984, 985, 986, 1039, 1040, 1041, 1042, 1043] (by decide +kernel) (by decide +kernel)
set_option maxRecDepth 20000 in
theorem gL_law_X11_measure : GoodIn wsL_law (wsV RL 18 RX11 yX11_measure wsX11_measure) := goodIn_app (goodIn_of _ (by decide +kernel)) ggL_law_X11_measure
set_option maxRecDepth 20000 in
theorem ggL_law_X12_measure : GoodIn wsL_law wsX12_measure := goodIn_r _ [125, 107, 46, 108, 109, 5, 110, 111, 112, 113, 126, 127, 128, 129, 47, 987, 988, 989, 990, 991, 992, 993, 994, 995, 996, 997, 998, 999, 1000, 1001, 1002, 1003, 1004, 1005, 1006, 1007, 1008, 1009, 1010, 1011, 1012, 1013, 1014, 1015, 1016, 1017, 1018, 1019, 1020, 1021, 1022, 1023, 1024, 1025, 1026, 1027, 1028, 1029, 1030, 1031, 1032, 1033, 1034, 1035, 1036, 1037, 1038] (by decide +kernel) (by decide +kernel)
set_option maxRecDepth 20000 in
theorem gL_law_X12_measure : GoodIn wsL_law (wsV RL 22 RX12 yX12_measure wsX12_measure) := goodIn_app (goodIn_of _ (by decide +kernel)) ggL_law_X12_measure
set_option maxRecDepth 20000 in
theorem ggL_law_X11_story : GoodIn wsL_law wsX11_story := goodIn_r _ [133, 134, 135, 136, 17, 97, 98, 2, 99, 137, 138, 139, 31, 140, 141, 21, 142, 143, 144, 145, 146, 147, 148, 10, 11, 149, 150, 151, 152, 153, 154, 155, 38, 39, 40, 156, 157, 158, 159, 16, 160, 1044, 1045, 1046, 1047, 1048, 1049, 1050, 1051, 1052, 978, 979, 980, 981, 982, 983, 984, 985, 986, 1053, 1054, 1055, 1056, 1057, 1058, 1059, 1060, 1061, 1062, 1063, 1064, 1065, 1066, 1067, 1068, 1069, 1070, 1071, 1072, 1073, 1074, 1075, 1076, 1077, 1078, 1079, 1080, 1081, 1082, 1083, 1084, 1085, 1086, 1087, 1088, 1089, 1090, 1091] (by decide +kernel) (by decide +kernel)
set_option maxRecDepth 20000 in
theorem gL_law_X11_story : GoodIn wsL_law (wsV RL 23 RX11 yX11_story wsX11_story) := goodIn_app (goodIn_of _ (by decide +kernel)) ggL_law_X11_story
set_option maxRecDepth 20000 in
theorem ggL_law_X12_story : GoodIn wsL_law wsX12_story := goodIn_r _ [164, 165, 49, 111, 112, 5, 113, 166, 167, 168, 169, 48, 50, 51, 52, 53, 54, 59, 61, 66, 987, 988, 989, 990, 991, 992, 993, 994, 995, 996, 997, 998, 999, 1000, 1001, 1002, 1003, 1004, 1005, 1006, 1007, 1008, 1009, 1010, 1011, 1012, 1013, 1014, 1015, 1016, 1017, 1018, 1019, 1020, 1021, 1022, 1023, 1024, 1025, 1026, 1027, 1028, 1029, 1030, 1031, 1032, 1033, 1034, 1035, 1036, 1037, 1038] (by decide +kernel) (by decide +kernel)
set_option maxRecDepth 20000 in
theorem gL_law_X12_story : GoodIn wsL_law (wsV RL 27 RX12 yX12_story wsX12_story) := goodIn_app (goodIn_of _ (by decide +kernel)) ggL_law_X12_story
set_option maxRecDepth 20000 in
theorem ggL_law_X11_line : GoodIn wsL_law wsX11_line := goodIn_r _ [173, 174, 175, 176, 177, 2, 178, 17, 16, 97, 98, 99, 179, 180, 181, 136, 182, 141, 140, 978, 979, 980, 981, 982, 983, 984, 985, 986, 1044, 1045, 1046, 1047, 1048, 1049, 1050, 1051, 1052] (by decide +kernel) (by decide +kernel)
set_option maxRecDepth 20000 in
theorem gL_law_X11_line : GoodIn wsL_law (wsV RL 28 RX11 yX11_line wsX11_line) := goodIn_app (goodIn_of _ (by decide +kernel)) ggL_law_X11_line
set_option maxRecDepth 20000 in
theorem ggL_law_X12_line : GoodIn wsL_law wsX12_line := goodIn_r _ [186, 59, 60, 187, 188, 189, 5, 190, 48, 191, 192, 193, 194, 165, 111, 112, 113, 987, 988, 989, 990, 991, 992, 993, 994, 995, 996, 997, 998, 999, 1000, 1001, 1002, 1003, 1004, 1005, 1006, 1007, 1008, 1009, 1010, 1011, 1012, 1013, 1014, 1015, 1016, 1017, 1018, 1019, 1020, 1021, 1022, 1023, 1024, 1025, 1026, 1027, 1028, 1029, 1030, 1031, 1032, 1033, 1034, 1035, 1036, 1037, 1038] (by decide +kernel) (by decide +kernel)
set_option maxRecDepth 20000 in
theorem gL_law_X12_line : GoodIn wsL_law (wsV RL 32 RX12 yX12_line wsX12_line) := goodIn_app (goodIn_of _ (by decide +kernel)) ggL_law_X12_line
set_option maxRecDepth 20000 in
theorem ggL_law_X11_head : GoodIn wsL_law wsX11_head := goodIn_r _ [198, 174, 199, 200, 201, 17, 175, 176, 177, 2, 178, 16, 97, 98, 99, 202, 203, 204, 205, 206, 207, 208, 145, 146, 147, 148, 10, 11, 149, 31, 150, 151, 152, 153, 154, 155, 38, 39, 40, 156, 157, 158, 159, 160, 1060, 1061, 1062, 1063, 1064, 1065, 1066, 1067, 978, 979, 980, 981, 982, 983, 984, 985, 986, 1053, 1054, 1055, 1056, 1057, 1058, 1059, 1068, 1069, 1070, 1071, 1072, 1073, 1074, 1075, 1076, 1077, 1078, 1079, 1080, 1081, 1082, 1083, 1084, 1085, 1086, 1087, 1088, 1089, 1090, 1091, 1044, 1045, 1046, 1047, 1048, 1049, 1050, 1051, 1052] (by decide +kernel) (by decide +kernel)
set_option maxRecDepth 20000 in
theorem gL_law_X11_head : GoodIn wsL_law (wsV RL 33 RX11 yX11_head wsX11_head) := goodIn_app (goodIn_of _ (by decide +kernel)) ggL_law_X11_head
set_option maxRecDepth 20000 in
theorem ggL_law_X12_head : GoodIn wsL_law wsX12_head := goodIn_r _ [212, 165, 53, 51, 52, 187, 188, 189, 5, 190, 48, 191, 192, 193, 194, 111, 112, 113, 166, 167, 168, 169, 49, 50, 54, 59, 61, 66, 987, 988, 989, 990, 991, 992, 993, 994, 995, 996, 997, 998, 999, 1000, 1001, 1002, 1003, 1004, 1005, 1006, 1007, 1008, 1009, 1010, 1011, 1012, 1013, 1014, 1015, 1016, 1017, 1018, 1019, 1020, 1021, 1022, 1023, 1024, 1025, 1026, 1027, 1028, 1029, 1030, 1031, 1032, 1033, 1034, 1035, 1036, 1037, 1038] (by decide +kernel) (by decide +kernel)
set_option maxRecDepth 20000 in
theorem gL_law_X12_head : GoodIn wsL_law (wsV RL 37 RX12 yX12_head wsX12_head) := goodIn_app (goodIn_of _ (by decide +kernel)) ggL_law_X12_head
set_option maxRecDepth 20000 in
theorem ggL_law_X11_picture : GoodIn wsL_law wsX11_picture := goodIn_r _ [216, 217, 218, 219, 17, 220, 221, 222, 31, 223, 224, 225, 226, 145, 146, 147, 148, 10, 11, 149, 150, 151, 152, 153, 154, 98, 2, 99, 155, 38, 39, 40, 156, 157, 158, 159, 16, 160, 1084, 1085, 1086, 1087, 1088, 1089, 1090, 1091, 978, 979, 980, 981, 982, 983, 984, 985, 986, 1053, 1054, 1055, 1056, 1057, 1058, 1059, 1060, 1061, 1062, 1063, 1064, 1065, 1066, 1067, 1068, 1069, 1070, 1071, 1072, 1073, 1074, 1075, 1076, 1077, 1078, 1079, 1080, 1081, 1082, 1083, 1044, 1045, 1046, 1047, 1048, 1049, 1050, 1051, 1052] (by decide +kernel) (by decide +kernel)
set_option maxRecDepth 20000 in
theorem gL_law_X11_picture : GoodIn wsL_law (wsV RL 38 RX11 yX11_picture wsX11_picture) := goodIn_app (goodIn_of _ (by decide +kernel)) ggL_law_X11_picture
set_option maxRecDepth 20000 in
theorem ggL_law_X12_picture : GoodIn wsL_law wsX12_picture := goodIn_r _ [230, 165, 166, 167, 168, 5, 169, 48, 49, 50, 51, 52, 53, 54, 59, 61, 66, 987, 988, 989, 990, 991, 992, 993, 994, 995, 996, 997, 998, 999, 1000, 1001, 1002, 1003, 1004, 1005, 1006, 1007, 1008, 1009, 1010, 1011, 1012, 1013, 1014, 1015, 1016, 1017, 1018, 1019, 1020, 1021, 1022, 1023, 1024, 1025, 1026, 1027, 1028, 1029, 1030, 1031, 1032, 1033, 1034, 1035, 1036, 1037, 1038] (by decide +kernel) (by decide +kernel)
set_option maxRecDepth 20000 in
theorem gL_law_X12_picture : GoodIn wsL_law (wsV RL 42 RX12 yX12_picture wsX12_picture) := goodIn_app (goodIn_of _ (by decide +kernel)) ggL_law_X12_picture
set_option maxRecDepth 20000 in
theorem ggL_law_X11_size : GoodIn wsL_law wsX11_size := goodIn_r _ [234, 235, 175, 176, 177, 2, 178, 17, 16, 97, 98, 99, 236, 237, 238, 239, 240, 241, 219, 242, 225, 223, 224, 978, 979, 980, 981, 982, 983, 984, 985, 986, 1084, 1085, 1086, 1087, 1088, 1089, 1090, 1091] (by decide +kernel) (by decide +kernel)
set_option maxRecDepth 20000 in
theorem gL_law_X11_size : GoodIn wsL_law (wsV RL 43 RX11 yX11_size wsX11_size) := goodIn_app (goodIn_of _ (by decide +kernel)) ggL_law_X11_size
set_option maxRecDepth 20000 in
theorem ggL_law_X12_size : GoodIn wsL_law wsX12_size := goodIn_r _ [246, 61, 62, 63, 187, 188, 189, 5, 190, 48, 191, 192, 193, 194, 165, 111, 112, 113, 987, 988, 989, 990, 991, 992, 993, 994, 995, 996, 997, 998, 999, 1000, 1001, 1002, 1003, 1004, 1005, 1006, 1007, 1008, 1009, 1010, 1011, 1012, 1013, 1014, 1015, 1016, 1017, 1018, 1019, 1020, 1021, 1022, 1023, 1024, 1025, 1026, 1027, 1028, 1029, 1030, 1031, 1032, 1033, 1034, 1035, 1036, 1037, 1038] (by decide +kernel) (by decide +kernel)
set_option maxRecDepth 20000 in
theorem gL_law_X12_size : GoodIn wsL_law (wsV RL 46 RX12 yX12_size wsX12_size) := goodIn_app (goodIn_of _ (by decide +kernel)) ggL_law_X12_size
set_option maxRecDepth 20000 in
theorem ggL_law_X11_paid : GoodIn wsL_law wsX11_paid := goodIn_r _ [250, 251, 252, 253, 17, 254, 255, 256, 257, 258, 2, 259, 97, 98, 99, 94, 95, 96, 236, 237, 238, 260, 261, 262, 263, 10, 11, 264, 265, 266, 267, 268, 269, 270, 271, 272, 21, 273, 274, 275, 276, 277, 145, 146, 147, 148, 149, 31, 150, 151, 152, 153, 154, 155, 38, 39, 40, 156, 157, 158, 159, 16, 160, 1075, 1076, 1077, 1078, 1079, 1080, 1081, 1082, 1083, 978, 979, 980, 981, 982, 983, 984, 985, 986, 1092, 1093, 1094, 1095, 1096, 1097, 1053, 1054, 1055, 1056, 1057, 1058, 1059, 1060, 1061, 1062, 1063, 1064, 1065, 1066, 1067, 1068, 1069, 1070, 1071, 1072, 1073, 1074, 1084, 1085, 1086, 1087, 1088, 1089, 1090, 1091, 1044, 1045, 1046, 1047, 1048, 1049, 1050, 1051, 1052] (by decide +kernel) (by decide +kernel)
set_option maxRecDepth 20000 in
theorem gL_law_X11_paid : GoodIn wsL_law (wsV RL 47 RX11 yX11_paid wsX11_paid) := goodIn_app (goodIn_of _ (by decide +kernel)) ggL_law_X11_paid
set_option maxRecDepth 20000 in
theorem ggL_law_X12_paid : GoodIn wsL_law wsX12_paid := goodIn_r _ [281, 165, 54, 55, 56, 57, 51, 52, 58, 108, 109, 5, 110, 111, 112, 113, 282, 283, 284, 166, 167, 168, 169, 48, 49, 50, 53, 59, 61, 66, 987, 988, 989, 990, 991, 992, 993, 994, 995, 996, 997, 998, 999, 1000, 1001, 1002, 1003, 1004, 1005, 1006, 1007, 1008, 1009, 1010, 1011, 1012, 1013, 1014, 1015, 1016, 1017, 1018, 1019, 1020, 1021, 1022, 1023, 1024, 1025, 1026, 1027, 1028, 1029, 1030, 1031, 1032, 1033, 1034, 1035, 1036, 1037, 1038] (by decide +kernel) (by decide +kernel)
set_option maxRecDepth 20000 in
theorem gL_law_X12_paid : GoodIn wsL_law (wsV RL 51 RX12 yX12_paid wsX12_paid) := goodIn_app (goodIn_of _ (by decide +kernel)) ggL_law_X12_paid
set_option maxRecDepth 20000 in
theorem ggL_law_X11_filler : GoodIn wsL_law wsX11_filler := goodIn_r _ [288, 289, 290, 291, 17, 97, 98, 2, 99, 292, 293, 294, 295, 296, 297, 145, 146, 147, 148, 10, 11, 149, 31, 150, 151, 152, 153, 154, 155, 38, 39, 40, 156, 157, 158, 159, 16, 160, 1053, 1054, 1055, 1056, 1057, 1058, 1059, 978, 979, 980, 981, 982, 983, 984, 985, 986, 1060, 1061, 1062, 1063, 1064, 1065, 1066, 1067, 1068, 1069, 1070, 1071, 1072, 1073, 1074, 1075, 1076, 1077, 1078, 1079, 1080, 1081, 1082, 1083, 1084, 1085, 1086, 1087, 1088, 1089, 1090, 1091, 1044, 1045, 1046, 1047, 1048, 1049, 1050, 1051, 1052] (by decide +kernel) (by decide +kernel)
set_option maxRecDepth 20000 in
theorem gL_law_X11_filler : GoodIn wsL_law (wsV RL 52 RX11 yX11_filler wsX11_filler) := goodIn_app (goodIn_of _ (by decide +kernel)) ggL_law_X11_filler
set_option maxRecDepth 20000 in
theorem ggL_law_X12_filler : GoodIn wsL_law wsX12_filler := goodIn_r _ [301, 165, 49, 50, 111, 112, 5, 113, 166, 167, 168, 169, 48, 51, 52, 53, 54, 59, 61, 66, 987, 988, 989, 990, 991, 992, 993, 994, 995, 996, 997, 998, 999, 1000, 1001, 1002, 1003, 1004, 1005, 1006, 1007, 1008, 1009, 1010, 1011, 1012, 1013, 1014, 1015, 1016, 1017, 1018, 1019, 1020, 1021, 1022, 1023, 1024, 1025, 1026, 1027, 1028, 1029, 1030, 1031, 1032, 1033, 1034, 1035, 1036, 1037, 1038] (by decide +kernel) (by decide +kernel)
set_option maxRecDepth 20000 in
theorem gL_law_X12_filler : GoodIn wsL_law (wsV RL 55 RX12 yX12_filler wsX12_filler) := goodIn_app (goodIn_of _ (by decide +kernel)) ggL_law_X12_filler
set_option maxRecDepth 20000 in
theorem ggL_law_X11_notice : GoodIn wsL_law wsX11_notice := goodIn_r _ [305, 306, 307, 308, 309, 17, 175, 176, 177, 2, 178, 16, 97, 98, 99, 310, 311, 312, 313, 314, 14, 160, 315, 316, 317, 318, 319, 23, 320, 24, 321, 322, 323, 324, 94, 95, 96, 325, 326, 327, 26, 328, 32, 329, 330, 331, 332, 33, 101, 102, 333, 334, 335, 336, 337, 338, 339, 340, 341, 342, 343, 344, 345, 346, 347, 145, 146, 147, 148, 10, 11, 149, 31, 150, 151, 152, 153, 154, 155, 38, 39, 40, 156, 157, 158, 159, 1068, 1069, 1070, 1071, 1072, 1073, 1074, 978, 979, 980, 981, 982, 983, 984, 985, 986, 1053, 1054, 1055, 1056, 1057, 1058, 1059, 1060, 1061, 1062, 1063, 1064, 1065, 1066, 1067, 1075, 1076, 1077, 1078, 1079, 1080, 1081, 1082, 1083, 1084, 1085, 1086, 1087, 1088, 1089, 1090, 1091, 1044, 1045, 1046, 1047, 1048, 1049, 1050, 1051, 1052, 1039, 1040, 1041, 1042, 1043] (by decide +kernel) (by decide +kernel)
set_option maxRecDepth 20000 in
theorem gL_law_X11_notice : GoodIn wsL_law (wsV RL 56 RX11 yX11_notice wsX11_notice) := goodIn_app (goodIn_of _ (by decide +kernel)) ggL_law_X11_notice
set_option maxRecDepth 20000 in
theorem ggL_law_X12_notice : GoodIn wsL_law wsX12_notice := goodIn_r _ [351, 165, 48, 53, 52, 191, 192, 193, 5, 194, 111, 112, 113, 352, 353, 354, 355, 87, 85, 356, 357, 86, 358, 359, 360, 361, 80, 81, 82, 166, 167, 168, 169, 49, 50, 51, 54, 59, 61, 66, 987, 988, 989, 990, 991, 992, 993, 994, 995, 996, 997, 998, 999, 1000, 1001, 1002, 1003, 1004, 1005, 1006, 1007, 1008, 1009, 1010, 1011, 1012, 1013, 1014, 1015, 1016, 1017, 1018, 1019, 1020, 1021, 1022, 1023, 1024, 1025, 1026, 1027, 1028, 1029, 1030, 1031, 1032, 1033, 1034, 1035, 1036, 1037, 1038] (by decide +kernel) (by decide +kernel)
set_option maxRecDepth 20000 in
theorem gL_law_X12_notice : GoodIn wsL_law (wsV RL 59 RX12 yX12_notice wsX12_notice) := goodIn_app (goodIn_of _ (by decide +kernel)) ggL_law_X12_notice
set_option maxRecDepth 20000 in
theorem ggL_law_X11_rival : GoodIn wsL_law wsX11_rival := goodIn_r _ [365, 22, 257, 258, 2, 259, 97, 98, 99, 366, 367, 368, 369, 978, 979, 980, 981, 982, 983, 984, 985, 986] (by decide +kernel) (by decide +kernel)
set_option maxRecDepth 20000 in
theorem gL_law_X11_rival : GoodIn wsL_law (wsV RL 60 RX11 yX11_rival wsX11_rival) := goodIn_app (goodIn_of _ (by decide +kernel)) ggL_law_X11_rival
set_option maxRecDepth 20000 in
theorem ggL_law_X12_rival : GoodIn wsL_law wsX12_rival := goodIn_r _ [373, 64, 282, 283, 5, 284, 111, 112, 113, 987, 988, 989, 990, 991, 992, 993, 994, 995, 996, 997, 998, 999, 1000, 1001, 1002, 1003, 1004, 1005, 1006, 1007, 1008, 1009, 1010, 1011, 1012, 1013, 1014, 1015, 1016, 1017, 1018, 1019, 1020, 1021, 1022, 1023, 1024, 1025, 1026, 1027, 1028, 1029, 1030, 1031, 1032, 1033, 1034, 1035, 1036, 1037, 1038] (by decide +kernel) (by decide +kernel)
set_option maxRecDepth 20000 in
theorem gL_law_X12_rival : GoodIn wsL_law (wsV RL 63 RX12 yX12_rival wsX12_rival) := goodIn_app (goodIn_of _ (by decide +kernel)) ggL_law_X12_rival
set_option maxRecDepth 20000 in
theorem ggL_law_X11_names : GoodIn wsL_law wsX11_names := goodIn_r _ [377, 174, 378, 175, 176, 177, 2, 178, 17, 16, 97, 98, 99, 257, 258, 259, 1044, 1045, 1046, 1047, 1048, 1049, 1050, 1051, 1052, 978, 979, 980, 981, 982, 983, 984, 985, 986] (by decide +kernel) (by decide +kernel)
set_option maxRecDepth 20000 in
theorem gL_law_X11_names : GoodIn wsL_law (wsV RL 64 RX11 yX11_names wsX11_names) := goodIn_app (goodIn_of _ (by decide +kernel)) ggL_law_X11_names
set_option maxRecDepth 20000 in
theorem ggL_law_X12_names : GoodIn wsL_law wsX12_names := goodIn_r _ [382, 65, 187, 188, 189, 5, 190, 48, 191, 192, 193, 194, 165, 111, 112, 113, 282, 283, 284, 987, 988, 989, 990, 991, 992, 993, 994, 995, 996, 997, 998, 999, 1000, 1001, 1002, 1003, 1004, 1005, 1006, 1007, 1008, 1009, 1010, 1011, 1012, 1013, 1014, 1015, 1016, 1017, 1018, 1019, 1020, 1021, 1022, 1023, 1024, 1025, 1026, 1027, 1028, 1029, 1030, 1031, 1032, 1033, 1034, 1035, 1036, 1037, 1038] (by decide +kernel) (by decide +kernel)
set_option maxRecDepth 20000 in
theorem gL_law_X12_names : GoodIn wsL_law (wsV RL 67 RX12 yX12_names wsX12_names) := goodIn_app (goodIn_of _ (by decide +kernel)) ggL_law_X12_names
set_option maxRecDepth 20000 in
theorem ggL_law_X11_put : GoodIn wsL_law wsX11_put := goodIn_r _ [386, 254, 255, 256, 13, 121, 23, 18, 387, 388, 389, 175, 176, 177, 2, 178, 17, 16, 97, 98, 99, 94, 95, 96, 390, 391, 392, 393, 20, 394, 395, 396, 397, 146, 398, 399, 400, 401, 201, 402, 206, 403, 404, 405, 253, 406, 276, 407, 408, 409, 219, 410, 225, 223, 411, 412, 413, 414, 415, 291, 416, 295, 296, 417, 418, 419, 207, 420, 421, 309, 422, 346, 423, 424, 425, 426, 427, 428, 429, 224, 430, 431, 136, 432, 260, 261, 262, 263, 10, 11, 264, 265, 266, 267, 268, 269, 433, 434, 435, 436, 437, 149, 154, 438, 439, 440, 441, 442, 443, 444, 445, 26, 446, 447, 448, 449, 450, 237, 238, 101, 102, 329, 330, 331, 332, 32, 33, 451, 452, 453, 454, 455, 456, 457, 458, 459, 460, 461, 462, 345, 463, 464, 465, 466, 467, 468, 469, 470, 471, 472, 473, 474, 475, 476, 477, 478, 479, 480, 481, 482, 483, 484, 485, 486, 487, 488, 489, 141, 140, 490, 491, 492, 493, 494, 495, 496, 497, 498, 499, 500, 501, 502, 503, 504, 505, 506, 507, 508, 509, 510, 511, 512, 513, 514, 515, 516, 517, 518, 519, 520, 521, 522, 523, 524, 525, 526, 527, 528, 529, 530, 531, 532, 533, 534, 535, 536, 537, 538, 539, 540, 541, 542, 543, 544, 545, 19, 1092, 1093, 1094, 1095, 1096, 1097, 978, 979, 980, 981, 982, 983, 984, 985, 986, 1039, 1040, 1041, 1042, 1043, 1098, 1099, 1100, 1101, 1053, 1054, 1055, 1056, 1057, 1058, 1059, 1060, 1061, 1062, 1063, 1064, 1065, 1066, 1067, 1068, 1069, 1070, 1071, 1072, 1073, 1074, 1075, 1076, 1077, 1078, 1079, 1080, 1081, 1082, 1083, 1084, 1085, 1086, 1087, 1088, 1089, 1090, 1091, 1044, 1045, 1046, 1047, 1048, 1049, 1050, 1051, 1052] (by decide +kernel) (by decide +kernel)
set_option maxRecDepth 20000 in
theorem gL_law_X11_put : GoodIn wsL_law (wsV RL 68 RX11 yX11_put wsX11_put) := goodIn_app (goodIn_of _ (by decide +kernel)) ggL_law_X11_put
set_option maxRecDepth 20000 in
theorem ggL_law_X12_put : GoodIn wsL_law wsX12_put := goodIn_r _ [549, 107, 48, 51, 52, 61, 62, 63, 66, 55, 56, 57, 49, 50, 191, 192, 193, 5, 194, 165, 111, 112, 113, 550, 551, 552, 553, 47, 554, 555, 556, 557, 45, 108, 109, 110, 114, 115, 116, 558, 559, 560, 561, 67, 68, 69, 71, 59, 60, 46, 562, 563, 564, 565, 70, 566, 567, 568, 569, 570, 571, 572, 573, 574, 575, 576, 577, 578, 579, 580, 581, 582, 583, 584, 585, 53, 356, 352, 353, 354, 355, 87, 85, 357, 86, 358, 359, 360, 361, 80, 81, 82, 586, 587, 588, 589, 88, 590, 591, 592, 593, 72, 73, 74, 75, 76, 77, 78, 987, 988, 989, 990, 991, 992, 993, 994, 995, 996, 997, 998, 999, 1000, 1001, 1002, 1003, 1004, 1005, 1006, 1007, 1008, 1009, 1010, 1011, 1012, 1013, 1014, 1015, 1016, 1017, 1018, 1019, 1020, 1021, 1022, 1023, 1024, 1025, 1026, 1027, 1028, 1029, 1030, 1031, 1032, 1033, 1034, 1035, 1036, 1037, 1038] (by decide +kernel) (by decide +kernel)
set_option maxRecDepth 20000 in
theorem gL_law_X12_put : GoodIn wsL_law (wsV RL 72 RX12 yX12_put wsX12_put) := goodIn_app (goodIn_of _ (by decide +kernel)) ggL_law_X12_put
set_option maxRecDepth 20000 in
theorem ggL_law_X11_lift : GoodIn wsL_law wsX11_lift := goodIn_r _ [597, 18, 387, 388, 389, 175, 176, 177, 2, 178, 17, 16, 97, 98, 99, 390, 391, 392, 393, 20, 598, 599, 600, 484, 146, 485, 149, 154, 601, 602, 603, 604, 605, 606, 607, 608, 609, 13, 512, 513, 519, 520, 521, 26, 522, 449, 447, 450, 448, 33, 329, 330, 331, 332, 32, 101, 102, 610, 611, 612, 613, 614, 615, 616, 617, 618, 619, 534, 535, 536, 537, 10, 11, 538, 539, 540, 541, 542, 543, 544, 545, 19, 1098, 1099, 1100, 1101, 1053, 1054, 1055, 1056, 1057, 1058, 1059, 1060, 1061, 1062, 1063, 1064, 1065, 1066, 1067, 1068, 1069, 1070, 1071, 1072, 1073, 1074, 1075, 1076, 1077, 1078, 1079, 1080, 1081, 1082, 1083, 1084, 1085, 1086, 1087, 1088, 1089, 1090, 1091, 1044, 1045, 1046, 1047, 1048, 1049, 1050, 1051, 1052, 978, 979, 980, 981, 982, 983, 984, 985, 986, 1092, 1093, 1094, 1095, 1096, 1097, 1039, 1040, 1041, 1042, 1043] (by decide +kernel) (by decide +kernel)
set_option maxRecDepth 20000 in
theorem gL_law_X11_lift : GoodIn wsL_law (wsV RL 73 RX11 yX11_lift wsX11_lift) := goodIn_app (goodIn_of _ (by decide +kernel)) ggL_law_X11_lift
set_option maxRecDepth 20000 in
theorem ggL_law_X12_lift : GoodIn wsL_law wsX12_lift := goodIn_r _ [623, 66, 107, 67, 68, 69, 70, 71, 191, 192, 193, 5, 194, 165, 111, 112, 113, 590, 591, 592, 593, 72, 73, 74, 75, 76, 77, 78, 578, 579, 580, 581, 566, 567, 568, 569, 47, 114, 115, 116, 987, 988, 989, 990, 991, 992, 993, 994, 995, 996, 997, 998, 999, 1000, 1001, 1002, 1003, 1004, 1005, 1006, 1007, 1008, 1009, 1010, 1011, 1012, 1013, 1014, 1015, 1016, 1017, 1018, 1019, 1020, 1021, 1022, 1023, 1024, 1025, 1026, 1027, 1028, 1029, 1030, 1031, 1032, 1033, 1034, 1035, 1036, 1037, 1038] (by decide +kernel) (by decide +kernel)
set_option maxRecDepth 20000 in
theorem gL_law_X12_lift : GoodIn wsL_law (wsV RL 76 RX12 yX12_lift wsX12_lift) := goodIn_app (goodIn_of _ (by decide +kernel)) ggL_law_X12_lift
set_option maxRecDepth 20000 in
theorem ggL_law_X11_rule : GoodIn wsL_law wsX11_rule := goodIn_r _ [627, 254, 255, 256, 13, 18, 387, 388, 94, 95, 2, 96, 97, 98, 99, 390, 391, 392, 393, 20, 260, 261, 262, 263, 10, 11, 264, 265, 266, 267, 268, 269, 443, 444, 445, 26, 446, 447, 448, 449, 450, 237, 238, 101, 102, 329, 330, 331, 332, 32, 33, 508, 509, 510, 511, 512, 513, 514, 515, 516, 517, 518, 519, 520, 521, 522, 523, 524, 525, 526, 146, 527, 154, 149, 528, 434, 435, 436, 437, 438, 439, 440, 441, 442, 529, 530, 531, 532, 533, 534, 535, 536, 537, 538, 539, 540, 541, 542, 543, 544, 545, 19, 1092, 1093, 1094, 1095, 1096, 1097, 978, 979, 980, 981, 982, 983, 984, 985, 986, 1098, 1099, 1100, 1101, 1039, 1040, 1041, 1042, 1043, 1053, 1054, 1055, 1056, 1057, 1058, 1059, 1060, 1061, 1062, 1063, 1064, 1065, 1066, 1067, 1068, 1069, 1070, 1071, 1072, 1073, 1074, 1075, 1076, 1077, 1078, 1079, 1080, 1081, 1082, 1083, 1084, 1085, 1086, 1087, 1088, 1089, 1090, 1091, 1044, 1045, 1046, 1047, 1048, 1049, 1050, 1051, 1052] (by decide +kernel) (by decide +kernel)
set_option maxRecDepth 20000 in
theorem gL_law_X11_rule : GoodIn wsL_law (wsV RL 77 RX11 yX11_rule wsX11_rule) := goodIn_app (goodIn_of _ (by decide +kernel)) ggL_law_X11_rule
set_option maxRecDepth 20000 in
theorem ggL_law_X12_rule : GoodIn wsL_law wsX12_rule := goodIn_r _ [631, 47, 107, 554, 555, 556, 5, 557, 45, 108, 109, 110, 111, 112, 113, 114, 115, 116, 590, 591, 592, 593, 72, 73, 74, 75, 76, 77, 78, 987, 988, 989, 990, 991, 992, 993, 994, 995, 996, 997, 998, 999, 1000, 1001, 1002, 1003, 1004, 1005, 1006, 1007, 1008, 1009, 1010, 1011, 1012, 1013, 1014, 1015, 1016, 1017, 1018, 1019, 1020, 1021, 1022, 1023, 1024, 1025, 1026, 1027, 1028, 1029, 1030, 1031, 1032, 1033, 1034, 1035, 1036, 1037, 1038] (by decide +kernel) (by decide +kernel)
set_option maxRecDepth 20000 in
theorem gL_law_X12_rule : GoodIn wsL_law (wsV RL 80 RX12 yX12_rule wsX12_rule) := goodIn_app (goodIn_of _ (by decide +kernel)) ggL_law_X12_rule
set_option maxRecDepth 20000 in
theorem ggL_law_X11_fill : GoodIn wsL_law wsX11_fill := goodIn_r _ [635, 636, 94, 95, 2, 96, 97, 98, 99, 390, 391, 392, 393, 20, 637, 638, 639, 640, 13, 93, 254, 255, 256, 18, 387, 388, 641, 330, 331, 26, 332, 32, 33, 101, 102, 642, 643, 644, 645, 17, 16, 646, 647, 648, 649, 650, 651, 436, 146, 437, 149, 154, 260, 261, 262, 263, 10, 11, 264, 265, 266, 267, 268, 269, 508, 509, 510, 511, 512, 513, 514, 515, 516, 517, 518, 519, 520, 521, 522, 449, 447, 450, 448, 329, 523, 524, 525, 526, 527, 528, 434, 435, 438, 439, 440, 441, 442, 529, 530, 531, 532, 533, 534, 535, 536, 537, 538, 539, 540, 541, 542, 543, 544, 545, 19, 1098, 1099, 1100, 1101, 978, 979, 980, 981, 982, 983, 984, 985, 986, 1039, 1040, 1041, 1042, 1043, 1092, 1093, 1094, 1095, 1096, 1097, 1053, 1054, 1055, 1056, 1057, 1058, 1059, 1060, 1061, 1062, 1063, 1064, 1065, 1066, 1067, 1068, 1069, 1070, 1071, 1072, 1073, 1074, 1075, 1076, 1077, 1078, 1079, 1080, 1081, 1082, 1083, 1084, 1085, 1086, 1087, 1088, 1089, 1090, 1091, 1044, 1045, 1046, 1047, 1048, 1049, 1050, 1051, 1052] (by decide +kernel) (by decide +kernel)
set_option maxRecDepth 20000 in
theorem gL_law_X11_fill : GoodIn wsL_law (wsV RL 81 RX11 yX11_fill wsX11_fill) := goodIn_app (goodIn_of _ (by decide +kernel)) ggL_law_X11_fill
set_option maxRecDepth 20000 in
theorem ggL_law_X12_fill : GoodIn wsL_law wsX12_fill := goodIn_r _ [655, 107, 45, 47, 79, 656, 108, 109, 5, 110, 111, 112, 113, 114, 115, 116, 657, 658, 659, 660, 165, 48, 66, 49, 50, 562, 563, 564, 565, 67, 68, 69, 70, 71, 566, 567, 568, 569, 590, 591, 592, 593, 72, 73, 74, 75, 76, 77, 78, 987, 988, 989, 990, 991, 992, 993, 994, 995, 996, 997, 998, 999, 1000, 1001, 1002, 1003, 1004, 1005, 1006, 1007, 1008, 1009, 1010, 1011, 1012, 1013, 1014, 1015, 1016, 1017, 1018, 1019, 1020, 1021, 1022, 1023, 1024, 1025, 1026, 1027, 1028, 1029, 1030, 1031, 1032, 1033, 1034, 1035, 1036, 1037, 1038] (by decide +kernel) (by decide +kernel)
set_option maxRecDepth 20000 in
theorem gL_law_X12_fill : GoodIn wsL_law (wsV RL 84 RX12 yX12_fill wsX12_fill) := goodIn_app (goodIn_of _ (by decide +kernel)) ggL_law_X12_fill
set_option maxRecDepth 20000 in
theorem ggL_law_X11_undo : GoodIn wsL_law wsX11_undo := goodIn_r _ [664, 20, 19, 665, 666, 667, 2, 668, 669, 670, 671, 508, 509, 510, 511, 13, 512, 513, 514, 515, 516, 256, 517, 264, 518, 519, 520, 521, 26, 522, 449, 447, 450, 448, 33, 329, 330, 331, 332, 32, 101, 102, 97, 98, 99, 523, 524, 525, 526, 146, 527, 154, 149, 528, 434, 435, 436, 437, 438, 439, 440, 441, 442, 529, 530, 531, 532, 533, 606, 607, 608, 609, 610, 611, 612, 613, 614, 615, 616, 617, 618, 619, 978, 979, 980, 981, 982, 983, 984, 985, 986, 1098, 1099, 1100, 1101, 1092, 1093, 1094, 1095, 1096, 1097, 1053, 1054, 1055, 1056, 1057, 1058, 1059, 1060, 1061, 1062, 1063, 1064, 1065, 1066, 1067, 1068, 1069, 1070, 1071, 1072, 1073, 1074, 1075, 1076, 1077, 1078, 1079, 1080, 1081, 1082, 1083, 1084, 1085, 1086, 1087, 1088, 1089, 1090, 1091, 1044, 1045, 1046, 1047, 1048, 1049, 1050, 1051, 1052, 1039, 1040, 1041, 1042, 1043] (by decide +kernel) (by decide +kernel)
set_option maxRecDepth 20000 in
theorem gL_law_X11_undo : GoodIn wsL_law (wsV RL 85 RX11 yX11_undo wsX11_undo) := goodIn_app (goodIn_of _ (by decide +kernel)) ggL_law_X11_undo
set_option maxRecDepth 20000 in
theorem ggL_law_X12_undo : GoodIn wsL_law wsX12_undo := goodIn_r _ [675, 107, 73, 72, 74, 75, 76, 77, 78, 47, 656, 79, 578, 579, 580, 5, 581, 66, 67, 68, 69, 70, 71, 566, 567, 568, 569, 114, 115, 116, 562, 563, 564, 565, 987, 988, 989, 990, 991, 992, 993, 994, 995, 996, 997, 998, 999, 1000, 1001, 1002, 1003, 1004, 1005, 1006, 1007, 1008, 1009, 1010, 1011, 1012, 1013, 1014, 1015, 1016, 1017, 1018, 1019, 1020, 1021, 1022, 1023, 1024, 1025, 1026, 1027, 1028, 1029, 1030, 1031, 1032, 1033, 1034, 1035, 1036, 1037, 1038] (by decide +kernel) (by decide +kernel)
set_option maxRecDepth 20000 in
theorem gL_law_X12_undo : GoodIn wsL_law (wsV RL 88 RX12 yX12_undo wsX12_undo) := goodIn_app (goodIn_of _ (by decide +kernel)) ggL_law_X12_undo
set_option maxRecDepth 20000 in
theorem ggL_law_X11_plate : GoodIn wsL_law wsX11_plate := goodIn_r _ [679, 13, 680, 14, 12, 25, 26, 23, 319, 24, 320, 94, 95, 2, 96, 97, 98, 99, 681, 682, 683, 684, 32, 685, 686, 687, 688, 689, 690, 691, 692, 329, 330, 331, 332, 33, 101, 102, 693, 694, 695, 696, 17, 16, 697, 698, 699, 700, 701, 702, 703, 704, 705, 706, 707, 146, 708, 149, 154, 709, 710, 711, 712, 713, 714, 715, 716, 717, 718, 719, 720, 721, 366, 367, 368, 369, 22, 722, 723, 724, 174, 378, 725, 726, 727, 728, 729, 730, 731, 732, 733, 734, 735, 736, 737, 256, 738, 266, 268, 265, 267, 269, 739, 740, 741, 742, 743, 744, 745, 746, 747, 748, 749, 750, 751, 752, 753, 754, 755, 756, 10, 11, 757, 758, 759, 760, 761, 762, 763, 764, 765, 501, 502, 136, 503, 479, 480, 504, 505, 506, 507, 494, 495, 496, 497, 498, 499, 477, 478, 766, 767, 768, 769, 770, 771, 512, 772, 773, 774, 775, 776, 777, 778, 779, 484, 485, 641, 27, 28, 29, 30, 31, 34, 35, 36, 37, 38, 39, 40, 780, 781, 782, 783, 784, 785, 786, 787, 978, 979, 980, 981, 982, 983, 984, 985, 986, 1102, 1103, 1104, 1039, 1040, 1041, 1042, 1043, 1053, 1054, 1055, 1056, 1057, 1058, 1059, 1060, 1061, 1062, 1063, 1064, 1065, 1066, 1067, 1068, 1069, 1070, 1071, 1072, 1073, 1074, 1075, 1076, 1077, 1078, 1079, 1080, 1081, 1082, 1083, 1084, 1085, 1086, 1087, 1088, 1089, 1090, 1091, 1044, 1045, 1046, 1047, 1048, 1049, 1050, 1051, 1052, 1092, 1093, 1094, 1095, 1096, 1097] (by decide +kernel) (by decide +kernel)
set_option maxRecDepth 20000 in
theorem gL_law_X11_plate : GoodIn wsL_law (wsV RL 89 RX11 yX11_plate wsX11_plate) := goodIn_app (goodIn_of _ (by decide +kernel)) ggL_law_X11_plate
set_option maxRecDepth 20000 in
theorem ggL_law_X12_plate : GoodIn wsL_law wsX12_plate := goodIn_r _ [791, 45, 47, 792, 80, 81, 356, 82, 357, 84, 83, 85, 165, 66, 67, 68, 86, 69, 108, 109, 5, 110, 111, 112, 113, 114, 115, 116, 793, 794, 795, 796, 797, 798, 48, 49, 554, 555, 556, 557, 799, 800, 801, 802, 64, 54, 65, 803, 804, 805, 806, 807, 808, 809, 810, 811, 812, 813, 814, 574, 575, 576, 577, 570, 571, 572, 573, 71, 815, 816, 817, 818, 70, 53, 987, 988, 989, 990, 991, 992, 993, 994, 995, 996, 997, 998, 999, 1000, 1001, 1002, 1003, 1004, 1005, 1006, 1007, 1008, 1009, 1010, 1011, 1012, 1013, 1014, 1015, 1016, 1017, 1018, 1019, 1020, 1021, 1022, 1023, 1024, 1025, 1026, 1027, 1028, 1029, 1030, 1031, 1032, 1033, 1034, 1035, 1036, 1037, 1038] (by decide +kernel) (by decide +kernel)
set_option maxRecDepth 20000 in
theorem gL_law_X12_plate : GoodIn wsL_law (wsV RL 92 RX12 yX12_plate wsX12_plate) := goodIn_app (goodIn_of _ (by decide +kernel)) ggL_law_X12_plate
set_option maxRecDepth 20000 in
theorem ggL_law_X11_edition : GoodIn wsL_law wsX11_edition := goodIn_r _ [822, 24, 823, 824, 825, 2, 826, 315, 316, 317, 318, 14, 319, 23, 320, 321, 322, 323, 324, 94, 95, 96, 97, 98, 99, 827, 828, 829, 830, 93, 641, 330, 331, 26, 332, 32, 33, 101, 102, 175, 176, 177, 178, 17, 16, 831, 832, 833, 834, 314, 719, 835, 333, 334, 335, 336, 978, 979, 980, 981, 982, 983, 984, 985, 986, 1039, 1040, 1041, 1042, 1043, 1053, 1054, 1055, 1056, 1057, 1058, 1059, 1060, 1061, 1062, 1063, 1064, 1065, 1066, 1067, 1068, 1069, 1070, 1071, 1072, 1073, 1074, 1075, 1076, 1077, 1078, 1079, 1080, 1081, 1082, 1083, 1084, 1085, 1086, 1087, 1088, 1089, 1090, 1091, 1044, 1045, 1046, 1047, 1048, 1049, 1050, 1051, 1052] (by decide +kernel) (by decide +kernel)
set_option maxRecDepth 20000 in
theorem gL_law_X11_edition : GoodIn wsL_law (wsV RL 93 RX11 yX11_edition wsX11_edition) := goodIn_app (goodIn_of _ (by decide +kernel)) ggL_law_X11_edition
set_option maxRecDepth 20000 in
theorem ggL_law_X12_edition : GoodIn wsL_law wsX12_edition := goodIn_r _ [839, 357, 840, 841, 842, 5, 843, 165, 85, 88, 356, 87, 86, 358, 359, 360, 361, 80, 81, 82, 987, 988, 989, 990, 991, 992, 993, 994, 995, 996, 997, 998, 999, 1000, 1001, 1002, 1003, 1004, 1005, 1006, 1007, 1008, 1009, 1010, 1011, 1012, 1013, 1014, 1015, 1016, 1017, 1018, 1019, 1020, 1021, 1022, 1023, 1024, 1025, 1026, 1027, 1028, 1029, 1030, 1031, 1032, 1033, 1034, 1035, 1036, 1037, 1038] (by decide +kernel) (by decide +kernel)
set_option maxRecDepth 20000 in
theorem gL_law_X12_edition : GoodIn wsL_law (wsV RL 96 RX12 yX12_edition wsX12_edition) := goodIn_app (goodIn_of _ (by decide +kernel)) ggL_law_X12_edition
set_option maxRecDepth 20000 in
theorem ggL_law_X11_day : GoodIn wsL_law wsX11_day := goodIn_r _ [847, 23, 24, 823, 824, 825, 2, 826, 315, 316, 317, 318, 14, 319, 320, 321, 322, 323, 324, 94, 95, 96, 97, 98, 99, 827, 828, 829, 830, 93, 641, 330, 331, 26, 332, 32, 33, 101, 102, 175, 176, 177, 178, 17, 16, 831, 832, 833, 834, 314, 719, 835, 333, 334, 335, 336, 848, 849, 850, 851, 13, 20, 19, 852, 853, 854, 855, 146, 856, 154, 149, 857, 858, 859, 860, 861, 862, 863, 864, 865, 37, 38, 39, 40, 978, 979, 980, 981, 982, 983, 984, 985, 986, 1039, 1040, 1041, 1042, 1043, 1053, 1054, 1055, 1056, 1057, 1058, 1059, 1060, 1061, 1062, 1063, 1064, 1065, 1066, 1067, 1068, 1069, 1070, 1071, 1072, 1073, 1074, 1075, 1076, 1077, 1078, 1079, 1080, 1081, 1082, 1083, 1084, 1085, 1086, 1087, 1088, 1089, 1090, 1091, 1044, 1045, 1046, 1047, 1048, 1049, 1050, 1051, 1052] (by decide +kernel) (by decide +kernel)
set_option maxRecDepth 20000 in
theorem gL_law_X11_day : GoodIn wsL_law (wsV RL 97 RX11 yX11_day wsX11_day) := goodIn_app (goodIn_of _ (by decide +kernel)) ggL_law_X11_day
set_option maxRecDepth 20000 in
theorem ggL_law_X12_day : GoodIn wsL_law wsX12_day := goodIn_r _ [869, 356, 357, 47, 165, 66, 840, 841, 842, 5, 843, 85, 88, 87, 86, 358, 359, 360, 361, 80, 81, 82, 870, 871, 872, 873, 107, 656, 987, 988, 989, 990, 991, 992, 993, 994, 995, 996, 997, 998, 999, 1000, 1001, 1002, 1003, 1004, 1005, 1006, 1007, 1008, 1009, 1010, 1011, 1012, 1013, 1014, 1015, 1016, 1017, 1018, 1019, 1020, 1021, 1022, 1023, 1024, 1025, 1026, 1027, 1028, 1029, 1030, 1031, 1032, 1033, 1034, 1035, 1036, 1037, 1038] (by decide +kernel) (by decide +kernel)
set_option maxRecDepth 20000 in
theorem gL_law_X12_day : GoodIn wsL_law (wsV RL 100 RX12 yX12_day wsX12_day) := goodIn_app (goodIn_of _ (by decide +kernel)) ggL_law_X12_day
set_option maxRecDepth 20000 in
theorem ggL_law_X11_cell : GoodIn wsL_law wsX11_cell := goodIn_r _ [877, 13, 94, 95, 2, 96, 97, 98, 99, 641, 330, 331, 26, 332, 32, 33, 101, 102, 978, 979, 980, 981, 982, 983, 984, 985, 986, 1039, 1040, 1041, 1042, 1043] (by decide +kernel) (by decide +kernel)
set_option maxRecDepth 20000 in
theorem gL_law_X11_cell : GoodIn wsL_law (wsV RL 101 RX11 yX11_cell wsX11_cell) := goodIn_app (goodIn_of _ (by decide +kernel)) ggL_law_X11_cell
set_option maxRecDepth 20000 in
theorem ggL_law_X12_cell : GoodIn wsL_law wsX12_cell := goodIn_r _ [881, 47, 554, 555, 556, 5, 557, 45, 108, 109, 110, 111, 112, 113, 114, 115, 116, 987, 988, 989, 990, 991, 992, 993, 994, 995, 996, 997, 998, 999, 1000, 1001, 1002, 1003, 1004, 1005, 1006, 1007, 1008, 1009, 1010, 1011, 1012, 1013, 1014, 1015, 1016, 1017, 1018, 1019, 1020, 1021, 1022, 1023, 1024, 1025, 1026, 1027, 1028, 1029, 1030, 1031, 1032, 1033, 1034, 1035, 1036, 1037, 1038] (by decide +kernel) (by decide +kernel)
set_option maxRecDepth 20000 in
theorem gL_law_X12_cell : GoodIn wsL_law (wsV RL 104 RX12 yX12_cell wsX12_cell) := goodIn_app (goodIn_of _ (by decide +kernel)) ggL_law_X12_cell
set_option maxRecDepth 20000 in
theorem ggL_law_X11_piece : GoodIn wsL_law wsX11_piece := goodIn_r _ [885, 389, 886, 512, 770, 772, 771, 773, 174, 175, 176, 177, 2, 178, 17, 16, 97, 98, 99, 887, 505, 506, 136, 507, 479, 480, 494, 495, 496, 497, 498, 499, 477, 478, 888, 1053, 1054, 1055, 1056, 1057, 1058, 1059, 1060, 1061, 1062, 1063, 1064, 1065, 1066, 1067, 1068, 1069, 1070, 1071, 1072, 1073, 1074, 1075, 1076, 1077, 1078, 1079, 1080, 1081, 1082, 1083, 1084, 1085, 1086, 1087, 1088, 1089, 1090, 1091, 1044, 1045, 1046, 1047, 1048, 1049, 1050, 1051, 1052, 1092, 1093, 1094, 1095, 1096, 1097, 978, 979, 980, 981, 982, 983, 984, 985, 986] (by decide +kernel) (by decide +kernel)
set_option maxRecDepth 20000 in
theorem gL_law_X11_piece : GoodIn wsL_law (wsV RL 105 RX11 yX11_piece wsX11_piece) := goodIn_app (goodIn_of _ (by decide +kernel)) ggL_law_X11_piece
set_option maxRecDepth 20000 in
theorem ggL_law_X12_piece : GoodIn wsL_law wsX12_piece := goodIn_r _ [892, 66, 67, 68, 69, 70, 71, 48, 191, 192, 193, 5, 194, 165, 111, 112, 113, 574, 575, 576, 577, 570, 571, 572, 573, 987, 988, 989, 990, 991, 992, 993, 994, 995, 996, 997, 998, 999, 1000, 1001, 1002, 1003, 1004, 1005, 1006, 1007, 1008, 1009, 1010, 1011, 1012, 1013, 1014, 1015, 1016, 1017, 1018, 1019, 1020, 1021, 1022, 1023, 1024, 1025, 1026, 1027, 1028, 1029, 1030, 1031, 1032, 1033, 1034, 1035, 1036, 1037, 1038] (by decide +kernel) (by decide +kernel)
set_option maxRecDepth 20000 in
theorem gL_law_X12_piece : GoodIn wsL_law (wsV RL 108 RX12 yX12_piece wsX12_piece) := goodIn_app (goodIn_of _ (by decide +kernel)) ggL_law_X12_piece
set_option maxRecDepth 20000 in
theorem ggL_law_X11_item : GoodIn wsL_law wsX11_item := goodIn_r _ [896, 897, 389, 174, 898, 719, 720, 175, 176, 177, 2, 178, 17, 16, 97, 98, 99, 765, 501, 502, 136, 503, 479, 480, 504, 505, 506, 507, 494, 495, 496, 497, 498, 499, 477, 478, 899, 900, 901, 902, 721, 774, 775, 776, 306, 341, 160, 1053, 1054, 1055, 1056, 1057, 1058, 1059, 1060, 1061, 1062, 1063, 1064, 1065, 1066, 1067, 1068, 1069, 1070, 1071, 1072, 1073, 1074, 1075, 1076, 1077, 1078, 1079, 1080, 1081, 1082, 1083, 1084, 1085, 1086, 1087, 1088, 1089, 1090, 1091, 1044, 1045, 1046, 1047, 1048, 1049, 1050, 1051, 1052, 978, 979, 980, 981, 982, 983, 984, 985, 986, 1092, 1093, 1094, 1095, 1096, 1097] (by decide +kernel) (by decide +kernel)
set_option maxRecDepth 20000 in
theorem gL_law_X11_item : GoodIn wsL_law (wsV RL 109 RX11 yX11_item wsX11_item) := goodIn_app (goodIn_of _ (by decide +kernel)) ggL_law_X11_item
set_option maxRecDepth 20000 in
theorem ggL_law_X12_item : GoodIn wsL_law wsX12_item := goodIn_r _ [906, 48, 66, 59, 53, 54, 191, 192, 193, 5, 194, 165, 111, 112, 113, 811, 812, 813, 814, 574, 575, 576, 577, 570, 571, 572, 573, 71, 67, 987, 988, 989, 990, 991, 992, 993, 994, 995, 996, 997, 998, 999, 1000, 1001, 1002, 1003, 1004, 1005, 1006, 1007, 1008, 1009, 1010, 1011, 1012, 1013, 1014, 1015, 1016, 1017, 1018, 1019, 1020, 1021, 1022, 1023, 1024, 1025, 1026, 1027, 1028, 1029, 1030, 1031, 1032, 1033, 1034, 1035, 1036, 1037, 1038] (by decide +kernel) (by decide +kernel)
set_option maxRecDepth 20000 in
theorem gL_law_X12_item : GoodIn wsL_law (wsV RL 112 RX12 yX12_item wsX12_item) := goodIn_app (goodIn_of _ (by decide +kernel)) ggL_law_X12_item
set_option maxRecDepth 20000 in
theorem ggL_law_X11_shortOf : GoodIn wsL_law wsX11_shortOf := goodIn_r _ [910, 13, 94, 95, 2, 96, 97, 98, 99, 100, 101, 102, 911, 690, 691, 26, 692, 32, 329, 330, 331, 332, 33, 978, 979, 980, 981, 982, 983, 984, 985, 986, 1039, 1040, 1041, 1042, 1043] (by decide +kernel) (by decide +kernel)
set_option maxRecDepth 20000 in
theorem gL_law_X11_shortOf : GoodIn wsL_law (wsV RL 113 RX11 yX11_shortOf wsX11_shortOf) := goodIn_app (goodIn_of _ (by decide +kernel)) ggL_law_X11_shortOf
set_option maxRecDepth 20000 in
theorem ggL_law_X12_shortOf : GoodIn wsL_law wsX12_shortOf := goodIn_r _ [915, 45, 47, 108, 109, 5, 110, 111, 112, 113, 114, 115, 116, 987, 988, 989, 990, 991, 992, 993, 994, 995, 996, 997, 998, 999, 1000, 1001, 1002, 1003, 1004, 1005, 1006, 1007, 1008, 1009, 1010, 1011, 1012, 1013, 1014, 1015, 1016, 1017, 1018, 1019, 1020, 1021, 1022, 1023, 1024, 1025, 1026, 1027, 1028, 1029, 1030, 1031, 1032, 1033, 1034, 1035, 1036, 1037, 1038] (by decide +kernel) (by decide +kernel)
set_option maxRecDepth 20000 in
theorem gL_law_X12_shortOf : GoodIn wsL_law (wsV RL 116 RX12 yX12_shortOf wsX12_shortOf) := goodIn_app (goodIn_of _ (by decide +kernel)) ggL_law_X12_shortOf
set_option maxRecDepth 20000 in
theorem ggL_law_X11_broken : GoodIn wsL_law wsX11_broken := goodIn_r _ [919, 680, 920, 921, 94, 95, 2, 96, 97, 98, 99, 693, 694, 695, 696, 17, 16, 697, 698, 699, 700, 701, 702, 703, 704, 705, 706, 707, 146, 708, 149, 154, 709, 710, 711, 712, 713, 714, 715, 716, 717, 718, 719, 720, 721, 366, 367, 368, 369, 22, 722, 723, 724, 174, 378, 725, 726, 727, 728, 729, 730, 731, 732, 733, 734, 735, 736, 737, 256, 738, 266, 268, 265, 267, 269, 739, 740, 741, 742, 743, 744, 745, 746, 747, 748, 749, 750, 751, 752, 753, 754, 755, 756, 10, 11, 757, 758, 759, 760, 761, 762, 763, 764, 765, 501, 502, 136, 503, 479, 480, 504, 505, 506, 507, 494, 495, 496, 497, 498, 499, 477, 478, 766, 767, 768, 769, 770, 771, 13, 512, 772, 773, 774, 775, 776, 777, 778, 779, 484, 485, 641, 330, 331, 26, 332, 32, 33, 101, 102, 1102, 1103, 1104, 978, 979, 980, 981, 982, 983, 984, 985, 986, 1053, 1054, 1055, 1056, 1057, 1058, 1059, 1060, 1061, 1062, 1063, 1064, 1065, 1066, 1067, 1068, 1069, 1070, 1071, 1072, 1073, 1074, 1075, 1076, 1077, 1078, 1079, 1080, 1081, 1082, 1083, 1084, 1085, 1086, 1087, 1088, 1089, 1090, 1091, 1044, 1045, 1046, 1047, 1048, 1049, 1050, 1051, 1052, 1092, 1093, 1094, 1095, 1096, 1097, 1039, 1040, 1041, 1042, 1043] (by decide +kernel) (by decide +kernel)
set_option maxRecDepth 20000 in
theorem gL_law_X11_broken : GoodIn wsL_law (wsV RL 117 RX11 yX11_broken wsX11_broken) := goodIn_app (goodIn_of _ (by decide +kernel)) ggL_law_X11_broken
set_option maxRecDepth 20000 in
theorem ggL_law_X12_broken : GoodIn wsL_law wsX12_broken := goodIn_r _ [925, 792, 797, 798, 108, 109, 5, 110, 111, 112, 113, 793, 794, 795, 796, 45, 47, 165, 66, 67, 48, 49, 114, 115, 116, 554, 555, 556, 557, 799, 800, 801, 802, 64, 54, 65, 803, 804, 805, 806, 807, 808, 809, 810, 811, 812, 813, 814, 574, 575, 576, 577, 570, 571, 572, 573, 71, 815, 816, 817, 818, 69, 68, 70, 53, 987, 988, 989, 990, 991, 992, 993, 994, 995, 996, 997, 998, 999, 1000, 1001, 1002, 1003, 1004, 1005, 1006, 1007, 1008, 1009, 1010, 1011, 1012, 1013, 1014, 1015, 1016, 1017, 1018, 1019, 1020, 1021, 1022, 1023, 1024, 1025, 1026, 1027, 1028, 1029, 1030, 1031, 1032, 1033, 1034, 1035, 1036, 1037, 1038] (by decide +kernel) (by decide +kernel)
set_option maxRecDepth 20000 in
theorem gL_law_X12_broken : GoodIn wsL_law (wsV RL 120 RX12 yX12_broken wsX12_broken) := goodIn_app (goodIn_of _ (by decide +kernel)) ggL_law_X12_broken
set_option maxRecDepth 20000 in
theorem ggL_law_X11_printed : GoodIn wsL_law wsX11_printed := goodIn_r _ [929, 175, 176, 177, 2, 178, 17, 16, 97, 98, 99, 310, 311, 312, 313, 314, 14, 160, 315, 316, 317, 318, 319, 23, 320, 24, 321, 322, 323, 324, 94, 95, 96, 325, 326, 327, 26, 328, 32, 329, 330, 331, 332, 33, 101, 102, 333, 334, 335, 336, 978, 979, 980, 981, 982, 983, 984, 985, 986, 1053, 1054, 1055, 1056, 1057, 1058, 1059, 1060, 1061, 1062, 1063, 1064, 1065, 1066, 1067, 1068, 1069, 1070, 1071, 1072, 1073, 1074, 1075, 1076, 1077, 1078, 1079, 1080, 1081, 1082, 1083, 1084, 1085, 1086, 1087, 1088, 1089, 1090, 1091, 1044, 1045, 1046, 1047, 1048, 1049, 1050, 1051, 1052, 1039, 1040, 1041, 1042, 1043] (by decide +kernel) (by decide +kernel)
set_option maxRecDepth 20000 in
theorem gL_law_X11_printed : GoodIn wsL_law (wsV RL 121 RX11 yX11_printed wsX11_printed) := goodIn_app (goodIn_of _ (by decide +kernel)) ggL_law_X11_printed
set_option maxRecDepth 20000 in
theorem ggL_law_X12_printed : GoodIn wsL_law wsX12_printed := goodIn_r _ [355, 87, 85, 356, 357, 86, 191, 192, 193, 5, 194, 165, 111, 112, 113, 358, 359, 360, 361, 80, 81, 82, 987, 988, 989, 990, 991, 992, 993, 994, 995, 996, 997, 998, 999, 1000, 1001, 1002, 1003, 1004, 1005, 1006, 1007, 1008, 1009, 1010, 1011, 1012, 1013, 1014, 1015, 1016, 1017, 1018, 1019, 1020, 1021, 1022, 1023, 1024, 1025, 1026, 1027, 1028, 1029, 1030, 1031, 1032, 1033, 1034, 1035, 1036, 1037, 1038] (by decide +kernel) (by decide +kernel)
set_option maxRecDepth 20000 in
theorem gL_law_X12_printed : GoodIn wsL_law (wsV RL 124 RX12 yX12_printed wsX12_printed) := goodIn_app (goodIn_of _ (by decide +kernel)) ggL_law_X12_printed
set_option maxRecDepth 20000 in
theorem ggL_law_X11_plated : GoodIn wsL_law wsX11_plated := goodIn_r _ [934, 14, 321, 322, 323, 2, 324, 94, 95, 96, 97, 98, 99, 641, 330, 331, 26, 332, 32, 33, 101, 102, 978, 979, 980, 981, 982, 983, 984, 985, 986, 1039, 1040, 1041, 1042, 1043] (by decide +kernel) (by decide +kernel)
set_option maxRecDepth 20000 in
theorem gL_law_X11_plated : GoodIn wsL_law (wsV RL 125 RX11 yX11_plated wsX11_plated) := goodIn_app (goodIn_of _ (by decide +kernel)) ggL_law_X11_plated
set_option maxRecDepth 20000 in
theorem ggL_law_X12_plated : GoodIn wsL_law wsX12_plated := goodIn_r _ [938, 80, 83, 84, 108, 109, 5, 110, 111, 112, 113, 114, 115, 116, 987, 988, 989, 990, 991, 992, 993, 994, 995, 996, 997, 998, 999, 1000, 1001, 1002, 1003, 1004, 1005, 1006, 1007, 1008, 1009, 1010, 1011, 1012, 1013, 1014, 1015, 1016, 1017, 1018, 1019, 1020, 1021, 1022, 1023, 1024, 1025, 1026, 1027, 1028, 1029, 1030, 1031, 1032, 1033, 1034, 1035, 1036, 1037, 1038] (by decide +kernel) (by decide +kernel)
set_option maxRecDepth 20000 in
theorem gL_law_X12_plated : GoodIn wsL_law (wsV RL 128 RX12 yX12_plated wsX12_plated) := goodIn_app (goodIn_of _ (by decide +kernel)) ggL_law_X12_plated
set_option maxRecDepth 20000 in
theorem ggL_law_X11_plateOf : GoodIn wsL_law wsX11_plateOf := goodIn_r _ [942, 14, 319, 320, 321, 322, 323, 2, 324, 94, 95, 96, 97, 98, 99, 978, 979, 980, 981, 982, 983, 984, 985, 986, 1039, 1040, 1041, 1042, 1043] (by decide +kernel) (by decide +kernel)
set_option maxRecDepth 20000 in
theorem gL_law_X11_plateOf : GoodIn wsL_law (wsV RL 129 RX11 yX11_plateOf wsX11_plateOf) := goodIn_app (goodIn_of _ (by decide +kernel)) ggL_law_X11_plateOf
set_option maxRecDepth 20000 in
theorem ggL_law_X12_plateOf : GoodIn wsL_law wsX12_plateOf := goodIn_r _ [946, 80, 81, 82, 108, 109, 5, 110, 111, 112, 113, 987, 988, 989, 990, 991, 992, 993, 994, 995, 996, 997, 998, 999, 1000, 1001, 1002, 1003, 1004, 1005, 1006, 1007, 1008, 1009, 1010, 1011, 1012, 1013, 1014, 1015, 1016, 1017, 1018, 1019, 1020, 1021, 1022, 1023, 1024, 1025, 1026, 1027, 1028, 1029, 1030, 1031, 1032, 1033, 1034, 1035, 1036, 1037, 1038] (by decide +kernel) (by decide +kernel)
set_option maxRecDepth 20000 in
theorem gL_law_X12_plateOf : GoodIn wsL_law (wsV RL 132 RX12 yX12_plateOf wsX12_plateOf) := goodIn_app (goodIn_of _ (by decide +kernel)) ggL_law_X12_plateOf
set_option maxRecDepth 20000 in
theorem ggL_law_X11_bill : GoodIn wsL_law wsX11_bill := goodIn_r _ [950, 23, 17, 16, 719, 720, 257, 258, 2, 259, 97, 98, 99, 951, 952, 953, 954, 835, 955, 512, 14, 956, 957, 315, 316, 317, 318, 319, 320, 24, 321, 322, 323, 324, 94, 95, 96, 325, 326, 327, 26, 328, 32, 329, 330, 331, 332, 33, 101, 102, 958, 959, 960, 253, 961, 276, 407, 426, 275, 978, 979, 980, 981, 982, 983, 984, 985, 986, 1075, 1076, 1077, 1078, 1079, 1080, 1081, 1082, 1083, 1092, 1093, 1094, 1095, 1096, 1097, 1053, 1054, 1055, 1056, 1057, 1058, 1059, 1060, 1061, 1062, 1063, 1064, 1065, 1066, 1067, 1068, 1069, 1070, 1071, 1072, 1073, 1074, 1084, 1085, 1086, 1087, 1088, 1089, 1090, 1091, 1044, 1045, 1046, 1047, 1048, 1049, 1050, 1051, 1052, 1039, 1040, 1041, 1042, 1043] (by decide +kernel) (by decide +kernel)
set_option maxRecDepth 20000 in
theorem gL_law_X11_bill : GoodIn wsL_law (wsV RL 133 RX11 yX11_bill wsX11_bill) := goodIn_app (goodIn_of _ (by decide +kernel)) ggL_law_X11_bill
set_option maxRecDepth 20000 in
theorem ggL_law_X12_bill : GoodIn wsL_law wsX12_bill := goodIn_r _ [965, 356, 165, 88, 85, 48, 54, 51, 52, 58, 282, 283, 5, 284, 111, 112, 113, 358, 359, 360, 361, 80, 81, 82, 357, 987, 988, 989, 990, 991, 992, 993, 994, 995, 996, 997, 998, 999, 1000, 1001, 1002, 1003, 1004, 1005, 1006, 1007, 1008, 1009, 1010, 1011, 1012, 1013, 1014, 1015, 1016, 1017, 1018, 1019, 1020, 1021, 1022, 1023, 1024, 1025, 1026, 1027, 1028, 1029, 1030, 1031, 1032, 1033, 1034, 1035, 1036, 1037, 1038] (by decide +kernel) (by decide +kernel)
set_option maxRecDepth 20000 in
theorem gL_law_X12_bill : GoodIn wsL_law (wsV RL 136 RX12 yX12_bill wsX12_bill) := goodIn_app (goodIn_of _ (by decide +kernel)) ggL_law_X12_bill
set_option maxRecDepth 20000 in
theorem ggL_law_X11_about : GoodIn wsL_law wsX11_about := goodIn_r _ [969, 23, 24, 17, 20, 970, 971, 972, 2, 973, 315, 316, 317, 318, 14, 319, 320, 321, 322, 323, 324, 94, 95, 96, 97, 98, 99, 978, 979, 980, 981, 982, 983, 984, 985, 986, 1039, 1040, 1041, 1042, 1043] (by decide +kernel) (by decide +kernel)
set_option maxRecDepth 20000 in
theorem gL_law_X11_about : GoodIn wsL_law (wsV RL 137 RX11 yX11_about wsX11_about) := goodIn_app (goodIn_of _ (by decide +kernel)) ggL_law_X11_about
set_option maxRecDepth 20000 in
theorem ggL_law_X12_about : GoodIn wsL_law wsX12_about := goodIn_r _ [977, 356, 357, 165, 107, 358, 359, 360, 5, 361, 80, 81, 82, 987, 988, 989, 990, 991, 992, 993, 994, 995, 996, 997, 998, 999, 1000, 1001, 1002, 1003, 1004, 1005, 1006, 1007, 1008, 1009, 1010, 1011, 1012, 1013, 1014, 1015, 1016, 1017, 1018, 1019, 1020, 1021, 1022, 1023, 1024, 1025, 1026, 1027, 1028, 1029, 1030, 1031, 1032, 1033, 1034, 1035, 1036, 1037, 1038] (by decide +kernel) (by decide +kernel)
set_option maxRecDepth 20000 in
theorem gL_law_X12_about : GoodIn wsL_law (wsV RL 140 RX12 yX12_about wsX12_about) := goodIn_app (goodIn_of _ (by decide +kernel)) ggL_law_X12_about
