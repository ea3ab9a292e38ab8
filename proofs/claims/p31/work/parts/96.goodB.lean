set_option maxRecDepth 100000 in
theorem gL_law_X11_init : GoodIn wsL_law (wsX11_init) := zk q_wsL_law q_wsX11_init k_wsL_law k_wsX11_init (by decide +kernel) (by decide +kernel)
set_option maxRecDepth 100000 in
theorem gL_law_X12_init : GoodIn wsL_law (wsX12_init) := zk q_wsL_law q_wsX12_init k_wsL_law k_wsX12_init (by decide +kernel) (by decide +kernel)
set_option maxRecDepth 100000 in
theorem gL_law_X11_column : GoodIn wsL_law (wsV RL 13 RX11 yX11_column wsX11_column) := goodIn_app (zk q_wsL_law (zq_c (i := 140) rfl (zq_c (i := 141) rfl (zq_c (i := 142) rfl (zq_c (i := 53) rfl zq_nil)))) k_wsL_law rfl (by decide +kernel) (by decide +kernel)) (zk q_wsL_law q_wsX11_column k_wsL_law k_wsX11_column (by decide +kernel) (by decide +kernel))
set_option maxRecDepth 100000 in
theorem gL_law_X12_column : GoodIn wsL_law (wsV RL 17 RX12 yX12_column wsX12_column) := goodIn_app (zk q_wsL_law (zq_c (i := 1039) rfl (zq_c (i := 1040) rfl (zq_c (i := 1041) rfl (zq_c (i := 56) rfl zq_nil)))) k_wsL_law rfl (by decide +kernel) (by decide +kernel)) (zk q_wsL_law q_wsX12_column k_wsL_law k_wsX12_column (by decide +kernel) (by decide +kernel))
set_option maxRecDepth 100000 in
theorem gL_law_X11_measure : GoodIn wsL_law (wsV RL 18 RX11 yX11_measure wsX11_measure) := goodIn_app (zk q_wsL_law (zq_c (i := 153) rfl (zq_c (i := 154) rfl (zq_c (i := 155) rfl (zq_c (i := 53) rfl zq_nil)))) k_wsL_law rfl (by decide +kernel) (by decide +kernel)) (zk q_wsL_law q_wsX11_measure k_wsL_law k_wsX11_measure (by decide +kernel) (by decide +kernel))
set_option maxRecDepth 100000 in
theorem gL_law_X12_measure : GoodIn wsL_law (wsV RL 22 RX12 yX12_measure wsX12_measure) := goodIn_app (zk q_wsL_law (zq_c (i := 1052) rfl (zq_c (i := 1053) rfl (zq_c (i := 1054) rfl (zq_c (i := 56) rfl zq_nil)))) k_wsL_law rfl (by decide +kernel) (by decide +kernel)) (zk q_wsL_law q_wsX12_measure k_wsL_law k_wsX12_measure (by decide +kernel) (by decide +kernel))
set_option maxRecDepth 100000 in
theorem gL_law_X11_story : GoodIn wsL_law (wsV RL 23 RX11 yX11_story wsX11_story) := goodIn_app (zk q_wsL_law (zq_c (i := 157) rfl (zq_c (i := 158) rfl (zq_c (i := 159) rfl (zq_c (i := 53) rfl zq_nil)))) k_wsL_law rfl (by decide +kernel) (by decide +kernel)) (zk q_wsL_law q_wsX11_story k_wsL_law k_wsX11_story (by decide +kernel) (by decide +kernel))
set_option maxRecDepth 100000 in
theorem gL_law_X12_story : GoodIn wsL_law (wsV RL 27 RX12 yX12_story wsX12_story) := goodIn_app (zk q_wsL_law (zq_c (i := 1060) rfl (zq_c (i := 1061) rfl (zq_c (i := 1062) rfl (zq_c (i := 56) rfl zq_nil)))) k_wsL_law rfl (by decide +kernel) (by decide +kernel)) (zk q_wsL_law q_wsX12_story k_wsL_law k_wsX12_story (by decide +kernel) (by decide +kernel))
set_option maxRecDepth 100000 in
theorem gL_law_X11_line : GoodIn wsL_law (wsV RL 28 RX11 yX11_line wsX11_line) := goodIn_app (zk q_wsL_law (zq_c (i := 226) rfl (zq_c (i := 227) rfl (zq_c (i := 228) rfl (zq_c (i := 53) rfl zq_nil)))) k_wsL_law rfl (by decide +kernel) (by decide +kernel)) (zk q_wsL_law q_wsX11_line k_wsL_law k_wsX11_line (by decide +kernel) (by decide +kernel))
set_option maxRecDepth 100000 in
theorem gL_law_X12_line : GoodIn wsL_law (wsV RL 32 RX12 yX12_line wsX12_line) := goodIn_app (zk q_wsL_law (zq_c (i := 1068) rfl (zq_c (i := 1069) rfl (zq_c (i := 1070) rfl (zq_c (i := 56) rfl zq_nil)))) k_wsL_law rfl (by decide +kernel) (by decide +kernel)) (zk q_wsL_law q_wsX12_line k_wsL_law k_wsX12_line (by decide +kernel) (by decide +kernel))
set_option maxRecDepth 100000 in
theorem gL_law_X11_head : GoodIn wsL_law (wsV RL 33 RX11 yX11_head wsX11_head) := goodIn_app (zk q_wsL_law (zq_c (i := 238) rfl (zq_c (i := 239) rfl (zq_c (i := 240) rfl (zq_c (i := 53) rfl zq_nil)))) k_wsL_law rfl (by decide +kernel) (by decide +kernel)) (zk q_wsL_law q_wsX11_head k_wsL_law k_wsX11_head (by decide +kernel) (by decide +kernel))
set_option maxRecDepth 100000 in
theorem gL_law_X12_head : GoodIn wsL_law (wsV RL 37 RX12 yX12_head wsX12_head) := goodIn_app (zk q_wsL_law (zq_c (i := 1080) rfl (zq_c (i := 1081) rfl (zq_c (i := 1082) rfl (zq_c (i := 56) rfl zq_nil)))) k_wsL_law rfl (by decide +kernel) (by decide +kernel)) (zk q_wsL_law q_wsX12_head k_wsL_law k_wsX12_head (by decide +kernel) (by decide +kernel))
set_option maxRecDepth 100000 in
theorem gL_law_X11_picture : GoodIn wsL_law (wsV RL 38 RX11 yX11_picture wsX11_picture) := goodIn_app (zk q_wsL_law (zq_c (i := 264) rfl (zq_c (i := 265) rfl (zq_c (i := 266) rfl (zq_c (i := 53) rfl zq_nil)))) k_wsL_law rfl (by decide +kernel) (by decide +kernel)) (zk q_wsL_law q_wsX11_picture k_wsL_law k_wsX11_picture (by decide +kernel) (by decide +kernel))
set_option maxRecDepth 100000 in
theorem gL_law_X12_picture : GoodIn wsL_law (wsV RL 42 RX12 yX12_picture wsX12_picture) := goodIn_app (zk q_wsL_law (zq_c (i := 1084) rfl (zq_c (i := 1085) rfl (zq_c (i := 1086) rfl (zq_c (i := 56) rfl zq_nil)))) k_wsL_law rfl (by decide +kernel) (by decide +kernel)) (zk q_wsL_law q_wsX12_picture k_wsL_law k_wsX12_picture (by decide +kernel) (by decide +kernel))
set_option maxRecDepth 100000 in
theorem gL_law_X11_size : GoodIn wsL_law (wsV RL 43 RX11 yX11_size wsX11_size) := goodIn_app (zk q_wsL_law (zq_c (i := 289) rfl (zq_c (i := 290) rfl (zq_c (i := 291) rfl (zq_c (i := 53) rfl zq_nil)))) k_wsL_law rfl (by decide +kernel) (by decide +kernel)) (zk q_wsL_law q_wsX11_size k_wsL_law k_wsX11_size (by decide +kernel) (by decide +kernel))
set_option maxRecDepth 100000 in
theorem gL_law_X12_size : GoodIn wsL_law (wsV RL 46 RX12 yX12_size wsX12_size) := goodIn_app (zk q_wsL_law (zq_c (i := 1088) rfl (zq_c (i := 1089) rfl (zq_c (i := 1090) rfl (zq_c (i := 56) rfl zq_nil)))) k_wsL_law rfl (by decide +kernel) (by decide +kernel)) (zk q_wsL_law q_wsX12_size k_wsL_law k_wsX12_size (by decide +kernel) (by decide +kernel))
set_option maxRecDepth 100000 in
theorem gL_law_X11_paid : GoodIn wsL_law (wsV RL 47 RX11 yX11_paid wsX11_paid) := goodIn_app (zk q_wsL_law (zq_c (i := 300) rfl (zq_c (i := 301) rfl (zq_c (i := 302) rfl (zq_c (i := 53) rfl zq_nil)))) k_wsL_law rfl (by decide +kernel) (by decide +kernel)) (zk q_wsL_law q_wsX11_paid k_wsL_law k_wsX11_paid (by decide +kernel) (by decide +kernel))
set_option maxRecDepth 100000 in
theorem gL_law_X12_paid : GoodIn wsL_law (wsV RL 51 RX12 yX12_paid wsX12_paid) := goodIn_app (zk q_wsL_law (zq_c (i := 1092) rfl (zq_c (i := 1093) rfl (zq_c (i := 1094) rfl (zq_c (i := 56) rfl zq_nil)))) k_wsL_law rfl (by decide +kernel) (by decide +kernel)) (zk q_wsL_law q_wsX12_paid k_wsL_law k_wsX12_paid (by decide +kernel) (by decide +kernel))
set_option maxRecDepth 100000 in
theorem gL_law_X11_filler : GoodIn wsL_law (wsV RL 52 RX11 yX11_filler wsX11_filler) := goodIn_app (zk q_wsL_law (zq_c (i := 376) rfl (zq_c (i := 377) rfl (zq_c (i := 378) rfl (zq_c (i := 53) rfl zq_nil)))) k_wsL_law rfl (by decide +kernel) (by decide +kernel)) (zk q_wsL_law q_wsX11_filler k_wsL_law k_wsX11_filler (by decide +kernel) (by decide +kernel))
set_option maxRecDepth 100000 in
theorem gL_law_X12_filler : GoodIn wsL_law (wsV RL 55 RX12 yX12_filler wsX12_filler) := goodIn_app (zk q_wsL_law (zq_c (i := 1099) rfl (zq_c (i := 1100) rfl (zq_c (i := 1101) rfl (zq_c (i := 56) rfl zq_nil)))) k_wsL_law rfl (by decide +kernel) (by decide +kernel)) (zk q_wsL_law q_wsX12_filler k_wsL_law k_wsX12_filler (by decide +kernel) (by decide +kernel))
set_option maxRecDepth 100000 in
theorem gL_law_X11_notice : GoodIn wsL_law (wsV RL 56 RX11 yX11_notice wsX11_notice) := goodIn_app (zk q_wsL_law (zq_c (i := 400) rfl (zq_c (i := 401) rfl (zq_c (i := 402) rfl (zq_c (i := 53) rfl zq_nil)))) k_wsL_law rfl (by decide +kernel) (by decide +kernel)) (zk q_wsL_law q_wsX11_notice k_wsL_law k_wsX11_notice (by decide +kernel) (by decide +kernel))
set_option maxRecDepth 100000 in
theorem gL_law_X12_notice : GoodIn wsL_law (wsV RL 59 RX12 yX12_notice wsX12_notice) := goodIn_app (zk q_wsL_law (zq_c (i := 1103) rfl (zq_c (i := 1104) rfl (zq_c (i := 1105) rfl (zq_c (i := 56) rfl zq_nil)))) k_wsL_law rfl (by decide +kernel) (by decide +kernel)) (zk q_wsL_law q_wsX12_notice k_wsL_law k_wsX12_notice (by decide +kernel) (by decide +kernel))
set_option maxRecDepth 100000 in
theorem gL_law_X11_rival : GoodIn wsL_law (wsV RL 60 RX11 yX11_rival wsX11_rival) := goodIn_app (zk q_wsL_law (zq_c (i := 453) rfl (zq_c (i := 454) rfl (zq_c (i := 455) rfl (zq_c (i := 53) rfl zq_nil)))) k_wsL_law rfl (by decide +kernel) (by decide +kernel)) (zk q_wsL_law q_wsX11_rival k_wsL_law k_wsX11_rival (by decide +kernel) (by decide +kernel))
set_option maxRecDepth 100000 in
theorem gL_law_X12_rival : GoodIn wsL_law (wsV RL 63 RX12 yX12_rival wsX12_rival) := goodIn_app (zk q_wsL_law (zq_c (i := 1115) rfl (zq_c (i := 1116) rfl (zq_c (i := 1117) rfl (zq_c (i := 56) rfl zq_nil)))) k_wsL_law rfl (by decide +kernel) (by decide +kernel)) (zk q_wsL_law q_wsX12_rival k_wsL_law k_wsX12_rival (by decide +kernel) (by decide +kernel))
set_option maxRecDepth 100000 in
theorem gL_law_X11_names : GoodIn wsL_law (wsV RL 64 RX11 yX11_names wsX11_names) := goodIn_app (zk q_wsL_law (zq_c (i := 461) rfl (zq_c (i := 462) rfl (zq_c (i := 463) rfl (zq_c (i := 53) rfl zq_nil)))) k_wsL_law rfl (by decide +kernel) (by decide +kernel)) (zk q_wsL_law q_wsX11_names k_wsL_law k_wsX11_names (by decide +kernel) (by decide +kernel))
set_option maxRecDepth 100000 in
theorem gL_law_X12_names : GoodIn wsL_law (wsV RL 67 RX12 yX12_names wsX12_names) := goodIn_app (zk q_wsL_law (zq_c (i := 1119) rfl (zq_c (i := 1120) rfl (zq_c (i := 1121) rfl (zq_c (i := 56) rfl zq_nil)))) k_wsL_law rfl (by decide +kernel) (by decide +kernel)) (zk q_wsL_law q_wsX12_names k_wsL_law k_wsX12_names (by decide +kernel) (by decide +kernel))
set_option maxRecDepth 100000 in
theorem gL_law_X11_put : GoodIn wsL_law (wsV RL 68 RX11 yX11_put wsX11_put) := goodIn_app (zk q_wsL_law (zq_c (i := 465) rfl (zq_c (i := 466) rfl (zq_c (i := 467) rfl (zq_c (i := 53) rfl zq_nil)))) k_wsL_law rfl (by decide +kernel) (by decide +kernel)) (zk q_wsL_law q_wsX11_put k_wsL_law k_wsX11_put (by decide +kernel) (by decide +kernel))
set_option maxRecDepth 100000 in
theorem gL_law_X12_put : GoodIn wsL_law (wsV RL 72 RX12 yX12_put wsX12_put) := goodIn_app (zk q_wsL_law (zq_c (i := 1123) rfl (zq_c (i := 1124) rfl (zq_c (i := 1125) rfl (zq_c (i := 56) rfl zq_nil)))) k_wsL_law rfl (by decide +kernel) (by decide +kernel)) (zk q_wsL_law q_wsX12_put k_wsL_law k_wsX12_put (by decide +kernel) (by decide +kernel))
set_option maxRecDepth 100000 in
theorem gL_law_X11_lift : GoodIn wsL_law (wsV RL 73 RX11 yX11_lift wsX11_lift) := goodIn_app (zk q_wsL_law (zq_c (i := 624) rfl (zq_c (i := 625) rfl (zq_c (i := 626) rfl (zq_c (i := 53) rfl zq_nil)))) k_wsL_law rfl (by decide +kernel) (by decide +kernel)) (zk q_wsL_law q_wsX11_lift k_wsL_law k_wsX11_lift (by decide +kernel) (by decide +kernel))
set_option maxRecDepth 100000 in
theorem gL_law_X12_lift : GoodIn wsL_law (wsV RL 76 RX12 yX12_lift wsX12_lift) := goodIn_app (zk q_wsL_law (zq_c (i := 1171) rfl (zq_c (i := 1172) rfl (zq_c (i := 1173) rfl (zq_c (i := 56) rfl zq_nil)))) k_wsL_law rfl (by decide +kernel) (by decide +kernel)) (zk q_wsL_law q_wsX12_lift k_wsL_law k_wsX12_lift (by decide +kernel) (by decide +kernel))
set_option maxRecDepth 100000 in
theorem gL_law_X11_rule : GoodIn wsL_law (wsV RL 77 RX11 yX11_rule wsX11_rule) := goodIn_app (zk q_wsL_law (zq_c (i := 643) rfl (zq_c (i := 644) rfl (zq_c (i := 645) rfl (zq_c (i := 53) rfl zq_nil)))) k_wsL_law rfl (by decide +kernel) (by decide +kernel)) (zk q_wsL_law q_wsX11_rule k_wsL_law k_wsX11_rule (by decide +kernel) (by decide +kernel))
set_option maxRecDepth 100000 in
theorem gL_law_X12_rule : GoodIn wsL_law (wsV RL 80 RX12 yX12_rule wsX12_rule) := goodIn_app (zk q_wsL_law (zq_c (i := 1175) rfl (zq_c (i := 1176) rfl (zq_c (i := 1177) rfl (zq_c (i := 56) rfl zq_nil)))) k_wsL_law rfl (by decide +kernel) (by decide +kernel)) (zk q_wsL_law q_wsX12_rule k_wsL_law k_wsX12_rule (by decide +kernel) (by decide +kernel))
set_option maxRecDepth 100000 in
theorem gL_law_X11_fill : GoodIn wsL_law (wsV RL 81 RX11 yX11_fill wsX11_fill) := goodIn_app (zk q_wsL_law (zq_c (i := 647) rfl (zq_c (i := 648) rfl (zq_c (i := 649) rfl (zq_c (i := 53) rfl zq_nil)))) k_wsL_law rfl (by decide +kernel) (by decide +kernel)) (zk q_wsL_law q_wsX11_fill k_wsL_law k_wsX11_fill (by decide +kernel) (by decide +kernel))
set_option maxRecDepth 100000 in
theorem gL_law_X12_fill : GoodIn wsL_law (wsV RL 84 RX12 yX12_fill wsX12_fill) := goodIn_app (zk q_wsL_law (zq_c (i := 1179) rfl (zq_c (i := 1180) rfl (zq_c (i := 1181) rfl (zq_c (i := 56) rfl zq_nil)))) k_wsL_law rfl (by decide +kernel) (by decide +kernel)) (zk q_wsL_law q_wsX12_fill k_wsL_law k_wsX12_fill (by decide +kernel) (by decide +kernel))
set_option maxRecDepth 100000 in
theorem gL_law_X11_undo : GoodIn wsL_law (wsV RL 85 RX11 yX11_undo wsX11_undo) := goodIn_app (zk q_wsL_law (zq_c (i := 664) rfl (zq_c (i := 665) rfl (zq_c (i := 666) rfl (zq_c (i := 53) rfl zq_nil)))) k_wsL_law rfl (by decide +kernel) (by decide +kernel)) (zk q_wsL_law q_wsX11_undo k_wsL_law k_wsX11_undo (by decide +kernel) (by decide +kernel))
set_option maxRecDepth 100000 in
theorem gL_law_X12_undo : GoodIn wsL_law (wsV RL 88 RX12 yX12_undo wsX12_undo) := goodIn_app (zk q_wsL_law (zq_c (i := 1187) rfl (zq_c (i := 1188) rfl (zq_c (i := 1189) rfl (zq_c (i := 56) rfl zq_nil)))) k_wsL_law rfl (by decide +kernel) (by decide +kernel)) (zk q_wsL_law q_wsX12_undo k_wsL_law k_wsX12_undo (by decide +kernel) (by decide +kernel))
set_option maxRecDepth 100000 in
theorem gL_law_X11_plate : GoodIn wsL_law (wsV RL 89 RX11 yX11_plate wsX11_plate) := goodIn_app (zk q_wsL_law (zq_c (i := 672) rfl (zq_c (i := 673) rfl (zq_c (i := 674) rfl (zq_c (i := 53) rfl zq_nil)))) k_wsL_law rfl (by decide +kernel) (by decide +kernel)) (zk q_wsL_law q_wsX11_plate k_wsL_law k_wsX11_plate (by decide +kernel) (by decide +kernel))
set_option maxRecDepth 100000 in
theorem gL_law_X12_plate : GoodIn wsL_law (wsV RL 92 RX12 yX12_plate wsX12_plate) := goodIn_app (zk q_wsL_law (zq_c (i := 1219) rfl (zq_c (i := 1220) rfl (zq_c (i := 1221) rfl (zq_c (i := 56) rfl zq_nil)))) k_wsL_law rfl (by decide +kernel) (by decide +kernel)) (zk q_wsL_law q_wsX12_plate k_wsL_law k_wsX12_plate (by decide +kernel) (by decide +kernel))
set_option maxRecDepth 100000 in
theorem gL_law_X11_edition : GoodIn wsL_law (wsV RL 93 RX11 yX11_edition wsX11_edition) := goodIn_app (zk q_wsL_law (zq_c (i := 779) rfl (zq_c (i := 780) rfl (zq_c (i := 781) rfl (zq_c (i := 53) rfl zq_nil)))) k_wsL_law rfl (by decide +kernel) (by decide +kernel)) (zk q_wsL_law q_wsX11_edition k_wsL_law k_wsX11_edition (by decide +kernel) (by decide +kernel))
set_option maxRecDepth 100000 in
theorem gL_law_X12_edition : GoodIn wsL_law (wsV RL 96 RX12 yX12_edition wsX12_edition) := goodIn_app (zk q_wsL_law (zq_c (i := 1223) rfl (zq_c (i := 1224) rfl (zq_c (i := 1225) rfl (zq_c (i := 56) rfl zq_nil)))) k_wsL_law rfl (by decide +kernel) (by decide +kernel)) (zk q_wsL_law q_wsX12_edition k_wsL_law k_wsX12_edition (by decide +kernel) (by decide +kernel))
set_option maxRecDepth 100000 in
theorem gL_law_X11_day : GoodIn wsL_law (wsV RL 97 RX11 yX11_day wsX11_day) := goodIn_app (zk q_wsL_law (zq_c (i := 795) rfl (zq_c (i := 796) rfl (zq_c (i := 797) rfl (zq_c (i := 53) rfl zq_nil)))) k_wsL_law rfl (by decide +kernel) (by decide +kernel)) (zk q_wsL_law q_wsX11_day k_wsL_law k_wsX11_day (by decide +kernel) (by decide +kernel))
set_option maxRecDepth 100000 in
theorem gL_law_X12_day : GoodIn wsL_law (wsV RL 100 RX12 yX12_day wsX12_day) := goodIn_app (zk q_wsL_law (zq_c (i := 1231) rfl (zq_c (i := 1232) rfl (zq_c (i := 1233) rfl (zq_c (i := 56) rfl zq_nil)))) k_wsL_law rfl (by decide +kernel) (by decide +kernel)) (zk q_wsL_law q_wsX12_day k_wsL_law k_wsX12_day (by decide +kernel) (by decide +kernel))
set_option maxRecDepth 100000 in
theorem gL_law_X11_cell : GoodIn wsL_law (wsV RL 101 RX11 yX11_cell wsX11_cell) := goodIn_app (zk q_wsL_law (zq_c (i := 817) rfl (zq_c (i := 818) rfl (zq_c (i := 819) rfl (zq_c (i := 53) rfl zq_nil)))) k_wsL_law rfl (by decide +kernel) (by decide +kernel)) (zk q_wsL_law q_wsX11_cell k_wsL_law k_wsX11_cell (by decide +kernel) (by decide +kernel))
set_option maxRecDepth 100000 in
theorem gL_law_X12_cell : GoodIn wsL_law (wsV RL 104 RX12 yX12_cell wsX12_cell) := goodIn_app (zk q_wsL_law (zq_c (i := 1239) rfl (zq_c (i := 1240) rfl (zq_c (i := 1241) rfl (zq_c (i := 56) rfl zq_nil)))) k_wsL_law rfl (by decide +kernel) (by decide +kernel)) (zk q_wsL_law q_wsX12_cell k_wsL_law k_wsX12_cell (by decide +kernel) (by decide +kernel))
set_option maxRecDepth 100000 in
theorem gL_law_X11_piece : GoodIn wsL_law (wsV RL 105 RX11 yX11_piece wsX11_piece) := goodIn_app (zk q_wsL_law (zq_c (i := 821) rfl (zq_c (i := 822) rfl (zq_c (i := 823) rfl (zq_c (i := 53) rfl zq_nil)))) k_wsL_law rfl (by decide +kernel) (by decide +kernel)) (zk q_wsL_law q_wsX11_piece k_wsL_law k_wsX11_piece (by decide +kernel) (by decide +kernel))
set_option maxRecDepth 100000 in
theorem gL_law_X12_piece : GoodIn wsL_law (wsV RL 108 RX12 yX12_piece wsX12_piece) := goodIn_app (zk q_wsL_law (zq_c (i := 1243) rfl (zq_c (i := 1244) rfl (zq_c (i := 1245) rfl (zq_c (i := 56) rfl zq_nil)))) k_wsL_law rfl (by decide +kernel) (by decide +kernel)) (zk q_wsL_law q_wsX12_piece k_wsL_law k_wsX12_piece (by decide +kernel) (by decide +kernel))
set_option maxRecDepth 100000 in
theorem gL_law_X11_item : GoodIn wsL_law (wsV RL 109 RX11 yX11_item wsX11_item) := goodIn_app (zk q_wsL_law (zq_c (i := 827) rfl (zq_c (i := 828) rfl (zq_c (i := 829) rfl (zq_c (i := 53) rfl zq_nil)))) k_wsL_law rfl (by decide +kernel) (by decide +kernel)) (zk q_wsL_law q_wsX11_item k_wsL_law k_wsX11_item (by decide +kernel) (by decide +kernel))
set_option maxRecDepth 100000 in
theorem gL_law_X12_item : GoodIn wsL_law (wsV RL 112 RX12 yX12_item wsX12_item) := goodIn_app (zk q_wsL_law (zq_c (i := 1247) rfl (zq_c (i := 1248) rfl (zq_c (i := 1249) rfl (zq_c (i := 56) rfl zq_nil)))) k_wsL_law rfl (by decide +kernel) (by decide +kernel)) (zk q_wsL_law q_wsX12_item k_wsL_law k_wsX12_item (by decide +kernel) (by decide +kernel))
set_option maxRecDepth 100000 in
theorem gL_law_X11_shortOf : GoodIn wsL_law (wsV RL 113 RX11 yX11_shortOf wsX11_shortOf) := goodIn_app (zk q_wsL_law (zq_c (i := 835) rfl (zq_c (i := 836) rfl (zq_c (i := 837) rfl (zq_c (i := 53) rfl zq_nil)))) k_wsL_law rfl (by decide +kernel) (by decide +kernel)) (zk q_wsL_law q_wsX11_shortOf k_wsL_law k_wsX11_shortOf (by decide +kernel) (by decide +kernel))
set_option maxRecDepth 100000 in
theorem gL_law_X12_shortOf : GoodIn wsL_law (wsV RL 116 RX12 yX12_shortOf wsX12_shortOf) := goodIn_app (zk q_wsL_law (zq_c (i := 1251) rfl (zq_c (i := 1252) rfl (zq_c (i := 1253) rfl (zq_c (i := 56) rfl zq_nil)))) k_wsL_law rfl (by decide +kernel) (by decide +kernel)) (zk q_wsL_law q_wsX12_shortOf k_wsL_law k_wsX12_shortOf (by decide +kernel) (by decide +kernel))
set_option maxRecDepth 100000 in
theorem gL_law_X11_broken : GoodIn wsL_law (wsV RL 117 RX11 yX11_broken wsX11_broken) := goodIn_app (zk q_wsL_law (zq_c (i := 840) rfl (zq_c (i := 841) rfl (zq_c (i := 842) rfl (zq_c (i := 53) rfl zq_nil)))) k_wsL_law rfl (by decide +kernel) (by decide +kernel)) (zk q_wsL_law q_wsX11_broken k_wsL_law k_wsX11_broken (by decide +kernel) (by decide +kernel))
set_option maxRecDepth 100000 in
theorem gL_law_X12_broken : GoodIn wsL_law (wsV RL 120 RX12 yX12_broken wsX12_broken) := goodIn_app (zk q_wsL_law (zq_c (i := 1191) rfl (zq_c (i := 1192) rfl (zq_c (i := 1193) rfl (zq_c (i := 56) rfl zq_nil)))) k_wsL_law rfl (by decide +kernel) (by decide +kernel)) (zk q_wsL_law q_wsX12_broken k_wsL_law k_wsX12_broken (by decide +kernel) (by decide +kernel))
set_option maxRecDepth 100000 in
theorem gL_law_X11_printed : GoodIn wsL_law (wsV RL 121 RX11 yX11_printed wsX11_printed) := goodIn_app (zk q_wsL_law (zq_c (i := 844) rfl (zq_c (i := 845) rfl (zq_c (i := 846) rfl (zq_c (i := 53) rfl zq_nil)))) k_wsL_law rfl (by decide +kernel) (by decide +kernel)) (zk q_wsL_law q_wsX11_printed k_wsL_law k_wsX11_printed (by decide +kernel) (by decide +kernel))
set_option maxRecDepth 100000 in
theorem gL_law_X12_printed : GoodIn wsL_law (wsV RL 124 RX12 yX12_printed wsX12_printed) := goodIn_app (zk q_wsL_law (zq_c (i := 1255) rfl (zq_c (i := 1108) rfl (zq_c (i := 1109) rfl (zq_c (i := 56) rfl zq_nil)))) k_wsL_law rfl (by decide +kernel) (by decide +kernel)) (zk q_wsL_law q_wsX12_printed k_wsL_law k_wsX12_printed (by decide +kernel) (by decide +kernel))
set_option maxRecDepth 100000 in
theorem gL_law_X11_plated : GoodIn wsL_law (wsV RL 125 RX11 yX11_plated wsX11_plated) := goodIn_app (zk q_wsL_law (zq_c (i := 848) rfl (zq_c (i := 849) rfl (zq_c (i := 850) rfl (zq_c (i := 53) rfl zq_nil)))) k_wsL_law rfl (by decide +kernel) (by decide +kernel)) (zk q_wsL_law q_wsX11_plated k_wsL_law k_wsX11_plated (by decide +kernel) (by decide +kernel))
set_option maxRecDepth 100000 in
theorem gL_law_X12_plated : GoodIn wsL_law (wsV RL 128 RX12 yX12_plated wsX12_plated) := goodIn_app (zk q_wsL_law (zq_c (i := 1256) rfl (zq_c (i := 1257) rfl (zq_c (i := 1258) rfl (zq_c (i := 56) rfl zq_nil)))) k_wsL_law rfl (by decide +kernel) (by decide +kernel)) (zk q_wsL_law q_wsX12_plated k_wsL_law k_wsX12_plated (by decide +kernel) (by decide +kernel))
set_option maxRecDepth 100000 in
theorem gL_law_X11_plateOf : GoodIn wsL_law (wsV RL 129 RX11 yX11_plateOf wsX11_plateOf) := goodIn_app (zk q_wsL_law (zq_c (i := 852) rfl (zq_c (i := 853) rfl (zq_c (i := 854) rfl (zq_c (i := 53) rfl zq_nil)))) k_wsL_law rfl (by decide +kernel) (by decide +kernel)) (zk q_wsL_law q_wsX11_plateOf k_wsL_law k_wsX11_plateOf (by decide +kernel) (by decide +kernel))
set_option maxRecDepth 100000 in
theorem gL_law_X12_plateOf : GoodIn wsL_law (wsV RL 132 RX12 yX12_plateOf wsX12_plateOf) := goodIn_app (zk q_wsL_law (zq_c (i := 1260) rfl (zq_c (i := 1261) rfl (zq_c (i := 1262) rfl (zq_c (i := 56) rfl zq_nil)))) k_wsL_law rfl (by decide +kernel) (by decide +kernel)) (zk q_wsL_law q_wsX12_plateOf k_wsL_law k_wsX12_plateOf (by decide +kernel) (by decide +kernel))
set_option maxRecDepth 100000 in
theorem gL_law_X11_bill : GoodIn wsL_law (wsV RL 133 RX11 yX11_bill wsX11_bill) := goodIn_app (zk q_wsL_law (zq_c (i := 856) rfl (zq_c (i := 857) rfl (zq_c (i := 858) rfl (zq_c (i := 53) rfl zq_nil)))) k_wsL_law rfl (by decide +kernel) (by decide +kernel)) (zk q_wsL_law q_wsX11_bill k_wsL_law k_wsX11_bill (by decide +kernel) (by decide +kernel))
set_option maxRecDepth 100000 in
theorem gL_law_X12_bill : GoodIn wsL_law (wsV RL 136 RX12 yX12_bill wsX12_bill) := goodIn_app (zk q_wsL_law (zq_c (i := 1264) rfl (zq_c (i := 1265) rfl (zq_c (i := 1266) rfl (zq_c (i := 56) rfl zq_nil)))) k_wsL_law rfl (by decide +kernel) (by decide +kernel)) (zk q_wsL_law q_wsX12_bill k_wsL_law k_wsX12_bill (by decide +kernel) (by decide +kernel))
set_option maxRecDepth 100000 in
theorem gL_law_X11_about : GoodIn wsL_law (wsV RL 137 RX11 yX11_about wsX11_about) := goodIn_app (zk q_wsL_law (zq_c (i := 868) rfl (zq_c (i := 869) rfl (zq_c (i := 870) rfl (zq_c (i := 53) rfl zq_nil)))) k_wsL_law rfl (by decide +kernel) (by decide +kernel)) (zk q_wsL_law q_wsX11_about k_wsL_law k_wsX11_about (by decide +kernel) (by decide +kernel))
set_option maxRecDepth 100000 in
theorem gL_law_X12_about : GoodIn wsL_law (wsV RL 140 RX12 yX12_about wsX12_about) := goodIn_app (zk q_wsL_law (zq_c (i := 1268) rfl (zq_c (i := 1269) rfl (zq_c (i := 1270) rfl (zq_c (i := 56) rfl zq_nil)))) k_wsL_law rfl (by decide +kernel) (by decide +kernel)) (zk q_wsL_law q_wsX12_about k_wsL_law k_wsX12_about (by decide +kernel) (by decide +kernel))
