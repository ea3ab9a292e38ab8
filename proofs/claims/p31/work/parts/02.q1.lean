def zU_0 : List Nat := [0, 1, 2, 3, 4, 5, 6, 7, 8, 9, 10, 11, 12, 13, 14, 15, 16, 17, 18, 19, 20, 21, 22, 23, 24, 25, 26, 27, 28, 29, 30, 31, 32, 33, 34, 35, 36, 37, 38, 39, 40, 41, 42, 43, 44, 45, 46, 47, 48, 49, 50, 51, 53, 54, 55, 56, 57, 58, 59, 60, 61, 62, 63, 64, 65, 66, 67, 68, 69, 70, 71, 72, 73, 74, 75, 76, 78, 80, 82, 83, 84, 85, 86, 87, 88, 89, 90, 91, 92, 93, 94, 95, 96, 97, 98, 99, 101, 103, 105, 107, 110, 111, 112, 113, 114, 115, 116, 117, 118, 119, 120, 121, 123, 125, 127, 129, 131, 133, 135, 137, 140, 141, 142, 143, 144, 145, 146, 147, 148, 149, 150, 151, 152, 153, 154, 155, 156, 157, 158, 159, 160, 161, 162, 163, 164, 165, 166, 167, 168, 169, 171, 173, 174, 175, 176, 177, 178, 179, 180, 181, 182, 183, 184, 185, 186, 187, 188, 189, 190, 191, 192, 193, 194, 195, 196, 197, 198, 199, 200, 201, 202, 203, 205, 207, 209, 211, 213, 215, 217, 219, 222, 224, 225, 226, 227, 228, 229, 230, 232, 233]
def zU_1 : List Nat := [234, 235, 236, 237, 238, 239, 240, 241, 242, 243, 244, 245, 246, 247, 248, 249, 250, 251, 252, 254, 256, 258, 259, 260, 261, 262, 264, 265, 266, 267, 268, 269, 270, 271, 272, 273, 274, 275, 276, 277, 279, 281, 283, 284, 285, 286, 287, 289, 290, 291, 292, 293, 294, 295, 296, 297, 298, 299, 300, 301, 302, 303, 304, 305, 306, 307, 308, 309, 310, 311, 312, 313, 314, 315, 316, 317, 318, 319, 320, 321, 322, 323, 324, 325, 326, 327, 328, 329, 330, 331, 332, 333, 334, 335, 336, 337, 338, 340, 342, 344, 346, 348, 351, 352, 353, 354, 355, 356, 357, 358, 359, 360, 361, 362, 364, 366, 368, 370, 371, 372, 373, 374, 376, 377, 378, 379, 380, 381, 382, 383, 384, 385, 386, 387, 388, 389, 390, 392, 394, 395, 396, 397, 398, 400, 401, 402, 403, 404, 405, 407, 408, 409, 411, 412, 413, 415, 416, 417, 418, 419, 420, 421, 422, 423, 424, 427, 429, 430, 431, 433, 434, 435, 436, 437, 438, 439, 440, 441, 442, 443, 445, 447, 448, 449, 450, 451, 453, 454, 455, 456, 457, 459, 460, 461, 462, 463, 464, 465, 466, 467]
def zU_2 : List Nat := [468, 469, 471, 472, 473, 474, 475, 476, 477, 478, 479, 480, 481, 482, 483, 484, 485, 486, 488, 489, 490, 492, 493, 494, 495, 497, 498, 499, 500, 501, 502, 503, 504, 505, 506, 507, 508, 509, 510, 511, 513, 514, 515, 516, 517, 518, 519, 520, 521, 522, 523, 524, 525, 526, 528, 529, 530, 531, 532, 533, 534, 535, 537, 538, 539, 540, 541, 542, 543, 544, 545, 546, 547, 548, 549, 551, 552, 553, 554, 555, 556, 557, 558, 559, 560, 561, 562, 563, 564, 565, 566, 567, 568, 569, 570, 571, 572, 573, 574, 575, 577, 578, 579, 580, 581, 582, 583, 584, 585, 586, 587, 588, 589, 590, 591, 592, 593, 594, 595, 596, 597, 598, 599, 600, 601, 602, 603, 604, 605, 606, 607, 608, 609, 610, 611, 613, 615, 617, 620, 622, 623, 624, 625, 626, 627, 628, 629, 631, 632, 633, 634, 635, 636, 637, 638, 639, 640, 641, 642, 643, 644, 645, 646, 647, 648, 649, 650, 651, 653, 654, 655, 656, 658, 659, 660, 661, 663, 664, 665, 666, 667, 668, 670, 671, 672, 673, 674, 675, 676, 677, 678, 679, 680, 681, 682, 683, 684, 685, 686, 687]
def zU_3 : List Nat := [688, 690, 691, 692, 694, 695, 696, 697, 698, 699, 700, 701, 702, 703, 704, 705, 706, 708, 709, 710, 711, 712, 713, 714, 715, 716, 717, 718, 719, 720, 721, 722, 723, 724, 725, 726, 727, 728, 729, 730, 731, 732, 733, 734, 735, 736, 737, 738, 739, 740, 741, 742, 743, 744, 745, 746, 747, 748, 749, 750, 751, 752, 753, 755, 757, 760, 762, 763, 764, 765, 767, 768, 769, 770, 771, 772, 773, 774, 775, 776, 777, 778, 779, 780, 781, 782, 783, 785, 786, 787, 789, 790, 791, 793, 794, 795, 796, 797, 798, 799, 801, 802, 803, 804, 805, 806, 807, 808, 809, 810, 811, 812, 813, 814, 815, 816, 817, 818, 819, 820, 821, 822, 823, 824, 825, 826, 827, 828, 829, 830, 831, 833, 834, 835, 836, 837, 838, 839, 840, 841, 842, 843, 844, 845, 846, 847, 848, 849, 850, 851, 852, 853, 854, 855, 856, 857, 858, 859, 860, 862, 863, 864, 865, 866, 867, 868, 869, 870, 871, 872, 874, 875, 876, 877, 878, 879, 880, 881, 882, 883, 884, 885, 886, 887, 888, 889, 890, 891, 892, 893, 894, 895, 896, 897, 898, 899, 900, 901, 902, 903]
def zU_4 : List Nat := [904, 905, 906, 907, 908, 909, 910, 911, 912, 913, 914, 915, 916, 917, 918, 919, 920, 921, 922, 923, 924, 925, 926, 927, 928, 929, 930, 931, 932, 933, 934, 936, 938, 940, 942, 944, 946, 948, 950, 952, 954, 956, 958, 960, 962, 964, 966, 968, 970, 972, 974, 976, 978, 980, 982, 984, 986, 988, 990, 992, 994, 996, 998, 1000, 1002, 1004, 1006, 1008, 1010, 1012, 1014, 1016, 1018, 1020, 1022, 1024, 1026, 1028, 1030, 1032, 1034, 1036, 1039, 1040, 1041, 1042, 1043, 1044, 1045, 1046, 1047, 1048, 1049, 1050, 1051, 1052, 1053, 1054, 1055, 1056, 1058, 1059, 1060, 1061, 1062, 1063, 1064, 1066, 1067, 1068, 1069, 1070, 1071, 1072, 1074, 1075, 1076, 1078, 1079, 1080, 1081, 1082, 1083, 1084, 1085, 1086, 1087, 1088, 1089, 1090, 1091, 1092, 1093, 1094, 1095, 1096, 1097, 1098, 1099, 1100, 1101, 1102, 1103, 1104, 1105, 1106, 1107, 1108, 1109, 1110, 1111, 1113, 1114, 1115, 1116, 1117, 1118, 1119, 1120, 1121, 1122, 1123, 1124, 1125, 1126, 1127, 1129, 1130, 1131, 1133, 1134, 1135, 1137, 1138, 1139, 1141, 1142, 1143, 1145, 1146, 1147, 1149, 1150, 1151, 1153, 1154, 1155, 1157, 1158, 1159, 1161, 1162, 1163, 1165, 1166, 1167, 1169, 1170, 1171, 1172]
def zU_5 : List Nat := [1173, 1174, 1175, 1176, 1177, 1178, 1179, 1180, 1181, 1182, 1183, 1185, 1186, 1187, 1188, 1189, 1190, 1191, 1192, 1193, 1194, 1195, 1197, 1198, 1199, 1201, 1202, 1203, 1205, 1206, 1207, 1209, 1210, 1211, 1213, 1214, 1215, 1217, 1218, 1219, 1220, 1221, 1222, 1223, 1224, 1225, 1226, 1227, 1229, 1230, 1231, 1232, 1233, 1234, 1235, 1237, 1238, 1239, 1240, 1241, 1242, 1243, 1244, 1245, 1246, 1247, 1248, 1249, 1250, 1251, 1252, 1253, 1254, 1255, 1256, 1257, 1258, 1259, 1260, 1261, 1262, 1263, 1264, 1265, 1266, 1267, 1268, 1269, 1270, 1271, 1272, 1273, 1274, 1275, 1276, 1277, 1278]
def zU : List Nat := (zU_0 ++ (zU_1 ++ (zU_2 ++ (zU_3 ++ (zU_4 ++ zU_5)))))
abbrev zM : Nat := 10407932194663211213772764548490416953311002222021908912622966675077071879544361354856805609019984129995786163254820155238262714651026284267982758700597537714398612956034831153785753636264491901340945055489457635225972912770751945265215097950179558282662773238070691654250662206164804396319665059502386379391120657362619255698425059862686042680540220608018842595294763676620444768665599
set_option maxRecDepth 100000 in
theorem zU_k : zm zU = zM := by decide +kernel
set_option maxRecDepth 100000 in
theorem zU_g : zU.all (fun i => goodWord (zw i)) = true := by decide +kernel
theorem zgood (i : Nat) (h : Nat.testBit zM i = true) : goodWord (zw i) = true := by
  have h1 : i ∈ zU := (zm_mem i zU).mp (by rw [zU_k]; exact h)
  exact List.all_eq_true.mp zU_g i h1
theorem zor {a b c : Nat} (h : Nat.lor a b = c) (i : Nat) (hi : Nat.testBit a i = true) : Nat.testBit c i = true := by
  have e : c = a ||| b := h.symm
  rw [e, Nat.testBit_or, hi]; rfl
theorem zk {a b : List Cond} {A B : List Nat} {MA MB : Nat} (ha : a = List.map zw A) (hb : b = List.map zw B) (ka : zm A = MA) (kb : zm B = MB) (h : Nat.lor MB MA = MA) (hg : Nat.lor MB zM = zM) : GoodIn a b := by
  intro w hw
  rw [hb] at hw
  obtain ⟨i, hi, hx⟩ := List.mem_map.mp hw
  have h1 : Nat.testBit MB i = true := by rw [← kb]; exact (zm_mem i B).mpr hi
  refine ⟨?_, ?_⟩
  · rw [ha]; exact List.mem_map.mpr ⟨i, (zm_mem i A).mp (by rw [ka]; exact zor h i h1), hx⟩
  · rw [← hx]; exact good_of_word (zgood i (zor hg i h1))
theorem zin {a b : List Cond} {A B : List Nat} {MA MB : Nat} (ha : a = List.map zw A) (hb : b = List.map zw B) (ka : zm A = MA) (kb : zm B = MB) (h : Nat.lor MB MA = MA) : ∀ w ∈ b, w ∈ a := by
  intro w hw
  rw [hb] at hw
  obtain ⟨i, hi, hx⟩ := List.mem_map.mp hw
  have h1 : Nat.testBit MB i = true := by rw [← kb]; exact (zm_mem i B).mpr hi
  rw [ha]; exact List.mem_map.mpr ⟨i, (zm_mem i A).mp (by rw [ka]; exact zor h i h1), hx⟩
theorem zat {w : Cond} {a : List Cond} {A : List Nat} {M : Nat} (ha : a = List.map zw A) (ka : zm A = M) (i : Nat) (hw : w = zw i) (h : Nat.testBit M i = true) : w ∈ a := by
  rw [ha, hw]; exact List.mem_map.mpr ⟨i, (zm_mem i A).mp (by rw [ka]; exact h), rfl⟩
theorem goodIn_app {big a b : List Cond} (ha : GoodIn big a) (hb : GoodIn big b) : GoodIn big (a ++ b) := fun w h => (List.mem_append.mp h).elim (ha w) (hb w)
def zL_wsX00 : List Nat := [611, 613, 615, 617]
set_option maxRecDepth 100000 in
theorem q_wsX00 : wsX00 = List.map zw zL_wsX00 := zq_n _ (id rfl)
set_option maxRecDepth 100000 in
theorem k_wsX00 : zm zL_wsX00 = 722347670230803254217839960911357333168246640108763415551244027952548841410759050125261003080711828509689488101295241380871347899207681845596947171122558798643610528336134777883150254080 := by decide +kernel
def zL_wsX10 : List Nat := [753, 755, 757]
set_option maxRecDepth 100000 in
theorem q_wsX10 : wsX10 = List.map zw zL_wsX10 := zq_n _ (id rfl)
set_option maxRecDepth 100000 in
theorem k_wsX10 : zm zL_wsX10 = 994960935617519764347185341116716115124347117903156397519534081986910095410580890287733355267382081206062083271476823038623143949170260687876282738521264768166917556653987061052110931343492655680252776582887141228294365964664832 := by decide +kernel
def zL_wsX20 : List Nat := [394, 395, 396, 397, 398, 390, 392]
set_option maxRecDepth 100000 in
theorem q_wsX20 : wsX20 = List.map zw zL_wsX20 := zq_n _ (id rfl)
set_option maxRecDepth 100000 in
theorem k_wsX20 : zm zL_wsX20 = 1263385926681192581462515141771004833046076759968204081961094079713734822881286561044387033196629935106823719881197748224 := by decide +kernel
def zL_wsX30 : List Nat := [258, 259, 260, 261, 262, 252, 254, 256]
set_option maxRecDepth 100000 in
theorem q_wsX30 : wsX30 = List.map zw zL_wsX30 := zq_n _ (id rfl)
set_option maxRecDepth 100000 in
theorem k_wsX30 : zm zL_wsX30 = 14510196182551185739016239058901203452862894953413083181194528495991614058004480 := by decide +kernel
def zL_wsX50 : List Nat := [447, 448, 449, 450, 451, 443, 445]
set_option maxRecDepth 100000 in
theorem q_wsX50 : wsX50 = List.map zw zL_wsX50 := zq_n _ (id rfl)
set_option maxRecDepth 100000 in
theorem k_wsX50 : zm zL_wsX50 = 11379568777253095380162850867246570990974197553260823381282080930921883854525386237075678637737360823310688228898104848271901106747998208 := by decide +kernel
def zL_wsX60 : List Nat := [370, 371, 372, 373, 374, 362, 364, 366, 368]
set_option maxRecDepth 100000 in
theorem q_wsX60 : wsX60 = List.map zw zL_wsX60 := zq_n _ (id rfl)
set_option maxRecDepth 100000 in
theorem k_wsX60 : zm zL_wsX60 = 75350640225715665283606095467389089186321398899174534731772723530639394361777097300089318664176919068076601769984 := by decide +kernel
def zL_wsX70 : List Nat := [283, 284, 285, 286, 287, 277, 279, 281]
set_option maxRecDepth 100000 in
theorem q_wsX70 : wsX70 = List.map zw zL_wsX70 := zq_n _ (id rfl)
set_option maxRecDepth 100000 in
theorem k_wsX70 : zm zL_wsX70 = 486881391114073348399190140397644425977253214037442467513735485190812886479555379855360 := by decide +kernel
def zL_wsX80 : List Nat := [338, 340, 342, 344, 346, 348]
set_option maxRecDepth 100000 in
theorem q_wsX80 : wsX80 = List.map zw zL_wsX80 := zq_n _ (id rfl)
set_option maxRecDepth 100000 in
theorem k_wsX80 : zm zL_wsX80 = 764312893268175686852727178243981609909011525931324153784621280703893976040229922611224444578935928258560 := by decide +kernel
def zL_wsX90 : List Nat := [99, 101, 103, 105, 107]
set_option maxRecDepth 100000 in
theorem q_wsX90 : wsX90 = List.map zw zL_wsX90 := zq_n _ (id rfl)
set_option maxRecDepth 100000 in
theorem k_wsX90 : zm zL_wsX90 = 216134427338913112955187896516608 := by decide +kernel
def zL_wsX100 : List Nat := [211, 213, 215, 217, 219, 203, 205, 207, 209]
set_option maxRecDepth 100000 in
theorem q_wsX100 : wsX100 = List.map zw zL_wsX100 := zq_n _ (id rfl)
set_option maxRecDepth 100000 in
theorem k_wsX100 : zm zL_wsX100 = 1123326825963158634137057516726905034967940958397873765931756290048 := by decide +kernel
def zL_wsX110 : List Nat := [121, 123, 125, 127, 129, 131, 133, 135, 137]
set_option maxRecDepth 100000 in
theorem q_wsX110 : wsX110 = List.map zw zL_wsX110 := zq_n _ (id rfl)
set_option maxRecDepth 100000 in
theorem k_wsX110 : zm zL_wsX110 = 232298542999363467780415129468713578790912 := by decide +kernel
def zL_wsX120 : List Nat := [934, 936, 938, 940, 942, 944, 946, 948, 950, 952, 954, 956, 958, 960, 962, 964, 966, 968, 970, 972, 974, 976, 978, 980, 982, 984, 986, 988, 990, 992, 994, 996, 998, 1000, 1002, 1004, 1006, 1008, 1010, 1012, 1014, 1016, 1018, 1020, 1022, 1024, 1026, 1028, 1030, 1032, 1034, 1036]
set_option maxRecDepth 100000 in
theorem q_wsX120 : wsX120 = List.map zw zL_wsX120 := zq_n _ (id rfl)
set_option maxRecDepth 100000 in
theorem k_wsX120 : zm zL_wsX120 = 981780144052806127741231208196197635688241649598949571825681166153905614006086493242051175743229582613410375022736296142889698767881038970434225423690895199404987973724989887489333261740547295935660621277882006348977960047044225851201824048520419466699892908026300939556634084605044175636197657287692197476433920 := by decide +kernel
def zL_wsX0_init : List Nat := 601 :: ([602, 74, 75, 603, 605, 607, 609] ++ zL_wsX00)
set_option maxRecDepth 100000 in
theorem q_wsX0_init : wsX0_init = List.map zw zL_wsX0_init := zq_c (i := 601) rfl (zq_a (zq_n _ (id rfl) : ([.methodLink RX0 1 objectInit, .instanceMethod objectInit, .code objectInit ⟨#[0xb1]⟩ 1 none, .fieldLink RX0 7 "PageOne$Act" "piece" "LPageOne$Piece;", .fieldLink RX0 13 "PageOne$Act" "lifted" "Z", .fieldLink RX0 17 "PageOne$Act" "ahead" "LPageOne$Act;", .fieldLink RX0 21 "PageOne$Act" "parts" "I"] : List Cond) = List.map zw [602, 74, 75, 603, 605, 607, 609]) q_wsX00)
set_option maxRecDepth 100000 in
theorem k_wsX0_init : zm zL_wsX0_init = 725194237911055615387379472705849469717841178224081727264641048880716629239388305113691202116289541712571191851510593722250470972845414323458157567258760977732934555721666007852140986368 := by decide +kernel
def zL_wsX1_init : List Nat := 745 :: ([746, 74, 75, 747, 749, 751] ++ zL_wsX10)
set_option maxRecDepth 100000 in
theorem q_wsX1_init : wsX1_init = List.map zw zL_wsX1_init := zq_c (i := 745) rfl (zq_a (zq_n _ (id rfl) : ([.methodLink RX1 1 objectInit, .instanceMethod objectInit, .code objectInit ⟨#[0xb1]⟩ 1 none, .fieldLink RX1 7 "PageOne$Breach" "kind" "I", .fieldLink RX1 13 "PageOne$Breach" "first" "I", .fieldLink RX1 16 "PageOne$Breach" "other" "I"] : List Cond) = List.map zw [746, 74, 75, 747, 749, 751]) q_wsX10)
set_option maxRecDepth 100000 in
theorem k_wsX1_init : zm zL_wsX1_init = 1011062423972937215890750282462912971898122824610294531184749756304778618159970871213148683003293956404151257610133535018600862238526252629811780617660280771669618789434659842732083708692243373880435438703983835907127047585005568 := by decide +kernel
def zL_wsX11_isWithin : List Nat := 149 :: []
set_option maxRecDepth 100000 in
theorem q_wsX11_isWithin : wsX11_isWithin = List.map zw zL_wsX11_isWithin := zq_c (i := 149) rfl zq_nil
set_option maxRecDepth 100000 in
theorem k_wsX11_isWithin : zm zL_wsX11_isWithin = 713623846352979940529142984724747568191373312 := by decide +kernel
def zL_wsJ7_fill_53178 : List Nat := 89 :: []
set_option maxRecDepth 100000 in
theorem q_wsJ7_fill_53178 : wsJ7_fill_53178 = List.map zw zL_wsJ7_fill_53178 := zq_c (i := 89) rfl zq_nil
set_option maxRecDepth 100000 in
theorem k_wsJ7_fill_53178 : zm zL_wsJ7_fill_53178 = 618970019642690137449562112 := by decide +kernel
def zL_wsX4_init : List Nat := 168 :: (((((([169, 74, 75, 194, 111, 198, 181, 188, 171, 190, 148, 53, 149, 173, 88, 55, 89] ++ zL_wsX20) ++ zL_wsX30) ++ zL_wsX50) ++ zL_wsX60) ++ zL_wsX70) ++ zL_wsX100)
set_option maxRecDepth 100000 in
theorem q_wsX4_init : wsX4_init = List.map zw zL_wsX4_init := zq_c (i := 168) rfl (zq_a (zq_a (zq_a (zq_a (zq_a (zq_a (zq_n _ (id rfl) : ([.methodLink RX4 3 objectInit, .instanceMethod objectInit, .code objectInit ⟨#[0xb1]⟩ 1 none, .fieldLink RX4 9 "PageOne$Item" "count" "I", .arrayClass .int, .fieldLink RX4 15 "PageOne$Item" "first" "[I", .fieldLink RX4 19 "PageOne$Item" "number" "I", .fieldLink RX4 22 "PageOne$Item" "kind" "I", .classLink RX4 29 RX8, .fieldLink RX4 31 "PageOne$Item" "pieces" "[LPageOne$Piece;", .static yX11_isWithin, .initialized RX11, .code yX11_isWithin cX11_isWithin 3 (some .boolean), .methodLink RX4 35 yJ7_fill_53178, .static yJ7_fill_53178, .initialized RJ7, .code yJ7_fill_53178 cJ7_fill_53178 4 none] : List Cond) = List.map zw [169, 74, 75, 194, 111, 198, 181, 188, 171, 190, 148, 53, 149, 173, 88, 55, 89]) q_wsX20) q_wsX30) q_wsX50) q_wsX60) q_wsX70) q_wsX100)
set_option maxRecDepth 100000 in
theorem k_wsX4_init : zm zL_wsX4_init = 11379568777253096643548852899079378169154622930361610697853651490055816489360866377770922647598332307058302452256750662953329103541895168 := by decide +kernel
def zL_wsX2_init : List Nat := 384 :: (((((([386, 388, 385, 167, 57, 168, 169, 74, 75, 194, 111, 198, 181, 188, 171, 190, 148, 53, 149, 173, 88, 55, 89] ++ zL_wsX20) ++ zL_wsX30) ++ zL_wsX50) ++ zL_wsX60) ++ zL_wsX70) ++ zL_wsX100)
set_option maxRecDepth 100000 in
theorem q_wsX2_init : wsX2_init = List.map zw zL_wsX2_init := zq_c (i := 384) rfl (zq_a (zq_a (zq_a (zq_a (zq_a (zq_a (zq_n _ (id rfl) : ([.fieldLink RX2 9 "PageOne$Filler" "least" "I", .fieldLink RX2 15 "PageOne$Filler" "most" "I", .methodLink RX2 3 yX4_init, .instanceMethod yX4_init, .initialized RX4, .code yX4_init cX4_init 4 none, .methodLink RX4 3 objectInit, .instanceMethod objectInit, .code objectInit ⟨#[0xb1]⟩ 1 none, .fieldLink RX4 9 "PageOne$Item" "count" "I", .arrayClass .int, .fieldLink RX4 15 "PageOne$Item" "first" "[I", .fieldLink RX4 19 "PageOne$Item" "number" "I", .fieldLink RX4 22 "PageOne$Item" "kind" "I", .classLink RX4 29 RX8, .fieldLink RX4 31 "PageOne$Item" "pieces" "[LPageOne$Piece;", .static yX11_isWithin, .initialized RX11, .code yX11_isWithin cX11_isWithin 3 (some .boolean), .methodLink RX4 35 yJ7_fill_53178, .static yJ7_fill_53178, .initialized RJ7, .code yJ7_fill_53178 cJ7_fill_53178 4 none] : List Cond) = List.map zw [386, 388, 385, 167, 57, 168, 169, 74, 75, 194, 111, 198, 181, 188, 171, 190, 148, 53, 149, 173, 88, 55, 89]) q_wsX20) q_wsX30) q_wsX50) q_wsX60) q_wsX70) q_wsX100)
set_option maxRecDepth 100000 in
theorem k_wsX2_init : zm zL_wsX2_init = 11379568777253096644455099041596451191037040852664913815370485493276521762723677126068761320552346506694360647777691407062512694760308736 := by decide +kernel
def zL_wsX2_linesBy : List Nat := 495 :: ([386, 388, 148, 53, 149] ++ zL_wsX20)
set_option maxRecDepth 100000 in
theorem q_wsX2_linesBy : wsX2_linesBy = List.map zw zL_wsX2_linesBy := zq_c (i := 495) rfl (zq_a (zq_n _ (id rfl) : ([.fieldLink RX2 9 "PageOne$Filler" "least" "I", .fieldLink RX2 15 "PageOne$Filler" "most" "I", .static yX11_isWithin, .initialized RX11, .code yX11_isWithin cX11_isWithin 3 (some .boolean)] : List Cond) = List.map zw [386, 388, 148, 53, 149]) q_wsX20)
set_option maxRecDepth 100000 in
theorem k_wsX2_linesBy : zm zL_wsX2_linesBy = 102293456496754433437912178027126647473575184409892535393925862958326359492399693230996643430766324648282995820012397007470560614955654513909062172672 := by decide +kernel
def zL_wsX3_init : List Nat := 246 :: (((((([248, 250, 251, 247, 167, 57, 168, 169, 74, 75, 194, 111, 198, 181, 188, 171, 190, 148, 53, 149, 173, 88, 55, 89] ++ zL_wsX30) ++ zL_wsX20) ++ zL_wsX50) ++ zL_wsX60) ++ zL_wsX70) ++ zL_wsX100)
set_option maxRecDepth 100000 in
theorem q_wsX3_init : wsX3_init = List.map zw zL_wsX3_init := zq_c (i := 246) rfl (zq_a (zq_a (zq_a (zq_a (zq_a (zq_a (zq_n _ (id rfl) : ([.fieldLink RX3 9 "PageOne$Head" "owner" "LPageOne$Story;", .fieldLink RX3 15 "PageOne$Head" "w" "I", .fieldLink RX3 19 "PageOne$Head" "h" "I", .methodLink RX3 3 yX4_init, .instanceMethod yX4_init, .initialized RX4, .code yX4_init cX4_init 4 none, .methodLink RX4 3 objectInit, .instanceMethod objectInit, .code objectInit ⟨#[0xb1]⟩ 1 none, .fieldLink RX4 9 "PageOne$Item" "count" "I", .arrayClass .int, .fieldLink RX4 15 "PageOne$Item" "first" "[I", .fieldLink RX4 19 "PageOne$Item" "number" "I", .fieldLink RX4 22 "PageOne$Item" "kind" "I", .classLink RX4 29 RX8, .fieldLink RX4 31 "PageOne$Item" "pieces" "[LPageOne$Piece;", .static yX11_isWithin, .initialized RX11, .code yX11_isWithin cX11_isWithin 3 (some .boolean), .methodLink RX4 35 yJ7_fill_53178, .static yJ7_fill_53178, .initialized RJ7, .code yJ7_fill_53178 cJ7_fill_53178 4 none] : List Cond) = List.map zw [248, 250, 251, 247, 167, 57, 168, 169, 74, 75, 194, 111, 198, 181, 188, 171, 190, 148, 53, 149, 173, 88, 55, 89]) q_wsX30) q_wsX20) q_wsX50) q_wsX60) q_wsX70) q_wsX100)
set_option maxRecDepth 100000 in
theorem k_wsX3_init : zm zL_wsX3_init = 11379568777253096643548852899079378169154622930361610697853657709357484509273706510978312334881086375375149526094070935377788801004863488 := by decide +kernel
def zL_wsX3_columnsBy : List Nat := 479 :: ([250] ++ zL_wsX30)
set_option maxRecDepth 100000 in
theorem q_wsX3_columnsBy : wsX3_columnsBy = List.map zw zL_wsX3_columnsBy := zq_c (i := 479) rfl (zq_a (zq_n _ (id rfl) : ([.fieldLink RX3 15 "PageOne$Head" "w" "I"] : List Cond) = List.map zw [250]) q_wsX30)
set_option maxRecDepth 100000 in
theorem k_wsX3_columnsBy : zm zL_wsX3_columnsBy = 1560874275157996115690798614896583152874299071332485575429578479827197874843828328864722783887287949781336567857626795262731632860385880353800192 := by decide +kernel
def zL_wsX3_linesBy : List Nat := 499 :: ([251] ++ zL_wsX30)
set_option maxRecDepth 100000 in
theorem q_wsX3_linesBy : wsX3_linesBy = List.map zw zL_wsX3_linesBy := zq_c (i := 499) rfl (zq_a (zq_n _ (id rfl) : ([.fieldLink RX3 19 "PageOne$Head" "h" "I"] : List Cond) = List.map zw [251]) q_wsX30)
set_option maxRecDepth 100000 in
theorem k_wsX3_linesBy : zm zL_wsX3_linesBy = 1636695303948070935006594848413799576108321023021532394741645684048066912716151962781486916286177730758168292047089675938493077093704242018525607100416 := by decide +kernel
def zL_wsX4_columnsBy : List Nat := 489 :: []
set_option maxRecDepth 100000 in
theorem q_wsX4_columnsBy : wsX4_columnsBy = List.map zw zL_wsX4_columnsBy := zq_c (i := 489) rfl zq_nil
set_option maxRecDepth 100000 in
theorem k_wsX4_columnsBy : zm zL_wsX4_columnsBy = 1598335257761788022467377781654101148543282249044465229239888363328190330275719997501596724768507889233831388734160190922469363547795602076820570112 := by decide +kernel
def zL_wsX4_maySit : List Nat := 574 :: []
set_option maxRecDepth 100000 in
theorem q_wsX4_maySit : wsX4_maySit = List.map zw zL_wsX4_maySit := zq_c (i := 574) rfl zq_nil
set_option maxRecDepth 100000 in
theorem k_wsX4_maySit : zm zL_wsX4_maySit = 61832600368276133515125630254911797508782837275302959978515764023224306276632966792579100265310761247399417856504034834837841258576687802491886538775473291979151693037174784 := by decide +kernel
def zL_wsX4_hasRoom : List Nat := 522 :: (((((([194, 190] ++ zL_wsX20) ++ zL_wsX30) ++ zL_wsX50) ++ zL_wsX60) ++ zL_wsX70) ++ zL_wsX100)
set_option maxRecDepth 100000 in
theorem q_wsX4_hasRoom : wsX4_hasRoom = List.map zw zL_wsX4_hasRoom := zq_c (i := 522) rfl (zq_a (zq_a (zq_a (zq_a (zq_a (zq_a (zq_n _ (id rfl) : ([.fieldLink RX4 9 "PageOne$Item" "count" "I", .fieldLink RX4 31 "PageOne$Item" "pieces" "[LPageOne$Piece;"] : List Cond) = List.map zw [194, 190]) q_wsX20) q_wsX30) q_wsX50) q_wsX60) q_wsX70) q_wsX100)
set_option maxRecDepth 100000 in
theorem k_wsX4_hasRoom : zm zL_wsX4_hasRoom = 13729595320261219429975181166940039531182419453185690196958081541301447977493165755735175097812269574202452542928497663085470007933469603931429621720118460416 := by decide +kernel
def zL_wsX4_gain : List Nat := 596 :: (((((([190, 194, 597, 515, 516, 514, 57, 522, 517, 518, 519, 520, 521] ++ zL_wsX20) ++ zL_wsX30) ++ zL_wsX50) ++ zL_wsX60) ++ zL_wsX70) ++ zL_wsX100)
set_option maxRecDepth 100000 in
theorem q_wsX4_gain : wsX4_gain = List.map zw zL_wsX4_gain := zq_c (i := 596) rfl (zq_a (zq_a (zq_a (zq_a (zq_a (zq_a (zq_n _ (id rfl) : ([.fieldLink RX4 31 "PageOne$Item" "pieces" "[LPageOne$Piece;", .fieldLink RX4 9 "PageOne$Item" "count" "I", .methodLink RX4 41 ⟨"PageOne$Item", "hasRoom", "()Z"⟩, .sameMethod "PageOne$Item" "PageOne$Item" "hasRoom" "()Z", .selects RX2 ⟨"PageOne$Item", "hasRoom", "()Z"⟩ yX4_hasRoom, .instanceMethod yX4_hasRoom, .initialized RX4, .code yX4_hasRoom cX4_hasRoom 1 (some .boolean), .selects RX3 ⟨"PageOne$Item", "hasRoom", "()Z"⟩ yX4_hasRoom, .selects RX5 ⟨"PageOne$Item", "hasRoom", "()Z"⟩ yX4_hasRoom, .selects RX6 ⟨"PageOne$Item", "hasRoom", "()Z"⟩ yX4_hasRoom, .selects RX7 ⟨"PageOne$Item", "hasRoom", "()Z"⟩ yX4_hasRoom, .selects RX10 ⟨"PageOne$Item", "hasRoom", "()Z"⟩ yX4_hasRoom] : List Cond) = List.map zw [190, 194, 597, 515, 516, 514, 57, 522, 517, 518, 519, 520, 521]) q_wsX20) q_wsX30) q_wsX50) q_wsX60) q_wsX70) q_wsX100)
set_option maxRecDepth 100000 in
theorem k_wsX4_gain : zm zL_wsX4_gain = 778034169165186179721103880001501518483305209232122028751766960689587592071362513564158969324870129612709176826500840482769537111677986583663745330364769846429248524196677435785216 := by decide +kernel
def zL_wsX4_loseLast : List Nat := 642 :: (((((([194, 190] ++ zL_wsX20) ++ zL_wsX30) ++ zL_wsX50) ++ zL_wsX60) ++ zL_wsX70) ++ zL_wsX100)
set_option maxRecDepth 100000 in
theorem q_wsX4_loseLast : wsX4_loseLast = List.map zw zL_wsX4_loseLast := zq_c (i := 642) rfl (zq_a (zq_a (zq_a (zq_a (zq_a (zq_a (zq_n _ (id rfl) : ([.fieldLink RX4 9 "PageOne$Item" "count" "I", .fieldLink RX4 31 "PageOne$Item" "pieces" "[LPageOne$Piece;"] : List Cond) = List.map zw [194, 190]) q_wsX20) q_wsX30) q_wsX50) q_wsX60) q_wsX70) q_wsX100)
set_option maxRecDepth 100000 in
theorem k_wsX4_loseLast : zm zL_wsX4_loseLast = 18249762470488780874564686422801165299572914028994239722328149640374353765478258398922730623438640222044930848992231280732810635374862216240870565424424803764234010631477376106613061906874761216 := by decide +kernel
def zL_wsX4_loseAll : List Nat := 812 :: (((((([190, 194] ++ zL_wsX20) ++ zL_wsX30) ++ zL_wsX50) ++ zL_wsX60) ++ zL_wsX70) ++ zL_wsX100)
set_option maxRecDepth 100000 in
theorem q_wsX4_loseAll : wsX4_loseAll = List.map zw zL_wsX4_loseAll := zq_c (i := 812) rfl (zq_a (zq_a (zq_a (zq_a (zq_a (zq_a (zq_n _ (id rfl) : ([.fieldLink RX4 31 "PageOne$Item" "pieces" "[LPageOne$Piece;", .fieldLink RX4 9 "PageOne$Item" "count" "I"] : List Cond) = List.map zw [190, 194]) q_wsX20) q_wsX30) q_wsX50) q_wsX60) q_wsX70) q_wsX100)
set_option maxRecDepth 100000 in
theorem k_wsX4_loseAll : zm zL_wsX4_loseAll = 27312187117075883106631072934794271937104930088205959824983071996985496526101020964951786294769886374883040925170271330119457175124125818448546475544970010230416463299340893687281258019559038105209986242039602747748939340277809867013745130078208 := by decide +kernel
def zL_wsX4_lastPiece : List Nat := 553 :: (((((([194, 190] ++ zL_wsX20) ++ zL_wsX30) ++ zL_wsX50) ++ zL_wsX60) ++ zL_wsX70) ++ zL_wsX100)
set_option maxRecDepth 100000 in
theorem q_wsX4_lastPiece : wsX4_lastPiece = List.map zw zL_wsX4_lastPiece := zq_c (i := 553) rfl (zq_a (zq_a (zq_a (zq_a (zq_a (zq_a (zq_n _ (id rfl) : ([.fieldLink RX4 9 "PageOne$Item" "count" "I", .fieldLink RX4 31 "PageOne$Item" "pieces" "[LPageOne$Piece;"] : List Cond) = List.map zw [194, 190]) q_wsX20) q_wsX30) q_wsX50) q_wsX60) q_wsX70) q_wsX100)
set_option maxRecDepth 100000 in
theorem k_wsX4_lastPiece : zm zL_wsX4_lastPiece = 29484081443918291814387145163982230279065700131146989699588191098838093391619024517620718691940514937907082144175702458424993639432513474375922521395599502978899247104 := by decide +kernel
def zL_wsX4_isOn : List Nat := 705 :: ((((((([194, 190, 320] ++ zL_wsX20) ++ zL_wsX30) ++ zL_wsX50) ++ zL_wsX60) ++ zL_wsX70) ++ zL_wsX100) ++ zL_wsX80)
set_option maxRecDepth 100000 in
theorem q_wsX4_isOn : wsX4_isOn = List.map zw zL_wsX4_isOn := zq_c (i := 705) rfl (zq_a (zq_a (zq_a (zq_a (zq_a (zq_a (zq_a (zq_n _ (id rfl) : ([.fieldLink RX4 9 "PageOne$Item" "count" "I", .fieldLink RX4 31 "PageOne$Item" "pieces" "[LPageOne$Piece;", .fieldLink RX4 45 "PageOne$Piece" "page" "I"] : List Cond) = List.map zw [194, 190, 320]) q_wsX20) q_wsX30) q_wsX50) q_wsX60) q_wsX70) q_wsX100) q_wsX80)
set_option maxRecDepth 100000 in
theorem k_wsX4_isOn : zm zL_wsX4_isOn = 168324348849547952231711676252164117297610873690341563503944988898199428937517965876414582257526379292162535145879752993909706216340996014113461967713861185475103218895696825088943134635983035123957551091448545280 := by decide +kernel
def zL_wsX8_isBeside : List Nat := 736 :: ([322, 329, 317, 326, 333] ++ zL_wsX80)
set_option maxRecDepth 100000 in
theorem q_wsX8_isBeside : wsX8_isBeside = List.map zw zL_wsX8_isBeside := zq_c (i := 736) rfl (zq_a (zq_n _ (id rfl) : ([.fieldLink RX8 19 "PageOne$Piece" "column" "I", .fieldLink RX8 25 "PageOne$Piece" "w" "I", .fieldLink RX8 15 "PageOne$Piece" "page" "I", .fieldLink RX8 22 "PageOne$Piece" "line" "I", .fieldLink RX8 28 "PageOne$Piece" "h" "I"] : List Cond) = List.map zw [322, 329, 317, 326, 333]) q_wsX80)
set_option maxRecDepth 100000 in
theorem k_wsX8_isBeside : zm zL_wsX8_isBeside = 361473786714651839609485931802192366508973300717001923159475447150424810286233407987951861887389439612274926783780352326331412412285598607379906469092171592977977080442119300734149301537059580990577054722605575119610839040 := by decide +kernel
def zL_wsX8_isOverOrUnder : List Nat := 740 :: ([326, 333, 317, 322, 329] ++ zL_wsX80)
set_option maxRecDepth 100000 in
theorem q_wsX8_isOverOrUnder : wsX8_isOverOrUnder = List.map zw zL_wsX8_isOverOrUnder := zq_c (i := 740) rfl (zq_a (zq_n _ (id rfl) : ([.fieldLink RX8 22 "PageOne$Piece" "line" "I", .fieldLink RX8 28 "PageOne$Piece" "h" "I", .fieldLink RX8 15 "PageOne$Piece" "page" "I", .fieldLink RX8 19 "PageOne$Piece" "column" "I", .fieldLink RX8 25 "PageOne$Piece" "w" "I"] : List Cond) = List.map zw [326, 333, 317, 322, 329]) q_wsX80)
set_option maxRecDepth 100000 in
theorem k_wsX8_isOverOrUnder : zm zL_wsX8_isOverOrUnder = 5783580587434429433751774908835077864143572811472030770551607154406796964579734527807229790198231033796398828540485625756328142394772109226822888398987108117325105576088934252233602880723050354220191184921967873421821870080 := by decide +kernel
def zL_wsX4_touches : List Nat := 732 :: ((((((([194, 190, 733, 734, 735, 62, 736, 322, 329, 317, 326, 333, 737, 738, 739, 740] ++ zL_wsX20) ++ zL_wsX30) ++ zL_wsX50) ++ zL_wsX60) ++ zL_wsX70) ++ zL_wsX100) ++ zL_wsX80)
set_option maxRecDepth 100000 in
theorem q_wsX4_touches : wsX4_touches = List.map zw zL_wsX4_touches := zq_c (i := 732) rfl (zq_a (zq_a (zq_a (zq_a (zq_a (zq_a (zq_a (zq_n _ (id rfl) : ([.fieldLink RX4 9 "PageOne$Item" "count" "I", .fieldLink RX4 31 "PageOne$Item" "pieces" "[LPageOne$Piece;", .methodLink RX4 52 yX8_isBeside, .instanceMethod yX8_isBeside, .selects RX8 yX8_isBeside yX8_isBeside, .initialized RX8, .code yX8_isBeside cX8_isBeside 3 (some .boolean), .fieldLink RX8 19 "PageOne$Piece" "column" "I", .fieldLink RX8 25 "PageOne$Piece" "w" "I", .fieldLink RX8 15 "PageOne$Piece" "page" "I", .fieldLink RX8 22 "PageOne$Piece" "line" "I", .fieldLink RX8 28 "PageOne$Piece" "h" "I", .methodLink RX4 56 yX8_isOverOrUnder, .instanceMethod yX8_isOverOrUnder, .selects RX8 yX8_isOverOrUnder yX8_isOverOrUnder, .code yX8_isOverOrUnder cX8_isOverOrUnder 3 (some .boolean)] : List Cond) = List.map zw [194, 190, 733, 734, 735, 62, 736, 322, 329, 317, 326, 333, 737, 738, 739, 740]) q_wsX20) q_wsX30) q_wsX50) q_wsX60) q_wsX70) q_wsX100) q_wsX80)
set_option maxRecDepth 100000 in
theorem k_wsX4_touches : zm zL_wsX4_touches = 11544569063199193127527956946932518705380334791649248920905747093366692378516579467615223968597277480713674023009884058153868822624094388370678910350990533990933290066961535058347308255619391582710692514569683566524236824576 := by decide +kernel
def zL_wsX4_meets_r1 : List Nat := [194, 190, 320, 723, 725, 726, 724, 57, 732, 733, 734, 735, 62, 736, 322, 329, 317, 326, 333, 737, 738, 739, 740, 727]
set_option maxRecDepth 100000 in
theorem q_wsX4_meets_r1 : wsX4_meets_r1 = List.map zw zL_wsX4_meets_r1 := zq_n _ (id rfl)
def zL_wsX4_meets_r2 : List Nat := [728, 729, 730, 731]
set_option maxRecDepth 100000 in
theorem q_wsX4_meets_r2 : wsX4_meets_r2 = List.map zw zL_wsX4_meets_r2 := zq_n _ (id rfl)
def zL_wsX4_meets : List Nat := 722 :: ((((((((zL_wsX4_meets_r1 ++ zL_wsX4_meets_r2) ++ zL_wsX20) ++ zL_wsX30) ++ zL_wsX50) ++ zL_wsX60) ++ zL_wsX70) ++ zL_wsX100) ++ zL_wsX80)
set_option maxRecDepth 100000 in
theorem q_wsX4_meets : wsX4_meets = List.map zw zL_wsX4_meets := zq_c (i := 722) rfl (zq_a (zq_a (zq_a (zq_a (zq_a (zq_a (zq_a (zq_a q_wsX4_meets_r1 q_wsX4_meets_r2) q_wsX20) q_wsX30) q_wsX50) q_wsX60) q_wsX70) q_wsX100) q_wsX80)
set_option maxRecDepth 100000 in
theorem k_wsX4_meets : zm zL_wsX4_meets = 11567139112259806459554354902757326004631963190491625200653802719736009064363919358751190445325231545455089870794296124782770544546751686744240726838274131925070394547803454435244967285552874683905898012231837452522557014016 := by decide +kernel
def zL_wsX5_init : List Nat := 438 :: (((((([440, 442, 439, 167, 57, 168, 169, 74, 75, 194, 111, 198, 181, 188, 171, 190, 148, 53, 149, 173, 88, 55, 89] ++ zL_wsX50) ++ zL_wsX20) ++ zL_wsX30) ++ zL_wsX60) ++ zL_wsX70) ++ zL_wsX100)
set_option maxRecDepth 100000 in
theorem q_wsX5_init : wsX5_init = List.map zw zL_wsX5_init := zq_c (i := 438) rfl (zq_a (zq_a (zq_a (zq_a (zq_a (zq_a (zq_n _ (id rfl) : ([.fieldLink RX5 9 "PageOne$Notice" "mended" "LPageOne$Item;", .fieldLink RX5 15 "PageOne$Notice" "h" "I", .methodLink RX5 3 yX4_init, .instanceMethod yX4_init, .initialized RX4, .code yX4_init cX4_init 4 none, .methodLink RX4 3 objectInit, .instanceMethod objectInit, .code objectInit ⟨#[0xb1]⟩ 1 none, .fieldLink RX4 9 "PageOne$Item" "count" "I", .arrayClass .int, .fieldLink RX4 15 "PageOne$Item" "first" "[I", .fieldLink RX4 19 "PageOne$Item" "number" "I", .fieldLink RX4 22 "PageOne$Item" "kind" "I", .classLink RX4 29 RX8, .fieldLink RX4 31 "PageOne$Item" "pieces" "[LPageOne$Piece;", .static yX11_isWithin, .initialized RX11, .code yX11_isWithin cX11_isWithin 3 (some .boolean), .methodLink RX4 35 yJ7_fill_53178, .static yJ7_fill_53178, .initialized RJ7, .code yJ7_fill_53178 cJ7_fill_53178 4 none] : List Cond) = List.map zw [440, 442, 439, 167, 57, 168, 169, 74, 75, 194, 111, 198, 181, 188, 171, 190, 148, 53, 149, 173, 88, 55, 89]) q_wsX50) q_wsX20) q_wsX30) q_wsX60) q_wsX70) q_wsX100)
set_option maxRecDepth 100000 in
theorem k_wsX5_init : zm zL_wsX5_init = 11395894256412080001442050601795612646000456671861423505848255273826475379621225901439569089111051836467669963365479091554889250824519680 := by decide +kernel
def zL_wsX5_linesBy : List Nat := 502 :: ([442] ++ zL_wsX50)
set_option maxRecDepth 100000 in
theorem q_wsX5_linesBy : wsX5_linesBy = List.map zw zL_wsX5_linesBy := zq_c (i := 502) rfl (zq_a (zq_n _ (id rfl) : ([.fieldLink RX5 15 "PageOne$Notice" "h" "I"] : List Cond) = List.map zw [442]) q_wsX50)
set_option maxRecDepth 100000 in
theorem k_wsX5_linesBy : zm zL_wsX5_linesBy = 13093562431584578870978391107524634436550619928993320981406364993947261159597913503614423771461696256253919641273619306612012324386298874325899008802816 := by decide +kernel
def zL_wsX5_maySit : List Nat := 535 :: ((((((([199, 200, 440, 201, 318, 324, 148, 53, 149] ++ zL_wsX20) ++ zL_wsX30) ++ zL_wsX50) ++ zL_wsX60) ++ zL_wsX70) ++ zL_wsX100) ++ zL_wsX80)
set_option maxRecDepth 100000 in
theorem q_wsX5_maySit : wsX5_maySit = List.map zw zL_wsX5_maySit := zq_c (i := 535) rfl (zq_a (zq_a (zq_a (zq_a (zq_a (zq_a (zq_a (zq_n _ (id rfl) : ([.fieldLink RX5 19 "PageOne$Notice" "first" "[I", .sameField "PageOne$Notice" "PageOne$Item" "first" "[I", .fieldLink RX5 9 "PageOne$Notice" "mended" "LPageOne$Item;", .fieldLink RX5 27 "PageOne$Item" "first" "[I", .fieldLink RX5 28 "PageOne$Piece" "page" "I", .fieldLink RX5 33 "PageOne$Piece" "column" "I", .static yX11_isWithin, .initialized RX11, .code yX11_isWithin cX11_isWithin 3 (some .boolean)] : List Cond) = List.map zw [199, 200, 440, 201, 318, 324, 148, 53, 149]) q_wsX20) q_wsX30) q_wsX50) q_wsX60) q_wsX70) q_wsX100) q_wsX80)
set_option maxRecDepth 100000 in
theorem k_wsX5_maySit : zm zL_wsX5_maySit = 112472844863579909570263474074557537491618785922609111032223889110215746464150246801765162634127366402228109378362404139807511656157667915386382364821060681990144 := by decide +kernel
def zL_wsX6_init_r1 : List Nat := [110, 360, 355, 357, 358, 354, 167, 57, 168, 169, 74, 75, 194, 111, 198, 181, 188, 171, 190, 148, 53, 149, 173, 88]
set_option maxRecDepth 100000 in
theorem q_wsX6_init_r1 : wsX6_init_r1 = List.map zw zL_wsX6_init_r1 := zq_n _ (id rfl)
def zL_wsX6_init_r2 : List Nat := [55, 89]
set_option maxRecDepth 100000 in
theorem q_wsX6_init_r2 : wsX6_init_r2 = List.map zw zL_wsX6_init_r2 := zq_n _ (id rfl)
def zL_wsX6_init : List Nat := 353 :: (((((((zL_wsX6_init_r1 ++ zL_wsX6_init_r2) ++ zL_wsX60) ++ zL_wsX20) ++ zL_wsX30) ++ zL_wsX50) ++ zL_wsX70) ++ zL_wsX100)
set_option maxRecDepth 100000 in
theorem q_wsX6_init : wsX6_init = List.map zw zL_wsX6_init := zq_c (i := 353) rfl (zq_a (zq_a (zq_a (zq_a (zq_a (zq_a (zq_a q_wsX6_init_r1 q_wsX6_init_r2) q_wsX60) q_wsX20) q_wsX30) q_wsX50) q_wsX70) q_wsX100)
set_option maxRecDepth 100000 in
theorem k_wsX6_init : zm zL_wsX6_init = 11379568777253096643548852902437060142964087623359852488575906771381987633503229942922939780670365753226672357144479215984316880181526528 := by decide +kernel
def zL_wsX6_cost : List Nat := 867 :: (([358, 330, 334, 357] ++ zL_wsX60) ++ zL_wsX80)
set_option maxRecDepth 100000 in
theorem q_wsX6_cost : wsX6_cost = List.map zw zL_wsX6_cost := zq_c (i := 867) rfl (zq_a (zq_a (zq_n _ (id rfl) : ([.fieldLink RX6 22 "PageOne$Paid" "spot" "LPageOne$Piece;", .fieldLink RX6 26 "PageOne$Piece" "w" "I", .fieldLink RX6 31 "PageOne$Piece" "h" "I", .fieldLink RX6 19 "PageOne$Paid" "price" "I"] : List Cond) = List.map zw [358, 330, 334, 357]) q_wsX60) q_wsX80)
set_option maxRecDepth 100000 in
theorem k_wsX6_cost : zm zL_wsX6_cost = 984025245785089668542779581465789315325854953445720527559445628946039644175627938424082949548321194750581672402577714396421513631013567628805598204030457170830261369199398334694720947046219341735957293303908910176094623943629362654528181024648826204573292036096 := by decide +kernel
def zL_wsX6_columnsBy : List Nat := 483 :: (([358, 330] ++ zL_wsX60) ++ zL_wsX80)
set_option maxRecDepth 100000 in
theorem q_wsX6_columnsBy : wsX6_columnsBy = List.map zw zL_wsX6_columnsBy := zq_c (i := 483) rfl (zq_a (zq_a (zq_n _ (id rfl) : ([.fieldLink RX6 22 "PageOne$Paid" "spot" "LPageOne$Piece;", .fieldLink RX6 26 "PageOne$Piece" "w" "I"] : List Cond) = List.map zw [358, 330]) q_wsX60) q_wsX80)
set_option maxRecDepth 100000 in
theorem k_wsX6_columnsBy : zm zL_wsX6_columnsBy = 24973988402527937851052777838345405797216910817759030020410957866840240697528475149603361319955286209262503982733198412470159879617658647761387520 := by decide +kernel
def zL_wsX6_linesBy : List Nat := 505 :: (([358, 334] ++ zL_wsX60) ++ zL_wsX80)
set_option maxRecDepth 100000 in
theorem q_wsX6_linesBy : wsX6_linesBy = List.map zw zL_wsX6_linesBy := zq_c (i := 505) rfl (zq_a (zq_a (zq_n _ (id rfl) : ([.fieldLink RX6 22 "PageOne$Paid" "spot" "LPageOne$Piece;", .fieldLink RX6 31 "PageOne$Piece" "h" "I"] : List Cond) = List.map zw [358, 334]) q_wsX60) q_wsX80)
set_option maxRecDepth 100000 in
theorem k_wsX6_linesBy : zm zL_wsX6_linesBy = 104748499452676539840422070298483172871007896701503782511487009061957336909749779490935311892882891874365360262529552183535369506683255113756533539733504 := by decide +kernel
def zL_wsX8_startsWith : List Nat := 543 :: ([317, 322, 326] ++ zL_wsX80)
set_option maxRecDepth 100000 in
theorem q_wsX8_startsWith : wsX8_startsWith = List.map zw zL_wsX8_startsWith := zq_c (i := 543) rfl (zq_a (zq_n _ (id rfl) : ([.fieldLink RX8 15 "PageOne$Piece" "page" "I", .fieldLink RX8 19 "PageOne$Piece" "column" "I", .fieldLink RX8 22 "PageOne$Piece" "line" "I"] : List Cond) = List.map zw [317, 322, 326]) q_wsX80)
set_option maxRecDepth 100000 in
theorem k_wsX8_startsWith : zm zL_wsX8_startsWith = 28793048285076456849987446449190283896766061557132266451845599977754542808806487096583265226407611235092734397793865320021879006264092466751071859072430276773675008 := by decide +kernel
def zL_wsX6_maySit : List Nat := 539 :: (([358, 540, 541, 542, 62, 543, 317, 322, 326] ++ zL_wsX60) ++ zL_wsX80)
set_option maxRecDepth 100000 in
theorem q_wsX6_maySit : wsX6_maySit = List.map zw zL_wsX6_maySit := zq_c (i := 539) rfl (zq_a (zq_a (zq_n _ (id rfl) : ([.fieldLink RX6 22 "PageOne$Paid" "spot" "LPageOne$Piece;", .methodLink RX6 34 yX8_startsWith, .instanceMethod yX8_startsWith, .selects RX8 yX8_startsWith yX8_startsWith, .initialized RX8, .code yX8_startsWith cX8_startsWith 2 (some .boolean), .fieldLink RX8 15 "PageOne$Piece" "page" "I", .fieldLink RX8 19 "PageOne$Piece" "column" "I", .fieldLink RX8 22 "PageOne$Piece" "line" "I"] : List Cond) = List.map zw [358, 540, 541, 542, 62, 543, 317, 322, 326]) q_wsX60) q_wsX80)
set_option maxRecDepth 100000 in
theorem k_wsX6_maySit : zm zL_wsX6_maySit = 55786531052335635146850677495306175049984244266943841601677494774784310205903251856784029921273776189754071601995344073038542635973010465069711881284567530691624960 := by decide +kernel
def zL_wsX7_init : List Nat := 272 :: (((((([111, 274, 275, 276, 273, 167, 57, 168, 169, 74, 75, 194, 198, 181, 188, 171, 190, 148, 53, 149, 173, 88, 55, 89] ++ zL_wsX70) ++ zL_wsX20) ++ zL_wsX30) ++ zL_wsX50) ++ zL_wsX60) ++ zL_wsX100)
set_option maxRecDepth 100000 in
theorem q_wsX7_init : wsX7_init = List.map zw zL_wsX7_init := zq_c (i := 272) rfl (zq_a (zq_a (zq_a (zq_a (zq_a (zq_a (zq_n _ (id rfl) : ([.arrayClass .int, .fieldLink RX7 9 "PageOne$Picture" "widths" "[I", .fieldLink RX7 15 "PageOne$Picture" "heights" "[I", .fieldLink RX7 18 "PageOne$Picture" "sizes" "I", .methodLink RX7 3 yX4_init, .instanceMethod yX4_init, .initialized RX4, .code yX4_init cX4_init 4 none, .methodLink RX4 3 objectInit, .instanceMethod objectInit, .code objectInit ⟨#[0xb1]⟩ 1 none, .fieldLink RX4 9 "PageOne$Item" "count" "I", .fieldLink RX4 15 "PageOne$Item" "first" "[I", .fieldLink RX4 19 "PageOne$Item" "number" "I", .fieldLink RX4 22 "PageOne$Item" "kind" "I", .classLink RX4 29 RX8, .fieldLink RX4 31 "PageOne$Item" "pieces" "[LPageOne$Piece;", .static yX11_isWithin, .initialized RX11, .code yX11_isWithin cX11_isWithin 3 (some .boolean), .methodLink RX4 35 yJ7_fill_53178, .static yJ7_fill_53178, .initialized RJ7, .code yJ7_fill_53178 cJ7_fill_53178 4 none] : List Cond) = List.map zw [111, 274, 275, 276, 273, 167, 57, 168, 169, 74, 75, 194, 198, 181, 188, 171, 190, 148, 53, 149, 173, 88, 55, 89]) q_wsX70) q_wsX20) q_wsX30) q_wsX50) q_wsX60) q_wsX100)
set_option maxRecDepth 100000 in
theorem k_wsX7_init : zm zL_wsX7_init = 11379568777253096643548852899079378169154622930361610933098712658015196171014456657181602321036863829101852675501997339144401037551468544 := by decide +kernel
def zL_wsX7_takeSize : List Nat := 299 :: ([276, 274, 275] ++ zL_wsX70)
set_option maxRecDepth 100000 in
theorem q_wsX7_takeSize : wsX7_takeSize = List.map zw zL_wsX7_takeSize := zq_c (i := 299) rfl (zq_a (zq_n _ (id rfl) : ([.fieldLink RX7 18 "PageOne$Picture" "sizes" "I", .fieldLink RX7 9 "PageOne$Picture" "widths" "[I", .fieldLink RX7 15 "PageOne$Picture" "heights" "[I"] : List Cond) = List.map zw [276, 274, 275]) q_wsX70)
set_option maxRecDepth 100000 in
theorem k_wsX7_takeSize : zm zL_wsX7_takeSize = 1019005082037767203671739166161232783774091864060253589113344097079363777960804102791233536 := by decide +kernel
def zL_wsX7_columnsBy : List Nat := 486 :: ([276, 274, 148, 53, 149] ++ zL_wsX70)
set_option maxRecDepth 100000 in
theorem q_wsX7_columnsBy : wsX7_columnsBy = List.map zw zL_wsX7_columnsBy := zq_c (i := 486) rfl (zq_a (zq_n _ (id rfl) : ([.fieldLink RX7 18 "PageOne$Picture" "sizes" "I", .fieldLink RX7 9 "PageOne$Picture" "widths" "[I", .static yX11_isWithin, .initialized RX11, .code yX11_isWithin cX11_isWithin 3 (some .boolean)] : List Cond) = List.map zw [276, 274, 148, 53, 149]) q_wsX70)
set_option maxRecDepth 100000 in
theorem k_wsX7_columnsBy : zm zL_wsX7_columnsBy = 199791907220223502808422222706762643567910281130558153654986532449185912562948482543422949711076877989951431104715407609385420244308955648181141504 := by decide +kernel
def zL_wsX7_linesBy : List Nat := 508 :: ([276, 275, 148, 53, 149] ++ zL_wsX70)
set_option maxRecDepth 100000 in
theorem q_wsX7_linesBy : wsX7_linesBy = List.map zw zL_wsX7_linesBy := zq_c (i := 508) rfl (zq_a (zq_n _ (id rfl) : ([.fieldLink RX7 18 "PageOne$Picture" "sizes" "I", .fieldLink RX7 15 "PageOne$Picture" "heights" "[I", .static yX11_isWithin, .initialized RX11, .code yX11_isWithin cX11_isWithin 3 (some .boolean)] : List Cond) = List.map zw [276, 275, 148, 53, 149]) q_wsX70)
set_option maxRecDepth 100000 in
theorem k_wsX7_linesBy : zm zL_wsX7_linesBy = 837987995621412318723376562387865382967460363787024586107722590233097315395919405560616732475382873361501743146769751313423381312065363626536947972833280 := by decide +kernel
def zL_wsX8_init : List Nat := 313 :: ([314, 74, 75, 315, 317, 322, 326, 329, 333] ++ zL_wsX80)
set_option maxRecDepth 100000 in
theorem q_wsX8_init : wsX8_init = List.map zw zL_wsX8_init := zq_c (i := 313) rfl (zq_a (zq_n _ (id rfl) : ([.methodLink RX8 3 objectInit, .instanceMethod objectInit, .code objectInit ⟨#[0xb1]⟩ 1 none, .fieldLink RX8 9 "PageOne$Piece" "item" "LPageOne$Item;", .fieldLink RX8 15 "PageOne$Piece" "page" "I", .fieldLink RX8 19 "PageOne$Piece" "column" "I", .fieldLink RX8 22 "PageOne$Piece" "line" "I", .fieldLink RX8 25 "PageOne$Piece" "w" "I", .fieldLink RX8 28 "PageOne$Piece" "h" "I"] : List Cond) = List.map zw [314, 74, 75, 315, 317, 322, 326, 329, 333]) q_wsX80)
set_option maxRecDepth 100000 in
theorem k_wsX8_init : zm zL_wsX8_init = 764331630530264955593008477804743592047502216448067735203680300752736831457219577423006492629049278464000 := by decide +kernel
def zL_wsX8_sign : List Nat := 582 :: ((((((([315, 182] ++ zL_wsX80) ++ zL_wsX20) ++ zL_wsX30) ++ zL_wsX50) ++ zL_wsX60) ++ zL_wsX70) ++ zL_wsX100)
set_option maxRecDepth 100000 in
theorem q_wsX8_sign : wsX8_sign = List.map zw zL_wsX8_sign := zq_c (i := 582) rfl (zq_a (zq_a (zq_a (zq_a (zq_a (zq_a (zq_a (zq_n _ (id rfl) : ([.fieldLink RX8 9 "PageOne$Piece" "item" "LPageOne$Item;", .fieldLink RX8 31 "PageOne$Item" "number" "I"] : List Cond) = List.map zw [315, 182]) q_wsX80) q_wsX20) q_wsX30) q_wsX50) q_wsX60) q_wsX70) q_wsX100)
set_option maxRecDepth 100000 in
theorem k_wsX8_sign : zm zL_wsX8_sign = 15829145694278690179872161345257420162259785911254810851143584442844502549300087456755893003873026849650345014564422867953464997377918098319503610010865489221870483225486295040 := by decide +kernel
def zL_wsX8_isBehind : List Nat := 561 :: ([317, 322, 326, 333] ++ zL_wsX80)
set_option maxRecDepth 100000 in
theorem q_wsX8_isBehind : wsX8_isBehind = List.map zw zL_wsX8_isBehind := zq_c (i := 561) rfl (zq_a (zq_n _ (id rfl) : ([.fieldLink RX8 15 "PageOne$Piece" "page" "I", .fieldLink RX8 19 "PageOne$Piece" "column" "I", .fieldLink RX8 22 "PageOne$Piece" "line" "I", .fieldLink RX8 28 "PageOne$Piece" "h" "I"] : List Cond) = List.map zw [317, 322, 326, 333]) q_wsX80)
set_option maxRecDepth 100000 in
theorem k_wsX8_isBehind : zm zL_wsX8_isBehind = 7547924849643082704483109161976537781833842440832880856752412601255578861572388477232374971777969818763608908657544574830623808770804373818065204927613095085943075897344 := by decide +kernel
def zL_wsX9_init : List Nat := 85 :: ([86, 74, 75, 111, 90, 92, 93, 95, 97, 87, 88, 55, 89] ++ zL_wsX90)
set_option maxRecDepth 100000 in
theorem q_wsX9_init : wsX9_init = List.map zw zL_wsX9_init := zq_c (i := 85) rfl (zq_a (zq_n _ (id rfl) : ([.methodLink RX9 3 objectInit, .instanceMethod objectInit, .code objectInit ⟨#[0xb1]⟩ 1 none, .arrayClass .int, .fieldLink RX9 9 "PageOne$Sheet" "lines" "[I", .fieldLink RX9 15 "PageOne$Sheet" "cells" "[I", .fieldLink RX9 18 "PageOne$Sheet" "measure" "I", .fieldLink RX9 22 "PageOne$Sheet" "day" "I", .fieldLink RX9 25 "PageOne$Sheet" "edition" "I", .methodLink RX9 28 yJ7_fill_53178, .static yJ7_fill_53178, .initialized RJ7, .code yJ7_fill_53178 cJ7_fill_53178 4 none] : List Cond) = List.map zw [86, 74, 75, 111, 90, 92, 93, 95, 97, 87, 88, 55, 89]) q_wsX90)
set_option maxRecDepth 100000 in
theorem k_wsX9_init : zm zL_wsX9_init = 2812498219544204789543367679672320 := by decide +kernel
def zL_wsX11_isColumn : List Nat := 152 :: [147, 148, 53, 149]
set_option maxRecDepth 100000 in
theorem q_wsX11_isColumn : wsX11_isColumn = List.map zw zL_wsX11_isColumn := zq_c (i := 152) rfl (zq_n _ (id rfl) : ([.methodLink RX11 55 yX11_isWithin, .static yX11_isWithin, .initialized RX11, .code yX11_isWithin cX11_isWithin 3 (some .boolean)] : List Cond) = List.map zw [147, 148, 53, 149])
set_option maxRecDepth 100000 in
theorem k_wsX11_isColumn : zm zL_wsX11_isColumn = 6957832501941554420159144101075295989120630784 := by decide +kernel
def zL_wsX9_at : List Nat := 424 :: ([90, 92, 151, 53, 152, 147, 148, 149] ++ zL_wsX90)
set_option maxRecDepth 100000 in
theorem q_wsX9_at : wsX9_at = List.map zw zL_wsX9_at := zq_c (i := 424) rfl (zq_a (zq_n _ (id rfl) : ([.fieldLink RX9 9 "PageOne$Sheet" "lines" "[I", .fieldLink RX9 15 "PageOne$Sheet" "cells" "[I", .static yX11_isColumn, .initialized RX11, .code yX11_isColumn cX11_isColumn 1 (some .boolean), .methodLink RX11 55 yX11_isWithin, .static yX11_isWithin, .code yX11_isWithin cX11_isWithin 3 (some .boolean)] : List Cond) = List.map zw [90, 92, 151, 53, 152, 147, 148, 149]) q_wsX90)
set_option maxRecDepth 100000 in
theorem k_wsX9_at : zm zL_wsX9_at = 43322963970637732180912721627235682866194329302747133987038743447103457934462900369811927982730871230664492820786073634105982976 := by decide +kernel
def zL_wsX11_isSquare : List Nat := 295 :: [147, 148, 53, 149]
set_option maxRecDepth 100000 in
theorem q_wsX11_isSquare : wsX11_isSquare = List.map zw zL_wsX11_isSquare := zq_c (i := 295) rfl (zq_n _ (id rfl) : ([.methodLink RX11 55 yX11_isWithin, .static yX11_isWithin, .initialized RX11, .code yX11_isWithin cX11_isWithin 3 (some .boolean)] : List Cond) = List.map zw [147, 148, 53, 149])
set_option maxRecDepth 100000 in
theorem k_wsX11_isSquare : zm zL_wsX11_isSquare = 63657374260452690195888927762793067532858388550902238950094284968324638894919715657875456 := by decide +kernel
def zL_wsX9_isFree : List Nat := 526 :: (([331, 335, 323, 327, 294, 53, 295, 147, 148, 149, 151, 152, 421, 422, 423, 54, 424, 90, 92] ++ zL_wsX80) ++ zL_wsX90)
set_option maxRecDepth 100000 in
theorem q_wsX9_isFree : wsX9_isFree = List.map zw zL_wsX9_isFree := zq_c (i := 526) rfl (zq_a (zq_a (zq_n _ (id rfl) : ([.fieldLink RX9 42 "PageOne$Piece" "w" "I", .fieldLink RX9 47 "PageOne$Piece" "h" "I", .fieldLink RX9 54 "PageOne$Piece" "column" "I", .fieldLink RX9 57 "PageOne$Piece" "line" "I", .static yX11_isSquare, .initialized RX11, .code yX11_isSquare cX11_isSquare 2 (some .boolean), .methodLink RX11 55 yX11_isWithin, .static yX11_isWithin, .code yX11_isWithin cX11_isWithin 3 (some .boolean), .static yX11_isColumn, .code yX11_isColumn cX11_isColumn 1 (some .boolean), .methodLink RX9 60 yX9_at, .instanceMethod yX9_at, .selects RX9 yX9_at yX9_at, .initialized RX9, .code yX9_at cX9_at 3 (some .int), .fieldLink RX9 9 "PageOne$Sheet" "lines" "[I", .fieldLink RX9 15 "PageOne$Sheet" "cells" "[I"] : List Cond) = List.map zw [331, 335, 323, 327, 294, 53, 295, 147, 148, 149, 151, 152, 421, 422, 423, 54, 424, 90, 92]) q_wsX80) q_wsX90)
set_option maxRecDepth 100000 in
theorem k_wsX9_isFree : zm zL_wsX9_isFree = 219673525124179510879420825570685813510066875352424985218061447886366786224156084265838548073042628592291462702529621828186416353684868411637809489013534359552 := by decide +kernel
def zL_wsX9_mark : List Nat := 586 :: (([323, 331, 327, 335, 92, 421, 422, 423, 54, 424, 90, 151, 53, 152, 147, 148, 149] ++ zL_wsX80) ++ zL_wsX90)
set_option maxRecDepth 100000 in
theorem q_wsX9_mark : wsX9_mark = List.map zw zL_wsX9_mark := zq_c (i := 586) rfl (zq_a (zq_a (zq_n _ (id rfl) : ([.fieldLink RX9 54 "PageOne$Piece" "column" "I", .fieldLink RX9 42 "PageOne$Piece" "w" "I", .fieldLink RX9 57 "PageOne$Piece" "line" "I", .fieldLink RX9 47 "PageOne$Piece" "h" "I", .fieldLink RX9 15 "PageOne$Sheet" "cells" "[I", .methodLink RX9 60 yX9_at, .instanceMethod yX9_at, .selects RX9 yX9_at yX9_at, .initialized RX9, .code yX9_at cX9_at 3 (some .int), .fieldLink RX9 9 "PageOne$Sheet" "lines" "[I", .static yX11_isColumn, .initialized RX11, .code yX11_isColumn cX11_isColumn 1 (some .boolean), .methodLink RX11 55 yX11_isWithin, .static yX11_isWithin, .code yX11_isWithin cX11_isWithin 3 (some .boolean)] : List Cond) = List.map zw [323, 331, 327, 335, 92, 421, 422, 423, 54, 424, 90, 151, 53, 152, 147, 148, 149]) q_wsX80) q_wsX90)
set_option maxRecDepth 100000 in
theorem k_wsX9_mark : zm zL_wsX9_mark = 253266331108459042877954581524118722595974501479722154629445515186965970626527249174833303556082577988229361278724965326912479245551394519243531431434710926958619511970018099200 := by decide +kernel
def zL_wsX9_emptyIn : List Nat := 687 :: ([90, 421, 422, 423, 54, 424, 92, 151, 53, 152, 147, 148, 149] ++ zL_wsX90)
set_option maxRecDepth 100000 in
theorem q_wsX9_emptyIn : wsX9_emptyIn = List.map zw zL_wsX9_emptyIn := zq_c (i := 687) rfl (zq_a (zq_n _ (id rfl) : ([.fieldLink RX9 9 "PageOne$Sheet" "lines" "[I", .methodLink RX9 60 yX9_at, .instanceMethod yX9_at, .selects RX9 yX9_at yX9_at, .initialized RX9, .code yX9_at cX9_at 3 (some .int), .fieldLink RX9 15 "PageOne$Sheet" "cells" "[I", .static yX11_isColumn, .initialized RX11, .code yX11_isColumn cX11_isColumn 1 (some .boolean), .methodLink RX11 55 yX11_isWithin, .static yX11_isWithin, .code yX11_isWithin cX11_isWithin 3 (some .boolean)] : List Cond) = List.map zw [90, 421, 422, 423, 54, 424, 92, 151, 53, 152, 147, 148, 149]) q_wsX90)
set_option maxRecDepth 100000 in
theorem k_wsX9_emptyIn : zm zL_wsX9_emptyIn = 642106433294479187895628647812515706243937964211813215270786243050382343053842955023729629549945648199021870507356816706288760064228740817654682895479218042004984576120112645644718294583146779975647129239552 := by decide +kernel
def zL_wsX9_emptyCount : List Nat := 683 :: ([684, 685, 686, 54, 687, 90, 421, 422, 423, 424, 92, 151, 53, 152, 147, 148, 149] ++ zL_wsX90)
set_option maxRecDepth 100000 in
theorem q_wsX9_emptyCount : wsX9_emptyCount = List.map zw zL_wsX9_emptyCount := zq_c (i := 683) rfl (zq_a (zq_n _ (id rfl) : ([.methodLink RX9 64 yX9_emptyIn, .instanceMethod yX9_emptyIn, .selects RX9 yX9_emptyIn yX9_emptyIn, .initialized RX9, .code yX9_emptyIn cX9_emptyIn 4 (some .int), .fieldLink RX9 9 "PageOne$Sheet" "lines" "[I", .methodLink RX9 60 yX9_at, .instanceMethod yX9_at, .selects RX9 yX9_at yX9_at, .code yX9_at cX9_at 3 (some .int), .fieldLink RX9 15 "PageOne$Sheet" "cells" "[I", .static yX11_isColumn, .initialized RX11, .code yX11_isColumn cX11_isColumn 1 (some .boolean), .methodLink RX11 55 yX11_isWithin, .static yX11_isWithin, .code yX11_isWithin cX11_isWithin 3 (some .boolean)] : List Cond) = List.map zw [684, 685, 686, 54, 687, 90, 421, 422, 423, 424, 92, 151, 53, 152, 147, 148, 149]) q_wsX90)
set_option maxRecDepth 100000 in
theorem k_wsX9_emptyCount : zm zL_wsX9_emptyCount = 1244081214508053426547780505136749180847629805660388104587148345910115789666820649204828552616381094124961388732780044136214995139246723742664732498443834533317609355378281201651149541289268917114543299100672 := by decide +kernel
def zL_wsX9_cellCount : List Nat := 679 :: ([90] ++ zL_wsX90)
set_option maxRecDepth 100000 in
theorem q_wsX9_cellCount : wsX9_cellCount = List.map zw zL_wsX9_cellCount := zq_c (i := 679) rfl (zq_a (zq_n _ (id rfl) : ([.fieldLink RX9 9 "PageOne$Sheet" "lines" "[I"] : List Cond) = List.map zw [90]) q_wsX90)
set_option maxRecDepth 100000 in
theorem k_wsX9_cellCount : zm zL_wsX9_cellCount = 2508228255056559327717299405517639477515382672702395372151508761915556027554073725754578846110147691358081325939263447624692646145908262187541873345685902047135936580242369199495795473561240573541529681920 := by decide +kernel
def zL_wsX9_spotOf : List Nat := 420 :: ([90, 421, 422, 423, 54, 424, 92, 151, 53, 152, 147, 148, 149] ++ zL_wsX90)
set_option maxRecDepth 100000 in
theorem q_wsX9_spotOf : wsX9_spotOf = List.map zw zL_wsX9_spotOf := zq_c (i := 420) rfl (zq_a (zq_n _ (id rfl) : ([.fieldLink RX9 9 "PageOne$Sheet" "lines" "[I", .methodLink RX9 60 yX9_at, .instanceMethod yX9_at, .selects RX9 yX9_at yX9_at, .initialized RX9, .code yX9_at cX9_at 3 (some .int), .fieldLink RX9 15 "PageOne$Sheet" "cells" "[I", .static yX11_isColumn, .initialized RX11, .code yX11_isColumn cX11_isColumn 1 (some .boolean), .methodLink RX11 55 yX11_isWithin, .static yX11_isWithin, .code yX11_isWithin cX11_isWithin 3 (some .boolean)] : List Cond) = List.map zw [90, 421, 422, 423, 54, 424, 92, 151, 53, 152, 147, 148, 149]) q_wsX90)
set_option maxRecDepth 100000 in
theorem k_wsX9_spotOf : zm zL_wsX9_spotOf = 83938242693110606100518398152769135553251513024072572099887565428762949748021869457311553072146978331700496887621523166828953600 := by decide +kernel
def zL_wsX9_clear : List Nat := 816 :: ([92, 87, 88, 55, 89] ++ zL_wsX90)
set_option maxRecDepth 100000 in
theorem q_wsX9_clear : wsX9_clear = List.map zw zL_wsX9_clear := zq_c (i := 816) rfl (zq_a (zq_n _ (id rfl) : ([.fieldLink RX9 15 "PageOne$Sheet" "cells" "[I", .methodLink RX9 28 yJ7_fill_53178, .static yJ7_fill_53178, .initialized RJ7, .code yJ7_fill_53178 cJ7_fill_53178 4 none] : List Cond) = List.map zw [92, 87, 88, 55, 89]) q_wsX90)
set_option maxRecDepth 100000 in
theorem k_wsX9_clear : zm zL_wsX9_clear = 436994993873214129706097166956708350993678881411295357199729151951767944417616335439228580716318181998128654620651240845861768505204366709906692902245553277900892247131030458103436298545516643924637451297481464347688225325680662032390540916424704 := by decide +kernel
def zL_wsX9_copyFrom : List Nat := 775 :: ([90, 776, 778, 777, 67, 92] ++ zL_wsX90)
set_option maxRecDepth 100000 in
theorem q_wsX9_copyFrom : wsX9_copyFrom = List.map zw zL_wsX9_copyFrom := zq_c (i := 775) rfl (zq_a (zq_n _ (id rfl) : ([.fieldLink RX9 9 "PageOne$Sheet" "lines" "[I", .methodLink RX9 68 arraycopyName, .native arraycopyName, .static arraycopyName, .initialized "java/lang/System", .fieldLink RX9 15 "PageOne$Sheet" "cells" "[I"] : List Cond) = List.map zw [90, 776, 778, 777, 67, 92]) q_wsX90)
set_option maxRecDepth 100000 in
theorem k_wsX9_copyFrom : zm zL_wsX9_copyFrom = 2980834737217361155486040617848004906093221152864057493386979913010017829157843621755286544951001237664936442938491660555849433684700443631573031568079067787272553553960031818656509348412669014064504958668076237040971379768478899634176 := by decide +kernel
def zL_wsX10_init_r1 : List Nat := [111, 176, 177, 110, 179, 174, 166, 167, 57, 168, 169, 74, 75, 194, 198, 181, 188, 171, 190, 148, 53, 149, 173, 88]
set_option maxRecDepth 100000 in
theorem q_wsX10_init_r1 : wsX10_init_r1 = List.map zw zL_wsX10_init_r1 := zq_n _ (id rfl)
def zL_wsX10_init_r2 : List Nat := [55, 89]
set_option maxRecDepth 100000 in
theorem q_wsX10_init_r2 : wsX10_init_r2 = List.map zw zL_wsX10_init_r2 := zq_n _ (id rfl)
def zL_wsX10_init : List Nat := 165 :: (((((((zL_wsX10_init_r1 ++ zL_wsX10_init_r2) ++ zL_wsX100) ++ zL_wsX20) ++ zL_wsX30) ++ zL_wsX50) ++ zL_wsX60) ++ zL_wsX70)
set_option maxRecDepth 100000 in
theorem q_wsX10_init : wsX10_init = List.map zw zL_wsX10_init := zq_c (i := 165) rfl (zq_a (zq_a (zq_a (zq_a (zq_a (zq_a (zq_a q_wsX10_init_r1 q_wsX10_init_r2) q_wsX100) q_wsX20) q_wsX30) q_wsX50) q_wsX60) q_wsX70)
set_option maxRecDepth 100000 in
theorem k_wsX10_init : zm zL_wsX10_init = 11379568777253096643548852899079378169154622930361610697853651490055816489360866378848785951136422532846490905338973962132905789875027968 := by decide +kernel
def zL_wsX10_takeIn : List Nat := 237 :: ([177, 176] ++ zL_wsX100)
set_option maxRecDepth 100000 in
theorem q_wsX10_takeIn : wsX10_takeIn = List.map zw zL_wsX10_takeIn := zq_c (i := 237) rfl (zq_a (zq_n _ (id rfl) : ([.fieldLink RX10 15 "PageOne$Story" "come" "I", .fieldLink RX10 9 "PageOne$Story" "widths" "[I"] : List Cond) = List.map zw [177, 176]) q_wsX100)
set_option maxRecDepth 100000 in
theorem k_wsX10_takeIn : zm zL_wsX10_takeIn = 220857006424124004643889238562735702325660522641093739567480292327292928 := by decide +kernel
def zL_wsX10_linesBy : List Nat := 511 :: [148, 53, 149]
set_option maxRecDepth 100000 in
theorem q_wsX10_linesBy : wsX10_linesBy = List.map zw zL_wsX10_linesBy := zq_c (i := 511) rfl (zq_n _ (id rfl) : ([.static yX11_isWithin, .initialized RX11, .code yX11_isWithin cX11_isWithin 3 (some .boolean)] : List Cond) = List.map zw [148, 53, 149])
set_option maxRecDepth 100000 in
theorem k_wsX10_linesBy : zm zL_wsX10_linesBy = 6703903964971298549787012499102923063739682910296196688861780721860882015036773488400937149083451713845015930163678794956346852199687762069345376044843008 := by decide +kernel
def zL_wsX10_canTake : List Nat := 557 :: ([177, 176] ++ zL_wsX100)
set_option maxRecDepth 100000 in
theorem q_wsX10_canTake : wsX10_canTake = List.map zw zL_wsX10_canTake := zq_c (i := 557) rfl (zq_a (zq_n _ (id rfl) : ([.fieldLink RX10 15 "PageOne$Story" "come" "I", .fieldLink RX10 9 "PageOne$Story" "widths" "[I"] : List Cond) = List.map zw [177, 176]) q_wsX100)
set_option maxRecDepth 100000 in
theorem k_wsX10_canTake : zm zL_wsX10_canTake = 471745303102692669030194322623533611364615152552055053547025787530703020299018606510765840647207345943806873704808926589522292949628446304105710922798889284973340131328 := by decide +kernel
def zL_wsX10_takenBy : List Nat := 565 :: ((((((([195, 196, 191, 192, 336, 319, 148, 53, 149] ++ zL_wsX20) ++ zL_wsX30) ++ zL_wsX50) ++ zL_wsX60) ++ zL_wsX70) ++ zL_wsX100) ++ zL_wsX80)
set_option maxRecDepth 100000 in
theorem q_wsX10_takenBy : wsX10_takenBy = List.map zw zL_wsX10_takenBy := zq_c (i := 565) rfl (zq_a (zq_a (zq_a (zq_a (zq_a (zq_a (zq_a (zq_n _ (id rfl) : ([.fieldLink RX10 49 "PageOne$Story" "count" "I", .sameField "PageOne$Story" "PageOne$Item" "count" "I", .fieldLink RX10 60 "PageOne$Story" "pieces" "[LPageOne$Piece;", .sameField "PageOne$Story" "PageOne$Item" "pieces" "[LPageOne$Piece;", .fieldLink RX10 34 "PageOne$Piece" "h" "I", .fieldLink RX10 42 "PageOne$Piece" "page" "I", .static yX11_isWithin, .initialized RX11, .code yX11_isWithin cX11_isWithin 3 (some .boolean)] : List Cond) = List.map zw [195, 196, 191, 192, 336, 319, 148, 53, 149]) q_wsX20) q_wsX30) q_wsX50) q_wsX60) q_wsX70) q_wsX100) q_wsX80)
set_option maxRecDepth 100000 in
theorem k_wsX10_takenBy : zm zL_wsX10_takenBy = 120766797594289323271729746591624615888910256306422737256891500688002595229554248945943095118920598607904647547658332889148651195768109661930262182979435728719077261180928 := by decide +kernel
def zL_wsX10_takenBefore : List Nat := 573 :: ((((((([195, 196, 562, 563, 564, 58, 565, 191, 192, 336, 319, 148, 53, 149] ++ zL_wsX20) ++ zL_wsX30) ++ zL_wsX50) ++ zL_wsX60) ++ zL_wsX70) ++ zL_wsX100) ++ zL_wsX80)
set_option maxRecDepth 100000 in
theorem q_wsX10_takenBefore : wsX10_takenBefore = List.map zw zL_wsX10_takenBefore := zq_c (i := 573) rfl (zq_a (zq_a (zq_a (zq_a (zq_a (zq_a (zq_a (zq_n _ (id rfl) : ([.fieldLink RX10 49 "PageOne$Story" "count" "I", .sameField "PageOne$Story" "PageOne$Item" "count" "I", .methodLink RX10 52 yX10_takenBy, .instanceMethod yX10_takenBy, .selects RX10 yX10_takenBy yX10_takenBy, .initialized RX10, .code yX10_takenBy cX10_takenBy 3 (some .int), .fieldLink RX10 60 "PageOne$Story" "pieces" "[LPageOne$Piece;", .sameField "PageOne$Story" "PageOne$Item" "pieces" "[LPageOne$Piece;", .fieldLink RX10 34 "PageOne$Piece" "h" "I", .fieldLink RX10 42 "PageOne$Piece" "page" "I", .static yX11_isWithin, .initialized RX11, .code yX11_isWithin cX11_isWithin 3 (some .boolean)] : List Cond) = List.map zw [195, 196, 562, 563, 564, 58, 565, 191, 192, 336, 319, 148, 53, 149]) q_wsX20) q_wsX30) q_wsX50) q_wsX60) q_wsX70) q_wsX100) q_wsX80)
set_option maxRecDepth 100000 in
theorem k_wsX10_takenBefore : zm zL_wsX10_takenBefore = 31142737929627359238697308402315194899226002688129563058509307288707033210093017813093904776079275667798774690300537137965262856853749905101585251729756197495747483000635392 := by decide +kernel
def zL_wsX10_standing : List Nat := 569 :: ((((((([195, 196, 570, 571, 572, 58, 573, 562, 563, 564, 565, 191, 192, 336, 319, 148, 53, 149] ++ zL_wsX20) ++ zL_wsX30) ++ zL_wsX50) ++ zL_wsX60) ++ zL_wsX70) ++ zL_wsX100) ++ zL_wsX80)
set_option maxRecDepth 100000 in
theorem q_wsX10_standing : wsX10_standing = List.map zw zL_wsX10_standing := zq_c (i := 569) rfl (zq_a (zq_a (zq_a (zq_a (zq_a (zq_a (zq_a (zq_n _ (id rfl) : ([.fieldLink RX10 49 "PageOne$Story" "count" "I", .sameField "PageOne$Story" "PageOne$Item" "count" "I", .methodLink RX10 64 yX10_takenBefore, .instanceMethod yX10_takenBefore, .selects RX10 yX10_takenBefore yX10_takenBefore, .initialized RX10, .code yX10_takenBefore cX10_takenBefore 4 (some .int), .methodLink RX10 52 yX10_takenBy, .instanceMethod yX10_takenBy, .selects RX10 yX10_takenBy yX10_takenBy, .code yX10_takenBy cX10_takenBy 3 (some .int), .fieldLink RX10 60 "PageOne$Story" "pieces" "[LPageOne$Piece;", .sameField "PageOne$Story" "PageOne$Item" "pieces" "[LPageOne$Piece;", .fieldLink RX10 34 "PageOne$Piece" "h" "I", .fieldLink RX10 42 "PageOne$Piece" "page" "I", .static yX11_isWithin, .initialized RX11, .code yX11_isWithin cX11_isWithin 3 (some .boolean)] : List Cond) = List.map zw [195, 196, 570, 571, 572, 58, 573, 562, 563, 564, 565, 191, 192, 336, 319, 148, 53, 149]) q_wsX20) q_wsX30) q_wsX50) q_wsX60) q_wsX70) q_wsX100) q_wsX80)
set_option maxRecDepth 100000 in
theorem k_wsX10_standing : zm zL_wsX10_standing = 60126769352256796823912447584305099981467957660927825548438571674593426777264720997115358025443695002517251810536803466795500946811572312519657066780759303110974839111811072 := by decide +kernel
def zL_wsX10_maySit_r1 : List Nat := [336, 319, 195, 196, 548, 549, 551, 552, 57, 553, 194, 190, 554, 555, 556, 58, 557, 177, 176, 558, 559, 560, 62, 561]
set_option maxRecDepth 100000 in
theorem q_wsX10_maySit_r1 : wsX10_maySit_r1 = List.map zw zL_wsX10_maySit_r1 := zq_n _ (id rfl)
def zL_wsX10_maySit_r2 : List Nat := [317, 322, 326, 333, 562, 563, 564, 565, 191, 192, 148, 53, 149, 566, 567, 568, 569, 570, 571, 572, 573]
set_option maxRecDepth 100000 in
theorem q_wsX10_maySit_r2 : wsX10_maySit_r2 = List.map zw zL_wsX10_maySit_r2 := zq_n _ (id rfl)
def zL_wsX10_maySit : List Nat := 547 :: ((((((((zL_wsX10_maySit_r1 ++ zL_wsX10_maySit_r2) ++ zL_wsX80) ++ zL_wsX20) ++ zL_wsX30) ++ zL_wsX50) ++ zL_wsX60) ++ zL_wsX70) ++ zL_wsX100)
set_option maxRecDepth 100000 in
theorem q_wsX10_maySit : wsX10_maySit = List.map zw zL_wsX10_maySit := zq_c (i := 547) rfl (zq_a (zq_a (zq_a (zq_a (zq_a (zq_a (zq_a (zq_a q_wsX10_maySit_r1 q_wsX10_maySit_r2) q_wsX80) q_wsX20) q_wsX30) q_wsX50) q_wsX60) q_wsX70) q_wsX100)
set_option maxRecDepth 100000 in
theorem k_wsX10_maySit : zm zL_wsX10_maySit = 61832596222077180464115843856719508836761524918243192395018247856648113197239977846501273413539279122773953227316288855538305074179967845905779654258924225990742829323780096 := by decide +kernel
def zL_wsX11_init_r1 : List Nat := [73, 74, 75, 76, 112, 113, 78, 114, 115, 80, 116, 117, 110, 118, 119, 120, 82, 54, 83, 84, 85, 86, 111, 90]
set_option maxRecDepth 100000 in
theorem q_wsX11_init_r1 : wsX11_init_r1 = List.map zw zL_wsX11_init_r1 := zq_n _ (id rfl)
def zL_wsX11_init_r2 : List Nat := [92, 93, 95, 97, 87, 88, 55, 89]
set_option maxRecDepth 100000 in
theorem q_wsX11_init_r2 : wsX11_init_r2 = List.map zw zL_wsX11_init_r2 := zq_n _ (id rfl)
def zL_wsX11_init : List Nat := 72 :: (((zL_wsX11_init_r1 ++ zL_wsX11_init_r2) ++ zL_wsX110) ++ zL_wsX90)
set_option maxRecDepth 100000 in
theorem q_wsX11_init : wsX11_init = List.map zw zL_wsX11_init := zq_c (i := 72) rfl (zq_a (zq_a (zq_a q_wsX11_init_r1 q_wsX11_init_r2) q_wsX110) q_wsX90)
set_option maxRecDepth 100000 in
theorem k_wsX11_init : zm zL_wsX11_init = 232301200373630648706050210145154700935168 := by decide +kernel
def zL_wsX11_isPage : List Nat := 146 :: [147, 148, 53, 149]
set_option maxRecDepth 100000 in
theorem q_wsX11_isPage : wsX11_isPage = List.map zw zL_wsX11_isPage := zq_c (i := 146) rfl (zq_n _ (id rfl) : ([.methodLink RX11 55 yX11_isWithin, .static yX11_isWithin, .initialized RX11, .code yX11_isWithin cX11_isWithin 3 (some .boolean)] : List Cond) = List.map zw [147, 148, 53, 149])
set_option maxRecDepth 100000 in
theorem k_wsX11_isPage : zm zL_wsX11_isPage = 1338044711911837388492143096367908889613565952 := by decide +kernel
def zL_wsX11_column : List Nat := 143 :: (([117, 112, 91, 144, 145, 53, 146, 147, 148, 149, 150, 151, 152] ++ zL_wsX110) ++ zL_wsX90)
set_option maxRecDepth 100000 in
theorem q_wsX11_column : wsX11_column = List.map zw zL_wsX11_column := zq_c (i := 143) rfl (zq_a (zq_a (zq_n _ (id rfl) : ([.fieldLink RX11 34 "PageOne" "actCount" "I", .fieldLink RX11 11 "PageOne" "pages" "[LPageOne$Sheet;", .fieldLink RX11 59 "PageOne$Sheet" "lines" "[I", .methodLink RX11 48 yX11_isPage, .static yX11_isPage, .initialized RX11, .code yX11_isPage cX11_isPage 1 (some .boolean), .methodLink RX11 55 yX11_isWithin, .static yX11_isWithin, .code yX11_isWithin cX11_isWithin 3 (some .boolean), .methodLink RX11 52 yX11_isColumn, .static yX11_isColumn, .code yX11_isColumn cX11_isColumn 1 (some .boolean)] : List Cond) = List.map zw [117, 112, 91, 144, 145, 53, 146, 147, 148, 149, 150, 151, 152]) q_wsX110) q_wsX90)
set_option maxRecDepth 100000 in
theorem k_wsX11_column : zm zL_wsX11_column = 11407063467762975033598168615023334939701542912 := by decide +kernel
def zL_wsX11_measure : List Nat := 156 :: (([117, 112, 94, 144, 145, 53, 146, 147, 148, 149] ++ zL_wsX110) ++ zL_wsX90)
set_option maxRecDepth 100000 in
theorem q_wsX11_measure : wsX11_measure = List.map zw zL_wsX11_measure := zq_c (i := 156) rfl (zq_a (zq_a (zq_n _ (id rfl) : ([.fieldLink RX11 34 "PageOne" "actCount" "I", .fieldLink RX11 11 "PageOne" "pages" "[LPageOne$Sheet;", .fieldLink RX11 63 "PageOne$Sheet" "measure" "I", .methodLink RX11 48 yX11_isPage, .static yX11_isPage, .initialized RX11, .code yX11_isPage cX11_isPage 1 (some .boolean), .methodLink RX11 55 yX11_isWithin, .static yX11_isWithin, .code yX11_isWithin cX11_isWithin 3 (some .boolean)] : List Cond) = List.map zw [117, 112, 94, 144, 145, 53, 146, 147, 148, 149]) q_wsX110) q_wsX90)
set_option maxRecDepth 100000 in
theorem k_wsX11_measure : zm zL_wsX11_measure = 92749031579403422959680861564503557381352849408 := by decide +kernel
def zL_wsX11_enter : List Nat := 225 :: ((((((([115, 114, 183] ++ zL_wsX110) ++ zL_wsX20) ++ zL_wsX30) ++ zL_wsX50) ++ zL_wsX60) ++ zL_wsX70) ++ zL_wsX100)
set_option maxRecDepth 100000 in
theorem q_wsX11_enter : wsX11_enter = List.map zw zL_wsX11_enter := zq_c (i := 225) rfl (zq_a (zq_a (zq_a (zq_a (zq_a (zq_a (zq_a (zq_n _ (id rfl) : ([.fieldLink RX11 24 "PageOne" "itemCount" "I", .fieldLink RX11 20 "PageOne" "items" "[LPageOne$Item;", .fieldLink RX11 285 "PageOne$Item" "number" "I"] : List Cond) = List.map zw [115, 114, 183]) q_wsX110) q_wsX20) q_wsX30) q_wsX50) q_wsX60) q_wsX70) q_wsX100)
set_option maxRecDepth 100000 in
theorem k_wsX11_enter : zm zL_wsX11_enter = 11379568777253096643548852899079378169154622930361610697853651490055870409253771883717098413100217913854413718715564768037636019960414208 := by decide +kernel
def zL_wsX11_story_r1 : List Nat := [161, 162, 58, 115, 147, 148, 53, 149, 163, 164, 165, 111, 176, 177, 110, 179, 174, 166, 167, 57, 168, 169, 74, 75]
set_option maxRecDepth 100000 in
theorem q_wsX11_story_r1 : wsX11_story_r1 = List.map zw zL_wsX11_story_r1 := zq_n _ (id rfl)
def zL_wsX11_story_r2 : List Nat := [194, 198, 181, 188, 171, 190, 173, 88, 55, 89, 222, 224, 0, 225, 114, 183]
set_option maxRecDepth 100000 in
theorem q_wsX11_story_r2 : wsX11_story_r2 = List.map zw zL_wsX11_story_r2 := zq_n _ (id rfl)
def zL_wsX11_story : List Nat := 160 :: ((((((((zL_wsX11_story_r1 ++ zL_wsX11_story_r2) ++ zL_wsX100) ++ zL_wsX110) ++ zL_wsX20) ++ zL_wsX30) ++ zL_wsX50) ++ zL_wsX60) ++ zL_wsX70)
set_option maxRecDepth 100000 in
theorem q_wsX11_story : wsX11_story = List.map zw zL_wsX11_story := zq_c (i := 160) rfl (zq_a (zq_a (zq_a (zq_a (zq_a (zq_a (zq_a (zq_a q_wsX11_story_r1 q_wsX11_story_r2) q_wsX100) q_wsX110) q_wsX20) q_wsX30) q_wsX50) q_wsX60) q_wsX70)
set_option maxRecDepth 100000 in
theorem k_wsX11_story : zm zL_wsX11_story = 11379568777253096643548852899079378169154622930361610697853651490055904109187534630688128252591961731696972668393118985858243625714974721 := by decide +kernel
def zL_wsX11_itemOf : List Nat := 233 :: ([115, 114, 147, 148, 53, 149] ++ zL_wsX110)
set_option maxRecDepth 100000 in
theorem q_wsX11_itemOf : wsX11_itemOf = List.map zw zL_wsX11_itemOf := zq_c (i := 233) rfl (zq_a (zq_n _ (id rfl) : ([.fieldLink RX11 24 "PageOne" "itemCount" "I", .fieldLink RX11 20 "PageOne" "items" "[LPageOne$Item;", .methodLink RX11 55 yX11_isWithin, .static yX11_isWithin, .initialized RX11, .code yX11_isWithin cX11_isWithin 3 (some .boolean)] : List Cond) = List.map zw [115, 114, 147, 148, 53, 149]) q_wsX110)
set_option maxRecDepth 100000 in
theorem k_wsX11_itemOf : zm zL_wsX11_itemOf = 13803492693581127574869512973628080627924039640539343059475161566674944 := by decide +kernel
def zL_wsX11_line : List Nat := 229 :: (([161, 230, 232, 1, 53, 233, 115, 114, 147, 148, 149, 234, 235, 236, 58, 237, 177, 176] ++ zL_wsX110) ++ zL_wsX100)
set_option maxRecDepth 100000 in
theorem q_wsX11_line : wsX11_line = List.map zw zL_wsX11_line := zq_c (i := 229) rfl (zq_a (zq_a (zq_n _ (id rfl) : ([.classLink RX11 66 "PageOne$Story", .methodLink RX11 75 yX11_itemOf, .instanceMethod yX11_itemOf, .selects RX11 yX11_itemOf yX11_itemOf, .initialized RX11, .code yX11_itemOf cX11_itemOf 2 (some (.object "PageOne$Item")), .fieldLink RX11 24 "PageOne" "itemCount" "I", .fieldLink RX11 20 "PageOne" "items" "[LPageOne$Item;", .methodLink RX11 55 yX11_isWithin, .static yX11_isWithin, .code yX11_isWithin cX11_isWithin 3 (some .boolean), .methodLink RX11 79 yX10_takeIn, .instanceMethod yX10_takeIn, .selects RX10 yX10_takeIn yX10_takeIn, .initialized RX10, .code yX10_takeIn cX10_takeIn 2 (some .int), .fieldLink RX10 15 "PageOne$Story" "come" "I", .fieldLink RX10 9 "PageOne$Story" "widths" "[I"] : List Cond) = List.map zw [161, 230, 232, 1, 53, 233, 115, 114, 147, 148, 149, 234, 235, 236, 58, 237, 177, 176]) q_wsX110) q_wsX100)
set_option maxRecDepth 100000 in
theorem k_wsX11_line : zm zL_wsX11_line = 437399298054677943474657627994026067425172295708803620539124290984869890 := by decide +kernel
def zL_wsX11_head_r1 : List Nat := [161, 242, 243, 59, 115, 230, 232, 1, 53, 233, 114, 147, 148, 149, 244, 245, 246, 248, 250, 251, 247, 167, 57, 168]
set_option maxRecDepth 100000 in
theorem q_wsX11_head_r1 : wsX11_head_r1 = List.map zw zL_wsX11_head_r1 := zq_n _ (id rfl)
def zL_wsX11_head_r2 : List Nat := [169, 74, 75, 194, 111, 198, 181, 188, 171, 190, 173, 88, 55, 89, 222, 224, 0, 225, 183]
set_option maxRecDepth 100000 in
theorem q_wsX11_head_r2 : wsX11_head_r2 = List.map zw zL_wsX11_head_r2 := zq_n _ (id rfl)
def zL_wsX11_head : List Nat := 241 :: ((((((((zL_wsX11_head_r1 ++ zL_wsX11_head_r2) ++ zL_wsX30) ++ zL_wsX110) ++ zL_wsX20) ++ zL_wsX50) ++ zL_wsX60) ++ zL_wsX70) ++ zL_wsX100)
set_option maxRecDepth 100000 in
theorem q_wsX11_head : wsX11_head = List.map zw zL_wsX11_head := zq_c (i := 241) rfl (zq_a (zq_a (zq_a (zq_a (zq_a (zq_a (zq_a (zq_a q_wsX11_head_r1 q_wsX11_head_r2) q_wsX30) q_wsX110) q_wsX20) q_wsX50) q_wsX60) q_wsX70) q_wsX100)
set_option maxRecDepth 100000 in
theorem k_wsX11_head : zm zL_wsX11_head = 11379568777253096643548852899079378169154622930361610697853657818924520820987272529291220255402491292065471092735996347027649674822549507 := by decide +kernel
def zL_wsX11_picture_r1 : List Nat := [268, 269, 60, 115, 270, 271, 272, 111, 274, 275, 276, 273, 167, 57, 168, 169, 74, 75, 194, 198, 181, 188, 171, 190]
set_option maxRecDepth 100000 in
theorem q_wsX11_picture_r1 : wsX11_picture_r1 = List.map zw zL_wsX11_picture_r1 := zq_n _ (id rfl)
def zL_wsX11_picture_r2 : List Nat := [148, 53, 149, 173, 88, 55, 89, 222, 224, 0, 225, 114, 183]
set_option maxRecDepth 100000 in
theorem q_wsX11_picture_r2 : wsX11_picture_r2 = List.map zw zL_wsX11_picture_r2 := zq_n _ (id rfl)
def zL_wsX11_picture : List Nat := 267 :: ((((((((zL_wsX11_picture_r1 ++ zL_wsX11_picture_r2) ++ zL_wsX70) ++ zL_wsX110) ++ zL_wsX20) ++ zL_wsX30) ++ zL_wsX50) ++ zL_wsX60) ++ zL_wsX100)
set_option maxRecDepth 100000 in
theorem q_wsX11_picture : wsX11_picture = List.map zw zL_wsX11_picture := zq_c (i := 267) rfl (zq_a (zq_a (zq_a (zq_a (zq_a (zq_a (zq_a (zq_a q_wsX11_picture_r1 q_wsX11_picture_r2) q_wsX70) q_wsX110) q_wsX20) q_wsX30) q_wsX50) q_wsX60) q_wsX100)
set_option maxRecDepth 100000 in
theorem k_wsX11_picture : zm zL_wsX11_picture = 11379568777253096643548852899079378169154622930361610940450120819514014405892799605252477209551644594825813268931125506274022550470131713 := by decide +kernel
def zL_wsX11_size : List Nat := 292 :: (([268, 230, 232, 1, 53, 233, 115, 114, 147, 148, 149, 293, 294, 295, 296, 297, 298, 60, 299, 276, 274, 275] ++ zL_wsX110) ++ zL_wsX70)
set_option maxRecDepth 100000 in
theorem q_wsX11_size : wsX11_size = List.map zw zL_wsX11_size := zq_c (i := 292) rfl (zq_a (zq_a (zq_n _ (id rfl) : ([.classLink RX11 88 "PageOne$Picture", .methodLink RX11 75 yX11_itemOf, .instanceMethod yX11_itemOf, .selects RX11 yX11_itemOf yX11_itemOf, .initialized RX11, .code yX11_itemOf cX11_itemOf 2 (some (.object "PageOne$Item")), .fieldLink RX11 24 "PageOne" "itemCount" "I", .fieldLink RX11 20 "PageOne" "items" "[LPageOne$Item;", .methodLink RX11 55 yX11_isWithin, .static yX11_isWithin, .code yX11_isWithin cX11_isWithin 3 (some .boolean), .methodLink RX11 93 yX11_isSquare, .static yX11_isSquare, .code yX11_isSquare cX11_isSquare 2 (some .boolean), .methodLink RX11 97 yX7_takeSize, .instanceMethod yX7_takeSize, .selects RX7 yX7_takeSize yX7_takeSize, .initialized RX7, .code yX7_takeSize cX7_takeSize 3 (some .int), .fieldLink RX7 18 "PageOne$Picture" "sizes" "I", .fieldLink RX7 9 "PageOne$Picture" "widths" "[I", .fieldLink RX7 15 "PageOne$Picture" "heights" "[I"] : List Cond) = List.map zw [268, 230, 232, 1, 53, 233, 115, 114, 147, 148, 149, 293, 294, 295, 296, 297, 298, 60, 299, 276, 274, 275]) q_wsX110) q_wsX70)
set_option maxRecDepth 100000 in
theorem k_wsX11_size : zm zL_wsX11_size = 2029565898896738058069953706477588817762967390848932370586318574287634467393033922332852226 := by decide +kernel
def zL_wsX11_isBuyer : List Nat := 306 :: [147, 148, 53, 149]
set_option maxRecDepth 100000 in
theorem q_wsX11_isBuyer : wsX11_isBuyer = List.map zw zL_wsX11_isBuyer := zq_c (i := 306) rfl (zq_n _ (id rfl) : ([.methodLink RX11 55 yX11_isWithin, .static yX11_isWithin, .initialized RX11, .code yX11_isWithin cX11_isWithin 3 (some .boolean)] : List Cond) = List.map zw [147, 148, 53, 149])
set_option maxRecDepth 100000 in
theorem k_wsX11_isBuyer : zm zL_wsX11_isBuyer = 130370302485407109521180524058200202307293977195868761771830703654606403408130864639327076352 := by decide +kernel
def zL_wsX11_paid_r1 : List Nat := [307, 308, 61, 115, 309, 310, 62, 304, 305, 53, 306, 147, 148, 149, 144, 145, 146, 293, 294, 295, 311, 312, 313, 314]
set_option maxRecDepth 100000 in
theorem q_wsX11_paid_r1 : wsX11_paid_r1 = List.map zw zL_wsX11_paid_r1 := zq_n _ (id rfl)
def zL_wsX11_paid_r2 : List Nat := [74, 75, 315, 317, 322, 326, 329, 333, 351, 352, 353, 110, 360, 355, 357, 358, 354, 167, 57, 168, 169, 194, 111, 198]
set_option maxRecDepth 100000 in
theorem q_wsX11_paid_r2 : wsX11_paid_r2 = List.map zw zL_wsX11_paid_r2 := zq_n _ (id rfl)
def zL_wsX11_paid_r3 : List Nat := [181, 188, 171, 190, 173, 88, 55, 89, 222, 224, 0, 225, 114, 183]
set_option maxRecDepth 100000 in
theorem q_wsX11_paid_r3 : wsX11_paid_r3 = List.map zw zL_wsX11_paid_r3 := zq_n _ (id rfl)
def zL_wsX11_paid : List Nat := 303 :: (((((((((zL_wsX11_paid_r1 ++ (zL_wsX11_paid_r2 ++ zL_wsX11_paid_r3)) ++ zL_wsX60) ++ zL_wsX110) ++ zL_wsX80) ++ zL_wsX20) ++ zL_wsX30) ++ zL_wsX50) ++ zL_wsX70) ++ zL_wsX100)
set_option maxRecDepth 100000 in
theorem q_wsX11_paid : wsX11_paid = List.map zw zL_wsX11_paid := zq_c (i := 303) rfl (zq_a (zq_a (zq_a (zq_a (zq_a (zq_a (zq_a (zq_a (zq_a q_wsX11_paid_r1 (zq_a q_wsX11_paid_r2 q_wsX11_paid_r3)) q_wsX60) q_wsX110) q_wsX80) q_wsX20) q_wsX30) q_wsX50) q_wsX70) q_wsX100)
set_option maxRecDepth 100000 in
theorem k_wsX11_paid : zm zL_wsX11_paid = 11379568777253096643548852902451585466290574988598941148815446265421221711417113862639701928869208279444493743465971509365788812842631169 := by decide +kernel
def zL_wsX11_filler_r1 : List Nat := [380, 381, 63, 115, 147, 148, 53, 149, 382, 383, 384, 386, 388, 385, 167, 57, 168, 169, 74, 75, 194, 111, 198, 181]
set_option maxRecDepth 100000 in
theorem q_wsX11_filler_r1 : wsX11_filler_r1 = List.map zw zL_wsX11_filler_r1 := zq_n _ (id rfl)
def zL_wsX11_filler_r2 : List Nat := [188, 171, 190, 173, 88, 55, 89, 222, 224, 0, 225, 114, 183]
set_option maxRecDepth 100000 in
theorem q_wsX11_filler_r2 : wsX11_filler_r2 = List.map zw zL_wsX11_filler_r2 := zq_n _ (id rfl)
def zL_wsX11_filler : List Nat := 379 :: ((((((((zL_wsX11_filler_r1 ++ zL_wsX11_filler_r2) ++ zL_wsX20) ++ zL_wsX110) ++ zL_wsX30) ++ zL_wsX50) ++ zL_wsX60) ++ zL_wsX70) ++ zL_wsX100)
set_option maxRecDepth 100000 in
theorem q_wsX11_filler : wsX11_filler = List.map zw zL_wsX11_filler := zq_c (i := 379) rfl (zq_a (zq_a (zq_a (zq_a (zq_a (zq_a (zq_a (zq_a q_wsX11_filler_r1 q_wsX11_filler_r2) q_wsX20) q_wsX110) q_wsX30) q_wsX50) q_wsX60) q_wsX70) q_wsX100)
set_option maxRecDepth 100000 in
theorem k_wsX11_filler : zm zL_wsX11_filler = 11379568777253096644493269735099208342773936172761927941244156490694872784009920287143421358423266370334185667036441996976414278260097025 := by decide +kernel
def zL_wsX11_hasPlate : List Nat := 416 :: ([113, 144, 145, 53, 146, 147, 148, 149] ++ zL_wsX110)
set_option maxRecDepth 100000 in
theorem q_wsX11_hasPlate : wsX11_hasPlate = List.map zw zL_wsX11_hasPlate := zq_c (i := 416) rfl (zq_a (zq_n _ (id rfl) : ([.fieldLink RX11 15 "PageOne" "plates" "[LPageOne$Sheet;", .methodLink RX11 48 yX11_isPage, .static yX11_isPage, .initialized RX11, .code yX11_isPage cX11_isPage 1 (some .boolean), .methodLink RX11 55 yX11_isWithin, .static yX11_isWithin, .code yX11_isWithin cX11_isWithin 3 (some .boolean)] : List Cond) = List.map zw [113, 144, 145, 53, 146, 147, 148, 149]) q_wsX110)
set_option maxRecDepth 100000 in
theorem k_wsX11_hasPlate : zm zL_wsX11_hasPlate = 169230328010303641331690318856389386196071598838855992136870091590247882556495705936427683933380328022583671850789660094627840 := by decide +kernel
def zL_wsX11_isFresh : List Nat := 412 :: (([113, 96, 119, 98, 120, 413, 415, 4, 53, 416, 144, 145, 146, 147, 148, 149] ++ zL_wsX110) ++ zL_wsX90)
set_option maxRecDepth 100000 in
theorem q_wsX11_isFresh : wsX11_isFresh = List.map zw zL_wsX11_isFresh := zq_c (i := 412) rfl (zq_a (zq_a (zq_n _ (id rfl) : ([.fieldLink RX11 15 "PageOne" "plates" "[LPageOne$Sheet;", .fieldLink RX11 210 "PageOne$Sheet" "day" "I", .fieldLink RX11 41 "PageOne" "today" "I", .fieldLink RX11 213 "PageOne$Sheet" "edition" "I", .fieldLink RX11 44 "PageOne" "editionNow" "I", .methodLink RX11 272 yX11_hasPlate, .instanceMethod yX11_hasPlate, .selects RX11 yX11_hasPlate yX11_hasPlate, .initialized RX11, .code yX11_hasPlate cX11_hasPlate 2 (some .boolean), .methodLink RX11 48 yX11_isPage, .static yX11_isPage, .code yX11_isPage cX11_isPage 1 (some .boolean), .methodLink RX11 55 yX11_isWithin, .static yX11_isWithin, .code yX11_isWithin cX11_isWithin 3 (some .boolean)] : List Cond) = List.map zw [113, 96, 119, 98, 120, 413, 415, 4, 53, 416, 144, 145, 146, 147, 148, 149]) q_wsX110) q_wsX90)
set_option maxRecDepth 100000 in
theorem k_wsX11_isFresh : zm zL_wsX11_isFresh = 285576178517387394747227413070157089205870823040569486730968279558543301814086502801660986964828742401285018957547517192962064 := by decide +kernel
def zL_wsX11_plateFact : List Nat := 430 :: (([113, 96, 98] ++ zL_wsX110) ++ zL_wsX90)
set_option maxRecDepth 100000 in
theorem q_wsX11_plateFact : wsX11_plateFact = List.map zw zL_wsX11_plateFact := zq_c (i := 430) rfl (zq_a (zq_a (zq_n _ (id rfl) : ([.fieldLink RX11 15 "PageOne" "plates" "[LPageOne$Sheet;", .fieldLink RX11 210 "PageOne$Sheet" "day" "I", .fieldLink RX11 213 "PageOne$Sheet" "edition" "I"] : List Cond) = List.map zw [113, 96, 98]) q_wsX110) q_wsX90)
set_option maxRecDepth 100000 in
theorem k_wsX11_plateFact : zm zL_wsX11_plateFact = 2772669694120814859578414184143083703436437075375816575170479580614621307805625623039974638402693178585144212516224744690827657216 := by decide +kernel
def zL_wsX11_firstPrinting_r1 : List Nat := [202, 113, 183, 147, 148, 53, 149, 409, 411, 3, 412, 96, 119, 98, 120, 413, 415, 4, 416, 144, 145, 146, 417, 418]
set_option maxRecDepth 100000 in
theorem q_wsX11_firstPrinting_r1 : wsX11_firstPrinting_r1 = List.map zw zL_wsX11_firstPrinting_r1 := zq_n _ (id rfl)
def zL_wsX11_firstPrinting_r2 : List Nat := [419, 54, 420, 90, 421, 422, 423, 424, 92, 151, 152, 427, 429, 5, 430]
set_option maxRecDepth 100000 in
theorem q_wsX11_firstPrinting_r2 : wsX11_firstPrinting_r2 = List.map zw zL_wsX11_firstPrinting_r2 := zq_n _ (id rfl)
def zL_wsX11_firstPrinting : List Nat := 408 :: (((((((((zL_wsX11_firstPrinting_r1 ++ zL_wsX11_firstPrinting_r2) ++ zL_wsX20) ++ zL_wsX30) ++ zL_wsX50) ++ zL_wsX60) ++ zL_wsX70) ++ zL_wsX100) ++ zL_wsX110) ++ zL_wsX90)
set_option maxRecDepth 100000 in
theorem q_wsX11_firstPrinting : wsX11_firstPrinting = List.map zw zL_wsX11_firstPrinting := zq_c (i := 408) rfl (zq_a (zq_a (zq_a (zq_a (zq_a (zq_a (zq_a (zq_a (zq_a q_wsX11_firstPrinting_r1 q_wsX11_firstPrinting_r2) q_wsX20) q_wsX30) q_wsX50) q_wsX60) q_wsX70) q_wsX100) q_wsX110) q_wsX90)
set_option maxRecDepth 100000 in
theorem k_wsX11_firstPrinting : zm zL_wsX11_firstPrinting = 11379573369441664669301936922500188499882745545212356865925318712031981115459472388086677727236316883108591070102861141895533562274250808 := by decide +kernel
def zL_wsX11_hasNotice : List Nat := 434 :: (([115, 114, 404, 441] ++ zL_wsX110) ++ zL_wsX50)
set_option maxRecDepth 100000 in
theorem q_wsX11_hasNotice : wsX11_hasNotice = List.map zw zL_wsX11_hasNotice := zq_c (i := 434) rfl (zq_a (zq_a (zq_n _ (id rfl) : ([.fieldLink RX11 24 "PageOne" "itemCount" "I", .fieldLink RX11 20 "PageOne" "items" "[LPageOne$Item;", .classLink RX11 119 "PageOne$Notice", .fieldLink RX11 288 "PageOne$Notice" "mended" "LPageOne$Item;"] : List Cond) = List.map zw [115, 114, 404, 441]) q_wsX110) q_wsX50)
set_option maxRecDepth 100000 in
theorem k_wsX11_hasNotice : zm zL_wsX11_hasNotice = 11385291567501802058031070104660076810444842407574388341985918068352477723454401698723585414370906140330840652333030506366742342899073024 := by decide +kernel
def zL_wsX11_notice_r1 : List Nat := [404, 404, 435, 64, 115, 230, 232, 1, 53, 233, 114, 147, 148, 149, 405, 407, 2, 408, 202, 113, 183, 409, 411, 3]
set_option maxRecDepth 100000 in
theorem q_wsX11_notice_r1 : wsX11_notice_r1 = List.map zw zL_wsX11_notice_r1 := zq_n _ (id rfl)
def zL_wsX11_notice_r2 : List Nat := [412, 96, 119, 98, 120, 413, 415, 4, 416, 144, 145, 146, 417, 418, 419, 54, 420, 90, 421, 422, 423, 424, 92, 151]
set_option maxRecDepth 100000 in
theorem q_wsX11_notice_r2 : wsX11_notice_r2 = List.map zw zL_wsX11_notice_r2 := zq_n _ (id rfl)
def zL_wsX11_notice_r3 : List Nat := [152, 427, 429, 5, 430, 431, 433, 6, 434, 441, 436, 437, 438, 440, 442, 439, 167, 57, 168, 169, 74, 75, 194, 111]
set_option maxRecDepth 100000 in
theorem q_wsX11_notice_r3 : wsX11_notice_r3 = List.map zw zL_wsX11_notice_r3 := zq_n _ (id rfl)
def zL_wsX11_notice_r4 : List Nat := [198, 181, 188, 171, 190, 173, 88, 55, 89, 222, 224, 0, 225]
set_option maxRecDepth 100000 in
theorem q_wsX11_notice_r4 : wsX11_notice_r4 = List.map zw zL_wsX11_notice_r4 := zq_n _ (id rfl)
def zL_wsX11_notice : List Nat := 403 :: (((((((((zL_wsX11_notice_r1 ++ (zL_wsX11_notice_r2 ++ (zL_wsX11_notice_r3 ++ zL_wsX11_notice_r4))) ++ zL_wsX50) ++ zL_wsX110) ++ zL_wsX20) ++ zL_wsX30) ++ zL_wsX60) ++ zL_wsX70) ++ zL_wsX100) ++ zL_wsX90)
set_option maxRecDepth 100000 in
theorem q_wsX11_notice : wsX11_notice = List.map zw zL_wsX11_notice := zq_c (i := 403) rfl (zq_a (zq_a (zq_a (zq_a (zq_a (zq_a (zq_a (zq_a (zq_a q_wsX11_notice_r1 (zq_a q_wsX11_notice_r2 (zq_a q_wsX11_notice_r3 q_wsX11_notice_r4))) q_wsX50) q_wsX110) q_wsX20) q_wsX30) q_wsX60) q_wsX70) q_wsX100) q_wsX90)
set_option maxRecDepth 100000 in
theorem k_wsX11_notice : zm zL_wsX11_notice = 11402270443558212793720013812192080472206724773296259966275544835027771542260939098081394647450704555003742158765696359829025884089614463 := by decide +kernel
def zL_wsX11_areRivals : List Nat := 460 :: ([118] ++ zL_wsX110)
set_option maxRecDepth 100000 in
theorem q_wsX11_areRivals : wsX11_areRivals = List.map zw zL_wsX11_areRivals := zq_c (i := 460) rfl (zq_a (zq_n _ (id rfl) : ([.fieldLink RX11 37 "PageOne" "rivals" "[Z"] : List Cond) = List.map zw [118]) q_wsX110)
set_option maxRecDepth 100000 in
theorem k_wsX11_areRivals : zm zL_wsX11_areRivals = 2977131414714805823690030317109266572712515013375254774912983855843898524112477893944078543723575796835758594861680274199113148749454508032 := by decide +kernel
def zL_wsX11_rival : List Nat := 456 :: ([118, 304, 305, 53, 306, 147, 148, 149, 457, 459, 7, 460] ++ zL_wsX110)
set_option maxRecDepth 100000 in
theorem q_wsX11_rival : wsX11_rival = List.map zw zL_wsX11_rival := zq_c (i := 456) rfl (zq_a (zq_n _ (id rfl) : ([.fieldLink RX11 37 "PageOne" "rivals" "[Z", .methodLink RX11 101 yX11_isBuyer, .static yX11_isBuyer, .initialized RX11, .code yX11_isBuyer cX11_isBuyer 1 (some .boolean), .methodLink RX11 55 yX11_isWithin, .static yX11_isWithin, .code yX11_isWithin cX11_isWithin 3 (some .boolean), .methodLink RX11 132 yX11_areRivals, .instanceMethod yX11_areRivals, .selects RX11 yX11_areRivals yX11_areRivals, .code yX11_areRivals cX11_areRivals 3 (some .boolean)] : List Cond) = List.map zw [118, 304, 305, 53, 306, 147, 148, 149, 457, 459, 7, 460]) q_wsX110)
set_option maxRecDepth 100000 in
theorem k_wsX11_rival : zm zL_wsX11_rival = 5023909262331234827476926160121887341452369085298890462015122698398644676541656800068397002625367699257231300928542537056717613471763529856 := by decide +kernel
def zL_wsX11_names : List Nat := 464 :: (([161, 180, 230, 232, 1, 53, 233, 115, 114, 147, 148, 149, 304, 305, 306] ++ zL_wsX100) ++ zL_wsX110)
set_option maxRecDepth 100000 in
theorem q_wsX11_names : wsX11_names = List.map zw zL_wsX11_names := zq_c (i := 464) rfl (zq_a (zq_a (zq_n _ (id rfl) : ([.classLink RX11 66 "PageOne$Story", .fieldLink RX11 135 "PageOne$Story" "named" "[Z", .methodLink RX11 75 yX11_itemOf, .instanceMethod yX11_itemOf, .selects RX11 yX11_itemOf yX11_itemOf, .initialized RX11, .code yX11_itemOf cX11_itemOf 2 (some (.object "PageOne$Item")), .fieldLink RX11 24 "PageOne" "itemCount" "I", .fieldLink RX11 20 "PageOne" "items" "[LPageOne$Item;", .methodLink RX11 55 yX11_isWithin, .static yX11_isWithin, .code yX11_isWithin cX11_isWithin 3 (some .boolean), .methodLink RX11 101 yX11_isBuyer, .static yX11_isBuyer, .code yX11_isBuyer cX11_isBuyer 1 (some .boolean)] : List Cond) = List.map zw [161, 180, 230, 232, 1, 53, 233, 115, 114, 147, 148, 149, 304, 305, 306]) q_wsX100) q_wsX110)
set_option maxRecDepth 100000 in
theorem k_wsX11_names : zm zL_wsX11_names = 47634102635436893179040485073748265163400240214232224427957204135164464734700450552440021455226522047270893052644267627965929336108082003970 := by decide +kernel
def zL_wsX11_canAct : List Nat := 472 :: ([117] ++ zL_wsX110)
set_option maxRecDepth 100000 in
theorem q_wsX11_canAct : wsX11_canAct = List.map zw zL_wsX11_canAct := zq_c (i := 472) rfl (zq_a (zq_n _ (id rfl) : ([.fieldLink RX11 34 "PageOne" "actCount" "I"] : List Cond) = List.map zw [117]) q_wsX110)
set_option maxRecDepth 100000 in
theorem k_wsX11_canAct : zm zL_wsX11_canAct = 12194330274671844653834364178879555881830461494785043558043581873536608354764709453594945715091765512575372658845857561580242897441815978311680 := by decide +kernel
def zL_wsX11_stand_r1 : List Nat := [112, 321, 316, 579, 580, 581, 62, 582, 315, 182, 583, 584, 585, 54, 586, 323, 331, 327, 335, 92, 421, 422, 423, 424]
set_option maxRecDepth 100000 in
theorem q_wsX11_stand_r1 : wsX11_stand_r1 = List.map zw zL_wsX11_stand_r1 := zq_n _ (id rfl)
def zL_wsX11_stand_r2 : List Nat := [90, 151, 53, 152, 147, 148, 149, 587, 589, 590, 588, 57, 596, 190, 194, 597, 515, 516, 514, 522, 517, 518, 519, 520]
set_option maxRecDepth 100000 in
theorem q_wsX11_stand_r2 : wsX11_stand_r2 = List.map zw zL_wsX11_stand_r2 := zq_n _ (id rfl)
def zL_wsX11_stand_r3 : List Nat := [521, 591, 592, 593, 594, 595]
set_option maxRecDepth 100000 in
theorem q_wsX11_stand_r3 : wsX11_stand_r3 = List.map zw zL_wsX11_stand_r3 := zq_n _ (id rfl)
def zL_wsX11_stand : List Nat := 578 :: ((((((((((zL_wsX11_stand_r1 ++ (zL_wsX11_stand_r2 ++ zL_wsX11_stand_r3)) ++ zL_wsX110) ++ zL_wsX80) ++ zL_wsX20) ++ zL_wsX30) ++ zL_wsX50) ++ zL_wsX60) ++ zL_wsX70) ++ zL_wsX100) ++ zL_wsX90)
set_option maxRecDepth 100000 in
theorem q_wsX11_stand : wsX11_stand = List.map zw zL_wsX11_stand := zq_c (i := 578) rfl (zq_a (zq_a (zq_a (zq_a (zq_a (zq_a (zq_a (zq_a (zq_a (zq_a q_wsX11_stand_r1 (zq_a q_wsX11_stand_r2 q_wsX11_stand_r3)) q_wsX110) q_wsX80) q_wsX20) q_wsX30) q_wsX50) q_wsX60) q_wsX70) q_wsX100) q_wsX90)
set_option maxRecDepth 100000 in
theorem k_wsX11_stand : zm zL_wsX11_stand = 1037377902898642347209993129472115011832822958221878011384693332488776860407886285208336630783788646968475044392052419920704712053547911795546422249438424020026110730911766875734016 := by decide +kernel
def zL_wsX11_keep : List Nat := 623 :: ([116, 117, 469, 471, 8, 53, 472] ++ zL_wsX110)
set_option maxRecDepth 100000 in
theorem q_wsX11_keep : wsX11_keep = List.map zw zL_wsX11_keep := zq_c (i := 623) rfl (zq_a (zq_n _ (id rfl) : ([.fieldLink RX11 30 "PageOne" "acts" "[LPageOne$Act;", .fieldLink RX11 34 "PageOne" "actCount" "I", .methodLink RX11 138 yX11_canAct, .instanceMethod yX11_canAct, .selects RX11 yX11_canAct yX11_canAct, .initialized RX11, .code yX11_canAct cX11_canAct 1 (some .boolean)] : List Cond) = List.map zw [116, 117, 469, 471, 8, 53, 472]) q_wsX110)
set_option maxRecDepth 100000 in
theorem k_wsX11_keep : zm zL_wsX11_keep = 34808659497239648579720852704622583960672214583174550815140518603582489489720090888128253677479762247417151641707639267034406285564194608666061259118241029177719862231293077312682250469632 := by decide +kernel
def zL_wsX11_put_r1 : List Nat := [309, 310, 62, 112, 94, 119, 80, 598, 65, 197, 230, 232, 1, 53, 233, 115, 114, 147, 148, 149, 144, 145, 146, 469]
set_option maxRecDepth 100000 in
theorem q_wsX11_put_r1 : wsX11_put_r1 = List.map zw zL_wsX11_put_r1 := zq_n _ (id rfl)
def zL_wsX11_put_r2 : List Nat := [471, 8, 472, 117, 473, 475, 476, 474, 57, 489, 474, 477, 478, 59, 479, 250, 480, 481, 482, 61, 483, 358, 330, 484]
set_option maxRecDepth 100000 in
theorem q_wsX11_put_r2 : wsX11_put_r2 = List.map zw zL_wsX11_put_r2 := zq_n _ (id rfl)
def zL_wsX11_put_r3 : List Nat := [485, 60, 486, 276, 274, 488, 490, 492, 493, 494, 63, 495, 386, 388, 497, 498, 499, 251, 500, 501, 64, 502, 442, 503]
set_option maxRecDepth 100000 in
theorem q_wsX11_put_r3 : wsX11_put_r3 = List.map zw zL_wsX11_put_r3 := zq_n _ (id rfl)
def zL_wsX11_put_r4 : List Nat := [504, 505, 334, 506, 507, 508, 275, 509, 510, 58, 511, 311, 312, 313, 314, 74, 75, 315, 317, 322, 326, 329, 333, 513]
set_option maxRecDepth 100000 in
theorem q_wsX11_put_r4 : wsX11_put_r4 = List.map zw zL_wsX11_put_r4 := zq_n _ (id rfl)
def zL_wsX11_put_r5 : List Nat := [515, 516, 514, 522, 194, 190, 517, 518, 519, 520, 521, 523, 524, 525, 54, 526, 331, 335, 323, 327, 294, 295, 151, 152]
set_option maxRecDepth 100000 in
theorem q_wsX11_put_r5 : wsX11_put_r5 = List.map zw zL_wsX11_put_r5 := zq_n _ (id rfl)
def zL_wsX11_put_r6 : List Nat := [421, 422, 423, 424, 90, 92, 528, 530, 531, 529, 574, 532, 529, 533, 534, 535, 199, 200, 440, 201, 318, 324, 537, 538]
set_option maxRecDepth 100000 in
theorem q_wsX11_put_r6 : wsX11_put_r6 = List.map zw zL_wsX11_put_r6 := zq_n _ (id rfl)
def zL_wsX11_put_r7 : List Nat := [539, 540, 541, 542, 543, 544, 545, 546, 547, 336, 319, 195, 196, 548, 549, 551, 552, 553, 554, 555, 556, 557, 177, 176]
set_option maxRecDepth 100000 in
theorem q_wsX11_put_r7 : wsX11_put_r7 = List.map zw zL_wsX11_put_r7 := zq_n _ (id rfl)
def zL_wsX11_put_r8 : List Nat := [558, 559, 560, 561, 562, 563, 564, 565, 191, 192, 566, 567, 568, 569, 570, 571, 572, 573, 575, 577, 9, 578, 321, 316]
set_option maxRecDepth 100000 in
theorem q_wsX11_put_r8 : wsX11_put_r8 = List.map zw zL_wsX11_put_r8 := zq_n _ (id rfl)
def zL_wsX11_put_r9 : List Nat := [579, 580, 581, 582, 182, 583, 584, 585, 586, 587, 589, 590, 588, 596, 597, 591, 592, 593, 594, 595, 599, 600, 601, 602]
set_option maxRecDepth 100000 in
theorem q_wsX11_put_r9 : wsX11_put_r9 = List.map zw zL_wsX11_put_r9 := zq_n _ (id rfl)
def zL_wsX11_put_r10 : List Nat := [603, 605, 607, 609, 620, 622, 10, 623, 116]
set_option maxRecDepth 100000 in
theorem q_wsX11_put_r10 : wsX11_put_r10 = List.map zw zL_wsX11_put_r10 := zq_n _ (id rfl)
def zL_wsX11_put : List Nat := 468 :: (((((((((((zL_wsX11_put_r1 ++ (zL_wsX11_put_r2 ++ (zL_wsX11_put_r3 ++ (zL_wsX11_put_r4 ++ (zL_wsX11_put_r5 ++ (zL_wsX11_put_r6 ++ (zL_wsX11_put_r7 ++ (zL_wsX11_put_r8 ++ (zL_wsX11_put_r9 ++ zL_wsX11_put_r10))))))))) ++ zL_wsX80) ++ zL_wsX110) ++ zL_wsX90) ++ zL_wsX00) ++ zL_wsX20) ++ zL_wsX30) ++ zL_wsX50) ++ zL_wsX60) ++ zL_wsX70) ++ zL_wsX100)
set_option maxRecDepth 100000 in
theorem q_wsX11_put : wsX11_put = List.map zw zL_wsX11_put := zq_c (i := 468) rfl (zq_a (zq_a (zq_a (zq_a (zq_a (zq_a (zq_a (zq_a (zq_a (zq_a (zq_a q_wsX11_put_r1 (zq_a q_wsX11_put_r2 (zq_a q_wsX11_put_r3 (zq_a q_wsX11_put_r4 (zq_a q_wsX11_put_r5 (zq_a q_wsX11_put_r6 (zq_a q_wsX11_put_r7 (zq_a q_wsX11_put_r8 (zq_a q_wsX11_put_r9 q_wsX11_put_r10))))))))) q_wsX80) q_wsX110) q_wsX90) q_wsX00) q_wsX20) q_wsX30) q_wsX50) q_wsX60) q_wsX70) q_wsX100)
set_option maxRecDepth 100000 in
theorem k_wsX11_put : zm zL_wsX11_put = 57289274219956374989014523302433675313707185881706426524991921550635766955541211882682714151545213985634597954452401665554214179189302825244756759671581365476835779351785123920925455025922 := by decide +kernel
def zL_wsX11_takeOff_r1 : List Nat := [112, 321, 316, 583, 584, 585, 54, 586, 323, 331, 327, 335, 92, 421, 422, 423, 424, 90, 151, 53, 152, 147, 148, 149]
set_option maxRecDepth 100000 in
theorem q_wsX11_takeOff_r1 : wsX11_takeOff_r1 = List.map zw zL_wsX11_takeOff_r1 := zq_n _ (id rfl)
def zL_wsX11_takeOff_r2 : List Nat := [633, 635, 636, 634, 57, 642, 194, 190, 637, 638, 639, 640, 641]
set_option maxRecDepth 100000 in
theorem q_wsX11_takeOff_r2 : wsX11_takeOff_r2 = List.map zw zL_wsX11_takeOff_r2 := zq_n _ (id rfl)
def zL_wsX11_takeOff : List Nat := 632 :: ((((((((((zL_wsX11_takeOff_r1 ++ zL_wsX11_takeOff_r2) ++ zL_wsX110) ++ zL_wsX80) ++ zL_wsX90) ++ zL_wsX20) ++ zL_wsX30) ++ zL_wsX50) ++ zL_wsX60) ++ zL_wsX70) ++ zL_wsX100)
set_option maxRecDepth 100000 in
theorem q_wsX11_takeOff : wsX11_takeOff = List.map zw zL_wsX11_takeOff := zq_c (i := 632) rfl (zq_a (zq_a (zq_a (zq_a (zq_a (zq_a (zq_a (zq_a (zq_a (zq_a q_wsX11_takeOff_r1 q_wsX11_takeOff_r2) q_wsX110) q_wsX80) q_wsX90) q_wsX20) q_wsX30) q_wsX50) q_wsX60) q_wsX70) q_wsX100)
set_option maxRecDepth 100000 in
theorem k_wsX11_takeOff : zm zL_wsX11_takeOff = 36481702907314975523930926597378269232322804241854644624868285015606373583137072495107227468768723904039175259598228295463151927644208638478580213131615347064386241369239659347919014021088411648 := by decide +kernel
def zL_wsX11_lift_r1 : List Nat := [80, 598, 65, 197, 230, 232, 1, 53, 233, 115, 114, 147, 148, 149, 469, 471, 8, 472, 117, 628, 1272, 1273, 552, 57]
set_option maxRecDepth 100000 in
theorem q_wsX11_lift_r1 : wsX11_lift_r1 = List.map zw zL_wsX11_lift_r1 := zq_n _ (id rfl)
def zL_wsX11_lift_r2 : List Nat := [553, 194, 190, 1274, 1275, 1276, 1277, 1278, 629, 631, 11, 632, 112, 321, 316, 583, 584, 585, 54, 586, 323, 331, 327, 335]
set_option maxRecDepth 100000 in
theorem q_wsX11_lift_r2 : wsX11_lift_r2 = List.map zw zL_wsX11_lift_r2 := zq_n _ (id rfl)
def zL_wsX11_lift_r3 : List Nat := [92, 421, 422, 423, 424, 90, 151, 152, 633, 635, 636, 634, 642, 637, 638, 639, 640, 641, 599, 600, 601, 602, 74, 75]
set_option maxRecDepth 100000 in
theorem q_wsX11_lift_r3 : wsX11_lift_r3 = List.map zw zL_wsX11_lift_r3 := zq_n _ (id rfl)
def zL_wsX11_lift_r4 : List Nat := [603, 605, 607, 609, 620, 622, 10, 623, 116]
set_option maxRecDepth 100000 in
theorem q_wsX11_lift_r4 : wsX11_lift_r4 = List.map zw zL_wsX11_lift_r4 := zq_n _ (id rfl)
def zL_wsX11_lift : List Nat := 627 :: (((((((((((zL_wsX11_lift_r1 ++ (zL_wsX11_lift_r2 ++ (zL_wsX11_lift_r3 ++ zL_wsX11_lift_r4))) ++ zL_wsX00) ++ zL_wsX20) ++ zL_wsX30) ++ zL_wsX50) ++ zL_wsX60) ++ zL_wsX70) ++ zL_wsX100) ++ zL_wsX110) ++ zL_wsX80) ++ zL_wsX90)
set_option maxRecDepth 100000 in
theorem q_wsX11_lift : wsX11_lift = List.map zw zL_wsX11_lift := zq_c (i := 627) rfl (zq_a (zq_a (zq_a (zq_a (zq_a (zq_a (zq_a (zq_a (zq_a (zq_a (zq_a q_wsX11_lift_r1 (zq_a q_wsX11_lift_r2 (zq_a q_wsX11_lift_r3 q_wsX11_lift_r4))) q_wsX00) q_wsX20) q_wsX30) q_wsX50) q_wsX60) q_wsX70) q_wsX100) q_wsX110) q_wsX80) q_wsX90)
set_option maxRecDepth 100000 in
theorem k_wsX11_lift : zm zL_wsX11_lift = 10326620224393583464097699387306553620344830510959933674027556785166079871707162170684018821093790402148340195095263187418013382137008437838545063585320466694463784747597117061821830354742352465479459208357803276899965407137040196783449037441186011170023137658359760692935746782877780806489790660888399894780675702811705825677850811527914219965460248364321522737125225692850364658748674 := by decide +kernel
def zL_wsX11_rule_r1 : List Nat := [309, 310, 62, 112, 80, 598, 65, 144, 145, 53, 146, 147, 148, 149, 469, 471, 8, 472, 117, 311, 312, 313, 314, 74]
set_option maxRecDepth 100000 in
theorem q_wsX11_rule_r1 : wsX11_rule_r1 = List.map zw zL_wsX11_rule_r1 := zq_n _ (id rfl)
def zL_wsX11_rule_r2 : List Nat := [75, 315, 317, 322, 326, 329, 333, 523, 524, 525, 54, 526, 331, 335, 323, 327, 294, 295, 151, 152, 421, 422, 423, 424]
set_option maxRecDepth 100000 in
theorem q_wsX11_rule_r2 : wsX11_rule_r2 = List.map zw zL_wsX11_rule_r2 := zq_n _ (id rfl)
def zL_wsX11_rule_r3 : List Nat := [90, 92, 575, 577, 9, 578, 321, 316, 579, 580, 581, 582, 182, 583, 584, 585, 586, 587, 589, 590, 588, 57, 596, 190]
set_option maxRecDepth 100000 in
theorem q_wsX11_rule_r3 : wsX11_rule_r3 = List.map zw zL_wsX11_rule_r3 := zq_n _ (id rfl)
def zL_wsX11_rule_r4 : List Nat := [194, 597, 515, 516, 514, 522, 517, 518, 519, 520, 521, 591, 592, 593, 594, 595, 599, 600, 601, 602, 603, 605, 607, 609]
set_option maxRecDepth 100000 in
theorem q_wsX11_rule_r4 : wsX11_rule_r4 = List.map zw zL_wsX11_rule_r4 := zq_n _ (id rfl)
def zL_wsX11_rule_r5 : List Nat := [620, 622, 10, 623, 116]
set_option maxRecDepth 100000 in
theorem q_wsX11_rule_r5 : wsX11_rule_r5 = List.map zw zL_wsX11_rule_r5 := zq_n _ (id rfl)
def zL_wsX11_rule : List Nat := 646 :: (((((((((((zL_wsX11_rule_r1 ++ (zL_wsX11_rule_r2 ++ (zL_wsX11_rule_r3 ++ (zL_wsX11_rule_r4 ++ zL_wsX11_rule_r5)))) ++ zL_wsX80) ++ zL_wsX110) ++ zL_wsX00) ++ zL_wsX90) ++ zL_wsX20) ++ zL_wsX30) ++ zL_wsX50) ++ zL_wsX60) ++ zL_wsX70) ++ zL_wsX100)
set_option maxRecDepth 100000 in
theorem q_wsX11_rule : wsX11_rule = List.map zw zL_wsX11_rule := zq_c (i := 646) rfl (zq_a (zq_a (zq_a (zq_a (zq_a (zq_a (zq_a (zq_a (zq_a (zq_a (zq_a q_wsX11_rule_r1 (zq_a q_wsX11_rule_r2 (zq_a q_wsX11_rule_r3 (zq_a q_wsX11_rule_r4 q_wsX11_rule_r5)))) q_wsX80) q_wsX110) q_wsX00) q_wsX90) q_wsX20) q_wsX30) q_wsX50) q_wsX60) q_wsX70) q_wsX100)
set_option maxRecDepth 100000 in
theorem k_wsX11_rule : zm zL_wsX11_rule = 291996256817094713949286306582291130964645077831509504532794960260168163582702006664476423864347024219685466819002358252358664435541833184281316101137899789095742141131432713940842141934514341632 := by decide +kernel
def zL_wsX11_fillerFor : List Nat := 659 :: ((((((([115, 114, 380, 387, 389, 660, 661, 663, 514, 57, 522, 194, 190, 147, 148, 53, 149] ++ zL_wsX110) ++ zL_wsX20) ++ zL_wsX30) ++ zL_wsX50) ++ zL_wsX60) ++ zL_wsX70) ++ zL_wsX100)
set_option maxRecDepth 100000 in
theorem q_wsX11_fillerFor : wsX11_fillerFor = List.map zw zL_wsX11_fillerFor := zq_c (i := 659) rfl (zq_a (zq_a (zq_a (zq_a (zq_a (zq_a (zq_a (zq_n _ (id rfl) : ([.fieldLink RX11 24 "PageOne" "itemCount" "I", .fieldLink RX11 20 "PageOne" "items" "[LPageOne$Item;", .classLink RX11 114 "PageOne$Filler", .fieldLink RX11 330 "PageOne$Filler" "least" "I", .fieldLink RX11 333 "PageOne$Filler" "most" "I", .methodLink RX11 329 ⟨"PageOne$Filler", "hasRoom", "()Z"⟩, .sameMethod "PageOne$Filler" "PageOne$Item" "hasRoom" "()Z", .selects RX2 ⟨"PageOne$Filler", "hasRoom", "()Z"⟩ yX4_hasRoom, .instanceMethod yX4_hasRoom, .initialized RX4, .code yX4_hasRoom cX4_hasRoom 1 (some .boolean), .fieldLink RX4 9 "PageOne$Item" "count" "I", .fieldLink RX4 31 "PageOne$Item" "pieces" "[LPageOne$Piece;", .methodLink RX11 55 yX11_isWithin, .static yX11_isWithin, .initialized RX11, .code yX11_isWithin cX11_isWithin 3 (some .boolean)] : List Cond) = List.map zw [115, 114, 380, 387, 389, 660, 661, 663, 514, 57, 522, 194, 190, 147, 148, 53, 149]) q_wsX110) q_wsX20) q_wsX30) q_wsX50) q_wsX60) q_wsX70) q_wsX100)
set_option maxRecDepth 100000 in
theorem k_wsX11_fillerFor : zm zL_wsX11_fillerFor = 55016755930233826196191679312616069777349296498218210725310403170437896046769485835092935709761950670702046961986612427788396968187708131728107917574138556306884339755942203823343862892042661411160064 := by decide +kernel
def zL_wsX11_fillColumn_r1 : List Nat := [112, 91, 309, 310, 62, 80, 598, 65, 655, 422, 423, 54, 424, 90, 92, 151, 53, 152, 147, 148, 149, 656, 658, 13]
set_option maxRecDepth 100000 in
theorem q_wsX11_fillColumn_r1 : wsX11_fillColumn_r1 = List.map zw zL_wsX11_fillColumn_r1 := zq_n _ (id rfl)
def zL_wsX11_fillColumn_r2 : List Nat := [659, 115, 114, 380, 387, 389, 660, 661, 663, 514, 57, 522, 194, 190, 311, 312, 313, 314, 74, 75, 315, 317, 322, 326]
set_option maxRecDepth 100000 in
theorem q_wsX11_fillColumn_r2 : wsX11_fillColumn_r2 = List.map zw zL_wsX11_fillColumn_r2 := zq_n _ (id rfl)
def zL_wsX11_fillColumn_r3 : List Nat := [329, 333, 575, 577, 9, 578, 321, 316, 579, 580, 581, 582, 182, 583, 584, 585, 586, 323, 331, 327, 335, 421, 587, 589]
set_option maxRecDepth 100000 in
theorem q_wsX11_fillColumn_r3 : wsX11_fillColumn_r3 = List.map zw zL_wsX11_fillColumn_r3 := zq_n _ (id rfl)
def zL_wsX11_fillColumn_r4 : List Nat := [590, 588, 596, 597, 515, 516, 517, 518, 519, 520, 521, 591, 592, 593, 594, 595, 599, 600, 601, 602, 603, 605, 607, 609]
set_option maxRecDepth 100000 in
theorem q_wsX11_fillColumn_r4 : wsX11_fillColumn_r4 = List.map zw zL_wsX11_fillColumn_r4 := zq_n _ (id rfl)
def zL_wsX11_fillColumn : List Nat := 654 :: (((((((((((zL_wsX11_fillColumn_r1 ++ (zL_wsX11_fillColumn_r2 ++ (zL_wsX11_fillColumn_r3 ++ zL_wsX11_fillColumn_r4))) ++ zL_wsX110) ++ zL_wsX90) ++ zL_wsX80) ++ zL_wsX00) ++ zL_wsX20) ++ zL_wsX30) ++ zL_wsX50) ++ zL_wsX60) ++ zL_wsX70) ++ zL_wsX100)
set_option maxRecDepth 100000 in
theorem q_wsX11_fillColumn : wsX11_fillColumn = List.map zw zL_wsX11_fillColumn := zq_c (i := 654) rfl (zq_a (zq_a (zq_a (zq_a (zq_a (zq_a (zq_a (zq_a (zq_a (zq_a (zq_a q_wsX11_fillColumn_r1 (zq_a q_wsX11_fillColumn_r2 (zq_a q_wsX11_fillColumn_r3 q_wsX11_fillColumn_r4))) q_wsX110) q_wsX90) q_wsX80) q_wsX00) q_wsX20) q_wsX30) q_wsX50) q_wsX60) q_wsX70) q_wsX100)
set_option maxRecDepth 100000 in
theorem k_wsX11_fillColumn : zm zL_wsX11_fillColumn = 56736029553054358467359611113517093044732195691492815496481406106067428754171724620902114279145179918724464390336917055009068561549115768555107255802515085751377017120137577649310155460623138199446016 := by decide +kernel
def zL_wsX11_fill_r1 : List Nat := [610, 144, 145, 53, 146, 147, 148, 149, 469, 471, 8, 472, 117, 651, 653, 12, 654, 112, 91, 309, 310, 62, 80, 598]
set_option maxRecDepth 100000 in
theorem q_wsX11_fill_r1 : wsX11_fill_r1 = List.map zw zL_wsX11_fill_r1 := zq_n _ (id rfl)
def zL_wsX11_fill_r2 : List Nat := [65, 655, 422, 423, 54, 424, 90, 92, 151, 152, 656, 658, 13, 659, 115, 114, 380, 387, 389, 660, 661, 663, 514, 57]
set_option maxRecDepth 100000 in
theorem q_wsX11_fill_r2 : wsX11_fill_r2 = List.map zw zL_wsX11_fill_r2 := zq_n _ (id rfl)
def zL_wsX11_fill_r3 : List Nat := [522, 194, 190, 311, 312, 313, 314, 74, 75, 315, 317, 322, 326, 329, 333, 575, 577, 9, 578, 321, 316, 579, 580, 581]
set_option maxRecDepth 100000 in
theorem q_wsX11_fill_r3 : wsX11_fill_r3 = List.map zw zL_wsX11_fill_r3 := zq_n _ (id rfl)
def zL_wsX11_fill_r4 : List Nat := [582, 182, 583, 584, 585, 586, 323, 331, 327, 335, 421, 587, 589, 590, 588, 596, 597, 515, 516, 517, 518, 519, 520, 521]
set_option maxRecDepth 100000 in
theorem q_wsX11_fill_r4 : wsX11_fill_r4 = List.map zw zL_wsX11_fill_r4 := zq_n _ (id rfl)
def zL_wsX11_fill_r5 : List Nat := [591, 592, 593, 594, 595, 599, 600, 601, 602, 603, 605, 607, 609, 620, 622, 10, 623, 116]
set_option maxRecDepth 100000 in
theorem q_wsX11_fill_r5 : wsX11_fill_r5 = List.map zw zL_wsX11_fill_r5 := zq_n _ (id rfl)
def zL_wsX11_fill : List Nat := 650 :: (((((((((((zL_wsX11_fill_r1 ++ (zL_wsX11_fill_r2 ++ (zL_wsX11_fill_r3 ++ (zL_wsX11_fill_r4 ++ zL_wsX11_fill_r5)))) ++ zL_wsX00) ++ zL_wsX110) ++ zL_wsX90) ++ zL_wsX80) ++ zL_wsX20) ++ zL_wsX30) ++ zL_wsX50) ++ zL_wsX60) ++ zL_wsX70) ++ zL_wsX100)
set_option maxRecDepth 100000 in
theorem q_wsX11_fill : wsX11_fill = List.map zw zL_wsX11_fill := zq_c (i := 650) rfl (zq_a (zq_a (zq_a (zq_a (zq_a (zq_a (zq_a (zq_a (zq_a (zq_a (zq_a q_wsX11_fill_r1 (zq_a q_wsX11_fill_r2 (zq_a q_wsX11_fill_r3 (zq_a q_wsX11_fill_r4 q_wsX11_fill_r5)))) q_wsX00) q_wsX110) q_wsX90) q_wsX80) q_wsX20) q_wsX30) q_wsX50) q_wsX60) q_wsX70) q_wsX100)
set_option maxRecDepth 100000 in
theorem k_wsX11_fill : zm zL_wsX11_fill = 56787420884227823195089342233562537028566457136083574260969665725233821535712539785513816366620525053241852692934654232105116345039728466436588724498470627401474756014676724938412379192297195741132544 := by decide +kernel
def zL_wsX11_takeBack_r1 : List Nat := [606, 604, 608, 575, 577, 9, 53, 578, 112, 321, 316, 579, 580, 581, 62, 582, 315, 182, 583, 584, 585, 54, 586, 323]
set_option maxRecDepth 100000 in
theorem q_wsX11_takeBack_r1 : wsX11_takeBack_r1 = List.map zw zL_wsX11_takeBack_r1 := zq_n _ (id rfl)
def zL_wsX11_takeBack_r2 : List Nat := [331, 327, 335, 92, 421, 422, 423, 424, 90, 151, 152, 147, 148, 149, 587, 589, 590, 588, 57, 596, 190, 194, 597, 515]
set_option maxRecDepth 100000 in
theorem q_wsX11_takeBack_r2 : wsX11_takeBack_r2 = List.map zw zL_wsX11_takeBack_r2 := zq_n _ (id rfl)
def zL_wsX11_takeBack_r3 : List Nat := [516, 514, 522, 517, 518, 519, 520, 521, 591, 592, 593, 594, 595, 629, 631, 11, 632, 633, 635, 636, 634, 642, 637, 638]
set_option maxRecDepth 100000 in
theorem q_wsX11_takeBack_r3 : wsX11_takeBack_r3 = List.map zw zL_wsX11_takeBack_r3 := zq_n _ (id rfl)
def zL_wsX11_takeBack_r4 : List Nat := [639, 640, 641]
set_option maxRecDepth 100000 in
theorem q_wsX11_takeBack_r4 : wsX11_takeBack_r4 = List.map zw zL_wsX11_takeBack_r4 := zq_n _ (id rfl)
def zL_wsX11_takeBack : List Nat := 671 :: (((((((((((zL_wsX11_takeBack_r1 ++ (zL_wsX11_takeBack_r2 ++ (zL_wsX11_takeBack_r3 ++ zL_wsX11_takeBack_r4))) ++ zL_wsX00) ++ zL_wsX110) ++ zL_wsX80) ++ zL_wsX20) ++ zL_wsX30) ++ zL_wsX50) ++ zL_wsX60) ++ zL_wsX70) ++ zL_wsX100) ++ zL_wsX90)
set_option maxRecDepth 100000 in
theorem q_wsX11_takeBack : wsX11_takeBack = List.map zw zL_wsX11_takeBack := zq_c (i := 671) rfl (zq_a (zq_a (zq_a (zq_a (zq_a (zq_a (zq_a (zq_a (zq_a (zq_a (zq_a q_wsX11_takeBack_r1 (zq_a q_wsX11_takeBack_r2 (zq_a q_wsX11_takeBack_r3 q_wsX11_takeBack_r4))) q_wsX00) q_wsX110) q_wsX80) q_wsX20) q_wsX30) q_wsX50) q_wsX60) q_wsX70) q_wsX100) q_wsX90)
set_option maxRecDepth 100000 in
theorem k_wsX11_takeBack : zm zL_wsX11_takeBack = 9797766657807527275992737379873838148857607910107402647806918503998296112194393420982574046136115600689615850632621999172445141275404447305375967470303755105506989449387283232546702706593424350581361152 := by decide +kernel
def zL_wsX11_undo_r1 : List Nat := [117, 116, 668, 670, 14, 53, 671, 606, 604, 608, 575, 577, 9, 578, 112, 321, 316, 579, 580, 581, 62, 582, 315, 182]
set_option maxRecDepth 100000 in
theorem q_wsX11_undo_r1 : wsX11_undo_r1 = List.map zw zL_wsX11_undo_r1 := zq_n _ (id rfl)
def zL_wsX11_undo_r2 : List Nat := [583, 584, 585, 54, 586, 323, 331, 327, 335, 92, 421, 422, 423, 424, 90, 151, 152, 147, 148, 149, 587, 589, 590, 588]
set_option maxRecDepth 100000 in
theorem q_wsX11_undo_r2 : wsX11_undo_r2 = List.map zw zL_wsX11_undo_r2 := zq_n _ (id rfl)
def zL_wsX11_undo_r3 : List Nat := [57, 596, 190, 194, 597, 515, 516, 514, 522, 517, 518, 519, 520, 521, 591, 592, 593, 594, 595, 629, 631, 11, 632, 633]
set_option maxRecDepth 100000 in
theorem q_wsX11_undo_r3 : wsX11_undo_r3 = List.map zw zL_wsX11_undo_r3 := zq_n _ (id rfl)
def zL_wsX11_undo_r4 : List Nat := [635, 636, 634, 642, 637, 638, 639, 640, 641]
set_option maxRecDepth 100000 in
theorem q_wsX11_undo_r4 : wsX11_undo_r4 = List.map zw zL_wsX11_undo_r4 := zq_n _ (id rfl)
def zL_wsX11_undo : List Nat := 667 :: (((((((((((zL_wsX11_undo_r1 ++ (zL_wsX11_undo_r2 ++ (zL_wsX11_undo_r3 ++ zL_wsX11_undo_r4))) ++ zL_wsX110) ++ zL_wsX00) ++ zL_wsX80) ++ zL_wsX20) ++ zL_wsX30) ++ zL_wsX50) ++ zL_wsX60) ++ zL_wsX70) ++ zL_wsX100) ++ zL_wsX90)
set_option maxRecDepth 100000 in
theorem q_wsX11_undo : wsX11_undo = List.map zw zL_wsX11_undo := zq_c (i := 667) rfl (zq_a (zq_a (zq_a (zq_a (zq_a (zq_a (zq_a (zq_a (zq_a (zq_a (zq_a q_wsX11_undo_r1 (zq_a q_wsX11_undo_r2 (zq_a q_wsX11_undo_r3 q_wsX11_undo_r4))) q_wsX110) q_wsX00) q_wsX80) q_wsX20) q_wsX30) q_wsX50) q_wsX60) q_wsX70) q_wsX100) q_wsX90)
set_option maxRecDepth 100000 in
theorem k_wsX11_undo : zm zL_wsX11_undo = 16533731209961373126796031681801092605075676611212468344502864886095736615879650008702390283248328639004775661504667390742664649968029174859809709365456324079749006632904594247616099076487806294224292352 := by decide +kernel
def zL_wsX11_isNamedIn : List Nat := 712 :: (([307, 161, 180, 356] ++ zL_wsX100) ++ zL_wsX60)
set_option maxRecDepth 100000 in
theorem q_wsX11_isNamedIn : wsX11_isNamedIn = List.map zw zL_wsX11_isNamedIn := zq_c (i := 712) rfl (zq_a (zq_a (zq_n _ (id rfl) : ([.classLink RX11 104 "PageOne$Paid", .classLink RX11 66 "PageOne$Story", .fieldLink RX11 135 "PageOne$Story" "named" "[Z", .fieldLink RX11 260 "PageOne$Paid" "buyer" "I"] : List Cond) = List.map zw [307, 161, 180, 356]) q_wsX100) q_wsX60)
set_option maxRecDepth 100000 in
theorem k_wsX11_isNamedIn : zm zL_wsX11_isNamedIn = 21545516652742137885659094560277007014094191832363720128504958578969526904000843047377578132593002296301073027444533068400971173661650063362299500229163672693760517980257390719362716911331042734691300917987581624320 := by decide +kernel
def zL_wsX11_mayNotMeet : List Nat := 709 :: ((([307, 356, 242, 457, 459, 7, 53, 460, 118, 710, 711, 712, 161, 180] ++ zL_wsX60) ++ zL_wsX110) ++ zL_wsX100)
set_option maxRecDepth 100000 in
theorem q_wsX11_mayNotMeet : wsX11_mayNotMeet = List.map zw zL_wsX11_mayNotMeet := zq_c (i := 709) rfl (zq_a (zq_a (zq_a (zq_n _ (id rfl) : ([.classLink RX11 104 "PageOne$Paid", .fieldLink RX11 260 "PageOne$Paid" "buyer" "I", .classLink RX11 83 "PageOne$Head", .methodLink RX11 132 yX11_areRivals, .instanceMethod yX11_areRivals, .selects RX11 yX11_areRivals yX11_areRivals, .initialized RX11, .code yX11_areRivals cX11_areRivals 3 (some .boolean), .fieldLink RX11 37 "PageOne" "rivals" "[Z", .methodLink RX11 362 yX11_isNamedIn, .static yX11_isNamedIn, .code yX11_isNamedIn cX11_isNamedIn 4 (some .boolean), .classLink RX11 66 "PageOne$Story", .fieldLink RX11 135 "PageOne$Story" "named" "[Z"] : List Cond) = List.map zw [307, 356, 242, 457, 459, 7, 53, 460, 118, 710, 711, 712, 161, 180]) q_wsX60) q_wsX110) q_wsX100)
set_option maxRecDepth 100000 in
theorem k_wsX11_mayNotMeet : zm zL_wsX11_mayNotMeet = 40397843723891508535610802300519388151426609685681975240946797335567862945006418552381870558075375604763882546005733637581167607855542415173502990857121903774977500441135518358016260405349679518933073093131755323520 := by decide +kernel
def zL_wsX11_leastPair_r1 : List Nat := [115, 114, 741, 742, 66, 696, 698, 699, 697, 57, 705, 194, 190, 320, 700, 701, 702, 703, 704, 706, 708, 17, 53, 709]
set_option maxRecDepth 100000 in
theorem q_wsX11_leastPair_r1 : wsX11_leastPair_r1 = List.map zw zL_wsX11_leastPair_r1 := zq_n _ (id rfl)
def zL_wsX11_leastPair_r2 : List Nat := [307, 356, 242, 457, 459, 7, 460, 118, 710, 711, 712, 161, 180, 713, 715, 716, 714, 722, 723, 725, 726, 724, 732, 733]
set_option maxRecDepth 100000 in
theorem q_wsX11_leastPair_r2 : wsX11_leastPair_r2 = List.map zw zL_wsX11_leastPair_r2 := zq_n _ (id rfl)
def zL_wsX11_leastPair_r3 : List Nat := [734, 735, 62, 736, 322, 329, 317, 326, 333, 737, 738, 739, 740, 727, 728, 729, 730, 731, 717, 718, 719, 720, 721, 743]
set_option maxRecDepth 100000 in
theorem q_wsX11_leastPair_r3 : wsX11_leastPair_r3 = List.map zw zL_wsX11_leastPair_r3 := zq_n _ (id rfl)
def zL_wsX11_leastPair_r4 : List Nat := [744, 745, 746, 74, 75, 747, 749, 751]
set_option maxRecDepth 100000 in
theorem q_wsX11_leastPair_r4 : wsX11_leastPair_r4 = List.map zw zL_wsX11_leastPair_r4 := zq_n _ (id rfl)
def zL_wsX11_leastPair : List Nat := 695 :: ((((((((((zL_wsX11_leastPair_r1 ++ (zL_wsX11_leastPair_r2 ++ (zL_wsX11_leastPair_r3 ++ zL_wsX11_leastPair_r4))) ++ zL_wsX110) ++ zL_wsX10) ++ zL_wsX20) ++ zL_wsX30) ++ zL_wsX50) ++ zL_wsX60) ++ zL_wsX70) ++ zL_wsX100) ++ zL_wsX80)
set_option maxRecDepth 100000 in
theorem q_wsX11_leastPair : wsX11_leastPair = List.map zw zL_wsX11_leastPair := zq_c (i := 695) rfl (zq_a (zq_a (zq_a (zq_a (zq_a (zq_a (zq_a (zq_a (zq_a (zq_a q_wsX11_leastPair_r1 (zq_a q_wsX11_leastPair_r2 (zq_a q_wsX11_leastPair_r3 q_wsX11_leastPair_r4))) q_wsX110) q_wsX10) q_wsX20) q_wsX30) q_wsX50) q_wsX60) q_wsX70) q_wsX100) q_wsX80)
set_option maxRecDepth 100000 in
theorem k_wsX11_leastPair : zm zL_wsX11_leastPair = 1011247498551734444170855694144800095441789476443788424927464527529241436773560551699424889357669411245676579722498552605722481829389652208856543423454388138665610596971228453400427104314329504642478740061157126146217542752010368 := by decide +kernel
def zL_wsX11_standsOverStory_r1 : List Nat := [325, 332, 112, 321, 328, 337, 249, 184, 185, 769, 770, 771, 552, 57, 553, 194, 190, 655, 422, 423, 54, 424, 90, 92]
set_option maxRecDepth 100000 in
theorem q_wsX11_standsOverStory_r1 : wsX11_standsOverStory_r1 = List.map zw zL_wsX11_standsOverStory_r1 := zq_n _ (id rfl)
def zL_wsX11_standsOverStory_r2 : List Nat := [151, 53, 152, 147, 148, 149]
set_option maxRecDepth 100000 in
theorem q_wsX11_standsOverStory_r2 : wsX11_standsOverStory_r2 = List.map zw zL_wsX11_standsOverStory_r2 := zq_n _ (id rfl)
def zL_wsX11_standsOverStory : List Nat := 768 :: ((((((((((zL_wsX11_standsOverStory_r1 ++ zL_wsX11_standsOverStory_r2) ++ zL_wsX80) ++ zL_wsX110) ++ zL_wsX30) ++ zL_wsX20) ++ zL_wsX50) ++ zL_wsX60) ++ zL_wsX70) ++ zL_wsX100) ++ zL_wsX90)
set_option maxRecDepth 100000 in
theorem q_wsX11_standsOverStory : wsX11_standsOverStory = List.map zw zL_wsX11_standsOverStory := zq_c (i := 768) rfl (zq_a (zq_a (zq_a (zq_a (zq_a (zq_a (zq_a (zq_a (zq_a (zq_a q_wsX11_standsOverStory_r1 q_wsX11_standsOverStory_r2) q_wsX80) q_wsX110) q_wsX30) q_wsX20) q_wsX50) q_wsX60) q_wsX70) q_wsX100) q_wsX90)
set_option maxRecDepth 100000 in
theorem k_wsX11_standsOverStory : zm zL_wsX11_standsOverStory = 23287771384510634027234692326937538478355344414994542091519691746022136546562842458205568655394645251415050378386254025272574046895970698839282166771189457636517914046509386802855868574210729550327506313859842517057849687016145420288 := by decide +kernel
def zL_wsX11_failsAlone_r1 : List Nat := [161, 175, 242, 764, 567, 568, 58, 569, 195, 196, 570, 571, 572, 573, 562, 563, 564, 565, 191, 192, 336, 319, 148, 53]
set_option maxRecDepth 100000 in
theorem q_wsX11_failsAlone_r1 : wsX11_failsAlone_r1 = List.map zw zL_wsX11_failsAlone_r1 := zq_n _ (id rfl)
def zL_wsX11_failsAlone_r2 : List Nat := [149, 765, 767, 19, 768, 325, 332, 112, 321, 328, 337, 249, 184, 185, 769, 770, 771, 552, 57, 553, 194, 190, 655, 422]
set_option maxRecDepth 100000 in
theorem q_wsX11_failsAlone_r2 : wsX11_failsAlone_r2 = List.map zw zL_wsX11_failsAlone_r2 := zq_n _ (id rfl)
def zL_wsX11_failsAlone_r3 : List Nat := [423, 54, 424, 90, 92, 151, 152, 147]
set_option maxRecDepth 100000 in
theorem q_wsX11_failsAlone_r3 : wsX11_failsAlone_r3 = List.map zw zL_wsX11_failsAlone_r3 := zq_n _ (id rfl)
def zL_wsX11_failsAlone : List Nat := 763 :: ((((((((((zL_wsX11_failsAlone_r1 ++ (zL_wsX11_failsAlone_r2 ++ zL_wsX11_failsAlone_r3)) ++ zL_wsX100) ++ zL_wsX20) ++ zL_wsX30) ++ zL_wsX50) ++ zL_wsX60) ++ zL_wsX70) ++ zL_wsX80) ++ zL_wsX110) ++ zL_wsX90)
set_option maxRecDepth 100000 in
theorem q_wsX11_failsAlone : wsX11_failsAlone = List.map zw zL_wsX11_failsAlone := zq_c (i := 763) rfl (zq_a (zq_a (zq_a (zq_a (zq_a (zq_a (zq_a (zq_a (zq_a (zq_a q_wsX11_failsAlone_r1 (zq_a q_wsX11_failsAlone_r2 q_wsX11_failsAlone_r3)) q_wsX100) q_wsX20) q_wsX30) q_wsX50) q_wsX60) q_wsX70) q_wsX80) q_wsX110) q_wsX90)
set_option maxRecDepth 100000 in
theorem k_wsX11_failsAlone : zm zL_wsX11_failsAlone = 24403643763351768574373021334269962189946231239797167780775946974324284057074879018460430916335459107928595749466846370321504677656651797098183016217388186600825770898949148457677408515146883563357867632085159753285174572960635682816 := by decide +kernel
def zL_wsX11_breachOn_r1 : List Nat := [115, 114, 741, 742, 66, 692, 694, 16, 53, 695, 696, 698, 699, 697, 57, 705, 194, 190, 320, 700, 701, 702, 703, 704]
set_option maxRecDepth 100000 in
theorem q_wsX11_breachOn_r1 : wsX11_breachOn_r1 = List.map zw zL_wsX11_breachOn_r1 := zq_n _ (id rfl)
def zL_wsX11_breachOn_r2 : List Nat := [706, 708, 17, 709, 307, 356, 242, 457, 459, 7, 460, 118, 710, 711, 712, 161, 180, 713, 715, 716, 714, 722, 723, 725]
set_option maxRecDepth 100000 in
theorem q_wsX11_breachOn_r2 : wsX11_breachOn_r2 = List.map zw zL_wsX11_breachOn_r2 := zq_n _ (id rfl)
def zL_wsX11_breachOn_r3 : List Nat := [726, 724, 732, 733, 734, 735, 62, 736, 322, 329, 317, 326, 333, 737, 738, 739, 740, 727, 728, 729, 730, 731, 717, 718]
set_option maxRecDepth 100000 in
theorem q_wsX11_breachOn_r3 : wsX11_breachOn_r3 = List.map zw zL_wsX11_breachOn_r3 := zq_n _ (id rfl)
def zL_wsX11_breachOn_r4 : List Nat := [719, 720, 721, 743, 744, 745, 746, 74, 75, 747, 749, 751, 760, 762, 18, 763, 175, 764, 567, 568, 58, 569, 195, 196]
set_option maxRecDepth 100000 in
theorem q_wsX11_breachOn_r4 : wsX11_breachOn_r4 = List.map zw zL_wsX11_breachOn_r4 := zq_n _ (id rfl)
def zL_wsX11_breachOn_r5 : List Nat := [570, 571, 572, 573, 562, 563, 564, 565, 191, 192, 336, 319, 148, 149, 765, 767, 19, 768, 325, 332, 112, 321, 328, 337]
set_option maxRecDepth 100000 in
theorem q_wsX11_breachOn_r5 : wsX11_breachOn_r5 = List.map zw zL_wsX11_breachOn_r5 := zq_n _ (id rfl)
def zL_wsX11_breachOn_r6 : List Nat := [249, 184, 185, 769, 770, 771, 552, 553, 655, 422, 423, 54, 424, 90, 92, 151, 152, 147]
set_option maxRecDepth 100000 in
theorem q_wsX11_breachOn_r6 : wsX11_breachOn_r6 = List.map zw zL_wsX11_breachOn_r6 := zq_n _ (id rfl)
def zL_wsX11_breachOn : List Nat := 691 :: (((((((((((zL_wsX11_breachOn_r1 ++ (zL_wsX11_breachOn_r2 ++ (zL_wsX11_breachOn_r3 ++ (zL_wsX11_breachOn_r4 ++ (zL_wsX11_breachOn_r5 ++ zL_wsX11_breachOn_r6))))) ++ zL_wsX110) ++ zL_wsX10) ++ zL_wsX20) ++ zL_wsX30) ++ zL_wsX50) ++ zL_wsX60) ++ zL_wsX70) ++ zL_wsX100) ++ zL_wsX80) ++ zL_wsX90)
set_option maxRecDepth 100000 in
theorem q_wsX11_breachOn : wsX11_breachOn = List.map zw zL_wsX11_breachOn := zq_c (i := 691) rfl (zq_a (zq_a (zq_a (zq_a (zq_a (zq_a (zq_a (zq_a (zq_a (zq_a (zq_a q_wsX11_breachOn_r1 (zq_a q_wsX11_breachOn_r2 (zq_a q_wsX11_breachOn_r3 (zq_a q_wsX11_breachOn_r4 (zq_a q_wsX11_breachOn_r5 q_wsX11_breachOn_r6))))) q_wsX110) q_wsX10) q_wsX20) q_wsX30) q_wsX50) q_wsX60) q_wsX70) q_wsX100) q_wsX80) q_wsX90)
set_option maxRecDepth 100000 in
theorem k_wsX11_breachOn : zm zL_wsX11_breachOn = 24434977629840568530206933706330400071411103714937437052651482982051210885307196035952057177439617375639322234744594000109151188380957275781764898685092007205271912293681990201960876420176957618236056959281972631976429342567695319168 := by decide +kernel
def zL_wsX11_plate_r1 : List Nat := [112, 748, 113, 76, 82, 54, 119, 96, 120, 98, 144, 145, 53, 146, 147, 148, 149, 676, 677, 678, 679, 90, 680, 681]
set_option maxRecDepth 100000 in
theorem q_wsX11_plate_r1 : wsX11_plate_r1 = List.map zw zL_wsX11_plate_r1 := zq_n _ (id rfl)
def zL_wsX11_plate_r2 : List Nat := [682, 683, 684, 685, 686, 687, 421, 422, 423, 424, 92, 151, 152, 688, 690, 15, 691, 115, 114, 741, 742, 66, 692, 694]
set_option maxRecDepth 100000 in
theorem q_wsX11_plate_r2 : wsX11_plate_r2 = List.map zw zL_wsX11_plate_r2 := zq_n _ (id rfl)
def zL_wsX11_plate_r3 : List Nat := [16, 695, 696, 698, 699, 697, 57, 705, 194, 190, 320, 700, 701, 702, 703, 704, 706, 708, 17, 709, 307, 356, 242, 457]
set_option maxRecDepth 100000 in
theorem q_wsX11_plate_r3 : wsX11_plate_r3 = List.map zw zL_wsX11_plate_r3 := zq_n _ (id rfl)
def zL_wsX11_plate_r4 : List Nat := [459, 7, 460, 118, 710, 711, 712, 161, 180, 713, 715, 716, 714, 722, 723, 725, 726, 724, 732, 733, 734, 735, 62, 736]
set_option maxRecDepth 100000 in
theorem q_wsX11_plate_r4 : wsX11_plate_r4 = List.map zw zL_wsX11_plate_r4 := zq_n _ (id rfl)
def zL_wsX11_plate_r5 : List Nat := [322, 329, 317, 326, 333, 737, 738, 739, 740, 727, 728, 729, 730, 731, 717, 718, 719, 720, 721, 743, 744, 745, 746, 74]
set_option maxRecDepth 100000 in
theorem q_wsX11_plate_r5 : wsX11_plate_r5 = List.map zw zL_wsX11_plate_r5 := zq_n _ (id rfl)
def zL_wsX11_plate_r6 : List Nat := [75, 747, 749, 751, 760, 762, 18, 763, 175, 764, 567, 568, 58, 569, 195, 196, 570, 571, 572, 573, 562, 563, 564, 565]
set_option maxRecDepth 100000 in
theorem q_wsX11_plate_r6 : wsX11_plate_r6 = List.map zw zL_wsX11_plate_r6 := zq_n _ (id rfl)
def zL_wsX11_plate_r7 : List Nat := [191, 192, 336, 319, 765, 767, 19, 768, 325, 332, 321, 328, 337, 249, 184, 185, 769, 770, 771, 552, 553, 655, 83, 84]
set_option maxRecDepth 100000 in
theorem q_wsX11_plate_r7 : wsX11_plate_r7 = List.map zw zL_wsX11_plate_r7 := zq_n _ (id rfl)
def zL_wsX11_plate_r8 : List Nat := [85, 86, 111, 93, 95, 97, 87, 88, 55, 89, 772, 773, 774, 775, 776, 778, 777, 67]
set_option maxRecDepth 100000 in
theorem q_wsX11_plate_r8 : wsX11_plate_r8 = List.map zw zL_wsX11_plate_r8 := zq_n _ (id rfl)
def zL_wsX11_plate : List Nat := 675 :: (((((((((((zL_wsX11_plate_r1 ++ (zL_wsX11_plate_r2 ++ (zL_wsX11_plate_r3 ++ (zL_wsX11_plate_r4 ++ (zL_wsX11_plate_r5 ++ (zL_wsX11_plate_r6 ++ (zL_wsX11_plate_r7 ++ zL_wsX11_plate_r8))))))) ++ zL_wsX110) ++ zL_wsX10) ++ zL_wsX90) ++ zL_wsX20) ++ zL_wsX30) ++ zL_wsX50) ++ zL_wsX60) ++ zL_wsX70) ++ zL_wsX100) ++ zL_wsX80)
set_option maxRecDepth 100000 in
theorem q_wsX11_plate : wsX11_plate = List.map zw zL_wsX11_plate := zq_c (i := 675) rfl (zq_a (zq_a (zq_a (zq_a (zq_a (zq_a (zq_a (zq_a (zq_a (zq_a (zq_a q_wsX11_plate_r1 (zq_a q_wsX11_plate_r2 (zq_a q_wsX11_plate_r3 (zq_a q_wsX11_plate_r4 (zq_a q_wsX11_plate_r5 (zq_a q_wsX11_plate_r6 (zq_a q_wsX11_plate_r7 q_wsX11_plate_r8))))))) q_wsX110) q_wsX10) q_wsX90) q_wsX20) q_wsX30) q_wsX50) q_wsX60) q_wsX70) q_wsX100) q_wsX80)
set_option maxRecDepth 100000 in
theorem k_wsX11_plate : zm zL_wsX11_plate = 3179151742665477755136147197007710404282992643506381033161388723972109037396879735531384470342868481256169896988770085263622468071379523793420671886588430860963178977401282658286617734032565456049747705970323719168758185913826409414784 := by decide +kernel
def zL_wsX11_writeDownItem : List Nat := 794 :: (((((((([202, 307, 361, 119, 427, 429, 5, 53, 430, 113, 96, 98] ++ zL_wsX20) ++ zL_wsX30) ++ zL_wsX50) ++ zL_wsX60) ++ zL_wsX70) ++ zL_wsX100) ++ zL_wsX110) ++ zL_wsX90)
set_option maxRecDepth 100000 in
theorem q_wsX11_writeDownItem : wsX11_writeDownItem = List.map zw zL_wsX11_writeDownItem := zq_c (i := 794) rfl (zq_a (zq_a (zq_a (zq_a (zq_a (zq_a (zq_a (zq_a (zq_n _ (id rfl) : ([.fieldLink RX11 382 "PageOne$Item" "first" "[I", .classLink RX11 104 "PageOne$Paid", .fieldLink RX11 388 "PageOne$Paid" "days" "[Z", .fieldLink RX11 41 "PageOne" "today" "I", .methodLink RX11 384 yX11_plateFact, .instanceMethod yX11_plateFact, .selects RX11 yX11_plateFact yX11_plateFact, .initialized RX11, .code yX11_plateFact cX11_plateFact 4 (some .int), .fieldLink RX11 15 "PageOne" "plates" "[LPageOne$Sheet;", .fieldLink RX11 210 "PageOne$Sheet" "day" "I", .fieldLink RX11 213 "PageOne$Sheet" "edition" "I"] : List Cond) = List.map zw [202, 307, 361, 119, 427, 429, 5, 53, 430, 113, 96, 98]) q_wsX20) q_wsX30) q_wsX50) q_wsX60) q_wsX70) q_wsX100) q_wsX110) q_wsX90)
set_option maxRecDepth 100000 in
theorem k_wsX11_writeDownItem : zm zL_wsX11_writeDownItem = 104187725513747723032497684230019653080386848786186065006191528308813081840900501117522378138618035792869659426305235731556885525564314591947890746048760643818185316419104025678329133079870848621897847284713799406022436291371150655627460640 := by decide +kernel
def zL_wsX11_writeDown_r1 : List Nat := [113, 91, 655, 422, 423, 54, 424, 90, 92, 151, 53, 152, 147, 148, 149, 230, 232, 1, 233, 115, 114, 791, 793, 22]
set_option maxRecDepth 100000 in
theorem q_wsX11_writeDown_r1 : wsX11_writeDown_r1 = List.map zw zL_wsX11_writeDown_r1 := zq_n _ (id rfl)
def zL_wsX11_writeDown_r2 : List Nat := [794, 202, 307, 361, 119, 427, 429, 5, 430, 96, 98]
set_option maxRecDepth 100000 in
theorem q_wsX11_writeDown_r2 : wsX11_writeDown_r2 = List.map zw zL_wsX11_writeDown_r2 := zq_n _ (id rfl)
def zL_wsX11_writeDown : List Nat := 790 :: (((((((((zL_wsX11_writeDown_r1 ++ zL_wsX11_writeDown_r2) ++ zL_wsX110) ++ zL_wsX90) ++ zL_wsX20) ++ zL_wsX30) ++ zL_wsX50) ++ zL_wsX60) ++ zL_wsX70) ++ zL_wsX100)
set_option maxRecDepth 100000 in
theorem q_wsX11_writeDown : wsX11_writeDown = List.map zw zL_wsX11_writeDown := zq_c (i := 790) rfl (zq_a (zq_a (zq_a (zq_a (zq_a (zq_a (zq_a (zq_a (zq_a q_wsX11_writeDown_r1 q_wsX11_writeDown_r2) q_wsX110) q_wsX90) q_wsX20) q_wsX30) q_wsX50) q_wsX60) q_wsX70) q_wsX100)
set_option maxRecDepth 100000 in
theorem k_wsX11_writeDown : zm zL_wsX11_writeDown = 175816786804449282617339842138158164573152956828743142942041128455033251193665729737130738629729740619440153348782626150048423694150773469495796876459198416025319383105106270681479679315139526594544575197393822646413323116979989828681596962 := by decide +kernel
def zL_wsX11_closeEdition_r1 : List Nat := [409, 411, 3, 53, 412, 113, 96, 119, 98, 120, 413, 415, 4, 416, 144, 145, 146, 147, 148, 149, 787, 789, 21, 790]
set_option maxRecDepth 100000 in
theorem q_wsX11_closeEdition_r1 : wsX11_closeEdition_r1 = List.map zw zL_wsX11_closeEdition_r1 := zq_n _ (id rfl)
def zL_wsX11_closeEdition_r2 : List Nat := [91, 655, 422, 423, 54, 424, 90, 92, 151, 152, 230, 232, 1, 233, 115, 114, 791, 793, 22, 794, 202, 307, 361, 427]
set_option maxRecDepth 100000 in
theorem q_wsX11_closeEdition_r2 : wsX11_closeEdition_r2 = List.map zw zL_wsX11_closeEdition_r2 := zq_n _ (id rfl)
def zL_wsX11_closeEdition_r3 : List Nat := [429, 5, 430]
set_option maxRecDepth 100000 in
theorem q_wsX11_closeEdition_r3 : wsX11_closeEdition_r3 = List.map zw zL_wsX11_closeEdition_r3 := zq_n _ (id rfl)
def zL_wsX11_closeEdition : List Nat := 786 :: (((((((((zL_wsX11_closeEdition_r1 ++ (zL_wsX11_closeEdition_r2 ++ zL_wsX11_closeEdition_r3)) ++ zL_wsX110) ++ zL_wsX90) ++ zL_wsX20) ++ zL_wsX30) ++ zL_wsX50) ++ zL_wsX60) ++ zL_wsX70) ++ zL_wsX100)
set_option maxRecDepth 100000 in
theorem q_wsX11_closeEdition : wsX11_closeEdition = List.map zw zL_wsX11_closeEdition := zq_c (i := 786) rfl (zq_a (zq_a (zq_a (zq_a (zq_a (zq_a (zq_a (zq_a (zq_a q_wsX11_closeEdition_r1 (zq_a q_wsX11_closeEdition_r2 q_wsX11_closeEdition_r3)) q_wsX110) q_wsX90) q_wsX20) q_wsX30) q_wsX50) q_wsX60) q_wsX70) q_wsX100)
set_option maxRecDepth 100000 in
theorem k_wsX11_closeEdition : zm zL_wsX11_closeEdition = 180293603135118130091392477007416821541450829237524575422775920687052563304016923144524278315373484344914532561217474345386774053501438989004085844936514920169301334501604191903037222848268683379478425226394132869918198932409510067253018682 := by decide +kernel
def zL_wsX11_edition_r1 : List Nat := [120, 783, 785, 20, 53, 786, 409, 411, 3, 412, 113, 96, 119, 98, 413, 415, 4, 416, 144, 145, 146, 147, 148, 149]
set_option maxRecDepth 100000 in
theorem q_wsX11_edition_r1 : wsX11_edition_r1 = List.map zw zL_wsX11_edition_r1 := zq_n _ (id rfl)
def zL_wsX11_edition_r2 : List Nat := [787, 789, 21, 790, 91, 655, 422, 423, 54, 424, 90, 92, 151, 152, 230, 232, 1, 233, 115, 114, 791, 793, 22, 794]
set_option maxRecDepth 100000 in
theorem q_wsX11_edition_r2 : wsX11_edition_r2 = List.map zw zL_wsX11_edition_r2 := zq_n _ (id rfl)
def zL_wsX11_edition_r3 : List Nat := [202, 307, 361, 427, 429, 5, 430]
set_option maxRecDepth 100000 in
theorem q_wsX11_edition_r3 : wsX11_edition_r3 = List.map zw zL_wsX11_edition_r3 := zq_n _ (id rfl)
def zL_wsX11_edition : List Nat := 782 :: (((((((((zL_wsX11_edition_r1 ++ (zL_wsX11_edition_r2 ++ zL_wsX11_edition_r3)) ++ zL_wsX110) ++ zL_wsX90) ++ zL_wsX20) ++ zL_wsX30) ++ zL_wsX50) ++ zL_wsX60) ++ zL_wsX70) ++ zL_wsX100)
set_option maxRecDepth 100000 in
theorem q_wsX11_edition : wsX11_edition = List.map zw zL_wsX11_edition := zq_c (i := 782) rfl (zq_a (zq_a (zq_a (zq_a (zq_a (zq_a (zq_a (zq_a (zq_a q_wsX11_edition_r1 (zq_a q_wsX11_edition_r2 q_wsX11_edition_r3)) q_wsX110) q_wsX90) q_wsX20) q_wsX30) q_wsX50) q_wsX60) q_wsX70) q_wsX100)
set_option maxRecDepth 100000 in
theorem k_wsX11_edition : zm zL_wsX11_edition = 180573404155784933058520766686745487601969446263073414952821845201553770310913872732486374545726218327756681261994634095924283120343309537312969500166371941998933318195202573556415113859106352577598613425160821226782359844840892212465107002 := by decide +kernel
def zL_wsX11_clearDesk_r1 : List Nat := [115, 114, 112, 117, 116, 803, 805, 806, 804, 57, 812, 190, 194, 807, 808, 809, 810, 811, 813, 814, 815, 54, 816, 92]
set_option maxRecDepth 100000 in
theorem q_wsX11_clearDesk_r1 : wsX11_clearDesk_r1 = List.map zw zL_wsX11_clearDesk_r1 := zq_n _ (id rfl)
def zL_wsX11_clearDesk_r2 : List Nat := [87, 88, 55, 89]
set_option maxRecDepth 100000 in
theorem q_wsX11_clearDesk_r2 : wsX11_clearDesk_r2 = List.map zw zL_wsX11_clearDesk_r2 := zq_n _ (id rfl)
def zL_wsX11_clearDesk : List Nat := 802 :: (((((((((zL_wsX11_clearDesk_r1 ++ zL_wsX11_clearDesk_r2) ++ zL_wsX110) ++ zL_wsX20) ++ zL_wsX30) ++ zL_wsX50) ++ zL_wsX60) ++ zL_wsX70) ++ zL_wsX100) ++ zL_wsX90)
set_option maxRecDepth 100000 in
theorem q_wsX11_clearDesk : wsX11_clearDesk = List.map zw zL_wsX11_clearDesk := zq_c (i := 802) rfl (zq_a (zq_a (zq_a (zq_a (zq_a (zq_a (zq_a (zq_a (zq_a q_wsX11_clearDesk_r1 q_wsX11_clearDesk_r2) q_wsX110) q_wsX20) q_wsX30) q_wsX50) q_wsX60) q_wsX70) q_wsX100) q_wsX90)
set_option maxRecDepth 100000 in
theorem k_wsX11_clearDesk : zm zL_wsX11_clearDesk = 873963315688696739995098014506253816956169183789301450766816718872288832686281400350171075703832877779094337533039676736014850098750969841432442520221520162843210811485394350204455234138353888453096132271077695234513789300793776407246806263529472 := by decide +kernel
def zL_wsX11_day_r1 : List Nat := [119, 120, 783, 785, 20, 53, 786, 409, 411, 3, 412, 113, 96, 98, 413, 415, 4, 416, 144, 145, 146, 147, 148, 149]
set_option maxRecDepth 100000 in
theorem q_wsX11_day_r1 : wsX11_day_r1 = List.map zw zL_wsX11_day_r1 := zq_n _ (id rfl)
def zL_wsX11_day_r2 : List Nat := [787, 789, 21, 790, 91, 655, 422, 423, 54, 424, 90, 92, 151, 152, 230, 232, 1, 233, 115, 114, 791, 793, 22, 794]
set_option maxRecDepth 100000 in
theorem q_wsX11_day_r2 : wsX11_day_r2 = List.map zw zL_wsX11_day_r2 := zq_n _ (id rfl)
def zL_wsX11_day_r3 : List Nat := [202, 307, 361, 427, 429, 5, 430, 799, 801, 23, 802, 112, 117, 116, 803, 805, 806, 804, 57, 812, 190, 194, 807, 808]
set_option maxRecDepth 100000 in
theorem q_wsX11_day_r3 : wsX11_day_r3 = List.map zw zL_wsX11_day_r3 := zq_n _ (id rfl)
def zL_wsX11_day_r4 : List Nat := [809, 810, 811, 813, 814, 815, 816, 87, 88, 55, 89]
set_option maxRecDepth 100000 in
theorem q_wsX11_day_r4 : wsX11_day_r4 = List.map zw zL_wsX11_day_r4 := zq_n _ (id rfl)
def zL_wsX11_day : List Nat := 798 :: (((((((((zL_wsX11_day_r1 ++ (zL_wsX11_day_r2 ++ (zL_wsX11_day_r3 ++ zL_wsX11_day_r4))) ++ zL_wsX110) ++ zL_wsX90) ++ zL_wsX20) ++ zL_wsX30) ++ zL_wsX50) ++ zL_wsX60) ++ zL_wsX70) ++ zL_wsX100)
set_option maxRecDepth 100000 in
theorem q_wsX11_day : wsX11_day = List.map zw zL_wsX11_day := zq_c (i := 798) rfl (zq_a (zq_a (zq_a (zq_a (zq_a (zq_a (zq_a (zq_a (zq_a q_wsX11_day_r1 (zq_a q_wsX11_day_r2 (zq_a q_wsX11_day_r3 q_wsX11_day_r4))) q_wsX110) q_wsX90) q_wsX20) q_wsX30) q_wsX50) q_wsX60) q_wsX70) q_wsX100)
set_option maxRecDepth 100000 in
theorem k_wsX11_day : zm zL_wsX11_day = 873981833276354858955029977425964107221629291978805262083232804126214156751436890943426893223114708429363664440854710915065280070279870946473795544276118105921894162463678928564122469805780888430683853460535377378194248505350807690303125872181306 := by decide +kernel
def zL_wsX11_cell : List Nat := 820 :: (([112, 144, 145, 53, 146, 147, 148, 149, 655, 422, 423, 54, 424, 90, 92, 151, 152] ++ zL_wsX110) ++ zL_wsX90)
set_option maxRecDepth 100000 in
theorem q_wsX11_cell : wsX11_cell = List.map zw zL_wsX11_cell := zq_c (i := 820) rfl (zq_a (zq_a (zq_n _ (id rfl) : ([.fieldLink RX11 11 "PageOne" "pages" "[LPageOne$Sheet;", .methodLink RX11 48 yX11_isPage, .static yX11_isPage, .initialized RX11, .code yX11_isPage cX11_isPage 1 (some .boolean), .methodLink RX11 55 yX11_isWithin, .static yX11_isWithin, .code yX11_isWithin cX11_isWithin 3 (some .boolean), .methodLink RX11 222 yX9_at, .instanceMethod yX9_at, .selects RX9 yX9_at yX9_at, .initialized RX9, .code yX9_at cX9_at 3 (some .int), .fieldLink RX9 9 "PageOne$Sheet" "lines" "[I", .fieldLink RX9 15 "PageOne$Sheet" "cells" "[I", .static yX11_isColumn, .code yX11_isColumn cX11_isColumn 1 (some .boolean)] : List Cond) = List.map zw [112, 144, 145, 53, 146, 147, 148, 149, 655, 422, 423, 54, 424, 90, 92, 151, 152]) q_wsX110) q_wsX90)
set_option maxRecDepth 100000 in
theorem k_wsX11_cell : zm zL_wsX11_cell = 6991919901971426075297554671307333615898862102580875217249824675321211544593036954173791392772816432781863692910846377058282576972486924426105596909619244013454459775442728454449091839511644431310399518242189640122705728786390578420948871032078336 := by decide +kernel
def zL_wsX11_piece_r1 : List Nat := [197, 193, 321, 325, 328, 332, 337, 161, 230, 232, 1, 53, 233, 115, 114, 147, 148, 149, 825, 571, 572, 58, 573, 195]
set_option maxRecDepth 100000 in
theorem q_wsX11_piece_r1 : wsX11_piece_r1 = List.map zw zL_wsX11_piece_r1 := zq_n _ (id rfl)
def zL_wsX11_piece_r2 : List Nat := [196, 562, 563, 564, 565, 191, 192, 336, 319, 826]
set_option maxRecDepth 100000 in
theorem q_wsX11_piece_r2 : wsX11_piece_r2 = List.map zw zL_wsX11_piece_r2 := zq_n _ (id rfl)
def zL_wsX11_piece : List Nat := 824 :: (((((((((zL_wsX11_piece_r1 ++ zL_wsX11_piece_r2) ++ zL_wsX20) ++ zL_wsX30) ++ zL_wsX50) ++ zL_wsX60) ++ zL_wsX70) ++ zL_wsX100) ++ zL_wsX80) ++ zL_wsX110)
set_option maxRecDepth 100000 in
theorem q_wsX11_piece : wsX11_piece = List.map zw zL_wsX11_piece := zq_c (i := 824) rfl (zq_a (zq_a (zq_a (zq_a (zq_a (zq_a (zq_a (zq_a (zq_a q_wsX11_piece_r1 q_wsX11_piece_r2) q_wsX20) q_wsX30) q_wsX50) q_wsX60) q_wsX70) q_wsX100) q_wsX80) q_wsX110)
set_option maxRecDepth 100000 in
theorem k_wsX11_piece : zm zL_wsX11_piece = 783095029020799720433326123186421364980672555489041280101914640297568156396422803070165347552949051560394456199172043162450657334376677862950209829177198386270484612175442242331269024395535808057135405992273437725648501876838647870789245429430091778 := by decide +kernel
def zL_wsX11_ownerOf : List Nat := 834 :: (((((([242, 249, 184, 185, 404, 441, 183] ++ zL_wsX30) ++ zL_wsX20) ++ zL_wsX50) ++ zL_wsX60) ++ zL_wsX70) ++ zL_wsX100)
set_option maxRecDepth 100000 in
theorem q_wsX11_ownerOf : wsX11_ownerOf = List.map zw zL_wsX11_ownerOf := zq_c (i := 834) rfl (zq_a (zq_a (zq_a (zq_a (zq_a (zq_a (zq_n _ (id rfl) : ([.classLink RX11 83 "PageOne$Head", .fieldLink RX11 292 "PageOne$Head" "owner" "LPageOne$Story;", .fieldLink RX11 296 "PageOne$Story" "number" "I", .sameField "PageOne$Story" "PageOne$Item" "number" "I", .classLink RX11 119 "PageOne$Notice", .fieldLink RX11 288 "PageOne$Notice" "mended" "LPageOne$Item;", .fieldLink RX11 285 "PageOne$Item" "number" "I"] : List Cond) = List.map zw [242, 249, 184, 185, 404, 441, 183]) q_wsX30) q_wsX20) q_wsX50) q_wsX60) q_wsX70) q_wsX100)
set_option maxRecDepth 100000 in
theorem k_wsX11_ownerOf : zm zL_wsX11_ownerOf = 114555615673899844817675135734699353962886956688682610117765798809244256021411616637381137063298513501717438036876010265544792229725681886120661970103957604494853179201562340695878711251865909947272776776488002236200073917976046430935070122603947491328 := by decide +kernel
def zL_wsX11_item_r1 : List Nat := [189, 197, 161, 178, 307, 356, 230, 232, 1, 53, 233, 115, 114, 147, 148, 149, 764, 567, 568, 58, 569, 195, 196, 570]
set_option maxRecDepth 100000 in
theorem q_wsX11_item_r1 : wsX11_item_r1 = List.map zw zL_wsX11_item_r1 := zq_n _ (id rfl)
def zL_wsX11_item_r2 : List Nat := [571, 572, 573, 562, 563, 564, 565, 191, 192, 336, 319, 831, 833, 24, 834, 242, 249, 184, 185, 404, 441, 183]
set_option maxRecDepth 100000 in
theorem q_wsX11_item_r2 : wsX11_item_r2 = List.map zw zL_wsX11_item_r2 := zq_n _ (id rfl)
def zL_wsX11_item : List Nat := 830 :: (((((((((zL_wsX11_item_r1 ++ zL_wsX11_item_r2) ++ zL_wsX20) ++ zL_wsX30) ++ zL_wsX50) ++ zL_wsX60) ++ zL_wsX70) ++ zL_wsX100) ++ zL_wsX110) ++ zL_wsX80)
set_option maxRecDepth 100000 in
theorem q_wsX11_item : wsX11_item = List.map zw zL_wsX11_item := zq_c (i := 830) rfl (zq_a (zq_a (zq_a (zq_a (zq_a (zq_a (zq_a (zq_a (zq_a q_wsX11_item_r1 q_wsX11_item_r2) q_wsX20) q_wsX30) q_wsX50) q_wsX60) q_wsX70) q_wsX100) q_wsX110) q_wsX80)
set_option maxRecDepth 100000 in
theorem k_wsX11_item : zm zL_wsX11_item = 193312601449705988129923823933073954120818550630180810983433340866669475574328355403928220367127843262748399992375274101107921394618233750304266470623215266398792290020693419615398484975062927325847680546713474259123771757470841512184261223816546484226 := by decide +kernel
def zL_wsX11_shortOf : List Nat := 838 :: (([112, 144, 145, 53, 146, 147, 148, 149, 150, 151, 152, 839, 685, 686, 54, 687, 90, 421, 422, 423, 424, 92] ++ zL_wsX110) ++ zL_wsX90)
set_option maxRecDepth 100000 in
theorem q_wsX11_shortOf : wsX11_shortOf = List.map zw zL_wsX11_shortOf := zq_c (i := 838) rfl (zq_a (zq_a (zq_n _ (id rfl) : ([.fieldLink RX11 11 "PageOne" "pages" "[LPageOne$Sheet;", .methodLink RX11 48 yX11_isPage, .static yX11_isPage, .initialized RX11, .code yX11_isPage cX11_isPage 1 (some .boolean), .methodLink RX11 55 yX11_isWithin, .static yX11_isWithin, .code yX11_isWithin cX11_isWithin 3 (some .boolean), .methodLink RX11 52 yX11_isColumn, .static yX11_isColumn, .code yX11_isColumn cX11_isColumn 1 (some .boolean), .methodLink RX11 263 yX9_emptyIn, .instanceMethod yX9_emptyIn, .selects RX9 yX9_emptyIn yX9_emptyIn, .initialized RX9, .code yX9_emptyIn cX9_emptyIn 4 (some .int), .fieldLink RX9 9 "PageOne$Sheet" "lines" "[I", .methodLink RX9 60 yX9_at, .instanceMethod yX9_at, .selects RX9 yX9_at yX9_at, .code yX9_at cX9_at 3 (some .int), .fieldLink RX9 15 "PageOne$Sheet" "cells" "[I"] : List Cond) = List.map zw [112, 144, 145, 53, 146, 147, 148, 149, 150, 151, 152, 839, 685, 686, 54, 687, 90, 421, 422, 423, 424, 92]) q_wsX110) q_wsX90)
set_option maxRecDepth 100000 in
theorem k_wsX11_shortOf : zm zL_wsX11_shortOf = 5498669552347192551248406515265568990218573922180451543918096921661074422699660084521186016409001774806312951108217046598509307633966856329579449939753884374833870517361756847878352999866686502889958916635581070627233800608260283353433492844083962445824 := by decide +kernel
def zL_wsX11_broken_r1 : List Nat := [748, 750, 752, 144, 145, 53, 146, 147, 148, 149, 688, 690, 15, 691, 115, 114, 741, 742, 66, 692, 694, 16, 695, 696]
set_option maxRecDepth 100000 in
theorem q_wsX11_broken_r1 : wsX11_broken_r1 = List.map zw zL_wsX11_broken_r1 := zq_n _ (id rfl)
def zL_wsX11_broken_r2 : List Nat := [698, 699, 697, 57, 705, 194, 190, 320, 700, 701, 702, 703, 704, 706, 708, 17, 709, 307, 356, 242, 457, 459, 7, 460]
set_option maxRecDepth 100000 in
theorem q_wsX11_broken_r2 : wsX11_broken_r2 = List.map zw zL_wsX11_broken_r2 := zq_n _ (id rfl)
def zL_wsX11_broken_r3 : List Nat := [118, 710, 711, 712, 161, 180, 713, 715, 716, 714, 722, 723, 725, 726, 724, 732, 733, 734, 735, 62, 736, 322, 329, 317]
set_option maxRecDepth 100000 in
theorem q_wsX11_broken_r3 : wsX11_broken_r3 = List.map zw zL_wsX11_broken_r3 := zq_n _ (id rfl)
def zL_wsX11_broken_r4 : List Nat := [326, 333, 737, 738, 739, 740, 727, 728, 729, 730, 731, 717, 718, 719, 720, 721, 743, 744, 745, 746, 74, 75, 747, 749]
set_option maxRecDepth 100000 in
theorem q_wsX11_broken_r4 : wsX11_broken_r4 = List.map zw zL_wsX11_broken_r4 := zq_n _ (id rfl)
def zL_wsX11_broken_r5 : List Nat := [751, 760, 762, 18, 763, 175, 764, 567, 568, 58, 569, 195, 196, 570, 571, 572, 573, 562, 563, 564, 565, 191, 192, 336]
set_option maxRecDepth 100000 in
theorem q_wsX11_broken_r5 : wsX11_broken_r5 = List.map zw zL_wsX11_broken_r5 := zq_n _ (id rfl)
def zL_wsX11_broken_r6 : List Nat := [319, 765, 767, 19, 768, 325, 332, 112, 321, 328, 337, 249, 184, 185, 769, 770, 771, 552, 553, 655, 422, 423, 54, 424]
set_option maxRecDepth 100000 in
theorem q_wsX11_broken_r6 : wsX11_broken_r6 = List.map zw zL_wsX11_broken_r6 := zq_n _ (id rfl)
def zL_wsX11_broken_r7 : List Nat := [90, 92, 151, 152]
set_option maxRecDepth 100000 in
theorem q_wsX11_broken_r7 : wsX11_broken_r7 = List.map zw zL_wsX11_broken_r7 := zq_n _ (id rfl)
def zL_wsX11_broken : List Nat := 843 :: (((((((((((zL_wsX11_broken_r1 ++ (zL_wsX11_broken_r2 ++ (zL_wsX11_broken_r3 ++ (zL_wsX11_broken_r4 ++ (zL_wsX11_broken_r5 ++ (zL_wsX11_broken_r6 ++ zL_wsX11_broken_r7)))))) ++ zL_wsX10) ++ zL_wsX110) ++ zL_wsX20) ++ zL_wsX30) ++ zL_wsX50) ++ zL_wsX60) ++ zL_wsX70) ++ zL_wsX100) ++ zL_wsX80) ++ zL_wsX90)
set_option maxRecDepth 100000 in
theorem q_wsX11_broken : wsX11_broken = List.map zw zL_wsX11_broken := zq_c (i := 843) rfl (zq_a (zq_a (zq_a (zq_a (zq_a (zq_a (zq_a (zq_a (zq_a (zq_a (zq_a q_wsX11_broken_r1 (zq_a q_wsX11_broken_r2 (zq_a q_wsX11_broken_r3 (zq_a q_wsX11_broken_r4 (zq_a q_wsX11_broken_r5 (zq_a q_wsX11_broken_r6 q_wsX11_broken_r7)))))) q_wsX10) q_wsX110) q_wsX20) q_wsX30) q_wsX50) q_wsX60) q_wsX70) q_wsX100) q_wsX80) q_wsX90)
set_option maxRecDepth 100000 in
theorem k_wsX11_broken : zm zL_wsX11_broken = 58652475225036720546674104504888439035575821400582433023209670570640130432614193686246013091503218743203795584053441826732122868686392817758249374355166659154677203896773528104962356101125999934344807711825255630458768307870075101040118426740915675562112 := by decide +kernel
def zL_wsX11_printed_r1 : List Nat := [230, 232, 1, 53, 233, 115, 114, 147, 148, 149, 405, 407, 2, 408, 202, 113, 183, 409, 411, 3, 412, 96, 119, 98]
set_option maxRecDepth 100000 in
theorem q_wsX11_printed_r1 : wsX11_printed_r1 = List.map zw zL_wsX11_printed_r1 := zq_n _ (id rfl)
def zL_wsX11_printed_r2 : List Nat := [120, 413, 415, 4, 416, 144, 145, 146, 417, 418, 419, 54, 420, 90, 421, 422, 423, 424, 92, 151, 152, 427, 429, 5]
set_option maxRecDepth 100000 in
theorem q_wsX11_printed_r2 : wsX11_printed_r2 = List.map zw zL_wsX11_printed_r2 := zq_n _ (id rfl)
def zL_wsX11_printed_r3 : List Nat := [430]
set_option maxRecDepth 100000 in
theorem q_wsX11_printed_r3 : wsX11_printed_r3 = List.map zw zL_wsX11_printed_r3 := zq_n _ (id rfl)
def zL_wsX11_printed : List Nat := 847 :: (((((((((zL_wsX11_printed_r1 ++ (zL_wsX11_printed_r2 ++ zL_wsX11_printed_r3)) ++ zL_wsX110) ++ zL_wsX20) ++ zL_wsX30) ++ zL_wsX50) ++ zL_wsX60) ++ zL_wsX70) ++ zL_wsX100) ++ zL_wsX90)
set_option maxRecDepth 100000 in
theorem q_wsX11_printed : wsX11_printed = List.map zw zL_wsX11_printed := zq_c (i := 847) rfl (zq_a (zq_a (zq_a (zq_a (zq_a (zq_a (zq_a (zq_a (zq_a q_wsX11_printed_r1 (zq_a q_wsX11_printed_r2 q_wsX11_printed_r3)) q_wsX110) q_wsX20) q_wsX30) q_wsX50) q_wsX60) q_wsX70) q_wsX100) q_wsX90)
set_option maxRecDepth 100000 in
theorem k_wsX11_printed : zm zL_wsX11_printed = 938439603600587528746394711938657107663969949193687942084737423845328945327403963493426274822541422606069252398088182838777409702729858237002613441204521591955231892436112441019249931552607873123585695005101206649149251528475135757770650985598311259439166 := by decide +kernel
def zL_wsX11_plated : List Nat := 851 :: (([113, 413, 415, 4, 53, 416, 144, 145, 146, 147, 148, 149, 655, 422, 423, 54, 424, 90, 92, 151, 152] ++ zL_wsX110) ++ zL_wsX90)
set_option maxRecDepth 100000 in
theorem q_wsX11_plated : wsX11_plated = List.map zw zL_wsX11_plated := zq_c (i := 851) rfl (zq_a (zq_a (zq_n _ (id rfl) : ([.fieldLink RX11 15 "PageOne" "plates" "[LPageOne$Sheet;", .methodLink RX11 272 yX11_hasPlate, .instanceMethod yX11_hasPlate, .selects RX11 yX11_hasPlate yX11_hasPlate, .initialized RX11, .code yX11_hasPlate cX11_hasPlate 2 (some .boolean), .methodLink RX11 48 yX11_isPage, .static yX11_isPage, .code yX11_isPage cX11_isPage 1 (some .boolean), .methodLink RX11 55 yX11_isWithin, .static yX11_isWithin, .code yX11_isWithin cX11_isWithin 3 (some .boolean), .methodLink RX11 222 yX9_at, .instanceMethod yX9_at, .selects RX9 yX9_at yX9_at, .initialized RX9, .code yX9_at cX9_at 3 (some .int), .fieldLink RX9 9 "PageOne$Sheet" "lines" "[I", .fieldLink RX9 15 "PageOne$Sheet" "cells" "[I", .static yX11_isColumn, .code yX11_isColumn cX11_isColumn 1 (some .boolean)] : List Cond) = List.map zw [113, 413, 415, 4, 53, 416, 144, 145, 146, 147, 148, 149, 655, 422, 423, 54, 424, 90, 92, 151, 152]) q_wsX110) q_wsX90)
set_option maxRecDepth 100000 in
theorem k_wsX11_plated : zm zL_wsX11_plated = 15015033657609400459942315391018513722623519187099007073355948283579421369331387849805995984306796863008833559181216144218791904857373766695756722298042317561911478164790605324132638811794815786257490473506311069654425600200635460565907660151524825864601616 := by decide +kernel
def zL_wsX11_plateOf : List Nat := 855 :: (([113, 96, 98, 413, 415, 4, 53, 416, 144, 145, 146, 147, 148, 149] ++ zL_wsX110) ++ zL_wsX90)
set_option maxRecDepth 100000 in
theorem q_wsX11_plateOf : wsX11_plateOf = List.map zw zL_wsX11_plateOf := zq_c (i := 855) rfl (zq_a (zq_a (zq_n _ (id rfl) : ([.fieldLink RX11 15 "PageOne" "plates" "[LPageOne$Sheet;", .fieldLink RX11 210 "PageOne$Sheet" "day" "I", .fieldLink RX11 213 "PageOne$Sheet" "edition" "I", .methodLink RX11 272 yX11_hasPlate, .instanceMethod yX11_hasPlate, .selects RX11 yX11_hasPlate yX11_hasPlate, .initialized RX11, .code yX11_hasPlate cX11_hasPlate 2 (some .boolean), .methodLink RX11 48 yX11_isPage, .static yX11_isPage, .code yX11_isPage cX11_isPage 1 (some .boolean), .methodLink RX11 55 yX11_isWithin, .static yX11_isWithin, .code yX11_isWithin cX11_isWithin 3 (some .boolean)] : List Cond) = List.map zw [113, 96, 98, 413, 415, 4, 53, 416, 144, 145, 146, 147, 148, 149]) q_wsX110) q_wsX90)
set_option maxRecDepth 100000 in
theorem k_wsX11_plateOf : zm zL_wsX11_plateOf = 240240538521750407359077046256296219561976306993584113173692780504404210003815414654317126354570604187153728613910574803813846101321946783659383492429640961889412894275477498822885248183675067093073505382527189558207028807033859051982817394601103678353965072 := by decide +kernel
def zL_wsX11_wasPrintedOn_r1 : List Nat := [361, 359, 321, 119, 113, 186, 187, 409, 411, 3, 53, 412, 96, 98, 120, 413, 415, 4, 416, 144, 145, 146, 147, 148]
set_option maxRecDepth 100000 in
theorem q_wsX11_wasPrintedOn_r1 : wsX11_wasPrintedOn_r1 = List.map zw zL_wsX11_wasPrintedOn_r1 := zq_n _ (id rfl)
def zL_wsX11_wasPrintedOn_r2 : List Nat := [149, 417, 418, 419, 54, 420, 90, 421, 422, 423, 424, 92, 151, 152]
set_option maxRecDepth 100000 in
theorem q_wsX11_wasPrintedOn_r2 : wsX11_wasPrintedOn_r2 = List.map zw zL_wsX11_wasPrintedOn_r2 := zq_n _ (id rfl)
def zL_wsX11_wasPrintedOn : List Nat := 863 :: ((((((((((zL_wsX11_wasPrintedOn_r1 ++ zL_wsX11_wasPrintedOn_r2) ++ zL_wsX60) ++ zL_wsX80) ++ zL_wsX110) ++ zL_wsX20) ++ zL_wsX30) ++ zL_wsX50) ++ zL_wsX70) ++ zL_wsX100) ++ zL_wsX90)
set_option maxRecDepth 100000 in
theorem q_wsX11_wasPrintedOn : wsX11_wasPrintedOn = List.map zw zL_wsX11_wasPrintedOn := zq_c (i := 863) rfl (zq_a (zq_a (zq_a (zq_a (zq_a (zq_a (zq_a (zq_a (zq_a (zq_a q_wsX11_wasPrintedOn_r1 q_wsX11_wasPrintedOn_r2) q_wsX60) q_wsX80) q_wsX110) q_wsX20) q_wsX30) q_wsX50) q_wsX70) q_wsX100) q_wsX90)
set_option maxRecDepth 100000 in
theorem k_wsX11_wasPrintedOn : zm zL_wsX11_wasPrintedOn = 61501577861568104283923723841611832207865934590357532972465351809127477760976746151505184346770074671911354525161107149776355981507211829551016896747058953379167338767774118590556516238664124050181198340521380986346078721858272414510853233678048902325439823896 := by decide +kernel
def zL_wsX11_bill_r1 : List Nat := [119, 115, 114, 307, 356, 304, 305, 53, 306, 147, 148, 149, 860, 862, 25, 863, 361, 359, 321, 113, 186, 187, 409, 411]
set_option maxRecDepth 100000 in
theorem q_wsX11_bill_r1 : wsX11_bill_r1 = List.map zw zL_wsX11_bill_r1 := zq_n _ (id rfl)
def zL_wsX11_bill_r2 : List Nat := [3, 412, 96, 98, 120, 413, 415, 4, 416, 144, 145, 146, 417, 418, 419, 54, 420, 90, 421, 422, 423, 424, 92, 151]
set_option maxRecDepth 100000 in
theorem q_wsX11_bill_r2 : wsX11_bill_r2 = List.map zw zL_wsX11_bill_r2 := zq_n _ (id rfl)
def zL_wsX11_bill_r3 : List Nat := [152, 864, 865, 866, 61, 867, 358, 330, 334, 357]
set_option maxRecDepth 100000 in
theorem q_wsX11_bill_r3 : wsX11_bill_r3 = List.map zw zL_wsX11_bill_r3 := zq_n _ (id rfl)
def zL_wsX11_bill : List Nat := 859 :: ((((((((((zL_wsX11_bill_r1 ++ (zL_wsX11_bill_r2 ++ zL_wsX11_bill_r3)) ++ zL_wsX110) ++ zL_wsX60) ++ zL_wsX80) ++ zL_wsX20) ++ zL_wsX30) ++ zL_wsX50) ++ zL_wsX70) ++ zL_wsX100) ++ zL_wsX90)
set_option maxRecDepth 100000 in
theorem q_wsX11_bill : wsX11_bill = List.map zw zL_wsX11_bill := zq_c (i := 859) rfl (zq_a (zq_a (zq_a (zq_a (zq_a (zq_a (zq_a (zq_a (zq_a (zq_a q_wsX11_bill_r1 (zq_a q_wsX11_bill_r2 q_wsX11_bill_r3)) q_wsX110) q_wsX60) q_wsX80) q_wsX20) q_wsX30) q_wsX50) q_wsX70) q_wsX100) q_wsX90)
set_option maxRecDepth 100000 in
theorem k_wsX11_bill : zm zL_wsX11_bill = 1948831248488439304496832999231074933086751802331954326064995835451726951550950643675820528988276741166191046516042582808537930953490265367611754076989079018859291516106593700797161894907511070933669954185859729446234599456889820538944781736902627917561453346840 := by decide +kernel
def zL_wsX11_freshPlates : List Nat := 875 :: (([409, 411, 3, 53, 412, 113, 96, 119, 98, 120, 413, 415, 4, 416, 144, 145, 146, 147, 148, 149] ++ zL_wsX110) ++ zL_wsX90)
set_option maxRecDepth 100000 in
theorem q_wsX11_freshPlates : wsX11_freshPlates = List.map zw zL_wsX11_freshPlates := zq_c (i := 875) rfl (zq_a (zq_a (zq_n _ (id rfl) : ([.methodLink RX11 372 yX11_isFresh, .instanceMethod yX11_isFresh, .selects RX11 yX11_isFresh yX11_isFresh, .initialized RX11, .code yX11_isFresh cX11_isFresh 2 (some .boolean), .fieldLink RX11 15 "PageOne" "plates" "[LPageOne$Sheet;", .fieldLink RX11 210 "PageOne$Sheet" "day" "I", .fieldLink RX11 41 "PageOne" "today" "I", .fieldLink RX11 213 "PageOne$Sheet" "edition" "I", .fieldLink RX11 44 "PageOne" "editionNow" "I", .methodLink RX11 272 yX11_hasPlate, .instanceMethod yX11_hasPlate, .selects RX11 yX11_hasPlate yX11_hasPlate, .code yX11_hasPlate cX11_hasPlate 2 (some .boolean), .methodLink RX11 48 yX11_isPage, .static yX11_isPage, .code yX11_isPage cX11_isPage 1 (some .boolean), .methodLink RX11 55 yX11_isWithin, .static yX11_isWithin, .code yX11_isWithin cX11_isWithin 3 (some .boolean)] : List Cond) = List.map zw [409, 411, 3, 53, 412, 113, 96, 119, 98, 120, 413, 415, 4, 416, 144, 145, 146, 147, 148, 149]) q_wsX110) q_wsX90)
set_option maxRecDepth 100000 in
theorem k_wsX11_freshPlates : zm zL_wsX11_freshPlates = 251910462920982955146951572855242064723418868082104455055218081010186148908960752236565235084370225856148908135059894885483907489539473313266419878417796926915748700473130503954021506945839836199617490875264404978366515126924694015800295626446567825391410453938200 := by decide +kernel
def zL_wsX11_about_r1 : List Nat := [119, 120, 115, 117, 872, 874, 26, 53, 875, 409, 411, 3, 412, 113, 96, 98, 413, 415, 4, 416, 144, 145, 146, 147]
set_option maxRecDepth 100000 in
theorem q_wsX11_about_r1 : wsX11_about_r1 = List.map zw zL_wsX11_about_r1 := zq_n _ (id rfl)
def zL_wsX11_about_r2 : List Nat := [148, 149]
set_option maxRecDepth 100000 in
theorem q_wsX11_about_r2 : wsX11_about_r2 = List.map zw zL_wsX11_about_r2 := zq_n _ (id rfl)
def zL_wsX11_about : List Nat := 871 :: (((zL_wsX11_about_r1 ++ zL_wsX11_about_r2) ++ zL_wsX110) ++ zL_wsX90)
set_option maxRecDepth 100000 in
theorem q_wsX11_about : wsX11_about = List.map zw zL_wsX11_about := zq_c (i := 871) rfl (zq_a (zq_a (zq_a q_wsX11_about_r1 q_wsX11_about_r2) q_wsX110) q_wsX90)
set_option maxRecDepth 100000 in
theorem k_wsX11_about : zm zL_wsX11_about = 425098906179158736810480779193220984220769339888551267905680511704689126283871269399203834204874756132251282477913572619254093888597861215936205162313895521163812667819949425694554819935333768076731863187998623589059383097995316999262070226811048230581904718430232 := by decide +kernel
def zL_wsX12_init_r1 : List Nat := [881, 74, 75, 111, 882, 883, 884, 886, 887, 888, 889, 890, 891, 892, 893, 894, 895, 896, 897, 898, 899, 900, 901, 110]
set_option maxRecDepth 100000 in
theorem q_wsX12_init_r1 : wsX12_init_r1 = List.map zw zL_wsX12_init_r1 := zq_n _ (id rfl)
def zL_wsX12_init_r2 : List Nat := [902, 903, 904, 905, 906, 907, 908, 909, 911, 912, 913, 914, 915, 916, 917, 919, 922, 923, 924, 925, 926, 927, 928, 929]
set_option maxRecDepth 100000 in
theorem q_wsX12_init_r2 : wsX12_init_r2 = List.map zw zL_wsX12_init_r2 := zq_n _ (id rfl)
def zL_wsX12_init_r3 : List Nat := [930]
set_option maxRecDepth 100000 in
theorem q_wsX12_init_r3 : wsX12_init_r3 = List.map zw zL_wsX12_init_r3 := zq_n _ (id rfl)
def zL_wsX12_init : List Nat := 880 :: ((zL_wsX12_init_r1 ++ (zL_wsX12_init_r2 ++ zL_wsX12_init_r3)) ++ zL_wsX120)
set_option maxRecDepth 100000 in
theorem q_wsX12_init : wsX12_init = List.map zw zL_wsX12_init := zq_c (i := 880) rfl (zq_a (zq_a q_wsX12_init_r1 (zq_a q_wsX12_init_r2 q_wsX12_init_r3)) q_wsX120)
set_option maxRecDepth 100000 in
theorem k_wsX12_init : zm zL_wsX12_init = 981780144052806127741231208196215758935694891856794969570386599337665965537573221060450424966438831835244228388283880431479333992068091383828321604715158716893432071065769409513603271407989913216952624819961125498742762935790609188155507295553403577692662246612180737985738325071797268680337964940558177337868288 := by decide +kernel
def zL_wsX12_in : List Nat := 1048 :: []
set_option maxRecDepth 100000 in
theorem q_wsX12_in : wsX12_in = List.map zw zL_wsX12_in := zq_c (i := 1048) rfl zq_nil
set_option maxRecDepth 100000 in
theorem k_wsX12_in : zm zL_wsX12_in = 3016028602530220424421062271578867838525126125874252890898307532480811172246863646685486789069132871854112712507200418582406770249989531589552959798883475511096677545853948017425342019529539590198394174553047792145043723038206885734470238620775335376572758801465612196212014773714996912064944617579072807182486470656 := by decide +kernel
def zL_wsX12_isPage : List Nat := 1045 :: [1046, 1047, 56, 1048]
set_option maxRecDepth 100000 in
theorem q_wsX12_isPage : wsX12_isPage = List.map zw zL_wsX12_isPage := zq_c (i := 1045) rfl (zq_n _ (id rfl) : ([.methodLink RX12 143 yX12_in, .static yX12_in, .initialized RX12, .code yX12_in cX12_in 3 (some .boolean)] : List Cond) = List.map zw [1046, 1047, 56, 1048])
set_option maxRecDepth 100000 in
theorem k_wsX12_isPage : zm zL_wsX12_isPage = 5655053629744163295789491759210377197234611486014224170434326623401520947962869337535287729504624134726461335951000784842012694218730371730411799622906516583306270398476152532672516286617886731621989077286964610271956980696637910752131697413953753831073922752748022867897527700715619210121771157960833571061200060416 := by decide +kernel
def zL_wsX12_isItem : List Nat := 1079 :: ([885, 1046, 1047, 56, 1048] ++ zL_wsX120)
set_option maxRecDepth 100000 in
theorem q_wsX12_isItem : wsX12_isItem = List.map zw zL_wsX12_isItem := zq_c (i := 1079) rfl (zq_a (zq_n _ (id rfl) : ([.fieldLink RX12 147 "PageOneModel" "items" "I", .methodLink RX12 143 yX12_in, .static yX12_in, .initialized RX12, .code yX12_in cX12_in 3 (some .boolean)] : List Cond) = List.map zw [885, 1046, 1047, 56, 1048]) q_wsX120)
set_option maxRecDepth 100000 in
theorem k_wsX12_isItem : zm zL_wsX12_isItem = 6476872111112971621851789643869954032057027707507206749350642921835665815729495035999353514513108696813628321947425181742051779028182904706284232919518141302235027098399015589243810589398109211030593010589830915498383055915312048833942665078312667811481701125589220915485479816437778667621104306551687570876119717586061492224 := by decide +kernel
def zL_wsX12_isKind : List Nat := 1075 :: ([886, 1076, 1078, 30, 56, 1079, 885, 1046, 1047, 1048] ++ zL_wsX120)
set_option maxRecDepth 100000 in
theorem q_wsX12_isKind : wsX12_isKind = List.map zw zL_wsX12_isKind := zq_c (i := 1075) rfl (zq_a (zq_n _ (id rfl) : ([.fieldLink RX12 19 "PageOneModel" "kind" "[I", .methodLink RX12 151 yX12_isItem, .instanceMethod yX12_isItem, .selects RX12 yX12_isItem yX12_isItem, .initialized RX12, .code yX12_isItem cX12_isItem 2 (some .boolean), .fieldLink RX12 147 "PageOneModel" "items" "I", .methodLink RX12 143 yX12_in, .static yX12_in, .code yX12_in cX12_in 3 (some .boolean)] : List Cond) = List.map zw [886, 1076, 1078, 30, 56, 1079, 885, 1046, 1047, 1048]) q_wsX120)
set_option maxRecDepth 100000 in
theorem k_wsX12_isKind : zm zL_wsX12_isKind = 10929721683873805225606687271686134787147274002318333353202988711067195459317533624443689491693278997549576184886348130422536432483635912817939013319667178743061803396344078203987553602262736811882839128987386521437321816921748066606049465775325063247320366346310538834312740746852489920339787883713351892727961102911600066560 := by decide +kernel
def zL_wsX12_isBuyer : List Nat := 1098 :: [1046, 1047, 56, 1048]
set_option maxRecDepth 100000 in
theorem q_wsX12_isBuyer : wsX12_isBuyer = List.map zw zL_wsX12_isBuyer := zq_c (i := 1098) rfl (zq_n _ (id rfl) : ([.methodLink RX12 143 yX12_in, .static yX12_in, .initialized RX12, .code yX12_in cX12_in 3 (some .boolean)] : List Cond) = List.map zw [1046, 1047, 56, 1048])
set_option maxRecDepth 100000 in
theorem k_wsX12_isBuyer : zm zL_wsX12_isBuyer = 3395746322623469901243432998783909683367709880348078793342019454262091803923786463220899452813271847676525436720987590566006568986541251704636824567380438898151088920933742002131421280450200677040243466825838641318005076776668742964854138370100805418111526289916958748601623565838622401796890970103892028269947050686667801575292928 := by decide +kernel
def zL_wsX12_isCell : List Nat := 1134 :: ([882, 1043, 1044, 56, 1045, 1046, 1047, 1048] ++ zL_wsX120)
set_option maxRecDepth 100000 in
theorem q_wsX12_isCell : wsX12_isCell = List.map zw zL_wsX12_isCell := zq_c (i := 1134) rfl (zq_a (zq_n _ (id rfl) : ([.fieldLink RX12 7 "PageOneModel" "lines" "[I", .methodLink RX12 155 yX12_isPage, .static yX12_isPage, .initialized RX12, .code yX12_isPage cX12_isPage 1 (some .boolean), .methodLink RX12 143 yX12_in, .static yX12_in, .code yX12_in cX12_in 3 (some .boolean)] : List Cond) = List.map zw [882, 1043, 1044, 56, 1045, 1046, 1047, 1048]) q_wsX120)
set_option maxRecDepth 100000 in
theorem k_wsX12_isCell : zm zL_wsX12_isCell = 233353910418880727661256390670865601481075411663070489794937734967777440163769905288294335284944844871787494316311816248314929049811736471026717421161668394356002240705387065938792331401869904826726875775563009568661135769296411361135882395405257673937197905774640308836044363702469383774786578411060574211020323230730971831011140749752270848 := by decide +kernel
def zL_wsX12_at : List Nat := 1051 :: []
set_option maxRecDepth 100000 in
theorem q_wsX12_at : wsX12_at = List.map zw zL_wsX12_at := zq_c (i := 1051) rfl zq_nil
set_option maxRecDepth 100000 in
theorem k_wsX12_at : zm zL_wsX12_at = 24128228820241763395368498172630942708201009006994023127186460259846489377974909173483894312553062974832901700057603348659254161999916252716423678391067804088773420366831584139402736156236316721587153396424382337160349784305655085875761908966202683012582070411724897569696118189719975296519556940632582457459891765248 := by decide +kernel
def zL_wsX12_column : List Nat := 1042 :: ([910, 884, 882, 1043, 1044, 56, 1045, 1046, 1047, 1048, 1049, 1050, 1051] ++ zL_wsX120)
set_option maxRecDepth 100000 in
theorem q_wsX12_column : wsX12_column = List.map zw zL_wsX12_column := zq_c (i := 1042) rfl (zq_a (zq_n _ (id rfl) : ([.fieldLink RX12 158 "PageOneModel" "acts" "I", .fieldLink RX12 16 "PageOneModel" "cell" "[I", .fieldLink RX12 7 "PageOneModel" "lines" "[I", .methodLink RX12 155 yX12_isPage, .static yX12_isPage, .initialized RX12, .code yX12_isPage cX12_isPage 1 (some .boolean), .methodLink RX12 143 yX12_in, .static yX12_in, .code yX12_in cX12_in 3 (some .boolean), .methodLink RX12 161 yX12_at, .static yX12_at, .code yX12_at cX12_at 3 (some .int)] : List Cond) = List.map zw [910, 884, 882, 1043, 1044, 56, 1045, 1046, 1047, 1048, 1049, 1050, 1051]) q_wsX120)
set_option maxRecDepth 100000 in
theorem k_wsX12_column : zm zL_wsX12_column = 48210313973713044902733158478476661804060759815498619351960125811490450108212175748697582709093255069485188331954370435589700471647196165166551489300537249593888073276092049923713838252430151580385156616009636385640047752146854758606312536650892753704435650230341696506628396972545855825830444931391421022832313761792 := by decide +kernel
def zL_wsX12_hasPiece : List Nat := 1059 :: ([884] ++ zL_wsX120)
set_option maxRecDepth 100000 in
theorem q_wsX12_hasPiece : wsX12_hasPiece = List.map zw zL_wsX12_hasPiece := zq_c (i := 1059) rfl (zq_a (zq_n _ (id rfl) : ([.fieldLink RX12 16 "PageOneModel" "cell" "[I"] : List Cond) = List.map zw [884]) q_wsX120)
set_option maxRecDepth 100000 in
theorem k_wsX12_hasPiece : zm zL_wsX12_hasPiece = 6176827559762035482020463273424729529497093994032119648487462667745140469906396056382307324455220322824286436896778957208373449749582473697843795299894419885862160169563040632437622589540095064080974993948870799844148666954808376160139082618471020582634839081541650785595365723251650927046175076045613164755684870324224 := by decide +kernel
def zL_wsX12_measure : List Nat := 1055 :: ([910, 883, 1043, 1044, 56, 1045, 1046, 1047, 1048, 1056, 1058, 27, 1059, 884] ++ zL_wsX120)
set_option maxRecDepth 100000 in
theorem q_wsX12_measure : wsX12_measure = List.map zw zL_wsX12_measure := zq_c (i := 1055) rfl (zq_a (zq_n _ (id rfl) : ([.fieldLink RX12 158 "PageOneModel" "acts" "I", .fieldLink RX12 13 "PageOneModel" "measure" "[I", .methodLink RX12 155 yX12_isPage, .static yX12_isPage, .initialized RX12, .code yX12_isPage cX12_isPage 1 (some .boolean), .methodLink RX12 143 yX12_in, .static yX12_in, .code yX12_in cX12_in 3 (some .boolean), .methodLink RX12 165 yX12_hasPiece, .instanceMethod yX12_hasPiece, .selects RX12 yX12_hasPiece yX12_hasPiece, .code yX12_hasPiece cX12_hasPiece 4 (some .boolean), .fieldLink RX12 16 "PageOneModel" "cell" "[I"] : List Cond) = List.map zw [910, 883, 1043, 1044, 56, 1045, 1046, 1047, 1048, 1056, 1058, 27, 1059, 884]) q_wsX120)
set_option maxRecDepth 100000 in
theorem k_wsX12_measure : zm zL_wsX12_measure = 10429333638435817211065897918154946342197567929978960316867053620441065751117151815866647934551584509299588671338519655493520513913302294090326843151449511991544032588185272499904127459556634332689003002719524656489401469440132640256992818452205918808001203084580498221040872412881039091849867019640414042320777429123072 := by decide +kernel
def zL_wsX12_forget : List Nat := 1238 :: ([910, 918] ++ zL_wsX120)
set_option maxRecDepth 100000 in
theorem q_wsX12_forget : wsX12_forget = List.map zw zL_wsX12_forget := zq_c (i := 1238) rfl (zq_a (zq_n _ (id rfl) : ([.fieldLink RX12 158 "PageOneModel" "acts" "I", .fieldLink RX12 168 "PageOneModel" "filled" "I"] : List Cond) = List.map zw [910, 918]) q_wsX120)
set_option maxRecDepth 100000 in
theorem k_wsX12_forget : zm zL_wsX12_forget = 4732979593729578064960715131457657452581434994165967875832900294590661665545950529408069592171686715708190681666731954412003558852376983893695249835360964287266377288503531909917165133735994230287064528457511332005537765033313695095729406226629526511866968218321394982718534855525457286367800135914337899154145686090234014160996312506207385179620885346943483541056003244032 := by decide +kernel
def zL_wsX12_made : List Nat := 1067 :: ([885, 886, 887, 888, 889, 890, 891, 892, 897, 899, 904] ++ zL_wsX120)
set_option maxRecDepth 100000 in
theorem q_wsX12_made : wsX12_made = List.map zw zL_wsX12_made := zq_c (i := 1067) rfl (zq_a (zq_n _ (id rfl) : ([.fieldLink RX12 147 "PageOneModel" "items" "I", .fieldLink RX12 19 "PageOneModel" "kind" "[I", .fieldLink RX12 22 "PageOneModel" "least" "[I", .fieldLink RX12 25 "PageOneModel" "most" "[I", .fieldLink RX12 28 "PageOneModel" "wide" "[I", .fieldLink RX12 31 "PageOneModel" "high" "[I", .fieldLink RX12 34 "PageOneModel" "of" "[I", .fieldLink RX12 37 "PageOneModel" "buyer" "[I", .fieldLink RX12 52 "PageOneModel" "come" "[I", .fieldLink RX12 58 "PageOneModel" "sizes" "[I", .fieldLink RX12 74 "PageOneModel" "pieces" "[I"] : List Cond) = List.map zw [885, 886, 887, 888, 889, 890, 891, 892, 897, 899, 904]) q_wsX120)
set_option maxRecDepth 100000 in
theorem k_wsX12_made : zm zL_wsX12_made = 1581267604945144349931676023982772669520858961970742541386383596297579664383651758977668944877389152785879969995531876718356468824168029307884883200204603979123848699633997873893638987124616641606511695141026471245003739494868574175876360938393520985993707011004255351220409810785772248720248251153708330138717564524560384 := by decide +kernel
def zL_wsX12_story : List Nat := 1063 :: ([885, 887, 1046, 1047, 56, 1048, 1064, 1066, 28, 1067, 886, 888, 889, 890, 891, 892, 897, 899, 904] ++ zL_wsX120)
set_option maxRecDepth 100000 in
theorem q_wsX12_story : wsX12_story = List.map zw zL_wsX12_story := zq_c (i := 1063) rfl (zq_a (zq_n _ (id rfl) : ([.fieldLink RX12 147 "PageOneModel" "items" "I", .fieldLink RX12 22 "PageOneModel" "least" "[I", .methodLink RX12 143 yX12_in, .static yX12_in, .initialized RX12, .code yX12_in cX12_in 3 (some .boolean), .methodLink RX12 171 yX12_made, .instanceMethod yX12_made, .selects RX12 yX12_made yX12_made, .code yX12_made cX12_made 3 (some .int), .fieldLink RX12 19 "PageOneModel" "kind" "[I", .fieldLink RX12 25 "PageOneModel" "most" "[I", .fieldLink RX12 28 "PageOneModel" "wide" "[I", .fieldLink RX12 31 "PageOneModel" "high" "[I", .fieldLink RX12 34 "PageOneModel" "of" "[I", .fieldLink RX12 37 "PageOneModel" "buyer" "[I", .fieldLink RX12 52 "PageOneModel" "come" "[I", .fieldLink RX12 58 "PageOneModel" "sizes" "[I", .fieldLink RX12 74 "PageOneModel" "pieces" "[I"] : List Cond) = List.map zw [885, 887, 1046, 1047, 56, 1048, 1064, 1066, 28, 1067, 886, 888, 889, 890, 891, 892, 897, 899, 904]) q_wsX120)
set_option maxRecDepth 100000 in
theorem k_wsX12_story : zm zL_wsX12_story = 2668394360720011669359141814507807687200281042760585527347455821803404931217240698709540986625660829162476933690574140796280343559084193471956350171472203006229768346867666973287599161728534304508625325760128909661736713203059486587144724831692335428645513777802834900941981482967649456924829522323930728791500611557261312 := by decide +kernel
def zL_wsX12_line : List Nat := 1071 :: ([897, 898, 1072, 1074, 29, 56, 1075, 886, 1076, 1078, 30, 1079, 885, 1046, 1047, 1048] ++ zL_wsX120)
set_option maxRecDepth 100000 in
theorem q_wsX12_line : wsX12_line = List.map zw zL_wsX12_line := zq_c (i := 1071) rfl (zq_a (zq_n _ (id rfl) : ([.fieldLink RX12 52 "PageOneModel" "come" "[I", .fieldLink RX12 55 "PageOneModel" "width" "[I", .methodLink RX12 175 yX12_isKind, .instanceMethod yX12_isKind, .selects RX12 yX12_isKind yX12_isKind, .initialized RX12, .code yX12_isKind cX12_isKind 3 (some .boolean), .fieldLink RX12 19 "PageOneModel" "kind" "[I", .methodLink RX12 151 yX12_isItem, .instanceMethod yX12_isItem, .selects RX12 yX12_isItem yX12_isItem, .code yX12_isItem cX12_isItem 2 (some .boolean), .fieldLink RX12 147 "PageOneModel" "items" "I", .methodLink RX12 143 yX12_in, .static yX12_in, .code yX12_in cX12_in 3 (some .boolean)] : List Cond) = List.map zw [897, 898, 1072, 1074, 29, 56, 1075, 886, 1076, 1078, 30, 1079, 885, 1046, 1047, 1048]) q_wsX120)
set_option maxRecDepth 100000 in
theorem k_wsX12_line : zm zL_wsX12_line = 11208024782171357325841368373424646084340414395744028769113495265168903654337565935919234658395838999947187549717548000960740834837890535695134692070528821562250259814267129024157780957424228207855277680322924007356914681205487524079038463947901303955434377623282162567335368948457802294351925476639959010277240686442568482816 := by decide +kernel
def zL_wsX12_head_r1 : List Nat := [885, 891, 889, 890, 1072, 1074, 29, 56, 1075, 886, 1076, 1078, 30, 1079, 1046, 1047, 1048, 1064, 1066, 28, 1067, 887, 888, 892]
set_option maxRecDepth 100000 in
theorem q_wsX12_head_r1 : wsX12_head_r1 = List.map zw zL_wsX12_head_r1 := zq_n _ (id rfl)
def zL_wsX12_head_r2 : List Nat := [897, 899, 904]
set_option maxRecDepth 100000 in
theorem q_wsX12_head_r2 : wsX12_head_r2 = List.map zw zL_wsX12_head_r2 := zq_n _ (id rfl)
def zL_wsX12_head : List Nat := 1083 :: ((zL_wsX12_head_r1 ++ zL_wsX12_head_r2) ++ zL_wsX120)
set_option maxRecDepth 100000 in
theorem q_wsX12_head : wsX12_head = List.map zw zL_wsX12_head := zq_c (i := 1083) rfl (zq_a (zq_a q_wsX12_head_r1 q_wsX12_head_r2) q_wsX120)
set_option maxRecDepth 100000 in
theorem k_wsX12_head : zm zL_wsX12_head = 114815247753707420561859477138751835135206877068419484575960913841140439193656085579935262605595730313378087479902038694933349178320602882289314180995168702142261441073299313608798506022256809559919475219959113014781407472893143476814474526096038325103563530534252908438281625946672365117820804564696542152532342961031782334464 := by decide +kernel
def zL_wsX12_picture : List Nat := 1087 :: ([885, 1064, 1066, 28, 56, 1067, 886, 887, 888, 889, 890, 891, 892, 897, 899, 904] ++ zL_wsX120)
set_option maxRecDepth 100000 in
theorem q_wsX12_picture : wsX12_picture = List.map zw zL_wsX12_picture := zq_c (i := 1087) rfl (zq_a (zq_n _ (id rfl) : ([.fieldLink RX12 147 "PageOneModel" "items" "I", .methodLink RX12 171 yX12_made, .instanceMethod yX12_made, .selects RX12 yX12_made yX12_made, .initialized RX12, .code yX12_made cX12_made 3 (some .int), .fieldLink RX12 19 "PageOneModel" "kind" "[I", .fieldLink RX12 22 "PageOneModel" "least" "[I", .fieldLink RX12 25 "PageOneModel" "most" "[I", .fieldLink RX12 28 "PageOneModel" "wide" "[I", .fieldLink RX12 31 "PageOneModel" "high" "[I", .fieldLink RX12 34 "PageOneModel" "of" "[I", .fieldLink RX12 37 "PageOneModel" "buyer" "[I", .fieldLink RX12 52 "PageOneModel" "come" "[I", .fieldLink RX12 58 "PageOneModel" "sizes" "[I", .fieldLink RX12 74 "PageOneModel" "pieces" "[I"] : List Cond) = List.map zw [885, 1064, 1066, 28, 56, 1067, 886, 887, 888, 889, 890, 891, 892, 897, 899, 904]) q_wsX120)
set_option maxRecDepth 100000 in
theorem k_wsX12_picture : zm zL_wsX12_picture = 1658081828653346007790620486291079713086050923640143130797464600901717882632887187242978186851428843427184776900106953069415192616183719847093592921911596976018305339681629491717273151798287712323610699543546986170831740395881742615285996037046644734726798172017858108679871007690780113446107260640131525327924410147363444752384 := by decide +kernel
def zL_wsX12_size : List Nat := 1091 :: ([899, 900, 901, 1072, 1074, 29, 56, 1075, 886, 1076, 1078, 30, 1079, 885, 1046, 1047, 1048] ++ zL_wsX120)
set_option maxRecDepth 100000 in
theorem q_wsX12_size : wsX12_size = List.map zw zL_wsX12_size := zq_c (i := 1091) rfl (zq_a (zq_n _ (id rfl) : ([.fieldLink RX12 58 "PageOneModel" "sizes" "[I", .fieldLink RX12 61 "PageOneModel" "sizeW" "[I", .fieldLink RX12 64 "PageOneModel" "sizeH" "[I", .methodLink RX12 175 yX12_isKind, .instanceMethod yX12_isKind, .selects RX12 yX12_isKind yX12_isKind, .initialized RX12, .code yX12_isKind cX12_isKind 3 (some .boolean), .fieldLink RX12 19 "PageOneModel" "kind" "[I", .methodLink RX12 151 yX12_isItem, .instanceMethod yX12_isItem, .selects RX12 yX12_isItem yX12_isItem, .code yX12_isItem cX12_isItem 2 (some .boolean), .fieldLink RX12 147 "PageOneModel" "items" "I", .methodLink RX12 143 yX12_in, .static yX12_in, .code yX12_in cX12_in 3 (some .boolean)] : List Cond) = List.map zw [899, 900, 901, 1072, 1074, 29, 56, 1075, 886, 1076, 1078, 30, 1079, 885, 1046, 1047, 1048]) q_wsX120)
set_option maxRecDepth 100000 in
theorem k_wsX12_size : zm zL_wsX12_size = 26540450869996325312196817391597014051020448417700159248306508408523548205035794663586414982451142307494352035103115714700490523063212682885144569466810873596415361654577195108936511132140732795697318400785289735386202123497661635039200330116496408580364759148964666180691988062356701413322181566337302535028239125308468380041216 := by decide +kernel
def zL_wsX12_paid_r1 : List Nat := [885, 892, 893, 894, 895, 889, 890, 896, 1043, 1044, 56, 1045, 1046, 1047, 1048, 1096, 1097, 1098, 1064, 1066, 28, 1067, 886, 887]
set_option maxRecDepth 100000 in
theorem q_wsX12_paid_r1 : wsX12_paid_r1 = List.map zw zL_wsX12_paid_r1 := zq_n _ (id rfl)
def zL_wsX12_paid_r2 : List Nat := [888, 891, 897, 899, 904]
set_option maxRecDepth 100000 in
theorem q_wsX12_paid_r2 : wsX12_paid_r2 = List.map zw zL_wsX12_paid_r2 := zq_n _ (id rfl)
def zL_wsX12_paid : List Nat := 1095 :: ((zL_wsX12_paid_r1 ++ zL_wsX12_paid_r2) ++ zL_wsX120)
set_option maxRecDepth 100000 in
theorem q_wsX12_paid : wsX12_paid = List.map zw zL_wsX12_paid := zq_c (i := 1095) rfl (zq_a (zq_a q_wsX12_paid_r1 q_wsX12_paid_r2) q_wsX120)
set_option maxRecDepth 100000 in
theorem k_wsX12_paid : zm zL_wsX12_paid = 6367024357488561963716143030411493312803960661237381964185464986012689716241692017417123657208554918450373470577847037344547886042222270696104206504082498070103599441279778294582828432182602526308494387061041433349181293081150867483776044662344695695997079328592387412928882195559621196114742826871224959401752472922506220913295360 := by decide +kernel
def zL_wsX12_filler : List Nat := 1102 :: ([885, 887, 888, 1046, 1047, 56, 1048, 1064, 1066, 28, 1067, 886, 889, 890, 891, 892, 897, 899, 904] ++ zL_wsX120)
set_option maxRecDepth 100000 in
theorem q_wsX12_filler : wsX12_filler = List.map zw zL_wsX12_filler := zq_c (i := 1102) rfl (zq_a (zq_n _ (id rfl) : ([.fieldLink RX12 147 "PageOneModel" "items" "I", .fieldLink RX12 22 "PageOneModel" "least" "[I", .fieldLink RX12 25 "PageOneModel" "most" "[I", .methodLink RX12 143 yX12_in, .static yX12_in, .initialized RX12, .code yX12_in cX12_in 3 (some .boolean), .methodLink RX12 171 yX12_made, .instanceMethod yX12_made, .selects RX12 yX12_made yX12_made, .code yX12_made cX12_made 3 (some .int), .fieldLink RX12 19 "PageOneModel" "kind" "[I", .fieldLink RX12 28 "PageOneModel" "wide" "[I", .fieldLink RX12 31 "PageOneModel" "high" "[I", .fieldLink RX12 34 "PageOneModel" "of" "[I", .fieldLink RX12 37 "PageOneModel" "buyer" "[I", .fieldLink RX12 52 "PageOneModel" "come" "[I", .fieldLink RX12 58 "PageOneModel" "sizes" "[I", .fieldLink RX12 74 "PageOneModel" "pieces" "[I"] : List Cond) = List.map zw [885, 887, 888, 1046, 1047, 56, 1048, 1064, 1066, 28, 1067, 886, 889, 890, 891, 892, 897, 899, 904]) q_wsX120)
set_option maxRecDepth 100000 in
theorem k_wsX12_filler : zm zL_wsX12_filler = 54331941164544999106566358540862383590132465223137271699808724797731023790748747659546623803565193324715756535032950902227293099653111758396154729872032393672325443278307713744176581381311328477499938993321897051499568382697247746699964667484209925575669808168306773557775945736772970675199147939859020050964960266840907105863467008 := by decide +kernel
def zL_wsX12_isNow : List Nat := 1114 :: ([922, 923, 920, 924, 921] ++ zL_wsX120)
set_option maxRecDepth 100000 in
theorem q_wsX12_isNow : wsX12_isNow = List.map zw zL_wsX12_isNow := zq_c (i := 1114) rfl (zq_a (zq_n _ (id rfl) : ([.fieldLink RX12 116 "PageOneModel" "isPlated" "[Z", .fieldLink RX12 119 "PageOneModel" "plateDay" "[I", .fieldLink RX12 206 "PageOneModel" "day" "I", .fieldLink RX12 122 "PageOneModel" "plateEdition" "[I", .fieldLink RX12 257 "PageOneModel" "edition" "I"] : List Cond) = List.map zw [922, 923, 920, 924, 921]) q_wsX120)
set_option maxRecDepth 100000 in
theorem k_wsX12_isNow : zm zL_wsX12_isNow = 222543630999451377545602239802526321812524173112505223228707913585129431281820949092524373970216443830170991783360255630538111282242854710762685681808002769651454448208304985224077368417346185725765727866624235714860584316190081704724628646971684272983874754549179046316926969181466154616074884015042107948530846423907971661952094044160 := by decide +kernel
def zL_wsX12_printed : List Nat := 1110 :: ([929, 927, 920, 921, 928, 1076, 1078, 30, 56, 1079, 885, 1046, 1047, 1048, 1111, 1113, 31, 1114, 922, 923, 924] ++ zL_wsX120)
set_option maxRecDepth 100000 in
theorem q_wsX12_printed : wsX12_printed = List.map zw zL_wsX12_printed := zq_c (i := 1110) rfl (zq_a (zq_n _ (id rfl) : ([.fieldLink RX12 137 "PageOneModel" "first" "[I", .fieldLink RX12 131 "PageOneModel" "plateColumn" "[I", .fieldLink RX12 206 "PageOneModel" "day" "I", .fieldLink RX12 257 "PageOneModel" "edition" "I", .fieldLink RX12 134 "PageOneModel" "plateLine" "[I", .methodLink RX12 151 yX12_isItem, .instanceMethod yX12_isItem, .selects RX12 yX12_isItem yX12_isItem, .initialized RX12, .code yX12_isItem cX12_isItem 2 (some .boolean), .fieldLink RX12 147 "PageOneModel" "items" "I", .methodLink RX12 143 yX12_in, .static yX12_in, .code yX12_in cX12_in 3 (some .boolean), .methodLink RX12 260 yX12_isNow, .instanceMethod yX12_isNow, .selects RX12 yX12_isNow yX12_isNow, .code yX12_isNow cX12_isNow 2 (some .boolean), .fieldLink RX12 116 "PageOneModel" "isPlated" "[Z", .fieldLink RX12 119 "PageOneModel" "plateDay" "[I", .fieldLink RX12 122 "PageOneModel" "plateEdition" "[I"] : List Cond) = List.map zw [929, 927, 920, 921, 928, 1076, 1078, 30, 56, 1079, 885, 1046, 1047, 1048, 1111, 1113, 31, 1114, 922, 923, 924]) q_wsX120)
set_option maxRecDepth 100000 in
theorem k_wsX12_printed : zm zL_wsX12_printed = 375542377322099116785461306901671775526542278972736893825477057126701045085475987200865553667028685299168455855588679711200972907339062376532400182320594423688475832267049529291332278064969642654797257195435769799923687638617345524567581763471118619011815657115172233721291181927802150758622884750599625852823089178953257209579727486976 := by decide +kernel
def zL_wsX12_notice_r1 : List Nat := [885, 886, 891, 890, 1076, 1078, 30, 56, 1079, 1046, 1047, 1048, 1107, 1108, 1109, 1110, 929, 927, 920, 921, 928, 1111, 1113, 31]
set_option maxRecDepth 100000 in
theorem q_wsX12_notice_r1 : wsX12_notice_r1 = List.map zw zL_wsX12_notice_r1 := zq_n _ (id rfl)
def zL_wsX12_notice_r2 : List Nat := [1114, 922, 923, 924, 1064, 1066, 28, 1067, 887, 888, 889, 892, 897, 899, 904]
set_option maxRecDepth 100000 in
theorem q_wsX12_notice_r2 : wsX12_notice_r2 = List.map zw zL_wsX12_notice_r2 := zq_n _ (id rfl)
def zL_wsX12_notice : List Nat := 1106 :: ((zL_wsX12_notice_r1 ++ zL_wsX12_notice_r2) ++ zL_wsX120)
set_option maxRecDepth 100000 in
theorem q_wsX12_notice : wsX12_notice = List.map zw zL_wsX12_notice := zq_c (i := 1106) rfl (zq_a (zq_a q_wsX12_notice_r1 q_wsX12_notice_r2) q_wsX120)
set_option maxRecDepth 100000 in
theorem k_wsX12_notice : zm zL_wsX12_notice = 388582043200975790498380321080755289764717212408156294077718054932166869811039393072739811186922057182663491718539948930416050021480470181911383527819644053018856438631013876640711980742591519220236727171781240608842719438293800194333567499107225616083873391218862871407405926691618188194216126680866290624093935451164868815237943394304 := by decide +kernel
def zL_wsX12_rival : List Nat := 1118 :: ([902, 1096, 1097, 56, 1098, 1046, 1047, 1048] ++ zL_wsX120)
set_option maxRecDepth 100000 in
theorem q_wsX12_rival : wsX12_rival = List.map zw zL_wsX12_rival := zq_c (i := 1118) rfl (zq_a (zq_n _ (id rfl) : ([.fieldLink RX12 67 "PageOneModel" "isRival" "[Z", .methodLink RX12 179 yX12_isBuyer, .static yX12_isBuyer, .initialized RX12, .code yX12_isBuyer cX12_isBuyer 1 (some .boolean), .methodLink RX12 143 yX12_in, .static yX12_in, .code yX12_in cX12_in 3 (some .boolean)] : List Cond) = List.map zw [902, 1096, 1097, 56, 1098, 1046, 1047, 1048]) q_wsX120)
set_option maxRecDepth 100000 in
theorem k_wsX12_rival : zm zL_wsX12_rival = 3560704038547286631797989748605187314443363900592803973790219211780573804553286991347615774311102247500676703590121913973427618033217955880086208189326481929075835550942550830038732119352657515362515183351716908058182015884590744931775261074639209617738213695468185396289754337035392815588485243747043827894525387295785622094249411477504 := by decide +kernel
def zL_wsX12_names : List Nat := 1122 :: ([903, 1072, 1074, 29, 56, 1075, 886, 1076, 1078, 30, 1079, 885, 1046, 1047, 1048, 1096, 1097, 1098] ++ zL_wsX120)
set_option maxRecDepth 100000 in
theorem q_wsX12_names : wsX12_names = List.map zw zL_wsX12_names := zq_c (i := 1122) rfl (zq_a (zq_n _ (id rfl) : ([.fieldLink RX12 71 "PageOneModel" "isNamed" "[Z", .methodLink RX12 175 yX12_isKind, .instanceMethod yX12_isKind, .selects RX12 yX12_isKind yX12_isKind, .initialized RX12, .code yX12_isKind cX12_isKind 3 (some .boolean), .fieldLink RX12 19 "PageOneModel" "kind" "[I", .methodLink RX12 151 yX12_isItem, .instanceMethod yX12_isItem, .selects RX12 yX12_isItem yX12_isItem, .code yX12_isItem cX12_isItem 2 (some .boolean), .fieldLink RX12 147 "PageOneModel" "items" "I", .methodLink RX12 143 yX12_in, .static yX12_in, .code yX12_in cX12_in 3 (some .boolean), .methodLink RX12 179 yX12_isBuyer, .static yX12_isBuyer, .code yX12_isBuyer cX12_isBuyer 1 (some .boolean)] : List Cond) = List.map zw [903, 1072, 1074, 29, 56, 1075, 886, 1076, 1078, 30, 1079, 885, 1046, 1047, 1048, 1096, 1097, 1098]) q_wsX120)
set_option maxRecDepth 100000 in
theorem k_wsX12_names : zm zL_wsX12_names = 56971175478426799967237520585640907243884727733318578466081079109022779536491123465284490008802213391433787666384156053071714811931060898103685613584343879759685124366034537843767566623382193744679371982335416082444817997999149935476568961425028104299809429705184270965234451439842062590741959050472196495047853352003728709725429606383616 := by decide +kernel
def zL_wsX12_takes : List Nat := 1150 :: ([909, 905, 904] ++ zL_wsX120)
set_option maxRecDepth 100000 in
theorem q_wsX12_takes : wsX12_takes = List.map zw zL_wsX12_takes := zq_c (i := 1150) rfl (zq_a (zq_n _ (id rfl) : ([.fieldLink RX12 89 "PageOneModel" "pHigh" "[I", .fieldLink RX12 77 "PageOneModel" "pPage" "[I", .fieldLink RX12 74 "PageOneModel" "pieces" "[I"] : List Cond) = List.map zw [909, 905, 904]) q_wsX120)
set_option maxRecDepth 100000 in
theorem k_wsX12_takes : zm zL_wsX12_takes = 15293081873211767368008098429801432684064097488666327503780057588927560141998158178371848417537623574836563927213742544970939333584869603951956593867103540201993498877317529483785448629733060967676821061169406883620120432093942969407027999552166908841019405917475454004827376028870627800587502956497414545991757376289031101360092502138284203311104 := by decide +kernel
def zL_wsX12_from : List Nat := 1154 :: ([1147, 1149, 37, 56, 1150, 909, 905, 904] ++ zL_wsX120)
set_option maxRecDepth 100000 in
theorem q_wsX12_from : wsX12_from = List.map zw zL_wsX12_from := zq_c (i := 1154) rfl (zq_a (zq_n _ (id rfl) : ([.methodLink RX12 186 yX12_takes, .instanceMethod yX12_takes, .selects RX12 yX12_takes yX12_takes, .initialized RX12, .code yX12_takes cX12_takes 5 (some .int), .fieldLink RX12 89 "PageOneModel" "pHigh" "[I", .fieldLink RX12 77 "PageOneModel" "pPage" "[I", .fieldLink RX12 74 "PageOneModel" "pieces" "[I"] : List Cond) = List.map zw [1147, 1149, 37, 56, 1150, 909, 905, 904]) q_wsX120)
set_option maxRecDepth 100000 in
theorem k_wsX12_from : zm zL_wsX12_from = 269540568015357399861142734825250234734534823359842148556154678743062554107005359953298501660506693836649292658906764519671347087060488605092405689067041453209698964665033864892022985042330621441064415561633879184798859947217470529167759298826788878790134374104767441346267961849732556417744849182741174626695465157896999671803911003835155282395136 := by decide +kernel
def zL_wsX12_isFree : List Nat := 1130 :: ([884, 1131, 1133, 33, 56, 1134, 882, 1043, 1044, 1045, 1046, 1047, 1048, 1049, 1050, 1051] ++ zL_wsX120)
set_option maxRecDepth 100000 in
theorem q_wsX12_isFree : wsX12_isFree = List.map zw zL_wsX12_isFree := zq_c (i := 1130) rfl (zq_a (zq_n _ (id rfl) : ([.fieldLink RX12 16 "PageOneModel" "cell" "[I", .methodLink RX12 189 yX12_isCell, .instanceMethod yX12_isCell, .selects RX12 yX12_isCell yX12_isCell, .initialized RX12, .code yX12_isCell cX12_isCell 4 (some .boolean), .fieldLink RX12 7 "PageOneModel" "lines" "[I", .methodLink RX12 155 yX12_isPage, .static yX12_isPage, .code yX12_isPage cX12_isPage 1 (some .boolean), .methodLink RX12 143 yX12_in, .static yX12_in, .code yX12_in cX12_in 3 (some .boolean), .methodLink RX12 161 yX12_at, .static yX12_at, .code yX12_at cX12_at 3 (some .int)] : List Cond) = List.map zw [884, 1131, 1133, 33, 56, 1134, 882, 1043, 1044, 1045, 1046, 1047, 1048, 1049, 1050, 1051]) q_wsX120)
set_option maxRecDepth 100000 in
theorem k_wsX12_isFree : zm zL_wsX12_isFree = 393784723831861227928370197398569325101796515715441793497481241981619359915391646923670955227979400223797585393644226567484443424367696339554941967616347967228594387424359451138947202619601628649910483530993977725637393584077109058509666558377428850391930473230341963089236655283022409311088773497011565641147524943394430510470766766277525504 := by decide +kernel
def zL_wsX12_sets : List Nat := 1146 :: ([884, 1049, 1050, 56, 1051] ++ zL_wsX120)
set_option maxRecDepth 100000 in
theorem q_wsX12_sets : wsX12_sets = List.map zw zL_wsX12_sets := zq_c (i := 1146) rfl (zq_a (zq_n _ (id rfl) : ([.fieldLink RX12 16 "PageOneModel" "cell" "[I", .methodLink RX12 161 yX12_at, .static yX12_at, .initialized RX12, .code yX12_at cX12_at 3 (some .int)] : List Cond) = List.map zw [884, 1049, 1050, 56, 1051]) q_wsX120)
set_option maxRecDepth 100000 in
theorem k_wsX12_sets : zm zL_wsX12_sets = 955817617075735460500506151904814863608314228489285098192615432982607732067826117178224895712888854811210469443925774340861233478568619511044768575667620087448523834872459788545271058744892328790048690184192983099638377899860519448425467686071922152047130607005910449308125967365779741831111917696532786600699492799340763628289742604248568299520 := by decide +kernel
def zL_wsX12_stand : List Nat := 1142 :: ([904, 905, 906, 907, 908, 909, 1143, 1145, 36, 56, 1146, 884, 1049, 1050, 1051] ++ zL_wsX120)
set_option maxRecDepth 100000 in
theorem q_wsX12_stand : wsX12_stand = List.map zw zL_wsX12_stand := zq_c (i := 1142) rfl (zq_a (zq_n _ (id rfl) : ([.fieldLink RX12 74 "PageOneModel" "pieces" "[I", .fieldLink RX12 77 "PageOneModel" "pPage" "[I", .fieldLink RX12 80 "PageOneModel" "pColumn" "[I", .fieldLink RX12 83 "PageOneModel" "pLine" "[I", .fieldLink RX12 86 "PageOneModel" "pWide" "[I", .fieldLink RX12 89 "PageOneModel" "pHigh" "[I", .methodLink RX12 192 yX12_sets, .instanceMethod yX12_sets, .selects RX12 yX12_sets yX12_sets, .initialized RX12, .code yX12_sets cX12_sets 9 none, .fieldLink RX12 16 "PageOneModel" "cell" "[I", .methodLink RX12 161 yX12_at, .static yX12_at, .code yX12_at cX12_at 3 (some .int)] : List Cond) = List.map zw [904, 905, 906, 907, 908, 909, 1143, 1145, 36, 56, 1146, 884, 1049, 1050, 1051]) q_wsX120)
set_option maxRecDepth 100000 in
theorem k_wsX12_stand : zm zL_wsX12_stand = 1612942228815303589594604131310345132065827852686403056739636305326471681757116898869053816344106243557558160293575721612355948112132799592805599660713963146462047496755913148565053759182558484456632728411435120008136975244313268448447947704173673777003245213572315817510173870213279616878992206391249025832544371978223396271794009798136884625408 := by decide +kernel
def zL_wsX12_unstand : List Nat := 1158 :: ([904, 905, 906, 907, 908, 909, 1143, 1145, 36, 56, 1146, 884, 1049, 1050, 1051] ++ zL_wsX120)
set_option maxRecDepth 100000 in
theorem q_wsX12_unstand : wsX12_unstand = List.map zw zL_wsX12_unstand := zq_c (i := 1158) rfl (zq_a (zq_n _ (id rfl) : ([.fieldLink RX12 74 "PageOneModel" "pieces" "[I", .fieldLink RX12 77 "PageOneModel" "pPage" "[I", .fieldLink RX12 80 "PageOneModel" "pColumn" "[I", .fieldLink RX12 83 "PageOneModel" "pLine" "[I", .fieldLink RX12 86 "PageOneModel" "pWide" "[I", .fieldLink RX12 89 "PageOneModel" "pHigh" "[I", .methodLink RX12 192 yX12_sets, .instanceMethod yX12_sets, .selects RX12 yX12_sets yX12_sets, .initialized RX12, .code yX12_sets cX12_sets 9 none, .fieldLink RX12 16 "PageOneModel" "cell" "[I", .methodLink RX12 161 yX12_at, .static yX12_at, .code yX12_at cX12_at 3 (some .int)] : List Cond) = List.map zw [904, 905, 906, 907, 908, 909, 1143, 1145, 36, 56, 1146, 884, 1049, 1050, 1051]) q_wsX120)
set_option maxRecDepth 100000 in
theorem k_wsX12_unstand : zm zL_wsX12_unstand = 3916582163169960516333386520525985449074170860739788713363922624401246779364263453440179725874139693557443173158296911039279466409584099726223287614211449660740441770334629513002617438345550304166659641560164064879817510594516018773363750038390816249109533658783633497777404156898922511742209510283666816903867668776977805225227536675775818705666048 := by decide +kernel
def zL_wsX12_mayRun_r1 : List Nat := [904, 905, 906, 907, 909, 897, 898, 883, 1139, 1141, 35, 56, 1142, 908, 1143, 1145, 36, 1146, 884, 1049, 1050, 1051, 1147, 1149]
set_option maxRecDepth 100000 in
theorem q_wsX12_mayRun_r1 : wsX12_mayRun_r1 = List.map zw zL_wsX12_mayRun_r1 := zq_n _ (id rfl)
def zL_wsX12_mayRun_r2 : List Nat := [37, 1150, 1151, 1153, 38, 1154, 1155, 1157, 39, 1158]
set_option maxRecDepth 100000 in
theorem q_wsX12_mayRun_r2 : wsX12_mayRun_r2 = List.map zw zL_wsX12_mayRun_r2 := zq_n _ (id rfl)
def zL_wsX12_mayRun : List Nat := 1138 :: ((zL_wsX12_mayRun_r1 ++ zL_wsX12_mayRun_r2) ++ zL_wsX120)
set_option maxRecDepth 100000 in
theorem q_wsX12_mayRun : wsX12_mayRun = List.map zw zL_wsX12_mayRun := zq_c (i := 1138) rfl (zq_a (zq_a q_wsX12_mayRun_r1 q_wsX12_mayRun_r2) q_wsX120)
set_option maxRecDepth 100000 in
theorem k_wsX12_mayRun : zm zL_wsX12_mayRun = 6786047458520619325230255651175683329699563265437679842589882136959660696875907099142690251196142708475016587742621875085145267726998982507602579838079267376083324830380164047889587258262887444890253004856663867151430358527174184887742169124122497734155967433701985544215930326841768598171961720481907206563323605479789885506840710322260500503592960 := by decide +kernel
def zL_wsX12_wasPrintedAhead : List Nat := 1166 :: ([920, 930] ++ zL_wsX120)
set_option maxRecDepth 100000 in
theorem q_wsX12_wasPrintedAhead : wsX12_wasPrintedAhead = List.map zw zL_wsX12_wasPrintedAhead := zq_c (i := 1166) rfl (zq_a (zq_n _ (id rfl) : ([.fieldLink RX12 206 "PageOneModel" "day" "I", .fieldLink RX12 140 "PageOneModel" "isOn" "[Z"] : List Cond) = List.map zw [920, 930]) q_wsX120)
set_option maxRecDepth 100000 in
theorem k_wsX12_wasPrintedAhead : zm zL_wsX12_wasPrintedAhead = 1002247413642806386229778738695466628041862952516586857766142625010144535411753133787580598624682984872846304047174060140521911032948008099867746730205297658626765582291404193764598746296826462121527043918499733054528076982106031272749624417955085832553662987736594756425286543655984371717719841441526259371201202522165491424992958805502498325905014784 := by decide +kernel
def zL_wsX12_mayMend_r1 : List Nat := [891, 920, 1107, 1108, 1109, 56, 1110, 929, 927, 921, 928, 1076, 1078, 30, 1079, 885, 1046, 1047, 1048, 1111, 1113, 31, 1114, 922]
set_option maxRecDepth 100000 in
theorem q_wsX12_mayMend_r1 : wsX12_mayMend_r1 = List.map zw zL_wsX12_mayMend_r1 := zq_n _ (id rfl)
def zL_wsX12_mayMend_r2 : List Nat := [923, 924, 1163, 1165, 41, 1166, 930]
set_option maxRecDepth 100000 in
theorem q_wsX12_mayMend_r2 : wsX12_mayMend_r2 = List.map zw zL_wsX12_mayMend_r2 := zq_n _ (id rfl)
def zL_wsX12_mayMend : List Nat := 1162 :: ((zL_wsX12_mayMend_r1 ++ zL_wsX12_mayMend_r2) ++ zL_wsX120)
set_option maxRecDepth 100000 in
theorem q_wsX12_mayMend : wsX12_mayMend = List.map zw zL_wsX12_mayMend := zq_c (i := 1162) rfl (zq_a (zq_a q_wsX12_mayMend_r1 q_wsX12_mayMend_r2) q_wsX120)
set_option maxRecDepth 100000 in
theorem k_wsX12_mayMend : zm zL_wsX12_mayMend = 1691292510522236164475483763930213929805362678149457074969386193286112804966174766692866703962505985648495721744738203709322169682282093624432413973961201871692966825239110776113619028559359758042958044584160835841713178120853434637102285195871764715689656365818434321545275605636236265202476161830932122259362866673671808795154027263595283128573231104 := by decide +kernel
def zL_wsX12_acts : List Nat := 1170 :: ([911, 910, 912, 913, 914, 915, 916, 917] ++ zL_wsX120)
set_option maxRecDepth 100000 in
theorem q_wsX12_acts : wsX12_acts = List.map zw zL_wsX12_acts := zq_c (i := 1170) rfl (zq_a (zq_n _ (id rfl) : ([.fieldLink RX12 92 "PageOneModel" "actKind" "[I", .fieldLink RX12 158 "PageOneModel" "acts" "I", .fieldLink RX12 95 "PageOneModel" "actA" "[I", .fieldLink RX12 98 "PageOneModel" "actB" "[I", .fieldLink RX12 101 "PageOneModel" "actC" "[I", .fieldLink RX12 104 "PageOneModel" "actD" "[I", .fieldLink RX12 107 "PageOneModel" "actE" "[I", .fieldLink RX12 110 "PageOneModel" "actF" "[I"] : List Cond) = List.map zw [911, 910, 912, 913, 914, 915, 916, 917]) q_wsX120)
set_option maxRecDepth 100000 in
theorem k_wsX12_acts : zm zL_wsX12_acts = 16035958618284902179676459819127466048655080538104597632342163532039369456696625736243616928322349406125197061084562464610985546291694675864151187472059902480885932243121857944909763280152470068381383097875629788655146651886289636896020181072072118516252628915728589882818665080896401185117504277500233911496866069003712783721067151357510192142655422464 := by decide +kernel
def zL_wsX12_put_r1 : List Nat := [910, 886, 889, 890, 899, 900, 901, 904, 893, 894, 895, 887, 888, 1076, 1078, 30, 56, 1079, 885, 1046, 1047, 1048, 1127, 1129]
set_option maxRecDepth 100000 in
theorem q_wsX12_put_r1 : wsX12_put_r1 = List.map zw zL_wsX12_put_r1 := zq_n _ (id rfl)
def zL_wsX12_put_r2 : List Nat := [32, 1130, 884, 1131, 1133, 33, 1134, 882, 1043, 1044, 1045, 1049, 1050, 1051, 1135, 1137, 34, 1138, 905, 906, 907, 909, 897, 898]
set_option maxRecDepth 100000 in
theorem q_wsX12_put_r2 : wsX12_put_r2 = List.map zw zL_wsX12_put_r2 := zq_n _ (id rfl)
def zL_wsX12_put_r3 : List Nat := [883, 1139, 1141, 35, 1142, 908, 1143, 1145, 36, 1146, 1147, 1149, 37, 1150, 1151, 1153, 38, 1154, 1155, 1157, 39, 1158, 1159, 1161]
set_option maxRecDepth 100000 in
theorem q_wsX12_put_r3 : wsX12_put_r3 = List.map zw zL_wsX12_put_r3 := zq_n _ (id rfl)
def zL_wsX12_put_r4 : List Nat := [40, 1162, 891, 920, 1107, 1108, 1109, 1110, 929, 927, 921, 928, 1111, 1113, 31, 1114, 922, 923, 924, 1163, 1165, 41, 1166, 930]
set_option maxRecDepth 100000 in
theorem q_wsX12_put_r4 : wsX12_put_r4 = List.map zw zL_wsX12_put_r4 := zq_n _ (id rfl)
def zL_wsX12_put_r5 : List Nat := [1167, 1169, 42, 1170, 911, 912, 913, 914, 915, 916, 917]
set_option maxRecDepth 100000 in
theorem q_wsX12_put_r5 : wsX12_put_r5 = List.map zw zL_wsX12_put_r5 := zq_n _ (id rfl)
def zL_wsX12_put : List Nat := 1126 :: ((zL_wsX12_put_r1 ++ (zL_wsX12_put_r2 ++ (zL_wsX12_put_r3 ++ (zL_wsX12_put_r4 ++ zL_wsX12_put_r5)))) ++ zL_wsX120)
set_option maxRecDepth 100000 in
theorem q_wsX12_put : wsX12_put = List.map zw zL_wsX12_put := zq_c (i := 1126) rfl (zq_a (zq_a q_wsX12_put_r1 (zq_a q_wsX12_put_r2 (zq_a q_wsX12_put_r3 (zq_a q_wsX12_put_r4 q_wsX12_put_r5)))) q_wsX120)
set_option maxRecDepth 100000 in
theorem k_wsX12_put : zm zL_wsX12_put = 27795661605026495704096041743451442214852206475428165074829238755441392421001051039149387581691094332572195836277883565179782019659799009468800971720045712522730443938303303318502604410152752468055989493833948228615511978352092688363802281116004807214670214048614188654324898273719452943261505388661131032598588848103904493997218600595893276523972526080 := by decide +kernel
def zL_wsX12_lift_r1 : List Nat := [904, 910, 905, 906, 907, 908, 909, 1076, 1078, 30, 56, 1079, 885, 1046, 1047, 1048, 1167, 1169, 42, 1170, 911, 912, 913, 914]
set_option maxRecDepth 100000 in
theorem q_wsX12_lift_r1 : wsX12_lift_r1 = List.map zw zL_wsX12_lift_r1 := zq_n _ (id rfl)
def zL_wsX12_lift_r2 : List Nat := [915, 916, 917, 1155, 1157, 39, 1158, 1143, 1145, 36, 1146, 884, 1049, 1050, 1051]
set_option maxRecDepth 100000 in
theorem q_wsX12_lift_r2 : wsX12_lift_r2 = List.map zw zL_wsX12_lift_r2 := zq_n _ (id rfl)
def zL_wsX12_lift : List Nat := 1174 :: ((zL_wsX12_lift_r1 ++ zL_wsX12_lift_r2) ++ zL_wsX120)
set_option maxRecDepth 100000 in
theorem q_wsX12_lift : wsX12_lift = List.map zw zL_wsX12_lift := zq_c (i := 1174) rfl (zq_a (zq_a q_wsX12_lift_r1 q_wsX12_lift_r2) q_wsX120)
set_option maxRecDepth 100000 in
theorem k_wsX12_lift : zm zL_wsX12_lift = 282640134122534284760092819004915800499308132421222723754825123732516631230757897919564891116745906928298085143212286927582708448992772551218285573772522300609154876603720234756725016320112589621335937371134408897982702831250082450333820185242650209665886658211234695165003166485054419812276549006084732852650514979424794535003055620523839227530282270720 := by decide +kernel
def zL_wsX12_rule_r1 : List Nat := [884, 910, 1131, 1133, 33, 56, 1134, 882, 1043, 1044, 1045, 1046, 1047, 1048, 1049, 1050, 1051, 1167, 1169, 42, 1170, 911, 912, 913]
set_option maxRecDepth 100000 in
theorem q_wsX12_rule_r1 : wsX12_rule_r1 = List.map zw zL_wsX12_rule_r1 := zq_n _ (id rfl)
def zL_wsX12_rule_r2 : List Nat := [914, 915, 916, 917]
set_option maxRecDepth 100000 in
theorem q_wsX12_rule_r2 : wsX12_rule_r2 = List.map zw zL_wsX12_rule_r2 := zq_n _ (id rfl)
def zL_wsX12_rule : List Nat := 1178 :: ((zL_wsX12_rule_r1 ++ zL_wsX12_rule_r2) ++ zL_wsX120)
set_option maxRecDepth 100000 in
theorem q_wsX12_rule : wsX12_rule = List.map zw zL_wsX12_rule := zq_c (i := 1178) rfl (zq_a (zq_a q_wsX12_rule_r1 q_wsX12_rule_r2) q_wsX120)
set_option maxRecDepth 100000 in
theorem k_wsX12_rule : zm zL_wsX12_rule = 4131263839036027124143578642085162982457865007000305554172646214363165001764474491620276408217385913066642246130740928297242330615167959646165570955276564286759906286713646715999670927782423605480682823818892379867216206090242783811438643952145042434648321798833968910357117182582464634927437711688830206549964647184463377669435021393193659608013589184512 := by decide +kernel
def zL_wsX12_fillerFor : List Nat := 1186 :: ([885, 886, 904, 887, 888, 1046, 1047, 56, 1048] ++ zL_wsX120)
set_option maxRecDepth 100000 in
theorem q_wsX12_fillerFor : wsX12_fillerFor = List.map zw zL_wsX12_fillerFor := zq_c (i := 1186) rfl (zq_a (zq_n _ (id rfl) : ([.fieldLink RX12 147 "PageOneModel" "items" "I", .fieldLink RX12 19 "PageOneModel" "kind" "[I", .fieldLink RX12 74 "PageOneModel" "pieces" "[I", .fieldLink RX12 22 "PageOneModel" "least" "[I", .fieldLink RX12 25 "PageOneModel" "most" "[I", .methodLink RX12 143 yX12_in, .static yX12_in, .initialized RX12, .code yX12_in cX12_in 3 (some .boolean)] : List Cond) = List.map zw [885, 886, 904, 887, 888, 1046, 1047, 56, 1048]) q_wsX120)
set_option maxRecDepth 100000 in
theorem k_wsX12_fillerFor : zm zL_wsX12_fillerFor = 1050932584007919349247276470706337614964600295233536837669337244507478241920588005061775676397985105951975622654143707579929504914700991672308162964449206898475962057840182270373943399856914661084786725714768470698184516209824050001852421606787643646026379479503212303748375302926178685135711744063716375190160356074500834077541994880781232676161196616843264 := by decide +kernel
def zL_wsX12_fill_r1 : List Nat := [910, 882, 884, 919, 918, 1043, 1044, 56, 1045, 1046, 1047, 1048, 1049, 1050, 1051, 1183, 1185, 43, 1186, 885, 886, 904, 887, 888]
set_option maxRecDepth 100000 in
theorem q_wsX12_fill_r1 : wsX12_fill_r1 = List.map zw zL_wsX12_fill_r1 := zq_n _ (id rfl)
def zL_wsX12_fill_r2 : List Nat := [1139, 1141, 35, 1142, 905, 906, 907, 908, 909, 1143, 1145, 36, 1146, 1167, 1169, 42, 1170, 911, 912, 913, 914, 915, 916, 917]
set_option maxRecDepth 100000 in
theorem q_wsX12_fill_r2 : wsX12_fill_r2 = List.map zw zL_wsX12_fill_r2 := zq_n _ (id rfl)
def zL_wsX12_fill : List Nat := 1182 :: ((zL_wsX12_fill_r1 ++ zL_wsX12_fill_r2) ++ zL_wsX120)
set_option maxRecDepth 100000 in
theorem q_wsX12_fill : wsX12_fill = List.map zw zL_wsX12_fill := zq_c (i := 1182) rfl (zq_a (zq_a q_wsX12_fill_r1 q_wsX12_fill_r2) q_wsX120)
set_option maxRecDepth 100000 in
theorem k_wsX12_fill : zm zL_wsX12_fill = 1773474793947768893675303343070171212537956568090848222713387989618673306200590370661878907261429105180702866305159471338420916477319089449221563512984466204026174923640142247436231815488578814740015417208936971701538751741341189499621769172729785243983738867918685645112759704982071291805733253766816604165968937977528154604069131560481906425103270742589440 := by decide +kernel
def zL_wsX12_undo_r1 : List Nat := [910, 912, 911, 913, 914, 915, 916, 917, 884, 918, 919, 1155, 1157, 39, 56, 1158, 904, 905, 906, 907, 908, 909, 1143, 1145]
set_option maxRecDepth 100000 in
theorem q_wsX12_undo_r1 : wsX12_undo_r1 = List.map zw zL_wsX12_undo_r1 := zq_n _ (id rfl)
def zL_wsX12_undo_r2 : List Nat := [36, 1146, 1049, 1050, 1051, 1139, 1141, 35, 1142]
set_option maxRecDepth 100000 in
theorem q_wsX12_undo_r2 : wsX12_undo_r2 = List.map zw zL_wsX12_undo_r2 := zq_n _ (id rfl)
def zL_wsX12_undo : List Nat := 1190 :: ((zL_wsX12_undo_r1 ++ zL_wsX12_undo_r2) ++ zL_wsX120)
set_option maxRecDepth 100000 in
theorem q_wsX12_undo : wsX12_undo = List.map zw zL_wsX12_undo := zq_c (i := 1190) rfl (zq_a (zq_a q_wsX12_undo_r1 q_wsX12_undo_r2) q_wsX120)
set_option maxRecDepth 100000 in
theorem k_wsX12_undo : zm zL_wsX12_undo = 16814921350490281926067001080898791191383783324911043613046336600859235850248579977314944531176089034325121344784879512923621627248569418616067674787163857742286720484298486257263239595404186609326775982702925456489303621756608146843959741205644368458850061157823910854846644574380352029967478701412734348993988357761193446574912113090650768218736283000766464 := by decide +kernel
def zL_wsX12_wrongs : List Nat := 1210 :: ([931, 932, 933] ++ zL_wsX120)
set_option maxRecDepth 100000 in
theorem q_wsX12_wrongs : wsX12_wrongs = List.map zw zL_wsX12_wrongs := zq_c (i := 1210) rfl (zq_a (zq_n _ (id rfl) : ([.fieldLink RX12 228 "PageOneModel" "wrong" "I", .fieldLink RX12 231 "PageOneModel" "wrongOne" "I", .fieldLink RX12 234 "PageOneModel" "wrongTwo" "I"] : List Cond) = List.map zw [931, 932, 933]) q_wsX120)
set_option maxRecDepth 100000 in
theorem k_wsX12_wrongs : zm zL_wsX12_wrongs = 17631722963339008632900994760757898735185842939339459461634978552800486209062755710587724287468827694842892276250477143054528553317052213065161719806278858547024501444789677862675540130824909548724674423761461929435960817477708093772999870611072278813656452718739565368746834088570346820990648418634750010012276025342326663954971267442674105680850684401477463572480 := by decide +kernel
def zL_wsX12_isThing : List Nat := 1206 :: []
set_option maxRecDepth 100000 in
theorem q_wsX12_isThing : wsX12_isThing = List.map zw zL_wsX12_isThing := zq_c (i := 1206) rfl zq_nil
set_option maxRecDepth 100000 in
theorem k_wsX12_isThing : zm zL_wsX12_isThing = 1101982685208688039556312172547368670949115183708716154990927156249647404239471719641439010383106955090327738818045541618469435346612266305599463032494637910058208222185983416376619513377283527930013892122819617678806123857167396429433124721026429861423051761647323774637733029618092888371023409438569463971583149615761367225102561037140410523898464713026320728064 := by decide +kernel
def zL_wsX12_beside : List Nat := 1202 :: ([886, 902, 892, 903, 1203, 1205, 46, 56, 1206, 1207, 1209, 47, 1210, 931, 932, 933] ++ zL_wsX120)
set_option maxRecDepth 100000 in
theorem q_wsX12_beside : wsX12_beside = List.map zw zL_wsX12_beside := zq_c (i := 1202) rfl (zq_a (zq_n _ (id rfl) : ([.fieldLink RX12 19 "PageOneModel" "kind" "[I", .fieldLink RX12 67 "PageOneModel" "isRival" "[Z", .fieldLink RX12 37 "PageOneModel" "buyer" "[I", .fieldLink RX12 71 "PageOneModel" "isNamed" "[Z", .methodLink RX12 237 yX12_isThing, .instanceMethod yX12_isThing, .selects RX12 yX12_isThing yX12_isThing, .initialized RX12, .code yX12_isThing cX12_isThing 2 (some .boolean), .methodLink RX12 240 yX12_wrongs, .instanceMethod yX12_wrongs, .selects RX12 yX12_wrongs yX12_wrongs, .code yX12_wrongs cX12_wrongs 6 none, .fieldLink RX12 228 "PageOneModel" "wrong" "I", .fieldLink RX12 231 "PageOneModel" "wrongOne" "I", .fieldLink RX12 234 "PageOneModel" "wrongTwo" "I"] : List Cond) = List.map zw [886, 902, 892, 903, 1203, 1205, 46, 56, 1206, 1207, 1209, 47, 1210, 931, 932, 933]) q_wsX120)
set_option maxRecDepth 100000 in
theorem k_wsX12_beside : zm zL_wsX12_beside = 30511145596715550095215393277405270076903626648935079523091439691468240246111581433897042721422856316759969492237022811617739757205857743630509865992185345884895275312622292916003125387946522221650166169303224090609573739247875157381526129568578165523435962274922668741384844512833191673769792093358791418040510696262014110061017638305668049128745138512365069795328 := by decide +kernel
def zL_wsX12_standing : List Nat := 1214 :: ([904, 1151, 1153, 38, 56, 1154, 1147, 1149, 37, 1150, 909, 905] ++ zL_wsX120)
set_option maxRecDepth 100000 in
theorem q_wsX12_standing : wsX12_standing = List.map zw zL_wsX12_standing := zq_c (i := 1214) rfl (zq_a (zq_n _ (id rfl) : ([.fieldLink RX12 74 "PageOneModel" "pieces" "[I", .methodLink RX12 199 yX12_from, .instanceMethod yX12_from, .selects RX12 yX12_from yX12_from, .initialized RX12, .code yX12_from cX12_from 5 (some .int), .methodLink RX12 186 yX12_takes, .instanceMethod yX12_takes, .selects RX12 yX12_takes yX12_takes, .code yX12_takes cX12_takes 5 (some .int), .fieldLink RX12 89 "PageOneModel" "pHigh" "[I", .fieldLink RX12 77 "PageOneModel" "pPage" "[I"] : List Cond) = List.map zw [904, 1151, 1153, 38, 56, 1154, 1147, 1149, 37, 1150, 909, 905]) q_wsX120)
set_option maxRecDepth 100000 in
theorem k_wsX12_standing : zm zL_wsX12_standing = 282107567413424138548887302919601453304197206152695887435051709718353881666947932898570185255310636260889562643321281971767079374823277310265957144266706286693141036172179772017274742518320003174880999418312329565868915299423302475954034320987320820164680880199253822209643634611686130448311961174795469189752749755800902729978086366327031124083613266393710884552704 := by decide +kernel
def zL_wsX12_hasStory : List Nat := 1218 :: ([907, 909, 906, 908, 905, 884, 891, 1131, 1133, 33, 56, 1134, 882, 1043, 1044, 1045, 1046, 1047, 1048, 1049, 1050, 1051] ++ zL_wsX120)
set_option maxRecDepth 100000 in
theorem q_wsX12_hasStory : wsX12_hasStory = List.map zw zL_wsX12_hasStory := zq_c (i := 1218) rfl (zq_a (zq_n _ (id rfl) : ([.fieldLink RX12 83 "PageOneModel" "pLine" "[I", .fieldLink RX12 89 "PageOneModel" "pHigh" "[I", .fieldLink RX12 80 "PageOneModel" "pColumn" "[I", .fieldLink RX12 86 "PageOneModel" "pWide" "[I", .fieldLink RX12 77 "PageOneModel" "pPage" "[I", .fieldLink RX12 16 "PageOneModel" "cell" "[I", .fieldLink RX12 34 "PageOneModel" "of" "[I", .methodLink RX12 189 yX12_isCell, .instanceMethod yX12_isCell, .selects RX12 yX12_isCell yX12_isCell, .initialized RX12, .code yX12_isCell cX12_isCell 4 (some .boolean), .fieldLink RX12 7 "PageOneModel" "lines" "[I", .methodLink RX12 155 yX12_isPage, .static yX12_isPage, .code yX12_isPage cX12_isPage 1 (some .boolean), .methodLink RX12 143 yX12_in, .static yX12_in, .code yX12_in cX12_in 3 (some .boolean), .methodLink RX12 161 yX12_at, .static yX12_at, .code yX12_at cX12_at 3 (some .int)] : List Cond) = List.map zw [907, 909, 906, 908, 905, 884, 891, 1131, 1133, 33, 56, 1134, 882, 1043, 1044, 1045, 1046, 1047, 1048, 1049, 1050, 1051]) q_wsX120)
set_option maxRecDepth 100000 in
theorem k_wsX12_hasStory : zm zL_wsX12_hasStory = 4513721078614786210022655037954126506888758242012574723657318352191874923433987697642233653422754973298810454826074693967018380231924558233970510143438480484309821130214721691737485664191473710826941274885594741190927124535992394620691724860298542950735902446249622078920533536193570771862316295724712607802692858535187548313086726566936480636344417891923790359691264 := by decide +kernel
def zL_wsX12_breaks_r1 : List Nat := [931, 932, 933, 882, 884, 885, 904, 905, 886, 887, 1049, 1050, 56, 1051, 1131, 1133, 33, 1134, 1043, 1044, 1045, 1046, 1047, 1048]
set_option maxRecDepth 100000 in
theorem q_wsX12_breaks_r1 : wsX12_breaks_r1 = List.map zw zL_wsX12_breaks_r1 := zq_n _ (id rfl)
def zL_wsX12_breaks_r2 : List Nat := [1199, 1201, 45, 1202, 902, 892, 903, 1203, 1205, 46, 1206, 1207, 1209, 47, 1210, 1211, 1213, 48, 1214, 1151, 1153, 38, 1154, 1147]
set_option maxRecDepth 100000 in
theorem q_wsX12_breaks_r2 : wsX12_breaks_r2 = List.map zw zL_wsX12_breaks_r2 := zq_n _ (id rfl)
def zL_wsX12_breaks_r3 : List Nat := [1149, 37, 1150, 909, 1215, 1217, 49, 1218, 907, 906, 908, 891]
set_option maxRecDepth 100000 in
theorem q_wsX12_breaks_r3 : wsX12_breaks_r3 = List.map zw zL_wsX12_breaks_r3 := zq_n _ (id rfl)
def zL_wsX12_breaks : List Nat := 1198 :: ((zL_wsX12_breaks_r1 ++ (zL_wsX12_breaks_r2 ++ zL_wsX12_breaks_r3)) ++ zL_wsX120)
set_option maxRecDepth 100000 in
theorem q_wsX12_breaks : wsX12_breaks = List.map zw zL_wsX12_breaks := zq_c (i := 1198) rfl (zq_a (zq_a q_wsX12_breaks_r1 (zq_a q_wsX12_breaks_r2 q_wsX12_breaks_r3)) q_wsX120)
set_option maxRecDepth 100000 in
theorem k_wsX12_breaks : zm zL_wsX12_breaks = 7823780046211062427074126528768640159999032219294963614124507844896370831432848787807473061342935209342005570266563842403673946578815445158899186694323839380746536698506702654424417161559424390016560571911016012014899319736508574750858859435061847703207064285359477301715084368343533534666198746913934630237828750407392162864027700862233952928275188231200762299940864 := by decide +kernel
def zL_wsX12_broken_r1 : List Nat := [931, 932, 933, 1043, 1044, 56, 1045, 1046, 1047, 1048, 1195, 1197, 44, 1198, 882, 884, 885, 904, 905, 886, 887, 1049, 1050, 1051]
set_option maxRecDepth 100000 in
theorem q_wsX12_broken_r1 : wsX12_broken_r1 = List.map zw zL_wsX12_broken_r1 := zq_n _ (id rfl)
def zL_wsX12_broken_r2 : List Nat := [1131, 1133, 33, 1134, 1199, 1201, 45, 1202, 902, 892, 903, 1203, 1205, 46, 1206, 1207, 1209, 47, 1210, 1211, 1213, 48, 1214, 1151]
set_option maxRecDepth 100000 in
theorem q_wsX12_broken_r2 : wsX12_broken_r2 = List.map zw zL_wsX12_broken_r2 := zq_n _ (id rfl)
def zL_wsX12_broken_r3 : List Nat := [1153, 38, 1154, 1147, 1149, 37, 1150, 909, 1215, 1217, 49, 1218, 907, 906, 908, 891]
set_option maxRecDepth 100000 in
theorem q_wsX12_broken_r3 : wsX12_broken_r3 = List.map zw zL_wsX12_broken_r3 := zq_n _ (id rfl)
def zL_wsX12_broken : List Nat := 1194 :: ((zL_wsX12_broken_r1 ++ (zL_wsX12_broken_r2 ++ zL_wsX12_broken_r3)) ++ zL_wsX120)
set_option maxRecDepth 100000 in
theorem q_wsX12_broken : wsX12_broken = List.map zw zL_wsX12_broken := zq_c (i := 1194) rfl (zq_a (zq_a q_wsX12_broken_r1 (zq_a q_wsX12_broken_r2 q_wsX12_broken_r3)) q_wsX120)
set_option maxRecDepth 100000 in
theorem k_wsX12_broken : zm zL_wsX12_broken = 7823783005637218993375014009099181669045755959594529238118088142796448650310155094982501395285590046787441603861565551022071847741849823268012800364756787974744830311858861845297849813613781604401034993335042709040239765749048230229706692385347963740982571036719188756930299459911728309817998571439692399833557189717608416129418197963838300717463606903853081851592704 := by decide +kernel
def zL_wsX12_plate_r1 : List Nat := [882, 884, 931, 922, 923, 920, 924, 921, 926, 925, 927, 885, 904, 905, 906, 928, 907, 1043, 1044, 56, 1045, 1046, 1047, 1048]
set_option maxRecDepth 100000 in
theorem q_wsX12_plate_r1 : wsX12_plate_r1 = List.map zw zL_wsX12_plate_r1 := zq_n _ (id rfl)
def zL_wsX12_plate_r2 : List Nat := [1049, 1050, 1051, 1195, 1197, 44, 1198, 932, 933, 886, 887, 1131, 1133, 33, 1134, 1199, 1201, 45, 1202, 902, 892, 903, 1203, 1205]
set_option maxRecDepth 100000 in
theorem q_wsX12_plate_r2 : wsX12_plate_r2 = List.map zw zL_wsX12_plate_r2 := zq_n _ (id rfl)
def zL_wsX12_plate_r3 : List Nat := [46, 1206, 1207, 1209, 47, 1210, 1211, 1213, 48, 1214, 1151, 1153, 38, 1154, 1147, 1149, 37, 1150, 909, 1215, 1217, 49, 1218, 908]
set_option maxRecDepth 100000 in
theorem q_wsX12_plate_r3 : wsX12_plate_r3 = List.map zw zL_wsX12_plate_r3 := zq_n _ (id rfl)
def zL_wsX12_plate_r4 : List Nat := [891]
set_option maxRecDepth 100000 in
theorem q_wsX12_plate_r4 : wsX12_plate_r4 = List.map zw zL_wsX12_plate_r4 := zq_n _ (id rfl)
def zL_wsX12_plate : List Nat := 1222 :: ((zL_wsX12_plate_r1 ++ (zL_wsX12_plate_r2 ++ (zL_wsX12_plate_r3 ++ zL_wsX12_plate_r4))) ++ zL_wsX120)
set_option maxRecDepth 100000 in
theorem q_wsX12_plate : wsX12_plate = List.map zw zL_wsX12_plate := zq_c (i := 1222) rfl (zq_a (zq_a q_wsX12_plate_r1 (zq_a q_wsX12_plate_r2 (zq_a q_wsX12_plate_r3 q_wsX12_plate_r4))) q_wsX120)
set_option maxRecDepth 100000 in
theorem k_wsX12_plate : zm zL_wsX12_plate = 80043319994435056847710135141860758387544539208192627023967710227691515678286600412751577605819347867464102269860374471943574356966428043404838744820399903849831806741722134940111743676132070153397118896280599233024135622534999878293780245253541020499436649653164955817099446701272208571906143430129726468049736302737709833721294273046891381441837012290819575261429760 := by decide +kernel
def zL_wsX12_ends : List Nat := 1230 :: ([885, 927, 930, 920, 929, 921, 928, 1111, 1113, 31, 56, 1114, 922, 923, 924] ++ zL_wsX120)
set_option maxRecDepth 100000 in
theorem q_wsX12_ends : wsX12_ends = List.map zw zL_wsX12_ends := zq_c (i := 1230) rfl (zq_a (zq_n _ (id rfl) : ([.fieldLink RX12 147 "PageOneModel" "items" "I", .fieldLink RX12 131 "PageOneModel" "plateColumn" "[I", .fieldLink RX12 140 "PageOneModel" "isOn" "[Z", .fieldLink RX12 206 "PageOneModel" "day" "I", .fieldLink RX12 137 "PageOneModel" "first" "[I", .fieldLink RX12 257 "PageOneModel" "edition" "I", .fieldLink RX12 134 "PageOneModel" "plateLine" "[I", .methodLink RX12 260 yX12_isNow, .instanceMethod yX12_isNow, .selects RX12 yX12_isNow yX12_isNow, .initialized RX12, .code yX12_isNow cX12_isNow 2 (some .boolean), .fieldLink RX12 116 "PageOneModel" "isPlated" "[Z", .fieldLink RX12 119 "PageOneModel" "plateDay" "[I", .fieldLink RX12 122 "PageOneModel" "plateEdition" "[I"] : List Cond) = List.map zw [885, 927, 930, 920, 929, 921, 928, 1111, 1113, 31, 56, 1114, 922, 923, 924]) q_wsX120)
set_option maxRecDepth 100000 in
theorem k_wsX12_ends : zm zL_wsX12_ends = 18488201538006164316252793482256474785779630820069300526575289007181324366286875804631729967997513906035497713264400257344557551175739470307708569368733264662342530570805482578903725790950066307767080489339673418274212046300565538116067133621650543923144481728417422623784840616166279958730141459420804969405354192415848492555802466239282407123841528877278157920912015360 := by decide +kernel
def zL_wsX12_edition : List Nat := 1226 :: ([921, 1227, 1229, 50, 56, 1230, 885, 927, 930, 920, 929, 928, 1111, 1113, 31, 1114, 922, 923, 924] ++ zL_wsX120)
set_option maxRecDepth 100000 in
theorem q_wsX12_edition : wsX12_edition = List.map zw zL_wsX12_edition := zq_c (i := 1226) rfl (zq_a (zq_n _ (id rfl) : ([.fieldLink RX12 257 "PageOneModel" "edition" "I", .methodLink RX12 263 yX12_ends, .instanceMethod yX12_ends, .selects RX12 yX12_ends yX12_ends, .initialized RX12, .code yX12_ends cX12_ends 3 none, .fieldLink RX12 147 "PageOneModel" "items" "I", .fieldLink RX12 131 "PageOneModel" "plateColumn" "[I", .fieldLink RX12 140 "PageOneModel" "isOn" "[Z", .fieldLink RX12 206 "PageOneModel" "day" "I", .fieldLink RX12 137 "PageOneModel" "first" "[I", .fieldLink RX12 134 "PageOneModel" "plateLine" "[I", .methodLink RX12 260 yX12_isNow, .instanceMethod yX12_isNow, .selects RX12 yX12_isNow yX12_isNow, .code yX12_isNow cX12_isNow 2 (some .boolean), .fieldLink RX12 116 "PageOneModel" "isPlated" "[Z", .fieldLink RX12 119 "PageOneModel" "plateDay" "[I", .fieldLink RX12 122 "PageOneModel" "plateEdition" "[I"] : List Cond) = List.map zw [921, 1227, 1229, 50, 56, 1230, 885, 927, 930, 920, 929, 928, 1111, 1113, 31, 1114, 922, 923, 924]) q_wsX120)
set_option maxRecDepth 100000 in
theorem k_wsX12_edition : zm zL_wsX12_edition = 31198840095385402283676589001307800952380164251667358786868719778889257408312767081473887037263758249984248202911980397673967824193841811597971457405105336515291683763461269793819557802400149286177245205752028155973101957726750296778349083683875650825231398892649568541244731658079315012412018127750836526193488692022310997949523039702168381284422450761468443942073663488 := by decide +kernel
def zL_wsX12_day_r1 : List Nat := [920, 921, 884, 885, 904, 1227, 1229, 50, 56, 1230, 927, 930, 929, 928, 1111, 1113, 31, 1114, 922, 923, 924, 1235, 1237, 51]
set_option maxRecDepth 100000 in
theorem q_wsX12_day_r1 : wsX12_day_r1 = List.map zw zL_wsX12_day_r1 := zq_n _ (id rfl)
def zL_wsX12_day_r2 : List Nat := [1238, 910, 918]
set_option maxRecDepth 100000 in
theorem q_wsX12_day_r2 : wsX12_day_r2 = List.map zw zL_wsX12_day_r2 := zq_n _ (id rfl)
def zL_wsX12_day : List Nat := 1234 :: ((zL_wsX12_day_r1 ++ zL_wsX12_day_r2) ++ zL_wsX120)
set_option maxRecDepth 100000 in
theorem q_wsX12_day : wsX12_day = List.map zw zL_wsX12_day := zq_c (i := 1234) rfl (zq_a (zq_a q_wsX12_day_r1 q_wsX12_day_r2) q_wsX120)
set_option maxRecDepth 100000 in
theorem k_wsX12_day : zm zL_wsX12_day = 8016946391917923001635117573743463722532042577503865598503950543712846098630215913832032751191721861144108189719681072740464294634786562838115672172060383393351791365953061350516289679943951271195294063184739370928590199978102708453608197671268035266492463704866809672786922922199857366411756475941241671880808027724975428044019031767163929536087081273201809911933923491840 := by decide +kernel
def zL_wsX12_cell : List Nat := 1242 :: ([884, 1131, 1133, 33, 56, 1134, 882, 1043, 1044, 1045, 1046, 1047, 1048, 1049, 1050, 1051] ++ zL_wsX120)
set_option maxRecDepth 100000 in
theorem q_wsX12_cell : wsX12_cell = List.map zw zL_wsX12_cell := zq_c (i := 1242) rfl (zq_a (zq_n _ (id rfl) : ([.fieldLink RX12 16 "PageOneModel" "cell" "[I", .methodLink RX12 189 yX12_isCell, .instanceMethod yX12_isCell, .selects RX12 yX12_isCell yX12_isCell, .initialized RX12, .code yX12_isCell cX12_isCell 4 (some .boolean), .fieldLink RX12 7 "PageOneModel" "lines" "[I", .methodLink RX12 155 yX12_isPage, .static yX12_isPage, .code yX12_isPage cX12_isPage 1 (some .boolean), .methodLink RX12 143 yX12_in, .static yX12_in, .code yX12_in cX12_in 3 (some .boolean), .methodLink RX12 161 yX12_at, .static yX12_at, .code yX12_at cX12_at 3 (some .int)] : List Cond) = List.map zw [884, 1131, 1133, 33, 56, 1134, 882, 1043, 1044, 1045, 1046, 1047, 1048, 1049, 1050, 1051]) q_wsX120)
set_option maxRecDepth 100000 in
theorem k_wsX12_cell : zm zL_wsX12_cell = 75727673499673249039371442103322898441407390587837935554999741819449001997156320279941316326484247732893351767760824581955800071182920563189495939806457416232873432598228593648116657092896752598441600770101583214508033250702355165036998619504414494370629416184037678193977634926011458664794028496146056038440917839923063634545040072325052754638399823597388936706298723958784 := by decide +kernel
def zL_wsX12_piece : List Nat := 1246 :: ([904, 905, 906, 907, 908, 909, 886, 1076, 1078, 30, 56, 1079, 885, 1046, 1047, 1048, 1151, 1153, 38, 1154, 1147, 1149, 37, 1150] ++ zL_wsX120)
set_option maxRecDepth 100000 in
theorem q_wsX12_piece : wsX12_piece = List.map zw zL_wsX12_piece := zq_c (i := 1246) rfl (zq_a (zq_n _ (id rfl) : ([.fieldLink RX12 74 "PageOneModel" "pieces" "[I", .fieldLink RX12 77 "PageOneModel" "pPage" "[I", .fieldLink RX12 80 "PageOneModel" "pColumn" "[I", .fieldLink RX12 83 "PageOneModel" "pLine" "[I", .fieldLink RX12 86 "PageOneModel" "pWide" "[I", .fieldLink RX12 89 "PageOneModel" "pHigh" "[I", .fieldLink RX12 19 "PageOneModel" "kind" "[I", .methodLink RX12 151 yX12_isItem, .instanceMethod yX12_isItem, .selects RX12 yX12_isItem yX12_isItem, .initialized RX12, .code yX12_isItem cX12_isItem 2 (some .boolean), .fieldLink RX12 147 "PageOneModel" "items" "I", .methodLink RX12 143 yX12_in, .static yX12_in, .code yX12_in cX12_in 3 (some .boolean), .methodLink RX12 199 yX12_from, .instanceMethod yX12_from, .selects RX12 yX12_from yX12_from, .code yX12_from cX12_from 5 (some .int), .methodLink RX12 186 yX12_takes, .instanceMethod yX12_takes, .selects RX12 yX12_takes yX12_takes, .code yX12_takes cX12_takes 5 (some .int)] : List Cond) = List.map zw [904, 905, 906, 907, 908, 909, 886, 1076, 1078, 30, 56, 1079, 885, 1046, 1047, 1048, 1151, 1153, 38, 1154, 1147, 1149, 37, 1150]) q_wsX120)
set_option maxRecDepth 100000 in
theorem k_wsX12_piece : zm zL_wsX12_piece = 1211642775994771984629943074075631694608322432047722020253664034039075624223610900513861530004223446525570091765146186248677092688402784417053495394086513647840695650403320702049483028595310493417344492455575963373040305329327691565942495261026752199524393918508727630728394357033009595262510665978521093678636478657121560127473682831119298088766205803092029448517494734061568 := by decide +kernel
def zL_wsX12_item_r1 : List Nat := [886, 904, 897, 891, 892, 1076, 1078, 30, 56, 1079, 885, 1046, 1047, 1048, 1211, 1213, 48, 1214, 1151, 1153, 38, 1154, 1147, 1149]
set_option maxRecDepth 100000 in
theorem q_wsX12_item_r1 : wsX12_item_r1 = List.map zw zL_wsX12_item_r1 := zq_n _ (id rfl)
def zL_wsX12_item_r2 : List Nat := [37, 1150, 909, 905]
set_option maxRecDepth 100000 in
theorem q_wsX12_item_r2 : wsX12_item_r2 = List.map zw zL_wsX12_item_r2 := zq_n _ (id rfl)
def zL_wsX12_item : List Nat := 1250 :: ((zL_wsX12_item_r1 ++ zL_wsX12_item_r2) ++ zL_wsX120)
set_option maxRecDepth 100000 in
theorem q_wsX12_item : wsX12_item = List.map zw zL_wsX12_item := zq_c (i := 1250) rfl (zq_a (zq_a q_wsX12_item_r1 q_wsX12_item_r2) q_wsX120)
set_option maxRecDepth 100000 in
theorem k_wsX12_item : zm zL_wsX12_item = 19386284416374776551125903403328462176300738176759870579874823315707688954144383727276629525915409478296254594317536178627583252689687802834332951315723606985379486155703726934709703935094816167140105514496410082931734919704321658288840170176749623858602500886595853307579011942444457268198048745075786404130322763990469215848142362052548740914368520889682427415635159077093376 := by decide +kernel
def zL_wsX12_shortOf : List Nat := 1254 :: ([882, 884, 1043, 1044, 56, 1045, 1046, 1047, 1048, 1049, 1050, 1051] ++ zL_wsX120)
set_option maxRecDepth 100000 in
theorem q_wsX12_shortOf : wsX12_shortOf = List.map zw zL_wsX12_shortOf := zq_c (i := 1254) rfl (zq_a (zq_n _ (id rfl) : ([.fieldLink RX12 7 "PageOneModel" "lines" "[I", .fieldLink RX12 16 "PageOneModel" "cell" "[I", .methodLink RX12 155 yX12_isPage, .static yX12_isPage, .initialized RX12, .code yX12_isPage cX12_isPage 1 (some .boolean), .methodLink RX12 143 yX12_in, .static yX12_in, .code yX12_in cX12_in 3 (some .boolean), .methodLink RX12 161 yX12_at, .static yX12_at, .code yX12_at cX12_at 3 (some .int)] : List Cond) = List.map zw [882, 884, 1043, 1044, 56, 1045, 1046, 1047, 1048, 1049, 1050, 1051]) q_wsX120)
set_option maxRecDepth 100000 in
theorem k_wsX12_shortOf : zm zL_wsX12_shortOf = 310180550654661628065265426855209038812376923777660870710584937527538609067027234847538168929797256436096398596851610551886177455737615823093603669888609625714157570764256168232748884490282486587558152887827151851031391873411746149463421693136118266734882846334538477470000026077536266013445358846583948814881209774177547607999314627245231189024123316606884995039131590509723648 := by decide +kernel
def zL_wsX12_plated : List Nat := 1259 :: ([922, 925, 926, 1043, 1044, 56, 1045, 1046, 1047, 1048, 1049, 1050, 1051] ++ zL_wsX120)
set_option maxRecDepth 100000 in
theorem q_wsX12_plated : wsX12_plated = List.map zw zL_wsX12_plated := zq_c (i := 1259) rfl (zq_a (zq_n _ (id rfl) : ([.fieldLink RX12 116 "PageOneModel" "isPlated" "[Z", .fieldLink RX12 125 "PageOneModel" "plateLines" "[I", .fieldLink RX12 128 "PageOneModel" "plateCell" "[I", .methodLink RX12 155 yX12_isPage, .static yX12_isPage, .initialized RX12, .code yX12_isPage cX12_isPage 1 (some .boolean), .methodLink RX12 143 yX12_in, .static yX12_in, .code yX12_in cX12_in 3 (some .boolean), .methodLink RX12 161 yX12_at, .static yX12_at, .code yX12_at cX12_at 3 (some .int)] : List Cond) = List.map zw [922, 925, 926, 1043, 1044, 56, 1045, 1046, 1047, 1048, 1049, 1050, 1051]) q_wsX120)
set_option maxRecDepth 100000 in
theorem k_wsX12_plated : zm zL_wsX12_plated = 9925777620949172098088493659366689241996061560885147862738716507822391159391055048472260610773010390243737910815951691324980810813661560277882646378557709676267101418041678604309837418746935003512020505064232651648509686124816590615380665046410290548660257472392946897745047845258451275056658978209766486010113448086906182684485707052988707152577195916952182137478667549102047232 := by decide +kernel
def zL_wsX12_plateOf : List Nat := 1263 :: ([922, 923, 924, 1043, 1044, 56, 1045, 1046, 1047, 1048] ++ zL_wsX120)
set_option maxRecDepth 100000 in
theorem q_wsX12_plateOf : wsX12_plateOf = List.map zw zL_wsX12_plateOf := zq_c (i := 1263) rfl (zq_a (zq_n _ (id rfl) : ([.fieldLink RX12 116 "PageOneModel" "isPlated" "[Z", .fieldLink RX12 119 "PageOneModel" "plateDay" "[I", .fieldLink RX12 122 "PageOneModel" "plateEdition" "[I", .methodLink RX12 155 yX12_isPage, .static yX12_isPage, .initialized RX12, .code yX12_isPage cX12_isPage 1 (some .boolean), .methodLink RX12 143 yX12_in, .static yX12_in, .code yX12_in cX12_in 3 (some .boolean)] : List Cond) = List.map zw [922, 923, 924, 1043, 1044, 56, 1045, 1046, 1047, 1048]) q_wsX120)
set_option maxRecDepth 100000 in
theorem k_wsX12_plateOf : zm zL_wsX12_plateOf = 158812441935186753569415898549867027871936984974162365803819463360486030212856141704637607263015386579357974231877204617235409145104175496381750535517826937828917574656501958684259384741093956517147379771485302965628629619421713774997188377394932547683113627596381436583572609942117250871278452214032477359989895209985348484651104867788467489991972906647374548794775973408744144896 := by decide +kernel
def zL_wsX12_bill : List Nat := 1267 :: ([920, 885, 930, 927, 886, 892, 889, 890, 896, 1096, 1097, 56, 1098, 1046, 1047, 1048, 1111, 1113, 31, 1114, 922, 923, 924, 921] ++ zL_wsX120)
set_option maxRecDepth 100000 in
theorem q_wsX12_bill : wsX12_bill = List.map zw zL_wsX12_bill := zq_c (i := 1267) rfl (zq_a (zq_n _ (id rfl) : ([.fieldLink RX12 206 "PageOneModel" "day" "I", .fieldLink RX12 147 "PageOneModel" "items" "I", .fieldLink RX12 140 "PageOneModel" "isOn" "[Z", .fieldLink RX12 131 "PageOneModel" "plateColumn" "[I", .fieldLink RX12 19 "PageOneModel" "kind" "[I", .fieldLink RX12 37 "PageOneModel" "buyer" "[I", .fieldLink RX12 28 "PageOneModel" "wide" "[I", .fieldLink RX12 31 "PageOneModel" "high" "[I", .fieldLink RX12 49 "PageOneModel" "price" "[I", .methodLink RX12 179 yX12_isBuyer, .static yX12_isBuyer, .initialized RX12, .code yX12_isBuyer cX12_isBuyer 1 (some .boolean), .methodLink RX12 143 yX12_in, .static yX12_in, .code yX12_in cX12_in 3 (some .boolean), .methodLink RX12 260 yX12_isNow, .instanceMethod yX12_isNow, .selects RX12 yX12_isNow yX12_isNow, .code yX12_isNow cX12_isNow 2 (some .boolean), .fieldLink RX12 116 "PageOneModel" "isPlated" "[Z", .fieldLink RX12 119 "PageOneModel" "plateDay" "[I", .fieldLink RX12 122 "PageOneModel" "plateEdition" "[I", .fieldLink RX12 257 "PageOneModel" "edition" "I"] : List Cond) = List.map zw [920, 885, 930, 927, 886, 892, 889, 890, 896, 1096, 1097, 56, 1098, 1046, 1047, 1048, 1111, 1113, 31, 1114, 922, 923, 924, 921]) q_wsX120)
set_option maxRecDepth 100000 in
theorem k_wsX12_bill : zm zL_wsX12_bill = 2540999070962988057110654376797872445950991759948237195791284493252727538477133676483309587253339919423035322406448860975665507619963220276560787955173107090130542493613878808139112619009187383476700763371472202531176248443840166681054038123382280413930949792352995027419136322422709565383293309726066525485244878253601172125505713057913372322495470305660500260630629978817773436928 := by decide +kernel
def zL_wsX12_about : List Nat := 1271 :: ([920, 921, 885, 910, 1111, 1113, 31, 56, 1114, 922, 923, 924] ++ zL_wsX120)
set_option maxRecDepth 100000 in
theorem q_wsX12_about : wsX12_about = List.map zw zL_wsX12_about := zq_c (i := 1271) rfl (zq_a (zq_n _ (id rfl) : ([.fieldLink RX12 206 "PageOneModel" "day" "I", .fieldLink RX12 257 "PageOneModel" "edition" "I", .fieldLink RX12 147 "PageOneModel" "items" "I", .fieldLink RX12 158 "PageOneModel" "acts" "I", .methodLink RX12 260 yX12_isNow, .instanceMethod yX12_isNow, .selects RX12 yX12_isNow yX12_isNow, .initialized RX12, .code yX12_isNow cX12_isNow 2 (some .boolean), .fieldLink RX12 116 "PageOneModel" "isPlated" "[Z", .fieldLink RX12 119 "PageOneModel" "plateDay" "[I", .fieldLink RX12 122 "PageOneModel" "plateEdition" "[I"] : List Cond) = List.map zw [920, 921, 885, 910, 1111, 1113, 31, 56, 1114, 922, 923, 924]) q_wsX120)
set_option maxRecDepth 100000 in
theorem k_wsX12_about : zm zL_wsX12_about = 40655985135407808913770470028765959135215868153747199046151891107275697009165578904051832262305207212163665765929745534748000797382302230250302059446404333982915968352844383043822251773279459645535889650454070852944469114585871718968409937855049225388495357627135967959197600182982455641367324439664095759270450517026151767699308178690347024786623836406256026526690182091306317119488 := by decide +kernel
def zL_wsL_law_r1 : List Nat := [68, 69, 53, 876, 877, 56, 70, 71, 72, 73, 74, 75, 76, 112, 113, 78, 114, 115, 80, 116, 117, 110, 118, 119]
set_option maxRecDepth 100000 in
theorem q_wsL_law_r1 : wsL_law_r1 = List.map zw zL_wsL_law_r1 := zq_n _ (id rfl)
def zL_wsL_law_r2 : List Nat := [120, 82, 54, 83, 84, 85, 86, 111, 90, 92, 93, 95, 97, 87, 88, 55, 89, 878, 879, 880, 881, 882, 883, 884]
set_option maxRecDepth 100000 in
theorem q_wsL_law_r2 : wsL_law_r2 = List.map zw zL_wsL_law_r2 := zq_n _ (id rfl)
def zL_wsL_law_r3 : List Nat := [886, 887, 888, 889, 890, 891, 892, 893, 894, 895, 896, 897, 898, 899, 900, 901, 902, 903, 904, 905, 906, 907, 908, 909]
set_option maxRecDepth 100000 in
theorem q_wsL_law_r3 : wsL_law_r3 = List.map zw zL_wsL_law_r3 := zq_n _ (id rfl)
def zL_wsL_law_r4 : List Nat := [911, 912, 913, 914, 915, 916, 917, 919, 922, 923, 924, 925, 926, 927, 928, 929, 930, 140, 141, 142, 143, 91, 144, 145]
set_option maxRecDepth 100000 in
theorem q_wsL_law_r4 : wsL_law_r4 = List.map zw zL_wsL_law_r4 := zq_n _ (id rfl)
def zL_wsL_law_r5 : List Nat := [146, 147, 148, 149, 150, 151, 152, 1039, 1040, 1041, 1042, 910, 1043, 1044, 1045, 1046, 1047, 1048, 1049, 1050, 1051, 153, 154, 155]
set_option maxRecDepth 100000 in
theorem q_wsL_law_r5 : wsL_law_r5 = List.map zw zL_wsL_law_r5 := zq_n _ (id rfl)
def zL_wsL_law_r6 : List Nat := [156, 94, 1052, 1053, 1054, 1055, 1056, 1058, 27, 1059, 157, 158, 159, 160, 161, 162, 58, 163, 164, 165, 176, 177, 179, 174]
set_option maxRecDepth 100000 in
theorem q_wsL_law_r6 : wsL_law_r6 = List.map zw zL_wsL_law_r6 := zq_n _ (id rfl)
def zL_wsL_law_r7 : List Nat := [166, 167, 57, 168, 169, 194, 198, 181, 188, 171, 190, 173, 222, 224, 0, 225, 183, 1060, 1061, 1062, 1063, 885, 1064, 1066]
set_option maxRecDepth 100000 in
theorem q_wsL_law_r7 : wsL_law_r7 = List.map zw zL_wsL_law_r7 := zq_n _ (id rfl)
def zL_wsL_law_r8 : List Nat := [28, 1067, 226, 227, 228, 229, 161, 230, 232, 1, 233, 234, 235, 236, 237, 1068, 1069, 1070, 1071, 1072, 1074, 29, 1075, 1076]
set_option maxRecDepth 100000 in
theorem q_wsL_law_r8 : wsL_law_r8 = List.map zw zL_wsL_law_r8 := zq_n _ (id rfl)
def zL_wsL_law_r9 : List Nat := [1078, 30, 1079, 238, 239, 240, 241, 242, 243, 59, 244, 245, 246, 248, 250, 251, 247, 1080, 1081, 1082, 1083, 264, 265, 266]
set_option maxRecDepth 100000 in
theorem q_wsL_law_r9 : wsL_law_r9 = List.map zw zL_wsL_law_r9 := zq_n _ (id rfl)
def zL_wsL_law_r10 : List Nat := [267, 268, 269, 60, 270, 271, 272, 274, 275, 276, 273, 1084, 1085, 1086, 1087, 289, 290, 291, 292, 268, 293, 294, 295, 296]
set_option maxRecDepth 100000 in
theorem q_wsL_law_r10 : wsL_law_r10 = List.map zw zL_wsL_law_r10 := zq_n _ (id rfl)
def zL_wsL_law_r11 : List Nat := [297, 298, 299, 1088, 1089, 1090, 1091, 300, 301, 302, 303, 307, 308, 61, 309, 310, 62, 304, 305, 306, 311, 312, 313, 314]
set_option maxRecDepth 100000 in
theorem q_wsL_law_r11 : wsL_law_r11 = List.map zw zL_wsL_law_r11 := zq_n _ (id rfl)
def zL_wsL_law_r12 : List Nat := [315, 317, 322, 326, 329, 333, 351, 352, 353, 360, 355, 357, 358, 354, 1092, 1093, 1094, 1095, 1096, 1097, 1098, 376, 377, 378]
set_option maxRecDepth 100000 in
theorem q_wsL_law_r12 : wsL_law_r12 = List.map zw zL_wsL_law_r12 := zq_n _ (id rfl)
def zL_wsL_law_r13 : List Nat := [379, 380, 381, 63, 382, 383, 384, 386, 388, 385, 1099, 1100, 1101, 1102, 400, 401, 402, 403, 404, 404, 435, 64, 405, 407]
set_option maxRecDepth 100000 in
theorem q_wsL_law_r13 : wsL_law_r13 = List.map zw zL_wsL_law_r13 := zq_n _ (id rfl)
def zL_wsL_law_r14 : List Nat := [2, 408, 202, 409, 411, 3, 412, 96, 98, 413, 415, 4, 416, 417, 418, 419, 420, 421, 422, 423, 424, 427, 429, 5]
set_option maxRecDepth 100000 in
theorem q_wsL_law_r14 : wsL_law_r14 = List.map zw zL_wsL_law_r14 := zq_n _ (id rfl)
def zL_wsL_law_r15 : List Nat := [430, 431, 433, 6, 434, 441, 436, 437, 438, 440, 442, 439, 1103, 1104, 1105, 1106, 1107, 1108, 1109, 1110, 920, 921, 1111, 1113]
set_option maxRecDepth 100000 in
theorem q_wsL_law_r15 : wsL_law_r15 = List.map zw zL_wsL_law_r15 := zq_n _ (id rfl)
def zL_wsL_law_r16 : List Nat := [31, 1114, 453, 454, 455, 456, 457, 459, 7, 460, 1115, 1116, 1117, 1118, 461, 462, 463, 464, 180, 1119, 1120, 1121, 1122, 465]
set_option maxRecDepth 100000 in
theorem q_wsL_law_r16 : wsL_law_r16 = List.map zw zL_wsL_law_r16 := zq_n _ (id rfl)
def zL_wsL_law_r17 : List Nat := [466, 467, 468, 598, 65, 197, 469, 471, 8, 472, 473, 475, 476, 474, 489, 474, 477, 478, 479, 480, 481, 482, 483, 330]
set_option maxRecDepth 100000 in
theorem q_wsL_law_r17 : wsL_law_r17 = List.map zw zL_wsL_law_r17 := zq_n _ (id rfl)
def zL_wsL_law_r18 : List Nat := [484, 485, 486, 488, 490, 492, 493, 494, 495, 497, 498, 499, 500, 501, 502, 503, 504, 505, 334, 506, 507, 508, 509, 510]
set_option maxRecDepth 100000 in
theorem q_wsL_law_r18 : wsL_law_r18 = List.map zw zL_wsL_law_r18 := zq_n _ (id rfl)
def zL_wsL_law_r19 : List Nat := [511, 513, 515, 516, 514, 522, 517, 518, 519, 520, 521, 523, 524, 525, 526, 331, 335, 323, 327, 528, 530, 531, 529, 574]
set_option maxRecDepth 100000 in
theorem q_wsL_law_r19 : wsL_law_r19 = List.map zw zL_wsL_law_r19 := zq_n _ (id rfl)
def zL_wsL_law_r20 : List Nat := [532, 529, 533, 534, 535, 199, 200, 201, 318, 324, 537, 538, 539, 540, 541, 542, 543, 544, 545, 546, 547, 336, 319, 195]
set_option maxRecDepth 100000 in
theorem q_wsL_law_r20 : wsL_law_r20 = List.map zw zL_wsL_law_r20 := zq_n _ (id rfl)
def zL_wsL_law_r21 : List Nat := [196, 548, 549, 551, 552, 553, 554, 555, 556, 557, 558, 559, 560, 561, 562, 563, 564, 565, 191, 192, 566, 567, 568, 569]
set_option maxRecDepth 100000 in
theorem q_wsL_law_r21 : wsL_law_r21 = List.map zw zL_wsL_law_r21 := zq_n _ (id rfl)
def zL_wsL_law_r22 : List Nat := [570, 571, 572, 573, 575, 577, 9, 578, 321, 316, 579, 580, 581, 582, 182, 583, 584, 585, 586, 587, 589, 590, 588, 596]
set_option maxRecDepth 100000 in
theorem q_wsL_law_r22 : wsL_law_r22 = List.map zw zL_wsL_law_r22 := zq_n _ (id rfl)
def zL_wsL_law_r23 : List Nat := [597, 591, 592, 593, 594, 595, 599, 600, 601, 602, 603, 605, 607, 609, 620, 622, 10, 623, 1123, 1124, 1125, 1126, 1127, 1129]
set_option maxRecDepth 100000 in
theorem q_wsL_law_r23 : wsL_law_r23 = List.map zw zL_wsL_law_r23 := zq_n _ (id rfl)
def zL_wsL_law_r24 : List Nat := [32, 1130, 1131, 1133, 33, 1134, 1135, 1137, 34, 1138, 1139, 1141, 35, 1142, 1143, 1145, 36, 1146, 1147, 1149, 37, 1150, 1151, 1153]
set_option maxRecDepth 100000 in
theorem q_wsL_law_r24 : wsL_law_r24 = List.map zw zL_wsL_law_r24 := zq_n _ (id rfl)
def zL_wsL_law_r25 : List Nat := [38, 1154, 1155, 1157, 39, 1158, 1159, 1161, 40, 1162, 1163, 1165, 41, 1166, 1167, 1169, 42, 1170, 624, 625, 626, 627, 628, 1272]
set_option maxRecDepth 100000 in
theorem q_wsL_law_r25 : wsL_law_r25 = List.map zw zL_wsL_law_r25 := zq_n _ (id rfl)
def zL_wsL_law_r26 : List Nat := [1273, 1274, 1275, 1276, 1277, 1278, 629, 631, 11, 632, 633, 635, 636, 634, 642, 637, 638, 639, 640, 641, 1171, 1172, 1173, 1174]
set_option maxRecDepth 100000 in
theorem q_wsL_law_r26 : wsL_law_r26 = List.map zw zL_wsL_law_r26 := zq_n _ (id rfl)
def zL_wsL_law_r27 : List Nat := [643, 644, 645, 646, 1175, 1176, 1177, 1178, 647, 648, 649, 650, 610, 651, 653, 12, 654, 655, 656, 658, 13, 659, 380, 387]
set_option maxRecDepth 100000 in
theorem q_wsL_law_r27 : wsL_law_r27 = List.map zw zL_wsL_law_r27 := zq_n _ (id rfl)
def zL_wsL_law_r28 : List Nat := [389, 660, 661, 663, 1179, 1180, 1181, 1182, 918, 1183, 1185, 43, 1186, 664, 665, 666, 667, 668, 670, 14, 671, 606, 604, 608]
set_option maxRecDepth 100000 in
theorem q_wsL_law_r28 : wsL_law_r28 = List.map zw zL_wsL_law_r28 := zq_n _ (id rfl)
def zL_wsL_law_r29 : List Nat := [1187, 1188, 1189, 1190, 672, 673, 674, 675, 748, 676, 677, 678, 679, 680, 681, 682, 683, 684, 685, 686, 687, 688, 690, 15]
set_option maxRecDepth 100000 in
theorem q_wsL_law_r29 : wsL_law_r29 = List.map zw zL_wsL_law_r29 := zq_n _ (id rfl)
def zL_wsL_law_r30 : List Nat := [691, 741, 742, 66, 692, 694, 16, 695, 696, 698, 699, 697, 705, 320, 700, 701, 702, 703, 704, 706, 708, 17, 709, 307]
set_option maxRecDepth 100000 in
theorem q_wsL_law_r30 : wsL_law_r30 = List.map zw zL_wsL_law_r30 := zq_n _ (id rfl)
def zL_wsL_law_r31 : List Nat := [356, 242, 710, 711, 712, 713, 715, 716, 714, 722, 723, 725, 726, 724, 732, 733, 734, 735, 736, 737, 738, 739, 740, 727]
set_option maxRecDepth 100000 in
theorem q_wsL_law_r31 : wsL_law_r31 = List.map zw zL_wsL_law_r31 := zq_n _ (id rfl)
def zL_wsL_law_r32 : List Nat := [728, 729, 730, 731, 717, 718, 719, 720, 721, 743, 744, 745, 746, 747, 749, 751, 760, 762, 18, 763, 175, 764, 765, 767]
set_option maxRecDepth 100000 in
theorem q_wsL_law_r32 : wsL_law_r32 = List.map zw zL_wsL_law_r32 := zq_n _ (id rfl)
def zL_wsL_law_r33 : List Nat := [19, 768, 325, 332, 328, 337, 249, 184, 185, 769, 770, 771, 772, 773, 774, 775, 776, 778, 777, 67, 1219, 1220, 1221, 1222]
set_option maxRecDepth 100000 in
theorem q_wsL_law_r33 : wsL_law_r33 = List.map zw zL_wsL_law_r33 := zq_n _ (id rfl)
def zL_wsL_law_r34 : List Nat := [931, 1195, 1197, 44, 1198, 932, 933, 1199, 1201, 45, 1202, 1203, 1205, 46, 1206, 1207, 1209, 47, 1210, 1211, 1213, 48, 1214, 1215]
set_option maxRecDepth 100000 in
theorem q_wsL_law_r34 : wsL_law_r34 = List.map zw zL_wsL_law_r34 := zq_n _ (id rfl)
def zL_wsL_law_r35 : List Nat := [1217, 49, 1218, 779, 780, 781, 782, 783, 785, 20, 786, 787, 789, 21, 790, 791, 793, 22, 794, 361, 1223, 1224, 1225, 1226]
set_option maxRecDepth 100000 in
theorem q_wsL_law_r35 : wsL_law_r35 = List.map zw zL_wsL_law_r35 := zq_n _ (id rfl)
def zL_wsL_law_r36 : List Nat := [1227, 1229, 50, 1230, 795, 796, 797, 798, 799, 801, 23, 802, 803, 805, 806, 804, 812, 807, 808, 809, 810, 811, 813, 814]
set_option maxRecDepth 100000 in
theorem q_wsL_law_r36 : wsL_law_r36 = List.map zw zL_wsL_law_r36 := zq_n _ (id rfl)
def zL_wsL_law_r37 : List Nat := [815, 816, 1231, 1232, 1233, 1234, 1235, 1237, 51, 1238, 817, 818, 819, 820, 1239, 1240, 1241, 1242, 821, 822, 823, 824, 193, 825]
set_option maxRecDepth 100000 in
theorem q_wsL_law_r37 : wsL_law_r37 = List.map zw zL_wsL_law_r37 := zq_n _ (id rfl)
def zL_wsL_law_r38 : List Nat := [826, 1243, 1244, 1245, 1246, 827, 828, 829, 830, 189, 178, 831, 833, 24, 834, 1247, 1248, 1249, 1250, 835, 836, 837, 838, 839]
set_option maxRecDepth 100000 in
theorem q_wsL_law_r38 : wsL_law_r38 = List.map zw zL_wsL_law_r38 := zq_n _ (id rfl)
def zL_wsL_law_r39 : List Nat := [1251, 1252, 1253, 1254, 840, 841, 842, 843, 750, 752, 1191, 1192, 1193, 1194, 844, 845, 846, 847, 1255, 848, 849, 850, 851, 1256]
set_option maxRecDepth 100000 in
theorem q_wsL_law_r39 : wsL_law_r39 = List.map zw zL_wsL_law_r39 := zq_n _ (id rfl)
def zL_wsL_law_r40 : List Nat := [1257, 1258, 1259, 852, 853, 854, 855, 1260, 1261, 1262, 1263, 856, 857, 858, 859, 860, 862, 25, 863, 359, 186, 187, 864, 865]
set_option maxRecDepth 100000 in
theorem q_wsL_law_r40 : wsL_law_r40 = List.map zw zL_wsL_law_r40 := zq_n _ (id rfl)
def zL_wsL_law_r41 : List Nat := [866, 867, 1264, 1265, 1266, 1267, 868, 869, 870, 871, 872, 874, 26, 875, 1268, 1269, 1270, 1271]
set_option maxRecDepth 100000 in
theorem q_wsL_law_r41 : wsL_law_r41 = List.map zw zL_wsL_law_r41 := zq_n _ (id rfl)
def zL_wsL_law : List Nat := ((((((((((((((zL_wsL_law_r1 ++ (zL_wsL_law_r2 ++ (zL_wsL_law_r3 ++ (zL_wsL_law_r4 ++ (zL_wsL_law_r5 ++ (zL_wsL_law_r6 ++ (zL_wsL_law_r7 ++ (zL_wsL_law_r8 ++ (zL_wsL_law_r9 ++ (zL_wsL_law_r10 ++ (zL_wsL_law_r11 ++ (zL_wsL_law_r12 ++ (zL_wsL_law_r13 ++ (zL_wsL_law_r14 ++ (zL_wsL_law_r15 ++ (zL_wsL_law_r16 ++ (zL_wsL_law_r17 ++ (zL_wsL_law_r18 ++ (zL_wsL_law_r19 ++ (zL_wsL_law_r20 ++ (zL_wsL_law_r21 ++ (zL_wsL_law_r22 ++ (zL_wsL_law_r23 ++ (zL_wsL_law_r24 ++ (zL_wsL_law_r25 ++ (zL_wsL_law_r26 ++ (zL_wsL_law_r27 ++ (zL_wsL_law_r28 ++ (zL_wsL_law_r29 ++ (zL_wsL_law_r30 ++ (zL_wsL_law_r31 ++ (zL_wsL_law_r32 ++ (zL_wsL_law_r33 ++ (zL_wsL_law_r34 ++ (zL_wsL_law_r35 ++ (zL_wsL_law_r36 ++ (zL_wsL_law_r37 ++ (zL_wsL_law_r38 ++ (zL_wsL_law_r39 ++ (zL_wsL_law_r40 ++ zL_wsL_law_r41)))))))))))))))))))))))))))))))))))))))) ++ zL_wsX110) ++ zL_wsX120) ++ zL_wsX90) ++ zL_wsX100) ++ zL_wsX20) ++ zL_wsX30) ++ zL_wsX50) ++ zL_wsX60) ++ zL_wsX70) ++ zL_wsX80) ++ zL_wsX00) ++ zL_wsX10) ++ [])
set_option maxRecDepth 100000 in
theorem q_wsL_law : wsL_law = List.map zw zL_wsL_law := (zq_a (zq_a (zq_a (zq_a (zq_a (zq_a (zq_a (zq_a (zq_a (zq_a (zq_a (zq_a (zq_a (zq_a q_wsL_law_r1 (zq_a q_wsL_law_r2 (zq_a q_wsL_law_r3 (zq_a q_wsL_law_r4 (zq_a q_wsL_law_r5 (zq_a q_wsL_law_r6 (zq_a q_wsL_law_r7 (zq_a q_wsL_law_r8 (zq_a q_wsL_law_r9 (zq_a q_wsL_law_r10 (zq_a q_wsL_law_r11 (zq_a q_wsL_law_r12 (zq_a q_wsL_law_r13 (zq_a q_wsL_law_r14 (zq_a q_wsL_law_r15 (zq_a q_wsL_law_r16 (zq_a q_wsL_law_r17 (zq_a q_wsL_law_r18 (zq_a q_wsL_law_r19 (zq_a q_wsL_law_r20 (zq_a q_wsL_law_r21 (zq_a q_wsL_law_r22 (zq_a q_wsL_law_r23 (zq_a q_wsL_law_r24 (zq_a q_wsL_law_r25 (zq_a q_wsL_law_r26 (zq_a q_wsL_law_r27 (zq_a q_wsL_law_r28 (zq_a q_wsL_law_r29 (zq_a q_wsL_law_r30 (zq_a q_wsL_law_r31 (zq_a q_wsL_law_r32 (zq_a q_wsL_law_r33 (zq_a q_wsL_law_r34 (zq_a q_wsL_law_r35 (zq_a q_wsL_law_r36 (zq_a q_wsL_law_r37 (zq_a q_wsL_law_r38 (zq_a q_wsL_law_r39 (zq_a q_wsL_law_r40 q_wsL_law_r41)))))))))))))))))))))))))))))))))))))))) q_wsX110) q_wsX120) q_wsX90) q_wsX100) q_wsX20) q_wsX30) q_wsX50) q_wsX60) q_wsX70) q_wsX80) q_wsX00) q_wsX10) zq_nil)
set_option maxRecDepth 100000 in
theorem k_wsL_law : zm zL_wsL_law = 10407932194663211213772764548490416953311002222021908912622966675077071879544361354856805609019984129995786163254820155238262714651026284267982758700597537714398612956034831153785753636264491901340945055489457635225972912770751945265215097950179558282662773238070691654250662206164804396319665059502386379391120657362619255698425059862686042680540220608018842595294763676620444768665599 := by decide +kernel
def zT_0 : List Nat := [0, 1, 2, 3, 4, 5, 6, 7, 8, 9, 10, 11, 12, 13, 14, 15, 16, 17, 18, 19, 20, 21, 22, 23, 24, 25, 26, 27, 28, 29, 30, 31, 32, 33, 34, 35, 36, 37, 38, 39, 40, 41, 42, 43, 44, 45, 46, 47, 48, 49, 50, 51]
set_option maxRecDepth 100000 in
theorem qt_0 : k2_sels lw_privs = List.map zw zT_0 := zq_n _ (id rfl)
def zT_1 : List Nat := [52, 53, 54, 55, 56, 57, 58, 59, 60, 61, 62, 63, 64, 65, 66, 67, 68, 69, 70, 71, 72, 73, 74, 75, 76, 77, 78, 79, 80, 81, 82, 83, 84, 85, 86, 87, 88, 89, 90, 91, 92, 93, 94, 95, 96, 97, 98, 99, 100, 101, 102, 103, 104, 105, 106, 107, 108, 109, 110, 111, 112, 113, 114, 115, 116, 117, 118, 119, 120, 121, 122, 123, 124, 125, 126, 127, 128, 129, 130, 131, 132, 133, 134, 135, 136, 137, 138, 139, 140, 141, 142, 143, 144, 145, 146, 147, 148, 149, 150, 151, 152, 153, 154, 155, 156, 157, 158, 159, 160, 161, 162, 163, 164, 165, 166, 167, 168, 169, 170, 171, 172, 173, 174, 175, 176, 177, 178, 179, 180, 181, 182, 183, 184, 185, 186, 187, 188, 189, 190, 191, 192, 193, 194, 195, 196, 197, 198, 199, 200, 201, 202, 203, 204, 205, 206, 207, 208, 209, 210, 211, 212, 213, 214, 215, 216, 217, 218, 219, 220, 221, 222, 223, 224, 225, 226, 227, 228, 229, 230, 231, 232, 233, 234, 235, 236, 237, 238, 239, 240, 241, 242, 243, 244, 245, 246, 247, 248, 249, 250, 251, 252, 253, 254, 255, 256, 257, 258, 259, 260, 261, 262, 263, 264, 265, 266, 267, 268, 269, 270, 271, 272, 273, 274, 275, 276, 277, 278, 279, 280, 281, 282, 283, 284, 285, 286, 287, 288, 289, 290, 291]
set_option maxRecDepth 100000 in
theorem qt_1 : tables_1_1 = List.map zw zT_1 := zq_n _ (id rfl)
def zT_2 : List Nat := [292, 293, 294, 295, 296, 297, 298, 299, 300, 301, 302, 303, 304, 305, 306, 307, 308, 309, 310, 311, 312, 313, 314, 315, 316, 317, 318, 319, 320, 321, 322, 323, 324, 325, 326, 327, 328, 329, 330, 331, 332, 333, 334, 335, 336, 337, 338, 339, 340, 341, 342, 343, 344, 345, 346, 347, 348, 349, 350, 351, 352, 353, 354, 355, 356, 357, 358, 359, 360, 361, 362, 363, 364, 365, 366, 367, 368, 369, 370, 371, 372, 373, 374, 375, 376, 377, 378, 379, 380, 381, 382, 383, 384, 385, 386, 387, 388, 389, 390, 391, 392, 393, 394, 395, 396, 397, 398, 399, 400, 401, 402, 403, 404, 405, 406, 407, 408, 409, 410, 411, 412, 413, 414, 415, 416, 417, 418, 419, 420, 421, 422, 423, 424, 425, 426, 427, 428, 429, 430, 431, 432, 433, 434, 435, 436, 437, 438, 439, 440, 441, 442, 443, 444, 445, 446, 447, 448, 449, 450, 451, 452, 453, 454, 455, 456, 457, 458, 459, 460, 461, 462, 463, 464, 465, 466, 467, 468, 469, 470, 471, 472, 473, 474, 475, 476, 477, 478, 479, 480, 481, 482, 483, 484, 485, 486, 487, 488, 489, 490, 491, 492, 493, 494, 495, 496, 497, 498, 499, 500, 501, 502, 503, 504, 505, 506, 507, 508, 509, 510, 511, 512, 513, 514, 515, 516, 517, 518, 519, 520, 521, 522, 523, 524, 525, 526, 527, 528, 529, 530, 531]
set_option maxRecDepth 100000 in
theorem qt_2 : tables_1_2 = List.map zw zT_2 := zq_n _ (id rfl)
def zT_3 : List Nat := [532, 533, 534, 535, 536, 537, 538, 539, 540, 541, 542, 543, 544, 545, 546, 547, 548, 549, 550, 551, 552, 553, 554, 555, 556, 557, 558, 559, 560, 561, 562, 563, 564, 565, 566, 567, 568, 569, 570, 571, 572, 573, 574, 575, 576, 577, 578, 579, 580, 581, 582, 583, 584, 585, 586, 587, 588, 589, 590, 591, 592, 593, 594, 595, 596, 597, 598, 599, 600, 601, 602, 603, 604, 605, 606, 607, 608, 609, 610, 611, 612, 613, 614, 615, 616, 617, 618, 619, 620, 621, 622, 623, 624, 625, 626, 627, 628, 629, 630, 631, 632, 633, 634, 635, 636, 637, 638, 639, 640, 641, 642, 643, 644, 645, 646, 647, 648, 649, 650, 651, 652, 653, 654, 655, 656, 657, 658, 659, 660, 661, 662, 663, 664, 665, 666, 667, 668, 669, 670, 671, 672, 673, 674, 675, 676, 677, 678, 679, 680, 681, 682, 683, 684, 685, 686, 687, 688, 689, 690, 691, 692, 693, 694, 695, 696, 697, 698, 699, 700, 701, 702, 703, 704, 705, 706, 707, 708, 709, 710, 711, 712, 713, 714, 715, 716, 717, 718, 719, 720, 721, 722, 723, 724, 725, 726, 727, 728, 729, 730, 731, 732, 733, 734, 735, 736, 737, 738, 739, 740, 741, 742, 743, 744, 745, 746, 747, 748, 749, 750, 751, 752, 753, 754, 755, 756, 757, 758, 759, 760, 761, 762, 763, 764, 765, 766, 767, 768, 769, 770, 771]
set_option maxRecDepth 100000 in
theorem qt_3 : tables_1_3 = List.map zw zT_3 := zq_n _ (id rfl)
def zT_4 : List Nat := [772, 773, 774, 775, 776, 777, 778, 779, 780, 781, 782, 783, 784, 785, 786, 787, 788, 789, 790, 791, 792, 793, 794, 795, 796, 797, 798, 799, 800, 801, 802, 803, 804, 805, 806, 807, 808, 809, 810, 811, 812, 813, 814, 815, 816, 817, 818, 819, 820, 821, 822, 823, 824, 825, 826, 827, 828, 829, 830, 831, 832, 833, 834, 835, 836, 837, 838, 839, 840, 841, 842, 843, 844, 845, 846, 847, 848, 849, 850, 851, 852, 853, 854, 855, 856, 857, 858, 859, 860, 861, 862, 863, 864, 865, 866, 867, 868, 869, 870, 871, 872, 873, 874, 875, 876, 877, 878, 879, 880, 881, 882, 883, 884, 885, 886, 887, 888, 889, 890, 891, 892, 893, 894, 895, 896, 897, 898, 899, 900, 901, 902, 903, 904, 905, 906, 907, 908, 909, 910, 911, 912, 913, 914, 915, 916, 917, 918, 919, 920, 921, 922, 923, 924, 925, 926, 927, 928, 929, 930, 931, 932, 933, 934, 935, 936, 937, 938, 939, 940, 941, 942, 943, 944, 945, 946, 947, 948, 949, 950, 951, 952, 953, 954, 955, 956, 957, 958, 959, 960, 961, 962, 963, 964, 965, 966, 967, 968, 969, 970, 971, 972, 973, 974, 975, 976, 977, 978, 979, 980, 981, 982, 983, 984, 985, 986, 987, 988, 989, 990, 991, 992, 993, 994, 995, 996, 997, 998, 999, 1000, 1001, 1002, 1003, 1004, 1005, 1006, 1007, 1008, 1009, 1010, 1011]
set_option maxRecDepth 100000 in
theorem qt_4 : tables_1_4 = List.map zw zT_4 := zq_n _ (id rfl)
def zT_5 : List Nat := [1012, 1013, 1014, 1015, 1016, 1017, 1018, 1019, 1020, 1021, 1022, 1023, 1024, 1025, 1026, 1027, 1028, 1029, 1030, 1031, 1032, 1033, 1034, 1035, 1036, 1037, 1038, 1039, 1040, 1041, 1042, 1043, 1044, 1045, 1046, 1047, 1048, 1049, 1050, 1051, 1052, 1053, 1054, 1055, 1056, 1057, 1058, 1059, 1060, 1061, 1062, 1063, 1064, 1065, 1066, 1067, 1068, 1069, 1070, 1071, 1072, 1073, 1074, 1075, 1076, 1077, 1078, 1079, 1080, 1081, 1082, 1083, 1084, 1085, 1086, 1087, 1088, 1089, 1090, 1091, 1092, 1093, 1094, 1095, 1096, 1097, 1098, 1099, 1100, 1101, 1102, 1103, 1104, 1105, 1106, 1107, 1108, 1109, 1110, 1111, 1112, 1113, 1114, 1115, 1116, 1117, 1118, 1119, 1120, 1121, 1122, 1123, 1124, 1125, 1126, 1127, 1128, 1129, 1130, 1131, 1132, 1133, 1134, 1135, 1136, 1137, 1138, 1139, 1140, 1141, 1142, 1143, 1144, 1145, 1146, 1147, 1148, 1149, 1150, 1151, 1152, 1153, 1154, 1155, 1156, 1157, 1158, 1159, 1160, 1161, 1162, 1163, 1164, 1165, 1166, 1167, 1168, 1169, 1170, 1171, 1172, 1173, 1174, 1175, 1176, 1177, 1178, 1179, 1180, 1181, 1182, 1183, 1184, 1185, 1186, 1187, 1188, 1189, 1190, 1191, 1192, 1193, 1194, 1195, 1196, 1197, 1198, 1199, 1200, 1201, 1202, 1203, 1204, 1205, 1206, 1207, 1208, 1209, 1210, 1211, 1212, 1213, 1214, 1215, 1216, 1217, 1218, 1219, 1220, 1221, 1222, 1223, 1224, 1225, 1226, 1227, 1228, 1229, 1230, 1231, 1232, 1233, 1234, 1235, 1236, 1237, 1238, 1239, 1240, 1241, 1242, 1243, 1244, 1245, 1246, 1247, 1248, 1249, 1250, 1251]
set_option maxRecDepth 100000 in
theorem qt_5 : tables_1_5 = List.map zw zT_5 := zq_n _ (id rfl)
def zT_6 : List Nat := [1252, 1253, 1254, 1255, 1256, 1257, 1258, 1259, 1260, 1261, 1262, 1263, 1264, 1265, 1266, 1267, 1268, 1269, 1270, 1271, 1272, 1273, 1274, 1275, 1276, 1277, 1278, 1279, 1280, 1281, 1282, 1283, 1284]
set_option maxRecDepth 100000 in
theorem qt_6 : tables_1_6 = List.map zw zT_6 := zq_n _ (id rfl)
def zT : List Nat := zT_0 ++ (zT_1 ++ (zT_2 ++ (zT_3 ++ (zT_4 ++ (zT_5 ++ zT_6)))))
set_option maxRecDepth 100000 in
theorem qt : lw_tbl = List.map zw zT := zq_a qt_0 (zq_a qt_1 (zq_a qt_2 (zq_a qt_3 (zq_a qt_4 (zq_a qt_5 qt_6)))))
set_option maxRecDepth 100000 in
theorem kt : zm zT = 666107660458521541243215380951301474471376783825069107540423190425830915819095059072783324270868747829914983293073984498648548239892701754120954022763348528827144288600910102129483734378341347230269402915052147917548395337443102647485600088604048658670870328659914293026458661441808358698638389241018803318212366221000993345708699871278909313848195255663115961645742125475565002798661631 := by decide +kernel
set_option maxRecDepth 100000 in
theorem wsL_law_in : ∀ w ∈ wsL_law, w ∈ lw_tbl := zin qt q_wsL_law kt k_wsL_law (by decide +kernel)
