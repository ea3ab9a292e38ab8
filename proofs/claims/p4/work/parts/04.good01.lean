set_option maxRecDepth 20000 in
theorem gX11_put_X10_maySit_u155X10 : GoodIn wsX11_put (va_wsO RX11 155 RX10 "PageOne$Item" ⟨"PageOne$Item", "maySit", "(LPageOne$Piece;II)Z"⟩ yX10_maySit wsX10_maySit) := goodIn_app (goodIn_of _ (by decide +kernel)) ggX11_put_X10_maySit
set_option maxRecDepth 20000 in
theorem ggX11_put_X11_stand : GoodIn wsX11_put wsX11_stand := goodIn_r _ [190, 4, 191, 192, 193, 194, 195, 3, 196, 90, 197, 198, 199, 200, 111, 201, 115, 113, 116, 114, 126, 121, 122, 123, 124, 125, 119, 14, 120, 18, 19, 20, 202, 203, 204, 205, 33, 206, 102, 101, 207, 97, 98, 99, 100, 103, 104, 105, 106, 107, 208, 209, 210, 211, 212, 232, 233, 234, 235, 236, 237, 238, 239, 240, 226, 227, 228, 229, 230, 231, 250, 251, 252, 253, 254, 255, 256, 257, 258, 259, 260, 261, 262, 263, 264, 265, 266, 267, 268, 269, 270, 271, 272, 273, 274, 275, 276, 277, 278, 279, 280, 281, 282, 283, 284, 285, 286, 287, 288, 289, 290, 291, 292, 293, 294, 295, 296, 297, 241, 242, 243, 244, 245] (by decide +kernel) (by decide +kernel)
set_option maxRecDepth 20000 in
theorem gX11_put_X11_stand : GoodIn wsX11_put (wsV RX11 159 RX11 yX11_stand wsX11_stand) := goodIn_app (goodIn_of _ (by decide +kernel)) ggX11_put_X11_stand
set_option maxRecDepth 20000 in
theorem ggX11_put_X0_init : GoodIn wsX11_put wsX0_init := goodIn_r _ [215, 216, 88, 89, 217, 218, 219, 220, 246, 247, 248, 249] (by decide +kernel) (by decide +kernel)
set_option maxRecDepth 20000 in
theorem gX11_put_X0_init : GoodIn wsX11_put (wsX0_init) := ggX11_put_X0_init
set_option maxRecDepth 20000 in
theorem ggX11_put_X11_keep : GoodIn wsX11_put wsX11_keep := goodIn_r _ [224, 225, 28, 24, 25, 26, 14, 27, 232, 233, 234, 235, 236, 237, 238, 239, 240] (by decide +kernel) (by decide +kernel)
set_option maxRecDepth 20000 in
theorem gX11_put_X11_keep : GoodIn wsX11_put (wsV RX11 166 RX11 yX11_keep wsX11_keep) := goodIn_app (goodIn_of _ (by decide +kernel)) ggX11_put_X11_keep
set_option maxRecDepth 20000 in
theorem ggX11_lift_X11_itemOf : GoodIn wsX11_lift wsX11_itemOf := goodIn_r _ [9, 10, 11, 12, 13, 8, 14, 134, 135, 136, 137, 138, 139, 140, 141, 142] (by decide +kernel) (by decide +kernel)
set_option maxRecDepth 20000 in
theorem gX11_lift_X11_itemOf : GoodIn wsX11_lift (wsV RX11 75 RX11 yX11_itemOf wsX11_itemOf) := goodIn_app (goodIn_of _ (by decide +kernel)) ggX11_lift_X11_itemOf
set_option maxRecDepth 20000 in
theorem ggX11_lift_X11_canAct : GoodIn wsX11_lift wsX11_canAct := goodIn_r _ [18, 19, 134, 135, 136, 137, 138, 139, 140, 141, 142] (by decide +kernel) (by decide +kernel)
set_option maxRecDepth 20000 in
theorem gX11_lift_X11_canAct : GoodIn wsX11_lift (wsV RX11 138 RX11 yX11_canAct wsX11_canAct) := goodIn_app (goodIn_of _ (by decide +kernel)) ggX11_lift_X11_canAct
set_option maxRecDepth 20000 in
theorem ggX11_lift_X4_lastPiece : GoodIn wsX11_lift wsX4_lastPiece := goodIn_r _ [25, 26, 27, 86, 87, 88, 89, 90, 91, 92, 93, 94, 95, 96, 97, 98, 99, 100, 101, 102, 103, 104, 105, 106, 107, 108, 109, 110, 111, 112, 113, 114, 115, 116, 117, 118, 119, 120, 121, 122, 123, 124, 125, 126, 127, 128, 129, 130, 131, 132, 133] (by decide +kernel) (by decide +kernel)
set_option maxRecDepth 20000 in
theorem gX11_lift_X4_lastPiece_u173X2 : GoodIn wsX11_lift (va_wsU RX11 173 RX2 "PageOne$Item" ⟨"PageOne$Item", "lastPiece", "()LPageOne$Piece;"⟩ yX4_lastPiece wsX4_lastPiece) := goodIn_app (goodIn_of _ (by decide +kernel)) ggX11_lift_X4_lastPiece
set_option maxRecDepth 20000 in
theorem gX11_lift_X4_lastPiece_u173X3 : GoodIn wsX11_lift (va_wsU RX11 173 RX3 "PageOne$Item" ⟨"PageOne$Item", "lastPiece", "()LPageOne$Piece;"⟩ yX4_lastPiece wsX4_lastPiece) := goodIn_app (goodIn_of _ (by decide +kernel)) ggX11_lift_X4_lastPiece
set_option maxRecDepth 20000 in
theorem gX11_lift_X4_lastPiece_u173X5 : GoodIn wsX11_lift (va_wsU RX11 173 RX5 "PageOne$Item" ⟨"PageOne$Item", "lastPiece", "()LPageOne$Piece;"⟩ yX4_lastPiece wsX4_lastPiece) := goodIn_app (goodIn_of _ (by decide +kernel)) ggX11_lift_X4_lastPiece
set_option maxRecDepth 20000 in
theorem gX11_lift_X4_lastPiece_u173X6 : GoodIn wsX11_lift (va_wsU RX11 173 RX6 "PageOne$Item" ⟨"PageOne$Item", "lastPiece", "()LPageOne$Piece;"⟩ yX4_lastPiece wsX4_lastPiece) := goodIn_app (goodIn_of _ (by decide +kernel)) ggX11_lift_X4_lastPiece
set_option maxRecDepth 20000 in
theorem gX11_lift_X4_lastPiece_u173X7 : GoodIn wsX11_lift (va_wsU RX11 173 RX7 "PageOne$Item" ⟨"PageOne$Item", "lastPiece", "()LPageOne$Piece;"⟩ yX4_lastPiece wsX4_lastPiece) := goodIn_app (goodIn_of _ (by decide +kernel)) ggX11_lift_X4_lastPiece
set_option maxRecDepth 20000 in
theorem gX11_lift_X4_lastPiece_u173X10 : GoodIn wsX11_lift (va_wsU RX11 173 RX10 "PageOne$Item" ⟨"PageOne$Item", "lastPiece", "()LPageOne$Piece;"⟩ yX4_lastPiece wsX4_lastPiece) := goodIn_app (goodIn_of _ (by decide +kernel)) ggX11_lift_X4_lastPiece
set_option maxRecDepth 20000 in
theorem ggX11_lift_X11_takeOff : GoodIn wsX11_lift wsX11_takeOff := goodIn_r _ [36, 37, 38, 39, 40, 41, 42, 43, 44, 45, 46, 47, 48, 49, 50, 51, 52, 53, 54, 55, 8, 56, 12, 13, 14, 57, 58, 59, 60, 24, 61, 26, 27, 62, 63, 64, 65, 66, 134, 135, 136, 137, 138, 139, 140, 141, 142, 143, 144, 145, 146, 147, 148, 149, 150, 151, 152, 153, 86, 87, 88, 89, 90, 91, 92, 93, 94, 95, 96, 97, 98, 99, 100, 101, 102, 103, 104, 105, 106, 107, 108, 109, 110, 111, 112, 113, 114, 115, 116, 117, 118, 119, 120, 121, 122, 123, 124, 125, 126, 127, 128, 129, 130, 131, 132, 133] (by decide +kernel) (by decide +kernel)
set_option maxRecDepth 20000 in
theorem gX11_lift_X11_takeOff : GoodIn wsX11_lift (wsV RX11 177 RX11 yX11_takeOff wsX11_takeOff) := goodIn_app (goodIn_of _ (by decide +kernel)) ggX11_lift_X11_takeOff
set_option maxRecDepth 20000 in
theorem ggX11_lift_X0_init : GoodIn wsX11_lift wsX0_init := goodIn_r _ [69, 70, 71, 72, 73, 74, 75, 76, 82, 83, 84, 85] (by decide +kernel) (by decide +kernel)
set_option maxRecDepth 20000 in
theorem gX11_lift_X0_init : GoodIn wsX11_lift (wsX0_init) := ggX11_lift_X0_init
set_option maxRecDepth 20000 in
theorem ggX11_lift_X11_keep : GoodIn wsX11_lift wsX11_keep := goodIn_r _ [80, 81, 19, 15, 16, 17, 8, 18, 134, 135, 136, 137, 138, 139, 140, 141, 142] (by decide +kernel) (by decide +kernel)
set_option maxRecDepth 20000 in
theorem gX11_lift_X11_keep : GoodIn wsX11_lift (wsV RX11 166 RX11 yX11_keep wsX11_keep) := goodIn_app (goodIn_of _ (by decide +kernel)) ggX11_lift_X11_keep
set_option maxRecDepth 20000 in
theorem ggX11_rule_X11_isPage : GoodIn wsX11_rule wsX11_isPage := goodIn_r _ [11, 12, 13, 10, 14] (by decide +kernel) (by decide +kernel)
set_option maxRecDepth 20000 in
theorem gX11_rule_X11_isPage : GoodIn wsX11_rule (va_wsS RX11 48 yX11_isPage wsX11_isPage) := goodIn_app (goodIn_of _ (by decide +kernel)) ggX11_rule_X11_isPage
set_option maxRecDepth 20000 in
theorem ggX11_rule_X11_canAct : GoodIn wsX11_rule wsX11_canAct := goodIn_r _ [18, 19, 108, 109, 110, 111, 112, 113, 114, 115, 116] (by decide +kernel) (by decide +kernel)
set_option maxRecDepth 20000 in
theorem gX11_rule_X11_canAct : GoodIn wsX11_rule (wsV RX11 138 RX11 yX11_canAct wsX11_canAct) := goodIn_app (goodIn_of _ (by decide +kernel)) ggX11_rule_X11_canAct
set_option maxRecDepth 20000 in
theorem ggX11_rule_X8_init : GoodIn wsX11_rule wsX8_init := goodIn_r _ [22, 23, 24, 25, 26, 27, 28, 29, 30, 31, 102, 103, 104, 105, 106, 107] (by decide +kernel) (by decide +kernel)
set_option maxRecDepth 20000 in
theorem gX11_rule_X8_init : GoodIn wsX11_rule (wsX8_init) := ggX11_rule_X8_init
set_option maxRecDepth 20000 in
theorem ggX11_rule_X9_isFree : GoodIn wsX11_rule wsX9_isFree := goodIn_r _ [36, 37, 38, 39, 40, 41, 10, 42, 12, 13, 14, 43, 44, 45, 46, 47, 35, 48, 49, 50, 102, 103, 104, 105, 106, 107, 121, 122, 123, 124, 125] (by decide +kernel) (by decide +kernel)
set_option maxRecDepth 20000 in
theorem gX11_rule_X9_isFree : GoodIn wsX11_rule (wsV RX11 151 RX9 yX9_isFree wsX9_isFree) := goodIn_app (goodIn_of _ (by decide +kernel)) ggX11_rule_X9_isFree
set_option maxRecDepth 20000 in
theorem ggX11_rule_X11_stand : GoodIn wsX11_rule wsX11_stand := goodIn_r _ [54, 4, 55, 56, 57, 58, 59, 3, 60, 26, 61, 62, 63, 64, 35, 65, 39, 37, 40, 38, 50, 45, 46, 47, 48, 49, 43, 10, 44, 12, 13, 14, 66, 67, 68, 69, 70, 71, 72, 73, 74, 75, 76, 77, 78, 79, 80, 81, 82, 83, 84, 85, 86, 87, 88, 108, 109, 110, 111, 112, 113, 114, 115, 116, 102, 103, 104, 105, 106, 107, 126, 127, 128, 129, 130, 131, 132, 133, 134, 135, 136, 137, 138, 139, 140, 141, 142, 143, 144, 145, 146, 147, 148, 149, 150, 151, 152, 153, 154, 155, 156, 157, 158, 159, 160, 161, 162, 163, 164, 165, 166, 167, 168, 169, 170, 171, 172, 173, 121, 122, 123, 124, 125] (by decide +kernel) (by decide +kernel)
set_option maxRecDepth 20000 in
theorem gX11_rule_X11_stand : GoodIn wsX11_rule (wsV RX11 159 RX11 yX11_stand wsX11_stand) := goodIn_app (goodIn_of _ (by decide +kernel)) ggX11_rule_X11_stand
set_option maxRecDepth 20000 in
theorem ggX11_rule_X0_init : GoodIn wsX11_rule wsX0_init := goodIn_r _ [91, 92, 24, 25, 93, 94, 95, 96, 117, 118, 119, 120] (by decide +kernel) (by decide +kernel)
set_option maxRecDepth 20000 in
theorem gX11_rule_X0_init : GoodIn wsX11_rule (wsX0_init) := ggX11_rule_X0_init
set_option maxRecDepth 20000 in
theorem ggX11_rule_X11_keep : GoodIn wsX11_rule wsX11_keep := goodIn_r _ [100, 101, 19, 15, 16, 17, 10, 18, 108, 109, 110, 111, 112, 113, 114, 115, 116] (by decide +kernel) (by decide +kernel)
set_option maxRecDepth 20000 in
theorem gX11_rule_X11_keep : GoodIn wsX11_rule (wsV RX11 166 RX11 yX11_keep wsX11_keep) := goodIn_app (goodIn_of _ (by decide +kernel)) ggX11_rule_X11_keep
set_option maxRecDepth 20000 in
theorem ggX11_fill_X11_isPage : GoodIn wsX11_fill wsX11_isPage := goodIn_r _ [5, 6, 7, 4, 8] (by decide +kernel) (by decide +kernel)
set_option maxRecDepth 20000 in
theorem gX11_fill_X11_isPage : GoodIn wsX11_fill (va_wsS RX11 48 yX11_isPage wsX11_isPage) := goodIn_app (goodIn_of _ (by decide +kernel)) ggX11_fill_X11_isPage
set_option maxRecDepth 20000 in
theorem ggX11_fill_X11_canAct : GoodIn wsX11_fill wsX11_canAct := goodIn_r _ [12, 13, 119, 120, 121, 122, 123, 124, 125, 126, 127] (by decide +kernel) (by decide +kernel)
set_option maxRecDepth 20000 in
theorem gX11_fill_X11_canAct : GoodIn wsX11_fill (wsV RX11 138 RX11 yX11_canAct wsX11_canAct) := goodIn_app (goodIn_of _ (by decide +kernel)) ggX11_fill_X11_canAct
set_option maxRecDepth 20000 in
theorem ggX11_fill_X11_fillColumn : GoodIn wsX11_fill wsX11_fillColumn := goodIn_r _ [17, 18, 19, 20, 21, 22, 23, 24, 25, 26, 27, 28, 29, 30, 31, 32, 33, 4, 34, 6, 7, 8, 35, 36, 37, 38, 39, 40, 41, 42, 43, 44, 45, 46, 47, 48, 49, 50, 51, 52, 53, 54, 55, 56, 57, 58, 59, 60, 61, 62, 63, 64, 65, 66, 67, 68, 69, 70, 71, 72, 73, 74, 75, 76, 77, 78, 79, 80, 81, 82, 83, 84, 85, 86, 87, 88, 89, 90, 91, 92, 93, 94, 95, 96, 97, 98, 99, 100, 101, 102, 103, 104, 105, 106, 107, 108, 109, 119, 120, 121, 122, 123, 124, 125, 126, 127, 128, 129, 130, 131, 132, 133, 134, 135, 136, 137, 138, 115, 116, 117, 118, 139, 140, 141, 142, 143, 144, 145, 146, 147, 148, 149, 150, 151, 152, 153, 154, 155, 156, 157, 158, 159, 160, 161, 162, 163, 164, 165, 166, 167, 168, 169, 170, 171, 172, 173, 174, 175, 176, 177, 178, 179, 180, 181, 182, 183, 184, 185, 186] (by decide +kernel) (by decide +kernel)
set_option maxRecDepth 20000 in
theorem gX11_fill_X11_fillColumn : GoodIn wsX11_fill (wsV RX11 180 RX11 yX11_fillColumn wsX11_fillColumn) := goodIn_app (goodIn_of _ (by decide +kernel)) ggX11_fill_X11_fillColumn
set_option maxRecDepth 20000 in
theorem ggX11_fill_X11_keep : GoodIn wsX11_fill wsX11_keep := goodIn_r _ [113, 114, 13, 9, 10, 11, 4, 12, 119, 120, 121, 122, 123, 124, 125, 126, 127] (by decide +kernel) (by decide +kernel)
set_option maxRecDepth 20000 in
theorem gX11_fill_X11_keep : GoodIn wsX11_fill (wsV RX11 166 RX11 yX11_keep wsX11_keep) := goodIn_app (goodIn_of _ (by decide +kernel)) ggX11_fill_X11_keep
set_option maxRecDepth 20000 in
theorem ggX11_undo_X11_takeBack : GoodIn wsX11_undo wsX11_takeBack := goodIn_r _ [7, 8, 9, 10, 11, 12, 13, 6, 14, 15, 16, 17, 18, 19, 20, 21, 22, 23, 24, 25, 26, 27, 28, 29, 30, 31, 32, 33, 34, 35, 36, 37, 38, 39, 40, 41, 42, 43, 44, 45, 46, 47, 48, 49, 50, 51, 52, 53, 54, 55, 56, 57, 58, 59, 60, 61, 62, 63, 64, 65, 66, 67, 68, 69, 70, 71, 72, 73, 74, 75, 76, 77, 78, 79, 80, 81, 91, 92, 93, 94, 82, 83, 84, 85, 86, 87, 88, 89, 90, 95, 96, 97, 98, 99, 100, 101, 102, 103, 104, 105, 106, 107, 108, 109, 110, 111, 112, 113, 114, 115, 116, 117, 118, 119, 120, 121, 122, 123, 124, 125, 126, 127, 128, 129, 130, 131, 132, 133, 134, 135, 136, 137, 138, 139, 140, 141, 142, 143, 144, 145, 146, 147, 148, 149, 150, 151, 152, 153] (by decide +kernel) (by decide +kernel)
set_option maxRecDepth 20000 in
theorem gX11_undo_X11_takeBack : GoodIn wsX11_undo (wsV RX11 187 RX11 yX11_takeBack wsX11_takeBack) := goodIn_app (goodIn_of _ (by decide +kernel)) ggX11_undo_X11_takeBack
set_option maxRecDepth 20000 in
theorem ggX11_plate_X11_isPage : GoodIn wsX11_plate wsX11_isPage := goodIn_r _ [14, 15, 16, 13, 17] (by decide +kernel) (by decide +kernel)
set_option maxRecDepth 20000 in
theorem gX11_plate_X11_isPage : GoodIn wsX11_plate (va_wsS RX11 48 yX11_isPage wsX11_isPage) := goodIn_app (goodIn_of _ (by decide +kernel)) ggX11_plate_X11_isPage
set_option maxRecDepth 20000 in
theorem ggX11_plate_X9_cellCount : GoodIn wsX11_plate wsX9_cellCount := goodIn_r _ [21, 22, 199, 200, 201, 202, 203] (by decide +kernel) (by decide +kernel)
set_option maxRecDepth 20000 in
theorem gX11_plate_X9_cellCount : GoodIn wsX11_plate (wsV RX11 190 RX9 yX9_cellCount wsX9_cellCount) := goodIn_app (goodIn_of _ (by decide +kernel)) ggX11_plate_X9_cellCount
set_option maxRecDepth 20000 in
theorem ggX11_plate_X9_emptyCount : GoodIn wsX11_plate wsX9_emptyCount := goodIn_r _ [26, 27, 28, 29, 6, 30, 22, 31, 32, 33, 34, 35, 36, 13, 37, 15, 16, 17, 199, 200, 201, 202, 203] (by decide +kernel) (by decide +kernel)
set_option maxRecDepth 20000 in
theorem gX11_plate_X9_emptyCount : GoodIn wsX11_plate (wsV RX11 194 RX9 yX9_emptyCount wsX9_emptyCount) := goodIn_app (goodIn_of _ (by decide +kernel)) ggX11_plate_X9_emptyCount
set_option maxRecDepth 20000 in
theorem ggX11_plate_X11_breachOn : GoodIn wsX11_plate wsX11_breachOn := goodIn_r _ [41, 42, 43, 44, 45, 46, 47, 48, 49, 13, 50, 51, 52, 53, 54, 55, 56, 57, 58, 59, 60, 61, 62, 63, 64, 65, 66, 67, 68, 69, 70, 71, 72, 73, 74, 75, 76, 77, 78, 79, 80, 81, 82, 83, 84, 85, 86, 87, 88, 89, 90, 91, 92, 93, 94, 95, 96, 97, 98, 99, 100, 101, 102, 103, 104, 105, 106, 107, 108, 109, 110, 111, 112, 113, 114, 115, 116, 117, 118, 119, 120, 121, 122, 123, 124, 125, 126, 127, 128, 129, 130, 131, 132, 133, 134, 135, 136, 137, 138, 139, 140, 141, 142, 143, 144, 145, 146, 147, 148, 16, 17, 149, 150, 151, 152, 153, 154, 1, 155, 156, 157, 158, 159, 160, 161, 162, 163, 164, 165, 166, 32, 33, 6, 34, 22, 35, 36, 37, 15, 187, 188, 189, 190, 191, 192, 193, 194, 195, 196, 197, 198, 204, 205, 206, 207, 208, 209, 210, 211, 212, 213, 214, 215, 216, 217, 218, 219, 220, 221, 222, 223, 224, 225, 226, 227, 228, 229, 230, 231, 232, 233, 234, 235, 236, 237, 238, 239, 240, 241, 242, 243, 244, 245, 246, 247, 248, 249, 250, 251, 252, 253, 254, 255, 256, 257, 199, 200, 201, 202, 203] (by decide +kernel) (by decide +kernel)
set_option maxRecDepth 20000 in
theorem gX11_plate_X11_breachOn : GoodIn wsX11_plate (wsV RX11 197 RX11 yX11_breachOn wsX11_breachOn) := goodIn_app (goodIn_of _ (by decide +kernel)) ggX11_plate_X11_breachOn
set_option maxRecDepth 20000 in
theorem ggX11_plate_X9_init : GoodIn wsX11_plate wsX9_init := goodIn_r _ [169, 170, 120, 121, 171, 22, 35, 172, 173, 174, 175, 176, 177, 178, 199, 200, 201, 202, 203] (by decide +kernel) (by decide +kernel)
set_option maxRecDepth 20000 in
theorem gX11_plate_X9_init : GoodIn wsX11_plate (wsX9_init) := ggX11_plate_X9_init
set_option maxRecDepth 20000 in
theorem ggX11_plate_X9_copyFrom : GoodIn wsX11_plate wsX9_copyFrom := goodIn_r _ [182, 22, 183, 184, 185, 186, 35, 199, 200, 201, 202, 203] (by decide +kernel) (by decide +kernel)
set_option maxRecDepth 20000 in
theorem gX11_plate_X9_copyFrom : GoodIn wsX11_plate (wsV RX11 206 RX9 yX9_copyFrom wsX9_copyFrom) := goodIn_app (goodIn_of _ (by decide +kernel)) ggX11_plate_X9_copyFrom
set_option maxRecDepth 20000 in
theorem ggX11_edition_X11_closeEdition : GoodIn wsX11_edition wsX11_closeEdition := goodIn_r _ [6, 7, 8, 9, 5, 10, 11, 12, 13, 14, 1, 15, 16, 17, 18, 19, 20, 21, 22, 23, 24, 25, 26, 27, 28, 29, 30, 31, 32, 33, 34, 35, 36, 37, 38, 39, 40, 41, 42, 43, 44, 45, 46, 47, 48, 49, 50, 51, 52, 53, 54, 55, 56, 57, 58, 59, 60, 61, 62, 63, 64, 65, 66, 67, 68, 69, 70, 71, 72, 73, 74, 75, 76, 77, 78, 79, 80, 81, 82, 83, 84, 85, 86, 87, 88, 89, 90, 91, 92, 93, 94, 95, 96, 97, 98, 99, 100, 101, 102, 103, 104, 105, 106, 107, 108, 109, 110, 111, 112, 113, 114, 115, 116, 117] (by decide +kernel) (by decide +kernel)
set_option maxRecDepth 20000 in
theorem gX11_edition_X11_closeEdition : GoodIn wsX11_edition (wsV RX11 216 RX11 yX11_closeEdition wsX11_closeEdition) := goodIn_app (goodIn_of _ (by decide +kernel)) ggX11_edition_X11_closeEdition
set_option maxRecDepth 20000 in
theorem ggX11_day_X11_closeEdition : GoodIn wsX11_day wsX11_closeEdition := goodIn_r _ [7, 8, 9, 10, 6, 11, 12, 13, 1, 14, 2, 15, 16, 17, 18, 19, 20, 21, 22, 23, 24, 25, 26, 27, 28, 29, 30, 31, 32, 33, 34, 35, 36, 37, 38, 39, 40, 41, 42, 43, 44, 45, 46, 47, 48, 49, 50, 51, 52, 53, 54, 55, 84, 85, 86, 87, 88, 89, 90, 91, 92, 93, 94, 95, 96, 97, 98, 99, 100, 101, 102, 103, 104, 105, 106, 107, 108, 109, 110, 111, 112, 113, 114, 115, 116, 117, 118, 119, 120, 121, 122, 123, 124, 125, 126, 127, 128, 129, 130, 131, 132, 133, 134, 135, 136, 137, 138, 139, 140, 141, 142, 143, 144, 145] (by decide +kernel) (by decide +kernel)
set_option maxRecDepth 20000 in
theorem gX11_day_X11_closeEdition : GoodIn wsX11_day (wsV RX11 216 RX11 yX11_closeEdition wsX11_closeEdition) := goodIn_app (goodIn_of _ (by decide +kernel)) ggX11_day_X11_closeEdition
set_option maxRecDepth 20000 in
theorem ggX11_day_X11_clearDesk : GoodIn wsX11_day wsX11_clearDesk := goodIn_r _ [59, 43, 44, 60, 61, 62, 63, 64, 65, 66, 67, 68, 69, 70, 71, 72, 73, 74, 75, 76, 77, 78, 33, 79, 36, 80, 81, 82, 83, 84, 85, 86, 87, 88, 89, 90, 91, 92, 98, 99, 100, 101, 102, 103, 104, 105, 106, 107, 108, 109, 110, 111, 112, 113, 114, 115, 116, 117, 118, 119, 120, 121, 122, 123, 124, 125, 126, 127, 128, 129, 130, 131, 132, 133, 134, 135, 136, 137, 138, 139, 140, 141, 142, 143, 144, 145, 93, 94, 95, 96, 97] (by decide +kernel) (by decide +kernel)
set_option maxRecDepth 20000 in
theorem gX11_day_X11_clearDesk : GoodIn wsX11_day (wsV RX11 219 RX11 yX11_clearDesk wsX11_clearDesk) := goodIn_app (goodIn_of _ (by decide +kernel)) ggX11_day_X11_clearDesk
set_option maxRecDepth 20000 in
theorem ggX11_cell_X11_isPage : GoodIn wsX11_cell wsX11_isPage := goodIn_r _ [5, 6, 7, 4, 8] (by decide +kernel) (by decide +kernel)
set_option maxRecDepth 20000 in
theorem gX11_cell_X11_isPage : GoodIn wsX11_cell (va_wsS RX11 48 yX11_isPage wsX11_isPage) := goodIn_app (goodIn_of _ (by decide +kernel)) ggX11_cell_X11_isPage
set_option maxRecDepth 20000 in
theorem ggX11_cell_X9_at : GoodIn wsX11_cell wsX9_at := goodIn_r _ [13, 14, 15, 16, 4, 17, 6, 7, 8, 27, 28, 29, 30, 31] (by decide +kernel) (by decide +kernel)
set_option maxRecDepth 20000 in
theorem gX11_cell_X9_at : GoodIn wsX11_cell (wsV RX11 222 RX9 yX9_at wsX9_at) := goodIn_app (goodIn_of _ (by decide +kernel)) ggX11_cell_X9_at
set_option maxRecDepth 20000 in
theorem ggX11_piece_X11_itemOf : GoodIn wsX11_piece wsX11_itemOf := goodIn_r _ [13, 14, 15, 16, 17, 12, 18, 89, 90, 91, 92, 93, 94, 95, 96, 97] (by decide +kernel) (by decide +kernel)
set_option maxRecDepth 20000 in
theorem gX11_piece_X11_itemOf : GoodIn wsX11_piece (wsV RX11 75 RX11 yX11_itemOf wsX11_itemOf) := goodIn_app (goodIn_of _ (by decide +kernel)) ggX11_piece_X11_itemOf
set_option maxRecDepth 20000 in
theorem ggX11_piece_X11_isWithin : GoodIn wsX11_piece wsX11_isWithin := goodIn_r _ [18] (by decide +kernel) (by decide +kernel)
set_option maxRecDepth 20000 in
theorem gX11_piece_X11_isWithin : GoodIn wsX11_piece (va_wsS RX11 55 yX11_isWithin wsX11_isWithin) := goodIn_app (goodIn_of _ (by decide +kernel)) ggX11_piece_X11_isWithin
set_option maxRecDepth 20000 in
theorem ggX11_piece_X10_takenBefore : GoodIn wsX11_piece wsX10_takenBefore := goodIn_r _ [23, 24, 25, 26, 27, 28, 22, 29, 30, 31, 32, 33, 17, 12, 18, 35, 36, 37, 38, 39, 40, 41, 42, 43, 44, 45, 46, 47, 48, 49, 50, 51, 52, 53, 54, 55, 56, 57, 58, 59, 60, 61, 62, 63, 64, 65, 66, 67, 68, 69, 70, 71, 72, 73, 74, 75, 76, 77, 78, 79, 80, 81, 82, 83, 84, 85, 86, 87, 88] (by decide +kernel) (by decide +kernel)
set_option maxRecDepth 20000 in
theorem gX11_piece_X10_takenBefore : GoodIn wsX11_piece (wsV RX11 244 RX10 yX10_takenBefore wsX10_takenBefore) := goodIn_app (goodIn_of _ (by decide +kernel)) ggX11_piece_X10_takenBefore
set_option maxRecDepth 20000 in
theorem ggX11_piece_X10_takenBy : GoodIn wsX11_piece wsX10_takenBy := goodIn_r _ [29, 24, 25, 30, 31, 32, 33, 17, 12, 18, 35, 36, 37, 38, 39, 40, 41, 42, 43, 44, 45, 46, 47, 48, 49, 50, 51, 52, 53, 54, 55, 56, 57, 58, 59, 60, 61, 62, 63, 64, 65, 66, 67, 68, 69, 70, 71, 72, 73, 74, 75, 76, 77, 78, 79, 80, 81, 82, 83, 84, 85, 86, 87, 88] (by decide +kernel) (by decide +kernel)
set_option maxRecDepth 20000 in
theorem gX11_piece_X10_takenBy : GoodIn wsX11_piece (wsV RX11 247 RX10 yX10_takenBy wsX10_takenBy) := goodIn_app (goodIn_of _ (by decide +kernel)) ggX11_piece_X10_takenBy
set_option maxRecDepth 20000 in
theorem ggX11_item_X11_itemOf : GoodIn wsX11_item wsX11_itemOf := goodIn_r _ [11, 12, 13, 14, 15, 10, 16, 95, 96, 97, 98, 99, 100, 101, 102, 103] (by decide +kernel) (by decide +kernel)
set_option maxRecDepth 20000 in
theorem gX11_item_X11_itemOf : GoodIn wsX11_item (wsV RX11 75 RX11 yX11_itemOf wsX11_itemOf) := goodIn_app (goodIn_of _ (by decide +kernel)) ggX11_item_X11_itemOf
set_option maxRecDepth 20000 in
theorem ggX11_item_X10_standing : GoodIn wsX11_item wsX10_standing := goodIn_r _ [21, 22, 23, 24, 25, 26, 20, 27, 28, 29, 30, 31, 32, 33, 34, 35, 15, 10, 16, 47, 48, 49, 50, 51, 52, 53, 54, 55, 56, 57, 58, 59, 60, 61, 62, 63, 64, 65, 66, 67, 68, 69, 70, 71, 72, 73, 74, 75, 76, 77, 78, 79, 80, 81, 82, 83, 84, 85, 86, 87, 88, 89, 90, 91, 92, 93, 94, 104, 105, 106, 107, 108, 109] (by decide +kernel) (by decide +kernel)
set_option maxRecDepth 20000 in
theorem gX11_item_X10_standing : GoodIn wsX11_item (wsV RX11 254 RX10 yX10_standing wsX10_standing) := goodIn_app (goodIn_of _ (by decide +kernel)) ggX11_item_X10_standing
set_option maxRecDepth 20000 in
theorem ggX11_item_X11_ownerOf : GoodIn wsX11_item wsX11_ownerOf := goodIn_r _ [39, 40, 41, 42, 43, 44, 45, 46, 54, 55, 56, 57, 58, 59, 60, 61, 47, 48, 49, 50, 51, 52, 53, 62, 63, 64, 65, 66, 67, 68, 69, 70, 71, 72, 73, 74, 75, 76, 77, 78, 79, 80, 81, 82, 83, 84, 85, 86, 87, 88, 89, 90, 91, 92, 93, 94] (by decide +kernel) (by decide +kernel)
set_option maxRecDepth 20000 in
theorem gX11_item_X11_ownerOf : GoodIn wsX11_item (wsV RX11 257 RX11 yX11_ownerOf wsX11_ownerOf) := goodIn_app (goodIn_of _ (by decide +kernel)) ggX11_item_X11_ownerOf
set_option maxRecDepth 20000 in
theorem ggX11_shortOf_X11_isPage : GoodIn wsX11_shortOf wsX11_isPage := goodIn_r _ [5, 6, 7, 4, 8] (by decide +kernel) (by decide +kernel)
set_option maxRecDepth 20000 in
theorem gX11_shortOf_X11_isPage : GoodIn wsX11_shortOf (va_wsS RX11 48 yX11_isPage wsX11_isPage) := goodIn_app (goodIn_of _ (by decide +kernel)) ggX11_shortOf_X11_isPage
set_option maxRecDepth 20000 in
theorem ggX11_shortOf_X11_isColumn : GoodIn wsX11_shortOf wsX11_isColumn := goodIn_r _ [11, 6, 7, 4, 8] (by decide +kernel) (by decide +kernel)
set_option maxRecDepth 20000 in
theorem gX11_shortOf_X11_isColumn : GoodIn wsX11_shortOf (va_wsS RX11 52 yX11_isColumn wsX11_isColumn) := goodIn_app (goodIn_of _ (by decide +kernel)) ggX11_shortOf_X11_isColumn
set_option maxRecDepth 20000 in
theorem ggX11_shortOf_X9_emptyIn : GoodIn wsX11_shortOf wsX9_emptyIn := goodIn_r _ [16, 17, 18, 19, 20, 15, 21, 22, 10, 4, 11, 6, 7, 8, 32, 33, 34, 35, 36] (by decide +kernel) (by decide +kernel)
set_option maxRecDepth 20000 in
theorem gX11_shortOf_X9_emptyIn : GoodIn wsX11_shortOf (wsV RX11 263 RX9 yX9_emptyIn wsX9_emptyIn) := goodIn_app (goodIn_of _ (by decide +kernel)) ggX11_shortOf_X9_emptyIn
set_option maxRecDepth 20000 in
theorem ggX11_broken_X11_isPage : GoodIn wsX11_broken wsX11_isPage := goodIn_r _ [7, 8, 9, 6, 10] (by decide +kernel) (by decide +kernel)
set_option maxRecDepth 20000 in
theorem gX11_broken_X11_isPage : GoodIn wsX11_broken (va_wsS RX11 48 yX11_isPage wsX11_isPage) := goodIn_app (goodIn_of _ (by decide +kernel)) ggX11_broken_X11_isPage
set_option maxRecDepth 20000 in
theorem ggX11_broken_X11_isWithin : GoodIn wsX11_broken wsX11_isWithin := goodIn_r _ [10] (by decide +kernel) (by decide +kernel)
set_option maxRecDepth 20000 in
theorem gX11_broken_X11_isWithin : GoodIn wsX11_broken (va_wsS RX11 55 yX11_isWithin wsX11_isWithin) := goodIn_app (goodIn_of _ (by decide +kernel)) ggX11_broken_X11_isWithin
set_option maxRecDepth 20000 in
theorem ggX11_broken_X11_breachOn : GoodIn wsX11_broken wsX11_breachOn := goodIn_r _ [14, 15, 16, 17, 18, 19, 20, 21, 22, 6, 23, 24, 25, 26, 27, 28, 29, 30, 31, 32, 33, 34, 35, 36, 37, 38, 39, 40, 41, 42, 43, 44, 45, 46, 47, 48, 49, 50, 51, 52, 53, 54, 55, 56, 57, 58, 59, 60, 61, 62, 63, 64, 65, 66, 67, 68, 69, 70, 71, 72, 73, 74, 75, 76, 77, 78, 79, 80, 81, 82, 83, 84, 85, 86, 87, 88, 89, 90, 91, 92, 93, 94, 95, 96, 97, 98, 99, 100, 101, 102, 103, 104, 105, 106, 107, 108, 109, 110, 111, 112, 113, 114, 115, 116, 117, 118, 119, 120, 121, 9, 10, 122, 123, 124, 125, 126, 127, 128, 129, 130, 131, 132, 133, 134, 135, 136, 137, 138, 139, 140, 141, 142, 143, 144, 145, 146, 147, 148, 8, 152, 153, 154, 155, 156, 157, 158, 159, 160, 149, 150, 151, 161, 162, 163, 164, 165, 166, 167, 168, 169, 170, 171, 172, 173, 174, 175, 176, 177, 178, 179, 180, 181, 182, 183, 184, 185, 186, 187, 188, 189, 190, 191, 192, 193, 194, 195, 196, 197, 198, 199, 200, 201, 202, 203, 204, 205, 206, 207, 208, 209, 210, 211, 212, 213, 214, 215, 216, 217, 218, 219] (by decide +kernel) (by decide +kernel)
set_option maxRecDepth 20000 in
theorem gX11_broken_X11_breachOn : GoodIn wsX11_broken (wsV RX11 197 RX11 yX11_breachOn wsX11_breachOn) := goodIn_app (goodIn_of _ (by decide +kernel)) ggX11_broken_X11_breachOn
set_option maxRecDepth 20000 in
theorem ggX11_printed_X11_itemOf : GoodIn wsX11_printed wsX11_itemOf := goodIn_r _ [5, 6, 7, 8, 9, 4, 10, 50, 51, 52, 53, 54, 55, 56, 57, 58] (by decide +kernel) (by decide +kernel)
set_option maxRecDepth 20000 in
theorem gX11_printed_X11_itemOf : GoodIn wsX11_printed (wsV RX11 75 RX11 yX11_itemOf wsX11_itemOf) := goodIn_app (goodIn_of _ (by decide +kernel)) ggX11_printed_X11_itemOf
set_option maxRecDepth 20000 in
theorem ggX11_printed_X11_firstPrinting : GoodIn wsX11_printed wsX11_firstPrinting := goodIn_r _ [14, 15, 16, 17, 8, 9, 4, 10, 18, 19, 20, 21, 22, 23, 24, 25, 26, 27, 28, 29, 30, 31, 32, 33, 34, 35, 36, 37, 38, 39, 40, 41, 42, 43, 44, 45, 46, 47, 48, 49, 59, 60, 61, 62, 63, 64, 65, 66, 67, 68, 69, 70, 71, 72, 73, 74, 75, 76, 77, 78, 79, 80, 81, 82, 83, 84, 85, 86, 87, 88, 89, 90, 91, 92, 93, 94, 95, 96, 97, 98, 99, 100, 101, 102, 103, 104, 105, 106, 50, 51, 52, 53, 54, 55, 56, 57, 58, 107, 108, 109, 110, 111] (by decide +kernel) (by decide +kernel)
set_option maxRecDepth 20000 in
theorem gX11_printed_X11_firstPrinting : GoodIn wsX11_printed (wsV RX11 121 RX11 yX11_firstPrinting wsX11_firstPrinting) := goodIn_app (goodIn_of _ (by decide +kernel)) ggX11_printed_X11_firstPrinting
set_option maxRecDepth 20000 in
theorem ggX11_plated_X11_hasPlate : GoodIn wsX11_plated wsX11_hasPlate := goodIn_r _ [6, 1, 7, 8, 5, 9, 10, 11, 12, 22, 23, 24, 25, 26, 27, 28, 29, 30] (by decide +kernel) (by decide +kernel)
set_option maxRecDepth 20000 in
theorem gX11_plated_X11_hasPlate : GoodIn wsX11_plated (wsV RX11 272 RX11 yX11_hasPlate wsX11_hasPlate) := goodIn_app (goodIn_of _ (by decide +kernel)) ggX11_plated_X11_hasPlate
set_option maxRecDepth 20000 in
theorem ggX11_plated_X9_at : GoodIn wsX11_plated wsX9_at := goodIn_r _ [17, 18, 19, 20, 5, 21, 10, 11, 12, 31, 32, 33, 34, 35] (by decide +kernel) (by decide +kernel)
set_option maxRecDepth 20000 in
theorem gX11_plated_X9_at : GoodIn wsX11_plated (wsV RX11 222 RX9 yX9_at wsX9_at) := goodIn_app (goodIn_of _ (by decide +kernel)) ggX11_plated_X9_at
set_option maxRecDepth 20000 in
theorem ggX11_plateOf_X11_hasPlate : GoodIn wsX11_plateOf wsX11_hasPlate := goodIn_r _ [8, 1, 9, 10, 7, 11, 12, 13, 14, 15, 16, 17, 18, 19, 20, 21, 22, 23] (by decide +kernel) (by decide +kernel)
set_option maxRecDepth 20000 in
theorem gX11_plateOf_X11_hasPlate : GoodIn wsX11_plateOf (wsV RX11 272 RX11 yX11_hasPlate wsX11_hasPlate) := goodIn_app (goodIn_of _ (by decide +kernel)) ggX11_plateOf_X11_hasPlate
set_option maxRecDepth 20000 in
theorem ggX11_bill_X11_isBuyer : GoodIn wsX11_bill wsX11_isBuyer := goodIn_r _ [9, 10, 11, 8, 12] (by decide +kernel) (by decide +kernel)
set_option maxRecDepth 20000 in
theorem gX11_bill_X11_isBuyer : GoodIn wsX11_bill (va_wsS RX11 101 yX11_isBuyer wsX11_isBuyer) := goodIn_app (goodIn_of _ (by decide +kernel)) ggX11_bill_X11_isBuyer
set_option maxRecDepth 20000 in
theorem ggX11_bill_X11_isWithin : GoodIn wsX11_bill wsX11_isWithin := goodIn_r _ [12] (by decide +kernel) (by decide +kernel)
set_option maxRecDepth 20000 in
theorem gX11_bill_X11_isWithin : GoodIn wsX11_bill (va_wsS RX11 55 yX11_isWithin wsX11_isWithin) := goodIn_app (goodIn_of _ (by decide +kernel)) ggX11_bill_X11_isWithin
set_option maxRecDepth 20000 in
theorem ggX11_bill_X11_wasPrintedOn : GoodIn wsX11_bill wsX11_wasPrintedOn := goodIn_r _ [16, 17, 18, 19, 1, 20, 21, 22, 23, 24, 25, 8, 26, 27, 28, 29, 30, 31, 32, 33, 34, 35, 36, 10, 11, 12, 37, 38, 39, 40, 41, 42, 43, 44, 45, 46, 47, 48, 49, 68, 69, 70, 71, 72, 73, 74, 75, 76, 77, 78, 79, 80, 81, 82, 59, 60, 61, 62, 63, 64, 65, 66, 67, 83, 84, 85, 86, 87, 88, 89, 90, 91, 92, 93, 94, 95, 96, 97, 98, 99, 100, 101, 102, 103, 104, 105, 106, 107, 108, 109, 110, 111, 112, 113, 114, 115, 116, 117, 118, 119, 120, 121, 122, 123, 124, 125, 126] (by decide +kernel) (by decide +kernel)
set_option maxRecDepth 20000 in
theorem gX11_bill_X11_wasPrintedOn : GoodIn wsX11_bill (wsV RX11 275 RX11 yX11_wasPrintedOn wsX11_wasPrintedOn) := goodIn_app (goodIn_of _ (by decide +kernel)) ggX11_bill_X11_wasPrintedOn
set_option maxRecDepth 20000 in
theorem ggX11_bill_X6_cost : GoodIn wsX11_bill wsX6_cost := goodIn_r _ [54, 55, 56, 57, 58, 68, 69, 70, 71, 72, 73, 74, 75, 76, 77, 78, 79, 80, 81, 82] (by decide +kernel) (by decide +kernel)
set_option maxRecDepth 20000 in
theorem gX11_bill_X6_cost : GoodIn wsX11_bill (wsV RX11 279 RX6 yX6_cost wsX6_cost) := goodIn_app (goodIn_of _ (by decide +kernel)) ggX11_bill_X6_cost
set_option maxRecDepth 20000 in
theorem ggX11_about_X11_freshPlates : GoodIn wsX11_about wsX11_freshPlates := goodIn_r _ [9, 10, 11, 12, 8, 13, 14, 15, 1, 16, 2, 17, 18, 19, 20, 21, 22, 23, 24, 25, 26, 27, 28, 29, 30, 31, 32, 33, 34, 35, 36, 37, 38, 39, 40] (by decide +kernel) (by decide +kernel)
set_option maxRecDepth 20000 in
theorem gX11_about_X11_freshPlates : GoodIn wsX11_about (wsV RX11 282 RX11 yX11_freshPlates wsX11_freshPlates) := goodIn_app (goodIn_of _ (by decide +kernel)) ggX11_about_X11_freshPlates
set_option maxRecDepth 20000 in
theorem ggX11_isPage_X11_isWithin : GoodIn wsX11_isPage wsX11_isWithin := goodIn_r _ [4] (by decide +kernel) (by decide +kernel)
set_option maxRecDepth 20000 in
theorem gX11_isPage_X11_isWithin : GoodIn wsX11_isPage (va_wsS RX11 55 yX11_isWithin wsX11_isWithin) := goodIn_app (goodIn_of _ (by decide +kernel)) ggX11_isPage_X11_isWithin
set_option maxRecDepth 20000 in
theorem ggX11_isColumn_X11_isWithin : GoodIn wsX11_isColumn wsX11_isWithin := goodIn_r _ [4] (by decide +kernel) (by decide +kernel)
set_option maxRecDepth 20000 in
theorem gX11_isColumn_X11_isWithin : GoodIn wsX11_isColumn (va_wsS RX11 55 yX11_isWithin wsX11_isWithin) := goodIn_app (goodIn_of _ (by decide +kernel)) ggX11_isColumn_X11_isWithin
set_option maxRecDepth 20000 in
theorem ggX11_isBuyer_X11_isWithin : GoodIn wsX11_isBuyer wsX11_isWithin := goodIn_r _ [4] (by decide +kernel) (by decide +kernel)
set_option maxRecDepth 20000 in
theorem gX11_isBuyer_X11_isWithin : GoodIn wsX11_isBuyer (va_wsS RX11 55 yX11_isWithin wsX11_isWithin) := goodIn_app (goodIn_of _ (by decide +kernel)) ggX11_isBuyer_X11_isWithin
set_option maxRecDepth 20000 in
theorem ggX11_isSquare_X11_isWithin : GoodIn wsX11_isSquare wsX11_isWithin := goodIn_r _ [4] (by decide +kernel) (by decide +kernel)
set_option maxRecDepth 20000 in
theorem gX11_isSquare_X11_isWithin : GoodIn wsX11_isSquare (va_wsS RX11 55 yX11_isWithin wsX11_isWithin) := goodIn_app (goodIn_of _ (by decide +kernel)) ggX11_isSquare_X11_isWithin
set_option maxRecDepth 20000 in
theorem ggX11_itemOf_X11_isWithin : GoodIn wsX11_itemOf wsX11_isWithin := goodIn_r _ [6] (by decide +kernel) (by decide +kernel)
set_option maxRecDepth 20000 in
theorem gX11_itemOf_X11_isWithin : GoodIn wsX11_itemOf (va_wsS RX11 55 yX11_isWithin wsX11_isWithin) := goodIn_app (goodIn_of _ (by decide +kernel)) ggX11_itemOf_X11_isWithin
set_option maxRecDepth 20000 in
theorem ggX11_keep_X11_canAct : GoodIn wsX11_keep wsX11_canAct := goodIn_r _ [7, 2, 8, 9, 10, 11, 12, 13, 14, 15, 16] (by decide +kernel) (by decide +kernel)
set_option maxRecDepth 20000 in
theorem gX11_keep_X11_canAct : GoodIn wsX11_keep (wsV RX11 138 RX11 yX11_canAct wsX11_canAct) := goodIn_app (goodIn_of _ (by decide +kernel)) ggX11_keep_X11_canAct
set_option maxRecDepth 20000 in
theorem ggX11_stand_X8_sign : GoodIn wsX11_stand wsX8_sign := goodIn_r _ [8, 9, 10, 64, 65, 66, 67, 68, 69, 70, 71, 72, 73, 74, 75, 76, 77, 78, 79, 80, 81, 82, 83, 84, 85, 86, 87, 88, 89, 90, 91, 92, 93, 94, 95, 96, 97, 98, 99, 100, 101, 102, 103, 104, 105, 106, 107, 108, 109, 110, 111, 112, 113, 114, 115, 116, 117] (by decide +kernel) (by decide +kernel)
set_option maxRecDepth 20000 in
theorem gX11_stand_X8_sign : GoodIn wsX11_stand (wsV RX11 297 RX8 yX8_sign wsX8_sign) := goodIn_app (goodIn_of _ (by decide +kernel)) ggX11_stand_X8_sign
set_option maxRecDepth 20000 in
theorem ggX11_stand_X9_mark : GoodIn wsX11_stand wsX9_mark := goodIn_r _ [15, 16, 17, 18, 19, 20, 21, 22, 23, 14, 24, 25, 26, 27, 28, 29, 30, 31, 64, 65, 66, 67, 68, 69, 118, 119, 120, 121, 122] (by decide +kernel) (by decide +kernel)
set_option maxRecDepth 20000 in
theorem gX11_stand_X9_mark : GoodIn wsX11_stand (wsV RX11 300 RX9 yX9_mark wsX9_mark) := goodIn_app (goodIn_of _ (by decide +kernel)) ggX11_stand_X9_mark
set_option maxRecDepth 20000 in
theorem ggX11_stand_X4_gain : GoodIn wsX11_stand wsX4_gain := goodIn_r _ [37, 38, 39, 40, 41, 42, 43, 36, 44, 45, 46, 47, 48, 49, 70, 71, 72, 73, 74, 75, 76, 77, 78, 79, 80, 81, 82, 83, 84, 85, 86, 87, 88, 89, 90, 91, 92, 93, 94, 95, 96, 97, 98, 99, 100, 101, 102, 103, 104, 105, 106, 107, 108, 109, 110, 111, 112, 113, 114, 115, 116, 117] (by decide +kernel) (by decide +kernel)
set_option maxRecDepth 20000 in
theorem gX11_stand_X4_gain_u307X2 : GoodIn wsX11_stand (va_wsU RX11 307 RX2 "PageOne$Item" ⟨"PageOne$Item", "gain", "(LPageOne$Piece;)V"⟩ yX4_gain wsX4_gain) := goodIn_app (goodIn_of _ (by decide +kernel)) ggX11_stand_X4_gain
set_option maxRecDepth 20000 in
theorem gX11_stand_X4_gain_u307X3 : GoodIn wsX11_stand (va_wsU RX11 307 RX3 "PageOne$Item" ⟨"PageOne$Item", "gain", "(LPageOne$Piece;)V"⟩ yX4_gain wsX4_gain) := goodIn_app (goodIn_of _ (by decide +kernel)) ggX11_stand_X4_gain
set_option maxRecDepth 20000 in
theorem gX11_stand_X4_gain_u307X5 : GoodIn wsX11_stand (va_wsU RX11 307 RX5 "PageOne$Item" ⟨"PageOne$Item", "gain", "(LPageOne$Piece;)V"⟩ yX4_gain wsX4_gain) := goodIn_app (goodIn_of _ (by decide +kernel)) ggX11_stand_X4_gain
set_option maxRecDepth 20000 in
theorem gX11_stand_X4_gain_u307X6 : GoodIn wsX11_stand (va_wsU RX11 307 RX6 "PageOne$Item" ⟨"PageOne$Item", "gain", "(LPageOne$Piece;)V"⟩ yX4_gain wsX4_gain) := goodIn_app (goodIn_of _ (by decide +kernel)) ggX11_stand_X4_gain
set_option maxRecDepth 20000 in
theorem gX11_stand_X4_gain_u307X7 : GoodIn wsX11_stand (va_wsU RX11 307 RX7 "PageOne$Item" ⟨"PageOne$Item", "gain", "(LPageOne$Piece;)V"⟩ yX4_gain wsX4_gain) := goodIn_app (goodIn_of _ (by decide +kernel)) ggX11_stand_X4_gain
set_option maxRecDepth 20000 in
theorem gX11_stand_X4_gain_u307X10 : GoodIn wsX11_stand (va_wsU RX11 307 RX10 "PageOne$Item" ⟨"PageOne$Item", "gain", "(LPageOne$Piece;)V"⟩ yX4_gain wsX4_gain) := goodIn_app (goodIn_of _ (by decide +kernel)) ggX11_stand_X4_gain
set_option maxRecDepth 20000 in
theorem ggX11_takeOff_X9_mark : GoodIn wsX11_takeOff wsX9_mark := goodIn_r _ [8, 9, 10, 11, 12, 13, 14, 15, 16, 7, 17, 18, 19, 20, 21, 22, 23, 24, 47, 48, 49, 50, 51, 52, 53, 54, 55, 56, 57] (by decide +kernel) (by decide +kernel)
set_option maxRecDepth 20000 in
theorem gX11_takeOff_X9_mark : GoodIn wsX11_takeOff (wsV RX11 300 RX9 yX9_mark wsX9_mark) := goodIn_app (goodIn_of _ (by decide +kernel)) ggX11_takeOff_X9_mark
set_option maxRecDepth 20000 in
theorem ggX11_takeOff_X4_loseLast : GoodIn wsX11_takeOff wsX4_loseLast := goodIn_r _ [30, 31, 32, 58, 59, 60, 61, 62, 63, 64, 65, 66, 67, 68, 69, 70, 71, 72, 73, 74, 75, 76, 77, 78, 79, 80, 81, 82, 83, 84, 85, 86, 87, 88, 89, 90, 91, 92, 93, 94, 95, 96, 97, 98, 99, 100, 101, 102, 103, 104, 105] (by decide +kernel) (by decide +kernel)
set_option maxRecDepth 20000 in
theorem gX11_takeOff_X4_loseLast_u310X2 : GoodIn wsX11_takeOff (va_wsU RX11 310 RX2 "PageOne$Item" ⟨"PageOne$Item", "loseLast", "()V"⟩ yX4_loseLast wsX4_loseLast) := goodIn_app (goodIn_of _ (by decide +kernel)) ggX11_takeOff_X4_loseLast
set_option maxRecDepth 20000 in
theorem gX11_takeOff_X4_loseLast_u310X3 : GoodIn wsX11_takeOff (va_wsU RX11 310 RX3 "PageOne$Item" ⟨"PageOne$Item", "loseLast", "()V"⟩ yX4_loseLast wsX4_loseLast) := goodIn_app (goodIn_of _ (by decide +kernel)) ggX11_takeOff_X4_loseLast
set_option maxRecDepth 20000 in
theorem gX11_takeOff_X4_loseLast_u310X5 : GoodIn wsX11_takeOff (va_wsU RX11 310 RX5 "PageOne$Item" ⟨"PageOne$Item", "loseLast", "()V"⟩ yX4_loseLast wsX4_loseLast) := goodIn_app (goodIn_of _ (by decide +kernel)) ggX11_takeOff_X4_loseLast
set_option maxRecDepth 20000 in
theorem gX11_takeOff_X4_loseLast_u310X6 : GoodIn wsX11_takeOff (va_wsU RX11 310 RX6 "PageOne$Item" ⟨"PageOne$Item", "loseLast", "()V"⟩ yX4_loseLast wsX4_loseLast) := goodIn_app (goodIn_of _ (by decide +kernel)) ggX11_takeOff_X4_loseLast
set_option maxRecDepth 20000 in
theorem gX11_takeOff_X4_loseLast_u310X7 : GoodIn wsX11_takeOff (va_wsU RX11 310 RX7 "PageOne$Item" ⟨"PageOne$Item", "loseLast", "()V"⟩ yX4_loseLast wsX4_loseLast) := goodIn_app (goodIn_of _ (by decide +kernel)) ggX11_takeOff_X4_loseLast
set_option maxRecDepth 20000 in
theorem gX11_takeOff_X4_loseLast_u310X10 : GoodIn wsX11_takeOff (va_wsU RX11 310 RX10 "PageOne$Item" ⟨"PageOne$Item", "loseLast", "()V"⟩ yX4_loseLast wsX4_loseLast) := goodIn_app (goodIn_of _ (by decide +kernel)) ggX11_takeOff_X4_loseLast
set_option maxRecDepth 20000 in
theorem ggX11_takeBack_X11_stand : GoodIn wsX11_takeBack wsX11_stand := goodIn_r _ [8, 9, 10, 11, 12, 13, 14, 15, 16, 17, 18, 19, 20, 21, 22, 23, 24, 25, 26, 27, 28, 29, 30, 31, 32, 33, 34, 7, 35, 36, 37, 38, 39, 40, 41, 42, 43, 44, 45, 46, 47, 48, 49, 50, 51, 52, 53, 54, 55, 56, 57, 58, 59, 60, 61, 80, 81, 82, 83, 84, 85, 86, 87, 88, 89, 90, 91, 92, 93, 94, 95, 96, 97, 98, 99, 100, 101, 102, 103, 104, 105, 106, 107, 108, 109, 110, 111, 112, 113, 114, 115, 116, 117, 118, 119, 120, 121, 122, 123, 124, 125, 126, 127, 128, 129, 130, 131, 132, 133, 134, 135, 136, 137, 138, 139, 140, 141, 142, 143, 144, 145, 146, 147] (by decide +kernel) (by decide +kernel)
set_option maxRecDepth 20000 in
theorem gX11_takeBack_X11_stand : GoodIn wsX11_takeBack (wsV RX11 159 RX11 yX11_stand wsX11_stand) := goodIn_app (goodIn_of _ (by decide +kernel)) ggX11_takeBack_X11_stand
set_option maxRecDepth 20000 in
theorem ggX11_takeBack_X11_takeOff : GoodIn wsX11_takeBack wsX11_takeOff := goodIn_r _ [65, 9, 10, 11, 19, 20, 21, 22, 23, 24, 25, 26, 27, 28, 29, 30, 31, 32, 33, 34, 7, 35, 36, 37, 38, 66, 67, 68, 69, 43, 70, 46, 45, 71, 72, 73, 74, 75, 80, 81, 82, 83, 84, 85, 86, 87, 88, 89, 90, 91, 92, 93, 94, 143, 144, 145, 146, 147, 95, 96, 97, 98, 99, 100, 101, 102, 103, 104, 105, 106, 107, 108, 109, 110, 111, 112, 113, 114, 115, 116, 117, 118, 119, 120, 121, 122, 123, 124, 125, 126, 127, 128, 129, 130, 131, 132, 133, 134, 135, 136, 137, 138, 139, 140, 141, 142] (by decide +kernel) (by decide +kernel)
set_option maxRecDepth 20000 in
theorem gX11_takeBack_X11_takeOff : GoodIn wsX11_takeBack (wsV RX11 177 RX11 yX11_takeOff wsX11_takeOff) := goodIn_app (goodIn_of _ (by decide +kernel)) ggX11_takeBack_X11_takeOff
set_option maxRecDepth 20000 in
theorem ggX11_fillColumn_X9_at : GoodIn wsX11_fillColumn wsX9_at := goodIn_r _ [13, 14, 15, 16, 17, 18, 19, 20, 21, 106, 107, 108, 109, 110] (by decide +kernel) (by decide +kernel)
set_option maxRecDepth 20000 in
theorem gX11_fillColumn_X9_at : GoodIn wsX11_fillColumn (wsV RX11 222 RX9 yX9_at wsX9_at) := goodIn_app (goodIn_of _ (by decide +kernel)) ggX11_fillColumn_X9_at
set_option maxRecDepth 20000 in
theorem ggX11_fillColumn_X11_fillerFor : GoodIn wsX11_fillColumn wsX11_fillerFor := goodIn_r _ [25, 26, 27, 28, 29, 30, 31, 32, 33, 34, 35, 36, 37, 38, 19, 20, 17, 21, 97, 98, 99, 100, 101, 102, 103, 104, 105, 121, 122, 123, 124, 125, 126, 127, 128, 129, 130, 131, 132, 133, 134, 135, 136, 137, 138, 139, 140, 141, 142, 143, 144, 145, 146, 147, 148, 149, 150, 151, 152, 153, 154, 155, 156, 157, 158, 159, 160, 161, 162, 163, 164, 165, 166, 167, 168] (by decide +kernel) (by decide +kernel)
set_option maxRecDepth 20000 in
theorem gX11_fillColumn_X11_fillerFor : GoodIn wsX11_fillColumn (wsV RX11 325 RX11 yX11_fillerFor wsX11_fillerFor) := goodIn_app (goodIn_of _ (by decide +kernel)) ggX11_fillColumn_X11_fillerFor
set_option maxRecDepth 20000 in
theorem ggX11_fillColumn_X8_init : GoodIn wsX11_fillColumn wsX8_init := goodIn_r _ [41, 42, 43, 44, 45, 46, 47, 48, 49, 50, 111, 112, 113, 114, 115, 116] (by decide +kernel) (by decide +kernel)
set_option maxRecDepth 20000 in
theorem gX11_fillColumn_X8_init : GoodIn wsX11_fillColumn (wsX8_init) := ggX11_fillColumn_X8_init
set_option maxRecDepth 20000 in
theorem ggX11_fillColumn_X11_stand : GoodIn wsX11_fillColumn wsX11_stand := goodIn_r _ [54, 1, 55, 56, 57, 58, 59, 5, 60, 45, 61, 62, 63, 64, 12, 65, 66, 67, 68, 69, 15, 70, 10, 11, 13, 14, 16, 17, 18, 19, 20, 21, 71, 72, 73, 74, 35, 75, 38, 37, 76, 77, 78, 34, 36, 79, 80, 81, 82, 83, 84, 85, 86, 87, 88, 97, 98, 99, 100, 101, 102, 103, 104, 105, 111, 112, 113, 114, 115, 116, 121, 122, 123, 124, 125, 126, 127, 128, 129, 130, 131, 132, 133, 134, 135, 136, 137, 138, 139, 140, 141, 142, 143, 144, 145, 146, 147, 148, 149, 150, 151, 152, 153, 154, 155, 156, 157, 158, 159, 160, 161, 162, 163, 164, 165, 166, 167, 168, 106, 107, 108, 109, 110] (by decide +kernel) (by decide +kernel)
set_option maxRecDepth 20000 in
theorem gX11_fillColumn_X11_stand : GoodIn wsX11_fillColumn (wsV RX11 159 RX11 yX11_stand wsX11_stand) := goodIn_app (goodIn_of _ (by decide +kernel)) ggX11_fillColumn_X11_stand
set_option maxRecDepth 20000 in
theorem ggX11_fillColumn_X0_init : GoodIn wsX11_fillColumn wsX0_init := goodIn_r _ [91, 92, 43, 44, 93, 94, 95, 96, 117, 118, 119, 120] (by decide +kernel) (by decide +kernel)
set_option maxRecDepth 20000 in
theorem gX11_fillColumn_X0_init : GoodIn wsX11_fillColumn (wsX0_init) := ggX11_fillColumn_X0_init
set_option maxRecDepth 20000 in
theorem ggX11_fillerFor_X4_hasRoom : GoodIn wsX11_fillerFor wsX4_hasRoom := goodIn_r _ [11, 12, 13, 27, 28, 29, 30, 31, 32, 33, 34, 35, 36, 37, 38, 39, 40, 41, 42, 43, 44, 45, 46, 47, 48, 49, 50, 51, 52, 53, 54, 55, 56, 57, 58, 59, 60, 61, 62, 63, 64, 65, 66, 67, 68, 69, 70, 71, 72, 73, 74] (by decide +kernel) (by decide +kernel)
set_option maxRecDepth 20000 in
theorem gX11_fillerFor_X4_hasRoom_u329X2 : GoodIn wsX11_fillerFor (va_wsU RX11 329 RX2 "PageOne$Item" ⟨"PageOne$Filler", "hasRoom", "()Z"⟩ yX4_hasRoom wsX4_hasRoom) := goodIn_app (goodIn_of _ (by decide +kernel)) ggX11_fillerFor_X4_hasRoom
set_option maxRecDepth 20000 in
theorem ggX11_fillerFor_X11_isWithin : GoodIn wsX11_fillerFor wsX11_isWithin := goodIn_r _ [17] (by decide +kernel) (by decide +kernel)
set_option maxRecDepth 20000 in
theorem gX11_fillerFor_X11_isWithin : GoodIn wsX11_fillerFor (va_wsS RX11 55 yX11_isWithin wsX11_isWithin) := goodIn_app (goodIn_of _ (by decide +kernel)) ggX11_fillerFor_X11_isWithin
set_option maxRecDepth 20000 in
theorem ggX11_clearDesk_X4_loseAll : GoodIn wsX11_clearDesk wsX4_loseAll := goodIn_r _ [11, 12, 13, 38, 39, 40, 41, 42, 43, 44, 45, 46, 47, 48, 49, 50, 51, 52, 53, 54, 55, 56, 57, 58, 59, 60, 61, 62, 63, 64, 65, 66, 67, 68, 69, 70, 71, 72, 73, 74, 75, 76, 77, 78, 79, 80, 81, 82, 83, 84, 85] (by decide +kernel) (by decide +kernel)
set_option maxRecDepth 20000 in
theorem gX11_clearDesk_X4_loseAll_u336X2 : GoodIn wsX11_clearDesk (va_wsU RX11 336 RX2 "PageOne$Item" ⟨"PageOne$Item", "loseAll", "()V"⟩ yX4_loseAll wsX4_loseAll) := goodIn_app (goodIn_of _ (by decide +kernel)) ggX11_clearDesk_X4_loseAll
set_option maxRecDepth 20000 in
theorem gX11_clearDesk_X4_loseAll_u336X3 : GoodIn wsX11_clearDesk (va_wsU RX11 336 RX3 "PageOne$Item" ⟨"PageOne$Item", "loseAll", "()V"⟩ yX4_loseAll wsX4_loseAll) := goodIn_app (goodIn_of _ (by decide +kernel)) ggX11_clearDesk_X4_loseAll
set_option maxRecDepth 20000 in
theorem gX11_clearDesk_X4_loseAll_u336X5 : GoodIn wsX11_clearDesk (va_wsU RX11 336 RX5 "PageOne$Item" ⟨"PageOne$Item", "loseAll", "()V"⟩ yX4_loseAll wsX4_loseAll) := goodIn_app (goodIn_of _ (by decide +kernel)) ggX11_clearDesk_X4_loseAll
set_option maxRecDepth 20000 in
theorem gX11_clearDesk_X4_loseAll_u336X6 : GoodIn wsX11_clearDesk (va_wsU RX11 336 RX6 "PageOne$Item" ⟨"PageOne$Item", "loseAll", "()V"⟩ yX4_loseAll wsX4_loseAll) := goodIn_app (goodIn_of _ (by decide +kernel)) ggX11_clearDesk_X4_loseAll
set_option maxRecDepth 20000 in
theorem gX11_clearDesk_X4_loseAll_u336X7 : GoodIn wsX11_clearDesk (va_wsU RX11 336 RX7 "PageOne$Item" ⟨"PageOne$Item", "loseAll", "()V"⟩ yX4_loseAll wsX4_loseAll) := goodIn_app (goodIn_of _ (by decide +kernel)) ggX11_clearDesk_X4_loseAll
set_option maxRecDepth 20000 in
theorem gX11_clearDesk_X4_loseAll_u336X10 : GoodIn wsX11_clearDesk (va_wsU RX11 336 RX10 "PageOne$Item" ⟨"PageOne$Item", "loseAll", "()V"⟩ yX4_loseAll wsX4_loseAll) := goodIn_app (goodIn_of _ (by decide +kernel)) ggX11_clearDesk_X4_loseAll
set_option maxRecDepth 20000 in
theorem ggX11_clearDesk_X9_clear : GoodIn wsX11_clearDesk wsX9_clear := goodIn_r _ [23, 24, 25, 26, 27, 28, 86, 87, 88, 89, 90] (by decide +kernel) (by decide +kernel)
set_option maxRecDepth 20000 in
theorem gX11_clearDesk_X9_clear : GoodIn wsX11_clearDesk (wsV RX11 339 RX9 yX9_clear wsX9_clear) := goodIn_app (goodIn_of _ (by decide +kernel)) ggX11_clearDesk_X9_clear
set_option maxRecDepth 20000 in
theorem ggX11_breachOn_X11_leastPair : GoodIn wsX11_breachOn wsX11_leastPair := goodIn_r _ [10, 1, 2, 3, 4, 5, 11, 12, 13, 14, 15, 16, 17, 18, 19, 20, 21, 22, 23, 24, 25, 26, 27, 9, 28, 29, 30, 31, 32, 33, 34, 35, 36, 37, 38, 39, 40, 41, 42, 43, 44, 45, 46, 47, 48, 49, 50, 51, 52, 53, 54, 55, 56, 57, 58, 59, 60, 61, 62, 63, 64, 65, 66, 67, 68, 69, 70, 71, 72, 73, 74, 75, 76, 77, 78, 79, 80, 81, 82, 83, 84, 139, 140, 141, 142, 143, 144, 145, 146, 147, 148, 149, 150, 151, 152, 153, 154, 155, 156, 157, 158, 159, 160, 161, 162, 163, 164, 165, 166, 167, 168, 169, 170, 171, 172, 173, 174, 175, 176, 177, 178, 179, 180, 181, 182, 183, 184, 185, 186, 187, 188, 189, 190, 191, 192, 193, 194, 195, 196, 197, 198, 199, 200, 201, 202, 203, 204] (by decide +kernel) (by decide +kernel)
set_option maxRecDepth 20000 in
theorem gX11_breachOn_X11_leastPair : GoodIn wsX11_breachOn (wsV RX11 342 RX11 yX11_leastPair wsX11_leastPair) := goodIn_app (goodIn_of _ (by decide +kernel)) ggX11_breachOn_X11_leastPair
set_option maxRecDepth 20000 in
theorem ggX11_breachOn_X4_isOn : GoodIn wsX11_breachOn wsX4_isOn := goodIn_r _ [16, 17, 18, 19, 151, 152, 153, 154, 155, 156, 157, 158, 159, 160, 161, 162, 163, 164, 165, 166, 167, 168, 169, 170, 171, 172, 173, 174, 175, 176, 177, 178, 179, 180, 181, 182, 183, 184, 185, 186, 187, 188, 189, 190, 191, 192, 193, 194, 195, 196, 197, 198, 199, 200, 201, 202, 203, 204] (by decide +kernel) (by decide +kernel)
set_option maxRecDepth 20000 in
theorem gX11_breachOn_X4_isOn_u346X2 : GoodIn wsX11_breachOn (va_wsU RX11 346 RX2 "PageOne$Item" ⟨"PageOne$Item", "isOn", "(I)Z"⟩ yX4_isOn wsX4_isOn) := goodIn_app (goodIn_of _ (by decide +kernel)) ggX11_breachOn_X4_isOn
set_option maxRecDepth 20000 in
theorem gX11_breachOn_X4_isOn_u346X3 : GoodIn wsX11_breachOn (va_wsU RX11 346 RX3 "PageOne$Item" ⟨"PageOne$Item", "isOn", "(I)Z"⟩ yX4_isOn wsX4_isOn) := goodIn_app (goodIn_of _ (by decide +kernel)) ggX11_breachOn_X4_isOn
set_option maxRecDepth 20000 in
theorem gX11_breachOn_X4_isOn_u346X5 : GoodIn wsX11_breachOn (va_wsU RX11 346 RX5 "PageOne$Item" ⟨"PageOne$Item", "isOn", "(I)Z"⟩ yX4_isOn wsX4_isOn) := goodIn_app (goodIn_of _ (by decide +kernel)) ggX11_breachOn_X4_isOn
set_option maxRecDepth 20000 in
theorem gX11_breachOn_X4_isOn_u346X6 : GoodIn wsX11_breachOn (va_wsU RX11 346 RX6 "PageOne$Item" ⟨"PageOne$Item", "isOn", "(I)Z"⟩ yX4_isOn wsX4_isOn) := goodIn_app (goodIn_of _ (by decide +kernel)) ggX11_breachOn_X4_isOn
set_option maxRecDepth 20000 in
theorem gX11_breachOn_X4_isOn_u346X7 : GoodIn wsX11_breachOn (va_wsU RX11 346 RX7 "PageOne$Item" ⟨"PageOne$Item", "isOn", "(I)Z"⟩ yX4_isOn wsX4_isOn) := goodIn_app (goodIn_of _ (by decide +kernel)) ggX11_breachOn_X4_isOn
set_option maxRecDepth 20000 in
theorem gX11_breachOn_X4_isOn_u346X10 : GoodIn wsX11_breachOn (va_wsU RX11 346 RX10 "PageOne$Item" ⟨"PageOne$Item", "isOn", "(I)Z"⟩ yX4_isOn wsX4_isOn) := goodIn_app (goodIn_of _ (by decide +kernel)) ggX11_breachOn_X4_isOn
set_option maxRecDepth 20000 in
theorem ggX11_breachOn_X11_failsAlone : GoodIn wsX11_breachOn wsX11_failsAlone := goodIn_r _ [88, 40, 89, 31, 90, 91, 92, 93, 94, 95, 96, 97, 98, 99, 100, 101, 102, 103, 104, 105, 106, 107, 108, 109, 9, 110, 111, 112, 113, 114, 115, 116, 117, 118, 119, 120, 121, 122, 123, 124, 125, 126, 127, 15, 128, 17, 18, 129, 130, 131, 132, 133, 134, 135, 136, 137, 138, 190, 191, 192, 193, 194, 195, 196, 197, 198, 151, 152, 153, 154, 155, 156, 157, 158, 159, 160, 161, 162, 163, 164, 165, 166, 167, 168, 169, 170, 171, 172, 173, 174, 175, 176, 177, 178, 179, 180, 181, 182, 183, 184, 185, 186, 187, 188, 189, 199, 200, 201, 202, 203, 204, 139, 140, 141, 142, 143, 144, 145, 146, 147, 205, 206, 207, 208, 209] (by decide +kernel) (by decide +kernel)
set_option maxRecDepth 20000 in
theorem gX11_breachOn_X11_failsAlone : GoodIn wsX11_breachOn (wsV RX11 349 RX11 yX11_failsAlone wsX11_failsAlone) := goodIn_app (goodIn_of _ (by decide +kernel)) ggX11_breachOn_X11_failsAlone
set_option maxRecDepth 20000 in
theorem ggX11_breachOn_X1_init : GoodIn wsX11_breachOn wsX1_init := goodIn_r _ [78, 79, 80, 81, 82, 83, 84, 148, 149, 150] (by decide +kernel) (by decide +kernel)
set_option maxRecDepth 20000 in
theorem gX11_breachOn_X1_init : GoodIn wsX11_breachOn (wsX1_init) := ggX11_breachOn_X1_init
set_option maxRecDepth 20000 in
theorem ggX11_leastPair_X4_isOn : GoodIn wsX11_leastPair wsX4_isOn := goodIn_r _ [11, 12, 13, 14, 93, 94, 95, 96, 97, 98, 99, 100, 101, 102, 103, 104, 105, 106, 107, 108, 109, 110, 111, 112, 113, 114, 115, 116, 117, 118, 119, 120, 121, 122, 123, 124, 125, 126, 127, 128, 129, 130, 131, 132, 133, 134, 135, 136, 137, 138, 139, 140, 141, 142, 143, 144, 145, 146] (by decide +kernel) (by decide +kernel)
set_option maxRecDepth 20000 in
theorem gX11_leastPair_X4_isOn_u346X2 : GoodIn wsX11_leastPair (va_wsU RX11 346 RX2 "PageOne$Item" ⟨"PageOne$Item", "isOn", "(I)Z"⟩ yX4_isOn wsX4_isOn) := goodIn_app (goodIn_of _ (by decide +kernel)) ggX11_leastPair_X4_isOn
set_option maxRecDepth 20000 in
theorem gX11_leastPair_X4_isOn_u346X3 : GoodIn wsX11_leastPair (va_wsU RX11 346 RX3 "PageOne$Item" ⟨"PageOne$Item", "isOn", "(I)Z"⟩ yX4_isOn wsX4_isOn) := goodIn_app (goodIn_of _ (by decide +kernel)) ggX11_leastPair_X4_isOn
set_option maxRecDepth 20000 in
theorem gX11_leastPair_X4_isOn_u346X5 : GoodIn wsX11_leastPair (va_wsU RX11 346 RX5 "PageOne$Item" ⟨"PageOne$Item", "isOn", "(I)Z"⟩ yX4_isOn wsX4_isOn) := goodIn_app (goodIn_of _ (by decide +kernel)) ggX11_leastPair_X4_isOn
set_option maxRecDepth 20000 in
theorem gX11_leastPair_X4_isOn_u346X6 : GoodIn wsX11_leastPair (va_wsU RX11 346 RX6 "PageOne$Item" ⟨"PageOne$Item", "isOn", "(I)Z"⟩ yX4_isOn wsX4_isOn) := goodIn_app (goodIn_of _ (by decide +kernel)) ggX11_leastPair_X4_isOn
set_option maxRecDepth 20000 in
theorem gX11_leastPair_X4_isOn_u346X7 : GoodIn wsX11_leastPair (va_wsU RX11 346 RX7 "PageOne$Item" ⟨"PageOne$Item", "isOn", "(I)Z"⟩ yX4_isOn wsX4_isOn) := goodIn_app (goodIn_of _ (by decide +kernel)) ggX11_leastPair_X4_isOn
set_option maxRecDepth 20000 in
theorem gX11_leastPair_X4_isOn_u346X10 : GoodIn wsX11_leastPair (va_wsU RX11 346 RX10 "PageOne$Item" ⟨"PageOne$Item", "isOn", "(I)Z"⟩ yX4_isOn wsX4_isOn) := goodIn_app (goodIn_of _ (by decide +kernel)) ggX11_leastPair_X4_isOn
set_option maxRecDepth 20000 in
theorem ggX11_leastPair_X11_mayNotMeet : GoodIn wsX11_leastPair wsX11_mayNotMeet := goodIn_r _ [24, 25, 26, 27, 28, 29, 30, 23, 31, 32, 33, 34, 35, 36, 37, 115, 116, 117, 118, 119, 120, 121, 122, 123, 81, 82, 83, 84, 85, 86, 87, 88, 89, 132, 133, 134, 135, 136, 137, 138, 139, 140] (by decide +kernel) (by decide +kernel)
set_option maxRecDepth 20000 in
theorem gX11_leastPair_X11_mayNotMeet : GoodIn wsX11_leastPair (wsV RX11 354 RX11 yX11_mayNotMeet wsX11_mayNotMeet) := goodIn_app (goodIn_of _ (by decide +kernel)) ggX11_leastPair_X11_mayNotMeet
set_option maxRecDepth 20000 in
theorem ggX11_leastPair_X4_meets : GoodIn wsX11_leastPair wsX4_meets := goodIn_r _ [42, 12, 13, 14, 43, 44, 45, 46, 10, 47, 48, 49, 50, 51, 52, 53, 54, 55, 56, 57, 58, 59, 60, 61, 62, 63, 64, 65, 66, 93, 94, 95, 96, 97, 98, 99, 100, 101, 102, 103, 104, 105, 106, 107, 108, 109, 110, 111, 112, 113, 114, 115, 116, 117, 118, 119, 120, 121, 122, 123, 124, 125, 126, 127, 128, 129, 130, 131, 132, 133, 134, 135, 136, 137, 138, 139, 140, 141, 142, 143, 144, 145, 146] (by decide +kernel) (by decide +kernel)
set_option maxRecDepth 20000 in
theorem gX11_leastPair_X4_meets_u358X2 : GoodIn wsX11_leastPair (va_wsU RX11 358 RX2 "PageOne$Item" ⟨"PageOne$Item", "meets", "(LPageOne$Item;IZ)Z"⟩ yX4_meets wsX4_meets) := goodIn_app (goodIn_of _ (by decide +kernel)) ggX11_leastPair_X4_meets
set_option maxRecDepth 20000 in
theorem gX11_leastPair_X4_meets_u358X3 : GoodIn wsX11_leastPair (va_wsU RX11 358 RX3 "PageOne$Item" ⟨"PageOne$Item", "meets", "(LPageOne$Item;IZ)Z"⟩ yX4_meets wsX4_meets) := goodIn_app (goodIn_of _ (by decide +kernel)) ggX11_leastPair_X4_meets
set_option maxRecDepth 20000 in
theorem gX11_leastPair_X4_meets_u358X5 : GoodIn wsX11_leastPair (va_wsU RX11 358 RX5 "PageOne$Item" ⟨"PageOne$Item", "meets", "(LPageOne$Item;IZ)Z"⟩ yX4_meets wsX4_meets) := goodIn_app (goodIn_of _ (by decide +kernel)) ggX11_leastPair_X4_meets
set_option maxRecDepth 20000 in
theorem gX11_leastPair_X4_meets_u358X6 : GoodIn wsX11_leastPair (va_wsU RX11 358 RX6 "PageOne$Item" ⟨"PageOne$Item", "meets", "(LPageOne$Item;IZ)Z"⟩ yX4_meets wsX4_meets) := goodIn_app (goodIn_of _ (by decide +kernel)) ggX11_leastPair_X4_meets
set_option maxRecDepth 20000 in
theorem gX11_leastPair_X4_meets_u358X7 : GoodIn wsX11_leastPair (va_wsU RX11 358 RX7 "PageOne$Item" ⟨"PageOne$Item", "meets", "(LPageOne$Item;IZ)Z"⟩ yX4_meets wsX4_meets) := goodIn_app (goodIn_of _ (by decide +kernel)) ggX11_leastPair_X4_meets
set_option maxRecDepth 20000 in
theorem gX11_leastPair_X4_meets_u358X10 : GoodIn wsX11_leastPair (va_wsU RX11 358 RX10 "PageOne$Item" ⟨"PageOne$Item", "meets", "(LPageOne$Item;IZ)Z"⟩ yX4_meets wsX4_meets) := goodIn_app (goodIn_of _ (by decide +kernel)) ggX11_leastPair_X4_meets
set_option maxRecDepth 20000 in
theorem ggX11_leastPair_X1_init : GoodIn wsX11_leastPair wsX1_init := goodIn_r _ [74, 75, 76, 77, 78, 79, 80, 90, 91, 92] (by decide +kernel) (by decide +kernel)
set_option maxRecDepth 20000 in
theorem gX11_leastPair_X1_init : GoodIn wsX11_leastPair (wsX1_init) := ggX11_leastPair_X1_init
set_option maxRecDepth 20000 in
theorem ggX11_mayNotMeet_X11_areRivals : GoodIn wsX11_mayNotMeet wsX11_areRivals := goodIn_r _ [8, 9, 24, 25, 26, 27, 28, 29, 30, 31, 32] (by decide +kernel) (by decide +kernel)
set_option maxRecDepth 20000 in
theorem gX11_mayNotMeet_X11_areRivals : GoodIn wsX11_mayNotMeet (wsV RX11 132 RX11 yX11_areRivals wsX11_areRivals) := goodIn_app (goodIn_of _ (by decide +kernel)) ggX11_mayNotMeet_X11_areRivals
set_option maxRecDepth 20000 in
theorem ggX11_mayNotMeet_X11_isNamedIn : GoodIn wsX11_mayNotMeet wsX11_isNamedIn := goodIn_r _ [12, 1, 13, 14, 2, 33, 34, 35, 36, 37, 38, 39, 40, 41, 15, 16, 17, 18, 19, 20, 21, 22, 23] (by decide +kernel) (by decide +kernel)
set_option maxRecDepth 20000 in
theorem gX11_mayNotMeet_X11_isNamedIn : GoodIn wsX11_mayNotMeet (va_wsS RX11 362 yX11_isNamedIn wsX11_isNamedIn) := goodIn_app (goodIn_of _ (by decide +kernel)) ggX11_mayNotMeet_X11_isNamedIn
set_option maxRecDepth 20000 in
theorem ggX11_failsAlone_X10_standing : GoodIn wsX11_failsAlone wsX10_standing := goodIn_r _ [8, 9, 10, 11, 12, 13, 7, 14, 15, 16, 17, 18, 19, 20, 21, 22, 23, 24, 25, 66, 67, 68, 69, 70, 71, 72, 73, 74, 75, 76, 77, 78, 79, 80, 81, 82, 83, 84, 85, 86, 87, 88, 89, 90, 91, 92, 93, 94, 95, 96, 97, 98, 99, 100, 101, 102, 103, 104, 57, 58, 59, 60, 61, 62, 63, 64, 65, 105, 106, 107, 108, 109, 110] (by decide +kernel) (by decide +kernel)
set_option maxRecDepth 20000 in
theorem gX11_failsAlone_X10_standing : GoodIn wsX11_failsAlone (wsV RX11 254 RX10 yX10_standing wsX10_standing) := goodIn_app (goodIn_of _ (by decide +kernel)) ggX11_failsAlone_X10_standing
set_option maxRecDepth 20000 in
theorem ggX11_failsAlone_X11_standsOverStory : GoodIn wsX11_failsAlone wsX11_standsOverStory := goodIn_r _ [29, 30, 31, 32, 33, 34, 35, 36, 37, 38, 39, 40, 41, 42, 43, 44, 45, 46, 47, 48, 49, 50, 51, 52, 53, 54, 24, 55, 56, 23, 25, 105, 106, 107, 108, 109, 110, 111, 112, 113, 114, 115, 116, 117, 118, 119, 73, 74, 75, 76, 77, 78, 79, 80, 66, 67, 68, 69, 70, 71, 72, 81, 82, 83, 84, 85, 86, 87, 88, 89, 90, 91, 92, 93, 94, 95, 96, 97, 98, 99, 100, 101, 102, 103, 104, 57, 58, 59, 60, 61, 62, 63, 64, 65, 120, 121, 122, 123, 124] (by decide +kernel) (by decide +kernel)
set_option maxRecDepth 20000 in
theorem gX11_failsAlone_X11_standsOverStory : GoodIn wsX11_failsAlone (wsV RX11 367 RX11 yX11_standsOverStory wsX11_standsOverStory) := goodIn_app (goodIn_of _ (by decide +kernel)) ggX11_failsAlone_X11_standsOverStory
set_option maxRecDepth 20000 in
theorem ggX11_standsOverStory_X4_lastPiece : GoodIn wsX11_standsOverStory wsX4_lastPiece := goodIn_r _ [15, 16, 17, 54, 55, 56, 57, 58, 59, 60, 46, 47, 48, 49, 50, 51, 52, 53, 61, 62, 63, 64, 65, 66, 67, 68, 69, 70, 71, 72, 73, 74, 75, 76, 77, 78, 79, 80, 81, 82, 83, 84, 85, 86, 87, 88, 89, 90, 91, 92, 93] (by decide +kernel) (by decide +kernel)
set_option maxRecDepth 20000 in
theorem gX11_standsOverStory_X4_lastPiece_u371X3 : GoodIn wsX11_standsOverStory (va_wsU RX11 371 RX3 "PageOne$Item" ⟨"PageOne$Head", "lastPiece", "()LPageOne$Piece;"⟩ yX4_lastPiece wsX4_lastPiece) := goodIn_app (goodIn_of _ (by decide +kernel)) ggX11_standsOverStory_X4_lastPiece
set_option maxRecDepth 20000 in
theorem ggX11_standsOverStory_X9_at : GoodIn wsX11_standsOverStory wsX9_at := goodIn_r _ [22, 23, 24, 25, 26, 27, 28, 29, 30, 94, 95, 96, 97, 98] (by decide +kernel) (by decide +kernel)
set_option maxRecDepth 20000 in
theorem gX11_standsOverStory_X9_at : GoodIn wsX11_standsOverStory (wsV RX11 222 RX9 yX9_at wsX9_at) := goodIn_app (goodIn_of _ (by decide +kernel)) ggX11_standsOverStory_X9_at
set_option maxRecDepth 20000 in
theorem ggX11_hasPlate_X11_isPage : GoodIn wsX11_hasPlate wsX11_isPage := goodIn_r _ [5, 6, 7, 4, 8] (by decide +kernel) (by decide +kernel)
set_option maxRecDepth 20000 in
theorem gX11_hasPlate_X11_isPage : GoodIn wsX11_hasPlate (va_wsS RX11 48 yX11_isPage wsX11_isPage) := goodIn_app (goodIn_of _ (by decide +kernel)) ggX11_hasPlate_X11_isPage
