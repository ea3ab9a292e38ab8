set_option maxRecDepth 100000 in
theorem gX11_put_X10_maySit_u155X10 : GoodIn wsX11_put (va_wsO RX11 155 RX10 "PageOne$Item" ⟨"PageOne$Item", "maySit", "(LPageOne$Piece;II)Z"⟩ yX10_maySit wsX10_maySit) := goodIn_app (zk q_wsX11_put (zq_c (i := 528) rfl (zq_c (i := 530) rfl (zq_c (i := 529) rfl (zq_c (i := 545) rfl (zq_c (i := 546) rfl (zq_c (i := 58) rfl zq_nil)))))) k_wsX11_put rfl (by decide +kernel) (by decide +kernel)) (zk q_wsX11_put q_wsX10_maySit k_wsX11_put k_wsX10_maySit (by decide +kernel) (by decide +kernel))
set_option maxRecDepth 100000 in
theorem ggX11_put_X11_stand : GoodIn wsX11_put (wsX11_stand) := zk q_wsX11_put q_wsX11_stand k_wsX11_put k_wsX11_stand (by decide +kernel) (by decide +kernel)
set_option maxRecDepth 100000 in
theorem gX11_put_X11_stand : GoodIn wsX11_put (wsV RX11 159 RX11 yX11_stand wsX11_stand) := goodIn_app (zk q_wsX11_put (zq_c (i := 575) rfl (zq_c (i := 577) rfl (zq_c (i := 9) rfl (zq_c (i := 53) rfl zq_nil)))) k_wsX11_put rfl (by decide +kernel) (by decide +kernel)) (ggX11_put_X11_stand)
set_option maxRecDepth 100000 in
theorem gX11_put_X0_init : GoodIn wsX11_put (wsX0_init) := zk q_wsX11_put q_wsX0_init k_wsX11_put k_wsX0_init (by decide +kernel) (by decide +kernel)
set_option maxRecDepth 100000 in
theorem ggX11_put_X11_keep : GoodIn wsX11_put (wsX11_keep) := zk q_wsX11_put q_wsX11_keep k_wsX11_put k_wsX11_keep (by decide +kernel) (by decide +kernel)
set_option maxRecDepth 100000 in
theorem gX11_put_X11_keep : GoodIn wsX11_put (wsV RX11 166 RX11 yX11_keep wsX11_keep) := goodIn_app (zk q_wsX11_put (zq_c (i := 620) rfl (zq_c (i := 622) rfl (zq_c (i := 10) rfl (zq_c (i := 53) rfl zq_nil)))) k_wsX11_put rfl (by decide +kernel) (by decide +kernel)) (ggX11_put_X11_keep)
set_option maxRecDepth 100000 in
theorem ggX11_lift_X11_itemOf : GoodIn wsX11_lift (wsX11_itemOf) := zk q_wsX11_lift q_wsX11_itemOf k_wsX11_lift k_wsX11_itemOf (by decide +kernel) (by decide +kernel)
set_option maxRecDepth 100000 in
theorem gX11_lift_X11_itemOf : GoodIn wsX11_lift (wsV RX11 75 RX11 yX11_itemOf wsX11_itemOf) := goodIn_app (zk q_wsX11_lift (zq_c (i := 230) rfl (zq_c (i := 232) rfl (zq_c (i := 1) rfl (zq_c (i := 53) rfl zq_nil)))) k_wsX11_lift rfl (by decide +kernel) (by decide +kernel)) (ggX11_lift_X11_itemOf)
set_option maxRecDepth 100000 in
theorem ggX11_lift_X11_canAct : GoodIn wsX11_lift (wsX11_canAct) := zk q_wsX11_lift q_wsX11_canAct k_wsX11_lift k_wsX11_canAct (by decide +kernel) (by decide +kernel)
set_option maxRecDepth 100000 in
theorem gX11_lift_X11_canAct : GoodIn wsX11_lift (wsV RX11 138 RX11 yX11_canAct wsX11_canAct) := goodIn_app (zk q_wsX11_lift (zq_c (i := 469) rfl (zq_c (i := 471) rfl (zq_c (i := 8) rfl (zq_c (i := 53) rfl zq_nil)))) k_wsX11_lift rfl (by decide +kernel) (by decide +kernel)) (ggX11_lift_X11_canAct)
set_option maxRecDepth 100000 in
theorem gX11_lift_X4_lastPiece_u173X2 : GoodIn wsX11_lift (va_wsU RX11 173 RX2 "PageOne$Item" ⟨"PageOne$Item", "lastPiece", "()LPageOne$Piece;"⟩ yX4_lastPiece wsX4_lastPiece) := goodIn_app (zk q_wsX11_lift (zq_c (i := 628) rfl (zq_c (i := 1272) rfl (zq_c (i := 1273) rfl (zq_c (i := 552) rfl (zq_c (i := 57) rfl zq_nil))))) k_wsX11_lift rfl (by decide +kernel) (by decide +kernel)) (zk q_wsX11_lift q_wsX4_lastPiece k_wsX11_lift k_wsX4_lastPiece (by decide +kernel) (by decide +kernel))
set_option maxRecDepth 100000 in
theorem gX11_lift_X4_lastPiece_u173X3 : GoodIn wsX11_lift (va_wsU RX11 173 RX3 "PageOne$Item" ⟨"PageOne$Item", "lastPiece", "()LPageOne$Piece;"⟩ yX4_lastPiece wsX4_lastPiece) := goodIn_app (zk q_wsX11_lift (zq_c (i := 628) rfl (zq_c (i := 1272) rfl (zq_c (i := 1274) rfl (zq_c (i := 552) rfl (zq_c (i := 57) rfl zq_nil))))) k_wsX11_lift rfl (by decide +kernel) (by decide +kernel)) (zk q_wsX11_lift q_wsX4_lastPiece k_wsX11_lift k_wsX4_lastPiece (by decide +kernel) (by decide +kernel))
set_option maxRecDepth 100000 in
theorem gX11_lift_X4_lastPiece_u173X5 : GoodIn wsX11_lift (va_wsU RX11 173 RX5 "PageOne$Item" ⟨"PageOne$Item", "lastPiece", "()LPageOne$Piece;"⟩ yX4_lastPiece wsX4_lastPiece) := goodIn_app (zk q_wsX11_lift (zq_c (i := 628) rfl (zq_c (i := 1272) rfl (zq_c (i := 1275) rfl (zq_c (i := 552) rfl (zq_c (i := 57) rfl zq_nil))))) k_wsX11_lift rfl (by decide +kernel) (by decide +kernel)) (zk q_wsX11_lift q_wsX4_lastPiece k_wsX11_lift k_wsX4_lastPiece (by decide +kernel) (by decide +kernel))
set_option maxRecDepth 100000 in
theorem gX11_lift_X4_lastPiece_u173X6 : GoodIn wsX11_lift (va_wsU RX11 173 RX6 "PageOne$Item" ⟨"PageOne$Item", "lastPiece", "()LPageOne$Piece;"⟩ yX4_lastPiece wsX4_lastPiece) := goodIn_app (zk q_wsX11_lift (zq_c (i := 628) rfl (zq_c (i := 1272) rfl (zq_c (i := 1276) rfl (zq_c (i := 552) rfl (zq_c (i := 57) rfl zq_nil))))) k_wsX11_lift rfl (by decide +kernel) (by decide +kernel)) (zk q_wsX11_lift q_wsX4_lastPiece k_wsX11_lift k_wsX4_lastPiece (by decide +kernel) (by decide +kernel))
set_option maxRecDepth 100000 in
theorem gX11_lift_X4_lastPiece_u173X7 : GoodIn wsX11_lift (va_wsU RX11 173 RX7 "PageOne$Item" ⟨"PageOne$Item", "lastPiece", "()LPageOne$Piece;"⟩ yX4_lastPiece wsX4_lastPiece) := goodIn_app (zk q_wsX11_lift (zq_c (i := 628) rfl (zq_c (i := 1272) rfl (zq_c (i := 1277) rfl (zq_c (i := 552) rfl (zq_c (i := 57) rfl zq_nil))))) k_wsX11_lift rfl (by decide +kernel) (by decide +kernel)) (zk q_wsX11_lift q_wsX4_lastPiece k_wsX11_lift k_wsX4_lastPiece (by decide +kernel) (by decide +kernel))
set_option maxRecDepth 100000 in
theorem gX11_lift_X4_lastPiece_u173X10 : GoodIn wsX11_lift (va_wsU RX11 173 RX10 "PageOne$Item" ⟨"PageOne$Item", "lastPiece", "()LPageOne$Piece;"⟩ yX4_lastPiece wsX4_lastPiece) := goodIn_app (zk q_wsX11_lift (zq_c (i := 628) rfl (zq_c (i := 1272) rfl (zq_c (i := 1278) rfl (zq_c (i := 552) rfl (zq_c (i := 57) rfl zq_nil))))) k_wsX11_lift rfl (by decide +kernel) (by decide +kernel)) (zk q_wsX11_lift q_wsX4_lastPiece k_wsX11_lift k_wsX4_lastPiece (by decide +kernel) (by decide +kernel))
set_option maxRecDepth 100000 in
theorem ggX11_lift_X11_takeOff : GoodIn wsX11_lift (wsX11_takeOff) := zk q_wsX11_lift q_wsX11_takeOff k_wsX11_lift k_wsX11_takeOff (by decide +kernel) (by decide +kernel)
set_option maxRecDepth 100000 in
theorem gX11_lift_X11_takeOff : GoodIn wsX11_lift (wsV RX11 177 RX11 yX11_takeOff wsX11_takeOff) := goodIn_app (zk q_wsX11_lift (zq_c (i := 629) rfl (zq_c (i := 631) rfl (zq_c (i := 11) rfl (zq_c (i := 53) rfl zq_nil)))) k_wsX11_lift rfl (by decide +kernel) (by decide +kernel)) (ggX11_lift_X11_takeOff)
set_option maxRecDepth 100000 in
theorem gX11_lift_X0_init : GoodIn wsX11_lift (wsX0_init) := zk q_wsX11_lift q_wsX0_init k_wsX11_lift k_wsX0_init (by decide +kernel) (by decide +kernel)
set_option maxRecDepth 100000 in
theorem ggX11_lift_X11_keep : GoodIn wsX11_lift (wsX11_keep) := zk q_wsX11_lift q_wsX11_keep k_wsX11_lift k_wsX11_keep (by decide +kernel) (by decide +kernel)
set_option maxRecDepth 100000 in
theorem gX11_lift_X11_keep : GoodIn wsX11_lift (wsV RX11 166 RX11 yX11_keep wsX11_keep) := goodIn_app (zk q_wsX11_lift (zq_c (i := 620) rfl (zq_c (i := 622) rfl (zq_c (i := 10) rfl (zq_c (i := 53) rfl zq_nil)))) k_wsX11_lift rfl (by decide +kernel) (by decide +kernel)) (ggX11_lift_X11_keep)
set_option maxRecDepth 100000 in
theorem ggX11_rule_X11_isPage : GoodIn wsX11_rule (wsX11_isPage) := zk q_wsX11_rule q_wsX11_isPage k_wsX11_rule k_wsX11_isPage (by decide +kernel) (by decide +kernel)
set_option maxRecDepth 100000 in
theorem gX11_rule_X11_isPage : GoodIn wsX11_rule (va_wsS RX11 48 yX11_isPage wsX11_isPage) := goodIn_app (zk q_wsX11_rule (zq_c (i := 144) rfl (zq_c (i := 145) rfl (zq_c (i := 53) rfl zq_nil))) k_wsX11_rule rfl (by decide +kernel) (by decide +kernel)) (ggX11_rule_X11_isPage)
set_option maxRecDepth 100000 in
theorem ggX11_rule_X11_canAct : GoodIn wsX11_rule (wsX11_canAct) := zk q_wsX11_rule q_wsX11_canAct k_wsX11_rule k_wsX11_canAct (by decide +kernel) (by decide +kernel)
set_option maxRecDepth 100000 in
theorem gX11_rule_X11_canAct : GoodIn wsX11_rule (wsV RX11 138 RX11 yX11_canAct wsX11_canAct) := goodIn_app (zk q_wsX11_rule (zq_c (i := 469) rfl (zq_c (i := 471) rfl (zq_c (i := 8) rfl (zq_c (i := 53) rfl zq_nil)))) k_wsX11_rule rfl (by decide +kernel) (by decide +kernel)) (ggX11_rule_X11_canAct)
set_option maxRecDepth 100000 in
theorem gX11_rule_X8_init : GoodIn wsX11_rule (wsX8_init) := zk q_wsX11_rule q_wsX8_init k_wsX11_rule k_wsX8_init (by decide +kernel) (by decide +kernel)
set_option maxRecDepth 100000 in
theorem ggX11_rule_X9_isFree : GoodIn wsX11_rule (wsX9_isFree) := zk q_wsX11_rule q_wsX9_isFree k_wsX11_rule k_wsX9_isFree (by decide +kernel) (by decide +kernel)
set_option maxRecDepth 100000 in
theorem gX11_rule_X9_isFree : GoodIn wsX11_rule (wsV RX11 151 RX9 yX9_isFree wsX9_isFree) := goodIn_app (zk q_wsX11_rule (zq_c (i := 523) rfl (zq_c (i := 524) rfl (zq_c (i := 525) rfl (zq_c (i := 54) rfl zq_nil)))) k_wsX11_rule rfl (by decide +kernel) (by decide +kernel)) (ggX11_rule_X9_isFree)
set_option maxRecDepth 100000 in
theorem ggX11_rule_X11_stand : GoodIn wsX11_rule (wsX11_stand) := zk q_wsX11_rule q_wsX11_stand k_wsX11_rule k_wsX11_stand (by decide +kernel) (by decide +kernel)
set_option maxRecDepth 100000 in
theorem gX11_rule_X11_stand : GoodIn wsX11_rule (wsV RX11 159 RX11 yX11_stand wsX11_stand) := goodIn_app (zk q_wsX11_rule (zq_c (i := 575) rfl (zq_c (i := 577) rfl (zq_c (i := 9) rfl (zq_c (i := 53) rfl zq_nil)))) k_wsX11_rule rfl (by decide +kernel) (by decide +kernel)) (ggX11_rule_X11_stand)
set_option maxRecDepth 100000 in
theorem gX11_rule_X0_init : GoodIn wsX11_rule (wsX0_init) := zk q_wsX11_rule q_wsX0_init k_wsX11_rule k_wsX0_init (by decide +kernel) (by decide +kernel)
set_option maxRecDepth 100000 in
theorem ggX11_rule_X11_keep : GoodIn wsX11_rule (wsX11_keep) := zk q_wsX11_rule q_wsX11_keep k_wsX11_rule k_wsX11_keep (by decide +kernel) (by decide +kernel)
set_option maxRecDepth 100000 in
theorem gX11_rule_X11_keep : GoodIn wsX11_rule (wsV RX11 166 RX11 yX11_keep wsX11_keep) := goodIn_app (zk q_wsX11_rule (zq_c (i := 620) rfl (zq_c (i := 622) rfl (zq_c (i := 10) rfl (zq_c (i := 53) rfl zq_nil)))) k_wsX11_rule rfl (by decide +kernel) (by decide +kernel)) (ggX11_rule_X11_keep)
set_option maxRecDepth 100000 in
theorem ggX11_fill_X11_isPage : GoodIn wsX11_fill (wsX11_isPage) := zk q_wsX11_fill q_wsX11_isPage k_wsX11_fill k_wsX11_isPage (by decide +kernel) (by decide +kernel)
set_option maxRecDepth 100000 in
theorem gX11_fill_X11_isPage : GoodIn wsX11_fill (va_wsS RX11 48 yX11_isPage wsX11_isPage) := goodIn_app (zk q_wsX11_fill (zq_c (i := 144) rfl (zq_c (i := 145) rfl (zq_c (i := 53) rfl zq_nil))) k_wsX11_fill rfl (by decide +kernel) (by decide +kernel)) (ggX11_fill_X11_isPage)
set_option maxRecDepth 100000 in
theorem ggX11_fill_X11_canAct : GoodIn wsX11_fill (wsX11_canAct) := zk q_wsX11_fill q_wsX11_canAct k_wsX11_fill k_wsX11_canAct (by decide +kernel) (by decide +kernel)
set_option maxRecDepth 100000 in
theorem gX11_fill_X11_canAct : GoodIn wsX11_fill (wsV RX11 138 RX11 yX11_canAct wsX11_canAct) := goodIn_app (zk q_wsX11_fill (zq_c (i := 469) rfl (zq_c (i := 471) rfl (zq_c (i := 8) rfl (zq_c (i := 53) rfl zq_nil)))) k_wsX11_fill rfl (by decide +kernel) (by decide +kernel)) (ggX11_fill_X11_canAct)
set_option maxRecDepth 100000 in
theorem ggX11_fill_X11_fillColumn : GoodIn wsX11_fill (wsX11_fillColumn) := zk q_wsX11_fill q_wsX11_fillColumn k_wsX11_fill k_wsX11_fillColumn (by decide +kernel) (by decide +kernel)
set_option maxRecDepth 100000 in
theorem gX11_fill_X11_fillColumn : GoodIn wsX11_fill (wsV RX11 180 RX11 yX11_fillColumn wsX11_fillColumn) := goodIn_app (zk q_wsX11_fill (zq_c (i := 651) rfl (zq_c (i := 653) rfl (zq_c (i := 12) rfl (zq_c (i := 53) rfl zq_nil)))) k_wsX11_fill rfl (by decide +kernel) (by decide +kernel)) (ggX11_fill_X11_fillColumn)
set_option maxRecDepth 100000 in
theorem ggX11_fill_X11_keep : GoodIn wsX11_fill (wsX11_keep) := zk q_wsX11_fill q_wsX11_keep k_wsX11_fill k_wsX11_keep (by decide +kernel) (by decide +kernel)
set_option maxRecDepth 100000 in
theorem gX11_fill_X11_keep : GoodIn wsX11_fill (wsV RX11 166 RX11 yX11_keep wsX11_keep) := goodIn_app (zk q_wsX11_fill (zq_c (i := 620) rfl (zq_c (i := 622) rfl (zq_c (i := 10) rfl (zq_c (i := 53) rfl zq_nil)))) k_wsX11_fill rfl (by decide +kernel) (by decide +kernel)) (ggX11_fill_X11_keep)
set_option maxRecDepth 100000 in
theorem ggX11_undo_X11_takeBack : GoodIn wsX11_undo (wsX11_takeBack) := zk q_wsX11_undo q_wsX11_takeBack k_wsX11_undo k_wsX11_takeBack (by decide +kernel) (by decide +kernel)
set_option maxRecDepth 100000 in
theorem gX11_undo_X11_takeBack : GoodIn wsX11_undo (wsV RX11 187 RX11 yX11_takeBack wsX11_takeBack) := goodIn_app (zk q_wsX11_undo (zq_c (i := 668) rfl (zq_c (i := 670) rfl (zq_c (i := 14) rfl (zq_c (i := 53) rfl zq_nil)))) k_wsX11_undo rfl (by decide +kernel) (by decide +kernel)) (ggX11_undo_X11_takeBack)
set_option maxRecDepth 100000 in
theorem ggX11_plate_X11_isPage : GoodIn wsX11_plate (wsX11_isPage) := zk q_wsX11_plate q_wsX11_isPage k_wsX11_plate k_wsX11_isPage (by decide +kernel) (by decide +kernel)
set_option maxRecDepth 100000 in
theorem gX11_plate_X11_isPage : GoodIn wsX11_plate (va_wsS RX11 48 yX11_isPage wsX11_isPage) := goodIn_app (zk q_wsX11_plate (zq_c (i := 144) rfl (zq_c (i := 145) rfl (zq_c (i := 53) rfl zq_nil))) k_wsX11_plate rfl (by decide +kernel) (by decide +kernel)) (ggX11_plate_X11_isPage)
set_option maxRecDepth 100000 in
theorem ggX11_plate_X9_cellCount : GoodIn wsX11_plate (wsX9_cellCount) := zk q_wsX11_plate q_wsX9_cellCount k_wsX11_plate k_wsX9_cellCount (by decide +kernel) (by decide +kernel)
set_option maxRecDepth 100000 in
theorem gX11_plate_X9_cellCount : GoodIn wsX11_plate (wsV RX11 190 RX9 yX9_cellCount wsX9_cellCount) := goodIn_app (zk q_wsX11_plate (zq_c (i := 676) rfl (zq_c (i := 677) rfl (zq_c (i := 678) rfl (zq_c (i := 54) rfl zq_nil)))) k_wsX11_plate rfl (by decide +kernel) (by decide +kernel)) (ggX11_plate_X9_cellCount)
set_option maxRecDepth 100000 in
theorem ggX11_plate_X9_emptyCount : GoodIn wsX11_plate (wsX9_emptyCount) := zk q_wsX11_plate q_wsX9_emptyCount k_wsX11_plate k_wsX9_emptyCount (by decide +kernel) (by decide +kernel)
set_option maxRecDepth 100000 in
theorem gX11_plate_X9_emptyCount : GoodIn wsX11_plate (wsV RX11 194 RX9 yX9_emptyCount wsX9_emptyCount) := goodIn_app (zk q_wsX11_plate (zq_c (i := 680) rfl (zq_c (i := 681) rfl (zq_c (i := 682) rfl (zq_c (i := 54) rfl zq_nil)))) k_wsX11_plate rfl (by decide +kernel) (by decide +kernel)) (ggX11_plate_X9_emptyCount)
set_option maxRecDepth 100000 in
theorem ggX11_plate_X11_breachOn : GoodIn wsX11_plate (wsX11_breachOn) := zk q_wsX11_plate q_wsX11_breachOn k_wsX11_plate k_wsX11_breachOn (by decide +kernel) (by decide +kernel)
set_option maxRecDepth 100000 in
theorem gX11_plate_X11_breachOn : GoodIn wsX11_plate (wsV RX11 197 RX11 yX11_breachOn wsX11_breachOn) := goodIn_app (zk q_wsX11_plate (zq_c (i := 688) rfl (zq_c (i := 690) rfl (zq_c (i := 15) rfl (zq_c (i := 53) rfl zq_nil)))) k_wsX11_plate rfl (by decide +kernel) (by decide +kernel)) (ggX11_plate_X11_breachOn)
set_option maxRecDepth 100000 in
theorem gX11_plate_X9_init : GoodIn wsX11_plate (wsX9_init) := zk q_wsX11_plate q_wsX9_init k_wsX11_plate k_wsX9_init (by decide +kernel) (by decide +kernel)
set_option maxRecDepth 100000 in
theorem ggX11_plate_X9_copyFrom : GoodIn wsX11_plate (wsX9_copyFrom) := zk q_wsX11_plate q_wsX9_copyFrom k_wsX11_plate k_wsX9_copyFrom (by decide +kernel) (by decide +kernel)
set_option maxRecDepth 100000 in
theorem gX11_plate_X9_copyFrom : GoodIn wsX11_plate (wsV RX11 206 RX9 yX9_copyFrom wsX9_copyFrom) := goodIn_app (zk q_wsX11_plate (zq_c (i := 772) rfl (zq_c (i := 773) rfl (zq_c (i := 774) rfl (zq_c (i := 54) rfl zq_nil)))) k_wsX11_plate rfl (by decide +kernel) (by decide +kernel)) (ggX11_plate_X9_copyFrom)
set_option maxRecDepth 100000 in
theorem ggX11_edition_X11_closeEdition : GoodIn wsX11_edition (wsX11_closeEdition) := zk q_wsX11_edition q_wsX11_closeEdition k_wsX11_edition k_wsX11_closeEdition (by decide +kernel) (by decide +kernel)
set_option maxRecDepth 100000 in
theorem gX11_edition_X11_closeEdition : GoodIn wsX11_edition (wsV RX11 216 RX11 yX11_closeEdition wsX11_closeEdition) := goodIn_app (zk q_wsX11_edition (zq_c (i := 783) rfl (zq_c (i := 785) rfl (zq_c (i := 20) rfl (zq_c (i := 53) rfl zq_nil)))) k_wsX11_edition rfl (by decide +kernel) (by decide +kernel)) (ggX11_edition_X11_closeEdition)
set_option maxRecDepth 100000 in
theorem ggX11_day_X11_closeEdition : GoodIn wsX11_day (wsX11_closeEdition) := zk q_wsX11_day q_wsX11_closeEdition k_wsX11_day k_wsX11_closeEdition (by decide +kernel) (by decide +kernel)
set_option maxRecDepth 100000 in
theorem gX11_day_X11_closeEdition : GoodIn wsX11_day (wsV RX11 216 RX11 yX11_closeEdition wsX11_closeEdition) := goodIn_app (zk q_wsX11_day (zq_c (i := 783) rfl (zq_c (i := 785) rfl (zq_c (i := 20) rfl (zq_c (i := 53) rfl zq_nil)))) k_wsX11_day rfl (by decide +kernel) (by decide +kernel)) (ggX11_day_X11_closeEdition)
set_option maxRecDepth 100000 in
theorem ggX11_day_X11_clearDesk : GoodIn wsX11_day (wsX11_clearDesk) := zk q_wsX11_day q_wsX11_clearDesk k_wsX11_day k_wsX11_clearDesk (by decide +kernel) (by decide +kernel)
set_option maxRecDepth 100000 in
theorem gX11_day_X11_clearDesk : GoodIn wsX11_day (wsV RX11 219 RX11 yX11_clearDesk wsX11_clearDesk) := goodIn_app (zk q_wsX11_day (zq_c (i := 799) rfl (zq_c (i := 801) rfl (zq_c (i := 23) rfl (zq_c (i := 53) rfl zq_nil)))) k_wsX11_day rfl (by decide +kernel) (by decide +kernel)) (ggX11_day_X11_clearDesk)
set_option maxRecDepth 100000 in
theorem ggX11_cell_X11_isPage : GoodIn wsX11_cell (wsX11_isPage) := zk q_wsX11_cell q_wsX11_isPage k_wsX11_cell k_wsX11_isPage (by decide +kernel) (by decide +kernel)
set_option maxRecDepth 100000 in
theorem gX11_cell_X11_isPage : GoodIn wsX11_cell (va_wsS RX11 48 yX11_isPage wsX11_isPage) := goodIn_app (zk q_wsX11_cell (zq_c (i := 144) rfl (zq_c (i := 145) rfl (zq_c (i := 53) rfl zq_nil))) k_wsX11_cell rfl (by decide +kernel) (by decide +kernel)) (ggX11_cell_X11_isPage)
set_option maxRecDepth 100000 in
theorem ggX11_cell_X9_at : GoodIn wsX11_cell (wsX9_at) := zk q_wsX11_cell q_wsX9_at k_wsX11_cell k_wsX9_at (by decide +kernel) (by decide +kernel)
set_option maxRecDepth 100000 in
theorem gX11_cell_X9_at : GoodIn wsX11_cell (wsV RX11 222 RX9 yX9_at wsX9_at) := goodIn_app (zk q_wsX11_cell (zq_c (i := 655) rfl (zq_c (i := 422) rfl (zq_c (i := 423) rfl (zq_c (i := 54) rfl zq_nil)))) k_wsX11_cell rfl (by decide +kernel) (by decide +kernel)) (ggX11_cell_X9_at)
set_option maxRecDepth 100000 in
theorem ggX11_piece_X11_itemOf : GoodIn wsX11_piece (wsX11_itemOf) := zk q_wsX11_piece q_wsX11_itemOf k_wsX11_piece k_wsX11_itemOf (by decide +kernel) (by decide +kernel)
set_option maxRecDepth 100000 in
theorem gX11_piece_X11_itemOf : GoodIn wsX11_piece (wsV RX11 75 RX11 yX11_itemOf wsX11_itemOf) := goodIn_app (zk q_wsX11_piece (zq_c (i := 230) rfl (zq_c (i := 232) rfl (zq_c (i := 1) rfl (zq_c (i := 53) rfl zq_nil)))) k_wsX11_piece rfl (by decide +kernel) (by decide +kernel)) (ggX11_piece_X11_itemOf)
set_option maxRecDepth 100000 in
theorem ggX11_piece_X11_isWithin : GoodIn wsX11_piece (wsX11_isWithin) := zk q_wsX11_piece q_wsX11_isWithin k_wsX11_piece k_wsX11_isWithin (by decide +kernel) (by decide +kernel)
set_option maxRecDepth 100000 in
theorem gX11_piece_X11_isWithin : GoodIn wsX11_piece (va_wsS RX11 55 yX11_isWithin wsX11_isWithin) := goodIn_app (zk q_wsX11_piece (zq_c (i := 147) rfl (zq_c (i := 148) rfl (zq_c (i := 53) rfl zq_nil))) k_wsX11_piece rfl (by decide +kernel) (by decide +kernel)) (ggX11_piece_X11_isWithin)
set_option maxRecDepth 100000 in
theorem ggX11_piece_X10_takenBefore : GoodIn wsX11_piece (wsX10_takenBefore) := zk q_wsX11_piece q_wsX10_takenBefore k_wsX11_piece k_wsX10_takenBefore (by decide +kernel) (by decide +kernel)
set_option maxRecDepth 100000 in
theorem gX11_piece_X10_takenBefore : GoodIn wsX11_piece (wsV RX11 244 RX10 yX10_takenBefore wsX10_takenBefore) := goodIn_app (zk q_wsX11_piece (zq_c (i := 825) rfl (zq_c (i := 571) rfl (zq_c (i := 572) rfl (zq_c (i := 58) rfl zq_nil)))) k_wsX11_piece rfl (by decide +kernel) (by decide +kernel)) (ggX11_piece_X10_takenBefore)
set_option maxRecDepth 100000 in
theorem ggX11_piece_X10_takenBy : GoodIn wsX11_piece (wsX10_takenBy) := zk q_wsX11_piece q_wsX10_takenBy k_wsX11_piece k_wsX10_takenBy (by decide +kernel) (by decide +kernel)
set_option maxRecDepth 100000 in
theorem gX11_piece_X10_takenBy : GoodIn wsX11_piece (wsV RX11 247 RX10 yX10_takenBy wsX10_takenBy) := goodIn_app (zk q_wsX11_piece (zq_c (i := 826) rfl (zq_c (i := 563) rfl (zq_c (i := 564) rfl (zq_c (i := 58) rfl zq_nil)))) k_wsX11_piece rfl (by decide +kernel) (by decide +kernel)) (ggX11_piece_X10_takenBy)
set_option maxRecDepth 100000 in
theorem ggX11_item_X11_itemOf : GoodIn wsX11_item (wsX11_itemOf) := zk q_wsX11_item q_wsX11_itemOf k_wsX11_item k_wsX11_itemOf (by decide +kernel) (by decide +kernel)
set_option maxRecDepth 100000 in
theorem gX11_item_X11_itemOf : GoodIn wsX11_item (wsV RX11 75 RX11 yX11_itemOf wsX11_itemOf) := goodIn_app (zk q_wsX11_item (zq_c (i := 230) rfl (zq_c (i := 232) rfl (zq_c (i := 1) rfl (zq_c (i := 53) rfl zq_nil)))) k_wsX11_item rfl (by decide +kernel) (by decide +kernel)) (ggX11_item_X11_itemOf)
set_option maxRecDepth 100000 in
theorem ggX11_item_X10_standing : GoodIn wsX11_item (wsX10_standing) := zk q_wsX11_item q_wsX10_standing k_wsX11_item k_wsX10_standing (by decide +kernel) (by decide +kernel)
set_option maxRecDepth 100000 in
theorem gX11_item_X10_standing : GoodIn wsX11_item (wsV RX11 254 RX10 yX10_standing wsX10_standing) := goodIn_app (zk q_wsX11_item (zq_c (i := 764) rfl (zq_c (i := 567) rfl (zq_c (i := 568) rfl (zq_c (i := 58) rfl zq_nil)))) k_wsX11_item rfl (by decide +kernel) (by decide +kernel)) (ggX11_item_X10_standing)
set_option maxRecDepth 100000 in
theorem ggX11_item_X11_ownerOf : GoodIn wsX11_item (wsX11_ownerOf) := zk q_wsX11_item q_wsX11_ownerOf k_wsX11_item k_wsX11_ownerOf (by decide +kernel) (by decide +kernel)
set_option maxRecDepth 100000 in
theorem gX11_item_X11_ownerOf : GoodIn wsX11_item (wsV RX11 257 RX11 yX11_ownerOf wsX11_ownerOf) := goodIn_app (zk q_wsX11_item (zq_c (i := 831) rfl (zq_c (i := 833) rfl (zq_c (i := 24) rfl (zq_c (i := 53) rfl zq_nil)))) k_wsX11_item rfl (by decide +kernel) (by decide +kernel)) (ggX11_item_X11_ownerOf)
set_option maxRecDepth 100000 in
theorem ggX11_shortOf_X11_isPage : GoodIn wsX11_shortOf (wsX11_isPage) := zk q_wsX11_shortOf q_wsX11_isPage k_wsX11_shortOf k_wsX11_isPage (by decide +kernel) (by decide +kernel)
set_option maxRecDepth 100000 in
theorem gX11_shortOf_X11_isPage : GoodIn wsX11_shortOf (va_wsS RX11 48 yX11_isPage wsX11_isPage) := goodIn_app (zk q_wsX11_shortOf (zq_c (i := 144) rfl (zq_c (i := 145) rfl (zq_c (i := 53) rfl zq_nil))) k_wsX11_shortOf rfl (by decide +kernel) (by decide +kernel)) (ggX11_shortOf_X11_isPage)
set_option maxRecDepth 100000 in
theorem ggX11_shortOf_X11_isColumn : GoodIn wsX11_shortOf (wsX11_isColumn) := zk q_wsX11_shortOf q_wsX11_isColumn k_wsX11_shortOf k_wsX11_isColumn (by decide +kernel) (by decide +kernel)
set_option maxRecDepth 100000 in
theorem gX11_shortOf_X11_isColumn : GoodIn wsX11_shortOf (va_wsS RX11 52 yX11_isColumn wsX11_isColumn) := goodIn_app (zk q_wsX11_shortOf (zq_c (i := 150) rfl (zq_c (i := 151) rfl (zq_c (i := 53) rfl zq_nil))) k_wsX11_shortOf rfl (by decide +kernel) (by decide +kernel)) (ggX11_shortOf_X11_isColumn)
set_option maxRecDepth 100000 in
theorem ggX11_shortOf_X9_emptyIn : GoodIn wsX11_shortOf (wsX9_emptyIn) := zk q_wsX11_shortOf q_wsX9_emptyIn k_wsX11_shortOf k_wsX9_emptyIn (by decide +kernel) (by decide +kernel)
set_option maxRecDepth 100000 in
theorem gX11_shortOf_X9_emptyIn : GoodIn wsX11_shortOf (wsV RX11 263 RX9 yX9_emptyIn wsX9_emptyIn) := goodIn_app (zk q_wsX11_shortOf (zq_c (i := 839) rfl (zq_c (i := 685) rfl (zq_c (i := 686) rfl (zq_c (i := 54) rfl zq_nil)))) k_wsX11_shortOf rfl (by decide +kernel) (by decide +kernel)) (ggX11_shortOf_X9_emptyIn)
set_option maxRecDepth 100000 in
theorem ggX11_broken_X11_isPage : GoodIn wsX11_broken (wsX11_isPage) := zk q_wsX11_broken q_wsX11_isPage k_wsX11_broken k_wsX11_isPage (by decide +kernel) (by decide +kernel)
set_option maxRecDepth 100000 in
theorem gX11_broken_X11_isPage : GoodIn wsX11_broken (va_wsS RX11 48 yX11_isPage wsX11_isPage) := goodIn_app (zk q_wsX11_broken (zq_c (i := 144) rfl (zq_c (i := 145) rfl (zq_c (i := 53) rfl zq_nil))) k_wsX11_broken rfl (by decide +kernel) (by decide +kernel)) (ggX11_broken_X11_isPage)
set_option maxRecDepth 100000 in
theorem ggX11_broken_X11_isWithin : GoodIn wsX11_broken (wsX11_isWithin) := zk q_wsX11_broken q_wsX11_isWithin k_wsX11_broken k_wsX11_isWithin (by decide +kernel) (by decide +kernel)
set_option maxRecDepth 100000 in
theorem gX11_broken_X11_isWithin : GoodIn wsX11_broken (va_wsS RX11 55 yX11_isWithin wsX11_isWithin) := goodIn_app (zk q_wsX11_broken (zq_c (i := 147) rfl (zq_c (i := 148) rfl (zq_c (i := 53) rfl zq_nil))) k_wsX11_broken rfl (by decide +kernel) (by decide +kernel)) (ggX11_broken_X11_isWithin)
set_option maxRecDepth 100000 in
theorem ggX11_broken_X11_breachOn : GoodIn wsX11_broken (wsX11_breachOn) := zk q_wsX11_broken q_wsX11_breachOn k_wsX11_broken k_wsX11_breachOn (by decide +kernel) (by decide +kernel)
set_option maxRecDepth 100000 in
theorem gX11_broken_X11_breachOn : GoodIn wsX11_broken (wsV RX11 197 RX11 yX11_breachOn wsX11_breachOn) := goodIn_app (zk q_wsX11_broken (zq_c (i := 688) rfl (zq_c (i := 690) rfl (zq_c (i := 15) rfl (zq_c (i := 53) rfl zq_nil)))) k_wsX11_broken rfl (by decide +kernel) (by decide +kernel)) (ggX11_broken_X11_breachOn)
set_option maxRecDepth 100000 in
theorem ggX11_printed_X11_itemOf : GoodIn wsX11_printed (wsX11_itemOf) := zk q_wsX11_printed q_wsX11_itemOf k_wsX11_printed k_wsX11_itemOf (by decide +kernel) (by decide +kernel)
set_option maxRecDepth 100000 in
theorem gX11_printed_X11_itemOf : GoodIn wsX11_printed (wsV RX11 75 RX11 yX11_itemOf wsX11_itemOf) := goodIn_app (zk q_wsX11_printed (zq_c (i := 230) rfl (zq_c (i := 232) rfl (zq_c (i := 1) rfl (zq_c (i := 53) rfl zq_nil)))) k_wsX11_printed rfl (by decide +kernel) (by decide +kernel)) (ggX11_printed_X11_itemOf)
set_option maxRecDepth 100000 in
theorem ggX11_printed_X11_firstPrinting : GoodIn wsX11_printed (wsX11_firstPrinting) := zk q_wsX11_printed q_wsX11_firstPrinting k_wsX11_printed k_wsX11_firstPrinting (by decide +kernel) (by decide +kernel)
set_option maxRecDepth 100000 in
theorem gX11_printed_X11_firstPrinting : GoodIn wsX11_printed (wsV RX11 121 RX11 yX11_firstPrinting wsX11_firstPrinting) := goodIn_app (zk q_wsX11_printed (zq_c (i := 405) rfl (zq_c (i := 407) rfl (zq_c (i := 2) rfl (zq_c (i := 53) rfl zq_nil)))) k_wsX11_printed rfl (by decide +kernel) (by decide +kernel)) (ggX11_printed_X11_firstPrinting)
set_option maxRecDepth 100000 in
theorem ggX11_plated_X11_hasPlate : GoodIn wsX11_plated (wsX11_hasPlate) := zk q_wsX11_plated q_wsX11_hasPlate k_wsX11_plated k_wsX11_hasPlate (by decide +kernel) (by decide +kernel)
set_option maxRecDepth 100000 in
theorem gX11_plated_X11_hasPlate : GoodIn wsX11_plated (wsV RX11 272 RX11 yX11_hasPlate wsX11_hasPlate) := goodIn_app (zk q_wsX11_plated (zq_c (i := 413) rfl (zq_c (i := 415) rfl (zq_c (i := 4) rfl (zq_c (i := 53) rfl zq_nil)))) k_wsX11_plated rfl (by decide +kernel) (by decide +kernel)) (ggX11_plated_X11_hasPlate)
set_option maxRecDepth 100000 in
theorem ggX11_plated_X9_at : GoodIn wsX11_plated (wsX9_at) := zk q_wsX11_plated q_wsX9_at k_wsX11_plated k_wsX9_at (by decide +kernel) (by decide +kernel)
set_option maxRecDepth 100000 in
theorem gX11_plated_X9_at : GoodIn wsX11_plated (wsV RX11 222 RX9 yX9_at wsX9_at) := goodIn_app (zk q_wsX11_plated (zq_c (i := 655) rfl (zq_c (i := 422) rfl (zq_c (i := 423) rfl (zq_c (i := 54) rfl zq_nil)))) k_wsX11_plated rfl (by decide +kernel) (by decide +kernel)) (ggX11_plated_X9_at)
set_option maxRecDepth 100000 in
theorem ggX11_plateOf_X11_hasPlate : GoodIn wsX11_plateOf (wsX11_hasPlate) := zk q_wsX11_plateOf q_wsX11_hasPlate k_wsX11_plateOf k_wsX11_hasPlate (by decide +kernel) (by decide +kernel)
set_option maxRecDepth 100000 in
theorem gX11_plateOf_X11_hasPlate : GoodIn wsX11_plateOf (wsV RX11 272 RX11 yX11_hasPlate wsX11_hasPlate) := goodIn_app (zk q_wsX11_plateOf (zq_c (i := 413) rfl (zq_c (i := 415) rfl (zq_c (i := 4) rfl (zq_c (i := 53) rfl zq_nil)))) k_wsX11_plateOf rfl (by decide +kernel) (by decide +kernel)) (ggX11_plateOf_X11_hasPlate)
set_option maxRecDepth 100000 in
theorem ggX11_bill_X11_isBuyer : GoodIn wsX11_bill (wsX11_isBuyer) := zk q_wsX11_bill q_wsX11_isBuyer k_wsX11_bill k_wsX11_isBuyer (by decide +kernel) (by decide +kernel)
set_option maxRecDepth 100000 in
theorem gX11_bill_X11_isBuyer : GoodIn wsX11_bill (va_wsS RX11 101 yX11_isBuyer wsX11_isBuyer) := goodIn_app (zk q_wsX11_bill (zq_c (i := 304) rfl (zq_c (i := 305) rfl (zq_c (i := 53) rfl zq_nil))) k_wsX11_bill rfl (by decide +kernel) (by decide +kernel)) (ggX11_bill_X11_isBuyer)
set_option maxRecDepth 100000 in
theorem ggX11_bill_X11_isWithin : GoodIn wsX11_bill (wsX11_isWithin) := zk q_wsX11_bill q_wsX11_isWithin k_wsX11_bill k_wsX11_isWithin (by decide +kernel) (by decide +kernel)
set_option maxRecDepth 100000 in
theorem gX11_bill_X11_isWithin : GoodIn wsX11_bill (va_wsS RX11 55 yX11_isWithin wsX11_isWithin) := goodIn_app (zk q_wsX11_bill (zq_c (i := 147) rfl (zq_c (i := 148) rfl (zq_c (i := 53) rfl zq_nil))) k_wsX11_bill rfl (by decide +kernel) (by decide +kernel)) (ggX11_bill_X11_isWithin)
set_option maxRecDepth 100000 in
theorem ggX11_bill_X11_wasPrintedOn : GoodIn wsX11_bill (wsX11_wasPrintedOn) := zk q_wsX11_bill q_wsX11_wasPrintedOn k_wsX11_bill k_wsX11_wasPrintedOn (by decide +kernel) (by decide +kernel)
set_option maxRecDepth 100000 in
theorem gX11_bill_X11_wasPrintedOn : GoodIn wsX11_bill (wsV RX11 275 RX11 yX11_wasPrintedOn wsX11_wasPrintedOn) := goodIn_app (zk q_wsX11_bill (zq_c (i := 860) rfl (zq_c (i := 862) rfl (zq_c (i := 25) rfl (zq_c (i := 53) rfl zq_nil)))) k_wsX11_bill rfl (by decide +kernel) (by decide +kernel)) (ggX11_bill_X11_wasPrintedOn)
set_option maxRecDepth 100000 in
theorem ggX11_bill_X6_cost : GoodIn wsX11_bill (wsX6_cost) := zk q_wsX11_bill q_wsX6_cost k_wsX11_bill k_wsX6_cost (by decide +kernel) (by decide +kernel)
set_option maxRecDepth 100000 in
theorem gX11_bill_X6_cost : GoodIn wsX11_bill (wsV RX11 279 RX6 yX6_cost wsX6_cost) := goodIn_app (zk q_wsX11_bill (zq_c (i := 864) rfl (zq_c (i := 865) rfl (zq_c (i := 866) rfl (zq_c (i := 61) rfl zq_nil)))) k_wsX11_bill rfl (by decide +kernel) (by decide +kernel)) (ggX11_bill_X6_cost)
set_option maxRecDepth 100000 in
theorem ggX11_about_X11_freshPlates : GoodIn wsX11_about (wsX11_freshPlates) := zk q_wsX11_about q_wsX11_freshPlates k_wsX11_about k_wsX11_freshPlates (by decide +kernel) (by decide +kernel)
set_option maxRecDepth 100000 in
theorem gX11_about_X11_freshPlates : GoodIn wsX11_about (wsV RX11 282 RX11 yX11_freshPlates wsX11_freshPlates) := goodIn_app (zk q_wsX11_about (zq_c (i := 872) rfl (zq_c (i := 874) rfl (zq_c (i := 26) rfl (zq_c (i := 53) rfl zq_nil)))) k_wsX11_about rfl (by decide +kernel) (by decide +kernel)) (ggX11_about_X11_freshPlates)
set_option maxRecDepth 100000 in
theorem ggX11_isPage_X11_isWithin : GoodIn wsX11_isPage (wsX11_isWithin) := zk q_wsX11_isPage q_wsX11_isWithin k_wsX11_isPage k_wsX11_isWithin (by decide +kernel) (by decide +kernel)
set_option maxRecDepth 100000 in
theorem gX11_isPage_X11_isWithin : GoodIn wsX11_isPage (va_wsS RX11 55 yX11_isWithin wsX11_isWithin) := goodIn_app (zk q_wsX11_isPage (zq_c (i := 147) rfl (zq_c (i := 148) rfl (zq_c (i := 53) rfl zq_nil))) k_wsX11_isPage rfl (by decide +kernel) (by decide +kernel)) (ggX11_isPage_X11_isWithin)
set_option maxRecDepth 100000 in
theorem ggX11_isColumn_X11_isWithin : GoodIn wsX11_isColumn (wsX11_isWithin) := zk q_wsX11_isColumn q_wsX11_isWithin k_wsX11_isColumn k_wsX11_isWithin (by decide +kernel) (by decide +kernel)
set_option maxRecDepth 100000 in
theorem gX11_isColumn_X11_isWithin : GoodIn wsX11_isColumn (va_wsS RX11 55 yX11_isWithin wsX11_isWithin) := goodIn_app (zk q_wsX11_isColumn (zq_c (i := 147) rfl (zq_c (i := 148) rfl (zq_c (i := 53) rfl zq_nil))) k_wsX11_isColumn rfl (by decide +kernel) (by decide +kernel)) (ggX11_isColumn_X11_isWithin)
set_option maxRecDepth 100000 in
theorem ggX11_isBuyer_X11_isWithin : GoodIn wsX11_isBuyer (wsX11_isWithin) := zk q_wsX11_isBuyer q_wsX11_isWithin k_wsX11_isBuyer k_wsX11_isWithin (by decide +kernel) (by decide +kernel)
set_option maxRecDepth 100000 in
theorem gX11_isBuyer_X11_isWithin : GoodIn wsX11_isBuyer (va_wsS RX11 55 yX11_isWithin wsX11_isWithin) := goodIn_app (zk q_wsX11_isBuyer (zq_c (i := 147) rfl (zq_c (i := 148) rfl (zq_c (i := 53) rfl zq_nil))) k_wsX11_isBuyer rfl (by decide +kernel) (by decide +kernel)) (ggX11_isBuyer_X11_isWithin)
set_option maxRecDepth 100000 in
theorem ggX11_isSquare_X11_isWithin : GoodIn wsX11_isSquare (wsX11_isWithin) := zk q_wsX11_isSquare q_wsX11_isWithin k_wsX11_isSquare k_wsX11_isWithin (by decide +kernel) (by decide +kernel)
set_option maxRecDepth 100000 in
theorem gX11_isSquare_X11_isWithin : GoodIn wsX11_isSquare (va_wsS RX11 55 yX11_isWithin wsX11_isWithin) := goodIn_app (zk q_wsX11_isSquare (zq_c (i := 147) rfl (zq_c (i := 148) rfl (zq_c (i := 53) rfl zq_nil))) k_wsX11_isSquare rfl (by decide +kernel) (by decide +kernel)) (ggX11_isSquare_X11_isWithin)
set_option maxRecDepth 100000 in
theorem ggX11_itemOf_X11_isWithin : GoodIn wsX11_itemOf (wsX11_isWithin) := zk q_wsX11_itemOf q_wsX11_isWithin k_wsX11_itemOf k_wsX11_isWithin (by decide +kernel) (by decide +kernel)
set_option maxRecDepth 100000 in
theorem gX11_itemOf_X11_isWithin : GoodIn wsX11_itemOf (va_wsS RX11 55 yX11_isWithin wsX11_isWithin) := goodIn_app (zk q_wsX11_itemOf (zq_c (i := 147) rfl (zq_c (i := 148) rfl (zq_c (i := 53) rfl zq_nil))) k_wsX11_itemOf rfl (by decide +kernel) (by decide +kernel)) (ggX11_itemOf_X11_isWithin)
set_option maxRecDepth 100000 in
theorem ggX11_keep_X11_canAct : GoodIn wsX11_keep (wsX11_canAct) := zk q_wsX11_keep q_wsX11_canAct k_wsX11_keep k_wsX11_canAct (by decide +kernel) (by decide +kernel)
set_option maxRecDepth 100000 in
theorem gX11_keep_X11_canAct : GoodIn wsX11_keep (wsV RX11 138 RX11 yX11_canAct wsX11_canAct) := goodIn_app (zk q_wsX11_keep (zq_c (i := 469) rfl (zq_c (i := 471) rfl (zq_c (i := 8) rfl (zq_c (i := 53) rfl zq_nil)))) k_wsX11_keep rfl (by decide +kernel) (by decide +kernel)) (ggX11_keep_X11_canAct)
set_option maxRecDepth 100000 in
theorem ggX11_stand_X8_sign : GoodIn wsX11_stand (wsX8_sign) := zk q_wsX11_stand q_wsX8_sign k_wsX11_stand k_wsX8_sign (by decide +kernel) (by decide +kernel)
set_option maxRecDepth 100000 in
theorem gX11_stand_X8_sign : GoodIn wsX11_stand (wsV RX11 297 RX8 yX8_sign wsX8_sign) := goodIn_app (zk q_wsX11_stand (zq_c (i := 579) rfl (zq_c (i := 580) rfl (zq_c (i := 581) rfl (zq_c (i := 62) rfl zq_nil)))) k_wsX11_stand rfl (by decide +kernel) (by decide +kernel)) (ggX11_stand_X8_sign)
set_option maxRecDepth 100000 in
theorem ggX11_stand_X9_mark : GoodIn wsX11_stand (wsX9_mark) := zk q_wsX11_stand q_wsX9_mark k_wsX11_stand k_wsX9_mark (by decide +kernel) (by decide +kernel)
set_option maxRecDepth 100000 in
theorem gX11_stand_X9_mark : GoodIn wsX11_stand (wsV RX11 300 RX9 yX9_mark wsX9_mark) := goodIn_app (zk q_wsX11_stand (zq_c (i := 583) rfl (zq_c (i := 584) rfl (zq_c (i := 585) rfl (zq_c (i := 54) rfl zq_nil)))) k_wsX11_stand rfl (by decide +kernel) (by decide +kernel)) (ggX11_stand_X9_mark)
set_option maxRecDepth 100000 in
theorem gX11_stand_X4_gain_u307X2 : GoodIn wsX11_stand (va_wsU RX11 307 RX2 "PageOne$Item" ⟨"PageOne$Item", "gain", "(LPageOne$Piece;)V"⟩ yX4_gain wsX4_gain) := goodIn_app (zk q_wsX11_stand (zq_c (i := 587) rfl (zq_c (i := 589) rfl (zq_c (i := 590) rfl (zq_c (i := 588) rfl (zq_c (i := 57) rfl zq_nil))))) k_wsX11_stand rfl (by decide +kernel) (by decide +kernel)) (zk q_wsX11_stand q_wsX4_gain k_wsX11_stand k_wsX4_gain (by decide +kernel) (by decide +kernel))
set_option maxRecDepth 100000 in
theorem gX11_stand_X4_gain_u307X3 : GoodIn wsX11_stand (va_wsU RX11 307 RX3 "PageOne$Item" ⟨"PageOne$Item", "gain", "(LPageOne$Piece;)V"⟩ yX4_gain wsX4_gain) := goodIn_app (zk q_wsX11_stand (zq_c (i := 587) rfl (zq_c (i := 589) rfl (zq_c (i := 591) rfl (zq_c (i := 588) rfl (zq_c (i := 57) rfl zq_nil))))) k_wsX11_stand rfl (by decide +kernel) (by decide +kernel)) (zk q_wsX11_stand q_wsX4_gain k_wsX11_stand k_wsX4_gain (by decide +kernel) (by decide +kernel))
set_option maxRecDepth 100000 in
theorem gX11_stand_X4_gain_u307X5 : GoodIn wsX11_stand (va_wsU RX11 307 RX5 "PageOne$Item" ⟨"PageOne$Item", "gain", "(LPageOne$Piece;)V"⟩ yX4_gain wsX4_gain) := goodIn_app (zk q_wsX11_stand (zq_c (i := 587) rfl (zq_c (i := 589) rfl (zq_c (i := 592) rfl (zq_c (i := 588) rfl (zq_c (i := 57) rfl zq_nil))))) k_wsX11_stand rfl (by decide +kernel) (by decide +kernel)) (zk q_wsX11_stand q_wsX4_gain k_wsX11_stand k_wsX4_gain (by decide +kernel) (by decide +kernel))
set_option maxRecDepth 100000 in
theorem gX11_stand_X4_gain_u307X6 : GoodIn wsX11_stand (va_wsU RX11 307 RX6 "PageOne$Item" ⟨"PageOne$Item", "gain", "(LPageOne$Piece;)V"⟩ yX4_gain wsX4_gain) := goodIn_app (zk q_wsX11_stand (zq_c (i := 587) rfl (zq_c (i := 589) rfl (zq_c (i := 593) rfl (zq_c (i := 588) rfl (zq_c (i := 57) rfl zq_nil))))) k_wsX11_stand rfl (by decide +kernel) (by decide +kernel)) (zk q_wsX11_stand q_wsX4_gain k_wsX11_stand k_wsX4_gain (by decide +kernel) (by decide +kernel))
set_option maxRecDepth 100000 in
theorem gX11_stand_X4_gain_u307X7 : GoodIn wsX11_stand (va_wsU RX11 307 RX7 "PageOne$Item" ⟨"PageOne$Item", "gain", "(LPageOne$Piece;)V"⟩ yX4_gain wsX4_gain) := goodIn_app (zk q_wsX11_stand (zq_c (i := 587) rfl (zq_c (i := 589) rfl (zq_c (i := 594) rfl (zq_c (i := 588) rfl (zq_c (i := 57) rfl zq_nil))))) k_wsX11_stand rfl (by decide +kernel) (by decide +kernel)) (zk q_wsX11_stand q_wsX4_gain k_wsX11_stand k_wsX4_gain (by decide +kernel) (by decide +kernel))
set_option maxRecDepth 100000 in
theorem gX11_stand_X4_gain_u307X10 : GoodIn wsX11_stand (va_wsU RX11 307 RX10 "PageOne$Item" ⟨"PageOne$Item", "gain", "(LPageOne$Piece;)V"⟩ yX4_gain wsX4_gain) := goodIn_app (zk q_wsX11_stand (zq_c (i := 587) rfl (zq_c (i := 589) rfl (zq_c (i := 595) rfl (zq_c (i := 588) rfl (zq_c (i := 57) rfl zq_nil))))) k_wsX11_stand rfl (by decide +kernel) (by decide +kernel)) (zk q_wsX11_stand q_wsX4_gain k_wsX11_stand k_wsX4_gain (by decide +kernel) (by decide +kernel))
set_option maxRecDepth 100000 in
theorem ggX11_takeOff_X9_mark : GoodIn wsX11_takeOff (wsX9_mark) := zk q_wsX11_takeOff q_wsX9_mark k_wsX11_takeOff k_wsX9_mark (by decide +kernel) (by decide +kernel)
set_option maxRecDepth 100000 in
theorem gX11_takeOff_X9_mark : GoodIn wsX11_takeOff (wsV RX11 300 RX9 yX9_mark wsX9_mark) := goodIn_app (zk q_wsX11_takeOff (zq_c (i := 583) rfl (zq_c (i := 584) rfl (zq_c (i := 585) rfl (zq_c (i := 54) rfl zq_nil)))) k_wsX11_takeOff rfl (by decide +kernel) (by decide +kernel)) (ggX11_takeOff_X9_mark)
set_option maxRecDepth 100000 in
theorem gX11_takeOff_X4_loseLast_u310X2 : GoodIn wsX11_takeOff (va_wsU RX11 310 RX2 "PageOne$Item" ⟨"PageOne$Item", "loseLast", "()V"⟩ yX4_loseLast wsX4_loseLast) := goodIn_app (zk q_wsX11_takeOff (zq_c (i := 633) rfl (zq_c (i := 635) rfl (zq_c (i := 636) rfl (zq_c (i := 634) rfl (zq_c (i := 57) rfl zq_nil))))) k_wsX11_takeOff rfl (by decide +kernel) (by decide +kernel)) (zk q_wsX11_takeOff q_wsX4_loseLast k_wsX11_takeOff k_wsX4_loseLast (by decide +kernel) (by decide +kernel))
set_option maxRecDepth 100000 in
theorem gX11_takeOff_X4_loseLast_u310X3 : GoodIn wsX11_takeOff (va_wsU RX11 310 RX3 "PageOne$Item" ⟨"PageOne$Item", "loseLast", "()V"⟩ yX4_loseLast wsX4_loseLast) := goodIn_app (zk q_wsX11_takeOff (zq_c (i := 633) rfl (zq_c (i := 635) rfl (zq_c (i := 637) rfl (zq_c (i := 634) rfl (zq_c (i := 57) rfl zq_nil))))) k_wsX11_takeOff rfl (by decide +kernel) (by decide +kernel)) (zk q_wsX11_takeOff q_wsX4_loseLast k_wsX11_takeOff k_wsX4_loseLast (by decide +kernel) (by decide +kernel))
set_option maxRecDepth 100000 in
theorem gX11_takeOff_X4_loseLast_u310X5 : GoodIn wsX11_takeOff (va_wsU RX11 310 RX5 "PageOne$Item" ⟨"PageOne$Item", "loseLast", "()V"⟩ yX4_loseLast wsX4_loseLast) := goodIn_app (zk q_wsX11_takeOff (zq_c (i := 633) rfl (zq_c (i := 635) rfl (zq_c (i := 638) rfl (zq_c (i := 634) rfl (zq_c (i := 57) rfl zq_nil))))) k_wsX11_takeOff rfl (by decide +kernel) (by decide +kernel)) (zk q_wsX11_takeOff q_wsX4_loseLast k_wsX11_takeOff k_wsX4_loseLast (by decide +kernel) (by decide +kernel))
set_option maxRecDepth 100000 in
theorem gX11_takeOff_X4_loseLast_u310X6 : GoodIn wsX11_takeOff (va_wsU RX11 310 RX6 "PageOne$Item" ⟨"PageOne$Item", "loseLast", "()V"⟩ yX4_loseLast wsX4_loseLast) := goodIn_app (zk q_wsX11_takeOff (zq_c (i := 633) rfl (zq_c (i := 635) rfl (zq_c (i := 639) rfl (zq_c (i := 634) rfl (zq_c (i := 57) rfl zq_nil))))) k_wsX11_takeOff rfl (by decide +kernel) (by decide +kernel)) (zk q_wsX11_takeOff q_wsX4_loseLast k_wsX11_takeOff k_wsX4_loseLast (by decide +kernel) (by decide +kernel))
set_option maxRecDepth 100000 in
theorem gX11_takeOff_X4_loseLast_u310X7 : GoodIn wsX11_takeOff (va_wsU RX11 310 RX7 "PageOne$Item" ⟨"PageOne$Item", "loseLast", "()V"⟩ yX4_loseLast wsX4_loseLast) := goodIn_app (zk q_wsX11_takeOff (zq_c (i := 633) rfl (zq_c (i := 635) rfl (zq_c (i := 640) rfl (zq_c (i := 634) rfl (zq_c (i := 57) rfl zq_nil))))) k_wsX11_takeOff rfl (by decide +kernel) (by decide +kernel)) (zk q_wsX11_takeOff q_wsX4_loseLast k_wsX11_takeOff k_wsX4_loseLast (by decide +kernel) (by decide +kernel))
set_option maxRecDepth 100000 in
theorem gX11_takeOff_X4_loseLast_u310X10 : GoodIn wsX11_takeOff (va_wsU RX11 310 RX10 "PageOne$Item" ⟨"PageOne$Item", "loseLast", "()V"⟩ yX4_loseLast wsX4_loseLast) := goodIn_app (zk q_wsX11_takeOff (zq_c (i := 633) rfl (zq_c (i := 635) rfl (zq_c (i := 641) rfl (zq_c (i := 634) rfl (zq_c (i := 57) rfl zq_nil))))) k_wsX11_takeOff rfl (by decide +kernel) (by decide +kernel)) (zk q_wsX11_takeOff q_wsX4_loseLast k_wsX11_takeOff k_wsX4_loseLast (by decide +kernel) (by decide +kernel))
set_option maxRecDepth 100000 in
theorem ggX11_takeBack_X11_stand : GoodIn wsX11_takeBack (wsX11_stand) := zk q_wsX11_takeBack q_wsX11_stand k_wsX11_takeBack k_wsX11_stand (by decide +kernel) (by decide +kernel)
set_option maxRecDepth 100000 in
theorem gX11_takeBack_X11_stand : GoodIn wsX11_takeBack (wsV RX11 159 RX11 yX11_stand wsX11_stand) := goodIn_app (zk q_wsX11_takeBack (zq_c (i := 575) rfl (zq_c (i := 577) rfl (zq_c (i := 9) rfl (zq_c (i := 53) rfl zq_nil)))) k_wsX11_takeBack rfl (by decide +kernel) (by decide +kernel)) (ggX11_takeBack_X11_stand)
set_option maxRecDepth 100000 in
theorem ggX11_takeBack_X11_takeOff : GoodIn wsX11_takeBack (wsX11_takeOff) := zk q_wsX11_takeBack q_wsX11_takeOff k_wsX11_takeBack k_wsX11_takeOff (by decide +kernel) (by decide +kernel)
set_option maxRecDepth 100000 in
theorem gX11_takeBack_X11_takeOff : GoodIn wsX11_takeBack (wsV RX11 177 RX11 yX11_takeOff wsX11_takeOff) := goodIn_app (zk q_wsX11_takeBack (zq_c (i := 629) rfl (zq_c (i := 631) rfl (zq_c (i := 11) rfl (zq_c (i := 53) rfl zq_nil)))) k_wsX11_takeBack rfl (by decide +kernel) (by decide +kernel)) (ggX11_takeBack_X11_takeOff)
set_option maxRecDepth 100000 in
theorem ggX11_fillColumn_X9_at : GoodIn wsX11_fillColumn (wsX9_at) := zk q_wsX11_fillColumn q_wsX9_at k_wsX11_fillColumn k_wsX9_at (by decide +kernel) (by decide +kernel)
set_option maxRecDepth 100000 in
theorem gX11_fillColumn_X9_at : GoodIn wsX11_fillColumn (wsV RX11 222 RX9 yX9_at wsX9_at) := goodIn_app (zk q_wsX11_fillColumn (zq_c (i := 655) rfl (zq_c (i := 422) rfl (zq_c (i := 423) rfl (zq_c (i := 54) rfl zq_nil)))) k_wsX11_fillColumn rfl (by decide +kernel) (by decide +kernel)) (ggX11_fillColumn_X9_at)
set_option maxRecDepth 100000 in
theorem ggX11_fillColumn_X11_fillerFor : GoodIn wsX11_fillColumn (wsX11_fillerFor) := zk q_wsX11_fillColumn q_wsX11_fillerFor k_wsX11_fillColumn k_wsX11_fillerFor (by decide +kernel) (by decide +kernel)
set_option maxRecDepth 100000 in
theorem gX11_fillColumn_X11_fillerFor : GoodIn wsX11_fillColumn (wsV RX11 325 RX11 yX11_fillerFor wsX11_fillerFor) := goodIn_app (zk q_wsX11_fillColumn (zq_c (i := 656) rfl (zq_c (i := 658) rfl (zq_c (i := 13) rfl (zq_c (i := 53) rfl zq_nil)))) k_wsX11_fillColumn rfl (by decide +kernel) (by decide +kernel)) (ggX11_fillColumn_X11_fillerFor)
set_option maxRecDepth 100000 in
theorem gX11_fillColumn_X8_init : GoodIn wsX11_fillColumn (wsX8_init) := zk q_wsX11_fillColumn q_wsX8_init k_wsX11_fillColumn k_wsX8_init (by decide +kernel) (by decide +kernel)
set_option maxRecDepth 100000 in
theorem ggX11_fillColumn_X11_stand : GoodIn wsX11_fillColumn (wsX11_stand) := zk q_wsX11_fillColumn q_wsX11_stand k_wsX11_fillColumn k_wsX11_stand (by decide +kernel) (by decide +kernel)
set_option maxRecDepth 100000 in
theorem gX11_fillColumn_X11_stand : GoodIn wsX11_fillColumn (wsV RX11 159 RX11 yX11_stand wsX11_stand) := goodIn_app (zk q_wsX11_fillColumn (zq_c (i := 575) rfl (zq_c (i := 577) rfl (zq_c (i := 9) rfl (zq_c (i := 53) rfl zq_nil)))) k_wsX11_fillColumn rfl (by decide +kernel) (by decide +kernel)) (ggX11_fillColumn_X11_stand)
set_option maxRecDepth 100000 in
theorem gX11_fillColumn_X0_init : GoodIn wsX11_fillColumn (wsX0_init) := zk q_wsX11_fillColumn q_wsX0_init k_wsX11_fillColumn k_wsX0_init (by decide +kernel) (by decide +kernel)
set_option maxRecDepth 100000 in
theorem gX11_fillerFor_X4_hasRoom_u329X2 : GoodIn wsX11_fillerFor (va_wsU RX11 329 RX2 "PageOne$Item" ⟨"PageOne$Filler", "hasRoom", "()Z"⟩ yX4_hasRoom wsX4_hasRoom) := goodIn_app (zk q_wsX11_fillerFor (zq_c (i := 660) rfl (zq_c (i := 661) rfl (zq_c (i := 663) rfl (zq_c (i := 514) rfl (zq_c (i := 57) rfl zq_nil))))) k_wsX11_fillerFor rfl (by decide +kernel) (by decide +kernel)) (zk q_wsX11_fillerFor q_wsX4_hasRoom k_wsX11_fillerFor k_wsX4_hasRoom (by decide +kernel) (by decide +kernel))
set_option maxRecDepth 100000 in
theorem ggX11_fillerFor_X11_isWithin : GoodIn wsX11_fillerFor (wsX11_isWithin) := zk q_wsX11_fillerFor q_wsX11_isWithin k_wsX11_fillerFor k_wsX11_isWithin (by decide +kernel) (by decide +kernel)
set_option maxRecDepth 100000 in
theorem gX11_fillerFor_X11_isWithin : GoodIn wsX11_fillerFor (va_wsS RX11 55 yX11_isWithin wsX11_isWithin) := goodIn_app (zk q_wsX11_fillerFor (zq_c (i := 147) rfl (zq_c (i := 148) rfl (zq_c (i := 53) rfl zq_nil))) k_wsX11_fillerFor rfl (by decide +kernel) (by decide +kernel)) (ggX11_fillerFor_X11_isWithin)
set_option maxRecDepth 100000 in
theorem gX11_clearDesk_X4_loseAll_u336X2 : GoodIn wsX11_clearDesk (va_wsU RX11 336 RX2 "PageOne$Item" ⟨"PageOne$Item", "loseAll", "()V"⟩ yX4_loseAll wsX4_loseAll) := goodIn_app (zk q_wsX11_clearDesk (zq_c (i := 803) rfl (zq_c (i := 805) rfl (zq_c (i := 806) rfl (zq_c (i := 804) rfl (zq_c (i := 57) rfl zq_nil))))) k_wsX11_clearDesk rfl (by decide +kernel) (by decide +kernel)) (zk q_wsX11_clearDesk q_wsX4_loseAll k_wsX11_clearDesk k_wsX4_loseAll (by decide +kernel) (by decide +kernel))
set_option maxRecDepth 100000 in
theorem gX11_clearDesk_X4_loseAll_u336X3 : GoodIn wsX11_clearDesk (va_wsU RX11 336 RX3 "PageOne$Item" ⟨"PageOne$Item", "loseAll", "()V"⟩ yX4_loseAll wsX4_loseAll) := goodIn_app (zk q_wsX11_clearDesk (zq_c (i := 803) rfl (zq_c (i := 805) rfl (zq_c (i := 807) rfl (zq_c (i := 804) rfl (zq_c (i := 57) rfl zq_nil))))) k_wsX11_clearDesk rfl (by decide +kernel) (by decide +kernel)) (zk q_wsX11_clearDesk q_wsX4_loseAll k_wsX11_clearDesk k_wsX4_loseAll (by decide +kernel) (by decide +kernel))
set_option maxRecDepth 100000 in
theorem gX11_clearDesk_X4_loseAll_u336X5 : GoodIn wsX11_clearDesk (va_wsU RX11 336 RX5 "PageOne$Item" ⟨"PageOne$Item", "loseAll", "()V"⟩ yX4_loseAll wsX4_loseAll) := goodIn_app (zk q_wsX11_clearDesk (zq_c (i := 803) rfl (zq_c (i := 805) rfl (zq_c (i := 808) rfl (zq_c (i := 804) rfl (zq_c (i := 57) rfl zq_nil))))) k_wsX11_clearDesk rfl (by decide +kernel) (by decide +kernel)) (zk q_wsX11_clearDesk q_wsX4_loseAll k_wsX11_clearDesk k_wsX4_loseAll (by decide +kernel) (by decide +kernel))
set_option maxRecDepth 100000 in
theorem gX11_clearDesk_X4_loseAll_u336X6 : GoodIn wsX11_clearDesk (va_wsU RX11 336 RX6 "PageOne$Item" ⟨"PageOne$Item", "loseAll", "()V"⟩ yX4_loseAll wsX4_loseAll) := goodIn_app (zk q_wsX11_clearDesk (zq_c (i := 803) rfl (zq_c (i := 805) rfl (zq_c (i := 809) rfl (zq_c (i := 804) rfl (zq_c (i := 57) rfl zq_nil))))) k_wsX11_clearDesk rfl (by decide +kernel) (by decide +kernel)) (zk q_wsX11_clearDesk q_wsX4_loseAll k_wsX11_clearDesk k_wsX4_loseAll (by decide +kernel) (by decide +kernel))
set_option maxRecDepth 100000 in
theorem gX11_clearDesk_X4_loseAll_u336X7 : GoodIn wsX11_clearDesk (va_wsU RX11 336 RX7 "PageOne$Item" ⟨"PageOne$Item", "loseAll", "()V"⟩ yX4_loseAll wsX4_loseAll) := goodIn_app (zk q_wsX11_clearDesk (zq_c (i := 803) rfl (zq_c (i := 805) rfl (zq_c (i := 810) rfl (zq_c (i := 804) rfl (zq_c (i := 57) rfl zq_nil))))) k_wsX11_clearDesk rfl (by decide +kernel) (by decide +kernel)) (zk q_wsX11_clearDesk q_wsX4_loseAll k_wsX11_clearDesk k_wsX4_loseAll (by decide +kernel) (by decide +kernel))
set_option maxRecDepth 100000 in
theorem gX11_clearDesk_X4_loseAll_u336X10 : GoodIn wsX11_clearDesk (va_wsU RX11 336 RX10 "PageOne$Item" ⟨"PageOne$Item", "loseAll", "()V"⟩ yX4_loseAll wsX4_loseAll) := goodIn_app (zk q_wsX11_clearDesk (zq_c (i := 803) rfl (zq_c (i := 805) rfl (zq_c (i := 811) rfl (zq_c (i := 804) rfl (zq_c (i := 57) rfl zq_nil))))) k_wsX11_clearDesk rfl (by decide +kernel) (by decide +kernel)) (zk q_wsX11_clearDesk q_wsX4_loseAll k_wsX11_clearDesk k_wsX4_loseAll (by decide +kernel) (by decide +kernel))
set_option maxRecDepth 100000 in
theorem ggX11_clearDesk_X9_clear : GoodIn wsX11_clearDesk (wsX9_clear) := zk q_wsX11_clearDesk q_wsX9_clear k_wsX11_clearDesk k_wsX9_clear (by decide +kernel) (by decide +kernel)
set_option maxRecDepth 100000 in
theorem gX11_clearDesk_X9_clear : GoodIn wsX11_clearDesk (wsV RX11 339 RX9 yX9_clear wsX9_clear) := goodIn_app (zk q_wsX11_clearDesk (zq_c (i := 813) rfl (zq_c (i := 814) rfl (zq_c (i := 815) rfl (zq_c (i := 54) rfl zq_nil)))) k_wsX11_clearDesk rfl (by decide +kernel) (by decide +kernel)) (ggX11_clearDesk_X9_clear)
set_option maxRecDepth 100000 in
theorem ggX11_breachOn_X11_leastPair : GoodIn wsX11_breachOn (wsX11_leastPair) := zk q_wsX11_breachOn q_wsX11_leastPair k_wsX11_breachOn k_wsX11_leastPair (by decide +kernel) (by decide +kernel)
set_option maxRecDepth 100000 in
theorem gX11_breachOn_X11_leastPair : GoodIn wsX11_breachOn (wsV RX11 342 RX11 yX11_leastPair wsX11_leastPair) := goodIn_app (zk q_wsX11_breachOn (zq_c (i := 692) rfl (zq_c (i := 694) rfl (zq_c (i := 16) rfl (zq_c (i := 53) rfl zq_nil)))) k_wsX11_breachOn rfl (by decide +kernel) (by decide +kernel)) (ggX11_breachOn_X11_leastPair)
set_option maxRecDepth 100000 in
theorem gX11_breachOn_X4_isOn_u346X2 : GoodIn wsX11_breachOn (va_wsU RX11 346 RX2 "PageOne$Item" ⟨"PageOne$Item", "isOn", "(I)Z"⟩ yX4_isOn wsX4_isOn) := goodIn_app (zk q_wsX11_breachOn (zq_c (i := 696) rfl (zq_c (i := 698) rfl (zq_c (i := 699) rfl (zq_c (i := 697) rfl (zq_c (i := 57) rfl zq_nil))))) k_wsX11_breachOn rfl (by decide +kernel) (by decide +kernel)) (zk q_wsX11_breachOn q_wsX4_isOn k_wsX11_breachOn k_wsX4_isOn (by decide +kernel) (by decide +kernel))
set_option maxRecDepth 100000 in
theorem gX11_breachOn_X4_isOn_u346X3 : GoodIn wsX11_breachOn (va_wsU RX11 346 RX3 "PageOne$Item" ⟨"PageOne$Item", "isOn", "(I)Z"⟩ yX4_isOn wsX4_isOn) := goodIn_app (zk q_wsX11_breachOn (zq_c (i := 696) rfl (zq_c (i := 698) rfl (zq_c (i := 700) rfl (zq_c (i := 697) rfl (zq_c (i := 57) rfl zq_nil))))) k_wsX11_breachOn rfl (by decide +kernel) (by decide +kernel)) (zk q_wsX11_breachOn q_wsX4_isOn k_wsX11_breachOn k_wsX4_isOn (by decide +kernel) (by decide +kernel))
set_option maxRecDepth 100000 in
theorem gX11_breachOn_X4_isOn_u346X5 : GoodIn wsX11_breachOn (va_wsU RX11 346 RX5 "PageOne$Item" ⟨"PageOne$Item", "isOn", "(I)Z"⟩ yX4_isOn wsX4_isOn) := goodIn_app (zk q_wsX11_breachOn (zq_c (i := 696) rfl (zq_c (i := 698) rfl (zq_c (i := 701) rfl (zq_c (i := 697) rfl (zq_c (i := 57) rfl zq_nil))))) k_wsX11_breachOn rfl (by decide +kernel) (by decide +kernel)) (zk q_wsX11_breachOn q_wsX4_isOn k_wsX11_breachOn k_wsX4_isOn (by decide +kernel) (by decide +kernel))
set_option maxRecDepth 100000 in
theorem gX11_breachOn_X4_isOn_u346X6 : GoodIn wsX11_breachOn (va_wsU RX11 346 RX6 "PageOne$Item" ⟨"PageOne$Item", "isOn", "(I)Z"⟩ yX4_isOn wsX4_isOn) := goodIn_app (zk q_wsX11_breachOn (zq_c (i := 696) rfl (zq_c (i := 698) rfl (zq_c (i := 702) rfl (zq_c (i := 697) rfl (zq_c (i := 57) rfl zq_nil))))) k_wsX11_breachOn rfl (by decide +kernel) (by decide +kernel)) (zk q_wsX11_breachOn q_wsX4_isOn k_wsX11_breachOn k_wsX4_isOn (by decide +kernel) (by decide +kernel))
set_option maxRecDepth 100000 in
theorem gX11_breachOn_X4_isOn_u346X7 : GoodIn wsX11_breachOn (va_wsU RX11 346 RX7 "PageOne$Item" ⟨"PageOne$Item", "isOn", "(I)Z"⟩ yX4_isOn wsX4_isOn) := goodIn_app (zk q_wsX11_breachOn (zq_c (i := 696) rfl (zq_c (i := 698) rfl (zq_c (i := 703) rfl (zq_c (i := 697) rfl (zq_c (i := 57) rfl zq_nil))))) k_wsX11_breachOn rfl (by decide +kernel) (by decide +kernel)) (zk q_wsX11_breachOn q_wsX4_isOn k_wsX11_breachOn k_wsX4_isOn (by decide +kernel) (by decide +kernel))
set_option maxRecDepth 100000 in
theorem gX11_breachOn_X4_isOn_u346X10 : GoodIn wsX11_breachOn (va_wsU RX11 346 RX10 "PageOne$Item" ⟨"PageOne$Item", "isOn", "(I)Z"⟩ yX4_isOn wsX4_isOn) := goodIn_app (zk q_wsX11_breachOn (zq_c (i := 696) rfl (zq_c (i := 698) rfl (zq_c (i := 704) rfl (zq_c (i := 697) rfl (zq_c (i := 57) rfl zq_nil))))) k_wsX11_breachOn rfl (by decide +kernel) (by decide +kernel)) (zk q_wsX11_breachOn q_wsX4_isOn k_wsX11_breachOn k_wsX4_isOn (by decide +kernel) (by decide +kernel))
set_option maxRecDepth 100000 in
theorem ggX11_breachOn_X11_failsAlone : GoodIn wsX11_breachOn (wsX11_failsAlone) := zk q_wsX11_breachOn q_wsX11_failsAlone k_wsX11_breachOn k_wsX11_failsAlone (by decide +kernel) (by decide +kernel)
set_option maxRecDepth 100000 in
theorem gX11_breachOn_X11_failsAlone : GoodIn wsX11_breachOn (wsV RX11 349 RX11 yX11_failsAlone wsX11_failsAlone) := goodIn_app (zk q_wsX11_breachOn (zq_c (i := 760) rfl (zq_c (i := 762) rfl (zq_c (i := 18) rfl (zq_c (i := 53) rfl zq_nil)))) k_wsX11_breachOn rfl (by decide +kernel) (by decide +kernel)) (ggX11_breachOn_X11_failsAlone)
set_option maxRecDepth 100000 in
theorem gX11_breachOn_X1_init : GoodIn wsX11_breachOn (wsX1_init) := zk q_wsX11_breachOn q_wsX1_init k_wsX11_breachOn k_wsX1_init (by decide +kernel) (by decide +kernel)
set_option maxRecDepth 100000 in
theorem gX11_leastPair_X4_isOn_u346X2 : GoodIn wsX11_leastPair (va_wsU RX11 346 RX2 "PageOne$Item" ⟨"PageOne$Item", "isOn", "(I)Z"⟩ yX4_isOn wsX4_isOn) := goodIn_app (zk q_wsX11_leastPair (zq_c (i := 696) rfl (zq_c (i := 698) rfl (zq_c (i := 699) rfl (zq_c (i := 697) rfl (zq_c (i := 57) rfl zq_nil))))) k_wsX11_leastPair rfl (by decide +kernel) (by decide +kernel)) (zk q_wsX11_leastPair q_wsX4_isOn k_wsX11_leastPair k_wsX4_isOn (by decide +kernel) (by decide +kernel))
set_option maxRecDepth 100000 in
theorem gX11_leastPair_X4_isOn_u346X3 : GoodIn wsX11_leastPair (va_wsU RX11 346 RX3 "PageOne$Item" ⟨"PageOne$Item", "isOn", "(I)Z"⟩ yX4_isOn wsX4_isOn) := goodIn_app (zk q_wsX11_leastPair (zq_c (i := 696) rfl (zq_c (i := 698) rfl (zq_c (i := 700) rfl (zq_c (i := 697) rfl (zq_c (i := 57) rfl zq_nil))))) k_wsX11_leastPair rfl (by decide +kernel) (by decide +kernel)) (zk q_wsX11_leastPair q_wsX4_isOn k_wsX11_leastPair k_wsX4_isOn (by decide +kernel) (by decide +kernel))
set_option maxRecDepth 100000 in
theorem gX11_leastPair_X4_isOn_u346X5 : GoodIn wsX11_leastPair (va_wsU RX11 346 RX5 "PageOne$Item" ⟨"PageOne$Item", "isOn", "(I)Z"⟩ yX4_isOn wsX4_isOn) := goodIn_app (zk q_wsX11_leastPair (zq_c (i := 696) rfl (zq_c (i := 698) rfl (zq_c (i := 701) rfl (zq_c (i := 697) rfl (zq_c (i := 57) rfl zq_nil))))) k_wsX11_leastPair rfl (by decide +kernel) (by decide +kernel)) (zk q_wsX11_leastPair q_wsX4_isOn k_wsX11_leastPair k_wsX4_isOn (by decide +kernel) (by decide +kernel))
set_option maxRecDepth 100000 in
theorem gX11_leastPair_X4_isOn_u346X6 : GoodIn wsX11_leastPair (va_wsU RX11 346 RX6 "PageOne$Item" ⟨"PageOne$Item", "isOn", "(I)Z"⟩ yX4_isOn wsX4_isOn) := goodIn_app (zk q_wsX11_leastPair (zq_c (i := 696) rfl (zq_c (i := 698) rfl (zq_c (i := 702) rfl (zq_c (i := 697) rfl (zq_c (i := 57) rfl zq_nil))))) k_wsX11_leastPair rfl (by decide +kernel) (by decide +kernel)) (zk q_wsX11_leastPair q_wsX4_isOn k_wsX11_leastPair k_wsX4_isOn (by decide +kernel) (by decide +kernel))
set_option maxRecDepth 100000 in
theorem gX11_leastPair_X4_isOn_u346X7 : GoodIn wsX11_leastPair (va_wsU RX11 346 RX7 "PageOne$Item" ⟨"PageOne$Item", "isOn", "(I)Z"⟩ yX4_isOn wsX4_isOn) := goodIn_app (zk q_wsX11_leastPair (zq_c (i := 696) rfl (zq_c (i := 698) rfl (zq_c (i := 703) rfl (zq_c (i := 697) rfl (zq_c (i := 57) rfl zq_nil))))) k_wsX11_leastPair rfl (by decide +kernel) (by decide +kernel)) (zk q_wsX11_leastPair q_wsX4_isOn k_wsX11_leastPair k_wsX4_isOn (by decide +kernel) (by decide +kernel))
set_option maxRecDepth 100000 in
theorem gX11_leastPair_X4_isOn_u346X10 : GoodIn wsX11_leastPair (va_wsU RX11 346 RX10 "PageOne$Item" ⟨"PageOne$Item", "isOn", "(I)Z"⟩ yX4_isOn wsX4_isOn) := goodIn_app (zk q_wsX11_leastPair (zq_c (i := 696) rfl (zq_c (i := 698) rfl (zq_c (i := 704) rfl (zq_c (i := 697) rfl (zq_c (i := 57) rfl zq_nil))))) k_wsX11_leastPair rfl (by decide +kernel) (by decide +kernel)) (zk q_wsX11_leastPair q_wsX4_isOn k_wsX11_leastPair k_wsX4_isOn (by decide +kernel) (by decide +kernel))
set_option maxRecDepth 100000 in
theorem ggX11_leastPair_X11_mayNotMeet : GoodIn wsX11_leastPair (wsX11_mayNotMeet) := zk q_wsX11_leastPair q_wsX11_mayNotMeet k_wsX11_leastPair k_wsX11_mayNotMeet (by decide +kernel) (by decide +kernel)
set_option maxRecDepth 100000 in
theorem gX11_leastPair_X11_mayNotMeet : GoodIn wsX11_leastPair (wsV RX11 354 RX11 yX11_mayNotMeet wsX11_mayNotMeet) := goodIn_app (zk q_wsX11_leastPair (zq_c (i := 706) rfl (zq_c (i := 708) rfl (zq_c (i := 17) rfl (zq_c (i := 53) rfl zq_nil)))) k_wsX11_leastPair rfl (by decide +kernel) (by decide +kernel)) (ggX11_leastPair_X11_mayNotMeet)
set_option maxRecDepth 100000 in
theorem gX11_leastPair_X4_meets_u358X2 : GoodIn wsX11_leastPair (va_wsU RX11 358 RX2 "PageOne$Item" ⟨"PageOne$Item", "meets", "(LPageOne$Item;IZ)Z"⟩ yX4_meets wsX4_meets) := goodIn_app (zk q_wsX11_leastPair (zq_c (i := 713) rfl (zq_c (i := 715) rfl (zq_c (i := 716) rfl (zq_c (i := 714) rfl (zq_c (i := 57) rfl zq_nil))))) k_wsX11_leastPair rfl (by decide +kernel) (by decide +kernel)) (zk q_wsX11_leastPair q_wsX4_meets k_wsX11_leastPair k_wsX4_meets (by decide +kernel) (by decide +kernel))
set_option maxRecDepth 100000 in
theorem gX11_leastPair_X4_meets_u358X3 : GoodIn wsX11_leastPair (va_wsU RX11 358 RX3 "PageOne$Item" ⟨"PageOne$Item", "meets", "(LPageOne$Item;IZ)Z"⟩ yX4_meets wsX4_meets) := goodIn_app (zk q_wsX11_leastPair (zq_c (i := 713) rfl (zq_c (i := 715) rfl (zq_c (i := 717) rfl (zq_c (i := 714) rfl (zq_c (i := 57) rfl zq_nil))))) k_wsX11_leastPair rfl (by decide +kernel) (by decide +kernel)) (zk q_wsX11_leastPair q_wsX4_meets k_wsX11_leastPair k_wsX4_meets (by decide +kernel) (by decide +kernel))
set_option maxRecDepth 100000 in
theorem gX11_leastPair_X4_meets_u358X5 : GoodIn wsX11_leastPair (va_wsU RX11 358 RX5 "PageOne$Item" ⟨"PageOne$Item", "meets", "(LPageOne$Item;IZ)Z"⟩ yX4_meets wsX4_meets) := goodIn_app (zk q_wsX11_leastPair (zq_c (i := 713) rfl (zq_c (i := 715) rfl (zq_c (i := 718) rfl (zq_c (i := 714) rfl (zq_c (i := 57) rfl zq_nil))))) k_wsX11_leastPair rfl (by decide +kernel) (by decide +kernel)) (zk q_wsX11_leastPair q_wsX4_meets k_wsX11_leastPair k_wsX4_meets (by decide +kernel) (by decide +kernel))
set_option maxRecDepth 100000 in
theorem gX11_leastPair_X4_meets_u358X6 : GoodIn wsX11_leastPair (va_wsU RX11 358 RX6 "PageOne$Item" ⟨"PageOne$Item", "meets", "(LPageOne$Item;IZ)Z"⟩ yX4_meets wsX4_meets) := goodIn_app (zk q_wsX11_leastPair (zq_c (i := 713) rfl (zq_c (i := 715) rfl (zq_c (i := 719) rfl (zq_c (i := 714) rfl (zq_c (i := 57) rfl zq_nil))))) k_wsX11_leastPair rfl (by decide +kernel) (by decide +kernel)) (zk q_wsX11_leastPair q_wsX4_meets k_wsX11_leastPair k_wsX4_meets (by decide +kernel) (by decide +kernel))
set_option maxRecDepth 100000 in
theorem gX11_leastPair_X4_meets_u358X7 : GoodIn wsX11_leastPair (va_wsU RX11 358 RX7 "PageOne$Item" ⟨"PageOne$Item", "meets", "(LPageOne$Item;IZ)Z"⟩ yX4_meets wsX4_meets) := goodIn_app (zk q_wsX11_leastPair (zq_c (i := 713) rfl (zq_c (i := 715) rfl (zq_c (i := 720) rfl (zq_c (i := 714) rfl (zq_c (i := 57) rfl zq_nil))))) k_wsX11_leastPair rfl (by decide +kernel) (by decide +kernel)) (zk q_wsX11_leastPair q_wsX4_meets k_wsX11_leastPair k_wsX4_meets (by decide +kernel) (by decide +kernel))
set_option maxRecDepth 100000 in
theorem gX11_leastPair_X4_meets_u358X10 : GoodIn wsX11_leastPair (va_wsU RX11 358 RX10 "PageOne$Item" ⟨"PageOne$Item", "meets", "(LPageOne$Item;IZ)Z"⟩ yX4_meets wsX4_meets) := goodIn_app (zk q_wsX11_leastPair (zq_c (i := 713) rfl (zq_c (i := 715) rfl (zq_c (i := 721) rfl (zq_c (i := 714) rfl (zq_c (i := 57) rfl zq_nil))))) k_wsX11_leastPair rfl (by decide +kernel) (by decide +kernel)) (zk q_wsX11_leastPair q_wsX4_meets k_wsX11_leastPair k_wsX4_meets (by decide +kernel) (by decide +kernel))
set_option maxRecDepth 100000 in
theorem gX11_leastPair_X1_init : GoodIn wsX11_leastPair (wsX1_init) := zk q_wsX11_leastPair q_wsX1_init k_wsX11_leastPair k_wsX1_init (by decide +kernel) (by decide +kernel)
set_option maxRecDepth 100000 in
theorem ggX11_mayNotMeet_X11_areRivals : GoodIn wsX11_mayNotMeet (wsX11_areRivals) := zk q_wsX11_mayNotMeet q_wsX11_areRivals k_wsX11_mayNotMeet k_wsX11_areRivals (by decide +kernel) (by decide +kernel)
set_option maxRecDepth 100000 in
theorem gX11_mayNotMeet_X11_areRivals : GoodIn wsX11_mayNotMeet (wsV RX11 132 RX11 yX11_areRivals wsX11_areRivals) := goodIn_app (zk q_wsX11_mayNotMeet (zq_c (i := 457) rfl (zq_c (i := 459) rfl (zq_c (i := 7) rfl (zq_c (i := 53) rfl zq_nil)))) k_wsX11_mayNotMeet rfl (by decide +kernel) (by decide +kernel)) (ggX11_mayNotMeet_X11_areRivals)
set_option maxRecDepth 100000 in
theorem ggX11_mayNotMeet_X11_isNamedIn : GoodIn wsX11_mayNotMeet (wsX11_isNamedIn) := zk q_wsX11_mayNotMeet q_wsX11_isNamedIn k_wsX11_mayNotMeet k_wsX11_isNamedIn (by decide +kernel) (by decide +kernel)
set_option maxRecDepth 100000 in
theorem gX11_mayNotMeet_X11_isNamedIn : GoodIn wsX11_mayNotMeet (va_wsS RX11 362 yX11_isNamedIn wsX11_isNamedIn) := goodIn_app (zk q_wsX11_mayNotMeet (zq_c (i := 710) rfl (zq_c (i := 711) rfl (zq_c (i := 53) rfl zq_nil))) k_wsX11_mayNotMeet rfl (by decide +kernel) (by decide +kernel)) (ggX11_mayNotMeet_X11_isNamedIn)
set_option maxRecDepth 100000 in
theorem ggX11_failsAlone_X10_standing : GoodIn wsX11_failsAlone (wsX10_standing) := zk q_wsX11_failsAlone q_wsX10_standing k_wsX11_failsAlone k_wsX10_standing (by decide +kernel) (by decide +kernel)
set_option maxRecDepth 100000 in
theorem gX11_failsAlone_X10_standing : GoodIn wsX11_failsAlone (wsV RX11 254 RX10 yX10_standing wsX10_standing) := goodIn_app (zk q_wsX11_failsAlone (zq_c (i := 764) rfl (zq_c (i := 567) rfl (zq_c (i := 568) rfl (zq_c (i := 58) rfl zq_nil)))) k_wsX11_failsAlone rfl (by decide +kernel) (by decide +kernel)) (ggX11_failsAlone_X10_standing)
set_option maxRecDepth 100000 in
theorem ggX11_failsAlone_X11_standsOverStory : GoodIn wsX11_failsAlone (wsX11_standsOverStory) := zk q_wsX11_failsAlone q_wsX11_standsOverStory k_wsX11_failsAlone k_wsX11_standsOverStory (by decide +kernel) (by decide +kernel)
set_option maxRecDepth 100000 in
theorem gX11_failsAlone_X11_standsOverStory : GoodIn wsX11_failsAlone (wsV RX11 367 RX11 yX11_standsOverStory wsX11_standsOverStory) := goodIn_app (zk q_wsX11_failsAlone (zq_c (i := 765) rfl (zq_c (i := 767) rfl (zq_c (i := 19) rfl (zq_c (i := 53) rfl zq_nil)))) k_wsX11_failsAlone rfl (by decide +kernel) (by decide +kernel)) (ggX11_failsAlone_X11_standsOverStory)
set_option maxRecDepth 100000 in
theorem gX11_standsOverStory_X4_lastPiece_u371X3 : GoodIn wsX11_standsOverStory (va_wsU RX11 371 RX3 "PageOne$Item" ⟨"PageOne$Head", "lastPiece", "()LPageOne$Piece;"⟩ yX4_lastPiece wsX4_lastPiece) := goodIn_app (zk q_wsX11_standsOverStory (zq_c (i := 769) rfl (zq_c (i := 770) rfl (zq_c (i := 771) rfl (zq_c (i := 552) rfl (zq_c (i := 57) rfl zq_nil))))) k_wsX11_standsOverStory rfl (by decide +kernel) (by decide +kernel)) (zk q_wsX11_standsOverStory q_wsX4_lastPiece k_wsX11_standsOverStory k_wsX4_lastPiece (by decide +kernel) (by decide +kernel))
set_option maxRecDepth 100000 in
theorem ggX11_standsOverStory_X9_at : GoodIn wsX11_standsOverStory (wsX9_at) := zk q_wsX11_standsOverStory q_wsX9_at k_wsX11_standsOverStory k_wsX9_at (by decide +kernel) (by decide +kernel)
set_option maxRecDepth 100000 in
theorem gX11_standsOverStory_X9_at : GoodIn wsX11_standsOverStory (wsV RX11 222 RX9 yX9_at wsX9_at) := goodIn_app (zk q_wsX11_standsOverStory (zq_c (i := 655) rfl (zq_c (i := 422) rfl (zq_c (i := 423) rfl (zq_c (i := 54) rfl zq_nil)))) k_wsX11_standsOverStory rfl (by decide +kernel) (by decide +kernel)) (ggX11_standsOverStory_X9_at)
set_option maxRecDepth 100000 in
theorem ggX11_hasPlate_X11_isPage : GoodIn wsX11_hasPlate (wsX11_isPage) := zk q_wsX11_hasPlate q_wsX11_isPage k_wsX11_hasPlate k_wsX11_isPage (by decide +kernel) (by decide +kernel)
set_option maxRecDepth 100000 in
theorem gX11_hasPlate_X11_isPage : GoodIn wsX11_hasPlate (va_wsS RX11 48 yX11_isPage wsX11_isPage) := goodIn_app (zk q_wsX11_hasPlate (zq_c (i := 144) rfl (zq_c (i := 145) rfl (zq_c (i := 53) rfl zq_nil))) k_wsX11_hasPlate rfl (by decide +kernel) (by decide +kernel)) (ggX11_hasPlate_X11_isPage)
