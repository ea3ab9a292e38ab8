set_option maxRecDepth 100000 in
theorem gX2_init_X4_init : GoodIn wsX2_init (wsX4_init) := zk q_wsX2_init q_wsX4_init k_wsX2_init k_wsX4_init (by decide +kernel) (by decide +kernel)
set_option maxRecDepth 100000 in
theorem gX2_linesBy_X11_isWithin_n18 : GoodIn wsX2_linesBy (wsX11_isWithin) := zk q_wsX2_linesBy q_wsX11_isWithin k_wsX2_linesBy k_wsX11_isWithin (by decide +kernel) (by decide +kernel)
set_option maxRecDepth 100000 in
theorem gX3_init_X4_init : GoodIn wsX3_init (wsX4_init) := zk q_wsX3_init q_wsX4_init k_wsX3_init k_wsX4_init (by decide +kernel) (by decide +kernel)
set_option maxRecDepth 100000 in
theorem gX4_init_X11_isWithin_n25 : GoodIn wsX4_init (wsX11_isWithin) := zk q_wsX4_init q_wsX11_isWithin k_wsX4_init k_wsX11_isWithin (by decide +kernel) (by decide +kernel)
set_option maxRecDepth 100000 in
theorem ggX4_init_J7_fill_53178 : GoodIn wsX4_init (wsJ7_fill_53178) := zk q_wsX4_init q_wsJ7_fill_53178 k_wsX4_init k_wsJ7_fill_53178 (by decide +kernel) (by decide +kernel)
set_option maxRecDepth 100000 in
theorem gX4_init_J7_fill_53178 : GoodIn wsX4_init (va_wsS RX4 35 yJ7_fill_53178 wsJ7_fill_53178) := goodIn_app (zk q_wsX4_init (zq_c (i := 173) rfl (zq_c (i := 88) rfl (zq_c (i := 55) rfl zq_nil))) k_wsX4_init rfl (by decide +kernel) (by decide +kernel)) (ggX4_init_J7_fill_53178)
set_option maxRecDepth 100000 in
theorem gX4_gain_X4_hasRoom_u41X2 : GoodIn wsX4_gain (va_wsU RX4 41 RX2 "PageOne$Item" ⟨"PageOne$Item", "hasRoom", "()Z"⟩ yX4_hasRoom wsX4_hasRoom) := goodIn_app (zk q_wsX4_gain (zq_c (i := 597) rfl (zq_c (i := 515) rfl (zq_c (i := 516) rfl (zq_c (i := 514) rfl (zq_c (i := 57) rfl zq_nil))))) k_wsX4_gain rfl (by decide +kernel) (by decide +kernel)) (zk q_wsX4_gain q_wsX4_hasRoom k_wsX4_gain k_wsX4_hasRoom (by decide +kernel) (by decide +kernel))
set_option maxRecDepth 100000 in
theorem gX4_gain_X4_hasRoom_u41X3 : GoodIn wsX4_gain (va_wsU RX4 41 RX3 "PageOne$Item" ⟨"PageOne$Item", "hasRoom", "()Z"⟩ yX4_hasRoom wsX4_hasRoom) := goodIn_app (zk q_wsX4_gain (zq_c (i := 597) rfl (zq_c (i := 515) rfl (zq_c (i := 517) rfl (zq_c (i := 514) rfl (zq_c (i := 57) rfl zq_nil))))) k_wsX4_gain rfl (by decide +kernel) (by decide +kernel)) (zk q_wsX4_gain q_wsX4_hasRoom k_wsX4_gain k_wsX4_hasRoom (by decide +kernel) (by decide +kernel))
set_option maxRecDepth 100000 in
theorem gX4_gain_X4_hasRoom_u41X5 : GoodIn wsX4_gain (va_wsU RX4 41 RX5 "PageOne$Item" ⟨"PageOne$Item", "hasRoom", "()Z"⟩ yX4_hasRoom wsX4_hasRoom) := goodIn_app (zk q_wsX4_gain (zq_c (i := 597) rfl (zq_c (i := 515) rfl (zq_c (i := 518) rfl (zq_c (i := 514) rfl (zq_c (i := 57) rfl zq_nil))))) k_wsX4_gain rfl (by decide +kernel) (by decide +kernel)) (zk q_wsX4_gain q_wsX4_hasRoom k_wsX4_gain k_wsX4_hasRoom (by decide +kernel) (by decide +kernel))
set_option maxRecDepth 100000 in
theorem gX4_gain_X4_hasRoom_u41X6 : GoodIn wsX4_gain (va_wsU RX4 41 RX6 "PageOne$Item" ⟨"PageOne$Item", "hasRoom", "()Z"⟩ yX4_hasRoom wsX4_hasRoom) := goodIn_app (zk q_wsX4_gain (zq_c (i := 597) rfl (zq_c (i := 515) rfl (zq_c (i := 519) rfl (zq_c (i := 514) rfl (zq_c (i := 57) rfl zq_nil))))) k_wsX4_gain rfl (by decide +kernel) (by decide +kernel)) (zk q_wsX4_gain q_wsX4_hasRoom k_wsX4_gain k_wsX4_hasRoom (by decide +kernel) (by decide +kernel))
set_option maxRecDepth 100000 in
theorem gX4_gain_X4_hasRoom_u41X7 : GoodIn wsX4_gain (va_wsU RX4 41 RX7 "PageOne$Item" ⟨"PageOne$Item", "hasRoom", "()Z"⟩ yX4_hasRoom wsX4_hasRoom) := goodIn_app (zk q_wsX4_gain (zq_c (i := 597) rfl (zq_c (i := 515) rfl (zq_c (i := 520) rfl (zq_c (i := 514) rfl (zq_c (i := 57) rfl zq_nil))))) k_wsX4_gain rfl (by decide +kernel) (by decide +kernel)) (zk q_wsX4_gain q_wsX4_hasRoom k_wsX4_gain k_wsX4_hasRoom (by decide +kernel) (by decide +kernel))
set_option maxRecDepth 100000 in
theorem gX4_gain_X4_hasRoom_u41X10 : GoodIn wsX4_gain (va_wsU RX4 41 RX10 "PageOne$Item" ⟨"PageOne$Item", "hasRoom", "()Z"⟩ yX4_hasRoom wsX4_hasRoom) := goodIn_app (zk q_wsX4_gain (zq_c (i := 597) rfl (zq_c (i := 515) rfl (zq_c (i := 521) rfl (zq_c (i := 514) rfl (zq_c (i := 57) rfl zq_nil))))) k_wsX4_gain rfl (by decide +kernel) (by decide +kernel)) (zk q_wsX4_gain q_wsX4_hasRoom k_wsX4_gain k_wsX4_hasRoom (by decide +kernel) (by decide +kernel))
set_option maxRecDepth 100000 in
theorem gX4_meets_X4_touches_u48X2 : GoodIn wsX4_meets (va_wsU RX4 48 RX2 "PageOne$Item" ⟨"PageOne$Item", "touches", "(LPageOne$Piece;Z)Z"⟩ yX4_touches wsX4_touches) := goodIn_app (zk q_wsX4_meets (zq_c (i := 723) rfl (zq_c (i := 725) rfl (zq_c (i := 726) rfl (zq_c (i := 724) rfl (zq_c (i := 57) rfl zq_nil))))) k_wsX4_meets rfl (by decide +kernel) (by decide +kernel)) (zk q_wsX4_meets q_wsX4_touches k_wsX4_meets k_wsX4_touches (by decide +kernel) (by decide +kernel))
set_option maxRecDepth 100000 in
theorem gX4_meets_X4_touches_u48X3 : GoodIn wsX4_meets (va_wsU RX4 48 RX3 "PageOne$Item" ⟨"PageOne$Item", "touches", "(LPageOne$Piece;Z)Z"⟩ yX4_touches wsX4_touches) := goodIn_app (zk q_wsX4_meets (zq_c (i := 723) rfl (zq_c (i := 725) rfl (zq_c (i := 727) rfl (zq_c (i := 724) rfl (zq_c (i := 57) rfl zq_nil))))) k_wsX4_meets rfl (by decide +kernel) (by decide +kernel)) (zk q_wsX4_meets q_wsX4_touches k_wsX4_meets k_wsX4_touches (by decide +kernel) (by decide +kernel))
set_option maxRecDepth 100000 in
theorem gX4_meets_X4_touches_u48X5 : GoodIn wsX4_meets (va_wsU RX4 48 RX5 "PageOne$Item" ⟨"PageOne$Item", "touches", "(LPageOne$Piece;Z)Z"⟩ yX4_touches wsX4_touches) := goodIn_app (zk q_wsX4_meets (zq_c (i := 723) rfl (zq_c (i := 725) rfl (zq_c (i := 728) rfl (zq_c (i := 724) rfl (zq_c (i := 57) rfl zq_nil))))) k_wsX4_meets rfl (by decide +kernel) (by decide +kernel)) (zk q_wsX4_meets q_wsX4_touches k_wsX4_meets k_wsX4_touches (by decide +kernel) (by decide +kernel))
set_option maxRecDepth 100000 in
theorem gX4_meets_X4_touches_u48X6 : GoodIn wsX4_meets (va_wsU RX4 48 RX6 "PageOne$Item" ⟨"PageOne$Item", "touches", "(LPageOne$Piece;Z)Z"⟩ yX4_touches wsX4_touches) := goodIn_app (zk q_wsX4_meets (zq_c (i := 723) rfl (zq_c (i := 725) rfl (zq_c (i := 729) rfl (zq_c (i := 724) rfl (zq_c (i := 57) rfl zq_nil))))) k_wsX4_meets rfl (by decide +kernel) (by decide +kernel)) (zk q_wsX4_meets q_wsX4_touches k_wsX4_meets k_wsX4_touches (by decide +kernel) (by decide +kernel))
set_option maxRecDepth 100000 in
theorem gX4_meets_X4_touches_u48X7 : GoodIn wsX4_meets (va_wsU RX4 48 RX7 "PageOne$Item" ⟨"PageOne$Item", "touches", "(LPageOne$Piece;Z)Z"⟩ yX4_touches wsX4_touches) := goodIn_app (zk q_wsX4_meets (zq_c (i := 723) rfl (zq_c (i := 725) rfl (zq_c (i := 730) rfl (zq_c (i := 724) rfl (zq_c (i := 57) rfl zq_nil))))) k_wsX4_meets rfl (by decide +kernel) (by decide +kernel)) (zk q_wsX4_meets q_wsX4_touches k_wsX4_meets k_wsX4_touches (by decide +kernel) (by decide +kernel))
set_option maxRecDepth 100000 in
theorem gX4_meets_X4_touches_u48X10 : GoodIn wsX4_meets (va_wsU RX4 48 RX10 "PageOne$Item" ⟨"PageOne$Item", "touches", "(LPageOne$Piece;Z)Z"⟩ yX4_touches wsX4_touches) := goodIn_app (zk q_wsX4_meets (zq_c (i := 723) rfl (zq_c (i := 725) rfl (zq_c (i := 731) rfl (zq_c (i := 724) rfl (zq_c (i := 57) rfl zq_nil))))) k_wsX4_meets rfl (by decide +kernel) (by decide +kernel)) (zk q_wsX4_meets q_wsX4_touches k_wsX4_meets k_wsX4_touches (by decide +kernel) (by decide +kernel))
set_option maxRecDepth 100000 in
theorem ggX4_touches_X8_isBeside : GoodIn wsX4_touches (wsX8_isBeside) := zk q_wsX4_touches q_wsX8_isBeside k_wsX4_touches k_wsX8_isBeside (by decide +kernel) (by decide +kernel)
set_option maxRecDepth 100000 in
theorem gX4_touches_X8_isBeside : GoodIn wsX4_touches (wsV RX4 52 RX8 yX8_isBeside wsX8_isBeside) := goodIn_app (zk q_wsX4_touches (zq_c (i := 733) rfl (zq_c (i := 734) rfl (zq_c (i := 735) rfl (zq_c (i := 62) rfl zq_nil)))) k_wsX4_touches rfl (by decide +kernel) (by decide +kernel)) (ggX4_touches_X8_isBeside)
set_option maxRecDepth 100000 in
theorem ggX4_touches_X8_isOverOrUnder : GoodIn wsX4_touches (wsX8_isOverOrUnder) := zk q_wsX4_touches q_wsX8_isOverOrUnder k_wsX4_touches k_wsX8_isOverOrUnder (by decide +kernel) (by decide +kernel)
set_option maxRecDepth 100000 in
theorem gX4_touches_X8_isOverOrUnder : GoodIn wsX4_touches (wsV RX4 56 RX8 yX8_isOverOrUnder wsX8_isOverOrUnder) := goodIn_app (zk q_wsX4_touches (zq_c (i := 737) rfl (zq_c (i := 738) rfl (zq_c (i := 739) rfl (zq_c (i := 62) rfl zq_nil)))) k_wsX4_touches rfl (by decide +kernel) (by decide +kernel)) (ggX4_touches_X8_isOverOrUnder)
set_option maxRecDepth 100000 in
theorem gX5_init_X4_init : GoodIn wsX5_init (wsX4_init) := zk q_wsX5_init q_wsX4_init k_wsX5_init k_wsX4_init (by decide +kernel) (by decide +kernel)
set_option maxRecDepth 100000 in
theorem gX5_maySit_X11_isWithin_n23 : GoodIn wsX5_maySit (wsX11_isWithin) := zk q_wsX5_maySit q_wsX11_isWithin k_wsX5_maySit k_wsX11_isWithin (by decide +kernel) (by decide +kernel)
set_option maxRecDepth 100000 in
theorem gX6_init_X4_init : GoodIn wsX6_init (wsX4_init) := zk q_wsX6_init q_wsX4_init k_wsX6_init k_wsX4_init (by decide +kernel) (by decide +kernel)
set_option maxRecDepth 100000 in
theorem ggX6_maySit_X8_startsWith : GoodIn wsX6_maySit (wsX8_startsWith) := zk q_wsX6_maySit q_wsX8_startsWith k_wsX6_maySit k_wsX8_startsWith (by decide +kernel) (by decide +kernel)
set_option maxRecDepth 100000 in
theorem gX6_maySit_X8_startsWith : GoodIn wsX6_maySit (wsV RX6 34 RX8 yX8_startsWith wsX8_startsWith) := goodIn_app (zk q_wsX6_maySit (zq_c (i := 540) rfl (zq_c (i := 541) rfl (zq_c (i := 542) rfl (zq_c (i := 62) rfl zq_nil)))) k_wsX6_maySit rfl (by decide +kernel) (by decide +kernel)) (ggX6_maySit_X8_startsWith)
set_option maxRecDepth 100000 in
theorem gX7_init_X4_init : GoodIn wsX7_init (wsX4_init) := zk q_wsX7_init q_wsX4_init k_wsX7_init k_wsX4_init (by decide +kernel) (by decide +kernel)
set_option maxRecDepth 100000 in
theorem gX7_columnsBy_X11_isWithin_n22 : GoodIn wsX7_columnsBy (wsX11_isWithin) := zk q_wsX7_columnsBy q_wsX11_isWithin k_wsX7_columnsBy k_wsX11_isWithin (by decide +kernel) (by decide +kernel)
set_option maxRecDepth 100000 in
theorem gX7_linesBy_X11_isWithin_n22 : GoodIn wsX7_linesBy (wsX11_isWithin) := zk q_wsX7_linesBy q_wsX11_isWithin k_wsX7_linesBy k_wsX11_isWithin (by decide +kernel) (by decide +kernel)
set_option maxRecDepth 100000 in
theorem ggX9_init_J7_fill_53178 : GoodIn wsX9_init (wsJ7_fill_53178) := zk q_wsX9_init q_wsJ7_fill_53178 k_wsX9_init k_wsJ7_fill_53178 (by decide +kernel) (by decide +kernel)
set_option maxRecDepth 100000 in
theorem gX9_init_J7_fill_53178 : GoodIn wsX9_init (va_wsS RX9 28 yJ7_fill_53178 wsJ7_fill_53178) := goodIn_app (zk q_wsX9_init (zq_c (i := 87) rfl (zq_c (i := 88) rfl (zq_c (i := 55) rfl zq_nil))) k_wsX9_init rfl (by decide +kernel) (by decide +kernel)) (ggX9_init_J7_fill_53178)
set_option maxRecDepth 100000 in
theorem gX9_at_X11_isColumn_n34 : GoodIn wsX9_at (wsX11_isColumn) := zk q_wsX9_at q_wsX11_isColumn k_wsX9_at k_wsX11_isColumn (by decide +kernel) (by decide +kernel)
set_option maxRecDepth 100000 in
theorem gX9_at_X11_isWithin_n38 : GoodIn wsX9_at (wsX11_isWithin) := zk q_wsX9_at q_wsX11_isWithin k_wsX9_at k_wsX11_isWithin (by decide +kernel) (by decide +kernel)
set_option maxRecDepth 100000 in
theorem gX9_isFree_X11_isSquare_n50 : GoodIn wsX9_isFree (wsX11_isSquare) := zk q_wsX9_isFree q_wsX11_isSquare k_wsX9_isFree k_wsX11_isSquare (by decide +kernel) (by decide +kernel)
set_option maxRecDepth 100000 in
theorem gX9_isFree_X11_isColumn_n34 : GoodIn wsX9_isFree (wsX11_isColumn) := zk q_wsX9_isFree q_wsX11_isColumn k_wsX9_isFree k_wsX11_isColumn (by decide +kernel) (by decide +kernel)
set_option maxRecDepth 100000 in
theorem gX9_isFree_X11_isWithin_n38 : GoodIn wsX9_isFree (wsX11_isWithin) := zk q_wsX9_isFree q_wsX11_isWithin k_wsX9_isFree k_wsX11_isWithin (by decide +kernel) (by decide +kernel)
set_option maxRecDepth 100000 in
theorem ggX9_isFree_X9_at : GoodIn wsX9_isFree (wsX9_at) := zk q_wsX9_isFree q_wsX9_at k_wsX9_isFree k_wsX9_at (by decide +kernel) (by decide +kernel)
set_option maxRecDepth 100000 in
theorem gX9_isFree_X9_at : GoodIn wsX9_isFree (wsV RX9 60 RX9 yX9_at wsX9_at) := goodIn_app (zk q_wsX9_isFree (zq_c (i := 421) rfl (zq_c (i := 422) rfl (zq_c (i := 423) rfl (zq_c (i := 54) rfl zq_nil)))) k_wsX9_isFree rfl (by decide +kernel) (by decide +kernel)) (ggX9_isFree_X9_at)
set_option maxRecDepth 100000 in
theorem ggX9_mark_X9_at : GoodIn wsX9_mark (wsX9_at) := zk q_wsX9_mark q_wsX9_at k_wsX9_mark k_wsX9_at (by decide +kernel) (by decide +kernel)
set_option maxRecDepth 100000 in
theorem gX9_mark_X9_at : GoodIn wsX9_mark (wsV RX9 60 RX9 yX9_at wsX9_at) := goodIn_app (zk q_wsX9_mark (zq_c (i := 421) rfl (zq_c (i := 422) rfl (zq_c (i := 423) rfl (zq_c (i := 54) rfl zq_nil)))) k_wsX9_mark rfl (by decide +kernel) (by decide +kernel)) (ggX9_mark_X9_at)
set_option maxRecDepth 100000 in
theorem ggX9_emptyIn_X9_at : GoodIn wsX9_emptyIn (wsX9_at) := zk q_wsX9_emptyIn q_wsX9_at k_wsX9_emptyIn k_wsX9_at (by decide +kernel) (by decide +kernel)
set_option maxRecDepth 100000 in
theorem gX9_emptyIn_X9_at : GoodIn wsX9_emptyIn (wsV RX9 60 RX9 yX9_at wsX9_at) := goodIn_app (zk q_wsX9_emptyIn (zq_c (i := 421) rfl (zq_c (i := 422) rfl (zq_c (i := 423) rfl (zq_c (i := 54) rfl zq_nil)))) k_wsX9_emptyIn rfl (by decide +kernel) (by decide +kernel)) (ggX9_emptyIn_X9_at)
set_option maxRecDepth 100000 in
theorem ggX9_emptyCount_X9_emptyIn : GoodIn wsX9_emptyCount (wsX9_emptyIn) := zk q_wsX9_emptyCount q_wsX9_emptyIn k_wsX9_emptyCount k_wsX9_emptyIn (by decide +kernel) (by decide +kernel)
set_option maxRecDepth 100000 in
theorem gX9_emptyCount_X9_emptyIn : GoodIn wsX9_emptyCount (wsV RX9 64 RX9 yX9_emptyIn wsX9_emptyIn) := goodIn_app (zk q_wsX9_emptyCount (zq_c (i := 684) rfl (zq_c (i := 685) rfl (zq_c (i := 686) rfl (zq_c (i := 54) rfl zq_nil)))) k_wsX9_emptyCount rfl (by decide +kernel) (by decide +kernel)) (ggX9_emptyCount_X9_emptyIn)
set_option maxRecDepth 100000 in
theorem ggX9_spotOf_X9_at : GoodIn wsX9_spotOf (wsX9_at) := zk q_wsX9_spotOf q_wsX9_at k_wsX9_spotOf k_wsX9_at (by decide +kernel) (by decide +kernel)
set_option maxRecDepth 100000 in
theorem gX9_spotOf_X9_at : GoodIn wsX9_spotOf (wsV RX9 60 RX9 yX9_at wsX9_at) := goodIn_app (zk q_wsX9_spotOf (zq_c (i := 421) rfl (zq_c (i := 422) rfl (zq_c (i := 423) rfl (zq_c (i := 54) rfl zq_nil)))) k_wsX9_spotOf rfl (by decide +kernel) (by decide +kernel)) (ggX9_spotOf_X9_at)
set_option maxRecDepth 100000 in
theorem ggX9_clear_J7_fill_53178 : GoodIn wsX9_clear (wsJ7_fill_53178) := zk q_wsX9_clear q_wsJ7_fill_53178 k_wsX9_clear k_wsJ7_fill_53178 (by decide +kernel) (by decide +kernel)
set_option maxRecDepth 100000 in
theorem gX9_clear_J7_fill_53178 : GoodIn wsX9_clear (va_wsS RX9 28 yJ7_fill_53178 wsJ7_fill_53178) := goodIn_app (zk q_wsX9_clear (zq_c (i := 87) rfl (zq_c (i := 88) rfl (zq_c (i := 55) rfl zq_nil))) k_wsX9_clear rfl (by decide +kernel) (by decide +kernel)) (ggX9_clear_J7_fill_53178)
set_option maxRecDepth 100000 in
theorem gX10_init_X4_init : GoodIn wsX10_init (wsX4_init) := zk q_wsX10_init q_wsX4_init k_wsX10_init k_wsX4_init (by decide +kernel) (by decide +kernel)
set_option maxRecDepth 100000 in
theorem gX10_linesBy_X11_isWithin_n26 : GoodIn wsX10_linesBy (wsX11_isWithin) := zk q_wsX10_linesBy q_wsX11_isWithin k_wsX10_linesBy k_wsX11_isWithin (by decide +kernel) (by decide +kernel)
set_option maxRecDepth 100000 in
theorem gX10_maySit_X4_lastPiece_u30X10 : GoodIn wsX10_maySit (va_wsU RX10 30 RX10 "PageOne$Item" ⟨"PageOne$Story", "lastPiece", "()LPageOne$Piece;"⟩ yX4_lastPiece wsX4_lastPiece) := goodIn_app (zk q_wsX10_maySit (zq_c (i := 548) rfl (zq_c (i := 549) rfl (zq_c (i := 551) rfl (zq_c (i := 552) rfl (zq_c (i := 57) rfl zq_nil))))) k_wsX10_maySit rfl (by decide +kernel) (by decide +kernel)) (zk q_wsX10_maySit q_wsX4_lastPiece k_wsX10_maySit k_wsX4_lastPiece (by decide +kernel) (by decide +kernel))
set_option maxRecDepth 100000 in
theorem ggX10_maySit_X10_canTake : GoodIn wsX10_maySit (wsX10_canTake) := zk q_wsX10_maySit q_wsX10_canTake k_wsX10_maySit k_wsX10_canTake (by decide +kernel) (by decide +kernel)
set_option maxRecDepth 100000 in
theorem gX10_maySit_X10_canTake : GoodIn wsX10_maySit (wsV RX10 39 RX10 yX10_canTake wsX10_canTake) := goodIn_app (zk q_wsX10_maySit (zq_c (i := 554) rfl (zq_c (i := 555) rfl (zq_c (i := 556) rfl (zq_c (i := 58) rfl zq_nil)))) k_wsX10_maySit rfl (by decide +kernel) (by decide +kernel)) (ggX10_maySit_X10_canTake)
set_option maxRecDepth 100000 in
theorem ggX10_maySit_X8_isBehind : GoodIn wsX10_maySit (wsX8_isBehind) := zk q_wsX10_maySit q_wsX8_isBehind k_wsX10_maySit k_wsX8_isBehind (by decide +kernel) (by decide +kernel)
set_option maxRecDepth 100000 in
theorem gX10_maySit_X8_isBehind : GoodIn wsX10_maySit (wsV RX10 45 RX8 yX8_isBehind wsX8_isBehind) := goodIn_app (zk q_wsX10_maySit (zq_c (i := 558) rfl (zq_c (i := 559) rfl (zq_c (i := 560) rfl (zq_c (i := 62) rfl zq_nil)))) k_wsX10_maySit rfl (by decide +kernel) (by decide +kernel)) (ggX10_maySit_X8_isBehind)
set_option maxRecDepth 100000 in
theorem ggX10_maySit_X10_takenBy : GoodIn wsX10_maySit (wsX10_takenBy) := zk q_wsX10_maySit q_wsX10_takenBy k_wsX10_maySit k_wsX10_takenBy (by decide +kernel) (by decide +kernel)
set_option maxRecDepth 100000 in
theorem gX10_maySit_X10_takenBy : GoodIn wsX10_maySit (wsV RX10 52 RX10 yX10_takenBy wsX10_takenBy) := goodIn_app (zk q_wsX10_maySit (zq_c (i := 562) rfl (zq_c (i := 563) rfl (zq_c (i := 564) rfl (zq_c (i := 58) rfl zq_nil)))) k_wsX10_maySit rfl (by decide +kernel) (by decide +kernel)) (ggX10_maySit_X10_takenBy)
set_option maxRecDepth 100000 in
theorem ggX10_maySit_X10_standing : GoodIn wsX10_maySit (wsX10_standing) := zk q_wsX10_maySit q_wsX10_standing k_wsX10_maySit k_wsX10_standing (by decide +kernel) (by decide +kernel)
set_option maxRecDepth 100000 in
theorem gX10_maySit_X10_standing : GoodIn wsX10_maySit (wsV RX10 56 RX10 yX10_standing wsX10_standing) := goodIn_app (zk q_wsX10_maySit (zq_c (i := 566) rfl (zq_c (i := 567) rfl (zq_c (i := 568) rfl (zq_c (i := 58) rfl zq_nil)))) k_wsX10_maySit rfl (by decide +kernel) (by decide +kernel)) (ggX10_maySit_X10_standing)
set_option maxRecDepth 100000 in
theorem gX10_takenBy_X11_isWithin_n26 : GoodIn wsX10_takenBy (wsX11_isWithin) := zk q_wsX10_takenBy q_wsX11_isWithin k_wsX10_takenBy k_wsX11_isWithin (by decide +kernel) (by decide +kernel)
set_option maxRecDepth 100000 in
theorem ggX10_takenBefore_X10_takenBy : GoodIn wsX10_takenBefore (wsX10_takenBy) := zk q_wsX10_takenBefore q_wsX10_takenBy k_wsX10_takenBefore k_wsX10_takenBy (by decide +kernel) (by decide +kernel)
set_option maxRecDepth 100000 in
theorem gX10_takenBefore_X10_takenBy : GoodIn wsX10_takenBefore (wsV RX10 52 RX10 yX10_takenBy wsX10_takenBy) := goodIn_app (zk q_wsX10_takenBefore (zq_c (i := 562) rfl (zq_c (i := 563) rfl (zq_c (i := 564) rfl (zq_c (i := 58) rfl zq_nil)))) k_wsX10_takenBefore rfl (by decide +kernel) (by decide +kernel)) (ggX10_takenBefore_X10_takenBy)
set_option maxRecDepth 100000 in
theorem ggX10_standing_X10_takenBefore : GoodIn wsX10_standing (wsX10_takenBefore) := zk q_wsX10_standing q_wsX10_takenBefore k_wsX10_standing k_wsX10_takenBefore (by decide +kernel) (by decide +kernel)
set_option maxRecDepth 100000 in
theorem gX10_standing_X10_takenBefore : GoodIn wsX10_standing (wsV RX10 64 RX10 yX10_takenBefore wsX10_takenBefore) := goodIn_app (zk q_wsX10_standing (zq_c (i := 570) rfl (zq_c (i := 571) rfl (zq_c (i := 572) rfl (zq_c (i := 58) rfl zq_nil)))) k_wsX10_standing rfl (by decide +kernel) (by decide +kernel)) (ggX10_standing_X10_takenBefore)
set_option maxRecDepth 100000 in
theorem gX11_init_X9_init : GoodIn wsX11_init (wsX9_init) := zk q_wsX11_init q_wsX9_init k_wsX11_init k_wsX9_init (by decide +kernel) (by decide +kernel)
set_option maxRecDepth 100000 in
theorem ggX11_column_X11_isPage : GoodIn wsX11_column (wsX11_isPage) := zk q_wsX11_column q_wsX11_isPage k_wsX11_column k_wsX11_isPage (by decide +kernel) (by decide +kernel)
set_option maxRecDepth 100000 in
theorem gX11_column_X11_isPage : GoodIn wsX11_column (va_wsS RX11 48 yX11_isPage wsX11_isPage) := goodIn_app (zk q_wsX11_column (zq_c (i := 144) rfl (zq_c (i := 145) rfl (zq_c (i := 53) rfl zq_nil))) k_wsX11_column rfl (by decide +kernel) (by decide +kernel)) (ggX11_column_X11_isPage)
set_option maxRecDepth 100000 in
theorem ggX11_column_X11_isColumn : GoodIn wsX11_column (wsX11_isColumn) := zk q_wsX11_column q_wsX11_isColumn k_wsX11_column k_wsX11_isColumn (by decide +kernel) (by decide +kernel)
set_option maxRecDepth 100000 in
theorem gX11_column_X11_isColumn : GoodIn wsX11_column (va_wsS RX11 52 yX11_isColumn wsX11_isColumn) := goodIn_app (zk q_wsX11_column (zq_c (i := 150) rfl (zq_c (i := 151) rfl (zq_c (i := 53) rfl zq_nil))) k_wsX11_column rfl (by decide +kernel) (by decide +kernel)) (ggX11_column_X11_isColumn)
set_option maxRecDepth 100000 in
theorem ggX11_column_X11_isWithin : GoodIn wsX11_column (wsX11_isWithin) := zk q_wsX11_column q_wsX11_isWithin k_wsX11_column k_wsX11_isWithin (by decide +kernel) (by decide +kernel)
set_option maxRecDepth 100000 in
theorem gX11_column_X11_isWithin : GoodIn wsX11_column (va_wsS RX11 55 yX11_isWithin wsX11_isWithin) := goodIn_app (zk q_wsX11_column (zq_c (i := 147) rfl (zq_c (i := 148) rfl (zq_c (i := 53) rfl zq_nil))) k_wsX11_column rfl (by decide +kernel) (by decide +kernel)) (ggX11_column_X11_isWithin)
set_option maxRecDepth 100000 in
theorem ggX11_measure_X11_isPage : GoodIn wsX11_measure (wsX11_isPage) := zk q_wsX11_measure q_wsX11_isPage k_wsX11_measure k_wsX11_isPage (by decide +kernel) (by decide +kernel)
set_option maxRecDepth 100000 in
theorem gX11_measure_X11_isPage : GoodIn wsX11_measure (va_wsS RX11 48 yX11_isPage wsX11_isPage) := goodIn_app (zk q_wsX11_measure (zq_c (i := 144) rfl (zq_c (i := 145) rfl (zq_c (i := 53) rfl zq_nil))) k_wsX11_measure rfl (by decide +kernel) (by decide +kernel)) (ggX11_measure_X11_isPage)
set_option maxRecDepth 100000 in
theorem ggX11_measure_X11_isWithin : GoodIn wsX11_measure (wsX11_isWithin) := zk q_wsX11_measure q_wsX11_isWithin k_wsX11_measure k_wsX11_isWithin (by decide +kernel) (by decide +kernel)
set_option maxRecDepth 100000 in
theorem gX11_measure_X11_isWithin : GoodIn wsX11_measure (va_wsS RX11 55 yX11_isWithin wsX11_isWithin) := goodIn_app (zk q_wsX11_measure (zq_c (i := 147) rfl (zq_c (i := 148) rfl (zq_c (i := 53) rfl zq_nil))) k_wsX11_measure rfl (by decide +kernel) (by decide +kernel)) (ggX11_measure_X11_isWithin)
set_option maxRecDepth 100000 in
theorem ggX11_story_X11_isWithin : GoodIn wsX11_story (wsX11_isWithin) := zk q_wsX11_story q_wsX11_isWithin k_wsX11_story k_wsX11_isWithin (by decide +kernel) (by decide +kernel)
set_option maxRecDepth 100000 in
theorem gX11_story_X11_isWithin : GoodIn wsX11_story (va_wsS RX11 55 yX11_isWithin wsX11_isWithin) := goodIn_app (zk q_wsX11_story (zq_c (i := 147) rfl (zq_c (i := 148) rfl (zq_c (i := 53) rfl zq_nil))) k_wsX11_story rfl (by decide +kernel) (by decide +kernel)) (ggX11_story_X11_isWithin)
set_option maxRecDepth 100000 in
theorem gX11_story_X10_init : GoodIn wsX11_story (wsX10_init) := zk q_wsX11_story q_wsX10_init k_wsX11_story k_wsX10_init (by decide +kernel) (by decide +kernel)
set_option maxRecDepth 100000 in
theorem ggX11_story_X11_enter : GoodIn wsX11_story (wsX11_enter) := zk q_wsX11_story q_wsX11_enter k_wsX11_story k_wsX11_enter (by decide +kernel) (by decide +kernel)
set_option maxRecDepth 100000 in
theorem gX11_story_X11_enter : GoodIn wsX11_story (wsV RX11 71 RX11 yX11_enter wsX11_enter) := goodIn_app (zk q_wsX11_story (zq_c (i := 222) rfl (zq_c (i := 224) rfl (zq_c (i := 0) rfl (zq_c (i := 53) rfl zq_nil)))) k_wsX11_story rfl (by decide +kernel) (by decide +kernel)) (ggX11_story_X11_enter)
set_option maxRecDepth 100000 in
theorem ggX11_line_X11_itemOf : GoodIn wsX11_line (wsX11_itemOf) := zk q_wsX11_line q_wsX11_itemOf k_wsX11_line k_wsX11_itemOf (by decide +kernel) (by decide +kernel)
set_option maxRecDepth 100000 in
theorem gX11_line_X11_itemOf : GoodIn wsX11_line (wsV RX11 75 RX11 yX11_itemOf wsX11_itemOf) := goodIn_app (zk q_wsX11_line (zq_c (i := 230) rfl (zq_c (i := 232) rfl (zq_c (i := 1) rfl (zq_c (i := 53) rfl zq_nil)))) k_wsX11_line rfl (by decide +kernel) (by decide +kernel)) (ggX11_line_X11_itemOf)
set_option maxRecDepth 100000 in
theorem ggX11_line_X11_isWithin : GoodIn wsX11_line (wsX11_isWithin) := zk q_wsX11_line q_wsX11_isWithin k_wsX11_line k_wsX11_isWithin (by decide +kernel) (by decide +kernel)
set_option maxRecDepth 100000 in
theorem gX11_line_X11_isWithin : GoodIn wsX11_line (va_wsS RX11 55 yX11_isWithin wsX11_isWithin) := goodIn_app (zk q_wsX11_line (zq_c (i := 147) rfl (zq_c (i := 148) rfl (zq_c (i := 53) rfl zq_nil))) k_wsX11_line rfl (by decide +kernel) (by decide +kernel)) (ggX11_line_X11_isWithin)
set_option maxRecDepth 100000 in
theorem ggX11_line_X10_takeIn : GoodIn wsX11_line (wsX10_takeIn) := zk q_wsX11_line q_wsX10_takeIn k_wsX11_line k_wsX10_takeIn (by decide +kernel) (by decide +kernel)
set_option maxRecDepth 100000 in
theorem gX11_line_X10_takeIn : GoodIn wsX11_line (wsV RX11 79 RX10 yX10_takeIn wsX10_takeIn) := goodIn_app (zk q_wsX11_line (zq_c (i := 234) rfl (zq_c (i := 235) rfl (zq_c (i := 236) rfl (zq_c (i := 58) rfl zq_nil)))) k_wsX11_line rfl (by decide +kernel) (by decide +kernel)) (ggX11_line_X10_takeIn)
set_option maxRecDepth 100000 in
theorem ggX11_head_X11_itemOf : GoodIn wsX11_head (wsX11_itemOf) := zk q_wsX11_head q_wsX11_itemOf k_wsX11_head k_wsX11_itemOf (by decide +kernel) (by decide +kernel)
set_option maxRecDepth 100000 in
theorem gX11_head_X11_itemOf : GoodIn wsX11_head (wsV RX11 75 RX11 yX11_itemOf wsX11_itemOf) := goodIn_app (zk q_wsX11_head (zq_c (i := 230) rfl (zq_c (i := 232) rfl (zq_c (i := 1) rfl (zq_c (i := 53) rfl zq_nil)))) k_wsX11_head rfl (by decide +kernel) (by decide +kernel)) (ggX11_head_X11_itemOf)
set_option maxRecDepth 100000 in
theorem ggX11_head_X11_isWithin : GoodIn wsX11_head (wsX11_isWithin) := zk q_wsX11_head q_wsX11_isWithin k_wsX11_head k_wsX11_isWithin (by decide +kernel) (by decide +kernel)
set_option maxRecDepth 100000 in
theorem gX11_head_X11_isWithin : GoodIn wsX11_head (va_wsS RX11 55 yX11_isWithin wsX11_isWithin) := goodIn_app (zk q_wsX11_head (zq_c (i := 147) rfl (zq_c (i := 148) rfl (zq_c (i := 53) rfl zq_nil))) k_wsX11_head rfl (by decide +kernel) (by decide +kernel)) (ggX11_head_X11_isWithin)
set_option maxRecDepth 100000 in
theorem gX11_head_X3_init : GoodIn wsX11_head (wsX3_init) := zk q_wsX11_head q_wsX3_init k_wsX11_head k_wsX3_init (by decide +kernel) (by decide +kernel)
set_option maxRecDepth 100000 in
theorem ggX11_head_X11_enter : GoodIn wsX11_head (wsX11_enter) := zk q_wsX11_head q_wsX11_enter k_wsX11_head k_wsX11_enter (by decide +kernel) (by decide +kernel)
set_option maxRecDepth 100000 in
theorem gX11_head_X11_enter : GoodIn wsX11_head (wsV RX11 71 RX11 yX11_enter wsX11_enter) := goodIn_app (zk q_wsX11_head (zq_c (i := 222) rfl (zq_c (i := 224) rfl (zq_c (i := 0) rfl (zq_c (i := 53) rfl zq_nil)))) k_wsX11_head rfl (by decide +kernel) (by decide +kernel)) (ggX11_head_X11_enter)
set_option maxRecDepth 100000 in
theorem gX11_picture_X7_init : GoodIn wsX11_picture (wsX7_init) := zk q_wsX11_picture q_wsX7_init k_wsX11_picture k_wsX7_init (by decide +kernel) (by decide +kernel)
set_option maxRecDepth 100000 in
theorem ggX11_picture_X11_enter : GoodIn wsX11_picture (wsX11_enter) := zk q_wsX11_picture q_wsX11_enter k_wsX11_picture k_wsX11_enter (by decide +kernel) (by decide +kernel)
set_option maxRecDepth 100000 in
theorem gX11_picture_X11_enter : GoodIn wsX11_picture (wsV RX11 71 RX11 yX11_enter wsX11_enter) := goodIn_app (zk q_wsX11_picture (zq_c (i := 222) rfl (zq_c (i := 224) rfl (zq_c (i := 0) rfl (zq_c (i := 53) rfl zq_nil)))) k_wsX11_picture rfl (by decide +kernel) (by decide +kernel)) (ggX11_picture_X11_enter)
set_option maxRecDepth 100000 in
theorem ggX11_size_X11_itemOf : GoodIn wsX11_size (wsX11_itemOf) := zk q_wsX11_size q_wsX11_itemOf k_wsX11_size k_wsX11_itemOf (by decide +kernel) (by decide +kernel)
set_option maxRecDepth 100000 in
theorem gX11_size_X11_itemOf : GoodIn wsX11_size (wsV RX11 75 RX11 yX11_itemOf wsX11_itemOf) := goodIn_app (zk q_wsX11_size (zq_c (i := 230) rfl (zq_c (i := 232) rfl (zq_c (i := 1) rfl (zq_c (i := 53) rfl zq_nil)))) k_wsX11_size rfl (by decide +kernel) (by decide +kernel)) (ggX11_size_X11_itemOf)
set_option maxRecDepth 100000 in
theorem ggX11_size_X11_isSquare : GoodIn wsX11_size (wsX11_isSquare) := zk q_wsX11_size q_wsX11_isSquare k_wsX11_size k_wsX11_isSquare (by decide +kernel) (by decide +kernel)
set_option maxRecDepth 100000 in
theorem gX11_size_X11_isSquare : GoodIn wsX11_size (va_wsS RX11 93 yX11_isSquare wsX11_isSquare) := goodIn_app (zk q_wsX11_size (zq_c (i := 293) rfl (zq_c (i := 294) rfl (zq_c (i := 53) rfl zq_nil))) k_wsX11_size rfl (by decide +kernel) (by decide +kernel)) (ggX11_size_X11_isSquare)
set_option maxRecDepth 100000 in
theorem ggX11_size_X7_takeSize : GoodIn wsX11_size (wsX7_takeSize) := zk q_wsX11_size q_wsX7_takeSize k_wsX11_size k_wsX7_takeSize (by decide +kernel) (by decide +kernel)
set_option maxRecDepth 100000 in
theorem gX11_size_X7_takeSize : GoodIn wsX11_size (wsV RX11 97 RX7 yX7_takeSize wsX7_takeSize) := goodIn_app (zk q_wsX11_size (zq_c (i := 296) rfl (zq_c (i := 297) rfl (zq_c (i := 298) rfl (zq_c (i := 60) rfl zq_nil)))) k_wsX11_size rfl (by decide +kernel) (by decide +kernel)) (ggX11_size_X7_takeSize)
set_option maxRecDepth 100000 in
theorem ggX11_paid_X11_isBuyer : GoodIn wsX11_paid (wsX11_isBuyer) := zk q_wsX11_paid q_wsX11_isBuyer k_wsX11_paid k_wsX11_isBuyer (by decide +kernel) (by decide +kernel)
set_option maxRecDepth 100000 in
theorem gX11_paid_X11_isBuyer : GoodIn wsX11_paid (va_wsS RX11 101 yX11_isBuyer wsX11_isBuyer) := goodIn_app (zk q_wsX11_paid (zq_c (i := 304) rfl (zq_c (i := 305) rfl (zq_c (i := 53) rfl zq_nil))) k_wsX11_paid rfl (by decide +kernel) (by decide +kernel)) (ggX11_paid_X11_isBuyer)
set_option maxRecDepth 100000 in
theorem ggX11_paid_X11_isPage : GoodIn wsX11_paid (wsX11_isPage) := zk q_wsX11_paid q_wsX11_isPage k_wsX11_paid k_wsX11_isPage (by decide +kernel) (by decide +kernel)
set_option maxRecDepth 100000 in
theorem gX11_paid_X11_isPage : GoodIn wsX11_paid (va_wsS RX11 48 yX11_isPage wsX11_isPage) := goodIn_app (zk q_wsX11_paid (zq_c (i := 144) rfl (zq_c (i := 145) rfl (zq_c (i := 53) rfl zq_nil))) k_wsX11_paid rfl (by decide +kernel) (by decide +kernel)) (ggX11_paid_X11_isPage)
set_option maxRecDepth 100000 in
theorem ggX11_paid_X11_isSquare : GoodIn wsX11_paid (wsX11_isSquare) := zk q_wsX11_paid q_wsX11_isSquare k_wsX11_paid k_wsX11_isSquare (by decide +kernel) (by decide +kernel)
set_option maxRecDepth 100000 in
theorem gX11_paid_X11_isSquare : GoodIn wsX11_paid (va_wsS RX11 93 yX11_isSquare wsX11_isSquare) := goodIn_app (zk q_wsX11_paid (zq_c (i := 293) rfl (zq_c (i := 294) rfl (zq_c (i := 53) rfl zq_nil))) k_wsX11_paid rfl (by decide +kernel) (by decide +kernel)) (ggX11_paid_X11_isSquare)
set_option maxRecDepth 100000 in
theorem ggX11_paid_X11_isWithin : GoodIn wsX11_paid (wsX11_isWithin) := zk q_wsX11_paid q_wsX11_isWithin k_wsX11_paid k_wsX11_isWithin (by decide +kernel) (by decide +kernel)
set_option maxRecDepth 100000 in
theorem gX11_paid_X11_isWithin : GoodIn wsX11_paid (va_wsS RX11 55 yX11_isWithin wsX11_isWithin) := goodIn_app (zk q_wsX11_paid (zq_c (i := 147) rfl (zq_c (i := 148) rfl (zq_c (i := 53) rfl zq_nil))) k_wsX11_paid rfl (by decide +kernel) (by decide +kernel)) (ggX11_paid_X11_isWithin)
set_option maxRecDepth 100000 in
theorem gX11_paid_X8_init : GoodIn wsX11_paid (wsX8_init) := zk q_wsX11_paid q_wsX8_init k_wsX11_paid k_wsX8_init (by decide +kernel) (by decide +kernel)
set_option maxRecDepth 100000 in
theorem gX11_paid_X6_init : GoodIn wsX11_paid (wsX6_init) := zk q_wsX11_paid q_wsX6_init k_wsX11_paid k_wsX6_init (by decide +kernel) (by decide +kernel)
set_option maxRecDepth 100000 in
theorem ggX11_paid_X11_enter : GoodIn wsX11_paid (wsX11_enter) := zk q_wsX11_paid q_wsX11_enter k_wsX11_paid k_wsX11_enter (by decide +kernel) (by decide +kernel)
set_option maxRecDepth 100000 in
theorem gX11_paid_X11_enter : GoodIn wsX11_paid (wsV RX11 71 RX11 yX11_enter wsX11_enter) := goodIn_app (zk q_wsX11_paid (zq_c (i := 222) rfl (zq_c (i := 224) rfl (zq_c (i := 0) rfl (zq_c (i := 53) rfl zq_nil)))) k_wsX11_paid rfl (by decide +kernel) (by decide +kernel)) (ggX11_paid_X11_enter)
set_option maxRecDepth 100000 in
theorem ggX11_filler_X11_isWithin : GoodIn wsX11_filler (wsX11_isWithin) := zk q_wsX11_filler q_wsX11_isWithin k_wsX11_filler k_wsX11_isWithin (by decide +kernel) (by decide +kernel)
set_option maxRecDepth 100000 in
theorem gX11_filler_X11_isWithin : GoodIn wsX11_filler (va_wsS RX11 55 yX11_isWithin wsX11_isWithin) := goodIn_app (zk q_wsX11_filler (zq_c (i := 147) rfl (zq_c (i := 148) rfl (zq_c (i := 53) rfl zq_nil))) k_wsX11_filler rfl (by decide +kernel) (by decide +kernel)) (ggX11_filler_X11_isWithin)
set_option maxRecDepth 100000 in
theorem gX11_filler_X2_init : GoodIn wsX11_filler (wsX2_init) := zk q_wsX11_filler q_wsX2_init k_wsX11_filler k_wsX2_init (by decide +kernel) (by decide +kernel)
set_option maxRecDepth 100000 in
theorem ggX11_filler_X11_enter : GoodIn wsX11_filler (wsX11_enter) := zk q_wsX11_filler q_wsX11_enter k_wsX11_filler k_wsX11_enter (by decide +kernel) (by decide +kernel)
set_option maxRecDepth 100000 in
theorem gX11_filler_X11_enter : GoodIn wsX11_filler (wsV RX11 71 RX11 yX11_enter wsX11_enter) := goodIn_app (zk q_wsX11_filler (zq_c (i := 222) rfl (zq_c (i := 224) rfl (zq_c (i := 0) rfl (zq_c (i := 53) rfl zq_nil)))) k_wsX11_filler rfl (by decide +kernel) (by decide +kernel)) (ggX11_filler_X11_enter)
set_option maxRecDepth 100000 in
theorem ggX11_notice_X11_itemOf : GoodIn wsX11_notice (wsX11_itemOf) := zk q_wsX11_notice q_wsX11_itemOf k_wsX11_notice k_wsX11_itemOf (by decide +kernel) (by decide +kernel)
set_option maxRecDepth 100000 in
theorem gX11_notice_X11_itemOf : GoodIn wsX11_notice (wsV RX11 75 RX11 yX11_itemOf wsX11_itemOf) := goodIn_app (zk q_wsX11_notice (zq_c (i := 230) rfl (zq_c (i := 232) rfl (zq_c (i := 1) rfl (zq_c (i := 53) rfl zq_nil)))) k_wsX11_notice rfl (by decide +kernel) (by decide +kernel)) (ggX11_notice_X11_itemOf)
set_option maxRecDepth 100000 in
theorem ggX11_notice_X11_isWithin : GoodIn wsX11_notice (wsX11_isWithin) := zk q_wsX11_notice q_wsX11_isWithin k_wsX11_notice k_wsX11_isWithin (by decide +kernel) (by decide +kernel)
set_option maxRecDepth 100000 in
theorem gX11_notice_X11_isWithin : GoodIn wsX11_notice (va_wsS RX11 55 yX11_isWithin wsX11_isWithin) := goodIn_app (zk q_wsX11_notice (zq_c (i := 147) rfl (zq_c (i := 148) rfl (zq_c (i := 53) rfl zq_nil))) k_wsX11_notice rfl (by decide +kernel) (by decide +kernel)) (ggX11_notice_X11_isWithin)
set_option maxRecDepth 100000 in
theorem ggX11_notice_X11_firstPrinting : GoodIn wsX11_notice (wsX11_firstPrinting) := zk q_wsX11_notice q_wsX11_firstPrinting k_wsX11_notice k_wsX11_firstPrinting (by decide +kernel) (by decide +kernel)
set_option maxRecDepth 100000 in
theorem gX11_notice_X11_firstPrinting : GoodIn wsX11_notice (wsV RX11 121 RX11 yX11_firstPrinting wsX11_firstPrinting) := goodIn_app (zk q_wsX11_notice (zq_c (i := 405) rfl (zq_c (i := 407) rfl (zq_c (i := 2) rfl (zq_c (i := 53) rfl zq_nil)))) k_wsX11_notice rfl (by decide +kernel) (by decide +kernel)) (ggX11_notice_X11_firstPrinting)
set_option maxRecDepth 100000 in
theorem ggX11_notice_X11_hasNotice : GoodIn wsX11_notice (wsX11_hasNotice) := zk q_wsX11_notice q_wsX11_hasNotice k_wsX11_notice k_wsX11_hasNotice (by decide +kernel) (by decide +kernel)
set_option maxRecDepth 100000 in
theorem gX11_notice_X11_hasNotice : GoodIn wsX11_notice (wsV RX11 125 RX11 yX11_hasNotice wsX11_hasNotice) := goodIn_app (zk q_wsX11_notice (zq_c (i := 431) rfl (zq_c (i := 433) rfl (zq_c (i := 6) rfl (zq_c (i := 53) rfl zq_nil)))) k_wsX11_notice rfl (by decide +kernel) (by decide +kernel)) (ggX11_notice_X11_hasNotice)
set_option maxRecDepth 100000 in
theorem gX11_notice_X5_init : GoodIn wsX11_notice (wsX5_init) := zk q_wsX11_notice q_wsX5_init k_wsX11_notice k_wsX5_init (by decide +kernel) (by decide +kernel)
set_option maxRecDepth 100000 in
theorem ggX11_notice_X11_enter : GoodIn wsX11_notice (wsX11_enter) := zk q_wsX11_notice q_wsX11_enter k_wsX11_notice k_wsX11_enter (by decide +kernel) (by decide +kernel)
set_option maxRecDepth 100000 in
theorem gX11_notice_X11_enter : GoodIn wsX11_notice (wsV RX11 71 RX11 yX11_enter wsX11_enter) := goodIn_app (zk q_wsX11_notice (zq_c (i := 222) rfl (zq_c (i := 224) rfl (zq_c (i := 0) rfl (zq_c (i := 53) rfl zq_nil)))) k_wsX11_notice rfl (by decide +kernel) (by decide +kernel)) (ggX11_notice_X11_enter)
set_option maxRecDepth 100000 in
theorem ggX11_rival_X11_isBuyer : GoodIn wsX11_rival (wsX11_isBuyer) := zk q_wsX11_rival q_wsX11_isBuyer k_wsX11_rival k_wsX11_isBuyer (by decide +kernel) (by decide +kernel)
set_option maxRecDepth 100000 in
theorem gX11_rival_X11_isBuyer : GoodIn wsX11_rival (va_wsS RX11 101 yX11_isBuyer wsX11_isBuyer) := goodIn_app (zk q_wsX11_rival (zq_c (i := 304) rfl (zq_c (i := 305) rfl (zq_c (i := 53) rfl zq_nil))) k_wsX11_rival rfl (by decide +kernel) (by decide +kernel)) (ggX11_rival_X11_isBuyer)
set_option maxRecDepth 100000 in
theorem ggX11_rival_X11_areRivals : GoodIn wsX11_rival (wsX11_areRivals) := zk q_wsX11_rival q_wsX11_areRivals k_wsX11_rival k_wsX11_areRivals (by decide +kernel) (by decide +kernel)
set_option maxRecDepth 100000 in
theorem gX11_rival_X11_areRivals : GoodIn wsX11_rival (wsV RX11 132 RX11 yX11_areRivals wsX11_areRivals) := goodIn_app (zk q_wsX11_rival (zq_c (i := 457) rfl (zq_c (i := 459) rfl (zq_c (i := 7) rfl (zq_c (i := 53) rfl zq_nil)))) k_wsX11_rival rfl (by decide +kernel) (by decide +kernel)) (ggX11_rival_X11_areRivals)
set_option maxRecDepth 100000 in
theorem ggX11_names_X11_itemOf : GoodIn wsX11_names (wsX11_itemOf) := zk q_wsX11_names q_wsX11_itemOf k_wsX11_names k_wsX11_itemOf (by decide +kernel) (by decide +kernel)
set_option maxRecDepth 100000 in
theorem gX11_names_X11_itemOf : GoodIn wsX11_names (wsV RX11 75 RX11 yX11_itemOf wsX11_itemOf) := goodIn_app (zk q_wsX11_names (zq_c (i := 230) rfl (zq_c (i := 232) rfl (zq_c (i := 1) rfl (zq_c (i := 53) rfl zq_nil)))) k_wsX11_names rfl (by decide +kernel) (by decide +kernel)) (ggX11_names_X11_itemOf)
set_option maxRecDepth 100000 in
theorem ggX11_names_X11_isBuyer : GoodIn wsX11_names (wsX11_isBuyer) := zk q_wsX11_names q_wsX11_isBuyer k_wsX11_names k_wsX11_isBuyer (by decide +kernel) (by decide +kernel)
set_option maxRecDepth 100000 in
theorem gX11_names_X11_isBuyer : GoodIn wsX11_names (va_wsS RX11 101 yX11_isBuyer wsX11_isBuyer) := goodIn_app (zk q_wsX11_names (zq_c (i := 304) rfl (zq_c (i := 305) rfl (zq_c (i := 53) rfl zq_nil))) k_wsX11_names rfl (by decide +kernel) (by decide +kernel)) (ggX11_names_X11_isBuyer)
set_option maxRecDepth 100000 in
theorem ggX11_put_X11_itemOf : GoodIn wsX11_put (wsX11_itemOf) := zk q_wsX11_put q_wsX11_itemOf k_wsX11_put k_wsX11_itemOf (by decide +kernel) (by decide +kernel)
set_option maxRecDepth 100000 in
theorem gX11_put_X11_itemOf : GoodIn wsX11_put (wsV RX11 75 RX11 yX11_itemOf wsX11_itemOf) := goodIn_app (zk q_wsX11_put (zq_c (i := 230) rfl (zq_c (i := 232) rfl (zq_c (i := 1) rfl (zq_c (i := 53) rfl zq_nil)))) k_wsX11_put rfl (by decide +kernel) (by decide +kernel)) (ggX11_put_X11_itemOf)
set_option maxRecDepth 100000 in
theorem ggX11_put_X11_isPage : GoodIn wsX11_put (wsX11_isPage) := zk q_wsX11_put q_wsX11_isPage k_wsX11_put k_wsX11_isPage (by decide +kernel) (by decide +kernel)
set_option maxRecDepth 100000 in
theorem gX11_put_X11_isPage : GoodIn wsX11_put (va_wsS RX11 48 yX11_isPage wsX11_isPage) := goodIn_app (zk q_wsX11_put (zq_c (i := 144) rfl (zq_c (i := 145) rfl (zq_c (i := 53) rfl zq_nil))) k_wsX11_put rfl (by decide +kernel) (by decide +kernel)) (ggX11_put_X11_isPage)
set_option maxRecDepth 100000 in
theorem ggX11_put_X11_canAct : GoodIn wsX11_put (wsX11_canAct) := zk q_wsX11_put q_wsX11_canAct k_wsX11_put k_wsX11_canAct (by decide +kernel) (by decide +kernel)
set_option maxRecDepth 100000 in
theorem gX11_put_X11_canAct : GoodIn wsX11_put (wsV RX11 138 RX11 yX11_canAct wsX11_canAct) := goodIn_app (zk q_wsX11_put (zq_c (i := 469) rfl (zq_c (i := 471) rfl (zq_c (i := 8) rfl (zq_c (i := 53) rfl zq_nil)))) k_wsX11_put rfl (by decide +kernel) (by decide +kernel)) (ggX11_put_X11_canAct)
set_option maxRecDepth 100000 in
theorem gX11_put_X4_columnsBy_u142X2 : GoodIn wsX11_put (va_wsU RX11 142 RX2 "PageOne$Item" ⟨"PageOne$Item", "columnsBy", "(I)I"⟩ yX4_columnsBy wsX4_columnsBy) := goodIn_app (zk q_wsX11_put (zq_c (i := 473) rfl (zq_c (i := 475) rfl (zq_c (i := 476) rfl (zq_c (i := 474) rfl (zq_c (i := 57) rfl zq_nil))))) k_wsX11_put rfl (by decide +kernel) (by decide +kernel)) (zk q_wsX11_put q_wsX4_columnsBy k_wsX11_put k_wsX4_columnsBy (by decide +kernel) (by decide +kernel))
set_option maxRecDepth 100000 in
theorem gX11_put_X3_columnsBy_u142X3 : GoodIn wsX11_put (va_wsO RX11 142 RX3 "PageOne$Item" ⟨"PageOne$Item", "columnsBy", "(I)I"⟩ yX3_columnsBy wsX3_columnsBy) := goodIn_app (zk q_wsX11_put (zq_c (i := 473) rfl (zq_c (i := 475) rfl (zq_c (i := 474) rfl (zq_c (i := 477) rfl (zq_c (i := 478) rfl (zq_c (i := 59) rfl zq_nil)))))) k_wsX11_put rfl (by decide +kernel) (by decide +kernel)) (zk q_wsX11_put q_wsX3_columnsBy k_wsX11_put k_wsX3_columnsBy (by decide +kernel) (by decide +kernel))
set_option maxRecDepth 100000 in
theorem gX11_put_X4_columnsBy_u142X5 : GoodIn wsX11_put (va_wsU RX11 142 RX5 "PageOne$Item" ⟨"PageOne$Item", "columnsBy", "(I)I"⟩ yX4_columnsBy wsX4_columnsBy) := goodIn_app (zk q_wsX11_put (zq_c (i := 473) rfl (zq_c (i := 475) rfl (zq_c (i := 480) rfl (zq_c (i := 474) rfl (zq_c (i := 57) rfl zq_nil))))) k_wsX11_put rfl (by decide +kernel) (by decide +kernel)) (zk q_wsX11_put q_wsX4_columnsBy k_wsX11_put k_wsX4_columnsBy (by decide +kernel) (by decide +kernel))
set_option maxRecDepth 100000 in
theorem gX11_put_X6_columnsBy_u142X6 : GoodIn wsX11_put (va_wsO RX11 142 RX6 "PageOne$Item" ⟨"PageOne$Item", "columnsBy", "(I)I"⟩ yX6_columnsBy wsX6_columnsBy) := goodIn_app (zk q_wsX11_put (zq_c (i := 473) rfl (zq_c (i := 475) rfl (zq_c (i := 474) rfl (zq_c (i := 481) rfl (zq_c (i := 482) rfl (zq_c (i := 61) rfl zq_nil)))))) k_wsX11_put rfl (by decide +kernel) (by decide +kernel)) (zk q_wsX11_put q_wsX6_columnsBy k_wsX11_put k_wsX6_columnsBy (by decide +kernel) (by decide +kernel))
set_option maxRecDepth 100000 in
theorem gX11_put_X7_columnsBy_u142X7 : GoodIn wsX11_put (va_wsO RX11 142 RX7 "PageOne$Item" ⟨"PageOne$Item", "columnsBy", "(I)I"⟩ yX7_columnsBy wsX7_columnsBy) := goodIn_app (zk q_wsX11_put (zq_c (i := 473) rfl (zq_c (i := 475) rfl (zq_c (i := 474) rfl (zq_c (i := 484) rfl (zq_c (i := 485) rfl (zq_c (i := 60) rfl zq_nil)))))) k_wsX11_put rfl (by decide +kernel) (by decide +kernel)) (zk q_wsX11_put q_wsX7_columnsBy k_wsX11_put k_wsX7_columnsBy (by decide +kernel) (by decide +kernel))
set_option maxRecDepth 100000 in
theorem gX11_put_X4_columnsBy_u142X10 : GoodIn wsX11_put (va_wsU RX11 142 RX10 "PageOne$Item" ⟨"PageOne$Item", "columnsBy", "(I)I"⟩ yX4_columnsBy wsX4_columnsBy) := goodIn_app (zk q_wsX11_put (zq_c (i := 473) rfl (zq_c (i := 475) rfl (zq_c (i := 488) rfl (zq_c (i := 474) rfl (zq_c (i := 57) rfl zq_nil))))) k_wsX11_put rfl (by decide +kernel) (by decide +kernel)) (zk q_wsX11_put q_wsX4_columnsBy k_wsX11_put k_wsX4_columnsBy (by decide +kernel) (by decide +kernel))
set_option maxRecDepth 100000 in
theorem gX11_put_X2_linesBy_u145X2 : GoodIn wsX11_put (va_wsU RX11 145 RX2 "PageOne$Item" ⟨"PageOne$Item", "linesBy", "(I)I"⟩ yX2_linesBy wsX2_linesBy) := goodIn_app (zk q_wsX11_put (zq_c (i := 490) rfl (zq_c (i := 492) rfl (zq_c (i := 493) rfl (zq_c (i := 494) rfl (zq_c (i := 63) rfl zq_nil))))) k_wsX11_put rfl (by decide +kernel) (by decide +kernel)) (zk q_wsX11_put q_wsX2_linesBy k_wsX11_put k_wsX2_linesBy (by decide +kernel) (by decide +kernel))
set_option maxRecDepth 100000 in
theorem gX11_put_X3_linesBy_u145X3 : GoodIn wsX11_put (va_wsU RX11 145 RX3 "PageOne$Item" ⟨"PageOne$Item", "linesBy", "(I)I"⟩ yX3_linesBy wsX3_linesBy) := goodIn_app (zk q_wsX11_put (zq_c (i := 490) rfl (zq_c (i := 492) rfl (zq_c (i := 497) rfl (zq_c (i := 498) rfl (zq_c (i := 59) rfl zq_nil))))) k_wsX11_put rfl (by decide +kernel) (by decide +kernel)) (zk q_wsX11_put q_wsX3_linesBy k_wsX11_put k_wsX3_linesBy (by decide +kernel) (by decide +kernel))
set_option maxRecDepth 100000 in
theorem gX11_put_X5_linesBy_u145X5 : GoodIn wsX11_put (va_wsU RX11 145 RX5 "PageOne$Item" ⟨"PageOne$Item", "linesBy", "(I)I"⟩ yX5_linesBy wsX5_linesBy) := goodIn_app (zk q_wsX11_put (zq_c (i := 490) rfl (zq_c (i := 492) rfl (zq_c (i := 500) rfl (zq_c (i := 501) rfl (zq_c (i := 64) rfl zq_nil))))) k_wsX11_put rfl (by decide +kernel) (by decide +kernel)) (zk q_wsX11_put q_wsX5_linesBy k_wsX11_put k_wsX5_linesBy (by decide +kernel) (by decide +kernel))
set_option maxRecDepth 100000 in
theorem gX11_put_X6_linesBy_u145X6 : GoodIn wsX11_put (va_wsU RX11 145 RX6 "PageOne$Item" ⟨"PageOne$Item", "linesBy", "(I)I"⟩ yX6_linesBy wsX6_linesBy) := goodIn_app (zk q_wsX11_put (zq_c (i := 490) rfl (zq_c (i := 492) rfl (zq_c (i := 503) rfl (zq_c (i := 504) rfl (zq_c (i := 61) rfl zq_nil))))) k_wsX11_put rfl (by decide +kernel) (by decide +kernel)) (zk q_wsX11_put q_wsX6_linesBy k_wsX11_put k_wsX6_linesBy (by decide +kernel) (by decide +kernel))
set_option maxRecDepth 100000 in
theorem gX11_put_X7_linesBy_u145X7 : GoodIn wsX11_put (va_wsU RX11 145 RX7 "PageOne$Item" ⟨"PageOne$Item", "linesBy", "(I)I"⟩ yX7_linesBy wsX7_linesBy) := goodIn_app (zk q_wsX11_put (zq_c (i := 490) rfl (zq_c (i := 492) rfl (zq_c (i := 506) rfl (zq_c (i := 507) rfl (zq_c (i := 60) rfl zq_nil))))) k_wsX11_put rfl (by decide +kernel) (by decide +kernel)) (zk q_wsX11_put q_wsX7_linesBy k_wsX11_put k_wsX7_linesBy (by decide +kernel) (by decide +kernel))
set_option maxRecDepth 100000 in
theorem gX11_put_X10_linesBy_u145X10 : GoodIn wsX11_put (va_wsU RX11 145 RX10 "PageOne$Item" ⟨"PageOne$Item", "linesBy", "(I)I"⟩ yX10_linesBy wsX10_linesBy) := goodIn_app (zk q_wsX11_put (zq_c (i := 490) rfl (zq_c (i := 492) rfl (zq_c (i := 509) rfl (zq_c (i := 510) rfl (zq_c (i := 58) rfl zq_nil))))) k_wsX11_put rfl (by decide +kernel) (by decide +kernel)) (zk q_wsX11_put q_wsX10_linesBy k_wsX11_put k_wsX10_linesBy (by decide +kernel) (by decide +kernel))
set_option maxRecDepth 100000 in
theorem gX11_put_X8_init : GoodIn wsX11_put (wsX8_init) := zk q_wsX11_put q_wsX8_init k_wsX11_put k_wsX8_init (by decide +kernel) (by decide +kernel)
set_option maxRecDepth 100000 in
theorem gX11_put_X4_hasRoom_u148X2 : GoodIn wsX11_put (va_wsU RX11 148 RX2 "PageOne$Item" ⟨"PageOne$Item", "hasRoom", "()Z"⟩ yX4_hasRoom wsX4_hasRoom) := goodIn_app (zk q_wsX11_put (zq_c (i := 513) rfl (zq_c (i := 515) rfl (zq_c (i := 516) rfl (zq_c (i := 514) rfl (zq_c (i := 57) rfl zq_nil))))) k_wsX11_put rfl (by decide +kernel) (by decide +kernel)) (zk q_wsX11_put q_wsX4_hasRoom k_wsX11_put k_wsX4_hasRoom (by decide +kernel) (by decide +kernel))
set_option maxRecDepth 100000 in
theorem gX11_put_X4_hasRoom_u148X3 : GoodIn wsX11_put (va_wsU RX11 148 RX3 "PageOne$Item" ⟨"PageOne$Item", "hasRoom", "()Z"⟩ yX4_hasRoom wsX4_hasRoom) := goodIn_app (zk q_wsX11_put (zq_c (i := 513) rfl (zq_c (i := 515) rfl (zq_c (i := 517) rfl (zq_c (i := 514) rfl (zq_c (i := 57) rfl zq_nil))))) k_wsX11_put rfl (by decide +kernel) (by decide +kernel)) (zk q_wsX11_put q_wsX4_hasRoom k_wsX11_put k_wsX4_hasRoom (by decide +kernel) (by decide +kernel))
set_option maxRecDepth 100000 in
theorem gX11_put_X4_hasRoom_u148X5 : GoodIn wsX11_put (va_wsU RX11 148 RX5 "PageOne$Item" ⟨"PageOne$Item", "hasRoom", "()Z"⟩ yX4_hasRoom wsX4_hasRoom) := goodIn_app (zk q_wsX11_put (zq_c (i := 513) rfl (zq_c (i := 515) rfl (zq_c (i := 518) rfl (zq_c (i := 514) rfl (zq_c (i := 57) rfl zq_nil))))) k_wsX11_put rfl (by decide +kernel) (by decide +kernel)) (zk q_wsX11_put q_wsX4_hasRoom k_wsX11_put k_wsX4_hasRoom (by decide +kernel) (by decide +kernel))
set_option maxRecDepth 100000 in
theorem gX11_put_X4_hasRoom_u148X6 : GoodIn wsX11_put (va_wsU RX11 148 RX6 "PageOne$Item" ⟨"PageOne$Item", "hasRoom", "()Z"⟩ yX4_hasRoom wsX4_hasRoom) := goodIn_app (zk q_wsX11_put (zq_c (i := 513) rfl (zq_c (i := 515) rfl (zq_c (i := 519) rfl (zq_c (i := 514) rfl (zq_c (i := 57) rfl zq_nil))))) k_wsX11_put rfl (by decide +kernel) (by decide +kernel)) (zk q_wsX11_put q_wsX4_hasRoom k_wsX11_put k_wsX4_hasRoom (by decide +kernel) (by decide +kernel))
set_option maxRecDepth 100000 in
theorem gX11_put_X4_hasRoom_u148X7 : GoodIn wsX11_put (va_wsU RX11 148 RX7 "PageOne$Item" ⟨"PageOne$Item", "hasRoom", "()Z"⟩ yX4_hasRoom wsX4_hasRoom) := goodIn_app (zk q_wsX11_put (zq_c (i := 513) rfl (zq_c (i := 515) rfl (zq_c (i := 520) rfl (zq_c (i := 514) rfl (zq_c (i := 57) rfl zq_nil))))) k_wsX11_put rfl (by decide +kernel) (by decide +kernel)) (zk q_wsX11_put q_wsX4_hasRoom k_wsX11_put k_wsX4_hasRoom (by decide +kernel) (by decide +kernel))
set_option maxRecDepth 100000 in
theorem gX11_put_X4_hasRoom_u148X10 : GoodIn wsX11_put (va_wsU RX11 148 RX10 "PageOne$Item" ⟨"PageOne$Item", "hasRoom", "()Z"⟩ yX4_hasRoom wsX4_hasRoom) := goodIn_app (zk q_wsX11_put (zq_c (i := 513) rfl (zq_c (i := 515) rfl (zq_c (i := 521) rfl (zq_c (i := 514) rfl (zq_c (i := 57) rfl zq_nil))))) k_wsX11_put rfl (by decide +kernel) (by decide +kernel)) (zk q_wsX11_put q_wsX4_hasRoom k_wsX11_put k_wsX4_hasRoom (by decide +kernel) (by decide +kernel))
set_option maxRecDepth 100000 in
theorem ggX11_put_X9_isFree : GoodIn wsX11_put (wsX9_isFree) := zk q_wsX11_put q_wsX9_isFree k_wsX11_put k_wsX9_isFree (by decide +kernel) (by decide +kernel)
set_option maxRecDepth 100000 in
theorem gX11_put_X9_isFree : GoodIn wsX11_put (wsV RX11 151 RX9 yX9_isFree wsX9_isFree) := goodIn_app (zk q_wsX11_put (zq_c (i := 523) rfl (zq_c (i := 524) rfl (zq_c (i := 525) rfl (zq_c (i := 54) rfl zq_nil)))) k_wsX11_put rfl (by decide +kernel) (by decide +kernel)) (ggX11_put_X9_isFree)
set_option maxRecDepth 100000 in
theorem gX11_put_X4_maySit_u155X2 : GoodIn wsX11_put (va_wsU RX11 155 RX2 "PageOne$Item" ⟨"PageOne$Item", "maySit", "(LPageOne$Piece;II)Z"⟩ yX4_maySit wsX4_maySit) := goodIn_app (zk q_wsX11_put (zq_c (i := 528) rfl (zq_c (i := 530) rfl (zq_c (i := 531) rfl (zq_c (i := 529) rfl (zq_c (i := 57) rfl zq_nil))))) k_wsX11_put rfl (by decide +kernel) (by decide +kernel)) (zk q_wsX11_put q_wsX4_maySit k_wsX11_put k_wsX4_maySit (by decide +kernel) (by decide +kernel))
set_option maxRecDepth 100000 in
theorem gX11_put_X4_maySit_u155X3 : GoodIn wsX11_put (va_wsU RX11 155 RX3 "PageOne$Item" ⟨"PageOne$Item", "maySit", "(LPageOne$Piece;II)Z"⟩ yX4_maySit wsX4_maySit) := goodIn_app (zk q_wsX11_put (zq_c (i := 528) rfl (zq_c (i := 530) rfl (zq_c (i := 532) rfl (zq_c (i := 529) rfl (zq_c (i := 57) rfl zq_nil))))) k_wsX11_put rfl (by decide +kernel) (by decide +kernel)) (zk q_wsX11_put q_wsX4_maySit k_wsX11_put k_wsX4_maySit (by decide +kernel) (by decide +kernel))
set_option maxRecDepth 100000 in
theorem gX11_put_X5_maySit_u155X5 : GoodIn wsX11_put (va_wsO RX11 155 RX5 "PageOne$Item" ⟨"PageOne$Item", "maySit", "(LPageOne$Piece;II)Z"⟩ yX5_maySit wsX5_maySit) := goodIn_app (zk q_wsX11_put (zq_c (i := 528) rfl (zq_c (i := 530) rfl (zq_c (i := 529) rfl (zq_c (i := 533) rfl (zq_c (i := 534) rfl (zq_c (i := 64) rfl zq_nil)))))) k_wsX11_put rfl (by decide +kernel) (by decide +kernel)) (zk q_wsX11_put q_wsX5_maySit k_wsX11_put k_wsX5_maySit (by decide +kernel) (by decide +kernel))
set_option maxRecDepth 100000 in
theorem gX11_put_X6_maySit_u155X6 : GoodIn wsX11_put (va_wsO RX11 155 RX6 "PageOne$Item" ⟨"PageOne$Item", "maySit", "(LPageOne$Piece;II)Z"⟩ yX6_maySit wsX6_maySit) := goodIn_app (zk q_wsX11_put (zq_c (i := 528) rfl (zq_c (i := 530) rfl (zq_c (i := 529) rfl (zq_c (i := 537) rfl (zq_c (i := 538) rfl (zq_c (i := 61) rfl zq_nil)))))) k_wsX11_put rfl (by decide +kernel) (by decide +kernel)) (zk q_wsX11_put q_wsX6_maySit k_wsX11_put k_wsX6_maySit (by decide +kernel) (by decide +kernel))
set_option maxRecDepth 100000 in
theorem gX11_put_X4_maySit_u155X7 : GoodIn wsX11_put (va_wsU RX11 155 RX7 "PageOne$Item" ⟨"PageOne$Item", "maySit", "(LPageOne$Piece;II)Z"⟩ yX4_maySit wsX4_maySit) := goodIn_app (zk q_wsX11_put (zq_c (i := 528) rfl (zq_c (i := 530) rfl (zq_c (i := 544) rfl (zq_c (i := 529) rfl (zq_c (i := 57) rfl zq_nil))))) k_wsX11_put rfl (by decide +kernel) (by decide +kernel)) (zk q_wsX11_put q_wsX4_maySit k_wsX11_put k_wsX4_maySit (by decide +kernel) (by decide +kernel))
