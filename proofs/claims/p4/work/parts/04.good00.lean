theorem goodIn_r {big : List Cond} (ws : List Cond) (ps : List Nat) (hp : ws = ps.filterMap (fun i => big[i]?)) (h : ws.all goodWord = true) : GoodIn big ws := by
  intro w hw
  have h1 := List.all_eq_true.mp h w hw
  rw [hp] at hw
  obtain ⟨i, -, hi⟩ := List.mem_filterMap.mp hw
  have hm : w ∈ big := by first | exact List.mem_of_getElem? hi | exact List.getElem?_mem hi
  exact ⟨hm, good_of_word h1⟩
theorem goodIn_app {big a b : List Cond} (ha : GoodIn big a) (hb : GoodIn big b) : GoodIn big (a ++ b) := fun w h => (List.mem_append.mp h).elim (ha w) (hb w)
theorem goodIn_sub {big ws : List Cond} (hm : ∀ w ∈ ws, w ∈ big) (h : ws.all goodWord = true) : GoodIn big ws := fun w hw => ⟨hm w hw, good_of_word (List.all_eq_true.mp h w hw)⟩
set_option maxRecDepth 20000 in
theorem ggX2_init_X4_init : GoodIn wsX2_init wsX4_init := goodIn_r _ [6, 7, 8, 9, 10, 11, 12, 13, 14, 15, 16, 17, 18, 19, 20, 21, 22, 23, 24, 25, 26, 27, 28, 29, 30, 31, 32, 33, 34, 35, 36, 37, 38, 39, 40, 41, 42, 43, 44, 45, 46, 47, 48, 49, 50, 51, 52, 53, 54, 55, 56, 57, 58, 59, 60, 61, 62, 63, 64, 65, 66, 67, 68, 69, 70, 71] (by decide +kernel) (by decide +kernel)
set_option maxRecDepth 20000 in
theorem gX2_init_X4_init : GoodIn wsX2_init (wsX4_init) := ggX2_init_X4_init
set_option maxRecDepth 20000 in
theorem ggX2_linesBy_X11_isWithin : GoodIn wsX2_linesBy wsX11_isWithin := goodIn_r _ [5] (by decide +kernel) (by decide +kernel)
set_option maxRecDepth 20000 in
theorem gX2_linesBy_X11_isWithin_n18 : GoodIn wsX2_linesBy (wsX11_isWithin) := ggX2_linesBy_X11_isWithin
set_option maxRecDepth 20000 in
theorem ggX3_init_X4_init : GoodIn wsX3_init wsX4_init := goodIn_r _ [7, 8, 9, 10, 11, 12, 13, 14, 15, 16, 17, 18, 19, 20, 21, 22, 23, 24, 33, 34, 35, 36, 37, 38, 39, 25, 26, 27, 28, 29, 30, 31, 32, 40, 41, 42, 43, 44, 45, 46, 47, 48, 49, 50, 51, 52, 53, 54, 55, 56, 57, 58, 59, 60, 61, 62, 63, 64, 65, 66, 67, 68, 69, 70, 71, 72] (by decide +kernel) (by decide +kernel)
set_option maxRecDepth 20000 in
theorem gX3_init_X4_init : GoodIn wsX3_init (wsX4_init) := ggX3_init_X4_init
set_option maxRecDepth 20000 in
theorem ggX4_init_X11_isWithin : GoodIn wsX4_init wsX11_isWithin := goodIn_r _ [13] (by decide +kernel) (by decide +kernel)
set_option maxRecDepth 20000 in
theorem gX4_init_X11_isWithin_n25 : GoodIn wsX4_init (wsX11_isWithin) := ggX4_init_X11_isWithin
set_option maxRecDepth 20000 in
theorem ggX4_init_J7_fill_53178 : GoodIn wsX4_init wsJ7_fill_53178 := goodIn_r _ [17] (by decide +kernel) (by decide +kernel)
set_option maxRecDepth 20000 in
theorem gX4_init_J7_fill_53178 : GoodIn wsX4_init (va_wsS RX4 35 yJ7_fill_53178 wsJ7_fill_53178) := goodIn_app (goodIn_of _ (by decide +kernel)) ggX4_init_J7_fill_53178
set_option maxRecDepth 20000 in
theorem ggX4_gain_X4_hasRoom : GoodIn wsX4_gain wsX4_hasRoom := goodIn_r _ [8, 2, 1, 14, 15, 16, 17, 18, 19, 20, 21, 22, 23, 24, 25, 26, 27, 28, 29, 30, 31, 32, 33, 34, 35, 36, 37, 38, 39, 40, 41, 42, 43, 44, 45, 46, 47, 48, 49, 50, 51, 52, 53, 54, 55, 56, 57, 58, 59, 60, 61] (by decide +kernel) (by decide +kernel)
set_option maxRecDepth 20000 in
theorem gX4_gain_X4_hasRoom_u41X2 : GoodIn wsX4_gain (va_wsU RX4 41 RX2 "PageOne$Item" ⟨"PageOne$Item", "hasRoom", "()Z"⟩ yX4_hasRoom wsX4_hasRoom) := goodIn_app (goodIn_of _ (by decide +kernel)) ggX4_gain_X4_hasRoom
set_option maxRecDepth 20000 in
theorem gX4_gain_X4_hasRoom_u41X3 : GoodIn wsX4_gain (va_wsU RX4 41 RX3 "PageOne$Item" ⟨"PageOne$Item", "hasRoom", "()Z"⟩ yX4_hasRoom wsX4_hasRoom) := goodIn_app (goodIn_of _ (by decide +kernel)) ggX4_gain_X4_hasRoom
set_option maxRecDepth 20000 in
theorem gX4_gain_X4_hasRoom_u41X5 : GoodIn wsX4_gain (va_wsU RX4 41 RX5 "PageOne$Item" ⟨"PageOne$Item", "hasRoom", "()Z"⟩ yX4_hasRoom wsX4_hasRoom) := goodIn_app (goodIn_of _ (by decide +kernel)) ggX4_gain_X4_hasRoom
set_option maxRecDepth 20000 in
theorem gX4_gain_X4_hasRoom_u41X6 : GoodIn wsX4_gain (va_wsU RX4 41 RX6 "PageOne$Item" ⟨"PageOne$Item", "hasRoom", "()Z"⟩ yX4_hasRoom wsX4_hasRoom) := goodIn_app (goodIn_of _ (by decide +kernel)) ggX4_gain_X4_hasRoom
set_option maxRecDepth 20000 in
theorem gX4_gain_X4_hasRoom_u41X7 : GoodIn wsX4_gain (va_wsU RX4 41 RX7 "PageOne$Item" ⟨"PageOne$Item", "hasRoom", "()Z"⟩ yX4_hasRoom wsX4_hasRoom) := goodIn_app (goodIn_of _ (by decide +kernel)) ggX4_gain_X4_hasRoom
set_option maxRecDepth 20000 in
theorem gX4_gain_X4_hasRoom_u41X10 : GoodIn wsX4_gain (va_wsU RX4 41 RX10 "PageOne$Item" ⟨"PageOne$Item", "hasRoom", "()Z"⟩ yX4_hasRoom wsX4_hasRoom) := goodIn_app (goodIn_of _ (by decide +kernel)) ggX4_gain_X4_hasRoom
set_option maxRecDepth 20000 in
theorem ggX4_meets_X4_touches : GoodIn wsX4_meets wsX4_touches := goodIn_r _ [9, 1, 2, 10, 11, 12, 13, 14, 15, 16, 17, 18, 19, 20, 21, 22, 23, 29, 30, 31, 32, 33, 34, 35, 36, 37, 38, 39, 40, 41, 42, 43, 44, 45, 46, 47, 48, 49, 50, 51, 52, 53, 54, 55, 56, 57, 58, 59, 60, 61, 62, 63, 64, 65, 66, 67, 68, 69, 70, 71, 72, 73, 74, 75, 76, 77, 78, 79, 80, 81, 82] (by decide +kernel) (by decide +kernel)
set_option maxRecDepth 20000 in
theorem gX4_meets_X4_touches_u48X2 : GoodIn wsX4_meets (va_wsU RX4 48 RX2 "PageOne$Item" ⟨"PageOne$Item", "touches", "(LPageOne$Piece;Z)Z"⟩ yX4_touches wsX4_touches) := goodIn_app (goodIn_of _ (by decide +kernel)) ggX4_meets_X4_touches
set_option maxRecDepth 20000 in
theorem gX4_meets_X4_touches_u48X3 : GoodIn wsX4_meets (va_wsU RX4 48 RX3 "PageOne$Item" ⟨"PageOne$Item", "touches", "(LPageOne$Piece;Z)Z"⟩ yX4_touches wsX4_touches) := goodIn_app (goodIn_of _ (by decide +kernel)) ggX4_meets_X4_touches
set_option maxRecDepth 20000 in
theorem gX4_meets_X4_touches_u48X5 : GoodIn wsX4_meets (va_wsU RX4 48 RX5 "PageOne$Item" ⟨"PageOne$Item", "touches", "(LPageOne$Piece;Z)Z"⟩ yX4_touches wsX4_touches) := goodIn_app (goodIn_of _ (by decide +kernel)) ggX4_meets_X4_touches
set_option maxRecDepth 20000 in
theorem gX4_meets_X4_touches_u48X6 : GoodIn wsX4_meets (va_wsU RX4 48 RX6 "PageOne$Item" ⟨"PageOne$Item", "touches", "(LPageOne$Piece;Z)Z"⟩ yX4_touches wsX4_touches) := goodIn_app (goodIn_of _ (by decide +kernel)) ggX4_meets_X4_touches
set_option maxRecDepth 20000 in
theorem gX4_meets_X4_touches_u48X7 : GoodIn wsX4_meets (va_wsU RX4 48 RX7 "PageOne$Item" ⟨"PageOne$Item", "touches", "(LPageOne$Piece;Z)Z"⟩ yX4_touches wsX4_touches) := goodIn_app (goodIn_of _ (by decide +kernel)) ggX4_meets_X4_touches
set_option maxRecDepth 20000 in
theorem gX4_meets_X4_touches_u48X10 : GoodIn wsX4_meets (va_wsU RX4 48 RX10 "PageOne$Item" ⟨"PageOne$Item", "touches", "(LPageOne$Piece;Z)Z"⟩ yX4_touches wsX4_touches) := goodIn_app (goodIn_of _ (by decide +kernel)) ggX4_meets_X4_touches
set_option maxRecDepth 20000 in
theorem ggX4_touches_X8_isBeside : GoodIn wsX4_touches wsX8_isBeside := goodIn_r _ [7, 8, 9, 10, 11, 12, 65, 66, 67, 68, 69, 70] (by decide +kernel) (by decide +kernel)
set_option maxRecDepth 20000 in
theorem gX4_touches_X8_isBeside : GoodIn wsX4_touches (wsV RX4 52 RX8 yX8_isBeside wsX8_isBeside) := goodIn_app (goodIn_of _ (by decide +kernel)) ggX4_touches_X8_isBeside
set_option maxRecDepth 20000 in
theorem ggX4_touches_X8_isOverOrUnder : GoodIn wsX4_touches wsX8_isOverOrUnder := goodIn_r _ [16, 11, 12, 10, 8, 9, 65, 66, 67, 68, 69, 70] (by decide +kernel) (by decide +kernel)
set_option maxRecDepth 20000 in
theorem gX4_touches_X8_isOverOrUnder : GoodIn wsX4_touches (wsV RX4 56 RX8 yX8_isOverOrUnder wsX8_isOverOrUnder) := goodIn_app (goodIn_of _ (by decide +kernel)) ggX4_touches_X8_isOverOrUnder
set_option maxRecDepth 20000 in
theorem ggX5_init_X4_init : GoodIn wsX5_init wsX4_init := goodIn_r _ [6, 7, 8, 9, 10, 11, 12, 13, 14, 15, 16, 17, 18, 19, 20, 21, 22, 23, 31, 32, 33, 34, 35, 36, 37, 38, 39, 40, 41, 42, 43, 44, 45, 24, 25, 26, 27, 28, 29, 30, 46, 47, 48, 49, 50, 51, 52, 53, 54, 55, 56, 57, 58, 59, 60, 61, 62, 63, 64, 65, 66, 67, 68, 69, 70, 71] (by decide +kernel) (by decide +kernel)
set_option maxRecDepth 20000 in
theorem gX5_init_X4_init : GoodIn wsX5_init (wsX4_init) := ggX5_init_X4_init
set_option maxRecDepth 20000 in
theorem ggX5_maySit_X11_isWithin : GoodIn wsX5_maySit wsX11_isWithin := goodIn_r _ [9] (by decide +kernel) (by decide +kernel)
set_option maxRecDepth 20000 in
theorem gX5_maySit_X11_isWithin_n23 : GoodIn wsX5_maySit (wsX11_isWithin) := ggX5_maySit_X11_isWithin
set_option maxRecDepth 20000 in
theorem ggX6_init_X4_init : GoodIn wsX6_init wsX4_init := goodIn_r _ [9, 10, 11, 12, 13, 14, 15, 16, 17, 18, 19, 20, 21, 22, 23, 24, 25, 26, 36, 37, 38, 39, 40, 41, 42, 43, 44, 45, 46, 47, 48, 49, 50, 51, 52, 53, 54, 55, 56, 57, 27, 28, 29, 30, 31, 32, 33, 34, 35, 58, 59, 60, 61, 62, 63, 64, 65, 66, 67, 68, 69, 70, 71, 72, 73, 74] (by decide +kernel) (by decide +kernel)
set_option maxRecDepth 20000 in
theorem gX6_init_X4_init : GoodIn wsX6_init (wsX4_init) := ggX6_init_X4_init
set_option maxRecDepth 20000 in
theorem ggX6_maySit_X8_startsWith : GoodIn wsX6_maySit wsX8_startsWith := goodIn_r _ [6, 7, 8, 9, 19, 20, 21, 22, 23, 24] (by decide +kernel) (by decide +kernel)
set_option maxRecDepth 20000 in
theorem gX6_maySit_X8_startsWith : GoodIn wsX6_maySit (wsV RX6 34 RX8 yX8_startsWith wsX8_startsWith) := goodIn_app (goodIn_of _ (by decide +kernel)) ggX6_maySit_X8_startsWith
set_option maxRecDepth 20000 in
theorem ggX7_init_X4_init : GoodIn wsX7_init wsX4_init := goodIn_r _ [8, 9, 10, 11, 12, 1, 13, 14, 15, 16, 17, 18, 19, 20, 21, 22, 23, 24, 33, 34, 35, 36, 37, 38, 39, 40, 41, 42, 43, 44, 45, 46, 47, 48, 49, 50, 51, 52, 53, 54, 55, 56, 57, 58, 59, 60, 61, 62, 63, 25, 26, 27, 28, 29, 30, 31, 32, 64, 65, 66, 67, 68, 69, 70, 71, 72] (by decide +kernel) (by decide +kernel)
set_option maxRecDepth 20000 in
theorem gX7_init_X4_init : GoodIn wsX7_init (wsX4_init) := ggX7_init_X4_init
set_option maxRecDepth 20000 in
theorem ggX7_columnsBy_X11_isWithin : GoodIn wsX7_columnsBy wsX11_isWithin := goodIn_r _ [5] (by decide +kernel) (by decide +kernel)
set_option maxRecDepth 20000 in
theorem gX7_columnsBy_X11_isWithin_n22 : GoodIn wsX7_columnsBy (wsX11_isWithin) := ggX7_columnsBy_X11_isWithin
set_option maxRecDepth 20000 in
theorem ggX7_linesBy_X11_isWithin : GoodIn wsX7_linesBy wsX11_isWithin := goodIn_r _ [5] (by decide +kernel) (by decide +kernel)
set_option maxRecDepth 20000 in
theorem gX7_linesBy_X11_isWithin_n22 : GoodIn wsX7_linesBy (wsX11_isWithin) := ggX7_linesBy_X11_isWithin
set_option maxRecDepth 20000 in
theorem ggX9_init_J7_fill_53178 : GoodIn wsX9_init wsJ7_fill_53178 := goodIn_r _ [13] (by decide +kernel) (by decide +kernel)
set_option maxRecDepth 20000 in
theorem gX9_init_J7_fill_53178 : GoodIn wsX9_init (va_wsS RX9 28 yJ7_fill_53178 wsJ7_fill_53178) := goodIn_app (goodIn_of _ (by decide +kernel)) ggX9_init_J7_fill_53178
set_option maxRecDepth 20000 in
theorem ggX9_at_X11_isColumn : GoodIn wsX9_at wsX11_isColumn := goodIn_r _ [5, 6, 7, 4, 8] (by decide +kernel) (by decide +kernel)
set_option maxRecDepth 20000 in
theorem gX9_at_X11_isColumn_n34 : GoodIn wsX9_at (wsX11_isColumn) := ggX9_at_X11_isColumn
set_option maxRecDepth 20000 in
theorem ggX9_at_X11_isWithin : GoodIn wsX9_at wsX11_isWithin := goodIn_r _ [8] (by decide +kernel) (by decide +kernel)
set_option maxRecDepth 20000 in
theorem gX9_at_X11_isWithin_n38 : GoodIn wsX9_at (wsX11_isWithin) := ggX9_at_X11_isWithin
set_option maxRecDepth 20000 in
theorem ggX9_isFree_X11_isSquare : GoodIn wsX9_isFree wsX11_isSquare := goodIn_r _ [7, 8, 9, 6, 10] (by decide +kernel) (by decide +kernel)
set_option maxRecDepth 20000 in
theorem gX9_isFree_X11_isSquare_n50 : GoodIn wsX9_isFree (wsX11_isSquare) := ggX9_isFree_X11_isSquare
set_option maxRecDepth 20000 in
theorem ggX9_isFree_X11_isColumn : GoodIn wsX9_isFree wsX11_isColumn := goodIn_r _ [12, 8, 9, 6, 10] (by decide +kernel) (by decide +kernel)
set_option maxRecDepth 20000 in
theorem gX9_isFree_X11_isColumn_n34 : GoodIn wsX9_isFree (wsX11_isColumn) := ggX9_isFree_X11_isColumn
set_option maxRecDepth 20000 in
theorem ggX9_isFree_X11_isWithin : GoodIn wsX9_isFree wsX11_isWithin := goodIn_r _ [10] (by decide +kernel) (by decide +kernel)
set_option maxRecDepth 20000 in
theorem gX9_isFree_X11_isWithin_n38 : GoodIn wsX9_isFree (wsX11_isWithin) := ggX9_isFree_X11_isWithin
set_option maxRecDepth 20000 in
theorem ggX9_isFree_X9_at : GoodIn wsX9_isFree wsX9_at := goodIn_r _ [17, 18, 19, 11, 6, 12, 8, 9, 10, 26, 27, 28, 29, 30] (by decide +kernel) (by decide +kernel)
set_option maxRecDepth 20000 in
theorem gX9_isFree_X9_at : GoodIn wsX9_isFree (wsV RX9 60 RX9 yX9_at wsX9_at) := goodIn_app (goodIn_of _ (by decide +kernel)) ggX9_isFree_X9_at
set_option maxRecDepth 20000 in
theorem ggX9_mark_X9_at : GoodIn wsX9_mark wsX9_at := goodIn_r _ [10, 11, 5, 12, 13, 14, 15, 16, 17, 24, 25, 26, 27, 28] (by decide +kernel) (by decide +kernel)
set_option maxRecDepth 20000 in
theorem gX9_mark_X9_at : GoodIn wsX9_mark (wsV RX9 60 RX9 yX9_at wsX9_at) := goodIn_app (goodIn_of _ (by decide +kernel)) ggX9_mark_X9_at
set_option maxRecDepth 20000 in
theorem ggX9_emptyIn_X9_at : GoodIn wsX9_emptyIn wsX9_at := goodIn_r _ [6, 1, 7, 8, 9, 10, 11, 12, 13, 14, 15, 16, 17, 18] (by decide +kernel) (by decide +kernel)
set_option maxRecDepth 20000 in
theorem gX9_emptyIn_X9_at : GoodIn wsX9_emptyIn (wsV RX9 60 RX9 yX9_at wsX9_at) := goodIn_app (goodIn_of _ (by decide +kernel)) ggX9_emptyIn_X9_at
set_option maxRecDepth 20000 in
theorem ggX9_emptyCount_X9_emptyIn : GoodIn wsX9_emptyCount wsX9_emptyIn := goodIn_r _ [5, 6, 7, 8, 9, 4, 10, 11, 12, 13, 14, 15, 16, 17, 18, 19, 20, 21, 22] (by decide +kernel) (by decide +kernel)
set_option maxRecDepth 20000 in
theorem gX9_emptyCount_X9_emptyIn : GoodIn wsX9_emptyCount (wsV RX9 64 RX9 yX9_emptyIn wsX9_emptyIn) := goodIn_app (goodIn_of _ (by decide +kernel)) ggX9_emptyCount_X9_emptyIn
set_option maxRecDepth 20000 in
theorem ggX9_spotOf_X9_at : GoodIn wsX9_spotOf wsX9_at := goodIn_r _ [6, 1, 7, 8, 9, 10, 11, 12, 13, 14, 15, 16, 17, 18] (by decide +kernel) (by decide +kernel)
set_option maxRecDepth 20000 in
theorem gX9_spotOf_X9_at : GoodIn wsX9_spotOf (wsV RX9 60 RX9 yX9_at wsX9_at) := goodIn_app (goodIn_of _ (by decide +kernel)) ggX9_spotOf_X9_at
set_option maxRecDepth 20000 in
theorem ggX9_clear_J7_fill_53178 : GoodIn wsX9_clear wsJ7_fill_53178 := goodIn_r _ [5] (by decide +kernel) (by decide +kernel)
set_option maxRecDepth 20000 in
theorem gX9_clear_J7_fill_53178 : GoodIn wsX9_clear (va_wsS RX9 28 yJ7_fill_53178 wsJ7_fill_53178) := goodIn_app (goodIn_of _ (by decide +kernel)) ggX9_clear_J7_fill_53178
set_option maxRecDepth 20000 in
theorem ggX10_init_X4_init : GoodIn wsX10_init wsX4_init := goodIn_r _ [10, 11, 12, 13, 14, 1, 15, 16, 17, 18, 19, 20, 21, 22, 23, 24, 25, 26, 36, 37, 38, 39, 40, 41, 42, 43, 44, 45, 46, 47, 48, 49, 50, 51, 52, 53, 54, 55, 56, 57, 58, 59, 60, 61, 62, 63, 64, 65, 66, 67, 68, 69, 70, 71, 72, 73, 74, 27, 28, 29, 30, 31, 32, 33, 34, 35] (by decide +kernel) (by decide +kernel)
set_option maxRecDepth 20000 in
theorem gX10_init_X4_init : GoodIn wsX10_init (wsX4_init) := ggX10_init_X4_init
set_option maxRecDepth 20000 in
theorem ggX10_linesBy_X11_isWithin : GoodIn wsX10_linesBy wsX11_isWithin := goodIn_r _ [3] (by decide +kernel) (by decide +kernel)
set_option maxRecDepth 20000 in
theorem gX10_linesBy_X11_isWithin_n26 : GoodIn wsX10_linesBy (wsX11_isWithin) := ggX10_linesBy_X11_isWithin
set_option maxRecDepth 20000 in
theorem ggX10_maySit_X4_lastPiece : GoodIn wsX10_maySit wsX4_lastPiece := goodIn_r _ [10, 11, 12, 52, 53, 54, 55, 56, 57, 58, 59, 60, 61, 62, 63, 64, 65, 66, 67, 68, 69, 70, 71, 72, 73, 74, 75, 76, 77, 78, 79, 80, 81, 82, 83, 84, 85, 86, 87, 88, 89, 90, 91, 92, 93, 94, 95, 96, 97, 98, 99] (by decide +kernel) (by decide +kernel)
set_option maxRecDepth 20000 in
theorem gX10_maySit_X4_lastPiece_u30X10 : GoodIn wsX10_maySit (va_wsU RX10 30 RX10 "PageOne$Item" ⟨"PageOne$Story", "lastPiece", "()LPageOne$Piece;"⟩ yX4_lastPiece wsX4_lastPiece) := goodIn_app (goodIn_of _ (by decide +kernel)) ggX10_maySit_X4_lastPiece
set_option maxRecDepth 20000 in
theorem ggX10_maySit_X10_canTake : GoodIn wsX10_maySit wsX10_canTake := goodIn_r _ [17, 18, 19, 91, 92, 93, 94, 95, 96, 97, 98, 99] (by decide +kernel) (by decide +kernel)
set_option maxRecDepth 20000 in
theorem gX10_maySit_X10_canTake : GoodIn wsX10_maySit (wsV RX10 39 RX10 yX10_canTake wsX10_canTake) := goodIn_app (goodIn_of _ (by decide +kernel)) ggX10_maySit_X10_canTake
set_option maxRecDepth 20000 in
theorem ggX10_maySit_X8_isBehind : GoodIn wsX10_maySit wsX8_isBehind := goodIn_r _ [24, 25, 26, 27, 28, 46, 47, 48, 49, 50, 51] (by decide +kernel) (by decide +kernel)
set_option maxRecDepth 20000 in
theorem gX10_maySit_X8_isBehind : GoodIn wsX10_maySit (wsV RX10 45 RX8 yX8_isBehind wsX8_isBehind) := goodIn_app (goodIn_of _ (by decide +kernel)) ggX10_maySit_X8_isBehind
set_option maxRecDepth 20000 in
theorem ggX10_maySit_X10_takenBy : GoodIn wsX10_maySit wsX10_takenBy := goodIn_r _ [32, 3, 4, 33, 34, 1, 2, 35, 36, 37, 52, 53, 54, 55, 56, 57, 58, 59, 60, 61, 62, 63, 64, 65, 66, 67, 68, 69, 70, 71, 72, 73, 74, 75, 76, 77, 78, 79, 80, 81, 82, 83, 84, 85, 86, 87, 88, 89, 90, 91, 92, 93, 94, 95, 96, 97, 98, 99, 46, 47, 48, 49, 50, 51] (by decide +kernel) (by decide +kernel)
set_option maxRecDepth 20000 in
theorem gX10_maySit_X10_takenBy : GoodIn wsX10_maySit (wsV RX10 52 RX10 yX10_takenBy wsX10_takenBy) := goodIn_app (goodIn_of _ (by decide +kernel)) ggX10_maySit_X10_takenBy
set_option maxRecDepth 20000 in
theorem ggX10_maySit_X10_standing : GoodIn wsX10_maySit wsX10_standing := goodIn_r _ [41, 3, 4, 42, 43, 44, 16, 45, 29, 30, 31, 32, 33, 34, 1, 2, 35, 36, 37, 52, 53, 54, 55, 56, 57, 58, 59, 60, 61, 62, 63, 64, 65, 66, 67, 68, 69, 70, 71, 72, 73, 74, 75, 76, 77, 78, 79, 80, 81, 82, 83, 84, 85, 86, 87, 88, 89, 90, 91, 92, 93, 94, 95, 96, 97, 98, 99, 46, 47, 48, 49, 50, 51] (by decide +kernel) (by decide +kernel)
set_option maxRecDepth 20000 in
theorem gX10_maySit_X10_standing : GoodIn wsX10_maySit (wsV RX10 56 RX10 yX10_standing wsX10_standing) := goodIn_app (goodIn_of _ (by decide +kernel)) ggX10_maySit_X10_standing
set_option maxRecDepth 20000 in
theorem ggX10_takenBy_X11_isWithin : GoodIn wsX10_takenBy wsX11_isWithin := goodIn_r _ [9] (by decide +kernel) (by decide +kernel)
set_option maxRecDepth 20000 in
theorem gX10_takenBy_X11_isWithin_n26 : GoodIn wsX10_takenBy (wsX11_isWithin) := ggX10_takenBy_X11_isWithin
set_option maxRecDepth 20000 in
theorem ggX10_takenBefore_X10_takenBy : GoodIn wsX10_takenBefore wsX10_takenBy := goodIn_r _ [7, 1, 2, 8, 9, 10, 11, 12, 13, 14, 15, 16, 17, 18, 19, 20, 21, 22, 23, 24, 25, 26, 27, 28, 29, 30, 31, 32, 33, 34, 35, 36, 37, 38, 39, 40, 41, 42, 43, 44, 45, 46, 47, 48, 49, 50, 51, 52, 53, 54, 55, 56, 57, 58, 59, 60, 61, 62, 63, 64, 65, 66, 67, 68] (by decide +kernel) (by decide +kernel)
set_option maxRecDepth 20000 in
theorem gX10_takenBefore_X10_takenBy : GoodIn wsX10_takenBefore (wsV RX10 52 RX10 yX10_takenBy wsX10_takenBy) := goodIn_app (goodIn_of _ (by decide +kernel)) ggX10_takenBefore_X10_takenBy
set_option maxRecDepth 20000 in
theorem ggX10_standing_X10_takenBefore : GoodIn wsX10_standing wsX10_takenBefore := goodIn_r _ [7, 1, 2, 8, 9, 10, 6, 11, 12, 13, 14, 15, 16, 17, 18, 19, 20, 21, 22, 23, 24, 25, 26, 27, 28, 29, 30, 31, 32, 33, 34, 35, 36, 37, 38, 39, 40, 41, 42, 43, 44, 45, 46, 47, 48, 49, 50, 51, 52, 53, 54, 55, 56, 57, 58, 59, 60, 61, 62, 63, 64, 65, 66, 67, 68, 69, 70, 71, 72] (by decide +kernel) (by decide +kernel)
set_option maxRecDepth 20000 in
theorem gX10_standing_X10_takenBefore : GoodIn wsX10_standing (wsV RX10 64 RX10 yX10_takenBefore wsX10_takenBefore) := goodIn_app (goodIn_of _ (by decide +kernel)) ggX10_standing_X10_takenBefore
set_option maxRecDepth 20000 in
theorem ggX11_init_X9_init : GoodIn wsX11_init wsX9_init := goodIn_r _ [21, 22, 2, 3, 23, 24, 25, 26, 27, 28, 29, 30, 31, 32, 42, 43, 44, 45, 46] (by decide +kernel) (by decide +kernel)
set_option maxRecDepth 20000 in
theorem gX11_init_X9_init : GoodIn wsX11_init (wsX9_init) := ggX11_init_X9_init
set_option maxRecDepth 20000 in
theorem ggX11_column_X11_isPage : GoodIn wsX11_column wsX11_isPage := goodIn_r _ [7, 8, 9, 6, 10] (by decide +kernel) (by decide +kernel)
set_option maxRecDepth 20000 in
theorem gX11_column_X11_isPage : GoodIn wsX11_column (va_wsS RX11 48 yX11_isPage wsX11_isPage) := goodIn_app (goodIn_of _ (by decide +kernel)) ggX11_column_X11_isPage
set_option maxRecDepth 20000 in
theorem ggX11_column_X11_isColumn : GoodIn wsX11_column wsX11_isColumn := goodIn_r _ [13, 8, 9, 6, 10] (by decide +kernel) (by decide +kernel)
set_option maxRecDepth 20000 in
theorem gX11_column_X11_isColumn : GoodIn wsX11_column (va_wsS RX11 52 yX11_isColumn wsX11_isColumn) := goodIn_app (goodIn_of _ (by decide +kernel)) ggX11_column_X11_isColumn
set_option maxRecDepth 20000 in
theorem ggX11_column_X11_isWithin : GoodIn wsX11_column wsX11_isWithin := goodIn_r _ [10] (by decide +kernel) (by decide +kernel)
set_option maxRecDepth 20000 in
theorem gX11_column_X11_isWithin : GoodIn wsX11_column (va_wsS RX11 55 yX11_isWithin wsX11_isWithin) := goodIn_app (goodIn_of _ (by decide +kernel)) ggX11_column_X11_isWithin
set_option maxRecDepth 20000 in
theorem ggX11_measure_X11_isPage : GoodIn wsX11_measure wsX11_isPage := goodIn_r _ [7, 8, 9, 6, 10] (by decide +kernel) (by decide +kernel)
set_option maxRecDepth 20000 in
theorem gX11_measure_X11_isPage : GoodIn wsX11_measure (va_wsS RX11 48 yX11_isPage wsX11_isPage) := goodIn_app (goodIn_of _ (by decide +kernel)) ggX11_measure_X11_isPage
set_option maxRecDepth 20000 in
theorem ggX11_measure_X11_isWithin : GoodIn wsX11_measure wsX11_isWithin := goodIn_r _ [10] (by decide +kernel) (by decide +kernel)
set_option maxRecDepth 20000 in
theorem gX11_measure_X11_isWithin : GoodIn wsX11_measure (va_wsS RX11 55 yX11_isWithin wsX11_isWithin) := goodIn_app (goodIn_of _ (by decide +kernel)) ggX11_measure_X11_isWithin
set_option maxRecDepth 20000 in
theorem ggX11_story_X11_isWithin : GoodIn wsX11_story wsX11_isWithin := goodIn_r _ [8] (by decide +kernel) (by decide +kernel)
set_option maxRecDepth 20000 in
theorem gX11_story_X11_isWithin : GoodIn wsX11_story (va_wsS RX11 55 yX11_isWithin wsX11_isWithin) := goodIn_app (goodIn_of _ (by decide +kernel)) ggX11_story_X11_isWithin
set_option maxRecDepth 20000 in
theorem ggX11_story_X10_init : GoodIn wsX11_story wsX10_init := goodIn_r _ [11, 12, 13, 14, 15, 16, 17, 18, 19, 20, 21, 22, 23, 24, 25, 26, 27, 28, 29, 30, 6, 7, 8, 31, 32, 33, 34, 41, 42, 43, 44, 45, 46, 47, 48, 49, 59, 60, 61, 62, 63, 64, 65, 66, 67, 68, 69, 70, 71, 72, 73, 74, 75, 76, 77, 78, 79, 80, 81, 82, 83, 84, 85, 86, 87, 88, 89, 90, 91, 92, 93, 94, 95, 96, 97] (by decide +kernel) (by decide +kernel)
set_option maxRecDepth 20000 in
theorem gX11_story_X10_init : GoodIn wsX11_story (wsX10_init) := ggX11_story_X10_init
set_option maxRecDepth 20000 in
theorem ggX11_story_X11_enter : GoodIn wsX11_story wsX11_enter := goodIn_r _ [38, 4, 39, 40, 50, 51, 52, 53, 54, 55, 56, 57, 58, 59, 60, 61, 62, 63, 64, 65, 66, 67, 68, 69, 70, 71, 72, 73, 74, 75, 76, 77, 78, 79, 80, 81, 82, 83, 84, 85, 86, 87, 88, 89, 90, 91, 92, 93, 94, 95, 96, 97, 41, 42, 43, 44, 45, 46, 47, 48, 49] (by decide +kernel) (by decide +kernel)
set_option maxRecDepth 20000 in
theorem gX11_story_X11_enter : GoodIn wsX11_story (wsV RX11 71 RX11 yX11_enter wsX11_enter) := goodIn_app (goodIn_of _ (by decide +kernel)) ggX11_story_X11_enter
set_option maxRecDepth 20000 in
theorem ggX11_line_X11_itemOf : GoodIn wsX11_line wsX11_itemOf := goodIn_r _ [6, 7, 8, 9, 10, 5, 11, 19, 20, 21, 22, 23, 24, 25, 26, 27] (by decide +kernel) (by decide +kernel)
set_option maxRecDepth 20000 in
theorem gX11_line_X11_itemOf : GoodIn wsX11_line (wsV RX11 75 RX11 yX11_itemOf wsX11_itemOf) := goodIn_app (goodIn_of _ (by decide +kernel)) ggX11_line_X11_itemOf
set_option maxRecDepth 20000 in
theorem ggX11_line_X11_isWithin : GoodIn wsX11_line wsX11_isWithin := goodIn_r _ [11] (by decide +kernel) (by decide +kernel)
set_option maxRecDepth 20000 in
theorem gX11_line_X11_isWithin : GoodIn wsX11_line (va_wsS RX11 55 yX11_isWithin wsX11_isWithin) := goodIn_app (goodIn_of _ (by decide +kernel)) ggX11_line_X11_isWithin
set_option maxRecDepth 20000 in
theorem ggX11_line_X10_takeIn : GoodIn wsX11_line wsX10_takeIn := goodIn_r _ [16, 17, 18, 28, 29, 30, 31, 32, 33, 34, 35, 36] (by decide +kernel) (by decide +kernel)
set_option maxRecDepth 20000 in
theorem gX11_line_X10_takeIn : GoodIn wsX11_line (wsV RX11 79 RX10 yX10_takeIn wsX10_takeIn) := goodIn_app (goodIn_of _ (by decide +kernel)) ggX11_line_X10_takeIn
set_option maxRecDepth 20000 in
theorem ggX11_head_X11_itemOf : GoodIn wsX11_head wsX11_itemOf := goodIn_r _ [10, 5, 11, 12, 13, 9, 14, 52, 53, 54, 55, 56, 57, 58, 59, 60] (by decide +kernel) (by decide +kernel)
set_option maxRecDepth 20000 in
theorem gX11_head_X11_itemOf : GoodIn wsX11_head (wsV RX11 75 RX11 yX11_itemOf wsX11_itemOf) := goodIn_app (goodIn_of _ (by decide +kernel)) ggX11_head_X11_itemOf
set_option maxRecDepth 20000 in
theorem ggX11_head_X11_isWithin : GoodIn wsX11_head wsX11_isWithin := goodIn_r _ [14] (by decide +kernel) (by decide +kernel)
set_option maxRecDepth 20000 in
theorem gX11_head_X11_isWithin : GoodIn wsX11_head (va_wsS RX11 55 yX11_isWithin wsX11_isWithin) := goodIn_app (goodIn_of _ (by decide +kernel)) ggX11_head_X11_isWithin
set_option maxRecDepth 20000 in
theorem ggX11_head_X3_init : GoodIn wsX11_head wsX3_init := goodIn_r _ [17, 18, 19, 20, 21, 22, 23, 24, 25, 26, 27, 28, 29, 30, 31, 32, 33, 34, 13, 9, 14, 35, 36, 37, 38, 44, 45, 46, 47, 48, 49, 50, 51, 61, 62, 63, 64, 65, 66, 67, 68, 69, 70, 71, 72, 73, 74, 75, 76, 77, 78, 79, 80, 81, 82, 83, 84, 85, 86, 87, 88, 89, 90, 91, 92, 93, 94, 95, 96, 97, 98, 99, 100] (by decide +kernel) (by decide +kernel)
set_option maxRecDepth 20000 in
theorem gX11_head_X3_init : GoodIn wsX11_head (wsX3_init) := ggX11_head_X3_init
set_option maxRecDepth 20000 in
theorem ggX11_head_X11_enter : GoodIn wsX11_head wsX11_enter := goodIn_r _ [42, 5, 11, 43, 52, 53, 54, 55, 56, 57, 58, 59, 60, 61, 62, 63, 64, 65, 66, 67, 44, 45, 46, 47, 48, 49, 50, 51, 68, 69, 70, 71, 72, 73, 74, 75, 76, 77, 78, 79, 80, 81, 82, 83, 84, 85, 86, 87, 88, 89, 90, 91, 92, 93, 94, 95, 96, 97, 98, 99, 100] (by decide +kernel) (by decide +kernel)
set_option maxRecDepth 20000 in
theorem gX11_head_X11_enter : GoodIn wsX11_head (wsV RX11 71 RX11 yX11_enter wsX11_enter) := goodIn_app (goodIn_of _ (by decide +kernel)) ggX11_head_X11_enter
set_option maxRecDepth 20000 in
theorem ggX11_picture_X7_init : GoodIn wsX11_picture wsX7_init := goodIn_r _ [7, 8, 9, 10, 11, 12, 13, 14, 15, 16, 17, 18, 19, 20, 21, 22, 23, 24, 25, 26, 27, 28, 29, 30, 31, 38, 39, 40, 41, 42, 43, 44, 45, 55, 56, 57, 58, 59, 60, 61, 62, 63, 64, 65, 66, 67, 68, 69, 70, 71, 72, 73, 74, 75, 76, 77, 78, 79, 80, 81, 82, 83, 84, 85, 86, 87, 88, 89, 90, 91, 92, 93, 94] (by decide +kernel) (by decide +kernel)
set_option maxRecDepth 20000 in
theorem gX11_picture_X7_init : GoodIn wsX11_picture (wsX7_init) := ggX11_picture_X7_init
set_option maxRecDepth 20000 in
theorem ggX11_picture_X11_enter : GoodIn wsX11_picture wsX11_enter := goodIn_r _ [35, 4, 36, 37, 46, 47, 48, 49, 50, 51, 52, 53, 54, 55, 56, 57, 58, 59, 60, 61, 62, 63, 64, 65, 66, 67, 68, 69, 70, 71, 72, 73, 74, 75, 76, 77, 78, 79, 80, 81, 82, 83, 84, 85, 38, 39, 40, 41, 42, 43, 44, 45, 86, 87, 88, 89, 90, 91, 92, 93, 94] (by decide +kernel) (by decide +kernel)
set_option maxRecDepth 20000 in
theorem gX11_picture_X11_enter : GoodIn wsX11_picture (wsV RX11 71 RX11 yX11_enter wsX11_enter) := goodIn_app (goodIn_of _ (by decide +kernel)) ggX11_picture_X11_enter
set_option maxRecDepth 20000 in
theorem ggX11_size_X11_itemOf : GoodIn wsX11_size wsX11_itemOf := goodIn_r _ [6, 7, 8, 9, 10, 5, 11, 23, 24, 25, 26, 27, 28, 29, 30, 31] (by decide +kernel) (by decide +kernel)
set_option maxRecDepth 20000 in
theorem gX11_size_X11_itemOf : GoodIn wsX11_size (wsV RX11 75 RX11 yX11_itemOf wsX11_itemOf) := goodIn_app (goodIn_of _ (by decide +kernel)) ggX11_size_X11_itemOf
set_option maxRecDepth 20000 in
theorem ggX11_size_X11_isSquare : GoodIn wsX11_size wsX11_isSquare := goodIn_r _ [14, 9, 10, 5, 11] (by decide +kernel) (by decide +kernel)
set_option maxRecDepth 20000 in
theorem gX11_size_X11_isSquare : GoodIn wsX11_size (va_wsS RX11 93 yX11_isSquare wsX11_isSquare) := goodIn_app (goodIn_of _ (by decide +kernel)) ggX11_size_X11_isSquare
set_option maxRecDepth 20000 in
theorem ggX11_size_X7_takeSize : GoodIn wsX11_size wsX7_takeSize := goodIn_r _ [19, 20, 21, 22, 32, 33, 34, 35, 36, 37, 38, 39] (by decide +kernel) (by decide +kernel)
set_option maxRecDepth 20000 in
theorem gX11_size_X7_takeSize : GoodIn wsX11_size (wsV RX11 97 RX7 yX7_takeSize wsX7_takeSize) := goodIn_app (goodIn_of _ (by decide +kernel)) ggX11_size_X7_takeSize
set_option maxRecDepth 20000 in
theorem ggX11_paid_X11_isBuyer : GoodIn wsX11_paid wsX11_isBuyer := goodIn_r _ [11, 12, 13, 10, 14] (by decide +kernel) (by decide +kernel)
set_option maxRecDepth 20000 in
theorem gX11_paid_X11_isBuyer : GoodIn wsX11_paid (va_wsS RX11 101 yX11_isBuyer wsX11_isBuyer) := goodIn_app (goodIn_of _ (by decide +kernel)) ggX11_paid_X11_isBuyer
set_option maxRecDepth 20000 in
theorem ggX11_paid_X11_isPage : GoodIn wsX11_paid wsX11_isPage := goodIn_r _ [17, 12, 13, 10, 14] (by decide +kernel) (by decide +kernel)
set_option maxRecDepth 20000 in
theorem gX11_paid_X11_isPage : GoodIn wsX11_paid (va_wsS RX11 48 yX11_isPage wsX11_isPage) := goodIn_app (goodIn_of _ (by decide +kernel)) ggX11_paid_X11_isPage
set_option maxRecDepth 20000 in
theorem ggX11_paid_X11_isSquare : GoodIn wsX11_paid wsX11_isSquare := goodIn_r _ [20, 12, 13, 10, 14] (by decide +kernel) (by decide +kernel)
set_option maxRecDepth 20000 in
theorem gX11_paid_X11_isSquare : GoodIn wsX11_paid (va_wsS RX11 93 yX11_isSquare wsX11_isSquare) := goodIn_app (goodIn_of _ (by decide +kernel)) ggX11_paid_X11_isSquare
set_option maxRecDepth 20000 in
theorem ggX11_paid_X11_isWithin : GoodIn wsX11_paid wsX11_isWithin := goodIn_r _ [14] (by decide +kernel) (by decide +kernel)
set_option maxRecDepth 20000 in
theorem gX11_paid_X11_isWithin : GoodIn wsX11_paid (va_wsS RX11 55 yX11_isWithin wsX11_isWithin) := goodIn_app (goodIn_of _ (by decide +kernel)) ggX11_paid_X11_isWithin
set_option maxRecDepth 20000 in
theorem ggX11_paid_X8_init : GoodIn wsX11_paid wsX8_init := goodIn_r _ [23, 24, 25, 26, 27, 28, 29, 30, 31, 32, 81, 82, 83, 84, 85, 86] (by decide +kernel) (by decide +kernel)
set_option maxRecDepth 20000 in
theorem gX11_paid_X8_init : GoodIn wsX11_paid (wsX8_init) := ggX11_paid_X8_init
set_option maxRecDepth 20000 in
theorem ggX11_paid_X6_init : GoodIn wsX11_paid wsX6_init := goodIn_r _ [35, 36, 37, 38, 39, 40, 41, 42, 43, 44, 45, 25, 26, 46, 47, 48, 49, 50, 51, 52, 13, 10, 14, 53, 54, 55, 56, 63, 64, 65, 66, 67, 68, 69, 70, 71, 87, 88, 89, 90, 91, 92, 93, 94, 95, 96, 97, 98, 99, 100, 101, 102, 103, 104, 105, 106, 107, 108, 109, 110, 111, 112, 113, 114, 115, 116, 117, 118, 119, 120, 121, 122, 123, 124, 125] (by decide +kernel) (by decide +kernel)
set_option maxRecDepth 20000 in
theorem gX11_paid_X6_init : GoodIn wsX11_paid (wsX6_init) := ggX11_paid_X6_init
set_option maxRecDepth 20000 in
theorem ggX11_paid_X11_enter : GoodIn wsX11_paid wsX11_enter := goodIn_r _ [60, 4, 61, 62, 72, 73, 74, 75, 76, 77, 78, 79, 80, 87, 88, 89, 90, 91, 92, 93, 94, 95, 96, 97, 98, 99, 100, 101, 102, 103, 104, 105, 106, 107, 108, 63, 64, 65, 66, 67, 68, 69, 70, 71, 109, 110, 111, 112, 113, 114, 115, 116, 117, 118, 119, 120, 121, 122, 123, 124, 125] (by decide +kernel) (by decide +kernel)
set_option maxRecDepth 20000 in
theorem gX11_paid_X11_enter : GoodIn wsX11_paid (wsV RX11 71 RX11 yX11_enter wsX11_enter) := goodIn_app (goodIn_of _ (by decide +kernel)) ggX11_paid_X11_enter
set_option maxRecDepth 20000 in
theorem ggX11_filler_X11_isWithin : GoodIn wsX11_filler wsX11_isWithin := goodIn_r _ [8] (by decide +kernel) (by decide +kernel)
set_option maxRecDepth 20000 in
theorem gX11_filler_X11_isWithin : GoodIn wsX11_filler (va_wsS RX11 55 yX11_isWithin wsX11_isWithin) := goodIn_app (goodIn_of _ (by decide +kernel)) ggX11_filler_X11_isWithin
set_option maxRecDepth 20000 in
theorem ggX11_filler_X2_init : GoodIn wsX11_filler wsX2_init := goodIn_r _ [11, 12, 13, 14, 15, 16, 17, 18, 19, 20, 21, 22, 23, 24, 25, 26, 27, 6, 7, 8, 28, 29, 30, 31, 38, 39, 40, 41, 42, 43, 44, 54, 55, 56, 57, 58, 59, 60, 61, 62, 63, 64, 65, 66, 67, 68, 69, 70, 71, 72, 73, 74, 75, 76, 77, 78, 79, 80, 81, 82, 83, 84, 85, 86, 87, 88, 89, 90, 91, 92, 93, 94] (by decide +kernel) (by decide +kernel)
set_option maxRecDepth 20000 in
theorem gX11_filler_X2_init : GoodIn wsX11_filler (wsX2_init) := ggX11_filler_X2_init
set_option maxRecDepth 20000 in
theorem ggX11_filler_X11_enter : GoodIn wsX11_filler wsX11_enter := goodIn_r _ [35, 4, 36, 37, 45, 46, 47, 48, 49, 50, 51, 52, 53, 38, 39, 40, 41, 42, 43, 44, 54, 55, 56, 57, 58, 59, 60, 61, 62, 63, 64, 65, 66, 67, 68, 69, 70, 71, 72, 73, 74, 75, 76, 77, 78, 79, 80, 81, 82, 83, 84, 85, 86, 87, 88, 89, 90, 91, 92, 93, 94] (by decide +kernel) (by decide +kernel)
set_option maxRecDepth 20000 in
theorem gX11_filler_X11_enter : GoodIn wsX11_filler (wsV RX11 71 RX11 yX11_enter wsX11_enter) := goodIn_app (goodIn_of _ (by decide +kernel)) ggX11_filler_X11_enter
set_option maxRecDepth 20000 in
theorem ggX11_notice_X11_itemOf : GoodIn wsX11_notice wsX11_itemOf := goodIn_r _ [10, 5, 11, 12, 13, 9, 14, 93, 94, 95, 96, 97, 98, 99, 100, 101] (by decide +kernel) (by decide +kernel)
set_option maxRecDepth 20000 in
theorem gX11_notice_X11_itemOf : GoodIn wsX11_notice (wsV RX11 75 RX11 yX11_itemOf wsX11_itemOf) := goodIn_app (goodIn_of _ (by decide +kernel)) ggX11_notice_X11_itemOf
set_option maxRecDepth 20000 in
theorem ggX11_notice_X11_isWithin : GoodIn wsX11_notice wsX11_isWithin := goodIn_r _ [14] (by decide +kernel) (by decide +kernel)
set_option maxRecDepth 20000 in
theorem gX11_notice_X11_isWithin : GoodIn wsX11_notice (va_wsS RX11 55 yX11_isWithin wsX11_isWithin) := goodIn_app (goodIn_of _ (by decide +kernel)) ggX11_notice_X11_isWithin
set_option maxRecDepth 20000 in
theorem ggX11_notice_X11_firstPrinting : GoodIn wsX11_notice wsX11_firstPrinting := goodIn_r _ [18, 19, 20, 21, 12, 13, 9, 14, 22, 23, 24, 25, 26, 27, 28, 29, 30, 31, 32, 33, 34, 35, 36, 37, 38, 39, 40, 41, 42, 43, 44, 45, 46, 47, 48, 49, 50, 51, 52, 53, 102, 103, 104, 105, 106, 107, 108, 109, 110, 111, 112, 113, 114, 115, 116, 86, 87, 88, 89, 90, 91, 92, 117, 118, 119, 120, 121, 122, 123, 124, 125, 126, 127, 128, 129, 130, 131, 132, 133, 134, 135, 136, 137, 138, 139, 140, 141, 142, 93, 94, 95, 96, 97, 98, 99, 100, 101, 143, 144, 145, 146, 147] (by decide +kernel) (by decide +kernel)
set_option maxRecDepth 20000 in
theorem gX11_notice_X11_firstPrinting : GoodIn wsX11_notice (wsV RX11 121 RX11 yX11_firstPrinting wsX11_firstPrinting) := goodIn_app (goodIn_of _ (by decide +kernel)) ggX11_notice_X11_firstPrinting
set_option maxRecDepth 20000 in
theorem ggX11_notice_X11_hasNotice : GoodIn wsX11_notice wsX11_hasNotice := goodIn_r _ [57, 5, 11, 1, 58, 93, 94, 95, 96, 97, 98, 99, 100, 101, 86, 87, 88, 89, 90, 91, 92] (by decide +kernel) (by decide +kernel)
set_option maxRecDepth 20000 in
theorem gX11_notice_X11_hasNotice : GoodIn wsX11_notice (wsV RX11 125 RX11 yX11_hasNotice wsX11_hasNotice) := goodIn_app (goodIn_of _ (by decide +kernel)) ggX11_notice_X11_hasNotice
set_option maxRecDepth 20000 in
theorem ggX11_notice_X5_init : GoodIn wsX11_notice wsX5_init := goodIn_r _ [61, 62, 63, 64, 65, 66, 67, 68, 69, 70, 71, 72, 73, 74, 75, 76, 77, 13, 9, 14, 78, 79, 80, 81, 86, 87, 88, 89, 90, 91, 92, 102, 103, 104, 105, 106, 107, 108, 109, 110, 111, 112, 113, 114, 115, 116, 117, 118, 119, 120, 121, 122, 123, 124, 125, 126, 127, 128, 129, 130, 131, 132, 133, 134, 135, 136, 137, 138, 139, 140, 141, 142] (by decide +kernel) (by decide +kernel)
set_option maxRecDepth 20000 in
theorem gX11_notice_X5_init : GoodIn wsX11_notice (wsX5_init) := ggX11_notice_X5_init
set_option maxRecDepth 20000 in
theorem ggX11_notice_X11_enter : GoodIn wsX11_notice wsX11_enter := goodIn_r _ [85, 5, 11, 21, 93, 94, 95, 96, 97, 98, 99, 100, 101, 102, 103, 104, 105, 106, 107, 108, 109, 110, 111, 112, 113, 114, 115, 116, 86, 87, 88, 89, 90, 91, 92, 117, 118, 119, 120, 121, 122, 123, 124, 125, 126, 127, 128, 129, 130, 131, 132, 133, 134, 135, 136, 137, 138, 139, 140, 141, 142] (by decide +kernel) (by decide +kernel)
set_option maxRecDepth 20000 in
theorem gX11_notice_X11_enter : GoodIn wsX11_notice (wsV RX11 71 RX11 yX11_enter wsX11_enter) := goodIn_app (goodIn_of _ (by decide +kernel)) ggX11_notice_X11_enter
set_option maxRecDepth 20000 in
theorem ggX11_rival_X11_isBuyer : GoodIn wsX11_rival wsX11_isBuyer := goodIn_r _ [5, 6, 7, 4, 8] (by decide +kernel) (by decide +kernel)
set_option maxRecDepth 20000 in
theorem gX11_rival_X11_isBuyer : GoodIn wsX11_rival (va_wsS RX11 101 yX11_isBuyer wsX11_isBuyer) := goodIn_app (goodIn_of _ (by decide +kernel)) ggX11_rival_X11_isBuyer
set_option maxRecDepth 20000 in
theorem ggX11_rival_X11_areRivals : GoodIn wsX11_rival wsX11_areRivals := goodIn_r _ [12, 1, 13, 14, 15, 16, 17, 18, 19, 20, 21] (by decide +kernel) (by decide +kernel)
set_option maxRecDepth 20000 in
theorem gX11_rival_X11_areRivals : GoodIn wsX11_rival (wsV RX11 132 RX11 yX11_areRivals wsX11_areRivals) := goodIn_app (goodIn_of _ (by decide +kernel)) ggX11_rival_X11_areRivals
set_option maxRecDepth 20000 in
theorem ggX11_names_X11_itemOf : GoodIn wsX11_names wsX11_itemOf := goodIn_r _ [7, 8, 9, 10, 11, 6, 12, 25, 26, 27, 28, 29, 30, 31, 32, 33] (by decide +kernel) (by decide +kernel)
set_option maxRecDepth 20000 in
theorem gX11_names_X11_itemOf : GoodIn wsX11_names (wsV RX11 75 RX11 yX11_itemOf wsX11_itemOf) := goodIn_app (goodIn_of _ (by decide +kernel)) ggX11_names_X11_itemOf
set_option maxRecDepth 20000 in
theorem ggX11_names_X11_isBuyer : GoodIn wsX11_names wsX11_isBuyer := goodIn_r _ [15, 10, 11, 6, 12] (by decide +kernel) (by decide +kernel)
set_option maxRecDepth 20000 in
theorem gX11_names_X11_isBuyer : GoodIn wsX11_names (va_wsS RX11 101 yX11_isBuyer wsX11_isBuyer) := goodIn_app (goodIn_of _ (by decide +kernel)) ggX11_names_X11_isBuyer
set_option maxRecDepth 20000 in
theorem ggX11_put_X11_itemOf : GoodIn wsX11_put wsX11_itemOf := goodIn_r _ [15, 16, 17, 18, 19, 14, 20, 232, 233, 234, 235, 236, 237, 238, 239, 240] (by decide +kernel) (by decide +kernel)
set_option maxRecDepth 20000 in
theorem gX11_put_X11_itemOf : GoodIn wsX11_put (wsV RX11 75 RX11 yX11_itemOf wsX11_itemOf) := goodIn_app (goodIn_of _ (by decide +kernel)) ggX11_put_X11_itemOf
set_option maxRecDepth 20000 in
theorem ggX11_put_X11_isPage : GoodIn wsX11_put wsX11_isPage := goodIn_r _ [23, 18, 19, 14, 20] (by decide +kernel) (by decide +kernel)
set_option maxRecDepth 20000 in
theorem gX11_put_X11_isPage : GoodIn wsX11_put (va_wsS RX11 48 yX11_isPage wsX11_isPage) := goodIn_app (goodIn_of _ (by decide +kernel)) ggX11_put_X11_isPage
set_option maxRecDepth 20000 in
theorem ggX11_put_X11_canAct : GoodIn wsX11_put wsX11_canAct := goodIn_r _ [27, 28, 232, 233, 234, 235, 236, 237, 238, 239, 240] (by decide +kernel) (by decide +kernel)
set_option maxRecDepth 20000 in
theorem gX11_put_X11_canAct : GoodIn wsX11_put (wsV RX11 138 RX11 yX11_canAct wsX11_canAct) := goodIn_app (goodIn_of _ (by decide +kernel)) ggX11_put_X11_canAct
set_option maxRecDepth 20000 in
theorem ggX11_put_X4_columnsBy : GoodIn wsX11_put wsX4_columnsBy := goodIn_r _ [34] (by decide +kernel) (by decide +kernel)
set_option maxRecDepth 20000 in
theorem gX11_put_X4_columnsBy_u142X2 : GoodIn wsX11_put (va_wsU RX11 142 RX2 "PageOne$Item" ⟨"PageOne$Item", "columnsBy", "(I)I"⟩ yX4_columnsBy wsX4_columnsBy) := goodIn_app (goodIn_of _ (by decide +kernel)) ggX11_put_X4_columnsBy
set_option maxRecDepth 20000 in
theorem ggX11_put_X3_columnsBy : GoodIn wsX11_put wsX3_columnsBy := goodIn_r _ [39, 40, 257, 258, 259, 260, 261, 262, 263, 264] (by decide +kernel) (by decide +kernel)
set_option maxRecDepth 20000 in
theorem gX11_put_X3_columnsBy_u142X3 : GoodIn wsX11_put (va_wsO RX11 142 RX3 "PageOne$Item" ⟨"PageOne$Item", "columnsBy", "(I)I"⟩ yX3_columnsBy wsX3_columnsBy) := goodIn_app (goodIn_of _ (by decide +kernel)) ggX11_put_X3_columnsBy
set_option maxRecDepth 20000 in
theorem gX11_put_X4_columnsBy_u142X5 : GoodIn wsX11_put (va_wsU RX11 142 RX5 "PageOne$Item" ⟨"PageOne$Item", "columnsBy", "(I)I"⟩ yX4_columnsBy wsX4_columnsBy) := goodIn_app (goodIn_of _ (by decide +kernel)) ggX11_put_X4_columnsBy
set_option maxRecDepth 20000 in
theorem ggX11_put_X6_columnsBy : GoodIn wsX11_put wsX6_columnsBy := goodIn_r _ [45, 46, 47, 272, 273, 274, 275, 276, 277, 278, 279, 280, 226, 227, 228, 229, 230, 231] (by decide +kernel) (by decide +kernel)
set_option maxRecDepth 20000 in
theorem gX11_put_X6_columnsBy_u142X6 : GoodIn wsX11_put (va_wsO RX11 142 RX6 "PageOne$Item" ⟨"PageOne$Item", "columnsBy", "(I)I"⟩ yX6_columnsBy wsX6_columnsBy) := goodIn_app (goodIn_of _ (by decide +kernel)) ggX11_put_X6_columnsBy
set_option maxRecDepth 20000 in
theorem ggX11_put_X7_columnsBy : GoodIn wsX11_put wsX7_columnsBy := goodIn_r _ [51, 52, 53, 19, 14, 20, 281, 282, 283, 284, 285, 286, 287, 288] (by decide +kernel) (by decide +kernel)
set_option maxRecDepth 20000 in
theorem gX11_put_X7_columnsBy_u142X7 : GoodIn wsX11_put (va_wsO RX11 142 RX7 "PageOne$Item" ⟨"PageOne$Item", "columnsBy", "(I)I"⟩ yX7_columnsBy wsX7_columnsBy) := goodIn_app (goodIn_of _ (by decide +kernel)) ggX11_put_X7_columnsBy
set_option maxRecDepth 20000 in
theorem gX11_put_X4_columnsBy_u142X10 : GoodIn wsX11_put (va_wsU RX11 142 RX10 "PageOne$Item" ⟨"PageOne$Item", "columnsBy", "(I)I"⟩ yX4_columnsBy wsX4_columnsBy) := goodIn_app (goodIn_of _ (by decide +kernel)) ggX11_put_X4_columnsBy
set_option maxRecDepth 20000 in
theorem ggX11_put_X2_linesBy : GoodIn wsX11_put wsX2_linesBy := goodIn_r _ [60, 61, 62, 19, 14, 20, 250, 251, 252, 253, 254, 255, 256] (by decide +kernel) (by decide +kernel)
set_option maxRecDepth 20000 in
theorem gX11_put_X2_linesBy_u145X2 : GoodIn wsX11_put (va_wsU RX11 145 RX2 "PageOne$Item" ⟨"PageOne$Item", "linesBy", "(I)I"⟩ yX2_linesBy wsX2_linesBy) := goodIn_app (goodIn_of _ (by decide +kernel)) ggX11_put_X2_linesBy
set_option maxRecDepth 20000 in
theorem ggX11_put_X3_linesBy : GoodIn wsX11_put wsX3_linesBy := goodIn_r _ [65, 66, 257, 258, 259, 260, 261, 262, 263, 264] (by decide +kernel) (by decide +kernel)
set_option maxRecDepth 20000 in
theorem gX11_put_X3_linesBy_u145X3 : GoodIn wsX11_put (va_wsU RX11 145 RX3 "PageOne$Item" ⟨"PageOne$Item", "linesBy", "(I)I"⟩ yX3_linesBy wsX3_linesBy) := goodIn_app (goodIn_of _ (by decide +kernel)) ggX11_put_X3_linesBy
set_option maxRecDepth 20000 in
theorem ggX11_put_X5_linesBy : GoodIn wsX11_put wsX5_linesBy := goodIn_r _ [70, 71, 265, 266, 267, 268, 269, 270, 271] (by decide +kernel) (by decide +kernel)
set_option maxRecDepth 20000 in
theorem gX11_put_X5_linesBy_u145X5 : GoodIn wsX11_put (va_wsU RX11 145 RX5 "PageOne$Item" ⟨"PageOne$Item", "linesBy", "(I)I"⟩ yX5_linesBy wsX5_linesBy) := goodIn_app (goodIn_of _ (by decide +kernel)) ggX11_put_X5_linesBy
set_option maxRecDepth 20000 in
theorem ggX11_put_X6_linesBy : GoodIn wsX11_put wsX6_linesBy := goodIn_r _ [74, 46, 75, 272, 273, 274, 275, 276, 277, 278, 279, 280, 226, 227, 228, 229, 230, 231] (by decide +kernel) (by decide +kernel)
set_option maxRecDepth 20000 in
theorem gX11_put_X6_linesBy_u145X6 : GoodIn wsX11_put (va_wsU RX11 145 RX6 "PageOne$Item" ⟨"PageOne$Item", "linesBy", "(I)I"⟩ yX6_linesBy wsX6_linesBy) := goodIn_app (goodIn_of _ (by decide +kernel)) ggX11_put_X6_linesBy
set_option maxRecDepth 20000 in
theorem ggX11_put_X7_linesBy : GoodIn wsX11_put wsX7_linesBy := goodIn_r _ [78, 52, 79, 19, 14, 20, 281, 282, 283, 284, 285, 286, 287, 288] (by decide +kernel) (by decide +kernel)
set_option maxRecDepth 20000 in
theorem gX11_put_X7_linesBy_u145X7 : GoodIn wsX11_put (va_wsU RX11 145 RX7 "PageOne$Item" ⟨"PageOne$Item", "linesBy", "(I)I"⟩ yX7_linesBy wsX7_linesBy) := goodIn_app (goodIn_of _ (by decide +kernel)) ggX11_put_X7_linesBy
set_option maxRecDepth 20000 in
theorem ggX11_put_X10_linesBy : GoodIn wsX11_put wsX10_linesBy := goodIn_r _ [83, 19, 14, 20] (by decide +kernel) (by decide +kernel)
set_option maxRecDepth 20000 in
theorem gX11_put_X10_linesBy_u145X10 : GoodIn wsX11_put (va_wsU RX11 145 RX10 "PageOne$Item" ⟨"PageOne$Item", "linesBy", "(I)I"⟩ yX10_linesBy wsX10_linesBy) := goodIn_app (goodIn_of _ (by decide +kernel)) ggX11_put_X10_linesBy
set_option maxRecDepth 20000 in
theorem ggX11_put_X8_init : GoodIn wsX11_put wsX8_init := goodIn_r _ [86, 87, 88, 89, 90, 91, 92, 93, 94, 95, 226, 227, 228, 229, 230, 231] (by decide +kernel) (by decide +kernel)
set_option maxRecDepth 20000 in
theorem gX11_put_X8_init : GoodIn wsX11_put (wsX8_init) := ggX11_put_X8_init
set_option maxRecDepth 20000 in
theorem ggX11_put_X4_hasRoom : GoodIn wsX11_put wsX4_hasRoom := goodIn_r _ [100, 101, 102, 250, 251, 252, 253, 254, 255, 256, 257, 258, 259, 260, 261, 262, 263, 264, 265, 266, 267, 268, 269, 270, 271, 272, 273, 274, 275, 276, 277, 278, 279, 280, 281, 282, 283, 284, 285, 286, 287, 288, 289, 290, 291, 292, 293, 294, 295, 296, 297] (by decide +kernel) (by decide +kernel)
set_option maxRecDepth 20000 in
theorem gX11_put_X4_hasRoom_u148X2 : GoodIn wsX11_put (va_wsU RX11 148 RX2 "PageOne$Item" ⟨"PageOne$Item", "hasRoom", "()Z"⟩ yX4_hasRoom wsX4_hasRoom) := goodIn_app (goodIn_of _ (by decide +kernel)) ggX11_put_X4_hasRoom
set_option maxRecDepth 20000 in
theorem gX11_put_X4_hasRoom_u148X3 : GoodIn wsX11_put (va_wsU RX11 148 RX3 "PageOne$Item" ⟨"PageOne$Item", "hasRoom", "()Z"⟩ yX4_hasRoom wsX4_hasRoom) := goodIn_app (goodIn_of _ (by decide +kernel)) ggX11_put_X4_hasRoom
set_option maxRecDepth 20000 in
theorem gX11_put_X4_hasRoom_u148X5 : GoodIn wsX11_put (va_wsU RX11 148 RX5 "PageOne$Item" ⟨"PageOne$Item", "hasRoom", "()Z"⟩ yX4_hasRoom wsX4_hasRoom) := goodIn_app (goodIn_of _ (by decide +kernel)) ggX11_put_X4_hasRoom
set_option maxRecDepth 20000 in
theorem gX11_put_X4_hasRoom_u148X6 : GoodIn wsX11_put (va_wsU RX11 148 RX6 "PageOne$Item" ⟨"PageOne$Item", "hasRoom", "()Z"⟩ yX4_hasRoom wsX4_hasRoom) := goodIn_app (goodIn_of _ (by decide +kernel)) ggX11_put_X4_hasRoom
set_option maxRecDepth 20000 in
theorem gX11_put_X4_hasRoom_u148X7 : GoodIn wsX11_put (va_wsU RX11 148 RX7 "PageOne$Item" ⟨"PageOne$Item", "hasRoom", "()Z"⟩ yX4_hasRoom wsX4_hasRoom) := goodIn_app (goodIn_of _ (by decide +kernel)) ggX11_put_X4_hasRoom
set_option maxRecDepth 20000 in
theorem gX11_put_X4_hasRoom_u148X10 : GoodIn wsX11_put (va_wsU RX11 148 RX10 "PageOne$Item" ⟨"PageOne$Item", "hasRoom", "()Z"⟩ yX4_hasRoom wsX4_hasRoom) := goodIn_app (goodIn_of _ (by decide +kernel)) ggX11_put_X4_hasRoom
set_option maxRecDepth 20000 in
theorem ggX11_put_X9_isFree : GoodIn wsX11_put wsX9_isFree := goodIn_r _ [112, 113, 114, 115, 116, 117, 14, 118, 18, 19, 20, 119, 120, 121, 122, 123, 111, 124, 125, 126, 226, 227, 228, 229, 230, 231, 241, 242, 243, 244, 245] (by decide +kernel) (by decide +kernel)
set_option maxRecDepth 20000 in
theorem gX11_put_X9_isFree : GoodIn wsX11_put (wsV RX11 151 RX9 yX9_isFree wsX9_isFree) := goodIn_app (goodIn_of _ (by decide +kernel)) ggX11_put_X9_isFree
set_option maxRecDepth 20000 in
theorem ggX11_put_X4_maySit : GoodIn wsX11_put wsX4_maySit := goodIn_r _ [131] (by decide +kernel) (by decide +kernel)
set_option maxRecDepth 20000 in
theorem gX11_put_X4_maySit_u155X2 : GoodIn wsX11_put (va_wsU RX11 155 RX2 "PageOne$Item" ⟨"PageOne$Item", "maySit", "(LPageOne$Piece;II)Z"⟩ yX4_maySit wsX4_maySit) := goodIn_app (goodIn_of _ (by decide +kernel)) ggX11_put_X4_maySit
set_option maxRecDepth 20000 in
theorem gX11_put_X4_maySit_u155X3 : GoodIn wsX11_put (va_wsU RX11 155 RX3 "PageOne$Item" ⟨"PageOne$Item", "maySit", "(LPageOne$Piece;II)Z"⟩ yX4_maySit wsX4_maySit) := goodIn_app (goodIn_of _ (by decide +kernel)) ggX11_put_X4_maySit
set_option maxRecDepth 20000 in
theorem ggX11_put_X5_maySit : GoodIn wsX11_put wsX5_maySit := goodIn_r _ [136, 137, 138, 139, 140, 141, 142, 19, 14, 20, 250, 251, 252, 253, 254, 255, 256, 257, 258, 259, 260, 261, 262, 263, 264, 265, 266, 267, 268, 269, 270, 271, 272, 273, 274, 275, 276, 277, 278, 279, 280, 281, 282, 283, 284, 285, 286, 287, 288, 289, 290, 291, 292, 293, 294, 295, 296, 297, 226, 227, 228, 229, 230, 231] (by decide +kernel) (by decide +kernel)
set_option maxRecDepth 20000 in
theorem gX11_put_X5_maySit_u155X5 : GoodIn wsX11_put (va_wsO RX11 155 RX5 "PageOne$Item" ⟨"PageOne$Item", "maySit", "(LPageOne$Piece;II)Z"⟩ yX5_maySit wsX5_maySit) := goodIn_app (goodIn_of _ (by decide +kernel)) ggX11_put_X5_maySit
set_option maxRecDepth 20000 in
theorem ggX11_put_X6_maySit : GoodIn wsX11_put wsX6_maySit := goodIn_r _ [145, 46, 146, 147, 148, 3, 149, 91, 92, 93, 272, 273, 274, 275, 276, 277, 278, 279, 280, 226, 227, 228, 229, 230, 231] (by decide +kernel) (by decide +kernel)
set_option maxRecDepth 20000 in
theorem gX11_put_X6_maySit_u155X6 : GoodIn wsX11_put (va_wsO RX11 155 RX6 "PageOne$Item" ⟨"PageOne$Item", "maySit", "(LPageOne$Piece;II)Z"⟩ yX6_maySit wsX6_maySit) := goodIn_app (goodIn_of _ (by decide +kernel)) ggX11_put_X6_maySit
set_option maxRecDepth 20000 in
theorem gX11_put_X4_maySit_u155X7 : GoodIn wsX11_put (va_wsU RX11 155 RX7 "PageOne$Item" ⟨"PageOne$Item", "maySit", "(LPageOne$Piece;II)Z"⟩ yX4_maySit wsX4_maySit) := goodIn_app (goodIn_of _ (by decide +kernel)) ggX11_put_X4_maySit
set_option maxRecDepth 20000 in
theorem ggX11_put_X10_maySit : GoodIn wsX11_put wsX10_maySit := goodIn_r _ [153, 154, 155, 156, 157, 158, 159, 160, 161, 33, 162, 101, 102, 163, 164, 165, 82, 166, 167, 168, 169, 170, 171, 3, 172, 91, 92, 93, 95, 173, 174, 175, 176, 177, 178, 19, 14, 20, 179, 180, 181, 182, 183, 184, 185, 186, 226, 227, 228, 229, 230, 231, 250, 251, 252, 253, 254, 255, 256, 257, 258, 259, 260, 261, 262, 263, 264, 265, 266, 267, 268, 269, 270, 271, 272, 273, 274, 275, 276, 277, 278, 279, 280, 281, 282, 283, 284, 285, 286, 287, 288, 289, 290, 291, 292, 293, 294, 295, 296, 297] (by decide +kernel) (by decide +kernel)
