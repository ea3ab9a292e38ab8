set_option maxRecDepth 20000 in
theorem ggX11_isFresh_X11_hasPlate : GoodIn wsX11_isFresh wsX11_hasPlate := goodIn_r _ [10, 1, 11, 12, 9, 13, 14, 15, 16, 17, 18, 19, 20, 21, 22, 23, 24, 25] (by decide +kernel) (by decide +kernel)
set_option maxRecDepth 20000 in
theorem gX11_isFresh_X11_hasPlate : GoodIn wsX11_isFresh (wsV RX11 272 RX11 yX11_hasPlate wsX11_hasPlate) := goodIn_app (goodIn_of _ (by decide +kernel)) ggX11_isFresh_X11_hasPlate
set_option maxRecDepth 20000 in
theorem ggX11_freshPlates_X11_isFresh : GoodIn wsX11_freshPlates wsX11_isFresh := goodIn_r _ [5, 6, 7, 8, 9, 10, 11, 12, 13, 4, 14, 15, 16, 17, 18, 19, 20, 21, 22, 23, 24, 25, 26, 27, 28, 29, 30, 31, 32, 33, 34] (by decide +kernel) (by decide +kernel)
set_option maxRecDepth 20000 in
theorem gX11_freshPlates_X11_isFresh : GoodIn wsX11_freshPlates (wsV RX11 372 RX11 yX11_isFresh wsX11_isFresh) := goodIn_app (goodIn_of _ (by decide +kernel)) ggX11_freshPlates_X11_isFresh
set_option maxRecDepth 20000 in
theorem ggX11_closeEdition_X11_isFresh : GoodIn wsX11_closeEdition wsX11_isFresh := goodIn_r _ [5, 6, 7, 8, 9, 10, 11, 12, 13, 4, 14, 15, 16, 17, 18, 19, 20, 52, 53, 54, 55, 56, 57, 58, 59, 60, 61, 62, 63, 64, 65] (by decide +kernel) (by decide +kernel)
set_option maxRecDepth 20000 in
theorem gX11_closeEdition_X11_isFresh : GoodIn wsX11_closeEdition (wsV RX11 372 RX11 yX11_isFresh wsX11_isFresh) := goodIn_app (goodIn_of _ (by decide +kernel)) ggX11_closeEdition_X11_isFresh
set_option maxRecDepth 20000 in
theorem ggX11_closeEdition_X11_writeDown : GoodIn wsX11_closeEdition wsX11_writeDown := goodIn_r _ [24, 6, 25, 26, 27, 28, 29, 30, 31, 32, 33, 4, 34, 18, 19, 20, 35, 36, 37, 38, 39, 40, 41, 42, 43, 44, 45, 46, 47, 8, 48, 49, 50, 51, 7, 9, 52, 53, 54, 55, 56, 57, 58, 59, 60, 61, 62, 63, 64, 65, 66, 67, 68, 69, 70, 71, 72, 73, 74, 75, 76, 77, 78, 79, 80, 81, 82, 83, 84, 85, 86, 87, 88, 89, 90, 91, 92, 93, 94, 95, 96, 97, 98, 99, 100, 101, 102, 103, 104, 105, 106, 107, 108, 109, 110, 111, 112, 113] (by decide +kernel) (by decide +kernel)
set_option maxRecDepth 20000 in
theorem gX11_closeEdition_X11_writeDown : GoodIn wsX11_closeEdition (wsV RX11 375 RX11 yX11_writeDown wsX11_writeDown) := goodIn_app (goodIn_of _ (by decide +kernel)) ggX11_closeEdition_X11_writeDown
set_option maxRecDepth 20000 in
theorem ggX11_writeDown_X9_at : GoodIn wsX11_writeDown wsX9_at := goodIn_r _ [7, 8, 9, 10, 11, 12, 13, 14, 15, 45, 46, 47, 48, 49] (by decide +kernel) (by decide +kernel)
set_option maxRecDepth 20000 in
theorem gX11_writeDown_X9_at : GoodIn wsX11_writeDown (wsV RX11 222 RX9 yX9_at wsX9_at) := goodIn_app (goodIn_of _ (by decide +kernel)) ggX11_writeDown_X9_at
set_option maxRecDepth 20000 in
theorem ggX11_writeDown_X11_itemOf : GoodIn wsX11_writeDown wsX11_itemOf := goodIn_r _ [19, 20, 21, 13, 14, 11, 15, 36, 37, 38, 39, 40, 41, 42, 43, 44] (by decide +kernel) (by decide +kernel)
set_option maxRecDepth 20000 in
theorem gX11_writeDown_X11_itemOf : GoodIn wsX11_writeDown (wsV RX11 75 RX11 yX11_itemOf wsX11_itemOf) := goodIn_app (goodIn_of _ (by decide +kernel)) ggX11_writeDown_X11_itemOf
set_option maxRecDepth 20000 in
theorem ggX11_writeDown_X11_writeDownItem : GoodIn wsX11_writeDown wsX11_writeDownItem := goodIn_r _ [25, 26, 27, 28, 29, 30, 31, 32, 11, 33, 1, 34, 35, 50, 51, 52, 53, 54, 55, 56, 57, 58, 59, 60, 61, 62, 63, 64, 65, 66, 67, 68, 69, 70, 71, 72, 73, 74, 75, 76, 77, 78, 79, 80, 81, 82, 83, 84, 85, 86, 87, 88, 89, 90, 91, 92, 93, 94, 95, 96, 97, 36, 37, 38, 39, 40, 41, 42, 43, 44, 45, 46, 47, 48, 49] (by decide +kernel) (by decide +kernel)
set_option maxRecDepth 20000 in
theorem gX11_writeDown_X11_writeDownItem : GoodIn wsX11_writeDown (wsV RX11 378 RX11 yX11_writeDownItem wsX11_writeDownItem) := goodIn_app (goodIn_of _ (by decide +kernel)) ggX11_writeDown_X11_writeDownItem
set_option maxRecDepth 20000 in
theorem ggX11_writeDownItem_X11_plateFact : GoodIn wsX11_writeDownItem wsX11_plateFact := goodIn_r _ [9, 10, 11, 12, 61, 62, 63, 64, 65, 66, 67, 68, 69, 70, 71, 72, 73, 74] (by decide +kernel) (by decide +kernel)
set_option maxRecDepth 20000 in
theorem gX11_writeDownItem_X11_plateFact : GoodIn wsX11_writeDownItem (wsV RX11 384 RX11 yX11_plateFact wsX11_plateFact) := goodIn_app (goodIn_of _ (by decide +kernel)) ggX11_writeDownItem_X11_plateFact
set_option maxRecDepth 20000 in
theorem ggX11_firstPrinting_X11_isWithin : GoodIn wsX11_firstPrinting wsX11_isWithin := goodIn_r _ [7] (by decide +kernel) (by decide +kernel)
set_option maxRecDepth 20000 in
theorem gX11_firstPrinting_X11_isWithin : GoodIn wsX11_firstPrinting (va_wsS RX11 55 yX11_isWithin wsX11_isWithin) := goodIn_app (goodIn_of _ (by decide +kernel)) ggX11_firstPrinting_X11_isWithin
set_option maxRecDepth 20000 in
theorem ggX11_firstPrinting_X11_isFresh : GoodIn wsX11_firstPrinting wsX11_isFresh := goodIn_r _ [11, 2, 12, 13, 14, 15, 16, 17, 18, 6, 19, 20, 21, 22, 4, 5, 7, 88, 89, 90, 91, 92, 93, 94, 95, 96, 97, 98, 99, 100, 101] (by decide +kernel) (by decide +kernel)
set_option maxRecDepth 20000 in
theorem gX11_firstPrinting_X11_isFresh : GoodIn wsX11_firstPrinting (wsV RX11 372 RX11 yX11_isFresh wsX11_isFresh) := goodIn_app (goodIn_of _ (by decide +kernel)) ggX11_firstPrinting_X11_isFresh
set_option maxRecDepth 20000 in
theorem ggX11_firstPrinting_X9_spotOf : GoodIn wsX11_firstPrinting wsX9_spotOf := goodIn_r _ [27, 28, 29, 30, 31, 26, 32, 33, 34, 6, 35, 4, 5, 7, 97, 98, 99, 100, 101] (by decide +kernel) (by decide +kernel)
set_option maxRecDepth 20000 in
theorem gX11_firstPrinting_X9_spotOf : GoodIn wsX11_firstPrinting (wsV RX11 391 RX9 yX9_spotOf wsX9_spotOf) := goodIn_app (goodIn_of _ (by decide +kernel)) ggX11_firstPrinting_X9_spotOf
set_option maxRecDepth 20000 in
theorem ggX11_firstPrinting_X11_plateFact : GoodIn wsX11_firstPrinting wsX11_plateFact := goodIn_r _ [39, 2, 12, 14, 88, 89, 90, 91, 92, 93, 94, 95, 96, 97, 98, 99, 100, 101] (by decide +kernel) (by decide +kernel)
set_option maxRecDepth 20000 in
theorem gX11_firstPrinting_X11_plateFact : GoodIn wsX11_firstPrinting (wsV RX11 384 RX11 yX11_plateFact wsX11_plateFact) := goodIn_app (goodIn_of _ (by decide +kernel)) ggX11_firstPrinting_X11_plateFact
set_option maxRecDepth 20000 in
theorem ggX11_wasPrintedOn_X11_isFresh : GoodIn wsX11_wasPrintedOn wsX11_isFresh := goodIn_r _ [12, 5, 13, 4, 14, 15, 16, 17, 18, 11, 19, 20, 21, 22, 23, 24, 25, 54, 55, 56, 57, 58, 59, 60, 61, 62, 102, 103, 104, 105, 106] (by decide +kernel) (by decide +kernel)
set_option maxRecDepth 20000 in
theorem gX11_wasPrintedOn_X11_isFresh : GoodIn wsX11_wasPrintedOn (wsV RX11 372 RX11 yX11_isFresh wsX11_isFresh) := goodIn_app (goodIn_of _ (by decide +kernel)) ggX11_wasPrintedOn_X11_isFresh
set_option maxRecDepth 20000 in
theorem ggX11_wasPrintedOn_X9_spotOf : GoodIn wsX11_wasPrintedOn wsX9_spotOf := goodIn_r _ [30, 31, 32, 33, 34, 29, 35, 36, 37, 11, 38, 23, 24, 25, 102, 103, 104, 105, 106] (by decide +kernel) (by decide +kernel)
set_option maxRecDepth 20000 in
theorem gX11_wasPrintedOn_X9_spotOf : GoodIn wsX11_wasPrintedOn (wsV RX11 391 RX9 yX9_spotOf wsX9_spotOf) := goodIn_app (goodIn_of _ (by decide +kernel)) ggX11_wasPrintedOn_X9_spotOf
set_option maxRecDepth 20000 in
theorem ggX12_isPage_X12_in : GoodIn wsX12_isPage wsX12_in := goodIn_r _ [4] (by decide +kernel) (by decide +kernel)
set_option maxRecDepth 20000 in
theorem gX12_isPage_X12_in : GoodIn wsX12_isPage (va_wsS RX12 143 yX12_in wsX12_in) := goodIn_app (goodIn_of _ (by decide +kernel)) ggX12_isPage_X12_in
set_option maxRecDepth 20000 in
theorem ggX12_isItem_X12_in : GoodIn wsX12_isItem wsX12_in := goodIn_r _ [5] (by decide +kernel) (by decide +kernel)
set_option maxRecDepth 20000 in
theorem gX12_isItem_X12_in : GoodIn wsX12_isItem (va_wsS RX12 143 yX12_in wsX12_in) := goodIn_app (goodIn_of _ (by decide +kernel)) ggX12_isItem_X12_in
set_option maxRecDepth 20000 in
theorem ggX12_isKind_X12_isItem : GoodIn wsX12_isKind wsX12_isItem := goodIn_r _ [6, 7, 8, 9, 5, 10, 11, 12, 13, 14, 15, 16, 17, 18, 19, 20, 21, 22, 23, 24, 25, 26, 27, 28, 29, 30, 31, 32, 33, 34, 35, 36, 37, 38, 39, 40, 41, 42, 43, 44, 45, 46, 47, 48, 49, 50, 51, 52, 53, 54, 55, 56, 57, 58, 59, 60, 61, 62] (by decide +kernel) (by decide +kernel)
set_option maxRecDepth 20000 in
theorem gX12_isKind_X12_isItem : GoodIn wsX12_isKind (wsV RX12 151 RX12 yX12_isItem wsX12_isItem) := goodIn_app (goodIn_of _ (by decide +kernel)) ggX12_isKind_X12_isItem
set_option maxRecDepth 20000 in
theorem ggX12_isBuyer_X12_in : GoodIn wsX12_isBuyer wsX12_in := goodIn_r _ [4] (by decide +kernel) (by decide +kernel)
set_option maxRecDepth 20000 in
theorem gX12_isBuyer_X12_in : GoodIn wsX12_isBuyer (va_wsS RX12 143 yX12_in wsX12_in) := goodIn_app (goodIn_of _ (by decide +kernel)) ggX12_isBuyer_X12_in
set_option maxRecDepth 20000 in
theorem ggX12_isCell_X12_isPage : GoodIn wsX12_isCell wsX12_isPage := goodIn_r _ [5, 6, 7, 4, 8] (by decide +kernel) (by decide +kernel)
set_option maxRecDepth 20000 in
theorem gX12_isCell_X12_isPage : GoodIn wsX12_isCell (va_wsS RX12 155 yX12_isPage wsX12_isPage) := goodIn_app (goodIn_of _ (by decide +kernel)) ggX12_isCell_X12_isPage
set_option maxRecDepth 20000 in
theorem ggX12_isCell_X12_in : GoodIn wsX12_isCell wsX12_in := goodIn_r _ [8] (by decide +kernel) (by decide +kernel)
set_option maxRecDepth 20000 in
theorem gX12_isCell_X12_in : GoodIn wsX12_isCell (va_wsS RX12 143 yX12_in wsX12_in) := goodIn_app (goodIn_of _ (by decide +kernel)) ggX12_isCell_X12_in
set_option maxRecDepth 20000 in
theorem ggX12_column_X12_isPage : GoodIn wsX12_column wsX12_isPage := goodIn_r _ [7, 8, 9, 6, 10] (by decide +kernel) (by decide +kernel)
set_option maxRecDepth 20000 in
theorem gX12_column_X12_isPage : GoodIn wsX12_column (va_wsS RX12 155 yX12_isPage wsX12_isPage) := goodIn_app (goodIn_of _ (by decide +kernel)) ggX12_column_X12_isPage
set_option maxRecDepth 20000 in
theorem ggX12_column_X12_in : GoodIn wsX12_column wsX12_in := goodIn_r _ [10] (by decide +kernel) (by decide +kernel)
set_option maxRecDepth 20000 in
theorem gX12_column_X12_in : GoodIn wsX12_column (va_wsS RX12 143 yX12_in wsX12_in) := goodIn_app (goodIn_of _ (by decide +kernel)) ggX12_column_X12_in
set_option maxRecDepth 20000 in
theorem ggX12_column_X12_at : GoodIn wsX12_column wsX12_at := goodIn_r _ [13] (by decide +kernel) (by decide +kernel)
set_option maxRecDepth 20000 in
theorem gX12_column_X12_at : GoodIn wsX12_column (va_wsS RX12 161 yX12_at wsX12_at) := goodIn_app (goodIn_of _ (by decide +kernel)) ggX12_column_X12_at
set_option maxRecDepth 20000 in
theorem ggX12_measure_X12_isPage : GoodIn wsX12_measure wsX12_isPage := goodIn_r _ [6, 7, 8, 5, 9] (by decide +kernel) (by decide +kernel)
set_option maxRecDepth 20000 in
theorem gX12_measure_X12_isPage : GoodIn wsX12_measure (va_wsS RX12 155 yX12_isPage wsX12_isPage) := goodIn_app (goodIn_of _ (by decide +kernel)) ggX12_measure_X12_isPage
set_option maxRecDepth 20000 in
theorem ggX12_measure_X12_in : GoodIn wsX12_measure wsX12_in := goodIn_r _ [9] (by decide +kernel) (by decide +kernel)
set_option maxRecDepth 20000 in
theorem gX12_measure_X12_in : GoodIn wsX12_measure (va_wsS RX12 143 yX12_in wsX12_in) := goodIn_app (goodIn_of _ (by decide +kernel)) ggX12_measure_X12_in
set_option maxRecDepth 20000 in
theorem ggX12_measure_X12_hasPiece : GoodIn wsX12_measure wsX12_hasPiece := goodIn_r _ [13, 14, 15, 16, 17, 18, 19, 20, 21, 22, 23, 24, 25, 26, 27, 28, 29, 30, 31, 32, 33, 34, 35, 36, 37, 38, 39, 40, 41, 42, 43, 44, 45, 46, 47, 48, 49, 50, 51, 52, 53, 54, 55, 56, 57, 58, 59, 60, 61, 62, 63, 64, 65, 66] (by decide +kernel) (by decide +kernel)
set_option maxRecDepth 20000 in
theorem gX12_measure_X12_hasPiece : GoodIn wsX12_measure (wsV RX12 165 RX12 yX12_hasPiece wsX12_hasPiece) := goodIn_app (goodIn_of _ (by decide +kernel)) ggX12_measure_X12_hasPiece
set_option maxRecDepth 20000 in
theorem ggX12_story_X12_in : GoodIn wsX12_story wsX12_in := goodIn_r _ [6] (by decide +kernel) (by decide +kernel)
set_option maxRecDepth 20000 in
theorem gX12_story_X12_in : GoodIn wsX12_story (va_wsS RX12 143 yX12_in wsX12_in) := goodIn_app (goodIn_of _ (by decide +kernel)) ggX12_story_X12_in
set_option maxRecDepth 20000 in
theorem ggX12_story_X12_made : GoodIn wsX12_story wsX12_made := goodIn_r _ [10, 1, 11, 2, 12, 13, 14, 15, 16, 17, 18, 19, 20, 21, 22, 23, 24, 25, 26, 27, 28, 29, 30, 31, 32, 33, 34, 35, 36, 37, 38, 39, 40, 41, 42, 43, 44, 45, 46, 47, 48, 49, 50, 51, 52, 53, 54, 55, 56, 57, 58, 59, 60, 61, 62, 63, 64, 65, 66, 67, 68, 69, 70, 71] (by decide +kernel) (by decide +kernel)
set_option maxRecDepth 20000 in
theorem gX12_story_X12_made : GoodIn wsX12_story (wsV RX12 171 RX12 yX12_made wsX12_made) := goodIn_app (goodIn_of _ (by decide +kernel)) ggX12_story_X12_made
set_option maxRecDepth 20000 in
theorem ggX12_line_X12_isKind : GoodIn wsX12_line wsX12_isKind := goodIn_r _ [7, 8, 9, 10, 11, 6, 12, 13, 14, 15, 16, 17, 18, 19, 20, 21, 22, 23, 24, 25, 26, 27, 28, 29, 30, 31, 32, 33, 34, 35, 36, 37, 38, 39, 40, 41, 42, 43, 44, 45, 46, 47, 48, 49, 50, 51, 52, 53, 54, 55, 56, 57, 58, 59, 60, 61, 62, 63, 64, 65, 66, 67, 68] (by decide +kernel) (by decide +kernel)
set_option maxRecDepth 20000 in
theorem gX12_line_X12_isKind : GoodIn wsX12_line (wsV RX12 175 RX12 yX12_isKind wsX12_isKind) := goodIn_app (goodIn_of _ (by decide +kernel)) ggX12_line_X12_isKind
set_option maxRecDepth 20000 in
theorem ggX12_line_X12_in : GoodIn wsX12_line wsX12_in := goodIn_r _ [16] (by decide +kernel) (by decide +kernel)
set_option maxRecDepth 20000 in
theorem gX12_line_X12_in : GoodIn wsX12_line (va_wsS RX12 143 yX12_in wsX12_in) := goodIn_app (goodIn_of _ (by decide +kernel)) ggX12_line_X12_in
set_option maxRecDepth 20000 in
theorem ggX12_head_X12_isKind : GoodIn wsX12_head wsX12_isKind := goodIn_r _ [9, 10, 11, 12, 13, 8, 14, 1, 15, 16, 17, 28, 29, 30, 31, 32, 33, 34, 35, 36, 37, 38, 39, 40, 41, 42, 43, 44, 45, 46, 47, 48, 49, 50, 51, 52, 53, 54, 55, 56, 57, 58, 59, 60, 61, 62, 63, 64, 65, 66, 67, 68, 69, 70, 71, 72, 73, 74, 75, 76, 77, 78, 79] (by decide +kernel) (by decide +kernel)
set_option maxRecDepth 20000 in
theorem gX12_head_X12_isKind : GoodIn wsX12_head (wsV RX12 175 RX12 yX12_isKind wsX12_isKind) := goodIn_app (goodIn_of _ (by decide +kernel)) ggX12_head_X12_isKind
set_option maxRecDepth 20000 in
theorem ggX12_head_X12_in : GoodIn wsX12_head wsX12_in := goodIn_r _ [17] (by decide +kernel) (by decide +kernel)
set_option maxRecDepth 20000 in
theorem gX12_head_X12_in : GoodIn wsX12_head (va_wsS RX12 143 yX12_in wsX12_in) := goodIn_app (goodIn_of _ (by decide +kernel)) ggX12_head_X12_in
set_option maxRecDepth 20000 in
theorem ggX12_head_X12_made : GoodIn wsX12_head wsX12_made := goodIn_r _ [21, 1, 10, 22, 23, 3, 4, 2, 24, 25, 26, 27, 28, 29, 30, 31, 32, 33, 34, 35, 36, 37, 38, 39, 40, 41, 42, 43, 44, 45, 46, 47, 48, 49, 50, 51, 52, 53, 54, 55, 56, 57, 58, 59, 60, 61, 62, 63, 64, 65, 66, 67, 68, 69, 70, 71, 72, 73, 74, 75, 76, 77, 78, 79] (by decide +kernel) (by decide +kernel)
set_option maxRecDepth 20000 in
theorem gX12_head_X12_made : GoodIn wsX12_head (wsV RX12 171 RX12 yX12_made wsX12_made) := goodIn_app (goodIn_of _ (by decide +kernel)) ggX12_head_X12_made
set_option maxRecDepth 20000 in
theorem ggX12_picture_X12_made : GoodIn wsX12_picture wsX12_made := goodIn_r _ [6, 1, 7, 8, 9, 10, 11, 12, 13, 14, 15, 16, 17, 18, 19, 20, 21, 22, 23, 24, 25, 26, 27, 28, 29, 30, 31, 32, 33, 34, 35, 36, 37, 38, 39, 40, 41, 42, 43, 44, 45, 46, 47, 48, 49, 50, 51, 52, 53, 54, 55, 56, 57, 58, 59, 60, 61, 62, 63, 64, 65, 66, 67, 68] (by decide +kernel) (by decide +kernel)
set_option maxRecDepth 20000 in
theorem gX12_picture_X12_made : GoodIn wsX12_picture (wsV RX12 171 RX12 yX12_made wsX12_made) := goodIn_app (goodIn_of _ (by decide +kernel)) ggX12_picture_X12_made
set_option maxRecDepth 20000 in
theorem ggX12_size_X12_isKind : GoodIn wsX12_size wsX12_isKind := goodIn_r _ [8, 9, 10, 11, 12, 7, 13, 14, 15, 16, 17, 18, 19, 20, 21, 22, 23, 24, 25, 26, 27, 28, 29, 30, 31, 32, 33, 34, 35, 36, 37, 38, 39, 40, 41, 42, 43, 44, 45, 46, 47, 48, 49, 50, 51, 52, 53, 54, 55, 56, 57, 58, 59, 60, 61, 62, 63, 64, 65, 66, 67, 68, 69] (by decide +kernel) (by decide +kernel)
set_option maxRecDepth 20000 in
theorem gX12_size_X12_isKind : GoodIn wsX12_size (wsV RX12 175 RX12 yX12_isKind wsX12_isKind) := goodIn_app (goodIn_of _ (by decide +kernel)) ggX12_size_X12_isKind
set_option maxRecDepth 20000 in
theorem ggX12_size_X12_in : GoodIn wsX12_size wsX12_in := goodIn_r _ [17] (by decide +kernel) (by decide +kernel)
set_option maxRecDepth 20000 in
theorem gX12_size_X12_in : GoodIn wsX12_size (va_wsS RX12 143 yX12_in wsX12_in) := goodIn_app (goodIn_of _ (by decide +kernel)) ggX12_size_X12_in
set_option maxRecDepth 20000 in
theorem ggX12_paid_X12_isPage : GoodIn wsX12_paid wsX12_isPage := goodIn_r _ [12, 13, 14, 11, 15] (by decide +kernel) (by decide +kernel)
set_option maxRecDepth 20000 in
theorem gX12_paid_X12_isPage : GoodIn wsX12_paid (va_wsS RX12 155 yX12_isPage wsX12_isPage) := goodIn_app (goodIn_of _ (by decide +kernel)) ggX12_paid_X12_isPage
set_option maxRecDepth 20000 in
theorem ggX12_paid_X12_in : GoodIn wsX12_paid wsX12_in := goodIn_r _ [15] (by decide +kernel) (by decide +kernel)
set_option maxRecDepth 20000 in
theorem gX12_paid_X12_in : GoodIn wsX12_paid (va_wsS RX12 143 yX12_in wsX12_in) := goodIn_app (goodIn_of _ (by decide +kernel)) ggX12_paid_X12_in
set_option maxRecDepth 20000 in
theorem ggX12_paid_X12_isBuyer : GoodIn wsX12_paid wsX12_isBuyer := goodIn_r _ [18, 13, 14, 11, 15] (by decide +kernel) (by decide +kernel)
set_option maxRecDepth 20000 in
theorem gX12_paid_X12_isBuyer : GoodIn wsX12_paid (va_wsS RX12 179 yX12_isBuyer wsX12_isBuyer) := goodIn_app (goodIn_of _ (by decide +kernel)) ggX12_paid_X12_isBuyer
set_option maxRecDepth 20000 in
theorem ggX12_paid_X12_made : GoodIn wsX12_paid wsX12_made := goodIn_r _ [22, 1, 23, 24, 25, 6, 7, 26, 2, 27, 28, 29, 30, 31, 32, 33, 34, 35, 36, 37, 38, 39, 40, 41, 42, 43, 44, 45, 46, 47, 48, 49, 50, 51, 52, 53, 54, 55, 56, 57, 58, 59, 60, 61, 62, 63, 64, 65, 66, 67, 68, 69, 70, 71, 72, 73, 74, 75, 76, 77, 78, 79, 80, 81] (by decide +kernel) (by decide +kernel)
set_option maxRecDepth 20000 in
theorem gX12_paid_X12_made : GoodIn wsX12_paid (wsV RX12 171 RX12 yX12_made wsX12_made) := goodIn_app (goodIn_of _ (by decide +kernel)) ggX12_paid_X12_made
set_option maxRecDepth 20000 in
theorem ggX12_filler_X12_in : GoodIn wsX12_filler wsX12_in := goodIn_r _ [7] (by decide +kernel) (by decide +kernel)
set_option maxRecDepth 20000 in
theorem gX12_filler_X12_in : GoodIn wsX12_filler (va_wsS RX12 143 yX12_in wsX12_in) := goodIn_app (goodIn_of _ (by decide +kernel)) ggX12_filler_X12_in
set_option maxRecDepth 20000 in
theorem ggX12_filler_X12_made : GoodIn wsX12_filler wsX12_made := goodIn_r _ [11, 1, 12, 2, 3, 13, 14, 15, 16, 17, 18, 19, 20, 21, 22, 23, 24, 25, 26, 27, 28, 29, 30, 31, 32, 33, 34, 35, 36, 37, 38, 39, 40, 41, 42, 43, 44, 45, 46, 47, 48, 49, 50, 51, 52, 53, 54, 55, 56, 57, 58, 59, 60, 61, 62, 63, 64, 65, 66, 67, 68, 69, 70, 71] (by decide +kernel) (by decide +kernel)
set_option maxRecDepth 20000 in
theorem gX12_filler_X12_made : GoodIn wsX12_filler (wsV RX12 171 RX12 yX12_made wsX12_made) := goodIn_app (goodIn_of _ (by decide +kernel)) ggX12_filler_X12_made
set_option maxRecDepth 20000 in
theorem ggX12_notice_X12_isItem : GoodIn wsX12_notice wsX12_isItem := goodIn_r _ [9, 1, 10, 11, 8, 12, 40, 41, 42, 43, 44, 45, 46, 47, 48, 49, 50, 51, 52, 53, 54, 55, 56, 57, 58, 59, 60, 61, 62, 63, 64, 65, 66, 67, 68, 69, 70, 71, 72, 73, 74, 75, 76, 77, 78, 79, 80, 81, 82, 83, 84, 85, 86, 87, 88, 89, 90, 91] (by decide +kernel) (by decide +kernel)
set_option maxRecDepth 20000 in
theorem gX12_notice_X12_isItem : GoodIn wsX12_notice (wsV RX12 151 RX12 yX12_isItem wsX12_isItem) := goodIn_app (goodIn_of _ (by decide +kernel)) ggX12_notice_X12_isItem
set_option maxRecDepth 20000 in
theorem ggX12_notice_X12_in : GoodIn wsX12_notice wsX12_in := goodIn_r _ [12] (by decide +kernel) (by decide +kernel)
set_option maxRecDepth 20000 in
theorem gX12_notice_X12_in : GoodIn wsX12_notice (va_wsS RX12 143 yX12_in wsX12_in) := goodIn_app (goodIn_of _ (by decide +kernel)) ggX12_notice_X12_in
set_option maxRecDepth 20000 in
theorem ggX12_notice_X12_printed : GoodIn wsX12_notice wsX12_printed := goodIn_r _ [16, 17, 18, 19, 20, 21, 5, 6, 7, 8, 9, 1, 10, 11, 12, 22, 23, 24, 25, 26, 27, 28, 40, 41, 42, 43, 44, 45, 46, 47, 48, 49, 50, 51, 52, 53, 54, 55, 56, 57, 58, 59, 60, 61, 62, 63, 64, 65, 66, 67, 68, 69, 70, 71, 72, 73, 74, 75, 76, 77, 78, 79, 80, 81, 82, 83, 84, 85, 86, 87, 88, 89, 90, 91] (by decide +kernel) (by decide +kernel)
set_option maxRecDepth 20000 in
theorem gX12_notice_X12_printed : GoodIn wsX12_notice (wsV RX12 182 RX12 yX12_printed wsX12_printed) := goodIn_app (goodIn_of _ (by decide +kernel)) ggX12_notice_X12_printed
set_option maxRecDepth 20000 in
theorem ggX12_notice_X12_made : GoodIn wsX12_notice wsX12_made := goodIn_r _ [32, 1, 2, 33, 34, 35, 4, 3, 36, 37, 38, 39, 40, 41, 42, 43, 44, 45, 46, 47, 48, 49, 50, 51, 52, 53, 54, 55, 56, 57, 58, 59, 60, 61, 62, 63, 64, 65, 66, 67, 68, 69, 70, 71, 72, 73, 74, 75, 76, 77, 78, 79, 80, 81, 82, 83, 84, 85, 86, 87, 88, 89, 90, 91] (by decide +kernel) (by decide +kernel)
set_option maxRecDepth 20000 in
theorem gX12_notice_X12_made : GoodIn wsX12_notice (wsV RX12 171 RX12 yX12_made wsX12_made) := goodIn_app (goodIn_of _ (by decide +kernel)) ggX12_notice_X12_made
set_option maxRecDepth 20000 in
theorem ggX12_rival_X12_isBuyer : GoodIn wsX12_rival wsX12_isBuyer := goodIn_r _ [5, 6, 7, 4, 8] (by decide +kernel) (by decide +kernel)
set_option maxRecDepth 20000 in
theorem gX12_rival_X12_isBuyer : GoodIn wsX12_rival (va_wsS RX12 179 yX12_isBuyer wsX12_isBuyer) := goodIn_app (goodIn_of _ (by decide +kernel)) ggX12_rival_X12_isBuyer
set_option maxRecDepth 20000 in
theorem ggX12_names_X12_isKind : GoodIn wsX12_names wsX12_isKind := goodIn_r _ [6, 7, 8, 9, 10, 5, 11, 12, 13, 14, 15, 19, 20, 21, 22, 23, 24, 25, 26, 27, 28, 29, 30, 31, 32, 33, 34, 35, 36, 37, 38, 39, 40, 41, 42, 43, 44, 45, 46, 47, 48, 49, 50, 51, 52, 53, 54, 55, 56, 57, 58, 59, 60, 61, 62, 63, 64, 65, 66, 67, 68, 69, 70] (by decide +kernel) (by decide +kernel)
set_option maxRecDepth 20000 in
theorem gX12_names_X12_isKind : GoodIn wsX12_names (wsV RX12 175 RX12 yX12_isKind wsX12_isKind) := goodIn_app (goodIn_of _ (by decide +kernel)) ggX12_names_X12_isKind
set_option maxRecDepth 20000 in
theorem ggX12_names_X12_isBuyer : GoodIn wsX12_names wsX12_isBuyer := goodIn_r _ [18, 13, 14, 5, 15] (by decide +kernel) (by decide +kernel)
set_option maxRecDepth 20000 in
theorem gX12_names_X12_isBuyer : GoodIn wsX12_names (va_wsS RX12 179 yX12_isBuyer wsX12_isBuyer) := goodIn_app (goodIn_of _ (by decide +kernel)) ggX12_names_X12_isBuyer
set_option maxRecDepth 20000 in
theorem ggX12_from_X12_takes : GoodIn wsX12_from wsX12_takes := goodIn_r _ [5, 6, 7, 8, 9, 10, 11, 12, 13, 14, 15, 16, 17, 18, 19, 20, 21, 22, 23, 24, 25, 26, 27, 28, 29, 30, 31, 32, 33, 34, 35, 36, 37, 38, 39, 40, 41, 42, 43, 44, 45, 46, 47, 48, 49, 50, 51, 52, 53, 54, 55, 56, 57, 58, 59, 60] (by decide +kernel) (by decide +kernel)
set_option maxRecDepth 20000 in
theorem gX12_from_X12_takes : GoodIn wsX12_from (wsV RX12 186 RX12 yX12_takes wsX12_takes) := goodIn_app (goodIn_of _ (by decide +kernel)) ggX12_from_X12_takes
set_option maxRecDepth 20000 in
theorem ggX12_isFree_X12_isCell : GoodIn wsX12_isFree wsX12_isCell := goodIn_r _ [6, 7, 8, 9, 5, 10, 11, 12, 13, 17, 18, 19, 20, 21, 22, 23, 24, 25, 26, 27, 28, 29, 30, 31, 32, 33, 34, 35, 36, 37, 38, 39, 40, 41, 42, 43, 44, 45, 46, 47, 48, 49, 50, 51, 52, 53, 54, 55, 56, 57, 58, 59, 60, 61, 62, 63, 64, 65, 66, 67, 68] (by decide +kernel) (by decide +kernel)
set_option maxRecDepth 20000 in
theorem gX12_isFree_X12_isCell : GoodIn wsX12_isFree (wsV RX12 189 RX12 yX12_isCell wsX12_isCell) := goodIn_app (goodIn_of _ (by decide +kernel)) ggX12_isFree_X12_isCell
set_option maxRecDepth 20000 in
theorem ggX12_isFree_X12_in : GoodIn wsX12_isFree wsX12_in := goodIn_r _ [13] (by decide +kernel) (by decide +kernel)
set_option maxRecDepth 20000 in
theorem gX12_isFree_X12_in : GoodIn wsX12_isFree (va_wsS RX12 143 yX12_in wsX12_in) := goodIn_app (goodIn_of _ (by decide +kernel)) ggX12_isFree_X12_in
set_option maxRecDepth 20000 in
theorem ggX12_isFree_X12_at : GoodIn wsX12_isFree wsX12_at := goodIn_r _ [16] (by decide +kernel) (by decide +kernel)
set_option maxRecDepth 20000 in
theorem gX12_isFree_X12_at : GoodIn wsX12_isFree (va_wsS RX12 161 yX12_at wsX12_at) := goodIn_app (goodIn_of _ (by decide +kernel)) ggX12_isFree_X12_at
set_option maxRecDepth 20000 in
theorem ggX12_sets_X12_at : GoodIn wsX12_sets wsX12_at := goodIn_r _ [5] (by decide +kernel) (by decide +kernel)
set_option maxRecDepth 20000 in
theorem gX12_sets_X12_at : GoodIn wsX12_sets (va_wsS RX12 161 yX12_at wsX12_at) := goodIn_app (goodIn_of _ (by decide +kernel)) ggX12_sets_X12_at
set_option maxRecDepth 20000 in
theorem ggX12_stand_X12_sets : GoodIn wsX12_stand wsX12_sets := goodIn_r _ [11, 12, 13, 14, 10, 15, 16, 17, 18, 19, 20, 21, 22, 23, 24, 25, 26, 27, 28, 29, 30, 31, 32, 33, 34, 35, 36, 37, 38, 39, 40, 41, 42, 43, 44, 45, 46, 47, 48, 49, 50, 51, 52, 53, 54, 55, 56, 57, 58, 59, 60, 61, 62, 63, 64, 65, 66, 67] (by decide +kernel) (by decide +kernel)
set_option maxRecDepth 20000 in
theorem gX12_stand_X12_sets : GoodIn wsX12_stand (wsV RX12 192 RX12 yX12_sets wsX12_sets) := goodIn_app (goodIn_of _ (by decide +kernel)) ggX12_stand_X12_sets
set_option maxRecDepth 20000 in
theorem ggX12_unstand_X12_sets : GoodIn wsX12_unstand wsX12_sets := goodIn_r _ [11, 12, 13, 14, 10, 15, 16, 17, 18, 19, 20, 21, 22, 23, 24, 25, 26, 27, 28, 29, 30, 31, 32, 33, 34, 35, 36, 37, 38, 39, 40, 41, 42, 43, 44, 45, 46, 47, 48, 49, 50, 51, 52, 53, 54, 55, 56, 57, 58, 59, 60, 61, 62, 63, 64, 65, 66, 67] (by decide +kernel) (by decide +kernel)
set_option maxRecDepth 20000 in
theorem gX12_unstand_X12_sets : GoodIn wsX12_unstand (wsV RX12 192 RX12 yX12_sets wsX12_sets) := goodIn_app (goodIn_of _ (by decide +kernel)) ggX12_unstand_X12_sets
set_option maxRecDepth 20000 in
theorem ggX12_mayRun_X12_stand : GoodIn wsX12_mayRun wsX12_stand := goodIn_r _ [13, 1, 2, 3, 4, 14, 5, 15, 16, 17, 12, 18, 19, 20, 21, 22, 35, 36, 37, 38, 39, 40, 41, 42, 43, 44, 45, 46, 47, 48, 49, 50, 51, 52, 53, 54, 55, 56, 57, 58, 59, 60, 61, 62, 63, 64, 65, 66, 67, 68, 69, 70, 71, 72, 73, 74, 75, 76, 77, 78, 79, 80, 81, 82, 83, 84, 85, 86] (by decide +kernel) (by decide +kernel)
set_option maxRecDepth 20000 in
theorem gX12_mayRun_X12_stand : GoodIn wsX12_mayRun (wsV RX12 196 RX12 yX12_stand wsX12_stand) := goodIn_app (goodIn_of _ (by decide +kernel)) ggX12_mayRun_X12_stand
set_option maxRecDepth 20000 in
theorem ggX12_mayRun_X12_takes : GoodIn wsX12_mayRun wsX12_takes := goodIn_r _ [26, 5, 2, 1, 35, 36, 37, 38, 39, 40, 41, 42, 43, 44, 45, 46, 47, 48, 49, 50, 51, 52, 53, 54, 55, 56, 57, 58, 59, 60, 61, 62, 63, 64, 65, 66, 67, 68, 69, 70, 71, 72, 73, 74, 75, 76, 77, 78, 79, 80, 81, 82, 83, 84, 85, 86] (by decide +kernel) (by decide +kernel)
set_option maxRecDepth 20000 in
theorem gX12_mayRun_X12_takes : GoodIn wsX12_mayRun (wsV RX12 186 RX12 yX12_takes wsX12_takes) := goodIn_app (goodIn_of _ (by decide +kernel)) ggX12_mayRun_X12_takes
set_option maxRecDepth 20000 in
theorem ggX12_mayRun_X12_from : GoodIn wsX12_mayRun wsX12_from := goodIn_r _ [30, 23, 24, 25, 12, 26, 5, 2, 1, 35, 36, 37, 38, 39, 40, 41, 42, 43, 44, 45, 46, 47, 48, 49, 50, 51, 52, 53, 54, 55, 56, 57, 58, 59, 60, 61, 62, 63, 64, 65, 66, 67, 68, 69, 70, 71, 72, 73, 74, 75, 76, 77, 78, 79, 80, 81, 82, 83, 84, 85, 86] (by decide +kernel) (by decide +kernel)
set_option maxRecDepth 20000 in
theorem gX12_mayRun_X12_from : GoodIn wsX12_mayRun (wsV RX12 199 RX12 yX12_from wsX12_from) := goodIn_app (goodIn_of _ (by decide +kernel)) ggX12_mayRun_X12_from
set_option maxRecDepth 20000 in
theorem ggX12_mayRun_X12_unstand : GoodIn wsX12_mayRun wsX12_unstand := goodIn_r _ [34, 1, 2, 3, 4, 14, 5, 15, 16, 17, 12, 18, 19, 20, 21, 22, 35, 36, 37, 38, 39, 40, 41, 42, 43, 44, 45, 46, 47, 48, 49, 50, 51, 52, 53, 54, 55, 56, 57, 58, 59, 60, 61, 62, 63, 64, 65, 66, 67, 68, 69, 70, 71, 72, 73, 74, 75, 76, 77, 78, 79, 80, 81, 82, 83, 84, 85, 86] (by decide +kernel) (by decide +kernel)
set_option maxRecDepth 20000 in
theorem gX12_mayRun_X12_unstand : GoodIn wsX12_mayRun (wsV RX12 202 RX12 yX12_unstand wsX12_unstand) := goodIn_app (goodIn_of _ (by decide +kernel)) ggX12_mayRun_X12_unstand
set_option maxRecDepth 20000 in
theorem ggX12_mayMend_X12_printed : GoodIn wsX12_mayMend wsX12_printed := goodIn_r _ [7, 8, 9, 2, 10, 11, 12, 13, 14, 6, 15, 16, 17, 18, 19, 20, 21, 22, 23, 24, 25, 26, 32, 33, 34, 35, 36, 37, 38, 39, 40, 41, 42, 43, 44, 45, 46, 47, 48, 49, 50, 51, 52, 53, 54, 55, 56, 57, 58, 59, 60, 61, 62, 63, 64, 65, 66, 67, 68, 69, 70, 71, 72, 73, 74, 75, 76, 77, 78, 79, 80, 81, 82, 83] (by decide +kernel) (by decide +kernel)
set_option maxRecDepth 20000 in
theorem gX12_mayMend_X12_printed : GoodIn wsX12_mayMend (wsV RX12 182 RX12 yX12_printed wsX12_printed) := goodIn_app (goodIn_of _ (by decide +kernel)) ggX12_mayMend_X12_printed
set_option maxRecDepth 20000 in
theorem ggX12_mayMend_X12_wasPrintedAhead : GoodIn wsX12_mayMend wsX12_wasPrintedAhead := goodIn_r _ [30, 2, 31, 32, 33, 34, 35, 36, 37, 38, 39, 40, 41, 42, 43, 44, 45, 46, 47, 48, 49, 50, 51, 52, 53, 54, 55, 56, 57, 58, 59, 60, 61, 62, 63, 64, 65, 66, 67, 68, 69, 70, 71, 72, 73, 74, 75, 76, 77, 78, 79, 80, 81, 82, 83] (by decide +kernel) (by decide +kernel)
set_option maxRecDepth 20000 in
theorem gX12_mayMend_X12_wasPrintedAhead : GoodIn wsX12_mayMend (wsV RX12 209 RX12 yX12_wasPrintedAhead wsX12_wasPrintedAhead) := goodIn_app (goodIn_of _ (by decide +kernel)) ggX12_mayMend_X12_wasPrintedAhead
set_option maxRecDepth 20000 in
theorem ggX12_put_X12_isItem : GoodIn wsX12_put wsX12_isItem := goodIn_r _ [18, 19, 20, 21, 17, 22, 108, 109, 110, 111, 112, 113, 114, 115, 116, 117, 118, 119, 120, 121, 122, 123, 124, 125, 126, 127, 128, 129, 130, 131, 132, 133, 134, 135, 136, 137, 138, 139, 140, 141, 142, 143, 144, 145, 146, 147, 148, 149, 150, 151, 152, 153, 154, 155, 156, 157, 158, 159] (by decide +kernel) (by decide +kernel)
set_option maxRecDepth 20000 in
theorem gX12_put_X12_isItem : GoodIn wsX12_put (wsV RX12 151 RX12 yX12_isItem wsX12_isItem) := goodIn_app (goodIn_of _ (by decide +kernel)) ggX12_put_X12_isItem
set_option maxRecDepth 20000 in
theorem ggX12_put_X12_in : GoodIn wsX12_put wsX12_in := goodIn_r _ [22] (by decide +kernel) (by decide +kernel)
set_option maxRecDepth 20000 in
theorem gX12_put_X12_in : GoodIn wsX12_put (va_wsS RX12 143 yX12_in wsX12_in) := goodIn_app (goodIn_of _ (by decide +kernel)) ggX12_put_X12_in
set_option maxRecDepth 20000 in
theorem ggX12_put_X12_isFree : GoodIn wsX12_put wsX12_isFree := goodIn_r _ [26, 27, 28, 29, 30, 17, 31, 32, 33, 34, 35, 20, 21, 22, 36, 37, 38, 108, 109, 110, 111, 112, 113, 114, 115, 116, 117, 118, 119, 120, 121, 122, 123, 124, 125, 126, 127, 128, 129, 130, 131, 132, 133, 134, 135, 136, 137, 138, 139, 140, 141, 142, 143, 144, 145, 146, 147, 148, 149, 150, 151, 152, 153, 154, 155, 156, 157, 158, 159] (by decide +kernel) (by decide +kernel)
set_option maxRecDepth 20000 in
theorem gX12_put_X12_isFree : GoodIn wsX12_put (wsV RX12 212 RX12 yX12_isFree wsX12_isFree) := goodIn_app (goodIn_of _ (by decide +kernel)) ggX12_put_X12_isFree
set_option maxRecDepth 20000 in
theorem ggX12_put_X12_mayRun : GoodIn wsX12_put wsX12_mayRun := goodIn_r _ [42, 8, 43, 44, 45, 46, 47, 48, 49, 50, 51, 52, 17, 53, 54, 55, 56, 57, 58, 27, 36, 37, 38, 59, 60, 61, 62, 63, 64, 65, 66, 67, 68, 69, 70, 108, 109, 110, 111, 112, 113, 114, 115, 116, 117, 118, 119, 120, 121, 122, 123, 124, 125, 126, 127, 128, 129, 130, 131, 132, 133, 134, 135, 136, 137, 138, 139, 140, 141, 142, 143, 144, 145, 146, 147, 148, 149, 150, 151, 152, 153, 154, 155, 156, 157, 158, 159] (by decide +kernel) (by decide +kernel)
set_option maxRecDepth 20000 in
theorem gX12_put_X12_mayRun : GoodIn wsX12_put (wsV RX12 216 RX12 yX12_mayRun wsX12_mayRun) := goodIn_app (goodIn_of _ (by decide +kernel)) ggX12_put_X12_mayRun
set_option maxRecDepth 20000 in
theorem ggX12_put_X12_mayMend : GoodIn wsX12_put wsX12_mayMend := goodIn_r _ [74, 75, 76, 77, 78, 79, 17, 80, 81, 82, 83, 84, 14, 15, 16, 18, 19, 20, 21, 22, 85, 86, 87, 88, 89, 90, 91, 92, 93, 94, 95, 96, 108, 109, 110, 111, 112, 113, 114, 115, 116, 117, 118, 119, 120, 121, 122, 123, 124, 125, 126, 127, 128, 129, 130, 131, 132, 133, 134, 135, 136, 137, 138, 139, 140, 141, 142, 143, 144, 145, 146, 147, 148, 149, 150, 151, 152, 153, 154, 155, 156, 157, 158, 159] (by decide +kernel) (by decide +kernel)
set_option maxRecDepth 20000 in
theorem gX12_put_X12_mayMend : GoodIn wsX12_put (wsV RX12 219 RX12 yX12_mayMend wsX12_mayMend) := goodIn_app (goodIn_of _ (by decide +kernel)) ggX12_put_X12_mayMend
set_option maxRecDepth 20000 in
theorem ggX12_put_X12_stand : GoodIn wsX12_put wsX12_stand := goodIn_r _ [53, 8, 43, 44, 45, 54, 46, 55, 56, 57, 17, 58, 27, 36, 37, 38, 108, 109, 110, 111, 112, 113, 114, 115, 116, 117, 118, 119, 120, 121, 122, 123, 124, 125, 126, 127, 128, 129, 130, 131, 132, 133, 134, 135, 136, 137, 138, 139, 140, 141, 142, 143, 144, 145, 146, 147, 148, 149, 150, 151, 152, 153, 154, 155, 156, 157, 158, 159] (by decide +kernel) (by decide +kernel)
set_option maxRecDepth 20000 in
theorem gX12_put_X12_stand : GoodIn wsX12_put (wsV RX12 196 RX12 yX12_stand wsX12_stand) := goodIn_app (goodIn_of _ (by decide +kernel)) ggX12_put_X12_stand
set_option maxRecDepth 20000 in
theorem ggX12_put_X12_acts : GoodIn wsX12_put wsX12_acts := goodIn_r _ [100, 101, 1, 102, 103, 104, 105, 106, 107, 108, 109, 110, 111, 112, 113, 114, 115, 116, 117, 118, 119, 120, 121, 122, 123, 124, 125, 126, 127, 128, 129, 130, 131, 132, 133, 134, 135, 136, 137, 138, 139, 140, 141, 142, 143, 144, 145, 146, 147, 148, 149, 150, 151, 152, 153, 154, 155, 156, 157, 158, 159] (by decide +kernel) (by decide +kernel)
set_option maxRecDepth 20000 in
theorem gX12_put_X12_acts : GoodIn wsX12_put (wsV RX12 222 RX12 yX12_acts wsX12_acts) := goodIn_app (goodIn_of _ (by decide +kernel)) ggX12_put_X12_acts
set_option maxRecDepth 20000 in
theorem ggX12_lift_X12_isItem : GoodIn wsX12_lift wsX12_isItem := goodIn_r _ [12, 13, 14, 15, 11, 16, 40, 41, 42, 43, 44, 45, 46, 47, 48, 49, 50, 51, 52, 53, 54, 55, 56, 57, 58, 59, 60, 61, 62, 63, 64, 65, 66, 67, 68, 69, 70, 71, 72, 73, 74, 75, 76, 77, 78, 79, 80, 81, 82, 83, 84, 85, 86, 87, 88, 89, 90, 91] (by decide +kernel) (by decide +kernel)
set_option maxRecDepth 20000 in
theorem gX12_lift_X12_isItem : GoodIn wsX12_lift (wsV RX12 151 RX12 yX12_isItem wsX12_isItem) := goodIn_app (goodIn_of _ (by decide +kernel)) ggX12_lift_X12_isItem
set_option maxRecDepth 20000 in
theorem ggX12_lift_X12_acts : GoodIn wsX12_lift wsX12_acts := goodIn_r _ [20, 21, 2, 22, 23, 24, 25, 26, 27, 40, 41, 42, 43, 44, 45, 46, 47, 48, 49, 50, 51, 52, 53, 54, 55, 56, 57, 58, 59, 60, 61, 62, 63, 64, 65, 66, 67, 68, 69, 70, 71, 72, 73, 74, 75, 76, 77, 78, 79, 80, 81, 82, 83, 84, 85, 86, 87, 88, 89, 90, 91] (by decide +kernel) (by decide +kernel)
set_option maxRecDepth 20000 in
theorem gX12_lift_X12_acts : GoodIn wsX12_lift (wsV RX12 222 RX12 yX12_acts wsX12_acts) := goodIn_app (goodIn_of _ (by decide +kernel)) ggX12_lift_X12_acts
set_option maxRecDepth 20000 in
theorem ggX12_lift_X12_unstand : GoodIn wsX12_lift wsX12_unstand := goodIn_r _ [31, 1, 3, 4, 5, 6, 7, 32, 33, 34, 11, 35, 36, 37, 38, 39, 40, 41, 42, 43, 44, 45, 46, 47, 48, 49, 50, 51, 52, 53, 54, 55, 56, 57, 58, 59, 60, 61, 62, 63, 64, 65, 66, 67, 68, 69, 70, 71, 72, 73, 74, 75, 76, 77, 78, 79, 80, 81, 82, 83, 84, 85, 86, 87, 88, 89, 90, 91] (by decide +kernel) (by decide +kernel)
set_option maxRecDepth 20000 in
theorem gX12_lift_X12_unstand : GoodIn wsX12_lift (wsV RX12 202 RX12 yX12_unstand wsX12_unstand) := goodIn_app (goodIn_of _ (by decide +kernel)) ggX12_lift_X12_unstand
set_option maxRecDepth 20000 in
theorem ggX12_rule_X12_isCell : GoodIn wsX12_rule wsX12_isCell := goodIn_r _ [7, 8, 9, 10, 6, 11, 12, 13, 14, 29, 30, 31, 32, 33, 34, 35, 36, 37, 38, 39, 40, 41, 42, 43, 44, 45, 46, 47, 48, 49, 50, 51, 52, 53, 54, 55, 56, 57, 58, 59, 60, 61, 62, 63, 64, 65, 66, 67, 68, 69, 70, 71, 72, 73, 74, 75, 76, 77, 78, 79, 80] (by decide +kernel) (by decide +kernel)
set_option maxRecDepth 20000 in
theorem gX12_rule_X12_isCell : GoodIn wsX12_rule (wsV RX12 189 RX12 yX12_isCell wsX12_isCell) := goodIn_app (goodIn_of _ (by decide +kernel)) ggX12_rule_X12_isCell
set_option maxRecDepth 20000 in
theorem ggX12_rule_X12_at : GoodIn wsX12_rule wsX12_at := goodIn_r _ [17] (by decide +kernel) (by decide +kernel)
set_option maxRecDepth 20000 in
theorem gX12_rule_X12_at : GoodIn wsX12_rule (va_wsS RX12 161 yX12_at wsX12_at) := goodIn_app (goodIn_of _ (by decide +kernel)) ggX12_rule_X12_at
set_option maxRecDepth 20000 in
theorem ggX12_rule_X12_acts : GoodIn wsX12_rule wsX12_acts := goodIn_r _ [21, 22, 2, 23, 24, 25, 26, 27, 28, 29, 30, 31, 32, 33, 34, 35, 36, 37, 38, 39, 40, 41, 42, 43, 44, 45, 46, 47, 48, 49, 50, 51, 52, 53, 54, 55, 56, 57, 58, 59, 60, 61, 62, 63, 64, 65, 66, 67, 68, 69, 70, 71, 72, 73, 74, 75, 76, 77, 78, 79, 80] (by decide +kernel) (by decide +kernel)
set_option maxRecDepth 20000 in
theorem gX12_rule_X12_acts : GoodIn wsX12_rule (wsV RX12 222 RX12 yX12_acts wsX12_acts) := goodIn_app (goodIn_of _ (by decide +kernel)) ggX12_rule_X12_acts
set_option maxRecDepth 20000 in
theorem ggX12_fill_X12_isPage : GoodIn wsX12_fill wsX12_isPage := goodIn_r _ [9, 10, 11, 8, 12] (by decide +kernel) (by decide +kernel)
set_option maxRecDepth 20000 in
theorem gX12_fill_X12_isPage : GoodIn wsX12_fill (va_wsS RX12 155 yX12_isPage wsX12_isPage) := goodIn_app (goodIn_of _ (by decide +kernel)) ggX12_fill_X12_isPage
set_option maxRecDepth 20000 in
theorem ggX12_fill_X12_at : GoodIn wsX12_fill wsX12_at := goodIn_r _ [15] (by decide +kernel) (by decide +kernel)
set_option maxRecDepth 20000 in
theorem gX12_fill_X12_at : GoodIn wsX12_fill (va_wsS RX12 161 yX12_at wsX12_at) := goodIn_app (goodIn_of _ (by decide +kernel)) ggX12_fill_X12_at
set_option maxRecDepth 20000 in
theorem ggX12_fill_X12_fillerFor : GoodIn wsX12_fill wsX12_fillerFor := goodIn_r _ [19, 20, 21, 22, 23, 24, 10, 11, 8, 12, 49, 50, 51, 52, 53, 54, 55, 56, 57, 58, 59, 60, 61, 62, 63, 64, 65, 66, 67, 68, 69, 70, 71, 72, 73, 74, 75, 76, 77, 78, 79, 80, 81, 82, 83, 84, 85, 86, 87, 88, 89, 90, 91, 92, 93, 94, 95, 96, 97, 98, 99, 100] (by decide +kernel) (by decide +kernel)
set_option maxRecDepth 20000 in
theorem gX12_fill_X12_fillerFor : GoodIn wsX12_fill (wsV RX12 225 RX12 yX12_fillerFor wsX12_fillerFor) := goodIn_app (goodIn_of _ (by decide +kernel)) ggX12_fill_X12_fillerFor
set_option maxRecDepth 20000 in
theorem ggX12_fill_X12_stand : GoodIn wsX12_fill wsX12_stand := goodIn_r _ [28, 22, 29, 30, 31, 32, 33, 34, 35, 36, 8, 37, 3, 13, 14, 15, 49, 50, 51, 52, 53, 54, 55, 56, 57, 58, 59, 60, 61, 62, 63, 64, 65, 66, 67, 68, 69, 70, 71, 72, 73, 74, 75, 76, 77, 78, 79, 80, 81, 82, 83, 84, 85, 86, 87, 88, 89, 90, 91, 92, 93, 94, 95, 96, 97, 98, 99, 100] (by decide +kernel) (by decide +kernel)
set_option maxRecDepth 20000 in
theorem gX12_fill_X12_stand : GoodIn wsX12_fill (wsV RX12 196 RX12 yX12_stand wsX12_stand) := goodIn_app (goodIn_of _ (by decide +kernel)) ggX12_fill_X12_stand
set_option maxRecDepth 20000 in
theorem ggX12_fill_X12_acts : GoodIn wsX12_fill wsX12_acts := goodIn_r _ [41, 42, 1, 43, 44, 45, 46, 47, 48, 49, 50, 51, 52, 53, 54, 55, 56, 57, 58, 59, 60, 61, 62, 63, 64, 65, 66, 67, 68, 69, 70, 71, 72, 73, 74, 75, 76, 77, 78, 79, 80, 81, 82, 83, 84, 85, 86, 87, 88, 89, 90, 91, 92, 93, 94, 95, 96, 97, 98, 99, 100] (by decide +kernel) (by decide +kernel)
set_option maxRecDepth 20000 in
theorem gX12_fill_X12_acts : GoodIn wsX12_fill (wsV RX12 222 RX12 yX12_acts wsX12_acts) := goodIn_app (goodIn_of _ (by decide +kernel)) ggX12_fill_X12_acts
set_option maxRecDepth 20000 in
theorem ggX12_fillerFor_X12_in : GoodIn wsX12_fillerFor wsX12_in := goodIn_r _ [9] (by decide +kernel) (by decide +kernel)
set_option maxRecDepth 20000 in
theorem gX12_fillerFor_X12_in : GoodIn wsX12_fillerFor (va_wsS RX12 143 yX12_in wsX12_in) := goodIn_app (goodIn_of _ (by decide +kernel)) ggX12_fillerFor_X12_in
set_option maxRecDepth 20000 in
theorem ggX12_undo_X12_unstand : GoodIn wsX12_undo wsX12_unstand := goodIn_r _ [16, 17, 18, 19, 20, 21, 22, 23, 24, 25, 15, 26, 9, 27, 28, 29, 34, 35, 36, 37, 38, 39, 40, 41, 42, 43, 44, 45, 46, 47, 48, 49, 50, 51, 52, 53, 54, 55, 56, 57, 58, 59, 60, 61, 62, 63, 64, 65, 66, 67, 68, 69, 70, 71, 72, 73, 74, 75, 76, 77, 78, 79, 80, 81, 82, 83, 84, 85] (by decide +kernel) (by decide +kernel)
set_option maxRecDepth 20000 in
theorem gX12_undo_X12_unstand : GoodIn wsX12_undo (wsV RX12 202 RX12 yX12_unstand wsX12_unstand) := goodIn_app (goodIn_of _ (by decide +kernel)) ggX12_undo_X12_unstand
set_option maxRecDepth 20000 in
theorem ggX12_undo_X12_stand : GoodIn wsX12_undo wsX12_stand := goodIn_r _ [33, 17, 18, 19, 20, 21, 22, 23, 24, 25, 15, 26, 9, 27, 28, 29, 34, 35, 36, 37, 38, 39, 40, 41, 42, 43, 44, 45, 46, 47, 48, 49, 50, 51, 52, 53, 54, 55, 56, 57, 58, 59, 60, 61, 62, 63, 64, 65, 66, 67, 68, 69, 70, 71, 72, 73, 74, 75, 76, 77, 78, 79, 80, 81, 82, 83, 84, 85] (by decide +kernel) (by decide +kernel)
set_option maxRecDepth 20000 in
theorem gX12_undo_X12_stand : GoodIn wsX12_undo (wsV RX12 196 RX12 yX12_stand wsX12_stand) := goodIn_app (goodIn_of _ (by decide +kernel)) ggX12_undo_X12_stand
set_option maxRecDepth 20000 in
theorem ggX12_undo_X12_at : GoodIn wsX12_undo wsX12_at := goodIn_r _ [29] (by decide +kernel) (by decide +kernel)
set_option maxRecDepth 20000 in
theorem gX12_undo_X12_at : GoodIn wsX12_undo (va_wsS RX12 161 yX12_at wsX12_at) := goodIn_app (goodIn_of _ (by decide +kernel)) ggX12_undo_X12_at
set_option maxRecDepth 20000 in
theorem ggX12_beside_X12_isThing : GoodIn wsX12_beside wsX12_isThing := goodIn_r _ [9] (by decide +kernel) (by decide +kernel)
set_option maxRecDepth 20000 in
theorem gX12_beside_X12_isThing : GoodIn wsX12_beside (wsV RX12 237 RX12 yX12_isThing wsX12_isThing) := goodIn_app (goodIn_of _ (by decide +kernel)) ggX12_beside_X12_isThing
set_option maxRecDepth 20000 in
theorem ggX12_beside_X12_wrongs : GoodIn wsX12_beside wsX12_wrongs := goodIn_r _ [13, 14, 15, 16, 17, 18, 19, 20, 21, 22, 23, 24, 25, 26, 27, 28, 29, 30, 31, 32, 33, 34, 35, 36, 37, 38, 39, 40, 41, 42, 43, 44, 45, 46, 47, 48, 49, 50, 51, 52, 53, 54, 55, 56, 57, 58, 59, 60, 61, 62, 63, 64, 65, 66, 67, 68] (by decide +kernel) (by decide +kernel)
set_option maxRecDepth 20000 in
theorem gX12_beside_X12_wrongs : GoodIn wsX12_beside (wsV RX12 240 RX12 yX12_wrongs wsX12_wrongs) := goodIn_app (goodIn_of _ (by decide +kernel)) ggX12_beside_X12_wrongs
set_option maxRecDepth 20000 in
theorem ggX12_standing_X12_from : GoodIn wsX12_standing wsX12_from := goodIn_r _ [6, 7, 8, 9, 5, 10, 11, 12, 1, 13, 14, 15, 16, 17, 18, 19, 20, 21, 22, 23, 24, 25, 26, 27, 28, 29, 30, 31, 32, 33, 34, 35, 36, 37, 38, 39, 40, 41, 42, 43, 44, 45, 46, 47, 48, 49, 50, 51, 52, 53, 54, 55, 56, 57, 58, 59, 60, 61, 62, 63, 64] (by decide +kernel) (by decide +kernel)
set_option maxRecDepth 20000 in
theorem gX12_standing_X12_from : GoodIn wsX12_standing (wsV RX12 199 RX12 yX12_from wsX12_from) := goodIn_app (goodIn_of _ (by decide +kernel)) ggX12_standing_X12_from
set_option maxRecDepth 20000 in
theorem ggX12_hasStory_X12_isCell : GoodIn wsX12_hasStory wsX12_isCell := goodIn_r _ [12, 13, 14, 15, 11, 16, 17, 18, 19, 23, 24, 25, 26, 27, 28, 29, 30, 31, 32, 33, 34, 35, 36, 37, 38, 39, 40, 41, 42, 43, 44, 45, 46, 47, 48, 49, 50, 51, 52, 53, 54, 55, 56, 57, 58, 59, 60, 61, 62, 63, 64, 65, 66, 67, 68, 69, 70, 71, 72, 73, 74] (by decide +kernel) (by decide +kernel)
set_option maxRecDepth 20000 in
theorem gX12_hasStory_X12_isCell : GoodIn wsX12_hasStory (wsV RX12 189 RX12 yX12_isCell wsX12_isCell) := goodIn_app (goodIn_of _ (by decide +kernel)) ggX12_hasStory_X12_isCell
set_option maxRecDepth 20000 in
theorem ggX12_hasStory_X12_at : GoodIn wsX12_hasStory wsX12_at := goodIn_r _ [22] (by decide +kernel) (by decide +kernel)
set_option maxRecDepth 20000 in
theorem gX12_hasStory_X12_at : GoodIn wsX12_hasStory (va_wsS RX12 161 yX12_at wsX12_at) := goodIn_app (goodIn_of _ (by decide +kernel)) ggX12_hasStory_X12_at
set_option maxRecDepth 20000 in
theorem ggX12_breaks_X12_at : GoodIn wsX12_breaks wsX12_at := goodIn_r _ [14] (by decide +kernel) (by decide +kernel)
set_option maxRecDepth 20000 in
theorem gX12_breaks_X12_at : GoodIn wsX12_breaks (va_wsS RX12 161 yX12_at wsX12_at) := goodIn_app (goodIn_of _ (by decide +kernel)) ggX12_breaks_X12_at
set_option maxRecDepth 20000 in
theorem ggX12_breaks_X12_isCell : GoodIn wsX12_breaks wsX12_isCell := goodIn_r _ [18, 4, 19, 20, 13, 21, 22, 23, 24, 61, 62, 63, 64, 65, 66, 67, 68, 69, 70, 71, 72, 73, 74, 75, 76, 77, 78, 79, 80, 81, 82, 83, 84, 85, 86, 87, 88, 89, 90, 91, 92, 93, 94, 95, 96, 97, 98, 99, 100, 101, 102, 103, 104, 105, 106, 107, 108, 109, 110, 111, 112] (by decide +kernel) (by decide +kernel)
set_option maxRecDepth 20000 in
theorem gX12_breaks_X12_isCell : GoodIn wsX12_breaks (wsV RX12 189 RX12 yX12_isCell wsX12_isCell) := goodIn_app (goodIn_of _ (by decide +kernel)) ggX12_breaks_X12_isCell
set_option maxRecDepth 20000 in
theorem ggX12_breaks_X12_beside : GoodIn wsX12_breaks wsX12_beside := goodIn_r _ [28, 9, 29, 30, 31, 32, 33, 34, 13, 35, 36, 37, 38, 39, 1, 2, 3, 61, 62, 63, 64, 65, 66, 67, 68, 69, 70, 71, 72, 73, 74, 75, 76, 77, 78, 79, 80, 81, 82, 83, 84, 85, 86, 87, 88, 89, 90, 91, 92, 93, 94, 95, 96, 97, 98, 99, 100, 101, 102, 103, 104, 105, 106, 107, 108, 109, 110, 111, 112] (by decide +kernel) (by decide +kernel)
set_option maxRecDepth 20000 in
theorem gX12_breaks_X12_beside : GoodIn wsX12_breaks (wsV RX12 244 RX12 yX12_beside wsX12_beside) := goodIn_app (goodIn_of _ (by decide +kernel)) ggX12_breaks_X12_beside
set_option maxRecDepth 20000 in
theorem ggX12_breaks_X12_standing : GoodIn wsX12_breaks wsX12_standing := goodIn_r _ [43, 7, 44, 45, 46, 13, 47, 48, 49, 50, 51, 52, 8, 61, 62, 63, 64, 65, 66, 67, 68, 69, 70, 71, 72, 73, 74, 75, 76, 77, 78, 79, 80, 81, 82, 83, 84, 85, 86, 87, 88, 89, 90, 91, 92, 93, 94, 95, 96, 97, 98, 99, 100, 101, 102, 103, 104, 105, 106, 107, 108, 109, 110, 111, 112] (by decide +kernel) (by decide +kernel)
set_option maxRecDepth 20000 in
theorem gX12_breaks_X12_standing : GoodIn wsX12_breaks (wsV RX12 248 RX12 yX12_standing wsX12_standing) := goodIn_app (goodIn_of _ (by decide +kernel)) ggX12_breaks_X12_standing
set_option maxRecDepth 20000 in
theorem ggX12_breaks_X12_wrongs : GoodIn wsX12_breaks wsX12_wrongs := goodIn_r _ [39, 1, 2, 3, 61, 62, 63, 64, 65, 66, 67, 68, 69, 70, 71, 72, 73, 74, 75, 76, 77, 78, 79, 80, 81, 82, 83, 84, 85, 86, 87, 88, 89, 90, 91, 92, 93, 94, 95, 96, 97, 98, 99, 100, 101, 102, 103, 104, 105, 106, 107, 108, 109, 110, 111, 112] (by decide +kernel) (by decide +kernel)
set_option maxRecDepth 20000 in
theorem gX12_breaks_X12_wrongs : GoodIn wsX12_breaks (wsV RX12 240 RX12 yX12_wrongs wsX12_wrongs) := goodIn_app (goodIn_of _ (by decide +kernel)) ggX12_breaks_X12_wrongs
set_option maxRecDepth 20000 in
theorem ggX12_breaks_X12_hasStory : GoodIn wsX12_breaks wsX12_hasStory := goodIn_r _ [56, 57, 52, 58, 59, 8, 5, 60, 15, 16, 17, 13, 18, 4, 19, 20, 21, 22, 23, 24, 11, 12, 14, 61, 62, 63, 64, 65, 66, 67, 68, 69, 70, 71, 72, 73, 74, 75, 76, 77, 78, 79, 80, 81, 82, 83, 84, 85, 86, 87, 88, 89, 90, 91, 92, 93, 94, 95, 96, 97, 98, 99, 100, 101, 102, 103, 104, 105, 106, 107, 108, 109, 110, 111, 112] (by decide +kernel) (by decide +kernel)
set_option maxRecDepth 20000 in
theorem gX12_breaks_X12_hasStory : GoodIn wsX12_breaks (wsV RX12 251 RX12 yX12_hasStory wsX12_hasStory) := goodIn_app (goodIn_of _ (by decide +kernel)) ggX12_breaks_X12_hasStory
set_option maxRecDepth 20000 in
theorem ggX12_broken_X12_isPage : GoodIn wsX12_broken wsX12_isPage := goodIn_r _ [7, 8, 9, 6, 10] (by decide +kernel) (by decide +kernel)
set_option maxRecDepth 20000 in
theorem gX12_broken_X12_isPage : GoodIn wsX12_broken (va_wsS RX12 155 yX12_isPage wsX12_isPage) := goodIn_app (goodIn_of _ (by decide +kernel)) ggX12_broken_X12_isPage
set_option maxRecDepth 20000 in
theorem ggX12_broken_X12_in : GoodIn wsX12_broken wsX12_in := goodIn_r _ [10] (by decide +kernel) (by decide +kernel)
set_option maxRecDepth 20000 in
theorem gX12_broken_X12_in : GoodIn wsX12_broken (va_wsS RX12 143 yX12_in wsX12_in) := goodIn_app (goodIn_of _ (by decide +kernel)) ggX12_broken_X12_in
set_option maxRecDepth 20000 in
theorem ggX12_broken_X12_breaks : GoodIn wsX12_broken wsX12_breaks := goodIn_r _ [14, 1, 2, 3, 15, 16, 17, 18, 19, 20, 21, 22, 23, 6, 24, 25, 26, 27, 28, 4, 5, 7, 8, 9, 10, 29, 30, 31, 32, 33, 34, 35, 36, 37, 38, 39, 40, 41, 42, 43, 44, 45, 46, 47, 48, 49, 50, 51, 52, 53, 54, 55, 56, 57, 58, 59, 60, 61, 62, 63, 64, 65, 66, 67, 68, 69, 70, 71, 72, 73, 74, 75, 76, 77, 78, 79, 80, 81, 82, 83, 84, 85, 86, 87, 88, 89, 90, 91, 92, 93, 94, 95, 96, 97, 98, 99, 100, 101, 102, 103, 104, 105, 106, 107, 108, 109, 110, 111, 112, 113, 114, 115, 116] (by decide +kernel) (by decide +kernel)
set_option maxRecDepth 20000 in
theorem gX12_broken_X12_breaks : GoodIn wsX12_broken (wsV RX12 254 RX12 yX12_breaks wsX12_breaks) := goodIn_app (goodIn_of _ (by decide +kernel)) ggX12_broken_X12_breaks
set_option maxRecDepth 20000 in
theorem ggX12_plate_X12_isPage : GoodIn wsX12_plate wsX12_isPage := goodIn_r _ [21, 22, 23, 20, 24] (by decide +kernel) (by decide +kernel)
set_option maxRecDepth 20000 in
theorem gX12_plate_X12_isPage : GoodIn wsX12_plate (va_wsS RX12 155 yX12_isPage wsX12_isPage) := goodIn_app (goodIn_of _ (by decide +kernel)) ggX12_plate_X12_isPage
set_option maxRecDepth 20000 in
theorem ggX12_plate_X12_at : GoodIn wsX12_plate wsX12_at := goodIn_r _ [27] (by decide +kernel) (by decide +kernel)
set_option maxRecDepth 20000 in
theorem gX12_plate_X12_at : GoodIn wsX12_plate (va_wsS RX12 161 yX12_at wsX12_at) := goodIn_app (goodIn_of _ (by decide +kernel)) ggX12_plate_X12_at
set_option maxRecDepth 20000 in
theorem ggX12_plate_X12_breaks : GoodIn wsX12_plate wsX12_breaks := goodIn_r _ [31, 3, 32, 33, 1, 2, 12, 13, 14, 34, 35, 25, 26, 20, 27, 36, 37, 38, 39, 18, 19, 21, 22, 23, 24, 40, 41, 42, 43, 44, 45, 46, 47, 48, 49, 50, 51, 52, 53, 54, 55, 56, 57, 58, 59, 60, 61, 62, 63, 64, 65, 66, 67, 68, 69, 70, 71, 17, 15, 72, 73, 74, 75, 76, 77, 78, 79, 80, 81, 82, 83, 84, 85, 86, 87, 88, 89, 90, 91, 92, 93, 94, 95, 96, 97, 98, 99, 100, 101, 102, 103, 104, 105, 106, 107, 108, 109, 110, 111, 112, 113, 114, 115, 116, 117, 118, 119, 120, 121, 122, 123, 124, 125] (by decide +kernel) (by decide +kernel)
set_option maxRecDepth 20000 in
theorem gX12_plate_X12_breaks : GoodIn wsX12_plate (wsV RX12 254 RX12 yX12_breaks wsX12_breaks) := goodIn_app (goodIn_of _ (by decide +kernel)) ggX12_plate_X12_breaks
set_option maxRecDepth 20000 in
theorem ggX12_ends_X12_isNow : GoodIn wsX12_ends wsX12_isNow := goodIn_r _ [12, 13, 14, 4, 15, 6, 16, 17, 18, 19, 20, 21, 22, 23, 24, 25, 26, 27, 28, 29, 30, 31, 32, 33, 34, 35, 36, 37, 38, 39, 40, 41, 42, 43, 44, 45, 46, 47, 48, 49, 50, 51, 52, 53, 54, 55, 56, 57, 58, 59, 60, 61, 62, 63, 64, 65, 66, 67] (by decide +kernel) (by decide +kernel)
set_option maxRecDepth 20000 in
theorem gX12_ends_X12_isNow : GoodIn wsX12_ends (wsV RX12 260 RX12 yX12_isNow wsX12_isNow) := goodIn_app (goodIn_of _ (by decide +kernel)) ggX12_ends_X12_isNow
set_option maxRecDepth 20000 in
theorem ggX12_edition_X12_ends : GoodIn wsX12_edition wsX12_ends := goodIn_r _ [6, 7, 8, 9, 10, 11, 1, 12, 13, 14, 15, 5, 16, 17, 18, 19, 20, 21, 22, 23, 24, 25, 26, 27, 28, 29, 30, 31, 32, 33, 34, 35, 36, 37, 38, 39, 40, 41, 42, 43, 44, 45, 46, 47, 48, 49, 50, 51, 52, 53, 54, 55, 56, 57, 58, 59, 60, 61, 62, 63, 64, 65, 66, 67, 68, 69, 70, 71] (by decide +kernel) (by decide +kernel)
set_option maxRecDepth 20000 in
theorem gX12_edition_X12_ends : GoodIn wsX12_edition (wsV RX12 263 RX12 yX12_ends wsX12_ends) := goodIn_app (goodIn_of _ (by decide +kernel)) ggX12_edition_X12_ends
set_option maxRecDepth 20000 in
theorem ggX12_day_X12_ends : GoodIn wsX12_day wsX12_ends := goodIn_r _ [10, 4, 11, 12, 1, 13, 2, 14, 15, 16, 17, 9, 18, 19, 20, 21, 28, 29, 30, 31, 32, 33, 34, 35, 36, 37, 38, 39, 40, 41, 42, 43, 44, 45, 46, 47, 48, 49, 50, 51, 52, 53, 54, 55, 56, 57, 58, 59, 60, 61, 62, 63, 64, 65, 66, 67, 68, 69, 70, 71, 72, 73, 74, 75, 76, 77, 78, 79] (by decide +kernel) (by decide +kernel)
set_option maxRecDepth 20000 in
theorem gX12_day_X12_ends : GoodIn wsX12_day (wsV RX12 263 RX12 yX12_ends wsX12_ends) := goodIn_app (goodIn_of _ (by decide +kernel)) ggX12_day_X12_ends
set_option maxRecDepth 20000 in
theorem ggX12_day_X12_forget : GoodIn wsX12_day wsX12_forget := goodIn_r _ [25, 26, 27, 28, 29, 30, 31, 32, 33, 34, 35, 36, 37, 38, 39, 40, 41, 42, 43, 44, 45, 46, 47, 48, 49, 50, 51, 52, 53, 54, 55, 56, 57, 58, 59, 60, 61, 62, 63, 64, 65, 66, 67, 68, 69, 70, 71, 72, 73, 74, 75, 76, 77, 78, 79] (by decide +kernel) (by decide +kernel)
set_option maxRecDepth 20000 in
theorem gX12_day_X12_forget : GoodIn wsX12_day (wsV RX12 266 RX12 yX12_forget wsX12_forget) := goodIn_app (goodIn_of _ (by decide +kernel)) ggX12_day_X12_forget
set_option maxRecDepth 20000 in
theorem ggX12_cell_X12_isCell : GoodIn wsX12_cell wsX12_isCell := goodIn_r _ [6, 7, 8, 9, 5, 10, 11, 12, 13, 17, 18, 19, 20, 21, 22, 23, 24, 25, 26, 27, 28, 29, 30, 31, 32, 33, 34, 35, 36, 37, 38, 39, 40, 41, 42, 43, 44, 45, 46, 47, 48, 49, 50, 51, 52, 53, 54, 55, 56, 57, 58, 59, 60, 61, 62, 63, 64, 65, 66, 67, 68] (by decide +kernel) (by decide +kernel)
set_option maxRecDepth 20000 in
theorem gX12_cell_X12_isCell : GoodIn wsX12_cell (wsV RX12 189 RX12 yX12_isCell wsX12_isCell) := goodIn_app (goodIn_of _ (by decide +kernel)) ggX12_cell_X12_isCell
set_option maxRecDepth 20000 in
theorem ggX12_cell_X12_at : GoodIn wsX12_cell wsX12_at := goodIn_r _ [16] (by decide +kernel) (by decide +kernel)
set_option maxRecDepth 20000 in
theorem gX12_cell_X12_at : GoodIn wsX12_cell (va_wsS RX12 161 yX12_at wsX12_at) := goodIn_app (goodIn_of _ (by decide +kernel)) ggX12_cell_X12_at
set_option maxRecDepth 20000 in
theorem ggX12_piece_X12_isItem : GoodIn wsX12_piece wsX12_isItem := goodIn_r _ [12, 13, 14, 15, 11, 16, 25, 26, 27, 28, 29, 30, 31, 32, 33, 34, 35, 36, 37, 38, 39, 40, 41, 42, 43, 44, 45, 46, 47, 48, 49, 50, 51, 52, 53, 54, 55, 56, 57, 58, 59, 60, 61, 62, 63, 64, 65, 66, 67, 68, 69, 70, 71, 72, 73, 74, 75, 76] (by decide +kernel) (by decide +kernel)
set_option maxRecDepth 20000 in
theorem gX12_piece_X12_isItem : GoodIn wsX12_piece (wsV RX12 151 RX12 yX12_isItem wsX12_isItem) := goodIn_app (goodIn_of _ (by decide +kernel)) ggX12_piece_X12_isItem
set_option maxRecDepth 20000 in
theorem ggX12_piece_X12_in : GoodIn wsX12_piece wsX12_in := goodIn_r _ [16] (by decide +kernel) (by decide +kernel)
set_option maxRecDepth 20000 in
theorem gX12_piece_X12_in : GoodIn wsX12_piece (va_wsS RX12 143 yX12_in wsX12_in) := goodIn_app (goodIn_of _ (by decide +kernel)) ggX12_piece_X12_in
set_option maxRecDepth 20000 in
theorem ggX12_piece_X12_from : GoodIn wsX12_piece wsX12_from := goodIn_r _ [20, 21, 22, 23, 11, 24, 6, 2, 1, 25, 26, 27, 28, 29, 30, 31, 32, 33, 34, 35, 36, 37, 38, 39, 40, 41, 42, 43, 44, 45, 46, 47, 48, 49, 50, 51, 52, 53, 54, 55, 56, 57, 58, 59, 60, 61, 62, 63, 64, 65, 66, 67, 68, 69, 70, 71, 72, 73, 74, 75, 76] (by decide +kernel) (by decide +kernel)
set_option maxRecDepth 20000 in
theorem gX12_piece_X12_from : GoodIn wsX12_piece (wsV RX12 199 RX12 yX12_from wsX12_from) := goodIn_app (goodIn_of _ (by decide +kernel)) ggX12_piece_X12_from
