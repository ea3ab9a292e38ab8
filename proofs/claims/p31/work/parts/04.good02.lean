set_option maxRecDepth 100000 in
theorem ggX11_isFresh_X11_hasPlate : GoodIn wsX11_isFresh (wsX11_hasPlate) := zk q_wsX11_isFresh q_wsX11_hasPlate k_wsX11_isFresh k_wsX11_hasPlate (by decide +kernel) (by decide +kernel)
set_option maxRecDepth 100000 in
theorem gX11_isFresh_X11_hasPlate : GoodIn wsX11_isFresh (wsV RX11 272 RX11 yX11_hasPlate wsX11_hasPlate) := goodIn_app (zk q_wsX11_isFresh (zq_c (i := 413) rfl (zq_c (i := 415) rfl (zq_c (i := 4) rfl (zq_c (i := 53) rfl zq_nil)))) k_wsX11_isFresh rfl (by decide +kernel) (by decide +kernel)) (ggX11_isFresh_X11_hasPlate)
set_option maxRecDepth 100000 in
theorem ggX11_freshPlates_X11_isFresh : GoodIn wsX11_freshPlates (wsX11_isFresh) := zk q_wsX11_freshPlates q_wsX11_isFresh k_wsX11_freshPlates k_wsX11_isFresh (by decide +kernel) (by decide +kernel)
set_option maxRecDepth 100000 in
theorem gX11_freshPlates_X11_isFresh : GoodIn wsX11_freshPlates (wsV RX11 372 RX11 yX11_isFresh wsX11_isFresh) := goodIn_app (zk q_wsX11_freshPlates (zq_c (i := 409) rfl (zq_c (i := 411) rfl (zq_c (i := 3) rfl (zq_c (i := 53) rfl zq_nil)))) k_wsX11_freshPlates rfl (by decide +kernel) (by decide +kernel)) (ggX11_freshPlates_X11_isFresh)
set_option maxRecDepth 100000 in
theorem ggX11_closeEdition_X11_isFresh : GoodIn wsX11_closeEdition (wsX11_isFresh) := zk q_wsX11_closeEdition q_wsX11_isFresh k_wsX11_closeEdition k_wsX11_isFresh (by decide +kernel) (by decide +kernel)
set_option maxRecDepth 100000 in
theorem gX11_closeEdition_X11_isFresh : GoodIn wsX11_closeEdition (wsV RX11 372 RX11 yX11_isFresh wsX11_isFresh) := goodIn_app (zk q_wsX11_closeEdition (zq_c (i := 409) rfl (zq_c (i := 411) rfl (zq_c (i := 3) rfl (zq_c (i := 53) rfl zq_nil)))) k_wsX11_closeEdition rfl (by decide +kernel) (by decide +kernel)) (ggX11_closeEdition_X11_isFresh)
set_option maxRecDepth 100000 in
theorem ggX11_closeEdition_X11_writeDown : GoodIn wsX11_closeEdition (wsX11_writeDown) := zk q_wsX11_closeEdition q_wsX11_writeDown k_wsX11_closeEdition k_wsX11_writeDown (by decide +kernel) (by decide +kernel)
set_option maxRecDepth 100000 in
theorem gX11_closeEdition_X11_writeDown : GoodIn wsX11_closeEdition (wsV RX11 375 RX11 yX11_writeDown wsX11_writeDown) := goodIn_app (zk q_wsX11_closeEdition (zq_c (i := 787) rfl (zq_c (i := 789) rfl (zq_c (i := 21) rfl (zq_c (i := 53) rfl zq_nil)))) k_wsX11_closeEdition rfl (by decide +kernel) (by decide +kernel)) (ggX11_closeEdition_X11_writeDown)
set_option maxRecDepth 100000 in
theorem ggX11_writeDown_X9_at : GoodIn wsX11_writeDown (wsX9_at) := zk q_wsX11_writeDown q_wsX9_at k_wsX11_writeDown k_wsX9_at (by decide +kernel) (by decide +kernel)
set_option maxRecDepth 100000 in
theorem gX11_writeDown_X9_at : GoodIn wsX11_writeDown (wsV RX11 222 RX9 yX9_at wsX9_at) := goodIn_app (zk q_wsX11_writeDown (zq_c (i := 655) rfl (zq_c (i := 422) rfl (zq_c (i := 423) rfl (zq_c (i := 54) rfl zq_nil)))) k_wsX11_writeDown rfl (by decide +kernel) (by decide +kernel)) (ggX11_writeDown_X9_at)
set_option maxRecDepth 100000 in
theorem ggX11_writeDown_X11_itemOf : GoodIn wsX11_writeDown (wsX11_itemOf) := zk q_wsX11_writeDown q_wsX11_itemOf k_wsX11_writeDown k_wsX11_itemOf (by decide +kernel) (by decide +kernel)
set_option maxRecDepth 100000 in
theorem gX11_writeDown_X11_itemOf : GoodIn wsX11_writeDown (wsV RX11 75 RX11 yX11_itemOf wsX11_itemOf) := goodIn_app (zk q_wsX11_writeDown (zq_c (i := 230) rfl (zq_c (i := 232) rfl (zq_c (i := 1) rfl (zq_c (i := 53) rfl zq_nil)))) k_wsX11_writeDown rfl (by decide +kernel) (by decide +kernel)) (ggX11_writeDown_X11_itemOf)
set_option maxRecDepth 100000 in
theorem ggX11_writeDown_X11_writeDownItem : GoodIn wsX11_writeDown (wsX11_writeDownItem) := zk q_wsX11_writeDown q_wsX11_writeDownItem k_wsX11_writeDown k_wsX11_writeDownItem (by decide +kernel) (by decide +kernel)
set_option maxRecDepth 100000 in
theorem gX11_writeDown_X11_writeDownItem : GoodIn wsX11_writeDown (wsV RX11 378 RX11 yX11_writeDownItem wsX11_writeDownItem) := goodIn_app (zk q_wsX11_writeDown (zq_c (i := 791) rfl (zq_c (i := 793) rfl (zq_c (i := 22) rfl (zq_c (i := 53) rfl zq_nil)))) k_wsX11_writeDown rfl (by decide +kernel) (by decide +kernel)) (ggX11_writeDown_X11_writeDownItem)
set_option maxRecDepth 100000 in
theorem ggX11_writeDownItem_X11_plateFact : GoodIn wsX11_writeDownItem (wsX11_plateFact) := zk q_wsX11_writeDownItem q_wsX11_plateFact k_wsX11_writeDownItem k_wsX11_plateFact (by decide +kernel) (by decide +kernel)
set_option maxRecDepth 100000 in
theorem gX11_writeDownItem_X11_plateFact : GoodIn wsX11_writeDownItem (wsV RX11 384 RX11 yX11_plateFact wsX11_plateFact) := goodIn_app (zk q_wsX11_writeDownItem (zq_c (i := 427) rfl (zq_c (i := 429) rfl (zq_c (i := 5) rfl (zq_c (i := 53) rfl zq_nil)))) k_wsX11_writeDownItem rfl (by decide +kernel) (by decide +kernel)) (ggX11_writeDownItem_X11_plateFact)
set_option maxRecDepth 100000 in
theorem ggX11_firstPrinting_X11_isWithin : GoodIn wsX11_firstPrinting (wsX11_isWithin) := zk q_wsX11_firstPrinting q_wsX11_isWithin k_wsX11_firstPrinting k_wsX11_isWithin (by decide +kernel) (by decide +kernel)
set_option maxRecDepth 100000 in
theorem gX11_firstPrinting_X11_isWithin : GoodIn wsX11_firstPrinting (va_wsS RX11 55 yX11_isWithin wsX11_isWithin) := goodIn_app (zk q_wsX11_firstPrinting (zq_c (i := 147) rfl (zq_c (i := 148) rfl (zq_c (i := 53) rfl zq_nil))) k_wsX11_firstPrinting rfl (by decide +kernel) (by decide +kernel)) (ggX11_firstPrinting_X11_isWithin)
set_option maxRecDepth 100000 in
theorem ggX11_firstPrinting_X11_isFresh : GoodIn wsX11_firstPrinting (wsX11_isFresh) := zk q_wsX11_firstPrinting q_wsX11_isFresh k_wsX11_firstPrinting k_wsX11_isFresh (by decide +kernel) (by decide +kernel)
set_option maxRecDepth 100000 in
theorem gX11_firstPrinting_X11_isFresh : GoodIn wsX11_firstPrinting (wsV RX11 372 RX11 yX11_isFresh wsX11_isFresh) := goodIn_app (zk q_wsX11_firstPrinting (zq_c (i := 409) rfl (zq_c (i := 411) rfl (zq_c (i := 3) rfl (zq_c (i := 53) rfl zq_nil)))) k_wsX11_firstPrinting rfl (by decide +kernel) (by decide +kernel)) (ggX11_firstPrinting_X11_isFresh)
set_option maxRecDepth 100000 in
theorem ggX11_firstPrinting_X9_spotOf : GoodIn wsX11_firstPrinting (wsX9_spotOf) := zk q_wsX11_firstPrinting q_wsX9_spotOf k_wsX11_firstPrinting k_wsX9_spotOf (by decide +kernel) (by decide +kernel)
set_option maxRecDepth 100000 in
theorem gX11_firstPrinting_X9_spotOf : GoodIn wsX11_firstPrinting (wsV RX11 391 RX9 yX9_spotOf wsX9_spotOf) := goodIn_app (zk q_wsX11_firstPrinting (zq_c (i := 417) rfl (zq_c (i := 418) rfl (zq_c (i := 419) rfl (zq_c (i := 54) rfl zq_nil)))) k_wsX11_firstPrinting rfl (by decide +kernel) (by decide +kernel)) (ggX11_firstPrinting_X9_spotOf)
set_option maxRecDepth 100000 in
theorem ggX11_firstPrinting_X11_plateFact : GoodIn wsX11_firstPrinting (wsX11_plateFact) := zk q_wsX11_firstPrinting q_wsX11_plateFact k_wsX11_firstPrinting k_wsX11_plateFact (by decide +kernel) (by decide +kernel)
set_option maxRecDepth 100000 in
theorem gX11_firstPrinting_X11_plateFact : GoodIn wsX11_firstPrinting (wsV RX11 384 RX11 yX11_plateFact wsX11_plateFact) := goodIn_app (zk q_wsX11_firstPrinting (zq_c (i := 427) rfl (zq_c (i := 429) rfl (zq_c (i := 5) rfl (zq_c (i := 53) rfl zq_nil)))) k_wsX11_firstPrinting rfl (by decide +kernel) (by decide +kernel)) (ggX11_firstPrinting_X11_plateFact)
set_option maxRecDepth 100000 in
theorem ggX11_wasPrintedOn_X11_isFresh : GoodIn wsX11_wasPrintedOn (wsX11_isFresh) := zk q_wsX11_wasPrintedOn q_wsX11_isFresh k_wsX11_wasPrintedOn k_wsX11_isFresh (by decide +kernel) (by decide +kernel)
set_option maxRecDepth 100000 in
theorem gX11_wasPrintedOn_X11_isFresh : GoodIn wsX11_wasPrintedOn (wsV RX11 372 RX11 yX11_isFresh wsX11_isFresh) := goodIn_app (zk q_wsX11_wasPrintedOn (zq_c (i := 409) rfl (zq_c (i := 411) rfl (zq_c (i := 3) rfl (zq_c (i := 53) rfl zq_nil)))) k_wsX11_wasPrintedOn rfl (by decide +kernel) (by decide +kernel)) (ggX11_wasPrintedOn_X11_isFresh)
set_option maxRecDepth 100000 in
theorem ggX11_wasPrintedOn_X9_spotOf : GoodIn wsX11_wasPrintedOn (wsX9_spotOf) := zk q_wsX11_wasPrintedOn q_wsX9_spotOf k_wsX11_wasPrintedOn k_wsX9_spotOf (by decide +kernel) (by decide +kernel)
set_option maxRecDepth 100000 in
theorem gX11_wasPrintedOn_X9_spotOf : GoodIn wsX11_wasPrintedOn (wsV RX11 391 RX9 yX9_spotOf wsX9_spotOf) := goodIn_app (zk q_wsX11_wasPrintedOn (zq_c (i := 417) rfl (zq_c (i := 418) rfl (zq_c (i := 419) rfl (zq_c (i := 54) rfl zq_nil)))) k_wsX11_wasPrintedOn rfl (by decide +kernel) (by decide +kernel)) (ggX11_wasPrintedOn_X9_spotOf)
set_option maxRecDepth 100000 in
theorem ggX12_isPage_X12_in : GoodIn wsX12_isPage (wsX12_in) := zk q_wsX12_isPage q_wsX12_in k_wsX12_isPage k_wsX12_in (by decide +kernel) (by decide +kernel)
set_option maxRecDepth 100000 in
theorem gX12_isPage_X12_in : GoodIn wsX12_isPage (va_wsS RX12 143 yX12_in wsX12_in) := goodIn_app (zk q_wsX12_isPage (zq_c (i := 1046) rfl (zq_c (i := 1047) rfl (zq_c (i := 56) rfl zq_nil))) k_wsX12_isPage rfl (by decide +kernel) (by decide +kernel)) (ggX12_isPage_X12_in)
set_option maxRecDepth 100000 in
theorem ggX12_isItem_X12_in : GoodIn wsX12_isItem (wsX12_in) := zk q_wsX12_isItem q_wsX12_in k_wsX12_isItem k_wsX12_in (by decide +kernel) (by decide +kernel)
set_option maxRecDepth 100000 in
theorem gX12_isItem_X12_in : GoodIn wsX12_isItem (va_wsS RX12 143 yX12_in wsX12_in) := goodIn_app (zk q_wsX12_isItem (zq_c (i := 1046) rfl (zq_c (i := 1047) rfl (zq_c (i := 56) rfl zq_nil))) k_wsX12_isItem rfl (by decide +kernel) (by decide +kernel)) (ggX12_isItem_X12_in)
set_option maxRecDepth 100000 in
theorem ggX12_isKind_X12_isItem : GoodIn wsX12_isKind (wsX12_isItem) := zk q_wsX12_isKind q_wsX12_isItem k_wsX12_isKind k_wsX12_isItem (by decide +kernel) (by decide +kernel)
set_option maxRecDepth 100000 in
theorem gX12_isKind_X12_isItem : GoodIn wsX12_isKind (wsV RX12 151 RX12 yX12_isItem wsX12_isItem) := goodIn_app (zk q_wsX12_isKind (zq_c (i := 1076) rfl (zq_c (i := 1078) rfl (zq_c (i := 30) rfl (zq_c (i := 56) rfl zq_nil)))) k_wsX12_isKind rfl (by decide +kernel) (by decide +kernel)) (ggX12_isKind_X12_isItem)
set_option maxRecDepth 100000 in
theorem ggX12_isBuyer_X12_in : GoodIn wsX12_isBuyer (wsX12_in) := zk q_wsX12_isBuyer q_wsX12_in k_wsX12_isBuyer k_wsX12_in (by decide +kernel) (by decide +kernel)
set_option maxRecDepth 100000 in
theorem gX12_isBuyer_X12_in : GoodIn wsX12_isBuyer (va_wsS RX12 143 yX12_in wsX12_in) := goodIn_app (zk q_wsX12_isBuyer (zq_c (i := 1046) rfl (zq_c (i := 1047) rfl (zq_c (i := 56) rfl zq_nil))) k_wsX12_isBuyer rfl (by decide +kernel) (by decide +kernel)) (ggX12_isBuyer_X12_in)
set_option maxRecDepth 100000 in
theorem ggX12_isCell_X12_isPage : GoodIn wsX12_isCell (wsX12_isPage) := zk q_wsX12_isCell q_wsX12_isPage k_wsX12_isCell k_wsX12_isPage (by decide +kernel) (by decide +kernel)
set_option maxRecDepth 100000 in
theorem gX12_isCell_X12_isPage : GoodIn wsX12_isCell (va_wsS RX12 155 yX12_isPage wsX12_isPage) := goodIn_app (zk q_wsX12_isCell (zq_c (i := 1043) rfl (zq_c (i := 1044) rfl (zq_c (i := 56) rfl zq_nil))) k_wsX12_isCell rfl (by decide +kernel) (by decide +kernel)) (ggX12_isCell_X12_isPage)
set_option maxRecDepth 100000 in
theorem ggX12_isCell_X12_in : GoodIn wsX12_isCell (wsX12_in) := zk q_wsX12_isCell q_wsX12_in k_wsX12_isCell k_wsX12_in (by decide +kernel) (by decide +kernel)
set_option maxRecDepth 100000 in
theorem gX12_isCell_X12_in : GoodIn wsX12_isCell (va_wsS RX12 143 yX12_in wsX12_in) := goodIn_app (zk q_wsX12_isCell (zq_c (i := 1046) rfl (zq_c (i := 1047) rfl (zq_c (i := 56) rfl zq_nil))) k_wsX12_isCell rfl (by decide +kernel) (by decide +kernel)) (ggX12_isCell_X12_in)
set_option maxRecDepth 100000 in
theorem ggX12_column_X12_isPage : GoodIn wsX12_column (wsX12_isPage) := zk q_wsX12_column q_wsX12_isPage k_wsX12_column k_wsX12_isPage (by decide +kernel) (by decide +kernel)
set_option maxRecDepth 100000 in
theorem gX12_column_X12_isPage : GoodIn wsX12_column (va_wsS RX12 155 yX12_isPage wsX12_isPage) := goodIn_app (zk q_wsX12_column (zq_c (i := 1043) rfl (zq_c (i := 1044) rfl (zq_c (i := 56) rfl zq_nil))) k_wsX12_column rfl (by decide +kernel) (by decide +kernel)) (ggX12_column_X12_isPage)
set_option maxRecDepth 100000 in
theorem ggX12_column_X12_in : GoodIn wsX12_column (wsX12_in) := zk q_wsX12_column q_wsX12_in k_wsX12_column k_wsX12_in (by decide +kernel) (by decide +kernel)
set_option maxRecDepth 100000 in
theorem gX12_column_X12_in : GoodIn wsX12_column (va_wsS RX12 143 yX12_in wsX12_in) := goodIn_app (zk q_wsX12_column (zq_c (i := 1046) rfl (zq_c (i := 1047) rfl (zq_c (i := 56) rfl zq_nil))) k_wsX12_column rfl (by decide +kernel) (by decide +kernel)) (ggX12_column_X12_in)
set_option maxRecDepth 100000 in
theorem ggX12_column_X12_at : GoodIn wsX12_column (wsX12_at) := zk q_wsX12_column q_wsX12_at k_wsX12_column k_wsX12_at (by decide +kernel) (by decide +kernel)
set_option maxRecDepth 100000 in
theorem gX12_column_X12_at : GoodIn wsX12_column (va_wsS RX12 161 yX12_at wsX12_at) := goodIn_app (zk q_wsX12_column (zq_c (i := 1049) rfl (zq_c (i := 1050) rfl (zq_c (i := 56) rfl zq_nil))) k_wsX12_column rfl (by decide +kernel) (by decide +kernel)) (ggX12_column_X12_at)
set_option maxRecDepth 100000 in
theorem ggX12_measure_X12_isPage : GoodIn wsX12_measure (wsX12_isPage) := zk q_wsX12_measure q_wsX12_isPage k_wsX12_measure k_wsX12_isPage (by decide +kernel) (by decide +kernel)
set_option maxRecDepth 100000 in
theorem gX12_measure_X12_isPage : GoodIn wsX12_measure (va_wsS RX12 155 yX12_isPage wsX12_isPage) := goodIn_app (zk q_wsX12_measure (zq_c (i := 1043) rfl (zq_c (i := 1044) rfl (zq_c (i := 56) rfl zq_nil))) k_wsX12_measure rfl (by decide +kernel) (by decide +kernel)) (ggX12_measure_X12_isPage)
set_option maxRecDepth 100000 in
theorem ggX12_measure_X12_in : GoodIn wsX12_measure (wsX12_in) := zk q_wsX12_measure q_wsX12_in k_wsX12_measure k_wsX12_in (by decide +kernel) (by decide +kernel)
set_option maxRecDepth 100000 in
theorem gX12_measure_X12_in : GoodIn wsX12_measure (va_wsS RX12 143 yX12_in wsX12_in) := goodIn_app (zk q_wsX12_measure (zq_c (i := 1046) rfl (zq_c (i := 1047) rfl (zq_c (i := 56) rfl zq_nil))) k_wsX12_measure rfl (by decide +kernel) (by decide +kernel)) (ggX12_measure_X12_in)
set_option maxRecDepth 100000 in
theorem ggX12_measure_X12_hasPiece : GoodIn wsX12_measure (wsX12_hasPiece) := zk q_wsX12_measure q_wsX12_hasPiece k_wsX12_measure k_wsX12_hasPiece (by decide +kernel) (by decide +kernel)
set_option maxRecDepth 100000 in
theorem gX12_measure_X12_hasPiece : GoodIn wsX12_measure (wsV RX12 165 RX12 yX12_hasPiece wsX12_hasPiece) := goodIn_app (zk q_wsX12_measure (zq_c (i := 1056) rfl (zq_c (i := 1058) rfl (zq_c (i := 27) rfl (zq_c (i := 56) rfl zq_nil)))) k_wsX12_measure rfl (by decide +kernel) (by decide +kernel)) (ggX12_measure_X12_hasPiece)
set_option maxRecDepth 100000 in
theorem ggX12_story_X12_in : GoodIn wsX12_story (wsX12_in) := zk q_wsX12_story q_wsX12_in k_wsX12_story k_wsX12_in (by decide +kernel) (by decide +kernel)
set_option maxRecDepth 100000 in
theorem gX12_story_X12_in : GoodIn wsX12_story (va_wsS RX12 143 yX12_in wsX12_in) := goodIn_app (zk q_wsX12_story (zq_c (i := 1046) rfl (zq_c (i := 1047) rfl (zq_c (i := 56) rfl zq_nil))) k_wsX12_story rfl (by decide +kernel) (by decide +kernel)) (ggX12_story_X12_in)
set_option maxRecDepth 100000 in
theorem ggX12_story_X12_made : GoodIn wsX12_story (wsX12_made) := zk q_wsX12_story q_wsX12_made k_wsX12_story k_wsX12_made (by decide +kernel) (by decide +kernel)
set_option maxRecDepth 100000 in
theorem gX12_story_X12_made : GoodIn wsX12_story (wsV RX12 171 RX12 yX12_made wsX12_made) := goodIn_app (zk q_wsX12_story (zq_c (i := 1064) rfl (zq_c (i := 1066) rfl (zq_c (i := 28) rfl (zq_c (i := 56) rfl zq_nil)))) k_wsX12_story rfl (by decide +kernel) (by decide +kernel)) (ggX12_story_X12_made)
set_option maxRecDepth 100000 in
theorem ggX12_line_X12_isKind : GoodIn wsX12_line (wsX12_isKind) := zk q_wsX12_line q_wsX12_isKind k_wsX12_line k_wsX12_isKind (by decide +kernel) (by decide +kernel)
set_option maxRecDepth 100000 in
theorem gX12_line_X12_isKind : GoodIn wsX12_line (wsV RX12 175 RX12 yX12_isKind wsX12_isKind) := goodIn_app (zk q_wsX12_line (zq_c (i := 1072) rfl (zq_c (i := 1074) rfl (zq_c (i := 29) rfl (zq_c (i := 56) rfl zq_nil)))) k_wsX12_line rfl (by decide +kernel) (by decide +kernel)) (ggX12_line_X12_isKind)
set_option maxRecDepth 100000 in
theorem ggX12_line_X12_in : GoodIn wsX12_line (wsX12_in) := zk q_wsX12_line q_wsX12_in k_wsX12_line k_wsX12_in (by decide +kernel) (by decide +kernel)
set_option maxRecDepth 100000 in
theorem gX12_line_X12_in : GoodIn wsX12_line (va_wsS RX12 143 yX12_in wsX12_in) := goodIn_app (zk q_wsX12_line (zq_c (i := 1046) rfl (zq_c (i := 1047) rfl (zq_c (i := 56) rfl zq_nil))) k_wsX12_line rfl (by decide +kernel) (by decide +kernel)) (ggX12_line_X12_in)
set_option maxRecDepth 100000 in
theorem ggX12_head_X12_isKind : GoodIn wsX12_head (wsX12_isKind) := zk q_wsX12_head q_wsX12_isKind k_wsX12_head k_wsX12_isKind (by decide +kernel) (by decide +kernel)
set_option maxRecDepth 100000 in
theorem gX12_head_X12_isKind : GoodIn wsX12_head (wsV RX12 175 RX12 yX12_isKind wsX12_isKind) := goodIn_app (zk q_wsX12_head (zq_c (i := 1072) rfl (zq_c (i := 1074) rfl (zq_c (i := 29) rfl (zq_c (i := 56) rfl zq_nil)))) k_wsX12_head rfl (by decide +kernel) (by decide +kernel)) (ggX12_head_X12_isKind)
set_option maxRecDepth 100000 in
theorem ggX12_head_X12_in : GoodIn wsX12_head (wsX12_in) := zk q_wsX12_head q_wsX12_in k_wsX12_head k_wsX12_in (by decide +kernel) (by decide +kernel)
set_option maxRecDepth 100000 in
theorem gX12_head_X12_in : GoodIn wsX12_head (va_wsS RX12 143 yX12_in wsX12_in) := goodIn_app (zk q_wsX12_head (zq_c (i := 1046) rfl (zq_c (i := 1047) rfl (zq_c (i := 56) rfl zq_nil))) k_wsX12_head rfl (by decide +kernel) (by decide +kernel)) (ggX12_head_X12_in)
set_option maxRecDepth 100000 in
theorem ggX12_head_X12_made : GoodIn wsX12_head (wsX12_made) := zk q_wsX12_head q_wsX12_made k_wsX12_head k_wsX12_made (by decide +kernel) (by decide +kernel)
set_option maxRecDepth 100000 in
theorem gX12_head_X12_made : GoodIn wsX12_head (wsV RX12 171 RX12 yX12_made wsX12_made) := goodIn_app (zk q_wsX12_head (zq_c (i := 1064) rfl (zq_c (i := 1066) rfl (zq_c (i := 28) rfl (zq_c (i := 56) rfl zq_nil)))) k_wsX12_head rfl (by decide +kernel) (by decide +kernel)) (ggX12_head_X12_made)
set_option maxRecDepth 100000 in
theorem ggX12_picture_X12_made : GoodIn wsX12_picture (wsX12_made) := zk q_wsX12_picture q_wsX12_made k_wsX12_picture k_wsX12_made (by decide +kernel) (by decide +kernel)
set_option maxRecDepth 100000 in
theorem gX12_picture_X12_made : GoodIn wsX12_picture (wsV RX12 171 RX12 yX12_made wsX12_made) := goodIn_app (zk q_wsX12_picture (zq_c (i := 1064) rfl (zq_c (i := 1066) rfl (zq_c (i := 28) rfl (zq_c (i := 56) rfl zq_nil)))) k_wsX12_picture rfl (by decide +kernel) (by decide +kernel)) (ggX12_picture_X12_made)
set_option maxRecDepth 100000 in
theorem ggX12_size_X12_isKind : GoodIn wsX12_size (wsX12_isKind) := zk q_wsX12_size q_wsX12_isKind k_wsX12_size k_wsX12_isKind (by decide +kernel) (by decide +kernel)
set_option maxRecDepth 100000 in
theorem gX12_size_X12_isKind : GoodIn wsX12_size (wsV RX12 175 RX12 yX12_isKind wsX12_isKind) := goodIn_app (zk q_wsX12_size (zq_c (i := 1072) rfl (zq_c (i := 1074) rfl (zq_c (i := 29) rfl (zq_c (i := 56) rfl zq_nil)))) k_wsX12_size rfl (by decide +kernel) (by decide +kernel)) (ggX12_size_X12_isKind)
set_option maxRecDepth 100000 in
theorem ggX12_size_X12_in : GoodIn wsX12_size (wsX12_in) := zk q_wsX12_size q_wsX12_in k_wsX12_size k_wsX12_in (by decide +kernel) (by decide +kernel)
set_option maxRecDepth 100000 in
theorem gX12_size_X12_in : GoodIn wsX12_size (va_wsS RX12 143 yX12_in wsX12_in) := goodIn_app (zk q_wsX12_size (zq_c (i := 1046) rfl (zq_c (i := 1047) rfl (zq_c (i := 56) rfl zq_nil))) k_wsX12_size rfl (by decide +kernel) (by decide +kernel)) (ggX12_size_X12_in)
set_option maxRecDepth 100000 in
theorem ggX12_paid_X12_isPage : GoodIn wsX12_paid (wsX12_isPage) := zk q_wsX12_paid q_wsX12_isPage k_wsX12_paid k_wsX12_isPage (by decide +kernel) (by decide +kernel)
set_option maxRecDepth 100000 in
theorem gX12_paid_X12_isPage : GoodIn wsX12_paid (va_wsS RX12 155 yX12_isPage wsX12_isPage) := goodIn_app (zk q_wsX12_paid (zq_c (i := 1043) rfl (zq_c (i := 1044) rfl (zq_c (i := 56) rfl zq_nil))) k_wsX12_paid rfl (by decide +kernel) (by decide +kernel)) (ggX12_paid_X12_isPage)
set_option maxRecDepth 100000 in
theorem ggX12_paid_X12_in : GoodIn wsX12_paid (wsX12_in) := zk q_wsX12_paid q_wsX12_in k_wsX12_paid k_wsX12_in (by decide +kernel) (by decide +kernel)
set_option maxRecDepth 100000 in
theorem gX12_paid_X12_in : GoodIn wsX12_paid (va_wsS RX12 143 yX12_in wsX12_in) := goodIn_app (zk q_wsX12_paid (zq_c (i := 1046) rfl (zq_c (i := 1047) rfl (zq_c (i := 56) rfl zq_nil))) k_wsX12_paid rfl (by decide +kernel) (by decide +kernel)) (ggX12_paid_X12_in)
set_option maxRecDepth 100000 in
theorem ggX12_paid_X12_isBuyer : GoodIn wsX12_paid (wsX12_isBuyer) := zk q_wsX12_paid q_wsX12_isBuyer k_wsX12_paid k_wsX12_isBuyer (by decide +kernel) (by decide +kernel)
set_option maxRecDepth 100000 in
theorem gX12_paid_X12_isBuyer : GoodIn wsX12_paid (va_wsS RX12 179 yX12_isBuyer wsX12_isBuyer) := goodIn_app (zk q_wsX12_paid (zq_c (i := 1096) rfl (zq_c (i := 1097) rfl (zq_c (i := 56) rfl zq_nil))) k_wsX12_paid rfl (by decide +kernel) (by decide +kernel)) (ggX12_paid_X12_isBuyer)
set_option maxRecDepth 100000 in
theorem ggX12_paid_X12_made : GoodIn wsX12_paid (wsX12_made) := zk q_wsX12_paid q_wsX12_made k_wsX12_paid k_wsX12_made (by decide +kernel) (by decide +kernel)
set_option maxRecDepth 100000 in
theorem gX12_paid_X12_made : GoodIn wsX12_paid (wsV RX12 171 RX12 yX12_made wsX12_made) := goodIn_app (zk q_wsX12_paid (zq_c (i := 1064) rfl (zq_c (i := 1066) rfl (zq_c (i := 28) rfl (zq_c (i := 56) rfl zq_nil)))) k_wsX12_paid rfl (by decide +kernel) (by decide +kernel)) (ggX12_paid_X12_made)
set_option maxRecDepth 100000 in
theorem ggX12_filler_X12_in : GoodIn wsX12_filler (wsX12_in) := zk q_wsX12_filler q_wsX12_in k_wsX12_filler k_wsX12_in (by decide +kernel) (by decide +kernel)
set_option maxRecDepth 100000 in
theorem gX12_filler_X12_in : GoodIn wsX12_filler (va_wsS RX12 143 yX12_in wsX12_in) := goodIn_app (zk q_wsX12_filler (zq_c (i := 1046) rfl (zq_c (i := 1047) rfl (zq_c (i := 56) rfl zq_nil))) k_wsX12_filler rfl (by decide +kernel) (by decide +kernel)) (ggX12_filler_X12_in)
set_option maxRecDepth 100000 in
theorem ggX12_filler_X12_made : GoodIn wsX12_filler (wsX12_made) := zk q_wsX12_filler q_wsX12_made k_wsX12_filler k_wsX12_made (by decide +kernel) (by decide +kernel)
set_option maxRecDepth 100000 in
theorem gX12_filler_X12_made : GoodIn wsX12_filler (wsV RX12 171 RX12 yX12_made wsX12_made) := goodIn_app (zk q_wsX12_filler (zq_c (i := 1064) rfl (zq_c (i := 1066) rfl (zq_c (i := 28) rfl (zq_c (i := 56) rfl zq_nil)))) k_wsX12_filler rfl (by decide +kernel) (by decide +kernel)) (ggX12_filler_X12_made)
set_option maxRecDepth 100000 in
theorem ggX12_notice_X12_isItem : GoodIn wsX12_notice (wsX12_isItem) := zk q_wsX12_notice q_wsX12_isItem k_wsX12_notice k_wsX12_isItem (by decide +kernel) (by decide +kernel)
set_option maxRecDepth 100000 in
theorem gX12_notice_X12_isItem : GoodIn wsX12_notice (wsV RX12 151 RX12 yX12_isItem wsX12_isItem) := goodIn_app (zk q_wsX12_notice (zq_c (i := 1076) rfl (zq_c (i := 1078) rfl (zq_c (i := 30) rfl (zq_c (i := 56) rfl zq_nil)))) k_wsX12_notice rfl (by decide +kernel) (by decide +kernel)) (ggX12_notice_X12_isItem)
set_option maxRecDepth 100000 in
theorem ggX12_notice_X12_in : GoodIn wsX12_notice (wsX12_in) := zk q_wsX12_notice q_wsX12_in k_wsX12_notice k_wsX12_in (by decide +kernel) (by decide +kernel)
set_option maxRecDepth 100000 in
theorem gX12_notice_X12_in : GoodIn wsX12_notice (va_wsS RX12 143 yX12_in wsX12_in) := goodIn_app (zk q_wsX12_notice (zq_c (i := 1046) rfl (zq_c (i := 1047) rfl (zq_c (i := 56) rfl zq_nil))) k_wsX12_notice rfl (by decide +kernel) (by decide +kernel)) (ggX12_notice_X12_in)
set_option maxRecDepth 100000 in
theorem ggX12_notice_X12_printed : GoodIn wsX12_notice (wsX12_printed) := zk q_wsX12_notice q_wsX12_printed k_wsX12_notice k_wsX12_printed (by decide +kernel) (by decide +kernel)
set_option maxRecDepth 100000 in
theorem gX12_notice_X12_printed : GoodIn wsX12_notice (wsV RX12 182 RX12 yX12_printed wsX12_printed) := goodIn_app (zk q_wsX12_notice (zq_c (i := 1107) rfl (zq_c (i := 1108) rfl (zq_c (i := 1109) rfl (zq_c (i := 56) rfl zq_nil)))) k_wsX12_notice rfl (by decide +kernel) (by decide +kernel)) (ggX12_notice_X12_printed)
set_option maxRecDepth 100000 in
theorem ggX12_notice_X12_made : GoodIn wsX12_notice (wsX12_made) := zk q_wsX12_notice q_wsX12_made k_wsX12_notice k_wsX12_made (by decide +kernel) (by decide +kernel)
set_option maxRecDepth 100000 in
theorem gX12_notice_X12_made : GoodIn wsX12_notice (wsV RX12 171 RX12 yX12_made wsX12_made) := goodIn_app (zk q_wsX12_notice (zq_c (i := 1064) rfl (zq_c (i := 1066) rfl (zq_c (i := 28) rfl (zq_c (i := 56) rfl zq_nil)))) k_wsX12_notice rfl (by decide +kernel) (by decide +kernel)) (ggX12_notice_X12_made)
set_option maxRecDepth 100000 in
theorem ggX12_rival_X12_isBuyer : GoodIn wsX12_rival (wsX12_isBuyer) := zk q_wsX12_rival q_wsX12_isBuyer k_wsX12_rival k_wsX12_isBuyer (by decide +kernel) (by decide +kernel)
set_option maxRecDepth 100000 in
theorem gX12_rival_X12_isBuyer : GoodIn wsX12_rival (va_wsS RX12 179 yX12_isBuyer wsX12_isBuyer) := goodIn_app (zk q_wsX12_rival (zq_c (i := 1096) rfl (zq_c (i := 1097) rfl (zq_c (i := 56) rfl zq_nil))) k_wsX12_rival rfl (by decide +kernel) (by decide +kernel)) (ggX12_rival_X12_isBuyer)
set_option maxRecDepth 100000 in
theorem ggX12_names_X12_isKind : GoodIn wsX12_names (wsX12_isKind) := zk q_wsX12_names q_wsX12_isKind k_wsX12_names k_wsX12_isKind (by decide +kernel) (by decide +kernel)
set_option maxRecDepth 100000 in
theorem gX12_names_X12_isKind : GoodIn wsX12_names (wsV RX12 175 RX12 yX12_isKind wsX12_isKind) := goodIn_app (zk q_wsX12_names (zq_c (i := 1072) rfl (zq_c (i := 1074) rfl (zq_c (i := 29) rfl (zq_c (i := 56) rfl zq_nil)))) k_wsX12_names rfl (by decide +kernel) (by decide +kernel)) (ggX12_names_X12_isKind)
set_option maxRecDepth 100000 in
theorem ggX12_names_X12_isBuyer : GoodIn wsX12_names (wsX12_isBuyer) := zk q_wsX12_names q_wsX12_isBuyer k_wsX12_names k_wsX12_isBuyer (by decide +kernel) (by decide +kernel)
set_option maxRecDepth 100000 in
theorem gX12_names_X12_isBuyer : GoodIn wsX12_names (va_wsS RX12 179 yX12_isBuyer wsX12_isBuyer) := goodIn_app (zk q_wsX12_names (zq_c (i := 1096) rfl (zq_c (i := 1097) rfl (zq_c (i := 56) rfl zq_nil))) k_wsX12_names rfl (by decide +kernel) (by decide +kernel)) (ggX12_names_X12_isBuyer)
set_option maxRecDepth 100000 in
theorem ggX12_from_X12_takes : GoodIn wsX12_from (wsX12_takes) := zk q_wsX12_from q_wsX12_takes k_wsX12_from k_wsX12_takes (by decide +kernel) (by decide +kernel)
set_option maxRecDepth 100000 in
theorem gX12_from_X12_takes : GoodIn wsX12_from (wsV RX12 186 RX12 yX12_takes wsX12_takes) := goodIn_app (zk q_wsX12_from (zq_c (i := 1147) rfl (zq_c (i := 1149) rfl (zq_c (i := 37) rfl (zq_c (i := 56) rfl zq_nil)))) k_wsX12_from rfl (by decide +kernel) (by decide +kernel)) (ggX12_from_X12_takes)
set_option maxRecDepth 100000 in
theorem ggX12_isFree_X12_isCell : GoodIn wsX12_isFree (wsX12_isCell) := zk q_wsX12_isFree q_wsX12_isCell k_wsX12_isFree k_wsX12_isCell (by decide +kernel) (by decide +kernel)
set_option maxRecDepth 100000 in
theorem gX12_isFree_X12_isCell : GoodIn wsX12_isFree (wsV RX12 189 RX12 yX12_isCell wsX12_isCell) := goodIn_app (zk q_wsX12_isFree (zq_c (i := 1131) rfl (zq_c (i := 1133) rfl (zq_c (i := 33) rfl (zq_c (i := 56) rfl zq_nil)))) k_wsX12_isFree rfl (by decide +kernel) (by decide +kernel)) (ggX12_isFree_X12_isCell)
set_option maxRecDepth 100000 in
theorem ggX12_isFree_X12_in : GoodIn wsX12_isFree (wsX12_in) := zk q_wsX12_isFree q_wsX12_in k_wsX12_isFree k_wsX12_in (by decide +kernel) (by decide +kernel)
set_option maxRecDepth 100000 in
theorem gX12_isFree_X12_in : GoodIn wsX12_isFree (va_wsS RX12 143 yX12_in wsX12_in) := goodIn_app (zk q_wsX12_isFree (zq_c (i := 1046) rfl (zq_c (i := 1047) rfl (zq_c (i := 56) rfl zq_nil))) k_wsX12_isFree rfl (by decide +kernel) (by decide +kernel)) (ggX12_isFree_X12_in)
set_option maxRecDepth 100000 in
theorem ggX12_isFree_X12_at : GoodIn wsX12_isFree (wsX12_at) := zk q_wsX12_isFree q_wsX12_at k_wsX12_isFree k_wsX12_at (by decide +kernel) (by decide +kernel)
set_option maxRecDepth 100000 in
theorem gX12_isFree_X12_at : GoodIn wsX12_isFree (va_wsS RX12 161 yX12_at wsX12_at) := goodIn_app (zk q_wsX12_isFree (zq_c (i := 1049) rfl (zq_c (i := 1050) rfl (zq_c (i := 56) rfl zq_nil))) k_wsX12_isFree rfl (by decide +kernel) (by decide +kernel)) (ggX12_isFree_X12_at)
set_option maxRecDepth 100000 in
theorem ggX12_sets_X12_at : GoodIn wsX12_sets (wsX12_at) := zk q_wsX12_sets q_wsX12_at k_wsX12_sets k_wsX12_at (by decide +kernel) (by decide +kernel)
set_option maxRecDepth 100000 in
theorem gX12_sets_X12_at : GoodIn wsX12_sets (va_wsS RX12 161 yX12_at wsX12_at) := goodIn_app (zk q_wsX12_sets (zq_c (i := 1049) rfl (zq_c (i := 1050) rfl (zq_c (i := 56) rfl zq_nil))) k_wsX12_sets rfl (by decide +kernel) (by decide +kernel)) (ggX12_sets_X12_at)
set_option maxRecDepth 100000 in
theorem ggX12_stand_X12_sets : GoodIn wsX12_stand (wsX12_sets) := zk q_wsX12_stand q_wsX12_sets k_wsX12_stand k_wsX12_sets (by decide +kernel) (by decide +kernel)
set_option maxRecDepth 100000 in
theorem gX12_stand_X12_sets : GoodIn wsX12_stand (wsV RX12 192 RX12 yX12_sets wsX12_sets) := goodIn_app (zk q_wsX12_stand (zq_c (i := 1143) rfl (zq_c (i := 1145) rfl (zq_c (i := 36) rfl (zq_c (i := 56) rfl zq_nil)))) k_wsX12_stand rfl (by decide +kernel) (by decide +kernel)) (ggX12_stand_X12_sets)
set_option maxRecDepth 100000 in
theorem ggX12_unstand_X12_sets : GoodIn wsX12_unstand (wsX12_sets) := zk q_wsX12_unstand q_wsX12_sets k_wsX12_unstand k_wsX12_sets (by decide +kernel) (by decide +kernel)
set_option maxRecDepth 100000 in
theorem gX12_unstand_X12_sets : GoodIn wsX12_unstand (wsV RX12 192 RX12 yX12_sets wsX12_sets) := goodIn_app (zk q_wsX12_unstand (zq_c (i := 1143) rfl (zq_c (i := 1145) rfl (zq_c (i := 36) rfl (zq_c (i := 56) rfl zq_nil)))) k_wsX12_unstand rfl (by decide +kernel) (by decide +kernel)) (ggX12_unstand_X12_sets)
set_option maxRecDepth 100000 in
theorem ggX12_mayRun_X12_stand : GoodIn wsX12_mayRun (wsX12_stand) := zk q_wsX12_mayRun q_wsX12_stand k_wsX12_mayRun k_wsX12_stand (by decide +kernel) (by decide +kernel)
set_option maxRecDepth 100000 in
theorem gX12_mayRun_X12_stand : GoodIn wsX12_mayRun (wsV RX12 196 RX12 yX12_stand wsX12_stand) := goodIn_app (zk q_wsX12_mayRun (zq_c (i := 1139) rfl (zq_c (i := 1141) rfl (zq_c (i := 35) rfl (zq_c (i := 56) rfl zq_nil)))) k_wsX12_mayRun rfl (by decide +kernel) (by decide +kernel)) (ggX12_mayRun_X12_stand)
set_option maxRecDepth 100000 in
theorem ggX12_mayRun_X12_takes : GoodIn wsX12_mayRun (wsX12_takes) := zk q_wsX12_mayRun q_wsX12_takes k_wsX12_mayRun k_wsX12_takes (by decide +kernel) (by decide +kernel)
set_option maxRecDepth 100000 in
theorem gX12_mayRun_X12_takes : GoodIn wsX12_mayRun (wsV RX12 186 RX12 yX12_takes wsX12_takes) := goodIn_app (zk q_wsX12_mayRun (zq_c (i := 1147) rfl (zq_c (i := 1149) rfl (zq_c (i := 37) rfl (zq_c (i := 56) rfl zq_nil)))) k_wsX12_mayRun rfl (by decide +kernel) (by decide +kernel)) (ggX12_mayRun_X12_takes)
set_option maxRecDepth 100000 in
theorem ggX12_mayRun_X12_from : GoodIn wsX12_mayRun (wsX12_from) := zk q_wsX12_mayRun q_wsX12_from k_wsX12_mayRun k_wsX12_from (by decide +kernel) (by decide +kernel)
set_option maxRecDepth 100000 in
theorem gX12_mayRun_X12_from : GoodIn wsX12_mayRun (wsV RX12 199 RX12 yX12_from wsX12_from) := goodIn_app (zk q_wsX12_mayRun (zq_c (i := 1151) rfl (zq_c (i := 1153) rfl (zq_c (i := 38) rfl (zq_c (i := 56) rfl zq_nil)))) k_wsX12_mayRun rfl (by decide +kernel) (by decide +kernel)) (ggX12_mayRun_X12_from)
set_option maxRecDepth 100000 in
theorem ggX12_mayRun_X12_unstand : GoodIn wsX12_mayRun (wsX12_unstand) := zk q_wsX12_mayRun q_wsX12_unstand k_wsX12_mayRun k_wsX12_unstand (by decide +kernel) (by decide +kernel)
set_option maxRecDepth 100000 in
theorem gX12_mayRun_X12_unstand : GoodIn wsX12_mayRun (wsV RX12 202 RX12 yX12_unstand wsX12_unstand) := goodIn_app (zk q_wsX12_mayRun (zq_c (i := 1155) rfl (zq_c (i := 1157) rfl (zq_c (i := 39) rfl (zq_c (i := 56) rfl zq_nil)))) k_wsX12_mayRun rfl (by decide +kernel) (by decide +kernel)) (ggX12_mayRun_X12_unstand)
set_option maxRecDepth 100000 in
theorem ggX12_mayMend_X12_printed : GoodIn wsX12_mayMend (wsX12_printed) := zk q_wsX12_mayMend q_wsX12_printed k_wsX12_mayMend k_wsX12_printed (by decide +kernel) (by decide +kernel)
set_option maxRecDepth 100000 in
theorem gX12_mayMend_X12_printed : GoodIn wsX12_mayMend (wsV RX12 182 RX12 yX12_printed wsX12_printed) := goodIn_app (zk q_wsX12_mayMend (zq_c (i := 1107) rfl (zq_c (i := 1108) rfl (zq_c (i := 1109) rfl (zq_c (i := 56) rfl zq_nil)))) k_wsX12_mayMend rfl (by decide +kernel) (by decide +kernel)) (ggX12_mayMend_X12_printed)
set_option maxRecDepth 100000 in
theorem ggX12_mayMend_X12_wasPrintedAhead : GoodIn wsX12_mayMend (wsX12_wasPrintedAhead) := zk q_wsX12_mayMend q_wsX12_wasPrintedAhead k_wsX12_mayMend k_wsX12_wasPrintedAhead (by decide +kernel) (by decide +kernel)
set_option maxRecDepth 100000 in
theorem gX12_mayMend_X12_wasPrintedAhead : GoodIn wsX12_mayMend (wsV RX12 209 RX12 yX12_wasPrintedAhead wsX12_wasPrintedAhead) := goodIn_app (zk q_wsX12_mayMend (zq_c (i := 1163) rfl (zq_c (i := 1165) rfl (zq_c (i := 41) rfl (zq_c (i := 56) rfl zq_nil)))) k_wsX12_mayMend rfl (by decide +kernel) (by decide +kernel)) (ggX12_mayMend_X12_wasPrintedAhead)
set_option maxRecDepth 100000 in
theorem ggX12_put_X12_isItem : GoodIn wsX12_put (wsX12_isItem) := zk q_wsX12_put q_wsX12_isItem k_wsX12_put k_wsX12_isItem (by decide +kernel) (by decide +kernel)
set_option maxRecDepth 100000 in
theorem gX12_put_X12_isItem : GoodIn wsX12_put (wsV RX12 151 RX12 yX12_isItem wsX12_isItem) := goodIn_app (zk q_wsX12_put (zq_c (i := 1076) rfl (zq_c (i := 1078) rfl (zq_c (i := 30) rfl (zq_c (i := 56) rfl zq_nil)))) k_wsX12_put rfl (by decide +kernel) (by decide +kernel)) (ggX12_put_X12_isItem)
set_option maxRecDepth 100000 in
theorem ggX12_put_X12_in : GoodIn wsX12_put (wsX12_in) := zk q_wsX12_put q_wsX12_in k_wsX12_put k_wsX12_in (by decide +kernel) (by decide +kernel)
set_option maxRecDepth 100000 in
theorem gX12_put_X12_in : GoodIn wsX12_put (va_wsS RX12 143 yX12_in wsX12_in) := goodIn_app (zk q_wsX12_put (zq_c (i := 1046) rfl (zq_c (i := 1047) rfl (zq_c (i := 56) rfl zq_nil))) k_wsX12_put rfl (by decide +kernel) (by decide +kernel)) (ggX12_put_X12_in)
set_option maxRecDepth 100000 in
theorem ggX12_put_X12_isFree : GoodIn wsX12_put (wsX12_isFree) := zk q_wsX12_put q_wsX12_isFree k_wsX12_put k_wsX12_isFree (by decide +kernel) (by decide +kernel)
set_option maxRecDepth 100000 in
theorem gX12_put_X12_isFree : GoodIn wsX12_put (wsV RX12 212 RX12 yX12_isFree wsX12_isFree) := goodIn_app (zk q_wsX12_put (zq_c (i := 1127) rfl (zq_c (i := 1129) rfl (zq_c (i := 32) rfl (zq_c (i := 56) rfl zq_nil)))) k_wsX12_put rfl (by decide +kernel) (by decide +kernel)) (ggX12_put_X12_isFree)
set_option maxRecDepth 100000 in
theorem ggX12_put_X12_mayRun : GoodIn wsX12_put (wsX12_mayRun) := zk q_wsX12_put q_wsX12_mayRun k_wsX12_put k_wsX12_mayRun (by decide +kernel) (by decide +kernel)
set_option maxRecDepth 100000 in
theorem gX12_put_X12_mayRun : GoodIn wsX12_put (wsV RX12 216 RX12 yX12_mayRun wsX12_mayRun) := goodIn_app (zk q_wsX12_put (zq_c (i := 1135) rfl (zq_c (i := 1137) rfl (zq_c (i := 34) rfl (zq_c (i := 56) rfl zq_nil)))) k_wsX12_put rfl (by decide +kernel) (by decide +kernel)) (ggX12_put_X12_mayRun)
set_option maxRecDepth 100000 in
theorem ggX12_put_X12_mayMend : GoodIn wsX12_put (wsX12_mayMend) := zk q_wsX12_put q_wsX12_mayMend k_wsX12_put k_wsX12_mayMend (by decide +kernel) (by decide +kernel)
set_option maxRecDepth 100000 in
theorem gX12_put_X12_mayMend : GoodIn wsX12_put (wsV RX12 219 RX12 yX12_mayMend wsX12_mayMend) := goodIn_app (zk q_wsX12_put (zq_c (i := 1159) rfl (zq_c (i := 1161) rfl (zq_c (i := 40) rfl (zq_c (i := 56) rfl zq_nil)))) k_wsX12_put rfl (by decide +kernel) (by decide +kernel)) (ggX12_put_X12_mayMend)
set_option maxRecDepth 100000 in
theorem ggX12_put_X12_stand : GoodIn wsX12_put (wsX12_stand) := zk q_wsX12_put q_wsX12_stand k_wsX12_put k_wsX12_stand (by decide +kernel) (by decide +kernel)
set_option maxRecDepth 100000 in
theorem gX12_put_X12_stand : GoodIn wsX12_put (wsV RX12 196 RX12 yX12_stand wsX12_stand) := goodIn_app (zk q_wsX12_put (zq_c (i := 1139) rfl (zq_c (i := 1141) rfl (zq_c (i := 35) rfl (zq_c (i := 56) rfl zq_nil)))) k_wsX12_put rfl (by decide +kernel) (by decide +kernel)) (ggX12_put_X12_stand)
set_option maxRecDepth 100000 in
theorem ggX12_put_X12_acts : GoodIn wsX12_put (wsX12_acts) := zk q_wsX12_put q_wsX12_acts k_wsX12_put k_wsX12_acts (by decide +kernel) (by decide +kernel)
set_option maxRecDepth 100000 in
theorem gX12_put_X12_acts : GoodIn wsX12_put (wsV RX12 222 RX12 yX12_acts wsX12_acts) := goodIn_app (zk q_wsX12_put (zq_c (i := 1167) rfl (zq_c (i := 1169) rfl (zq_c (i := 42) rfl (zq_c (i := 56) rfl zq_nil)))) k_wsX12_put rfl (by decide +kernel) (by decide +kernel)) (ggX12_put_X12_acts)
set_option maxRecDepth 100000 in
theorem ggX12_lift_X12_isItem : GoodIn wsX12_lift (wsX12_isItem) := zk q_wsX12_lift q_wsX12_isItem k_wsX12_lift k_wsX12_isItem (by decide +kernel) (by decide +kernel)
set_option maxRecDepth 100000 in
theorem gX12_lift_X12_isItem : GoodIn wsX12_lift (wsV RX12 151 RX12 yX12_isItem wsX12_isItem) := goodIn_app (zk q_wsX12_lift (zq_c (i := 1076) rfl (zq_c (i := 1078) rfl (zq_c (i := 30) rfl (zq_c (i := 56) rfl zq_nil)))) k_wsX12_lift rfl (by decide +kernel) (by decide +kernel)) (ggX12_lift_X12_isItem)
set_option maxRecDepth 100000 in
theorem ggX12_lift_X12_acts : GoodIn wsX12_lift (wsX12_acts) := zk q_wsX12_lift q_wsX12_acts k_wsX12_lift k_wsX12_acts (by decide +kernel) (by decide +kernel)
set_option maxRecDepth 100000 in
theorem gX12_lift_X12_acts : GoodIn wsX12_lift (wsV RX12 222 RX12 yX12_acts wsX12_acts) := goodIn_app (zk q_wsX12_lift (zq_c (i := 1167) rfl (zq_c (i := 1169) rfl (zq_c (i := 42) rfl (zq_c (i := 56) rfl zq_nil)))) k_wsX12_lift rfl (by decide +kernel) (by decide +kernel)) (ggX12_lift_X12_acts)
set_option maxRecDepth 100000 in
theorem ggX12_lift_X12_unstand : GoodIn wsX12_lift (wsX12_unstand) := zk q_wsX12_lift q_wsX12_unstand k_wsX12_lift k_wsX12_unstand (by decide +kernel) (by decide +kernel)
set_option maxRecDepth 100000 in
theorem gX12_lift_X12_unstand : GoodIn wsX12_lift (wsV RX12 202 RX12 yX12_unstand wsX12_unstand) := goodIn_app (zk q_wsX12_lift (zq_c (i := 1155) rfl (zq_c (i := 1157) rfl (zq_c (i := 39) rfl (zq_c (i := 56) rfl zq_nil)))) k_wsX12_lift rfl (by decide +kernel) (by decide +kernel)) (ggX12_lift_X12_unstand)
set_option maxRecDepth 100000 in
theorem ggX12_rule_X12_isCell : GoodIn wsX12_rule (wsX12_isCell) := zk q_wsX12_rule q_wsX12_isCell k_wsX12_rule k_wsX12_isCell (by decide +kernel) (by decide +kernel)
set_option maxRecDepth 100000 in
theorem gX12_rule_X12_isCell : GoodIn wsX12_rule (wsV RX12 189 RX12 yX12_isCell wsX12_isCell) := goodIn_app (zk q_wsX12_rule (zq_c (i := 1131) rfl (zq_c (i := 1133) rfl (zq_c (i := 33) rfl (zq_c (i := 56) rfl zq_nil)))) k_wsX12_rule rfl (by decide +kernel) (by decide +kernel)) (ggX12_rule_X12_isCell)
set_option maxRecDepth 100000 in
theorem ggX12_rule_X12_at : GoodIn wsX12_rule (wsX12_at) := zk q_wsX12_rule q_wsX12_at k_wsX12_rule k_wsX12_at (by decide +kernel) (by decide +kernel)
set_option maxRecDepth 100000 in
theorem gX12_rule_X12_at : GoodIn wsX12_rule (va_wsS RX12 161 yX12_at wsX12_at) := goodIn_app (zk q_wsX12_rule (zq_c (i := 1049) rfl (zq_c (i := 1050) rfl (zq_c (i := 56) rfl zq_nil))) k_wsX12_rule rfl (by decide +kernel) (by decide +kernel)) (ggX12_rule_X12_at)
set_option maxRecDepth 100000 in
theorem ggX12_rule_X12_acts : GoodIn wsX12_rule (wsX12_acts) := zk q_wsX12_rule q_wsX12_acts k_wsX12_rule k_wsX12_acts (by decide +kernel) (by decide +kernel)
set_option maxRecDepth 100000 in
theorem gX12_rule_X12_acts : GoodIn wsX12_rule (wsV RX12 222 RX12 yX12_acts wsX12_acts) := goodIn_app (zk q_wsX12_rule (zq_c (i := 1167) rfl (zq_c (i := 1169) rfl (zq_c (i := 42) rfl (zq_c (i := 56) rfl zq_nil)))) k_wsX12_rule rfl (by decide +kernel) (by decide +kernel)) (ggX12_rule_X12_acts)
set_option maxRecDepth 100000 in
theorem ggX12_fill_X12_isPage : GoodIn wsX12_fill (wsX12_isPage) := zk q_wsX12_fill q_wsX12_isPage k_wsX12_fill k_wsX12_isPage (by decide +kernel) (by decide +kernel)
set_option maxRecDepth 100000 in
theorem gX12_fill_X12_isPage : GoodIn wsX12_fill (va_wsS RX12 155 yX12_isPage wsX12_isPage) := goodIn_app (zk q_wsX12_fill (zq_c (i := 1043) rfl (zq_c (i := 1044) rfl (zq_c (i := 56) rfl zq_nil))) k_wsX12_fill rfl (by decide +kernel) (by decide +kernel)) (ggX12_fill_X12_isPage)
set_option maxRecDepth 100000 in
theorem ggX12_fill_X12_at : GoodIn wsX12_fill (wsX12_at) := zk q_wsX12_fill q_wsX12_at k_wsX12_fill k_wsX12_at (by decide +kernel) (by decide +kernel)
set_option maxRecDepth 100000 in
theorem gX12_fill_X12_at : GoodIn wsX12_fill (va_wsS RX12 161 yX12_at wsX12_at) := goodIn_app (zk q_wsX12_fill (zq_c (i := 1049) rfl (zq_c (i := 1050) rfl (zq_c (i := 56) rfl zq_nil))) k_wsX12_fill rfl (by decide +kernel) (by decide +kernel)) (ggX12_fill_X12_at)
set_option maxRecDepth 100000 in
theorem ggX12_fill_X12_fillerFor : GoodIn wsX12_fill (wsX12_fillerFor) := zk q_wsX12_fill q_wsX12_fillerFor k_wsX12_fill k_wsX12_fillerFor (by decide +kernel) (by decide +kernel)
set_option maxRecDepth 100000 in
theorem gX12_fill_X12_fillerFor : GoodIn wsX12_fill (wsV RX12 225 RX12 yX12_fillerFor wsX12_fillerFor) := goodIn_app (zk q_wsX12_fill (zq_c (i := 1183) rfl (zq_c (i := 1185) rfl (zq_c (i := 43) rfl (zq_c (i := 56) rfl zq_nil)))) k_wsX12_fill rfl (by decide +kernel) (by decide +kernel)) (ggX12_fill_X12_fillerFor)
set_option maxRecDepth 100000 in
theorem ggX12_fill_X12_stand : GoodIn wsX12_fill (wsX12_stand) := zk q_wsX12_fill q_wsX12_stand k_wsX12_fill k_wsX12_stand (by decide +kernel) (by decide +kernel)
set_option maxRecDepth 100000 in
theorem gX12_fill_X12_stand : GoodIn wsX12_fill (wsV RX12 196 RX12 yX12_stand wsX12_stand) := goodIn_app (zk q_wsX12_fill (zq_c (i := 1139) rfl (zq_c (i := 1141) rfl (zq_c (i := 35) rfl (zq_c (i := 56) rfl zq_nil)))) k_wsX12_fill rfl (by decide +kernel) (by decide +kernel)) (ggX12_fill_X12_stand)
set_option maxRecDepth 100000 in
theorem ggX12_fill_X12_acts : GoodIn wsX12_fill (wsX12_acts) := zk q_wsX12_fill q_wsX12_acts k_wsX12_fill k_wsX12_acts (by decide +kernel) (by decide +kernel)
set_option maxRecDepth 100000 in
theorem gX12_fill_X12_acts : GoodIn wsX12_fill (wsV RX12 222 RX12 yX12_acts wsX12_acts) := goodIn_app (zk q_wsX12_fill (zq_c (i := 1167) rfl (zq_c (i := 1169) rfl (zq_c (i := 42) rfl (zq_c (i := 56) rfl zq_nil)))) k_wsX12_fill rfl (by decide +kernel) (by decide +kernel)) (ggX12_fill_X12_acts)
set_option maxRecDepth 100000 in
theorem ggX12_fillerFor_X12_in : GoodIn wsX12_fillerFor (wsX12_in) := zk q_wsX12_fillerFor q_wsX12_in k_wsX12_fillerFor k_wsX12_in (by decide +kernel) (by decide +kernel)
set_option maxRecDepth 100000 in
theorem gX12_fillerFor_X12_in : GoodIn wsX12_fillerFor (va_wsS RX12 143 yX12_in wsX12_in) := goodIn_app (zk q_wsX12_fillerFor (zq_c (i := 1046) rfl (zq_c (i := 1047) rfl (zq_c (i := 56) rfl zq_nil))) k_wsX12_fillerFor rfl (by decide +kernel) (by decide +kernel)) (ggX12_fillerFor_X12_in)
set_option maxRecDepth 100000 in
theorem ggX12_undo_X12_unstand : GoodIn wsX12_undo (wsX12_unstand) := zk q_wsX12_undo q_wsX12_unstand k_wsX12_undo k_wsX12_unstand (by decide +kernel) (by decide +kernel)
set_option maxRecDepth 100000 in
theorem gX12_undo_X12_unstand : GoodIn wsX12_undo (wsV RX12 202 RX12 yX12_unstand wsX12_unstand) := goodIn_app (zk q_wsX12_undo (zq_c (i := 1155) rfl (zq_c (i := 1157) rfl (zq_c (i := 39) rfl (zq_c (i := 56) rfl zq_nil)))) k_wsX12_undo rfl (by decide +kernel) (by decide +kernel)) (ggX12_undo_X12_unstand)
set_option maxRecDepth 100000 in
theorem ggX12_undo_X12_stand : GoodIn wsX12_undo (wsX12_stand) := zk q_wsX12_undo q_wsX12_stand k_wsX12_undo k_wsX12_stand (by decide +kernel) (by decide +kernel)
set_option maxRecDepth 100000 in
theorem gX12_undo_X12_stand : GoodIn wsX12_undo (wsV RX12 196 RX12 yX12_stand wsX12_stand) := goodIn_app (zk q_wsX12_undo (zq_c (i := 1139) rfl (zq_c (i := 1141) rfl (zq_c (i := 35) rfl (zq_c (i := 56) rfl zq_nil)))) k_wsX12_undo rfl (by decide +kernel) (by decide +kernel)) (ggX12_undo_X12_stand)
set_option maxRecDepth 100000 in
theorem ggX12_undo_X12_at : GoodIn wsX12_undo (wsX12_at) := zk q_wsX12_undo q_wsX12_at k_wsX12_undo k_wsX12_at (by decide +kernel) (by decide +kernel)
set_option maxRecDepth 100000 in
theorem gX12_undo_X12_at : GoodIn wsX12_undo (va_wsS RX12 161 yX12_at wsX12_at) := goodIn_app (zk q_wsX12_undo (zq_c (i := 1049) rfl (zq_c (i := 1050) rfl (zq_c (i := 56) rfl zq_nil))) k_wsX12_undo rfl (by decide +kernel) (by decide +kernel)) (ggX12_undo_X12_at)
set_option maxRecDepth 100000 in
theorem ggX12_beside_X12_isThing : GoodIn wsX12_beside (wsX12_isThing) := zk q_wsX12_beside q_wsX12_isThing k_wsX12_beside k_wsX12_isThing (by decide +kernel) (by decide +kernel)
set_option maxRecDepth 100000 in
theorem gX12_beside_X12_isThing : GoodIn wsX12_beside (wsV RX12 237 RX12 yX12_isThing wsX12_isThing) := goodIn_app (zk q_wsX12_beside (zq_c (i := 1203) rfl (zq_c (i := 1205) rfl (zq_c (i := 46) rfl (zq_c (i := 56) rfl zq_nil)))) k_wsX12_beside rfl (by decide +kernel) (by decide +kernel)) (ggX12_beside_X12_isThing)
set_option maxRecDepth 100000 in
theorem ggX12_beside_X12_wrongs : GoodIn wsX12_beside (wsX12_wrongs) := zk q_wsX12_beside q_wsX12_wrongs k_wsX12_beside k_wsX12_wrongs (by decide +kernel) (by decide +kernel)
set_option maxRecDepth 100000 in
theorem gX12_beside_X12_wrongs : GoodIn wsX12_beside (wsV RX12 240 RX12 yX12_wrongs wsX12_wrongs) := goodIn_app (zk q_wsX12_beside (zq_c (i := 1207) rfl (zq_c (i := 1209) rfl (zq_c (i := 47) rfl (zq_c (i := 56) rfl zq_nil)))) k_wsX12_beside rfl (by decide +kernel) (by decide +kernel)) (ggX12_beside_X12_wrongs)
set_option maxRecDepth 100000 in
theorem ggX12_standing_X12_from : GoodIn wsX12_standing (wsX12_from) := zk q_wsX12_standing q_wsX12_from k_wsX12_standing k_wsX12_from (by decide +kernel) (by decide +kernel)
set_option maxRecDepth 100000 in
theorem gX12_standing_X12_from : GoodIn wsX12_standing (wsV RX12 199 RX12 yX12_from wsX12_from) := goodIn_app (zk q_wsX12_standing (zq_c (i := 1151) rfl (zq_c (i := 1153) rfl (zq_c (i := 38) rfl (zq_c (i := 56) rfl zq_nil)))) k_wsX12_standing rfl (by decide +kernel) (by decide +kernel)) (ggX12_standing_X12_from)
set_option maxRecDepth 100000 in
theorem ggX12_hasStory_X12_isCell : GoodIn wsX12_hasStory (wsX12_isCell) := zk q_wsX12_hasStory q_wsX12_isCell k_wsX12_hasStory k_wsX12_isCell (by decide +kernel) (by decide +kernel)
set_option maxRecDepth 100000 in
theorem gX12_hasStory_X12_isCell : GoodIn wsX12_hasStory (wsV RX12 189 RX12 yX12_isCell wsX12_isCell) := goodIn_app (zk q_wsX12_hasStory (zq_c (i := 1131) rfl (zq_c (i := 1133) rfl (zq_c (i := 33) rfl (zq_c (i := 56) rfl zq_nil)))) k_wsX12_hasStory rfl (by decide +kernel) (by decide +kernel)) (ggX12_hasStory_X12_isCell)
set_option maxRecDepth 100000 in
theorem ggX12_hasStory_X12_at : GoodIn wsX12_hasStory (wsX12_at) := zk q_wsX12_hasStory q_wsX12_at k_wsX12_hasStory k_wsX12_at (by decide +kernel) (by decide +kernel)
set_option maxRecDepth 100000 in
theorem gX12_hasStory_X12_at : GoodIn wsX12_hasStory (va_wsS RX12 161 yX12_at wsX12_at) := goodIn_app (zk q_wsX12_hasStory (zq_c (i := 1049) rfl (zq_c (i := 1050) rfl (zq_c (i := 56) rfl zq_nil))) k_wsX12_hasStory rfl (by decide +kernel) (by decide +kernel)) (ggX12_hasStory_X12_at)
set_option maxRecDepth 100000 in
theorem ggX12_breaks_X12_at : GoodIn wsX12_breaks (wsX12_at) := zk q_wsX12_breaks q_wsX12_at k_wsX12_breaks k_wsX12_at (by decide +kernel) (by decide +kernel)
set_option maxRecDepth 100000 in
theorem gX12_breaks_X12_at : GoodIn wsX12_breaks (va_wsS RX12 161 yX12_at wsX12_at) := goodIn_app (zk q_wsX12_breaks (zq_c (i := 1049) rfl (zq_c (i := 1050) rfl (zq_c (i := 56) rfl zq_nil))) k_wsX12_breaks rfl (by decide +kernel) (by decide +kernel)) (ggX12_breaks_X12_at)
set_option maxRecDepth 100000 in
theorem ggX12_breaks_X12_isCell : GoodIn wsX12_breaks (wsX12_isCell) := zk q_wsX12_breaks q_wsX12_isCell k_wsX12_breaks k_wsX12_isCell (by decide +kernel) (by decide +kernel)
set_option maxRecDepth 100000 in
theorem gX12_breaks_X12_isCell : GoodIn wsX12_breaks (wsV RX12 189 RX12 yX12_isCell wsX12_isCell) := goodIn_app (zk q_wsX12_breaks (zq_c (i := 1131) rfl (zq_c (i := 1133) rfl (zq_c (i := 33) rfl (zq_c (i := 56) rfl zq_nil)))) k_wsX12_breaks rfl (by decide +kernel) (by decide +kernel)) (ggX12_breaks_X12_isCell)
set_option maxRecDepth 100000 in
theorem ggX12_breaks_X12_beside : GoodIn wsX12_breaks (wsX12_beside) := zk q_wsX12_breaks q_wsX12_beside k_wsX12_breaks k_wsX12_beside (by decide +kernel) (by decide +kernel)
set_option maxRecDepth 100000 in
theorem gX12_breaks_X12_beside : GoodIn wsX12_breaks (wsV RX12 244 RX12 yX12_beside wsX12_beside) := goodIn_app (zk q_wsX12_breaks (zq_c (i := 1199) rfl (zq_c (i := 1201) rfl (zq_c (i := 45) rfl (zq_c (i := 56) rfl zq_nil)))) k_wsX12_breaks rfl (by decide +kernel) (by decide +kernel)) (ggX12_breaks_X12_beside)
set_option maxRecDepth 100000 in
theorem ggX12_breaks_X12_standing : GoodIn wsX12_breaks (wsX12_standing) := zk q_wsX12_breaks q_wsX12_standing k_wsX12_breaks k_wsX12_standing (by decide +kernel) (by decide +kernel)
set_option maxRecDepth 100000 in
theorem gX12_breaks_X12_standing : GoodIn wsX12_breaks (wsV RX12 248 RX12 yX12_standing wsX12_standing) := goodIn_app (zk q_wsX12_breaks (zq_c (i := 1211) rfl (zq_c (i := 1213) rfl (zq_c (i := 48) rfl (zq_c (i := 56) rfl zq_nil)))) k_wsX12_breaks rfl (by decide +kernel) (by decide +kernel)) (ggX12_breaks_X12_standing)
set_option maxRecDepth 100000 in
theorem ggX12_breaks_X12_wrongs : GoodIn wsX12_breaks (wsX12_wrongs) := zk q_wsX12_breaks q_wsX12_wrongs k_wsX12_breaks k_wsX12_wrongs (by decide +kernel) (by decide +kernel)
set_option maxRecDepth 100000 in
theorem gX12_breaks_X12_wrongs : GoodIn wsX12_breaks (wsV RX12 240 RX12 yX12_wrongs wsX12_wrongs) := goodIn_app (zk q_wsX12_breaks (zq_c (i := 1207) rfl (zq_c (i := 1209) rfl (zq_c (i := 47) rfl (zq_c (i := 56) rfl zq_nil)))) k_wsX12_breaks rfl (by decide +kernel) (by decide +kernel)) (ggX12_breaks_X12_wrongs)
set_option maxRecDepth 100000 in
theorem ggX12_breaks_X12_hasStory : GoodIn wsX12_breaks (wsX12_hasStory) := zk q_wsX12_breaks q_wsX12_hasStory k_wsX12_breaks k_wsX12_hasStory (by decide +kernel) (by decide +kernel)
set_option maxRecDepth 100000 in
theorem gX12_breaks_X12_hasStory : GoodIn wsX12_breaks (wsV RX12 251 RX12 yX12_hasStory wsX12_hasStory) := goodIn_app (zk q_wsX12_breaks (zq_c (i := 1215) rfl (zq_c (i := 1217) rfl (zq_c (i := 49) rfl (zq_c (i := 56) rfl zq_nil)))) k_wsX12_breaks rfl (by decide +kernel) (by decide +kernel)) (ggX12_breaks_X12_hasStory)
set_option maxRecDepth 100000 in
theorem ggX12_broken_X12_isPage : GoodIn wsX12_broken (wsX12_isPage) := zk q_wsX12_broken q_wsX12_isPage k_wsX12_broken k_wsX12_isPage (by decide +kernel) (by decide +kernel)
set_option maxRecDepth 100000 in
theorem gX12_broken_X12_isPage : GoodIn wsX12_broken (va_wsS RX12 155 yX12_isPage wsX12_isPage) := goodIn_app (zk q_wsX12_broken (zq_c (i := 1043) rfl (zq_c (i := 1044) rfl (zq_c (i := 56) rfl zq_nil))) k_wsX12_broken rfl (by decide +kernel) (by decide +kernel)) (ggX12_broken_X12_isPage)
set_option maxRecDepth 100000 in
theorem ggX12_broken_X12_in : GoodIn wsX12_broken (wsX12_in) := zk q_wsX12_broken q_wsX12_in k_wsX12_broken k_wsX12_in (by decide +kernel) (by decide +kernel)
set_option maxRecDepth 100000 in
theorem gX12_broken_X12_in : GoodIn wsX12_broken (va_wsS RX12 143 yX12_in wsX12_in) := goodIn_app (zk q_wsX12_broken (zq_c (i := 1046) rfl (zq_c (i := 1047) rfl (zq_c (i := 56) rfl zq_nil))) k_wsX12_broken rfl (by decide +kernel) (by decide +kernel)) (ggX12_broken_X12_in)
set_option maxRecDepth 100000 in
theorem ggX12_broken_X12_breaks : GoodIn wsX12_broken (wsX12_breaks) := zk q_wsX12_broken q_wsX12_breaks k_wsX12_broken k_wsX12_breaks (by decide +kernel) (by decide +kernel)
set_option maxRecDepth 100000 in
theorem gX12_broken_X12_breaks : GoodIn wsX12_broken (wsV RX12 254 RX12 yX12_breaks wsX12_breaks) := goodIn_app (zk q_wsX12_broken (zq_c (i := 1195) rfl (zq_c (i := 1197) rfl (zq_c (i := 44) rfl (zq_c (i := 56) rfl zq_nil)))) k_wsX12_broken rfl (by decide +kernel) (by decide +kernel)) (ggX12_broken_X12_breaks)
set_option maxRecDepth 100000 in
theorem ggX12_plate_X12_isPage : GoodIn wsX12_plate (wsX12_isPage) := zk q_wsX12_plate q_wsX12_isPage k_wsX12_plate k_wsX12_isPage (by decide +kernel) (by decide +kernel)
set_option maxRecDepth 100000 in
theorem gX12_plate_X12_isPage : GoodIn wsX12_plate (va_wsS RX12 155 yX12_isPage wsX12_isPage) := goodIn_app (zk q_wsX12_plate (zq_c (i := 1043) rfl (zq_c (i := 1044) rfl (zq_c (i := 56) rfl zq_nil))) k_wsX12_plate rfl (by decide +kernel) (by decide +kernel)) (ggX12_plate_X12_isPage)
set_option maxRecDepth 100000 in
theorem ggX12_plate_X12_at : GoodIn wsX12_plate (wsX12_at) := zk q_wsX12_plate q_wsX12_at k_wsX12_plate k_wsX12_at (by decide +kernel) (by decide +kernel)
set_option maxRecDepth 100000 in
theorem gX12_plate_X12_at : GoodIn wsX12_plate (va_wsS RX12 161 yX12_at wsX12_at) := goodIn_app (zk q_wsX12_plate (zq_c (i := 1049) rfl (zq_c (i := 1050) rfl (zq_c (i := 56) rfl zq_nil))) k_wsX12_plate rfl (by decide +kernel) (by decide +kernel)) (ggX12_plate_X12_at)
set_option maxRecDepth 100000 in
theorem ggX12_plate_X12_breaks : GoodIn wsX12_plate (wsX12_breaks) := zk q_wsX12_plate q_wsX12_breaks k_wsX12_plate k_wsX12_breaks (by decide +kernel) (by decide +kernel)
set_option maxRecDepth 100000 in
theorem gX12_plate_X12_breaks : GoodIn wsX12_plate (wsV RX12 254 RX12 yX12_breaks wsX12_breaks) := goodIn_app (zk q_wsX12_plate (zq_c (i := 1195) rfl (zq_c (i := 1197) rfl (zq_c (i := 44) rfl (zq_c (i := 56) rfl zq_nil)))) k_wsX12_plate rfl (by decide +kernel) (by decide +kernel)) (ggX12_plate_X12_breaks)
set_option maxRecDepth 100000 in
theorem ggX12_ends_X12_isNow : GoodIn wsX12_ends (wsX12_isNow) := zk q_wsX12_ends q_wsX12_isNow k_wsX12_ends k_wsX12_isNow (by decide +kernel) (by decide +kernel)
set_option maxRecDepth 100000 in
theorem gX12_ends_X12_isNow : GoodIn wsX12_ends (wsV RX12 260 RX12 yX12_isNow wsX12_isNow) := goodIn_app (zk q_wsX12_ends (zq_c (i := 1111) rfl (zq_c (i := 1113) rfl (zq_c (i := 31) rfl (zq_c (i := 56) rfl zq_nil)))) k_wsX12_ends rfl (by decide +kernel) (by decide +kernel)) (ggX12_ends_X12_isNow)
set_option maxRecDepth 100000 in
theorem ggX12_edition_X12_ends : GoodIn wsX12_edition (wsX12_ends) := zk q_wsX12_edition q_wsX12_ends k_wsX12_edition k_wsX12_ends (by decide +kernel) (by decide +kernel)
set_option maxRecDepth 100000 in
theorem gX12_edition_X12_ends : GoodIn wsX12_edition (wsV RX12 263 RX12 yX12_ends wsX12_ends) := goodIn_app (zk q_wsX12_edition (zq_c (i := 1227) rfl (zq_c (i := 1229) rfl (zq_c (i := 50) rfl (zq_c (i := 56) rfl zq_nil)))) k_wsX12_edition rfl (by decide +kernel) (by decide +kernel)) (ggX12_edition_X12_ends)
set_option maxRecDepth 100000 in
theorem ggX12_day_X12_ends : GoodIn wsX12_day (wsX12_ends) := zk q_wsX12_day q_wsX12_ends k_wsX12_day k_wsX12_ends (by decide +kernel) (by decide +kernel)
set_option maxRecDepth 100000 in
theorem gX12_day_X12_ends : GoodIn wsX12_day (wsV RX12 263 RX12 yX12_ends wsX12_ends) := goodIn_app (zk q_wsX12_day (zq_c (i := 1227) rfl (zq_c (i := 1229) rfl (zq_c (i := 50) rfl (zq_c (i := 56) rfl zq_nil)))) k_wsX12_day rfl (by decide +kernel) (by decide +kernel)) (ggX12_day_X12_ends)
set_option maxRecDepth 100000 in
theorem ggX12_day_X12_forget : GoodIn wsX12_day (wsX12_forget) := zk q_wsX12_day q_wsX12_forget k_wsX12_day k_wsX12_forget (by decide +kernel) (by decide +kernel)
set_option maxRecDepth 100000 in
theorem gX12_day_X12_forget : GoodIn wsX12_day (wsV RX12 266 RX12 yX12_forget wsX12_forget) := goodIn_app (zk q_wsX12_day (zq_c (i := 1235) rfl (zq_c (i := 1237) rfl (zq_c (i := 51) rfl (zq_c (i := 56) rfl zq_nil)))) k_wsX12_day rfl (by decide +kernel) (by decide +kernel)) (ggX12_day_X12_forget)
set_option maxRecDepth 100000 in
theorem ggX12_cell_X12_isCell : GoodIn wsX12_cell (wsX12_isCell) := zk q_wsX12_cell q_wsX12_isCell k_wsX12_cell k_wsX12_isCell (by decide +kernel) (by decide +kernel)
set_option maxRecDepth 100000 in
theorem gX12_cell_X12_isCell : GoodIn wsX12_cell (wsV RX12 189 RX12 yX12_isCell wsX12_isCell) := goodIn_app (zk q_wsX12_cell (zq_c (i := 1131) rfl (zq_c (i := 1133) rfl (zq_c (i := 33) rfl (zq_c (i := 56) rfl zq_nil)))) k_wsX12_cell rfl (by decide +kernel) (by decide +kernel)) (ggX12_cell_X12_isCell)
set_option maxRecDepth 100000 in
theorem ggX12_cell_X12_at : GoodIn wsX12_cell (wsX12_at) := zk q_wsX12_cell q_wsX12_at k_wsX12_cell k_wsX12_at (by decide +kernel) (by decide +kernel)
set_option maxRecDepth 100000 in
theorem gX12_cell_X12_at : GoodIn wsX12_cell (va_wsS RX12 161 yX12_at wsX12_at) := goodIn_app (zk q_wsX12_cell (zq_c (i := 1049) rfl (zq_c (i := 1050) rfl (zq_c (i := 56) rfl zq_nil))) k_wsX12_cell rfl (by decide +kernel) (by decide +kernel)) (ggX12_cell_X12_at)
set_option maxRecDepth 100000 in
theorem ggX12_piece_X12_isItem : GoodIn wsX12_piece (wsX12_isItem) := zk q_wsX12_piece q_wsX12_isItem k_wsX12_piece k_wsX12_isItem (by decide +kernel) (by decide +kernel)
set_option maxRecDepth 100000 in
theorem gX12_piece_X12_isItem : GoodIn wsX12_piece (wsV RX12 151 RX12 yX12_isItem wsX12_isItem) := goodIn_app (zk q_wsX12_piece (zq_c (i := 1076) rfl (zq_c (i := 1078) rfl (zq_c (i := 30) rfl (zq_c (i := 56) rfl zq_nil)))) k_wsX12_piece rfl (by decide +kernel) (by decide +kernel)) (ggX12_piece_X12_isItem)
set_option maxRecDepth 100000 in
theorem ggX12_piece_X12_in : GoodIn wsX12_piece (wsX12_in) := zk q_wsX12_piece q_wsX12_in k_wsX12_piece k_wsX12_in (by decide +kernel) (by decide +kernel)
set_option maxRecDepth 100000 in
theorem gX12_piece_X12_in : GoodIn wsX12_piece (va_wsS RX12 143 yX12_in wsX12_in) := goodIn_app (zk q_wsX12_piece (zq_c (i := 1046) rfl (zq_c (i := 1047) rfl (zq_c (i := 56) rfl zq_nil))) k_wsX12_piece rfl (by decide +kernel) (by decide +kernel)) (ggX12_piece_X12_in)
set_option maxRecDepth 100000 in
theorem ggX12_piece_X12_from : GoodIn wsX12_piece (wsX12_from) := zk q_wsX12_piece q_wsX12_from k_wsX12_piece k_wsX12_from (by decide +kernel) (by decide +kernel)
set_option maxRecDepth 100000 in
theorem gX12_piece_X12_from : GoodIn wsX12_piece (wsV RX12 199 RX12 yX12_from wsX12_from) := goodIn_app (zk q_wsX12_piece (zq_c (i := 1151) rfl (zq_c (i := 1153) rfl (zq_c (i := 38) rfl (zq_c (i := 56) rfl zq_nil)))) k_wsX12_piece rfl (by decide +kernel) (by decide +kernel)) (ggX12_piece_X12_from)
