theorem zl_X12_isItem_X12 : ∀ w ∈ u_ws RX12 TX12 52, w ∈ wsX12_isItem := zin q_wsX12_isItem q_wsX120 k_wsX12_isItem k_wsX120 (by decide +kernel)
theorem zl_X12_isKind_X12 : ∀ w ∈ u_ws RX12 TX12 52, w ∈ wsX12_isKind := zin q_wsX12_isKind q_wsX120 k_wsX12_isKind k_wsX120 (by decide +kernel)
theorem zl_X12_made_X12 : ∀ w ∈ u_ws RX12 TX12 52, w ∈ wsX12_made := zin q_wsX12_made q_wsX120 k_wsX12_made k_wsX120 (by decide +kernel)
theorem zl_X12_story_X12 : ∀ w ∈ u_ws RX12 TX12 52, w ∈ wsX12_story := zin q_wsX12_story q_wsX120 k_wsX12_story k_wsX120 (by decide +kernel)
theorem zl_X12_picture_X12 : ∀ w ∈ u_ws RX12 TX12 52, w ∈ wsX12_picture := zin q_wsX12_picture q_wsX120 k_wsX12_picture k_wsX120 (by decide +kernel)
theorem zl_X12_head_X12 : ∀ w ∈ u_ws RX12 TX12 52, w ∈ wsX12_head := zin q_wsX12_head q_wsX120 k_wsX12_head k_wsX120 (by decide +kernel)
theorem zl_X12_filler_X12 : ∀ w ∈ u_ws RX12 TX12 52, w ∈ wsX12_filler := zin q_wsX12_filler q_wsX120 k_wsX12_filler k_wsX120 (by decide +kernel)
theorem zl_X12_paid_X12 : ∀ w ∈ u_ws RX12 TX12 52, w ∈ wsX12_paid := zin q_wsX12_paid q_wsX120 k_wsX12_paid k_wsX120 (by decide +kernel)
theorem zl_X12_line_X12 : ∀ w ∈ u_ws RX12 TX12 52, w ∈ wsX12_line := zin q_wsX12_line q_wsX120 k_wsX12_line k_wsX120 (by decide +kernel)
theorem zl_X12_size_X12 : ∀ w ∈ u_ws RX12 TX12 52, w ∈ wsX12_size := zin q_wsX12_size q_wsX120 k_wsX12_size k_wsX120 (by decide +kernel)
theorem zl_X12_rival_X12 : ∀ w ∈ u_ws RX12 TX12 52, w ∈ wsX12_rival := zin q_wsX12_rival q_wsX120 k_wsX12_rival k_wsX120 (by decide +kernel)
theorem zl_X12_names_X12 : ∀ w ∈ u_ws RX12 TX12 52, w ∈ wsX12_names := zin q_wsX12_names q_wsX120 k_wsX12_names k_wsX120 (by decide +kernel)
theorem zl_X12_takes_X12 : ∀ w ∈ u_ws RX12 TX12 52, w ∈ wsX12_takes := zin q_wsX12_takes q_wsX120 k_wsX12_takes k_wsX120 (by decide +kernel)
theorem zl_X12_sets_X12 : ∀ w ∈ u_ws RX12 TX12 52, w ∈ wsX12_sets := zin q_wsX12_sets q_wsX120 k_wsX12_sets k_wsX120 (by decide +kernel)
theorem zl_X12_isCell_X12 : ∀ w ∈ u_ws RX12 TX12 52, w ∈ wsX12_isCell := zin q_wsX12_isCell q_wsX120 k_wsX12_isCell k_wsX120 (by decide +kernel)
theorem zl_X12_isNow_X12 : ∀ w ∈ u_ws RX12 TX12 52, w ∈ wsX12_isNow := zin q_wsX12_isNow q_wsX120 k_wsX12_isNow k_wsX120 (by decide +kernel)
theorem zl_X12_forget_X12 : ∀ w ∈ u_ws RX12 TX12 52, w ∈ wsX12_forget := zin q_wsX12_forget q_wsX120 k_wsX12_forget k_wsX120 (by decide +kernel)
theorem zl_X12_acts_X12 : ∀ w ∈ u_ws RX12 TX12 52, w ∈ wsX12_acts := zin q_wsX12_acts q_wsX120 k_wsX12_acts k_wsX120 (by decide +kernel)
theorem zl_X12_stand_X12 : ∀ w ∈ u_ws RX12 TX12 52, w ∈ wsX12_stand := zin q_wsX12_stand q_wsX120 k_wsX12_stand k_wsX120 (by decide +kernel)
theorem zl_X12_unstand_X12 : ∀ w ∈ u_ws RX12 TX12 52, w ∈ wsX12_unstand := zin q_wsX12_unstand q_wsX120 k_wsX12_unstand k_wsX120 (by decide +kernel)
theorem zl_X12_cell_X12 : ∀ w ∈ u_ws RX12 TX12 52, w ∈ wsX12_cell := zin q_wsX12_cell q_wsX120 k_wsX12_cell k_wsX120 (by decide +kernel)
theorem zl_X12_rule_X12 : ∀ w ∈ u_ws RX12 TX12 52, w ∈ wsX12_rule := zin q_wsX12_rule q_wsX120 k_wsX12_rule k_wsX120 (by decide +kernel)
theorem zl_X12_plateOf_X12 : ∀ w ∈ u_ws RX12 TX12 52, w ∈ wsX12_plateOf := zin q_wsX12_plateOf q_wsX120 k_wsX12_plateOf k_wsX120 (by decide +kernel)
theorem zl_X12_shortOf_X12 : ∀ w ∈ u_ws RX12 TX12 52, w ∈ wsX12_shortOf := zin q_wsX12_shortOf q_wsX120 k_wsX12_shortOf k_wsX120 (by decide +kernel)
theorem zl_X12_hasPiece_X12 : ∀ w ∈ u_ws RX12 TX12 52, w ∈ wsX12_hasPiece := zin q_wsX12_hasPiece q_wsX120 k_wsX12_hasPiece k_wsX120 (by decide +kernel)
theorem zl_X12_measure_X12 : ∀ w ∈ u_ws RX12 TX12 52, w ∈ wsX12_measure := zin q_wsX12_measure q_wsX120 k_wsX12_measure k_wsX120 (by decide +kernel)
theorem zl_X12_column_X12 : ∀ w ∈ u_ws RX12 TX12 52, w ∈ wsX12_column := zin q_wsX12_column q_wsX120 k_wsX12_column k_wsX120 (by decide +kernel)
theorem zl_X12_standing_X12 : ∀ w ∈ u_ws RX12 TX12 52, w ∈ wsX12_standing := zin q_wsX12_standing q_wsX120 k_wsX12_standing k_wsX120 (by decide +kernel)
theorem zl_X12_item_X12 : ∀ w ∈ u_ws RX12 TX12 52, w ∈ wsX12_item := zin q_wsX12_item q_wsX120 k_wsX12_item k_wsX120 (by decide +kernel)
theorem zl_X12_piece_X12 : ∀ w ∈ u_ws RX12 TX12 52, w ∈ wsX12_piece := zin q_wsX12_piece q_wsX120 k_wsX12_piece k_wsX120 (by decide +kernel)
theorem zl_X12_plated_X12 : ∀ w ∈ u_ws RX12 TX12 52, w ∈ wsX12_plated := zin q_wsX12_plated q_wsX120 k_wsX12_plated k_wsX120 (by decide +kernel)
theorem zl_X12_wrongs_X12 : ∀ w ∈ u_ws RX12 TX12 52, w ∈ wsX12_wrongs := zin q_wsX12_wrongs q_wsX120 k_wsX12_wrongs k_wsX120 (by decide +kernel)
theorem zl_X12_wasPrintedAhead_X12 : ∀ w ∈ u_ws RX12 TX12 52, w ∈ wsX12_wasPrintedAhead := zin q_wsX12_wasPrintedAhead q_wsX120 k_wsX12_wasPrintedAhead k_wsX120 (by decide +kernel)
theorem zl_X12_lift_X12 : ∀ w ∈ u_ws RX12 TX12 52, w ∈ wsX12_lift := zin q_wsX12_lift q_wsX120 k_wsX12_lift k_wsX120 (by decide +kernel)
theorem zl_X12_fillerFor_X12 : ∀ w ∈ u_ws RX12 TX12 52, w ∈ wsX12_fillerFor := zin q_wsX12_fillerFor q_wsX120 k_wsX12_fillerFor k_wsX120 (by decide +kernel)
theorem zl_X12_printed_X12 : ∀ w ∈ u_ws RX12 TX12 52, w ∈ wsX12_printed := zin q_wsX12_printed q_wsX120 k_wsX12_printed k_wsX120 (by decide +kernel)
theorem zl_X12_about_X12 : ∀ w ∈ u_ws RX12 TX12 52, w ∈ wsX12_about := zin q_wsX12_about q_wsX120 k_wsX12_about k_wsX120 (by decide +kernel)
theorem zl_X12_isFree_X12 : ∀ w ∈ u_ws RX12 TX12 52, w ∈ wsX12_isFree := zin q_wsX12_isFree q_wsX120 k_wsX12_isFree k_wsX120 (by decide +kernel)
theorem zl_X12_ends_X12 : ∀ w ∈ u_ws RX12 TX12 52, w ∈ wsX12_ends := zin q_wsX12_ends q_wsX120 k_wsX12_ends k_wsX120 (by decide +kernel)
theorem zl_X12_edition_X12 : ∀ w ∈ u_ws RX12 TX12 52, w ∈ wsX12_edition := zin q_wsX12_edition q_wsX120 k_wsX12_edition k_wsX120 (by decide +kernel)
theorem zl_X12_day_X12 : ∀ w ∈ u_ws RX12 TX12 52, w ∈ wsX12_day := zin q_wsX12_day q_wsX120 k_wsX12_day k_wsX120 (by decide +kernel)
theorem zl_X12_mayMend_X12 : ∀ w ∈ u_ws RX12 TX12 52, w ∈ wsX12_mayMend := zin q_wsX12_mayMend q_wsX120 k_wsX12_mayMend k_wsX120 (by decide +kernel)
theorem zl_X12_beside_X12 : ∀ w ∈ u_ws RX12 TX12 52, w ∈ wsX12_beside := zin q_wsX12_beside q_wsX120 k_wsX12_beside k_wsX120 (by decide +kernel)
theorem zl_X12_hasStory_X12 : ∀ w ∈ u_ws RX12 TX12 52, w ∈ wsX12_hasStory := zin q_wsX12_hasStory q_wsX120 k_wsX12_hasStory k_wsX120 (by decide +kernel)
theorem zl_X12_breaks_X12 : ∀ w ∈ u_ws RX12 TX12 52, w ∈ wsX12_breaks := zin q_wsX12_breaks q_wsX120 k_wsX12_breaks k_wsX120 (by decide +kernel)
theorem zl_X12_broken_X12 : ∀ w ∈ u_ws RX12 TX12 52, w ∈ wsX12_broken := zin q_wsX12_broken q_wsX120 k_wsX12_broken k_wsX120 (by decide +kernel)
theorem zl_X12_plate_X12 : ∀ w ∈ u_ws RX12 TX12 52, w ∈ wsX12_plate := zin q_wsX12_plate q_wsX120 k_wsX12_plate k_wsX120 (by decide +kernel)
theorem zl_X12_bill_X12 : ∀ w ∈ u_ws RX12 TX12 52, w ∈ wsX12_bill := zin q_wsX12_bill q_wsX120 k_wsX12_bill k_wsX120 (by decide +kernel)
theorem zl_X12_notice_X12 : ∀ w ∈ u_ws RX12 TX12 52, w ∈ wsX12_notice := zin q_wsX12_notice q_wsX120 k_wsX12_notice k_wsX120 (by decide +kernel)
theorem zl_X12_mayRun_X12 : ∀ w ∈ u_ws RX12 TX12 52, w ∈ wsX12_mayRun := zin q_wsX12_mayRun q_wsX120 k_wsX12_mayRun k_wsX120 (by decide +kernel)
theorem zl_X12_put_X12 : ∀ w ∈ u_ws RX12 TX12 52, w ∈ wsX12_put := zin q_wsX12_put q_wsX120 k_wsX12_put k_wsX120 (by decide +kernel)
theorem zl_X12_fill_X12 : ∀ w ∈ u_ws RX12 TX12 52, w ∈ wsX12_fill := zin q_wsX12_fill q_wsX120 k_wsX12_fill k_wsX120 (by decide +kernel)
theorem zl_X12_undo_X12 : ∀ w ∈ u_ws RX12 TX12 52, w ∈ wsX12_undo := zin q_wsX12_undo q_wsX120 k_wsX12_undo k_wsX120 (by decide +kernel)
theorem zl_X9_at_X9 : ∀ w ∈ u_ws RX9 TX9 5, w ∈ wsX9_at := zin q_wsX9_at q_wsX90 k_wsX9_at k_wsX90 (by decide +kernel)
theorem zl_X9_emptyIn_X9 : ∀ w ∈ u_ws RX9 TX9 5, w ∈ wsX9_emptyIn := zin q_wsX9_emptyIn q_wsX90 k_wsX9_emptyIn k_wsX90 (by decide +kernel)
theorem zl_X9_cellCount_X9 : ∀ w ∈ u_ws RX9 TX9 5, w ∈ wsX9_cellCount := zin q_wsX9_cellCount q_wsX90 k_wsX9_cellCount k_wsX90 (by decide +kernel)
theorem zl_X9_spotOf_X9 : ∀ w ∈ u_ws RX9 TX9 5, w ∈ wsX9_spotOf := zin q_wsX9_spotOf q_wsX90 k_wsX9_spotOf k_wsX90 (by decide +kernel)
theorem zl_X9_isFree_X8 : ∀ w ∈ u_ws RX8 TX8 6, w ∈ wsX9_isFree := zin q_wsX9_isFree q_wsX80 k_wsX9_isFree k_wsX80 (by decide +kernel)
theorem zl_X9_mark_X8 : ∀ w ∈ u_ws RX8 TX8 6, w ∈ wsX9_mark := zin q_wsX9_mark q_wsX80 k_wsX9_mark k_wsX80 (by decide +kernel)
theorem zl_X9_mark_X9 : ∀ w ∈ u_ws RX9 TX9 5, w ∈ wsX9_mark := zin q_wsX9_mark q_wsX90 k_wsX9_mark k_wsX90 (by decide +kernel)
theorem zl_X8_isBehind_X8 : ∀ w ∈ u_ws RX8 TX8 6, w ∈ wsX8_isBehind := zin q_wsX8_isBehind q_wsX80 k_wsX8_isBehind k_wsX80 (by decide +kernel)
theorem zl_X8_startsWith_X8 : ∀ w ∈ u_ws RX8 TX8 6, w ∈ wsX8_startsWith := zin q_wsX8_startsWith q_wsX80 k_wsX8_startsWith k_wsX80 (by decide +kernel)
theorem zl_X8_isBeside_X8 : ∀ w ∈ u_ws RX8 TX8 6, w ∈ wsX8_isBeside := zin q_wsX8_isBeside q_wsX80 k_wsX8_isBeside k_wsX80 (by decide +kernel)
theorem zl_X8_isOverOrUnder_X8 : ∀ w ∈ u_ws RX8 TX8 6, w ∈ wsX8_isOverOrUnder := zin q_wsX8_isOverOrUnder q_wsX80 k_wsX8_isOverOrUnder k_wsX80 (by decide +kernel)
theorem zl_X8_sign_X8 : ∀ w ∈ u_ws RX8 TX8 6, w ∈ wsX8_sign := zin q_wsX8_sign q_wsX80 k_wsX8_sign k_wsX80 (by decide +kernel)
theorem zl_X8_sign_X2 : ∀ w ∈ u_ws RX2 TX2 7, w ∈ wsX8_sign := zin q_wsX8_sign q_wsX20 k_wsX8_sign k_wsX20 (by decide +kernel)
theorem zl_X8_sign_X3 : ∀ w ∈ u_ws RX3 TX3 8, w ∈ wsX8_sign := zin q_wsX8_sign q_wsX30 k_wsX8_sign k_wsX30 (by decide +kernel)
theorem zl_X8_sign_X5 : ∀ w ∈ u_ws RX5 TX5 7, w ∈ wsX8_sign := zin q_wsX8_sign q_wsX50 k_wsX8_sign k_wsX50 (by decide +kernel)
theorem zl_X8_sign_X6 : ∀ w ∈ u_ws RX6 TX6 9, w ∈ wsX8_sign := zin q_wsX8_sign q_wsX60 k_wsX8_sign k_wsX60 (by decide +kernel)
theorem zl_X8_sign_X7 : ∀ w ∈ u_ws RX7 TX7 8, w ∈ wsX8_sign := zin q_wsX8_sign q_wsX70 k_wsX8_sign k_wsX70 (by decide +kernel)
theorem zl_X8_sign_X10 : ∀ w ∈ u_ws RX10 TX10 9, w ∈ wsX8_sign := zin q_wsX8_sign q_wsX100 k_wsX8_sign k_wsX100 (by decide +kernel)
theorem zl_X4_hasRoom_X2 : ∀ w ∈ u_ws RX2 TX2 7, w ∈ wsX4_hasRoom := zin q_wsX4_hasRoom q_wsX20 k_wsX4_hasRoom k_wsX20 (by decide +kernel)
theorem zl_X4_hasRoom_X3 : ∀ w ∈ u_ws RX3 TX3 8, w ∈ wsX4_hasRoom := zin q_wsX4_hasRoom q_wsX30 k_wsX4_hasRoom k_wsX30 (by decide +kernel)
theorem zl_X4_hasRoom_X5 : ∀ w ∈ u_ws RX5 TX5 7, w ∈ wsX4_hasRoom := zin q_wsX4_hasRoom q_wsX50 k_wsX4_hasRoom k_wsX50 (by decide +kernel)
theorem zl_X4_hasRoom_X6 : ∀ w ∈ u_ws RX6 TX6 9, w ∈ wsX4_hasRoom := zin q_wsX4_hasRoom q_wsX60 k_wsX4_hasRoom k_wsX60 (by decide +kernel)
theorem zl_X4_hasRoom_X7 : ∀ w ∈ u_ws RX7 TX7 8, w ∈ wsX4_hasRoom := zin q_wsX4_hasRoom q_wsX70 k_wsX4_hasRoom k_wsX70 (by decide +kernel)
theorem zl_X4_hasRoom_X10 : ∀ w ∈ u_ws RX10 TX10 9, w ∈ wsX4_hasRoom := zin q_wsX4_hasRoom q_wsX100 k_wsX4_hasRoom k_wsX100 (by decide +kernel)
theorem zl_X4_gain_X2 : ∀ w ∈ u_ws RX2 TX2 7, w ∈ wsX4_gain := zin q_wsX4_gain q_wsX20 k_wsX4_gain k_wsX20 (by decide +kernel)
theorem zl_X4_gain_X3 : ∀ w ∈ u_ws RX3 TX3 8, w ∈ wsX4_gain := zin q_wsX4_gain q_wsX30 k_wsX4_gain k_wsX30 (by decide +kernel)
theorem zl_X4_gain_X5 : ∀ w ∈ u_ws RX5 TX5 7, w ∈ wsX4_gain := zin q_wsX4_gain q_wsX50 k_wsX4_gain k_wsX50 (by decide +kernel)
theorem zl_X4_gain_X6 : ∀ w ∈ u_ws RX6 TX6 9, w ∈ wsX4_gain := zin q_wsX4_gain q_wsX60 k_wsX4_gain k_wsX60 (by decide +kernel)
theorem zl_X4_gain_X7 : ∀ w ∈ u_ws RX7 TX7 8, w ∈ wsX4_gain := zin q_wsX4_gain q_wsX70 k_wsX4_gain k_wsX70 (by decide +kernel)
theorem zl_X4_gain_X10 : ∀ w ∈ u_ws RX10 TX10 9, w ∈ wsX4_gain := zin q_wsX4_gain q_wsX100 k_wsX4_gain k_wsX100 (by decide +kernel)
theorem zl_X4_loseLast_X2 : ∀ w ∈ u_ws RX2 TX2 7, w ∈ wsX4_loseLast := zin q_wsX4_loseLast q_wsX20 k_wsX4_loseLast k_wsX20 (by decide +kernel)
theorem zl_X4_loseLast_X3 : ∀ w ∈ u_ws RX3 TX3 8, w ∈ wsX4_loseLast := zin q_wsX4_loseLast q_wsX30 k_wsX4_loseLast k_wsX30 (by decide +kernel)
theorem zl_X4_loseLast_X5 : ∀ w ∈ u_ws RX5 TX5 7, w ∈ wsX4_loseLast := zin q_wsX4_loseLast q_wsX50 k_wsX4_loseLast k_wsX50 (by decide +kernel)
theorem zl_X4_loseLast_X6 : ∀ w ∈ u_ws RX6 TX6 9, w ∈ wsX4_loseLast := zin q_wsX4_loseLast q_wsX60 k_wsX4_loseLast k_wsX60 (by decide +kernel)
theorem zl_X4_loseLast_X7 : ∀ w ∈ u_ws RX7 TX7 8, w ∈ wsX4_loseLast := zin q_wsX4_loseLast q_wsX70 k_wsX4_loseLast k_wsX70 (by decide +kernel)
theorem zl_X4_loseLast_X10 : ∀ w ∈ u_ws RX10 TX10 9, w ∈ wsX4_loseLast := zin q_wsX4_loseLast q_wsX100 k_wsX4_loseLast k_wsX100 (by decide +kernel)
theorem zl_X4_loseAll_X2 : ∀ w ∈ u_ws RX2 TX2 7, w ∈ wsX4_loseAll := zin q_wsX4_loseAll q_wsX20 k_wsX4_loseAll k_wsX20 (by decide +kernel)
theorem zl_X4_loseAll_X3 : ∀ w ∈ u_ws RX3 TX3 8, w ∈ wsX4_loseAll := zin q_wsX4_loseAll q_wsX30 k_wsX4_loseAll k_wsX30 (by decide +kernel)
theorem zl_X4_loseAll_X5 : ∀ w ∈ u_ws RX5 TX5 7, w ∈ wsX4_loseAll := zin q_wsX4_loseAll q_wsX50 k_wsX4_loseAll k_wsX50 (by decide +kernel)
theorem zl_X4_loseAll_X6 : ∀ w ∈ u_ws RX6 TX6 9, w ∈ wsX4_loseAll := zin q_wsX4_loseAll q_wsX60 k_wsX4_loseAll k_wsX60 (by decide +kernel)
theorem zl_X4_loseAll_X7 : ∀ w ∈ u_ws RX7 TX7 8, w ∈ wsX4_loseAll := zin q_wsX4_loseAll q_wsX70 k_wsX4_loseAll k_wsX70 (by decide +kernel)
theorem zl_X4_loseAll_X10 : ∀ w ∈ u_ws RX10 TX10 9, w ∈ wsX4_loseAll := zin q_wsX4_loseAll q_wsX100 k_wsX4_loseAll k_wsX100 (by decide +kernel)
theorem zl_X4_lastPiece_X2 : ∀ w ∈ u_ws RX2 TX2 7, w ∈ wsX4_lastPiece := zin q_wsX4_lastPiece q_wsX20 k_wsX4_lastPiece k_wsX20 (by decide +kernel)
theorem zl_X4_lastPiece_X3 : ∀ w ∈ u_ws RX3 TX3 8, w ∈ wsX4_lastPiece := zin q_wsX4_lastPiece q_wsX30 k_wsX4_lastPiece k_wsX30 (by decide +kernel)
theorem zl_X4_lastPiece_X5 : ∀ w ∈ u_ws RX5 TX5 7, w ∈ wsX4_lastPiece := zin q_wsX4_lastPiece q_wsX50 k_wsX4_lastPiece k_wsX50 (by decide +kernel)
theorem zl_X4_lastPiece_X6 : ∀ w ∈ u_ws RX6 TX6 9, w ∈ wsX4_lastPiece := zin q_wsX4_lastPiece q_wsX60 k_wsX4_lastPiece k_wsX60 (by decide +kernel)
theorem zl_X4_lastPiece_X7 : ∀ w ∈ u_ws RX7 TX7 8, w ∈ wsX4_lastPiece := zin q_wsX4_lastPiece q_wsX70 k_wsX4_lastPiece k_wsX70 (by decide +kernel)
theorem zl_X4_lastPiece_X10 : ∀ w ∈ u_ws RX10 TX10 9, w ∈ wsX4_lastPiece := zin q_wsX4_lastPiece q_wsX100 k_wsX4_lastPiece k_wsX100 (by decide +kernel)
theorem zl_X4_isOn_X2 : ∀ w ∈ u_ws RX2 TX2 7, w ∈ wsX4_isOn := zin q_wsX4_isOn q_wsX20 k_wsX4_isOn k_wsX20 (by decide +kernel)
theorem zl_X4_isOn_X3 : ∀ w ∈ u_ws RX3 TX3 8, w ∈ wsX4_isOn := zin q_wsX4_isOn q_wsX30 k_wsX4_isOn k_wsX30 (by decide +kernel)
theorem zl_X4_isOn_X5 : ∀ w ∈ u_ws RX5 TX5 7, w ∈ wsX4_isOn := zin q_wsX4_isOn q_wsX50 k_wsX4_isOn k_wsX50 (by decide +kernel)
theorem zl_X4_isOn_X6 : ∀ w ∈ u_ws RX6 TX6 9, w ∈ wsX4_isOn := zin q_wsX4_isOn q_wsX60 k_wsX4_isOn k_wsX60 (by decide +kernel)
theorem zl_X4_isOn_X7 : ∀ w ∈ u_ws RX7 TX7 8, w ∈ wsX4_isOn := zin q_wsX4_isOn q_wsX70 k_wsX4_isOn k_wsX70 (by decide +kernel)
theorem zl_X4_isOn_X10 : ∀ w ∈ u_ws RX10 TX10 9, w ∈ wsX4_isOn := zin q_wsX4_isOn q_wsX100 k_wsX4_isOn k_wsX100 (by decide +kernel)
theorem zl_X4_isOn_X8 : ∀ w ∈ u_ws RX8 TX8 6, w ∈ wsX4_isOn := zin q_wsX4_isOn q_wsX80 k_wsX4_isOn k_wsX80 (by decide +kernel)
theorem zl_X4_touches_X2 : ∀ w ∈ u_ws RX2 TX2 7, w ∈ wsX4_touches := zin q_wsX4_touches q_wsX20 k_wsX4_touches k_wsX20 (by decide +kernel)
theorem zl_X4_touches_X3 : ∀ w ∈ u_ws RX3 TX3 8, w ∈ wsX4_touches := zin q_wsX4_touches q_wsX30 k_wsX4_touches k_wsX30 (by decide +kernel)
theorem zl_X4_touches_X5 : ∀ w ∈ u_ws RX5 TX5 7, w ∈ wsX4_touches := zin q_wsX4_touches q_wsX50 k_wsX4_touches k_wsX50 (by decide +kernel)
theorem zl_X4_touches_X6 : ∀ w ∈ u_ws RX6 TX6 9, w ∈ wsX4_touches := zin q_wsX4_touches q_wsX60 k_wsX4_touches k_wsX60 (by decide +kernel)
theorem zl_X4_touches_X7 : ∀ w ∈ u_ws RX7 TX7 8, w ∈ wsX4_touches := zin q_wsX4_touches q_wsX70 k_wsX4_touches k_wsX70 (by decide +kernel)
theorem zl_X4_touches_X10 : ∀ w ∈ u_ws RX10 TX10 9, w ∈ wsX4_touches := zin q_wsX4_touches q_wsX100 k_wsX4_touches k_wsX100 (by decide +kernel)
theorem zl_X4_meets_X2 : ∀ w ∈ u_ws RX2 TX2 7, w ∈ wsX4_meets := zin q_wsX4_meets q_wsX20 k_wsX4_meets k_wsX20 (by decide +kernel)
theorem zl_X4_meets_X3 : ∀ w ∈ u_ws RX3 TX3 8, w ∈ wsX4_meets := zin q_wsX4_meets q_wsX30 k_wsX4_meets k_wsX30 (by decide +kernel)
theorem zl_X4_meets_X5 : ∀ w ∈ u_ws RX5 TX5 7, w ∈ wsX4_meets := zin q_wsX4_meets q_wsX50 k_wsX4_meets k_wsX50 (by decide +kernel)
theorem zl_X4_meets_X6 : ∀ w ∈ u_ws RX6 TX6 9, w ∈ wsX4_meets := zin q_wsX4_meets q_wsX60 k_wsX4_meets k_wsX60 (by decide +kernel)
theorem zl_X4_meets_X7 : ∀ w ∈ u_ws RX7 TX7 8, w ∈ wsX4_meets := zin q_wsX4_meets q_wsX70 k_wsX4_meets k_wsX70 (by decide +kernel)
theorem zl_X4_meets_X10 : ∀ w ∈ u_ws RX10 TX10 9, w ∈ wsX4_meets := zin q_wsX4_meets q_wsX100 k_wsX4_meets k_wsX100 (by decide +kernel)
theorem zl_X4_meets_X8 : ∀ w ∈ u_ws RX8 TX8 6, w ∈ wsX4_meets := zin q_wsX4_meets q_wsX80 k_wsX4_meets k_wsX80 (by decide +kernel)
theorem zl_X2_linesBy_X2 : ∀ w ∈ u_ws RX2 TX2 7, w ∈ wsX2_linesBy := zin q_wsX2_linesBy q_wsX20 k_wsX2_linesBy k_wsX20 (by decide +kernel)
theorem zl_X3_columnsBy_X3 : ∀ w ∈ u_ws RX3 TX3 8, w ∈ wsX3_columnsBy := zin q_wsX3_columnsBy q_wsX30 k_wsX3_columnsBy k_wsX30 (by decide +kernel)
theorem zl_X3_linesBy_X3 : ∀ w ∈ u_ws RX3 TX3 8, w ∈ wsX3_linesBy := zin q_wsX3_linesBy q_wsX30 k_wsX3_linesBy k_wsX30 (by decide +kernel)
theorem zl_X5_linesBy_X5 : ∀ w ∈ u_ws RX5 TX5 7, w ∈ wsX5_linesBy := zin q_wsX5_linesBy q_wsX50 k_wsX5_linesBy k_wsX50 (by decide +kernel)
theorem zl_X6_columnsBy_X6 : ∀ w ∈ u_ws RX6 TX6 9, w ∈ wsX6_columnsBy := zin q_wsX6_columnsBy q_wsX60 k_wsX6_columnsBy k_wsX60 (by decide +kernel)
theorem zl_X6_columnsBy_X8 : ∀ w ∈ u_ws RX8 TX8 6, w ∈ wsX6_columnsBy := zin q_wsX6_columnsBy q_wsX80 k_wsX6_columnsBy k_wsX80 (by decide +kernel)
theorem zl_X6_linesBy_X6 : ∀ w ∈ u_ws RX6 TX6 9, w ∈ wsX6_linesBy := zin q_wsX6_linesBy q_wsX60 k_wsX6_linesBy k_wsX60 (by decide +kernel)
theorem zl_X6_linesBy_X8 : ∀ w ∈ u_ws RX8 TX8 6, w ∈ wsX6_linesBy := zin q_wsX6_linesBy q_wsX80 k_wsX6_linesBy k_wsX80 (by decide +kernel)
theorem zl_X7_columnsBy_X7 : ∀ w ∈ u_ws RX7 TX7 8, w ∈ wsX7_columnsBy := zin q_wsX7_columnsBy q_wsX70 k_wsX7_columnsBy k_wsX70 (by decide +kernel)
theorem zl_X7_linesBy_X7 : ∀ w ∈ u_ws RX7 TX7 8, w ∈ wsX7_linesBy := zin q_wsX7_linesBy q_wsX70 k_wsX7_linesBy k_wsX70 (by decide +kernel)
theorem zl_X6_maySit_X6 : ∀ w ∈ u_ws RX6 TX6 9, w ∈ wsX6_maySit := zin q_wsX6_maySit q_wsX60 k_wsX6_maySit k_wsX60 (by decide +kernel)
theorem zl_X5_maySit_X5 : ∀ w ∈ u_ws RX5 TX5 7, w ∈ wsX5_maySit := zin q_wsX5_maySit q_wsX50 k_wsX5_maySit k_wsX50 (by decide +kernel)
theorem zl_X5_maySit_X2 : ∀ w ∈ u_ws RX2 TX2 7, w ∈ wsX5_maySit := zin q_wsX5_maySit q_wsX20 k_wsX5_maySit k_wsX20 (by decide +kernel)
theorem zl_X5_maySit_X3 : ∀ w ∈ u_ws RX3 TX3 8, w ∈ wsX5_maySit := zin q_wsX5_maySit q_wsX30 k_wsX5_maySit k_wsX30 (by decide +kernel)
theorem zl_X5_maySit_X6 : ∀ w ∈ u_ws RX6 TX6 9, w ∈ wsX5_maySit := zin q_wsX5_maySit q_wsX60 k_wsX5_maySit k_wsX60 (by decide +kernel)
theorem zl_X5_maySit_X7 : ∀ w ∈ u_ws RX7 TX7 8, w ∈ wsX5_maySit := zin q_wsX5_maySit q_wsX70 k_wsX5_maySit k_wsX70 (by decide +kernel)
theorem zl_X5_maySit_X10 : ∀ w ∈ u_ws RX10 TX10 9, w ∈ wsX5_maySit := zin q_wsX5_maySit q_wsX100 k_wsX5_maySit k_wsX100 (by decide +kernel)
theorem zl_X5_maySit_X8 : ∀ w ∈ u_ws RX8 TX8 6, w ∈ wsX5_maySit := zin q_wsX5_maySit q_wsX80 k_wsX5_maySit k_wsX80 (by decide +kernel)
theorem zl_X6_cost_X6 : ∀ w ∈ u_ws RX6 TX6 9, w ∈ wsX6_cost := zin q_wsX6_cost q_wsX60 k_wsX6_cost k_wsX60 (by decide +kernel)
theorem zl_X6_cost_X8 : ∀ w ∈ u_ws RX8 TX8 6, w ∈ wsX6_cost := zin q_wsX6_cost q_wsX80 k_wsX6_cost k_wsX80 (by decide +kernel)
theorem zl_X10_takenBy_X10 : ∀ w ∈ u_ws RX10 TX10 9, w ∈ wsX10_takenBy := zin q_wsX10_takenBy q_wsX100 k_wsX10_takenBy k_wsX100 (by decide +kernel)
theorem zl_X10_takenBy_X8 : ∀ w ∈ u_ws RX8 TX8 6, w ∈ wsX10_takenBy := zin q_wsX10_takenBy q_wsX80 k_wsX10_takenBy k_wsX80 (by decide +kernel)
theorem zl_X10_takenBefore_X10 : ∀ w ∈ u_ws RX10 TX10 9, w ∈ wsX10_takenBefore := zin q_wsX10_takenBefore q_wsX100 k_wsX10_takenBefore k_wsX100 (by decide +kernel)
theorem zl_X10_standing_X10 : ∀ w ∈ u_ws RX10 TX10 9, w ∈ wsX10_standing := zin q_wsX10_standing q_wsX100 k_wsX10_standing k_wsX100 (by decide +kernel)
theorem zl_X10_canTake_X10 : ∀ w ∈ u_ws RX10 TX10 9, w ∈ wsX10_canTake := zin q_wsX10_canTake q_wsX100 k_wsX10_canTake k_wsX100 (by decide +kernel)
theorem zl_X10_maySit_X8 : ∀ w ∈ u_ws RX8 TX8 6, w ∈ wsX10_maySit := zin q_wsX10_maySit q_wsX80 k_wsX10_maySit k_wsX80 (by decide +kernel)
theorem zl_X10_maySit_X10 : ∀ w ∈ u_ws RX10 TX10 9, w ∈ wsX10_maySit := zin q_wsX10_maySit q_wsX100 k_wsX10_maySit k_wsX100 (by decide +kernel)
theorem zl_X10_takeIn_X10 : ∀ w ∈ u_ws RX10 TX10 9, w ∈ wsX10_takeIn := zin q_wsX10_takeIn q_wsX100 k_wsX10_takeIn k_wsX100 (by decide +kernel)
theorem zl_X7_takeSize_X7 : ∀ w ∈ u_ws RX7 TX7 8, w ∈ wsX7_takeSize := zin q_wsX7_takeSize q_wsX70 k_wsX7_takeSize k_wsX70 (by decide +kernel)
theorem zl_X11_itemOf_X11 : ∀ w ∈ u_ws RX11 TX11 9, w ∈ wsX11_itemOf := zin q_wsX11_itemOf q_wsX110 k_wsX11_itemOf k_wsX110 (by decide +kernel)
theorem zl_X11_areRivals_X11 : ∀ w ∈ u_ws RX11 TX11 9, w ∈ wsX11_areRivals := zin q_wsX11_areRivals q_wsX110 k_wsX11_areRivals k_wsX110 (by decide +kernel)
theorem zl_X11_canAct_X11 : ∀ w ∈ u_ws RX11 TX11 9, w ∈ wsX11_canAct := zin q_wsX11_canAct q_wsX110 k_wsX11_canAct k_wsX110 (by decide +kernel)
theorem zl_X11_hasPlate_X11 : ∀ w ∈ u_ws RX11 TX11 9, w ∈ wsX11_hasPlate := zin q_wsX11_hasPlate q_wsX110 k_wsX11_hasPlate k_wsX110 (by decide +kernel)
theorem zl_X11_isFresh_X11 : ∀ w ∈ u_ws RX11 TX11 9, w ∈ wsX11_isFresh := zin q_wsX11_isFresh q_wsX110 k_wsX11_isFresh k_wsX110 (by decide +kernel)
theorem zl_X11_isFresh_X9 : ∀ w ∈ u_ws RX9 TX9 5, w ∈ wsX11_isFresh := zin q_wsX11_isFresh q_wsX90 k_wsX11_isFresh k_wsX90 (by decide +kernel)
theorem zl_X11_plateFact_X11 : ∀ w ∈ u_ws RX11 TX11 9, w ∈ wsX11_plateFact := zin q_wsX11_plateFact q_wsX110 k_wsX11_plateFact k_wsX110 (by decide +kernel)
theorem zl_X11_plateFact_X9 : ∀ w ∈ u_ws RX9 TX9 5, w ∈ wsX11_plateFact := zin q_wsX11_plateFact q_wsX90 k_wsX11_plateFact k_wsX90 (by decide +kernel)
theorem zl_X11_cell_X11 : ∀ w ∈ u_ws RX11 TX11 9, w ∈ wsX11_cell := zin q_wsX11_cell q_wsX110 k_wsX11_cell k_wsX110 (by decide +kernel)
theorem zl_X11_plated_X11 : ∀ w ∈ u_ws RX11 TX11 9, w ∈ wsX11_plated := zin q_wsX11_plated q_wsX110 k_wsX11_plated k_wsX110 (by decide +kernel)
theorem zl_X11_shortOf_X11 : ∀ w ∈ u_ws RX11 TX11 9, w ∈ wsX11_shortOf := zin q_wsX11_shortOf q_wsX110 k_wsX11_shortOf k_wsX110 (by decide +kernel)
theorem zl_X11_about_X11 : ∀ w ∈ u_ws RX11 TX11 9, w ∈ wsX11_about := zin q_wsX11_about q_wsX110 k_wsX11_about k_wsX110 (by decide +kernel)
theorem zl_X11_hasNotice_X11 : ∀ w ∈ u_ws RX11 TX11 9, w ∈ wsX11_hasNotice := zin q_wsX11_hasNotice q_wsX110 k_wsX11_hasNotice k_wsX110 (by decide +kernel)
theorem zl_X11_hasNotice_X5 : ∀ w ∈ u_ws RX5 TX5 7, w ∈ wsX11_hasNotice := zin q_wsX11_hasNotice q_wsX50 k_wsX11_hasNotice k_wsX50 (by decide +kernel)
theorem zl_X11_ownerOf_X3 : ∀ w ∈ u_ws RX3 TX3 8, w ∈ wsX11_ownerOf := zin q_wsX11_ownerOf q_wsX30 k_wsX11_ownerOf k_wsX30 (by decide +kernel)
theorem zl_X11_ownerOf_X10 : ∀ w ∈ u_ws RX10 TX10 9, w ∈ wsX11_ownerOf := zin q_wsX11_ownerOf q_wsX100 k_wsX11_ownerOf k_wsX100 (by decide +kernel)
theorem zl_X11_ownerOf_X5 : ∀ w ∈ u_ws RX5 TX5 7, w ∈ wsX11_ownerOf := zin q_wsX11_ownerOf q_wsX50 k_wsX11_ownerOf k_wsX50 (by decide +kernel)
theorem zl_X11_ownerOf_X2 : ∀ w ∈ u_ws RX2 TX2 7, w ∈ wsX11_ownerOf := zin q_wsX11_ownerOf q_wsX20 k_wsX11_ownerOf k_wsX20 (by decide +kernel)
theorem zl_X11_ownerOf_X6 : ∀ w ∈ u_ws RX6 TX6 9, w ∈ wsX11_ownerOf := zin q_wsX11_ownerOf q_wsX60 k_wsX11_ownerOf k_wsX60 (by decide +kernel)
theorem zl_X11_ownerOf_X7 : ∀ w ∈ u_ws RX7 TX7 8, w ∈ wsX11_ownerOf := zin q_wsX11_ownerOf q_wsX70 k_wsX11_ownerOf k_wsX70 (by decide +kernel)
theorem zl_X11_column_X11 : ∀ w ∈ u_ws RX11 TX11 9, w ∈ wsX11_column := zin q_wsX11_column q_wsX110 k_wsX11_column k_wsX110 (by decide +kernel)
theorem zl_X11_column_X9 : ∀ w ∈ u_ws RX9 TX9 5, w ∈ wsX11_column := zin q_wsX11_column q_wsX90 k_wsX11_column k_wsX90 (by decide +kernel)
theorem zl_X11_measure_X11 : ∀ w ∈ u_ws RX11 TX11 9, w ∈ wsX11_measure := zin q_wsX11_measure q_wsX110 k_wsX11_measure k_wsX110 (by decide +kernel)
theorem zl_X11_measure_X9 : ∀ w ∈ u_ws RX9 TX9 5, w ∈ wsX11_measure := zin q_wsX11_measure q_wsX90 k_wsX11_measure k_wsX90 (by decide +kernel)
theorem zl_X11_rival_X11 : ∀ w ∈ u_ws RX11 TX11 9, w ∈ wsX11_rival := zin q_wsX11_rival q_wsX110 k_wsX11_rival k_wsX110 (by decide +kernel)
theorem zl_X11_names_X10 : ∀ w ∈ u_ws RX10 TX10 9, w ∈ wsX11_names := zin q_wsX11_names q_wsX100 k_wsX11_names k_wsX100 (by decide +kernel)
theorem zl_X11_stand_X11 : ∀ w ∈ u_ws RX11 TX11 9, w ∈ wsX11_stand := zin q_wsX11_stand q_wsX110 k_wsX11_stand k_wsX110 (by decide +kernel)
theorem zl_X11_stand_X8 : ∀ w ∈ u_ws RX8 TX8 6, w ∈ wsX11_stand := zin q_wsX11_stand q_wsX80 k_wsX11_stand k_wsX80 (by decide +kernel)
theorem zl_X11_takeOff_X11 : ∀ w ∈ u_ws RX11 TX11 9, w ∈ wsX11_takeOff := zin q_wsX11_takeOff q_wsX110 k_wsX11_takeOff k_wsX110 (by decide +kernel)
theorem zl_X11_takeOff_X8 : ∀ w ∈ u_ws RX8 TX8 6, w ∈ wsX11_takeOff := zin q_wsX11_takeOff q_wsX80 k_wsX11_takeOff k_wsX80 (by decide +kernel)
theorem zl_X9_clear_X9 : ∀ w ∈ u_ws RX9 TX9 5, w ∈ wsX9_clear := zin q_wsX9_clear q_wsX90 k_wsX9_clear k_wsX90 (by decide +kernel)
theorem zl_X9_copyFrom_X9 : ∀ w ∈ u_ws RX9 TX9 5, w ∈ wsX9_copyFrom := zin q_wsX9_copyFrom q_wsX90 k_wsX9_copyFrom k_wsX90 (by decide +kernel)
theorem zl_X11_keep_X11 : ∀ w ∈ u_ws RX11 TX11 9, w ∈ wsX11_keep := zin q_wsX11_keep q_wsX110 k_wsX11_keep k_wsX110 (by decide +kernel)
theorem zl_X11_takeBack_X0 : ∀ w ∈ u_ws RX0 TX0 4, w ∈ wsX11_takeBack := zin q_wsX11_takeBack q_wsX00 k_wsX11_takeBack k_wsX00 (by decide +kernel)
theorem zl_X11_undo_X11 : ∀ w ∈ u_ws RX11 TX11 9, w ∈ wsX11_undo := zin q_wsX11_undo q_wsX110 k_wsX11_undo k_wsX110 (by decide +kernel)
theorem zl_X11_writeDownItem_X2 : ∀ w ∈ u_ws RX2 TX2 7, w ∈ wsX11_writeDownItem := zin q_wsX11_writeDownItem q_wsX20 k_wsX11_writeDownItem k_wsX20 (by decide +kernel)
theorem zl_X11_writeDownItem_X3 : ∀ w ∈ u_ws RX3 TX3 8, w ∈ wsX11_writeDownItem := zin q_wsX11_writeDownItem q_wsX30 k_wsX11_writeDownItem k_wsX30 (by decide +kernel)
theorem zl_X11_writeDownItem_X5 : ∀ w ∈ u_ws RX5 TX5 7, w ∈ wsX11_writeDownItem := zin q_wsX11_writeDownItem q_wsX50 k_wsX11_writeDownItem k_wsX50 (by decide +kernel)
theorem zl_X11_writeDownItem_X6 : ∀ w ∈ u_ws RX6 TX6 9, w ∈ wsX11_writeDownItem := zin q_wsX11_writeDownItem q_wsX60 k_wsX11_writeDownItem k_wsX60 (by decide +kernel)
theorem zl_X11_writeDownItem_X7 : ∀ w ∈ u_ws RX7 TX7 8, w ∈ wsX11_writeDownItem := zin q_wsX11_writeDownItem q_wsX70 k_wsX11_writeDownItem k_wsX70 (by decide +kernel)
theorem zl_X11_writeDownItem_X10 : ∀ w ∈ u_ws RX10 TX10 9, w ∈ wsX11_writeDownItem := zin q_wsX11_writeDownItem q_wsX100 k_wsX11_writeDownItem k_wsX100 (by decide +kernel)
theorem zl_X11_writeDownItem_X11 : ∀ w ∈ u_ws RX11 TX11 9, w ∈ wsX11_writeDownItem := zin q_wsX11_writeDownItem q_wsX110 k_wsX11_writeDownItem k_wsX110 (by decide +kernel)
theorem zl_X11_writeDown_X9 : ∀ w ∈ u_ws RX9 TX9 5, w ∈ wsX11_writeDown := zin q_wsX11_writeDown q_wsX90 k_wsX11_writeDown k_wsX90 (by decide +kernel)
theorem zl_X11_writeDown_X11 : ∀ w ∈ u_ws RX11 TX11 9, w ∈ wsX11_writeDown := zin q_wsX11_writeDown q_wsX110 k_wsX11_writeDown k_wsX110 (by decide +kernel)
theorem zl_X11_clearDesk_X11 : ∀ w ∈ u_ws RX11 TX11 9, w ∈ wsX11_clearDesk := zin q_wsX11_clearDesk q_wsX110 k_wsX11_clearDesk k_wsX110 (by decide +kernel)
theorem zl_X11_edition_X11 : ∀ w ∈ u_ws RX11 TX11 9, w ∈ wsX11_edition := zin q_wsX11_edition q_wsX110 k_wsX11_edition k_wsX110 (by decide +kernel)
theorem zl_X11_day_X11 : ∀ w ∈ u_ws RX11 TX11 9, w ∈ wsX11_day := zin q_wsX11_day q_wsX110 k_wsX11_day k_wsX110 (by decide +kernel)
theorem zl_X11_wasPrintedOn_X6 : ∀ w ∈ u_ws RX6 TX6 9, w ∈ wsX11_wasPrintedOn := zin q_wsX11_wasPrintedOn q_wsX60 k_wsX11_wasPrintedOn k_wsX60 (by decide +kernel)
theorem zl_X11_wasPrintedOn_X8 : ∀ w ∈ u_ws RX8 TX8 6, w ∈ wsX11_wasPrintedOn := zin q_wsX11_wasPrintedOn q_wsX80 k_wsX11_wasPrintedOn k_wsX80 (by decide +kernel)
theorem zl_X11_wasPrintedOn_X11 : ∀ w ∈ u_ws RX11 TX11 9, w ∈ wsX11_wasPrintedOn := zin q_wsX11_wasPrintedOn q_wsX110 k_wsX11_wasPrintedOn k_wsX110 (by decide +kernel)
theorem zl_X11_isNamedIn_X10 : ∀ w ∈ u_ws RX10 TX10 9, w ∈ wsX11_isNamedIn := zin q_wsX11_isNamedIn q_wsX100 k_wsX11_isNamedIn k_wsX100 (by decide +kernel)
theorem zl_X11_isNamedIn_X6 : ∀ w ∈ u_ws RX6 TX6 9, w ∈ wsX11_isNamedIn := zin q_wsX11_isNamedIn q_wsX60 k_wsX11_isNamedIn k_wsX60 (by decide +kernel)
theorem zl_X11_mayNotMeet_X6 : ∀ w ∈ u_ws RX6 TX6 9, w ∈ wsX11_mayNotMeet := zin q_wsX11_mayNotMeet q_wsX60 k_wsX11_mayNotMeet k_wsX60 (by decide +kernel)
theorem zl_X11_firstPrinting_X11 : ∀ w ∈ u_ws RX11 TX11 9, w ∈ wsX11_firstPrinting := zin q_wsX11_firstPrinting q_wsX110 k_wsX11_firstPrinting k_wsX110 (by decide +kernel)
theorem zl_X11_firstPrinting_X2 : ∀ w ∈ u_ws RX2 TX2 7, w ∈ wsX11_firstPrinting := zin q_wsX11_firstPrinting q_wsX20 k_wsX11_firstPrinting k_wsX20 (by decide +kernel)
theorem zl_X11_firstPrinting_X3 : ∀ w ∈ u_ws RX3 TX3 8, w ∈ wsX11_firstPrinting := zin q_wsX11_firstPrinting q_wsX30 k_wsX11_firstPrinting k_wsX30 (by decide +kernel)
theorem zl_X11_firstPrinting_X5 : ∀ w ∈ u_ws RX5 TX5 7, w ∈ wsX11_firstPrinting := zin q_wsX11_firstPrinting q_wsX50 k_wsX11_firstPrinting k_wsX50 (by decide +kernel)
theorem zl_X11_firstPrinting_X6 : ∀ w ∈ u_ws RX6 TX6 9, w ∈ wsX11_firstPrinting := zin q_wsX11_firstPrinting q_wsX60 k_wsX11_firstPrinting k_wsX60 (by decide +kernel)
theorem zl_X11_firstPrinting_X7 : ∀ w ∈ u_ws RX7 TX7 8, w ∈ wsX11_firstPrinting := zin q_wsX11_firstPrinting q_wsX70 k_wsX11_firstPrinting k_wsX70 (by decide +kernel)
theorem zl_X11_firstPrinting_X10 : ∀ w ∈ u_ws RX10 TX10 9, w ∈ wsX11_firstPrinting := zin q_wsX11_firstPrinting q_wsX100 k_wsX11_firstPrinting k_wsX100 (by decide +kernel)
theorem zl_X11_item_X2 : ∀ w ∈ u_ws RX2 TX2 7, w ∈ wsX11_item := zin q_wsX11_item q_wsX20 k_wsX11_item k_wsX20 (by decide +kernel)
theorem zl_X11_item_X3 : ∀ w ∈ u_ws RX3 TX3 8, w ∈ wsX11_item := zin q_wsX11_item q_wsX30 k_wsX11_item k_wsX30 (by decide +kernel)
theorem zl_X11_item_X5 : ∀ w ∈ u_ws RX5 TX5 7, w ∈ wsX11_item := zin q_wsX11_item q_wsX50 k_wsX11_item k_wsX50 (by decide +kernel)
theorem zl_X11_item_X6 : ∀ w ∈ u_ws RX6 TX6 9, w ∈ wsX11_item := zin q_wsX11_item q_wsX60 k_wsX11_item k_wsX60 (by decide +kernel)
theorem zl_X11_item_X7 : ∀ w ∈ u_ws RX7 TX7 8, w ∈ wsX11_item := zin q_wsX11_item q_wsX70 k_wsX11_item k_wsX70 (by decide +kernel)
theorem zl_X11_item_X10 : ∀ w ∈ u_ws RX10 TX10 9, w ∈ wsX11_item := zin q_wsX11_item q_wsX100 k_wsX11_item k_wsX100 (by decide +kernel)
theorem zl_X11_piece_X2 : ∀ w ∈ u_ws RX2 TX2 7, w ∈ wsX11_piece := zin q_wsX11_piece q_wsX20 k_wsX11_piece k_wsX20 (by decide +kernel)
theorem zl_X11_piece_X3 : ∀ w ∈ u_ws RX3 TX3 8, w ∈ wsX11_piece := zin q_wsX11_piece q_wsX30 k_wsX11_piece k_wsX30 (by decide +kernel)
theorem zl_X11_piece_X5 : ∀ w ∈ u_ws RX5 TX5 7, w ∈ wsX11_piece := zin q_wsX11_piece q_wsX50 k_wsX11_piece k_wsX50 (by decide +kernel)
theorem zl_X11_piece_X6 : ∀ w ∈ u_ws RX6 TX6 9, w ∈ wsX11_piece := zin q_wsX11_piece q_wsX60 k_wsX11_piece k_wsX60 (by decide +kernel)
theorem zl_X11_piece_X7 : ∀ w ∈ u_ws RX7 TX7 8, w ∈ wsX11_piece := zin q_wsX11_piece q_wsX70 k_wsX11_piece k_wsX70 (by decide +kernel)
theorem zl_X11_piece_X10 : ∀ w ∈ u_ws RX10 TX10 9, w ∈ wsX11_piece := zin q_wsX11_piece q_wsX100 k_wsX11_piece k_wsX100 (by decide +kernel)
theorem zl_X11_piece_X8 : ∀ w ∈ u_ws RX8 TX8 6, w ∈ wsX11_piece := zin q_wsX11_piece q_wsX80 k_wsX11_piece k_wsX80 (by decide +kernel)
theorem zl_X11_bill_X11 : ∀ w ∈ u_ws RX11 TX11 9, w ∈ wsX11_bill := zin q_wsX11_bill q_wsX110 k_wsX11_bill k_wsX110 (by decide +kernel)
theorem zl_X11_bill_X6 : ∀ w ∈ u_ws RX6 TX6 9, w ∈ wsX11_bill := zin q_wsX11_bill q_wsX60 k_wsX11_bill k_wsX60 (by decide +kernel)
theorem zl_X11_standsOverStory_X8 : ∀ w ∈ u_ws RX8 TX8 6, w ∈ wsX11_standsOverStory := zin q_wsX11_standsOverStory q_wsX80 k_wsX11_standsOverStory k_wsX80 (by decide +kernel)
theorem zl_X11_standsOverStory_X11 : ∀ w ∈ u_ws RX11 TX11 9, w ∈ wsX11_standsOverStory := zin q_wsX11_standsOverStory q_wsX110 k_wsX11_standsOverStory k_wsX110 (by decide +kernel)
theorem zl_X11_standsOverStory_X3 : ∀ w ∈ u_ws RX3 TX3 8, w ∈ wsX11_standsOverStory := zin q_wsX11_standsOverStory q_wsX30 k_wsX11_standsOverStory k_wsX30 (by decide +kernel)
theorem zl_X11_standsOverStory_X10 : ∀ w ∈ u_ws RX10 TX10 9, w ∈ wsX11_standsOverStory := zin q_wsX11_standsOverStory q_wsX100 k_wsX11_standsOverStory k_wsX100 (by decide +kernel)
theorem zl_X11_failsAlone_X10 : ∀ w ∈ u_ws RX10 TX10 9, w ∈ wsX11_failsAlone := zin q_wsX11_failsAlone q_wsX100 k_wsX11_failsAlone k_wsX100 (by decide +kernel)
theorem zl_X8_init_X8 : ∀ w ∈ u_ws RX8 TX8 6, w ∈ wsX8_init := zin q_wsX8_init q_wsX80 k_wsX8_init k_wsX80 (by decide +kernel)
theorem zl_X1_init_X1 : ∀ w ∈ u_ws RX1 TX1 3, w ∈ wsX1_init := zin q_wsX1_init q_wsX10 k_wsX1_init k_wsX10 (by decide +kernel)
theorem zl_X0_init_X0 : ∀ w ∈ u_ws RX0 TX0 4, w ∈ wsX0_init := zin q_wsX0_init q_wsX00 k_wsX0_init k_wsX00 (by decide +kernel)
theorem zl_X11_lift_X0 : ∀ w ∈ u_ws RX0 TX0 4, w ∈ wsX11_lift := zin q_wsX11_lift q_wsX00 k_wsX11_lift k_wsX00 (by decide +kernel)
theorem zl_X11_lift_X2 : ∀ w ∈ u_ws RX2 TX2 7, w ∈ wsX11_lift := zin q_wsX11_lift q_wsX20 k_wsX11_lift k_wsX20 (by decide +kernel)
theorem zl_X11_lift_X3 : ∀ w ∈ u_ws RX3 TX3 8, w ∈ wsX11_lift := zin q_wsX11_lift q_wsX30 k_wsX11_lift k_wsX30 (by decide +kernel)
theorem zl_X11_lift_X5 : ∀ w ∈ u_ws RX5 TX5 7, w ∈ wsX11_lift := zin q_wsX11_lift q_wsX50 k_wsX11_lift k_wsX50 (by decide +kernel)
theorem zl_X11_lift_X6 : ∀ w ∈ u_ws RX6 TX6 9, w ∈ wsX11_lift := zin q_wsX11_lift q_wsX60 k_wsX11_lift k_wsX60 (by decide +kernel)
theorem zl_X11_lift_X7 : ∀ w ∈ u_ws RX7 TX7 8, w ∈ wsX11_lift := zin q_wsX11_lift q_wsX70 k_wsX11_lift k_wsX70 (by decide +kernel)
theorem zl_X11_lift_X10 : ∀ w ∈ u_ws RX10 TX10 9, w ∈ wsX11_lift := zin q_wsX11_lift q_wsX100 k_wsX11_lift k_wsX100 (by decide +kernel)
theorem zl_X11_rule_X8 : ∀ w ∈ u_ws RX8 TX8 6, w ∈ wsX11_rule := zin q_wsX11_rule q_wsX80 k_wsX11_rule k_wsX80 (by decide +kernel)
theorem zl_X11_rule_X11 : ∀ w ∈ u_ws RX11 TX11 9, w ∈ wsX11_rule := zin q_wsX11_rule q_wsX110 k_wsX11_rule k_wsX110 (by decide +kernel)
theorem zl_X11_rule_X0 : ∀ w ∈ u_ws RX0 TX0 4, w ∈ wsX11_rule := zin q_wsX11_rule q_wsX00 k_wsX11_rule k_wsX00 (by decide +kernel)
theorem zl_X11_put_X8 : ∀ w ∈ u_ws RX8 TX8 6, w ∈ wsX11_put := zin q_wsX11_put q_wsX80 k_wsX11_put k_wsX80 (by decide +kernel)
theorem zl_X11_put_X11 : ∀ w ∈ u_ws RX11 TX11 9, w ∈ wsX11_put := zin q_wsX11_put q_wsX110 k_wsX11_put k_wsX110 (by decide +kernel)
theorem zl_X11_put_X9 : ∀ w ∈ u_ws RX9 TX9 5, w ∈ wsX11_put := zin q_wsX11_put q_wsX90 k_wsX11_put k_wsX90 (by decide +kernel)
theorem zl_X11_put_X0 : ∀ w ∈ u_ws RX0 TX0 4, w ∈ wsX11_put := zin q_wsX11_put q_wsX00 k_wsX11_put k_wsX00 (by decide +kernel)
theorem zl_X11_put_X2 : ∀ w ∈ u_ws RX2 TX2 7, w ∈ wsX11_put := zin q_wsX11_put q_wsX20 k_wsX11_put k_wsX20 (by decide +kernel)
theorem zl_X11_put_X3 : ∀ w ∈ u_ws RX3 TX3 8, w ∈ wsX11_put := zin q_wsX11_put q_wsX30 k_wsX11_put k_wsX30 (by decide +kernel)
theorem zl_X11_put_X5 : ∀ w ∈ u_ws RX5 TX5 7, w ∈ wsX11_put := zin q_wsX11_put q_wsX50 k_wsX11_put k_wsX50 (by decide +kernel)
theorem zl_X11_put_X6 : ∀ w ∈ u_ws RX6 TX6 9, w ∈ wsX11_put := zin q_wsX11_put q_wsX60 k_wsX11_put k_wsX60 (by decide +kernel)
theorem zl_X11_put_X7 : ∀ w ∈ u_ws RX7 TX7 8, w ∈ wsX11_put := zin q_wsX11_put q_wsX70 k_wsX11_put k_wsX70 (by decide +kernel)
theorem zl_X11_put_X10 : ∀ w ∈ u_ws RX10 TX10 9, w ∈ wsX11_put := zin q_wsX11_put q_wsX100 k_wsX11_put k_wsX100 (by decide +kernel)
theorem zl_X9_init_X9 : ∀ w ∈ u_ws RX9 TX9 5, w ∈ wsX9_init := zin q_wsX9_init q_wsX90 k_wsX9_init k_wsX90 (by decide +kernel)
theorem zl_X4_init_X10 : ∀ w ∈ u_ws RX10 TX10 9, w ∈ wsX4_init := zin q_wsX4_init q_wsX100 k_wsX4_init k_wsX100 (by decide +kernel)
theorem zl_X4_init_X3 : ∀ w ∈ u_ws RX3 TX3 8, w ∈ wsX4_init := zin q_wsX4_init q_wsX30 k_wsX4_init k_wsX30 (by decide +kernel)
theorem zl_X4_init_X7 : ∀ w ∈ u_ws RX7 TX7 8, w ∈ wsX4_init := zin q_wsX4_init q_wsX70 k_wsX4_init k_wsX70 (by decide +kernel)
theorem zl_X4_init_X6 : ∀ w ∈ u_ws RX6 TX6 9, w ∈ wsX4_init := zin q_wsX4_init q_wsX60 k_wsX4_init k_wsX60 (by decide +kernel)
theorem zl_X4_init_X2 : ∀ w ∈ u_ws RX2 TX2 7, w ∈ wsX4_init := zin q_wsX4_init q_wsX20 k_wsX4_init k_wsX20 (by decide +kernel)
theorem zl_X4_init_X5 : ∀ w ∈ u_ws RX5 TX5 7, w ∈ wsX4_init := zin q_wsX4_init q_wsX50 k_wsX4_init k_wsX50 (by decide +kernel)
theorem zl_X10_init_X10 : ∀ w ∈ u_ws RX10 TX10 9, w ∈ wsX10_init := zin q_wsX10_init q_wsX100 k_wsX10_init k_wsX100 (by decide +kernel)
theorem zl_X3_init_X3 : ∀ w ∈ u_ws RX3 TX3 8, w ∈ wsX3_init := zin q_wsX3_init q_wsX30 k_wsX3_init k_wsX30 (by decide +kernel)
theorem zl_X7_init_X7 : ∀ w ∈ u_ws RX7 TX7 8, w ∈ wsX7_init := zin q_wsX7_init q_wsX70 k_wsX7_init k_wsX70 (by decide +kernel)
theorem zl_X6_init_X6 : ∀ w ∈ u_ws RX6 TX6 9, w ∈ wsX6_init := zin q_wsX6_init q_wsX60 k_wsX6_init k_wsX60 (by decide +kernel)
theorem zl_X2_init_X2 : ∀ w ∈ u_ws RX2 TX2 7, w ∈ wsX2_init := zin q_wsX2_init q_wsX20 k_wsX2_init k_wsX20 (by decide +kernel)
theorem zl_X5_init_X5 : ∀ w ∈ u_ws RX5 TX5 7, w ∈ wsX5_init := zin q_wsX5_init q_wsX50 k_wsX5_init k_wsX50 (by decide +kernel)
theorem zl_X11_enter_X11 : ∀ w ∈ u_ws RX11 TX11 9, w ∈ wsX11_enter := zin q_wsX11_enter q_wsX110 k_wsX11_enter k_wsX110 (by decide +kernel)
theorem zl_X11_enter_X2 : ∀ w ∈ u_ws RX2 TX2 7, w ∈ wsX11_enter := zin q_wsX11_enter q_wsX20 k_wsX11_enter k_wsX20 (by decide +kernel)
theorem zl_X11_enter_X3 : ∀ w ∈ u_ws RX3 TX3 8, w ∈ wsX11_enter := zin q_wsX11_enter q_wsX30 k_wsX11_enter k_wsX30 (by decide +kernel)
theorem zl_X11_enter_X5 : ∀ w ∈ u_ws RX5 TX5 7, w ∈ wsX11_enter := zin q_wsX11_enter q_wsX50 k_wsX11_enter k_wsX50 (by decide +kernel)
theorem zl_X11_enter_X6 : ∀ w ∈ u_ws RX6 TX6 9, w ∈ wsX11_enter := zin q_wsX11_enter q_wsX60 k_wsX11_enter k_wsX60 (by decide +kernel)
theorem zl_X11_enter_X7 : ∀ w ∈ u_ws RX7 TX7 8, w ∈ wsX11_enter := zin q_wsX11_enter q_wsX70 k_wsX11_enter k_wsX70 (by decide +kernel)
theorem zl_X11_enter_X10 : ∀ w ∈ u_ws RX10 TX10 9, w ∈ wsX11_enter := zin q_wsX11_enter q_wsX100 k_wsX11_enter k_wsX100 (by decide +kernel)
theorem zl_X11_story_X10 : ∀ w ∈ u_ws RX10 TX10 9, w ∈ wsX11_story := zin q_wsX11_story q_wsX100 k_wsX11_story k_wsX100 (by decide +kernel)
theorem zl_X11_story_X11 : ∀ w ∈ u_ws RX11 TX11 9, w ∈ wsX11_story := zin q_wsX11_story q_wsX110 k_wsX11_story k_wsX110 (by decide +kernel)
theorem zl_X11_picture_X7 : ∀ w ∈ u_ws RX7 TX7 8, w ∈ wsX11_picture := zin q_wsX11_picture q_wsX70 k_wsX11_picture k_wsX70 (by decide +kernel)
theorem zl_X11_picture_X11 : ∀ w ∈ u_ws RX11 TX11 9, w ∈ wsX11_picture := zin q_wsX11_picture q_wsX110 k_wsX11_picture k_wsX110 (by decide +kernel)
theorem zl_X11_filler_X2 : ∀ w ∈ u_ws RX2 TX2 7, w ∈ wsX11_filler := zin q_wsX11_filler q_wsX20 k_wsX11_filler k_wsX20 (by decide +kernel)
theorem zl_X11_filler_X11 : ∀ w ∈ u_ws RX11 TX11 9, w ∈ wsX11_filler := zin q_wsX11_filler q_wsX110 k_wsX11_filler k_wsX110 (by decide +kernel)
theorem zl_X11_head_X3 : ∀ w ∈ u_ws RX3 TX3 8, w ∈ wsX11_head := zin q_wsX11_head q_wsX30 k_wsX11_head k_wsX30 (by decide +kernel)
theorem zl_X11_head_X11 : ∀ w ∈ u_ws RX11 TX11 9, w ∈ wsX11_head := zin q_wsX11_head q_wsX110 k_wsX11_head k_wsX110 (by decide +kernel)
theorem zl_X11_notice_X5 : ∀ w ∈ u_ws RX5 TX5 7, w ∈ wsX11_notice := zin q_wsX11_notice q_wsX50 k_wsX11_notice k_wsX50 (by decide +kernel)
theorem zl_X11_notice_X11 : ∀ w ∈ u_ws RX11 TX11 9, w ∈ wsX11_notice := zin q_wsX11_notice q_wsX110 k_wsX11_notice k_wsX110 (by decide +kernel)
theorem zl_X11_plateOf_X11 : ∀ w ∈ u_ws RX11 TX11 9, w ∈ wsX11_plateOf := zin q_wsX11_plateOf q_wsX110 k_wsX11_plateOf k_wsX110 (by decide +kernel)
theorem zl_X11_plateOf_X9 : ∀ w ∈ u_ws RX9 TX9 5, w ∈ wsX11_plateOf := zin q_wsX11_plateOf q_wsX90 k_wsX11_plateOf k_wsX90 (by decide +kernel)
theorem zl_X11_fillerFor_X11 : ∀ w ∈ u_ws RX11 TX11 9, w ∈ wsX11_fillerFor := zin q_wsX11_fillerFor q_wsX110 k_wsX11_fillerFor k_wsX110 (by decide +kernel)
theorem zl_X11_fillerFor_X2 : ∀ w ∈ u_ws RX2 TX2 7, w ∈ wsX11_fillerFor := zin q_wsX11_fillerFor q_wsX20 k_wsX11_fillerFor k_wsX20 (by decide +kernel)
theorem zl_X11_paid_X6 : ∀ w ∈ u_ws RX6 TX6 9, w ∈ wsX11_paid := zin q_wsX11_paid q_wsX60 k_wsX11_paid k_wsX60 (by decide +kernel)
theorem zl_X11_paid_X11 : ∀ w ∈ u_ws RX11 TX11 9, w ∈ wsX11_paid := zin q_wsX11_paid q_wsX110 k_wsX11_paid k_wsX110 (by decide +kernel)
theorem zl_X11_paid_X8 : ∀ w ∈ u_ws RX8 TX8 6, w ∈ wsX11_paid := zin q_wsX11_paid q_wsX80 k_wsX11_paid k_wsX80 (by decide +kernel)
theorem zl_X11_leastPair_X11 : ∀ w ∈ u_ws RX11 TX11 9, w ∈ wsX11_leastPair := zin q_wsX11_leastPair q_wsX110 k_wsX11_leastPair k_wsX110 (by decide +kernel)
theorem zl_X11_leastPair_X1 : ∀ w ∈ u_ws RX1 TX1 3, w ∈ wsX11_leastPair := zin q_wsX11_leastPair q_wsX10 k_wsX11_leastPair k_wsX10 (by decide +kernel)
theorem zl_X11_breachOn_X11 : ∀ w ∈ u_ws RX11 TX11 9, w ∈ wsX11_breachOn := zin q_wsX11_breachOn q_wsX110 k_wsX11_breachOn k_wsX110 (by decide +kernel)
theorem zl_X11_breachOn_X1 : ∀ w ∈ u_ws RX1 TX1 3, w ∈ wsX11_breachOn := zin q_wsX11_breachOn q_wsX10 k_wsX11_breachOn k_wsX10 (by decide +kernel)
theorem zl_X11_broken_X1 : ∀ w ∈ u_ws RX1 TX1 3, w ∈ wsX11_broken := zin q_wsX11_broken q_wsX10 k_wsX11_broken k_wsX10 (by decide +kernel)
theorem zl_X11_plate_X11 : ∀ w ∈ u_ws RX11 TX11 9, w ∈ wsX11_plate := zin q_wsX11_plate q_wsX110 k_wsX11_plate k_wsX110 (by decide +kernel)
theorem zl_X11_plate_X1 : ∀ w ∈ u_ws RX1 TX1 3, w ∈ wsX11_plate := zin q_wsX11_plate q_wsX10 k_wsX11_plate k_wsX10 (by decide +kernel)
theorem zl_X11_plate_X9 : ∀ w ∈ u_ws RX9 TX9 5, w ∈ wsX11_plate := zin q_wsX11_plate q_wsX90 k_wsX11_plate k_wsX90 (by decide +kernel)
theorem zl_X11_fillColumn_X9 : ∀ w ∈ u_ws RX9 TX9 5, w ∈ wsX11_fillColumn := zin q_wsX11_fillColumn q_wsX90 k_wsX11_fillColumn k_wsX90 (by decide +kernel)
theorem zl_X11_fillColumn_X8 : ∀ w ∈ u_ws RX8 TX8 6, w ∈ wsX11_fillColumn := zin q_wsX11_fillColumn q_wsX80 k_wsX11_fillColumn k_wsX80 (by decide +kernel)
theorem zl_X11_fillColumn_X0 : ∀ w ∈ u_ws RX0 TX0 4, w ∈ wsX11_fillColumn := zin q_wsX11_fillColumn q_wsX00 k_wsX11_fillColumn k_wsX00 (by decide +kernel)
theorem zl_X11_fillColumn_X11 : ∀ w ∈ u_ws RX11 TX11 9, w ∈ wsX11_fillColumn := zin q_wsX11_fillColumn q_wsX110 k_wsX11_fillColumn k_wsX110 (by decide +kernel)
theorem zl_X11_fill_X0 : ∀ w ∈ u_ws RX0 TX0 4, w ∈ wsX11_fill := zin q_wsX11_fill q_wsX00 k_wsX11_fill k_wsX00 (by decide +kernel)
theorem zl_X11_init_X11 : ∀ w ∈ u_ws RX11 TX11 9, w ∈ wsX11_init := zin q_wsX11_init q_wsX110 k_wsX11_init k_wsX110 (by decide +kernel)
theorem zl_X11_init_X9 : ∀ w ∈ u_ws RX9 TX9 5, w ∈ wsX11_init := zin q_wsX11_init q_wsX90 k_wsX11_init k_wsX90 (by decide +kernel)
theorem zl_X12_init_X12 : ∀ w ∈ u_ws RX12 TX12 52, w ∈ wsX12_init := zin q_wsX12_init q_wsX120 k_wsX12_init k_wsX120 (by decide +kernel)
theorem zl_X11_standsOverStory_X2 : ∀ w ∈ u_ws RX2 TX2 7, w ∈ wsX11_standsOverStory := zin q_wsX11_standsOverStory q_wsX20 k_wsX11_standsOverStory k_wsX20 (by decide +kernel)
theorem zl_X11_standsOverStory_X5 : ∀ w ∈ u_ws RX5 TX5 7, w ∈ wsX11_standsOverStory := zin q_wsX11_standsOverStory q_wsX50 k_wsX11_standsOverStory k_wsX50 (by decide +kernel)
theorem zl_X11_standsOverStory_X6 : ∀ w ∈ u_ws RX6 TX6 9, w ∈ wsX11_standsOverStory := zin q_wsX11_standsOverStory q_wsX60 k_wsX11_standsOverStory k_wsX60 (by decide +kernel)
theorem zl_X11_standsOverStory_X7 : ∀ w ∈ u_ws RX7 TX7 8, w ∈ wsX11_standsOverStory := zin q_wsX11_standsOverStory q_wsX70 k_wsX11_standsOverStory k_wsX70 (by decide +kernel)
theorem zh_X12_in_0 : yX12_in.cls ≠ "java/lang/invoke/MethodHandle" ∧ yX12_in.cls ≠ "java/lang/invoke/VarHandle" ∧ (parseMethodDescriptor yX12_in.desc).map (fun d => d.parameters.length) = some 3 := by decide +kernel
theorem zh_X12_isItem_1 : yX12_isItem.cls = RX12 ∧ yX12_isItem.cls ≠ "java/lang/invoke/MethodHandle" ∧ yX12_isItem.cls ≠ "java/lang/invoke/VarHandle" ∧ (parseMethodDescriptor yX12_isItem.desc).map (fun d => d.parameters.length) = some 1 := by decide +kernel
theorem zh_X12_made_2 : yX12_made.cls = RX12 ∧ yX12_made.cls ≠ "java/lang/invoke/MethodHandle" ∧ yX12_made.cls ≠ "java/lang/invoke/VarHandle" ∧ (parseMethodDescriptor yX12_made.desc).map (fun d => d.parameters.length) = some 1 := by decide +kernel
theorem zh_X12_isKind_3 : yX12_isKind.cls = RX12 ∧ yX12_isKind.cls ≠ "java/lang/invoke/MethodHandle" ∧ yX12_isKind.cls ≠ "java/lang/invoke/VarHandle" ∧ (parseMethodDescriptor yX12_isKind.desc).map (fun d => d.parameters.length) = some 2 := by decide +kernel
theorem zh_X12_isPage_4 : yX12_isPage.cls ≠ "java/lang/invoke/MethodHandle" ∧ yX12_isPage.cls ≠ "java/lang/invoke/VarHandle" ∧ (parseMethodDescriptor yX12_isPage.desc).map (fun d => d.parameters.length) = some 1 := by decide +kernel
theorem zh_X12_isBuyer_5 : yX12_isBuyer.cls ≠ "java/lang/invoke/MethodHandle" ∧ yX12_isBuyer.cls ≠ "java/lang/invoke/VarHandle" ∧ (parseMethodDescriptor yX12_isBuyer.desc).map (fun d => d.parameters.length) = some 1 := by decide +kernel
theorem zh_X12_takes_6 : yX12_takes.cls = RX12 ∧ yX12_takes.cls ≠ "java/lang/invoke/MethodHandle" ∧ yX12_takes.cls ≠ "java/lang/invoke/VarHandle" ∧ (parseMethodDescriptor yX12_takes.desc).map (fun d => d.parameters.length) = some 2 := by decide +kernel
theorem zh_X12_at_7 : yX12_at.cls ≠ "java/lang/invoke/MethodHandle" ∧ yX12_at.cls ≠ "java/lang/invoke/VarHandle" ∧ (parseMethodDescriptor yX12_at.desc).map (fun d => d.parameters.length) = some 3 := by decide +kernel
theorem zh_X12_sets_8 : yX12_sets.cls = RX12 ∧ yX12_sets.cls ≠ "java/lang/invoke/MethodHandle" ∧ yX12_sets.cls ≠ "java/lang/invoke/VarHandle" ∧ (parseMethodDescriptor yX12_sets.desc).map (fun d => d.parameters.length) = some 6 := by decide +kernel
theorem zh_X12_isCell_9 : yX12_isCell.cls = RX12 ∧ yX12_isCell.cls ≠ "java/lang/invoke/MethodHandle" ∧ yX12_isCell.cls ≠ "java/lang/invoke/VarHandle" ∧ (parseMethodDescriptor yX12_isCell.desc).map (fun d => d.parameters.length) = some 3 := by decide +kernel
theorem zh_X12_acts_10 : yX12_acts.cls = RX12 ∧ yX12_acts.cls ≠ "java/lang/invoke/MethodHandle" ∧ yX12_acts.cls ≠ "java/lang/invoke/VarHandle" ∧ (parseMethodDescriptor yX12_acts.desc).map (fun d => d.parameters.length) = some 7 := by decide +kernel
theorem zh_X12_hasPiece_11 : yX12_hasPiece.cls = RX12 ∧ yX12_hasPiece.cls ≠ "java/lang/invoke/MethodHandle" ∧ yX12_hasPiece.cls ≠ "java/lang/invoke/VarHandle" ∧ (parseMethodDescriptor yX12_hasPiece.desc).map (fun d => d.parameters.length) = some 1 := by decide +kernel
theorem zh_X12_from_12 : yX12_from.cls = RX12 ∧ yX12_from.cls ≠ "java/lang/invoke/MethodHandle" ∧ yX12_from.cls ≠ "java/lang/invoke/VarHandle" ∧ (parseMethodDescriptor yX12_from.desc).map (fun d => d.parameters.length) = some 2 := by decide +kernel
theorem zh_X12_standing_13 : yX12_standing.cls = RX12 ∧ yX12_standing.cls ≠ "java/lang/invoke/MethodHandle" ∧ yX12_standing.cls ≠ "java/lang/invoke/VarHandle" ∧ (parseMethodDescriptor yX12_standing.desc).map (fun d => d.parameters.length) = some 1 := by decide +kernel
theorem zh_X12_unstand_14 : yX12_unstand.cls = RX12 ∧ yX12_unstand.cls ≠ "java/lang/invoke/MethodHandle" ∧ yX12_unstand.cls ≠ "java/lang/invoke/VarHandle" ∧ (parseMethodDescriptor yX12_unstand.desc).map (fun d => d.parameters.length) = some 1 := by decide +kernel
theorem zh_X12_isNow_15 : yX12_isNow.cls = RX12 ∧ yX12_isNow.cls ≠ "java/lang/invoke/MethodHandle" ∧ yX12_isNow.cls ≠ "java/lang/invoke/VarHandle" ∧ (parseMethodDescriptor yX12_isNow.desc).map (fun d => d.parameters.length) = some 1 := by decide +kernel
theorem zh_X12_ends_16 : yX12_ends.cls = RX12 ∧ yX12_ends.cls ≠ "java/lang/invoke/MethodHandle" ∧ yX12_ends.cls ≠ "java/lang/invoke/VarHandle" ∧ (parseMethodDescriptor yX12_ends.desc).map (fun d => d.parameters.length) = some 0 := by decide +kernel
theorem zh_X12_forget_17 : yX12_forget.cls = RX12 ∧ yX12_forget.cls ≠ "java/lang/invoke/MethodHandle" ∧ yX12_forget.cls ≠ "java/lang/invoke/VarHandle" ∧ (parseMethodDescriptor yX12_forget.desc).map (fun d => d.parameters.length) = some 0 := by decide +kernel
theorem zh_X12_printed_18 : yX12_printed.cls = RX12 ∧ yX12_printed.cls ≠ "java/lang/invoke/MethodHandle" ∧ yX12_printed.cls ≠ "java/lang/invoke/VarHandle" ∧ (parseMethodDescriptor yX12_printed.desc).map (fun d => d.parameters.length) = some 2 := by decide +kernel
theorem zh_X12_wasPrintedAhead_19 : yX12_wasPrintedAhead.cls = RX12 ∧ yX12_wasPrintedAhead.cls ≠ "java/lang/invoke/MethodHandle" ∧ yX12_wasPrintedAhead.cls ≠ "java/lang/invoke/VarHandle" ∧ (parseMethodDescriptor yX12_wasPrintedAhead.desc).map (fun d => d.parameters.length) = some 1 := by decide +kernel
theorem zh_X12_isThing_20 : yX12_isThing.cls = RX12 ∧ yX12_isThing.cls ≠ "java/lang/invoke/MethodHandle" ∧ yX12_isThing.cls ≠ "java/lang/invoke/VarHandle" ∧ (parseMethodDescriptor yX12_isThing.desc).map (fun d => d.parameters.length) = some 1 := by decide +kernel
theorem zh_X12_wrongs_21 : yX12_wrongs.cls = RX12 ∧ yX12_wrongs.cls ≠ "java/lang/invoke/MethodHandle" ∧ yX12_wrongs.cls ≠ "java/lang/invoke/VarHandle" ∧ (parseMethodDescriptor yX12_wrongs.desc).map (fun d => d.parameters.length) = some 3 := by decide +kernel
theorem zh_X12_beside_22 : yX12_beside.cls = RX12 ∧ yX12_beside.cls ≠ "java/lang/invoke/MethodHandle" ∧ yX12_beside.cls ≠ "java/lang/invoke/VarHandle" ∧ (parseMethodDescriptor yX12_beside.desc).map (fun d => d.parameters.length) = some 3 := by decide +kernel
theorem zh_X12_hasStory_23 : yX12_hasStory.cls = RX12 ∧ yX12_hasStory.cls ≠ "java/lang/invoke/MethodHandle" ∧ yX12_hasStory.cls ≠ "java/lang/invoke/VarHandle" ∧ (parseMethodDescriptor yX12_hasStory.desc).map (fun d => d.parameters.length) = some 1 := by decide +kernel
theorem zh_X12_breaks_24 : yX12_breaks.cls = RX12 ∧ yX12_breaks.cls ≠ "java/lang/invoke/MethodHandle" ∧ yX12_breaks.cls ≠ "java/lang/invoke/VarHandle" ∧ (parseMethodDescriptor yX12_breaks.desc).map (fun d => d.parameters.length) = some 1 := by decide +kernel
theorem zh_X12_stand_25 : yX12_stand.cls = RX12 ∧ yX12_stand.cls ≠ "java/lang/invoke/MethodHandle" ∧ yX12_stand.cls ≠ "java/lang/invoke/VarHandle" ∧ (parseMethodDescriptor yX12_stand.desc).map (fun d => d.parameters.length) = some 6 := by decide +kernel
theorem zh_X12_mayRun_26 : yX12_mayRun.cls = RX12 ∧ yX12_mayRun.cls ≠ "java/lang/invoke/MethodHandle" ∧ yX12_mayRun.cls ≠ "java/lang/invoke/VarHandle" ∧ (parseMethodDescriptor yX12_mayRun.desc).map (fun d => d.parameters.length) = some 5 := by decide +kernel
theorem zh_X12_mayMend_27 : yX12_mayMend.cls = RX12 ∧ yX12_mayMend.cls ≠ "java/lang/invoke/MethodHandle" ∧ yX12_mayMend.cls ≠ "java/lang/invoke/VarHandle" ∧ (parseMethodDescriptor yX12_mayMend.desc).map (fun d => d.parameters.length) = some 3 := by decide +kernel
theorem zh_X12_isFree_28 : yX12_isFree.cls = RX12 ∧ yX12_isFree.cls ≠ "java/lang/invoke/MethodHandle" ∧ yX12_isFree.cls ≠ "java/lang/invoke/VarHandle" ∧ (parseMethodDescriptor yX12_isFree.desc).map (fun d => d.parameters.length) = some 5 := by decide +kernel
theorem zh_X12_fillerFor_29 : yX12_fillerFor.cls = RX12 ∧ yX12_fillerFor.cls ≠ "java/lang/invoke/MethodHandle" ∧ yX12_fillerFor.cls ≠ "java/lang/invoke/VarHandle" ∧ (parseMethodDescriptor yX12_fillerFor.desc).map (fun d => d.parameters.length) = some 1 := by decide +kernel
theorem zh_X11_isWithin_30 : yX11_isWithin.cls ≠ "java/lang/invoke/MethodHandle" ∧ yX11_isWithin.cls ≠ "java/lang/invoke/VarHandle" ∧ (parseMethodDescriptor yX11_isWithin.desc).map (fun d => d.parameters.length) = some 3 := by decide +kernel
theorem zh_X9_at_31 : yX9_at.cls = RX9 ∧ yX9_at.cls ≠ "java/lang/invoke/MethodHandle" ∧ yX9_at.cls ≠ "java/lang/invoke/VarHandle" ∧ (parseMethodDescriptor yX9_at.desc).map (fun d => d.parameters.length) = some 2 := by decide +kernel
theorem zh_X9_emptyIn_32 : yX9_emptyIn.cls = RX9 ∧ yX9_emptyIn.cls ≠ "java/lang/invoke/MethodHandle" ∧ yX9_emptyIn.cls ≠ "java/lang/invoke/VarHandle" ∧ (parseMethodDescriptor yX9_emptyIn.desc).map (fun d => d.parameters.length) = some 1 := by decide +kernel
theorem zu_33 : "PageOne$Item" ≠ "java/lang/invoke/MethodHandle" ∧ "PageOne$Item" ≠ "java/lang/invoke/VarHandle" ∧ (parseMethodDescriptor "()Z").map (fun d => d.parameters.length) = some 0 := by decide +kernel
theorem zh_X8_isBeside_34 : yX8_isBeside.cls = RX8 ∧ yX8_isBeside.cls ≠ "java/lang/invoke/MethodHandle" ∧ yX8_isBeside.cls ≠ "java/lang/invoke/VarHandle" ∧ (parseMethodDescriptor yX8_isBeside.desc).map (fun d => d.parameters.length) = some 1 := by decide +kernel
theorem zh_X8_isOverOrUnder_35 : yX8_isOverOrUnder.cls = RX8 ∧ yX8_isOverOrUnder.cls ≠ "java/lang/invoke/MethodHandle" ∧ yX8_isOverOrUnder.cls ≠ "java/lang/invoke/VarHandle" ∧ (parseMethodDescriptor yX8_isOverOrUnder.desc).map (fun d => d.parameters.length) = some 1 := by decide +kernel
theorem zu_36 : "PageOne$Item" ≠ "java/lang/invoke/MethodHandle" ∧ "PageOne$Item" ≠ "java/lang/invoke/VarHandle" ∧ (parseMethodDescriptor "(LPageOne$Piece;Z)Z").map (fun d => d.parameters.length) = some 2 := by decide +kernel
theorem zh_X8_startsWith_37 : yX8_startsWith.cls = RX8 ∧ yX8_startsWith.cls ≠ "java/lang/invoke/MethodHandle" ∧ yX8_startsWith.cls ≠ "java/lang/invoke/VarHandle" ∧ (parseMethodDescriptor yX8_startsWith.desc).map (fun d => d.parameters.length) = some 1 := by decide +kernel
theorem zh_X10_takenBy_38 : yX10_takenBy.cls = RX10 ∧ yX10_takenBy.cls ≠ "java/lang/invoke/MethodHandle" ∧ yX10_takenBy.cls ≠ "java/lang/invoke/VarHandle" ∧ (parseMethodDescriptor yX10_takenBy.desc).map (fun d => d.parameters.length) = some 1 := by decide +kernel
theorem zh_X10_takenBefore_39 : yX10_takenBefore.cls = RX10 ∧ yX10_takenBefore.cls ≠ "java/lang/invoke/MethodHandle" ∧ yX10_takenBefore.cls ≠ "java/lang/invoke/VarHandle" ∧ (parseMethodDescriptor yX10_takenBefore.desc).map (fun d => d.parameters.length) = some 1 := by decide +kernel
theorem zh_X10_canTake_40 : yX10_canTake.cls = RX10 ∧ yX10_canTake.cls ≠ "java/lang/invoke/MethodHandle" ∧ yX10_canTake.cls ≠ "java/lang/invoke/VarHandle" ∧ (parseMethodDescriptor yX10_canTake.desc).map (fun d => d.parameters.length) = some 3 := by decide +kernel
theorem zh_X8_isBehind_41 : yX8_isBehind.cls = RX8 ∧ yX8_isBehind.cls ≠ "java/lang/invoke/MethodHandle" ∧ yX8_isBehind.cls ≠ "java/lang/invoke/VarHandle" ∧ (parseMethodDescriptor yX8_isBehind.desc).map (fun d => d.parameters.length) = some 1 := by decide +kernel
theorem zh_X10_standing_42 : yX10_standing.cls = RX10 ∧ yX10_standing.cls ≠ "java/lang/invoke/MethodHandle" ∧ yX10_standing.cls ≠ "java/lang/invoke/VarHandle" ∧ (parseMethodDescriptor yX10_standing.desc).map (fun d => d.parameters.length) = some 0 := by decide +kernel
theorem zu_43 : "PageOne$Item" ≠ "java/lang/invoke/MethodHandle" ∧ "PageOne$Item" ≠ "java/lang/invoke/VarHandle" ∧ (parseMethodDescriptor "()LPageOne$Piece;").map (fun d => d.parameters.length) = some 0 := by decide +kernel
theorem zh_X11_isPage_44 : yX11_isPage.cls ≠ "java/lang/invoke/MethodHandle" ∧ yX11_isPage.cls ≠ "java/lang/invoke/VarHandle" ∧ (parseMethodDescriptor yX11_isPage.desc).map (fun d => d.parameters.length) = some 1 := by decide +kernel
theorem zh_X11_hasPlate_45 : yX11_hasPlate.cls = RX11 ∧ yX11_hasPlate.cls ≠ "java/lang/invoke/MethodHandle" ∧ yX11_hasPlate.cls ≠ "java/lang/invoke/VarHandle" ∧ (parseMethodDescriptor yX11_hasPlate.desc).map (fun d => d.parameters.length) = some 1 := by decide +kernel
theorem zh_X11_isFresh_46 : yX11_isFresh.cls = RX11 ∧ yX11_isFresh.cls ≠ "java/lang/invoke/MethodHandle" ∧ yX11_isFresh.cls ≠ "java/lang/invoke/VarHandle" ∧ (parseMethodDescriptor yX11_isFresh.desc).map (fun d => d.parameters.length) = some 1 := by decide +kernel
theorem zh_X11_isColumn_47 : yX11_isColumn.cls ≠ "java/lang/invoke/MethodHandle" ∧ yX11_isColumn.cls ≠ "java/lang/invoke/VarHandle" ∧ (parseMethodDescriptor yX11_isColumn.desc).map (fun d => d.parameters.length) = some 1 := by decide +kernel
theorem zh_X11_freshPlates_48 : yX11_freshPlates.cls = RX11 ∧ yX11_freshPlates.cls ≠ "java/lang/invoke/MethodHandle" ∧ yX11_freshPlates.cls ≠ "java/lang/invoke/VarHandle" ∧ (parseMethodDescriptor yX11_freshPlates.desc).map (fun d => d.parameters.length) = some 0 := by decide +kernel
theorem zh_X11_itemOf_49 : yX11_itemOf.cls = RX11 ∧ yX11_itemOf.cls ≠ "java/lang/invoke/MethodHandle" ∧ yX11_itemOf.cls ≠ "java/lang/invoke/VarHandle" ∧ (parseMethodDescriptor yX11_itemOf.desc).map (fun d => d.parameters.length) = some 1 := by decide +kernel
theorem zh_X10_takeIn_50 : yX10_takeIn.cls = RX10 ∧ yX10_takeIn.cls ≠ "java/lang/invoke/MethodHandle" ∧ yX10_takeIn.cls ≠ "java/lang/invoke/VarHandle" ∧ (parseMethodDescriptor yX10_takeIn.desc).map (fun d => d.parameters.length) = some 1 := by decide +kernel
theorem zh_X11_isSquare_51 : yX11_isSquare.cls ≠ "java/lang/invoke/MethodHandle" ∧ yX11_isSquare.cls ≠ "java/lang/invoke/VarHandle" ∧ (parseMethodDescriptor yX11_isSquare.desc).map (fun d => d.parameters.length) = some 2 := by decide +kernel
theorem zh_X7_takeSize_52 : yX7_takeSize.cls = RX7 ∧ yX7_takeSize.cls ≠ "java/lang/invoke/MethodHandle" ∧ yX7_takeSize.cls ≠ "java/lang/invoke/VarHandle" ∧ (parseMethodDescriptor yX7_takeSize.desc).map (fun d => d.parameters.length) = some 2 := by decide +kernel
theorem zh_X11_isBuyer_53 : yX11_isBuyer.cls ≠ "java/lang/invoke/MethodHandle" ∧ yX11_isBuyer.cls ≠ "java/lang/invoke/VarHandle" ∧ (parseMethodDescriptor yX11_isBuyer.desc).map (fun d => d.parameters.length) = some 1 := by decide +kernel
theorem zh_X11_areRivals_54 : yX11_areRivals.cls = RX11 ∧ yX11_areRivals.cls ≠ "java/lang/invoke/MethodHandle" ∧ yX11_areRivals.cls ≠ "java/lang/invoke/VarHandle" ∧ (parseMethodDescriptor yX11_areRivals.desc).map (fun d => d.parameters.length) = some 2 := by decide +kernel
theorem zh_X8_sign_55 : yX8_sign.cls = RX8 ∧ yX8_sign.cls ≠ "java/lang/invoke/MethodHandle" ∧ yX8_sign.cls ≠ "java/lang/invoke/VarHandle" ∧ (parseMethodDescriptor yX8_sign.desc).map (fun d => d.parameters.length) = some 0 := by decide +kernel
theorem zh_X9_mark_56 : yX9_mark.cls = RX9 ∧ yX9_mark.cls ≠ "java/lang/invoke/MethodHandle" ∧ yX9_mark.cls ≠ "java/lang/invoke/VarHandle" ∧ (parseMethodDescriptor yX9_mark.desc).map (fun d => d.parameters.length) = some 2 := by decide +kernel
theorem zu_57 : "PageOne$Item" ≠ "java/lang/invoke/MethodHandle" ∧ "PageOne$Item" ≠ "java/lang/invoke/VarHandle" ∧ (parseMethodDescriptor "(LPageOne$Piece;)V").map (fun d => d.parameters.length) = some 1 := by decide +kernel
theorem zu_58 : "PageOne$Item" ≠ "java/lang/invoke/MethodHandle" ∧ "PageOne$Item" ≠ "java/lang/invoke/VarHandle" ∧ (parseMethodDescriptor "()V").map (fun d => d.parameters.length) = some 0 := by decide +kernel
theorem zh_J7_fill_53178_59 : yJ7_fill_53178.cls ≠ "java/lang/invoke/MethodHandle" ∧ yJ7_fill_53178.cls ≠ "java/lang/invoke/VarHandle" ∧ (parseMethodDescriptor yJ7_fill_53178.desc).map (fun d => d.parameters.length) = some 2 := by decide +kernel
theorem zh_X11_canAct_60 : yX11_canAct.cls = RX11 ∧ yX11_canAct.cls ≠ "java/lang/invoke/MethodHandle" ∧ yX11_canAct.cls ≠ "java/lang/invoke/VarHandle" ∧ (parseMethodDescriptor yX11_canAct.desc).map (fun d => d.parameters.length) = some 0 := by decide +kernel
theorem zh_X11_takeOff_61 : yX11_takeOff.cls = RX11 ∧ yX11_takeOff.cls ≠ "java/lang/invoke/MethodHandle" ∧ yX11_takeOff.cls ≠ "java/lang/invoke/VarHandle" ∧ (parseMethodDescriptor yX11_takeOff.desc).map (fun d => d.parameters.length) = some 1 := by decide +kernel
theorem zh_X11_stand_62 : yX11_stand.cls = RX11 ∧ yX11_stand.cls ≠ "java/lang/invoke/MethodHandle" ∧ yX11_stand.cls ≠ "java/lang/invoke/VarHandle" ∧ (parseMethodDescriptor yX11_stand.desc).map (fun d => d.parameters.length) = some 1 := by decide +kernel
theorem zh_X11_takeBack_63 : yX11_takeBack.cls = RX11 ∧ yX11_takeBack.cls ≠ "java/lang/invoke/MethodHandle" ∧ yX11_takeBack.cls ≠ "java/lang/invoke/VarHandle" ∧ (parseMethodDescriptor yX11_takeBack.desc).map (fun d => d.parameters.length) = some 1 := by decide +kernel
theorem zh_X11_plateFact_64 : yX11_plateFact.cls = RX11 ∧ yX11_plateFact.cls ≠ "java/lang/invoke/MethodHandle" ∧ yX11_plateFact.cls ≠ "java/lang/invoke/VarHandle" ∧ (parseMethodDescriptor yX11_plateFact.desc).map (fun d => d.parameters.length) = some 3 := by decide +kernel
theorem zh_X11_writeDownItem_65 : yX11_writeDownItem.cls = RX11 ∧ yX11_writeDownItem.cls ≠ "java/lang/invoke/MethodHandle" ∧ yX11_writeDownItem.cls ≠ "java/lang/invoke/VarHandle" ∧ (parseMethodDescriptor yX11_writeDownItem.desc).map (fun d => d.parameters.length) = some 3 := by decide +kernel
theorem zh_X11_writeDown_66 : yX11_writeDown.cls = RX11 ∧ yX11_writeDown.cls ≠ "java/lang/invoke/MethodHandle" ∧ yX11_writeDown.cls ≠ "java/lang/invoke/VarHandle" ∧ (parseMethodDescriptor yX11_writeDown.desc).map (fun d => d.parameters.length) = some 1 := by decide +kernel
theorem zu_67 : "PageOne$Item" ≠ "java/lang/invoke/MethodHandle" ∧ "PageOne$Item" ≠ "java/lang/invoke/VarHandle" ∧ (parseMethodDescriptor "()V").map (fun d => d.parameters.length) = some 0 := by decide +kernel
theorem zh_X9_clear_68 : yX9_clear.cls = RX9 ∧ yX9_clear.cls ≠ "java/lang/invoke/MethodHandle" ∧ yX9_clear.cls ≠ "java/lang/invoke/VarHandle" ∧ (parseMethodDescriptor yX9_clear.desc).map (fun d => d.parameters.length) = some 0 := by decide +kernel
theorem zh_X11_closeEdition_69 : yX11_closeEdition.cls = RX11 ∧ yX11_closeEdition.cls ≠ "java/lang/invoke/MethodHandle" ∧ yX11_closeEdition.cls ≠ "java/lang/invoke/VarHandle" ∧ (parseMethodDescriptor yX11_closeEdition.desc).map (fun d => d.parameters.length) = some 0 := by decide +kernel
theorem zh_X11_clearDesk_70 : yX11_clearDesk.cls = RX11 ∧ yX11_clearDesk.cls ≠ "java/lang/invoke/MethodHandle" ∧ yX11_clearDesk.cls ≠ "java/lang/invoke/VarHandle" ∧ (parseMethodDescriptor yX11_clearDesk.desc).map (fun d => d.parameters.length) = some 0 := by decide +kernel
theorem zh_X9_spotOf_71 : yX9_spotOf.cls = RX9 ∧ yX9_spotOf.cls ≠ "java/lang/invoke/MethodHandle" ∧ yX9_spotOf.cls ≠ "java/lang/invoke/VarHandle" ∧ (parseMethodDescriptor yX9_spotOf.desc).map (fun d => d.parameters.length) = some 1 := by decide +kernel
theorem zh_X11_isNamedIn_72 : yX11_isNamedIn.cls ≠ "java/lang/invoke/MethodHandle" ∧ yX11_isNamedIn.cls ≠ "java/lang/invoke/VarHandle" ∧ (parseMethodDescriptor yX11_isNamedIn.desc).map (fun d => d.parameters.length) = some 2 := by decide +kernel
theorem zh_X11_firstPrinting_73 : yX11_firstPrinting.cls = RX11 ∧ yX11_firstPrinting.cls ≠ "java/lang/invoke/MethodHandle" ∧ yX11_firstPrinting.cls ≠ "java/lang/invoke/VarHandle" ∧ (parseMethodDescriptor yX11_firstPrinting.desc).map (fun d => d.parameters.length) = some 2 := by decide +kernel
theorem zh_X11_ownerOf_74 : yX11_ownerOf.cls = RX11 ∧ yX11_ownerOf.cls ≠ "java/lang/invoke/MethodHandle" ∧ yX11_ownerOf.cls ≠ "java/lang/invoke/VarHandle" ∧ (parseMethodDescriptor yX11_ownerOf.desc).map (fun d => d.parameters.length) = some 1 := by decide +kernel
theorem zh_X11_wasPrintedOn_75 : yX11_wasPrintedOn.cls = RX11 ∧ yX11_wasPrintedOn.cls ≠ "java/lang/invoke/MethodHandle" ∧ yX11_wasPrintedOn.cls ≠ "java/lang/invoke/VarHandle" ∧ (parseMethodDescriptor yX11_wasPrintedOn.desc).map (fun d => d.parameters.length) = some 2 := by decide +kernel
theorem zh_X6_cost_76 : yX6_cost.cls = RX6 ∧ yX6_cost.cls ≠ "java/lang/invoke/MethodHandle" ∧ yX6_cost.cls ≠ "java/lang/invoke/VarHandle" ∧ (parseMethodDescriptor yX6_cost.desc).map (fun d => d.parameters.length) = some 0 := by decide +kernel
theorem zu_77 : "PageOne$Item" ≠ "java/lang/invoke/MethodHandle" ∧ "PageOne$Item" ≠ "java/lang/invoke/VarHandle" ∧ (parseMethodDescriptor "()LPageOne$Piece;").map (fun d => d.parameters.length) = some 0 := by decide +kernel
theorem zh_X11_standsOverStory_78 : yX11_standsOverStory.cls = RX11 ∧ yX11_standsOverStory.cls ≠ "java/lang/invoke/MethodHandle" ∧ yX11_standsOverStory.cls ≠ "java/lang/invoke/VarHandle" ∧ (parseMethodDescriptor yX11_standsOverStory.desc).map (fun d => d.parameters.length) = some 1 := by decide +kernel
theorem zh_X11_keep_79 : yX11_keep.cls = RX11 ∧ yX11_keep.cls ≠ "java/lang/invoke/MethodHandle" ∧ yX11_keep.cls ≠ "java/lang/invoke/VarHandle" ∧ (parseMethodDescriptor yX11_keep.desc).map (fun d => d.parameters.length) = some 1 := by decide +kernel
theorem zu_80 : "PageOne$Item" ≠ "java/lang/invoke/MethodHandle" ∧ "PageOne$Item" ≠ "java/lang/invoke/VarHandle" ∧ (parseMethodDescriptor "()LPageOne$Piece;").map (fun d => d.parameters.length) = some 0 := by decide +kernel
theorem zh_X0_init_81 : yX0_init.cls ≠ "java/lang/invoke/MethodHandle" ∧ yX0_init.cls ≠ "java/lang/invoke/VarHandle" ∧ (parseMethodDescriptor yX0_init.desc).map (fun d => d.parameters.length) = some 3 := by decide +kernel
theorem zh_X9_isFree_82 : yX9_isFree.cls = RX9 ∧ yX9_isFree.cls ≠ "java/lang/invoke/MethodHandle" ∧ yX9_isFree.cls ≠ "java/lang/invoke/VarHandle" ∧ (parseMethodDescriptor yX9_isFree.desc).map (fun d => d.parameters.length) = some 1 := by decide +kernel
theorem zh_X8_init_83 : yX8_init.cls ≠ "java/lang/invoke/MethodHandle" ∧ yX8_init.cls ≠ "java/lang/invoke/VarHandle" ∧ (parseMethodDescriptor yX8_init.desc).map (fun d => d.parameters.length) = some 6 := by decide +kernel
theorem zu_84 : "PageOne$Item" ≠ "java/lang/invoke/MethodHandle" ∧ "PageOne$Item" ≠ "java/lang/invoke/VarHandle" ∧ (parseMethodDescriptor "(LPageOne$Piece;II)Z").map (fun d => d.parameters.length) = some 3 := by decide +kernel
theorem zu_85 : "PageOne$Item" ≠ "java/lang/invoke/MethodHandle" ∧ "PageOne$Item" ≠ "java/lang/invoke/VarHandle" ∧ (parseMethodDescriptor "(I)I").map (fun d => d.parameters.length) = some 1 := by decide +kernel
theorem zh_X4_init_86 : yX4_init.cls ≠ "java/lang/invoke/MethodHandle" ∧ yX4_init.cls ≠ "java/lang/invoke/VarHandle" ∧ (parseMethodDescriptor yX4_init.desc).map (fun d => d.parameters.length) = some 3 := by decide +kernel
theorem zh_X11_enter_87 : yX11_enter.cls = RX11 ∧ yX11_enter.cls ≠ "java/lang/invoke/MethodHandle" ∧ yX11_enter.cls ≠ "java/lang/invoke/VarHandle" ∧ (parseMethodDescriptor yX11_enter.desc).map (fun d => d.parameters.length) = some 1 := by decide +kernel
theorem zh_X10_init_88 : yX10_init.cls ≠ "java/lang/invoke/MethodHandle" ∧ yX10_init.cls ≠ "java/lang/invoke/VarHandle" ∧ (parseMethodDescriptor yX10_init.desc).map (fun d => d.parameters.length) = some 2 := by decide +kernel
theorem zh_X7_init_89 : yX7_init.cls ≠ "java/lang/invoke/MethodHandle" ∧ yX7_init.cls ≠ "java/lang/invoke/VarHandle" ∧ (parseMethodDescriptor yX7_init.desc).map (fun d => d.parameters.length) = some 1 := by decide +kernel
theorem zh_X2_init_90 : yX2_init.cls ≠ "java/lang/invoke/MethodHandle" ∧ yX2_init.cls ≠ "java/lang/invoke/VarHandle" ∧ (parseMethodDescriptor yX2_init.desc).map (fun d => d.parameters.length) = some 3 := by decide +kernel
theorem zh_X3_init_91 : yX3_init.cls ≠ "java/lang/invoke/MethodHandle" ∧ yX3_init.cls ≠ "java/lang/invoke/VarHandle" ∧ (parseMethodDescriptor yX3_init.desc).map (fun d => d.parameters.length) = some 4 := by decide +kernel
theorem zh_X11_hasNotice_92 : yX11_hasNotice.cls = RX11 ∧ yX11_hasNotice.cls ≠ "java/lang/invoke/MethodHandle" ∧ yX11_hasNotice.cls ≠ "java/lang/invoke/VarHandle" ∧ (parseMethodDescriptor yX11_hasNotice.desc).map (fun d => d.parameters.length) = some 1 := by decide +kernel
theorem zh_X5_init_93 : yX5_init.cls ≠ "java/lang/invoke/MethodHandle" ∧ yX5_init.cls ≠ "java/lang/invoke/VarHandle" ∧ (parseMethodDescriptor yX5_init.desc).map (fun d => d.parameters.length) = some 3 := by decide +kernel
theorem zu_94 : "PageOne$Item" ≠ "java/lang/invoke/MethodHandle" ∧ "PageOne$Item" ≠ "java/lang/invoke/VarHandle" ∧ (parseMethodDescriptor "()Z").map (fun d => d.parameters.length) = some 0 := by decide +kernel
theorem zh_X6_init_95 : yX6_init.cls ≠ "java/lang/invoke/MethodHandle" ∧ yX6_init.cls ≠ "java/lang/invoke/VarHandle" ∧ (parseMethodDescriptor yX6_init.desc).map (fun d => d.parameters.length) = some 4 := by decide +kernel
theorem zh_X11_mayNotMeet_96 : yX11_mayNotMeet.cls = RX11 ∧ yX11_mayNotMeet.cls ≠ "java/lang/invoke/MethodHandle" ∧ yX11_mayNotMeet.cls ≠ "java/lang/invoke/VarHandle" ∧ (parseMethodDescriptor yX11_mayNotMeet.desc).map (fun d => d.parameters.length) = some 3 := by decide +kernel
theorem zu_97 : "PageOne$Item" ≠ "java/lang/invoke/MethodHandle" ∧ "PageOne$Item" ≠ "java/lang/invoke/VarHandle" ∧ (parseMethodDescriptor "(LPageOne$Item;IZ)Z").map (fun d => d.parameters.length) = some 3 := by decide +kernel
theorem zu_98 : "PageOne$Item" ≠ "java/lang/invoke/MethodHandle" ∧ "PageOne$Item" ≠ "java/lang/invoke/VarHandle" ∧ (parseMethodDescriptor "(I)Z").map (fun d => d.parameters.length) = some 1 := by decide +kernel
theorem zh_X1_init_99 : yX1_init.cls ≠ "java/lang/invoke/MethodHandle" ∧ yX1_init.cls ≠ "java/lang/invoke/VarHandle" ∧ (parseMethodDescriptor yX1_init.desc).map (fun d => d.parameters.length) = some 3 := by decide +kernel
theorem zh_X11_failsAlone_100 : yX11_failsAlone.cls = RX11 ∧ yX11_failsAlone.cls ≠ "java/lang/invoke/MethodHandle" ∧ yX11_failsAlone.cls ≠ "java/lang/invoke/VarHandle" ∧ (parseMethodDescriptor yX11_failsAlone.desc).map (fun d => d.parameters.length) = some 2 := by decide +kernel
theorem zh_X11_leastPair_101 : yX11_leastPair.cls = RX11 ∧ yX11_leastPair.cls ≠ "java/lang/invoke/MethodHandle" ∧ yX11_leastPair.cls ≠ "java/lang/invoke/VarHandle" ∧ (parseMethodDescriptor yX11_leastPair.desc).map (fun d => d.parameters.length) = some 2 := by decide +kernel
theorem zh_X11_breachOn_102 : yX11_breachOn.cls = RX11 ∧ yX11_breachOn.cls ≠ "java/lang/invoke/MethodHandle" ∧ yX11_breachOn.cls ≠ "java/lang/invoke/VarHandle" ∧ (parseMethodDescriptor yX11_breachOn.desc).map (fun d => d.parameters.length) = some 1 := by decide +kernel
theorem zh_X9_cellCount_103 : yX9_cellCount.cls = RX9 ∧ yX9_cellCount.cls ≠ "java/lang/invoke/MethodHandle" ∧ yX9_cellCount.cls ≠ "java/lang/invoke/VarHandle" ∧ (parseMethodDescriptor yX9_cellCount.desc).map (fun d => d.parameters.length) = some 0 := by decide +kernel
theorem zh_X9_emptyCount_104 : yX9_emptyCount.cls = RX9 ∧ yX9_emptyCount.cls ≠ "java/lang/invoke/MethodHandle" ∧ yX9_emptyCount.cls ≠ "java/lang/invoke/VarHandle" ∧ (parseMethodDescriptor yX9_emptyCount.desc).map (fun d => d.parameters.length) = some 0 := by decide +kernel
theorem zh_X9_copyFrom_105 : yX9_copyFrom.cls = RX9 ∧ yX9_copyFrom.cls ≠ "java/lang/invoke/MethodHandle" ∧ yX9_copyFrom.cls ≠ "java/lang/invoke/VarHandle" ∧ (parseMethodDescriptor yX9_copyFrom.desc).map (fun d => d.parameters.length) = some 1 := by decide +kernel
theorem zh_X9_init_106 : yX9_init.cls ≠ "java/lang/invoke/MethodHandle" ∧ yX9_init.cls ≠ "java/lang/invoke/VarHandle" ∧ (parseMethodDescriptor yX9_init.desc).map (fun d => d.parameters.length) = some 0 := by decide +kernel
theorem zh_X11_fillerFor_107 : yX11_fillerFor.cls = RX11 ∧ yX11_fillerFor.cls ≠ "java/lang/invoke/MethodHandle" ∧ yX11_fillerFor.cls ≠ "java/lang/invoke/VarHandle" ∧ (parseMethodDescriptor yX11_fillerFor.desc).map (fun d => d.parameters.length) = some 1 := by decide +kernel
theorem zh_X11_fillColumn_108 : yX11_fillColumn.cls = RX11 ∧ yX11_fillColumn.cls ≠ "java/lang/invoke/MethodHandle" ∧ yX11_fillColumn.cls ≠ "java/lang/invoke/VarHandle" ∧ (parseMethodDescriptor yX11_fillColumn.desc).map (fun d => d.parameters.length) = some 3 := by decide +kernel
theorem zh_X11_column_109 : yX11_column.cls = RX11 ∧ yX11_column.cls ≠ "java/lang/invoke/MethodHandle" ∧ yX11_column.cls ≠ "java/lang/invoke/VarHandle" ∧ (parseMethodDescriptor yX11_column.desc).map (fun d => d.parameters.length) = some 3 := by decide +kernel
theorem zh_X12_column_110 : yX12_column.cls = RX12 ∧ yX12_column.cls ≠ "java/lang/invoke/MethodHandle" ∧ yX12_column.cls ≠ "java/lang/invoke/VarHandle" ∧ (parseMethodDescriptor yX12_column.desc).map (fun d => d.parameters.length) = some 3 := by decide +kernel
theorem zh_X11_measure_111 : yX11_measure.cls = RX11 ∧ yX11_measure.cls ≠ "java/lang/invoke/MethodHandle" ∧ yX11_measure.cls ≠ "java/lang/invoke/VarHandle" ∧ (parseMethodDescriptor yX11_measure.desc).map (fun d => d.parameters.length) = some 2 := by decide +kernel
theorem zh_X12_measure_112 : yX12_measure.cls = RX12 ∧ yX12_measure.cls ≠ "java/lang/invoke/MethodHandle" ∧ yX12_measure.cls ≠ "java/lang/invoke/VarHandle" ∧ (parseMethodDescriptor yX12_measure.desc).map (fun d => d.parameters.length) = some 2 := by decide +kernel
theorem zh_X11_story_113 : yX11_story.cls = RX11 ∧ yX11_story.cls ≠ "java/lang/invoke/MethodHandle" ∧ yX11_story.cls ≠ "java/lang/invoke/VarHandle" ∧ (parseMethodDescriptor yX11_story.desc).map (fun d => d.parameters.length) = some 1 := by decide +kernel
theorem zh_X12_story_114 : yX12_story.cls = RX12 ∧ yX12_story.cls ≠ "java/lang/invoke/MethodHandle" ∧ yX12_story.cls ≠ "java/lang/invoke/VarHandle" ∧ (parseMethodDescriptor yX12_story.desc).map (fun d => d.parameters.length) = some 1 := by decide +kernel
theorem zh_X11_line_115 : yX11_line.cls = RX11 ∧ yX11_line.cls ≠ "java/lang/invoke/MethodHandle" ∧ yX11_line.cls ≠ "java/lang/invoke/VarHandle" ∧ (parseMethodDescriptor yX11_line.desc).map (fun d => d.parameters.length) = some 2 := by decide +kernel
theorem zh_X12_line_116 : yX12_line.cls = RX12 ∧ yX12_line.cls ≠ "java/lang/invoke/MethodHandle" ∧ yX12_line.cls ≠ "java/lang/invoke/VarHandle" ∧ (parseMethodDescriptor yX12_line.desc).map (fun d => d.parameters.length) = some 2 := by decide +kernel
theorem zh_X11_head_117 : yX11_head.cls = RX11 ∧ yX11_head.cls ≠ "java/lang/invoke/MethodHandle" ∧ yX11_head.cls ≠ "java/lang/invoke/VarHandle" ∧ (parseMethodDescriptor yX11_head.desc).map (fun d => d.parameters.length) = some 3 := by decide +kernel
theorem zh_X12_head_118 : yX12_head.cls = RX12 ∧ yX12_head.cls ≠ "java/lang/invoke/MethodHandle" ∧ yX12_head.cls ≠ "java/lang/invoke/VarHandle" ∧ (parseMethodDescriptor yX12_head.desc).map (fun d => d.parameters.length) = some 3 := by decide +kernel
theorem zh_X11_picture_119 : yX11_picture.cls = RX11 ∧ yX11_picture.cls ≠ "java/lang/invoke/MethodHandle" ∧ yX11_picture.cls ≠ "java/lang/invoke/VarHandle" ∧ (parseMethodDescriptor yX11_picture.desc).map (fun d => d.parameters.length) = some 0 := by decide +kernel
theorem zh_X12_picture_120 : yX12_picture.cls = RX12 ∧ yX12_picture.cls ≠ "java/lang/invoke/MethodHandle" ∧ yX12_picture.cls ≠ "java/lang/invoke/VarHandle" ∧ (parseMethodDescriptor yX12_picture.desc).map (fun d => d.parameters.length) = some 0 := by decide +kernel
theorem zh_X11_size_121 : yX11_size.cls = RX11 ∧ yX11_size.cls ≠ "java/lang/invoke/MethodHandle" ∧ yX11_size.cls ≠ "java/lang/invoke/VarHandle" ∧ (parseMethodDescriptor yX11_size.desc).map (fun d => d.parameters.length) = some 3 := by decide +kernel
theorem zh_X12_size_122 : yX12_size.cls = RX12 ∧ yX12_size.cls ≠ "java/lang/invoke/MethodHandle" ∧ yX12_size.cls ≠ "java/lang/invoke/VarHandle" ∧ (parseMethodDescriptor yX12_size.desc).map (fun d => d.parameters.length) = some 3 := by decide +kernel
theorem zh_X11_paid_123 : yX11_paid.cls = RX11 ∧ yX11_paid.cls ≠ "java/lang/invoke/MethodHandle" ∧ yX11_paid.cls ≠ "java/lang/invoke/VarHandle" ∧ (parseMethodDescriptor yX11_paid.desc).map (fun d => d.parameters.length) = some 7 := by decide +kernel
theorem zh_X12_paid_124 : yX12_paid.cls = RX12 ∧ yX12_paid.cls ≠ "java/lang/invoke/MethodHandle" ∧ yX12_paid.cls ≠ "java/lang/invoke/VarHandle" ∧ (parseMethodDescriptor yX12_paid.desc).map (fun d => d.parameters.length) = some 7 := by decide +kernel
theorem zh_X11_filler_125 : yX11_filler.cls = RX11 ∧ yX11_filler.cls ≠ "java/lang/invoke/MethodHandle" ∧ yX11_filler.cls ≠ "java/lang/invoke/VarHandle" ∧ (parseMethodDescriptor yX11_filler.desc).map (fun d => d.parameters.length) = some 2 := by decide +kernel
theorem zh_X12_filler_126 : yX12_filler.cls = RX12 ∧ yX12_filler.cls ≠ "java/lang/invoke/MethodHandle" ∧ yX12_filler.cls ≠ "java/lang/invoke/VarHandle" ∧ (parseMethodDescriptor yX12_filler.desc).map (fun d => d.parameters.length) = some 2 := by decide +kernel
theorem zh_X11_notice_127 : yX11_notice.cls = RX11 ∧ yX11_notice.cls ≠ "java/lang/invoke/MethodHandle" ∧ yX11_notice.cls ≠ "java/lang/invoke/VarHandle" ∧ (parseMethodDescriptor yX11_notice.desc).map (fun d => d.parameters.length) = some 2 := by decide +kernel
theorem zh_X12_notice_128 : yX12_notice.cls = RX12 ∧ yX12_notice.cls ≠ "java/lang/invoke/MethodHandle" ∧ yX12_notice.cls ≠ "java/lang/invoke/VarHandle" ∧ (parseMethodDescriptor yX12_notice.desc).map (fun d => d.parameters.length) = some 2 := by decide +kernel
theorem zh_X11_rival_129 : yX11_rival.cls = RX11 ∧ yX11_rival.cls ≠ "java/lang/invoke/MethodHandle" ∧ yX11_rival.cls ≠ "java/lang/invoke/VarHandle" ∧ (parseMethodDescriptor yX11_rival.desc).map (fun d => d.parameters.length) = some 2 := by decide +kernel
theorem zh_X12_rival_130 : yX12_rival.cls = RX12 ∧ yX12_rival.cls ≠ "java/lang/invoke/MethodHandle" ∧ yX12_rival.cls ≠ "java/lang/invoke/VarHandle" ∧ (parseMethodDescriptor yX12_rival.desc).map (fun d => d.parameters.length) = some 2 := by decide +kernel
theorem zh_X11_names_131 : yX11_names.cls = RX11 ∧ yX11_names.cls ≠ "java/lang/invoke/MethodHandle" ∧ yX11_names.cls ≠ "java/lang/invoke/VarHandle" ∧ (parseMethodDescriptor yX11_names.desc).map (fun d => d.parameters.length) = some 2 := by decide +kernel
theorem zh_X12_names_132 : yX12_names.cls = RX12 ∧ yX12_names.cls ≠ "java/lang/invoke/MethodHandle" ∧ yX12_names.cls ≠ "java/lang/invoke/VarHandle" ∧ (parseMethodDescriptor yX12_names.desc).map (fun d => d.parameters.length) = some 2 := by decide +kernel
theorem zh_X11_put_133 : yX11_put.cls = RX11 ∧ yX11_put.cls ≠ "java/lang/invoke/MethodHandle" ∧ yX11_put.cls ≠ "java/lang/invoke/VarHandle" ∧ (parseMethodDescriptor yX11_put.desc).map (fun d => d.parameters.length) = some 5 := by decide +kernel
theorem zh_X12_put_134 : yX12_put.cls = RX12 ∧ yX12_put.cls ≠ "java/lang/invoke/MethodHandle" ∧ yX12_put.cls ≠ "java/lang/invoke/VarHandle" ∧ (parseMethodDescriptor yX12_put.desc).map (fun d => d.parameters.length) = some 5 := by decide +kernel
theorem zh_X11_lift_135 : yX11_lift.cls = RX11 ∧ yX11_lift.cls ≠ "java/lang/invoke/MethodHandle" ∧ yX11_lift.cls ≠ "java/lang/invoke/VarHandle" ∧ (parseMethodDescriptor yX11_lift.desc).map (fun d => d.parameters.length) = some 1 := by decide +kernel
theorem zh_X12_lift_136 : yX12_lift.cls = RX12 ∧ yX12_lift.cls ≠ "java/lang/invoke/MethodHandle" ∧ yX12_lift.cls ≠ "java/lang/invoke/VarHandle" ∧ (parseMethodDescriptor yX12_lift.desc).map (fun d => d.parameters.length) = some 1 := by decide +kernel
theorem zh_X11_rule_137 : yX11_rule.cls = RX11 ∧ yX11_rule.cls ≠ "java/lang/invoke/MethodHandle" ∧ yX11_rule.cls ≠ "java/lang/invoke/VarHandle" ∧ (parseMethodDescriptor yX11_rule.desc).map (fun d => d.parameters.length) = some 3 := by decide +kernel
theorem zh_X12_rule_138 : yX12_rule.cls = RX12 ∧ yX12_rule.cls ≠ "java/lang/invoke/MethodHandle" ∧ yX12_rule.cls ≠ "java/lang/invoke/VarHandle" ∧ (parseMethodDescriptor yX12_rule.desc).map (fun d => d.parameters.length) = some 3 := by decide +kernel
theorem zh_X11_fill_139 : yX11_fill.cls = RX11 ∧ yX11_fill.cls ≠ "java/lang/invoke/MethodHandle" ∧ yX11_fill.cls ≠ "java/lang/invoke/VarHandle" ∧ (parseMethodDescriptor yX11_fill.desc).map (fun d => d.parameters.length) = some 1 := by decide +kernel
theorem zh_X12_fill_140 : yX12_fill.cls = RX12 ∧ yX12_fill.cls ≠ "java/lang/invoke/MethodHandle" ∧ yX12_fill.cls ≠ "java/lang/invoke/VarHandle" ∧ (parseMethodDescriptor yX12_fill.desc).map (fun d => d.parameters.length) = some 1 := by decide +kernel
theorem zh_X11_undo_141 : yX11_undo.cls = RX11 ∧ yX11_undo.cls ≠ "java/lang/invoke/MethodHandle" ∧ yX11_undo.cls ≠ "java/lang/invoke/VarHandle" ∧ (parseMethodDescriptor yX11_undo.desc).map (fun d => d.parameters.length) = some 0 := by decide +kernel
theorem zh_X12_undo_142 : yX12_undo.cls = RX12 ∧ yX12_undo.cls ≠ "java/lang/invoke/MethodHandle" ∧ yX12_undo.cls ≠ "java/lang/invoke/VarHandle" ∧ (parseMethodDescriptor yX12_undo.desc).map (fun d => d.parameters.length) = some 0 := by decide +kernel
theorem zh_X11_plate_143 : yX11_plate.cls = RX11 ∧ yX11_plate.cls ≠ "java/lang/invoke/MethodHandle" ∧ yX11_plate.cls ≠ "java/lang/invoke/VarHandle" ∧ (parseMethodDescriptor yX11_plate.desc).map (fun d => d.parameters.length) = some 1 := by decide +kernel
theorem zh_X12_plate_144 : yX12_plate.cls = RX12 ∧ yX12_plate.cls ≠ "java/lang/invoke/MethodHandle" ∧ yX12_plate.cls ≠ "java/lang/invoke/VarHandle" ∧ (parseMethodDescriptor yX12_plate.desc).map (fun d => d.parameters.length) = some 1 := by decide +kernel
theorem zh_X11_edition_145 : yX11_edition.cls = RX11 ∧ yX11_edition.cls ≠ "java/lang/invoke/MethodHandle" ∧ yX11_edition.cls ≠ "java/lang/invoke/VarHandle" ∧ (parseMethodDescriptor yX11_edition.desc).map (fun d => d.parameters.length) = some 0 := by decide +kernel
theorem zh_X12_edition_146 : yX12_edition.cls = RX12 ∧ yX12_edition.cls ≠ "java/lang/invoke/MethodHandle" ∧ yX12_edition.cls ≠ "java/lang/invoke/VarHandle" ∧ (parseMethodDescriptor yX12_edition.desc).map (fun d => d.parameters.length) = some 0 := by decide +kernel
theorem zh_X11_day_147 : yX11_day.cls = RX11 ∧ yX11_day.cls ≠ "java/lang/invoke/MethodHandle" ∧ yX11_day.cls ≠ "java/lang/invoke/VarHandle" ∧ (parseMethodDescriptor yX11_day.desc).map (fun d => d.parameters.length) = some 0 := by decide +kernel
theorem zh_X12_day_148 : yX12_day.cls = RX12 ∧ yX12_day.cls ≠ "java/lang/invoke/MethodHandle" ∧ yX12_day.cls ≠ "java/lang/invoke/VarHandle" ∧ (parseMethodDescriptor yX12_day.desc).map (fun d => d.parameters.length) = some 0 := by decide +kernel
theorem zh_X11_cell_149 : yX11_cell.cls = RX11 ∧ yX11_cell.cls ≠ "java/lang/invoke/MethodHandle" ∧ yX11_cell.cls ≠ "java/lang/invoke/VarHandle" ∧ (parseMethodDescriptor yX11_cell.desc).map (fun d => d.parameters.length) = some 3 := by decide +kernel
theorem zh_X12_cell_150 : yX12_cell.cls = RX12 ∧ yX12_cell.cls ≠ "java/lang/invoke/MethodHandle" ∧ yX12_cell.cls ≠ "java/lang/invoke/VarHandle" ∧ (parseMethodDescriptor yX12_cell.desc).map (fun d => d.parameters.length) = some 3 := by decide +kernel
theorem zh_X11_piece_151 : yX11_piece.cls = RX11 ∧ yX11_piece.cls ≠ "java/lang/invoke/MethodHandle" ∧ yX11_piece.cls ≠ "java/lang/invoke/VarHandle" ∧ (parseMethodDescriptor yX11_piece.desc).map (fun d => d.parameters.length) = some 3 := by decide +kernel
theorem zh_X12_piece_152 : yX12_piece.cls = RX12 ∧ yX12_piece.cls ≠ "java/lang/invoke/MethodHandle" ∧ yX12_piece.cls ≠ "java/lang/invoke/VarHandle" ∧ (parseMethodDescriptor yX12_piece.desc).map (fun d => d.parameters.length) = some 3 := by decide +kernel
theorem zh_X11_item_153 : yX11_item.cls = RX11 ∧ yX11_item.cls ≠ "java/lang/invoke/MethodHandle" ∧ yX11_item.cls ≠ "java/lang/invoke/VarHandle" ∧ (parseMethodDescriptor yX11_item.desc).map (fun d => d.parameters.length) = some 2 := by decide +kernel
theorem zh_X12_item_154 : yX12_item.cls = RX12 ∧ yX12_item.cls ≠ "java/lang/invoke/MethodHandle" ∧ yX12_item.cls ≠ "java/lang/invoke/VarHandle" ∧ (parseMethodDescriptor yX12_item.desc).map (fun d => d.parameters.length) = some 2 := by decide +kernel
theorem zh_X11_shortOf_155 : yX11_shortOf.cls = RX11 ∧ yX11_shortOf.cls ≠ "java/lang/invoke/MethodHandle" ∧ yX11_shortOf.cls ≠ "java/lang/invoke/VarHandle" ∧ (parseMethodDescriptor yX11_shortOf.desc).map (fun d => d.parameters.length) = some 2 := by decide +kernel
theorem zh_X12_shortOf_156 : yX12_shortOf.cls = RX12 ∧ yX12_shortOf.cls ≠ "java/lang/invoke/MethodHandle" ∧ yX12_shortOf.cls ≠ "java/lang/invoke/VarHandle" ∧ (parseMethodDescriptor yX12_shortOf.desc).map (fun d => d.parameters.length) = some 2 := by decide +kernel
theorem zh_X11_broken_157 : yX11_broken.cls = RX11 ∧ yX11_broken.cls ≠ "java/lang/invoke/MethodHandle" ∧ yX11_broken.cls ≠ "java/lang/invoke/VarHandle" ∧ (parseMethodDescriptor yX11_broken.desc).map (fun d => d.parameters.length) = some 2 := by decide +kernel
theorem zh_X12_broken_158 : yX12_broken.cls = RX12 ∧ yX12_broken.cls ≠ "java/lang/invoke/MethodHandle" ∧ yX12_broken.cls ≠ "java/lang/invoke/VarHandle" ∧ (parseMethodDescriptor yX12_broken.desc).map (fun d => d.parameters.length) = some 2 := by decide +kernel
theorem zh_X11_printed_159 : yX11_printed.cls = RX11 ∧ yX11_printed.cls ≠ "java/lang/invoke/MethodHandle" ∧ yX11_printed.cls ≠ "java/lang/invoke/VarHandle" ∧ (parseMethodDescriptor yX11_printed.desc).map (fun d => d.parameters.length) = some 2 := by decide +kernel
theorem zh_X11_plated_160 : yX11_plated.cls = RX11 ∧ yX11_plated.cls ≠ "java/lang/invoke/MethodHandle" ∧ yX11_plated.cls ≠ "java/lang/invoke/VarHandle" ∧ (parseMethodDescriptor yX11_plated.desc).map (fun d => d.parameters.length) = some 3 := by decide +kernel
theorem zh_X12_plated_161 : yX12_plated.cls = RX12 ∧ yX12_plated.cls ≠ "java/lang/invoke/MethodHandle" ∧ yX12_plated.cls ≠ "java/lang/invoke/VarHandle" ∧ (parseMethodDescriptor yX12_plated.desc).map (fun d => d.parameters.length) = some 3 := by decide +kernel
theorem zh_X11_plateOf_162 : yX11_plateOf.cls = RX11 ∧ yX11_plateOf.cls ≠ "java/lang/invoke/MethodHandle" ∧ yX11_plateOf.cls ≠ "java/lang/invoke/VarHandle" ∧ (parseMethodDescriptor yX11_plateOf.desc).map (fun d => d.parameters.length) = some 2 := by decide +kernel
theorem zh_X12_plateOf_163 : yX12_plateOf.cls = RX12 ∧ yX12_plateOf.cls ≠ "java/lang/invoke/MethodHandle" ∧ yX12_plateOf.cls ≠ "java/lang/invoke/VarHandle" ∧ (parseMethodDescriptor yX12_plateOf.desc).map (fun d => d.parameters.length) = some 2 := by decide +kernel
theorem zh_X11_bill_164 : yX11_bill.cls = RX11 ∧ yX11_bill.cls ≠ "java/lang/invoke/MethodHandle" ∧ yX11_bill.cls ≠ "java/lang/invoke/VarHandle" ∧ (parseMethodDescriptor yX11_bill.desc).map (fun d => d.parameters.length) = some 2 := by decide +kernel
theorem zh_X12_bill_165 : yX12_bill.cls = RX12 ∧ yX12_bill.cls ≠ "java/lang/invoke/MethodHandle" ∧ yX12_bill.cls ≠ "java/lang/invoke/VarHandle" ∧ (parseMethodDescriptor yX12_bill.desc).map (fun d => d.parameters.length) = some 2 := by decide +kernel
theorem zh_X11_about_166 : yX11_about.cls = RX11 ∧ yX11_about.cls ≠ "java/lang/invoke/MethodHandle" ∧ yX11_about.cls ≠ "java/lang/invoke/VarHandle" ∧ (parseMethodDescriptor yX11_about.desc).map (fun d => d.parameters.length) = some 1 := by decide +kernel
theorem zh_X12_about_167 : yX12_about.cls = RX12 ∧ yX12_about.cls ≠ "java/lang/invoke/MethodHandle" ∧ yX12_about.cls ≠ "java/lang/invoke/VarHandle" ∧ (parseMethodDescriptor yX12_about.desc).map (fun d => d.parameters.length) = some 1 := by decide +kernel
theorem zh_X11_init_168 : yX11_init.cls ≠ "java/lang/invoke/MethodHandle" ∧ yX11_init.cls ≠ "java/lang/invoke/VarHandle" ∧ (parseMethodDescriptor yX11_init.desc).map (fun d => d.parameters.length) = some 0 := by decide +kernel
theorem zh_X12_init_169 : yX12_init.cls ≠ "java/lang/invoke/MethodHandle" ∧ yX12_init.cls ≠ "java/lang/invoke/VarHandle" ∧ (parseMethodDescriptor yX12_init.desc).map (fun d => d.parameters.length) = some 0 := by decide +kernel
