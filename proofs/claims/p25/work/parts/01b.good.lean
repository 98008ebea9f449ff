set_option maxRecDepth 20000 in
theorem ggX1_measure_J7_fill_53178 : GoodIn wsX1_measure wsJ7_fill_53178 := goodIn_r _ [12] (by decide +kernel) (by decide +kernel)
set_option maxRecDepth 20000 in
theorem gX1_measure_J7_fill_53178 : GoodIn wsX1_measure (va_wsS RX1 16 yJ7_fill_53178 wsJ7_fill_53178) := goodIn_app (goodIn_of _ (by decide +kernel)) ggX1_measure_J7_fill_53178
set_option maxRecDepth 20000 in
theorem ggX1_measure_X7_square : GoodIn wsX1_measure wsX7_square := goodIn_r _ [17, 18, 19, 28, 29, 30, 31, 32, 33, 34, 35, 36, 37] (by decide +kernel) (by decide +kernel)
set_option maxRecDepth 20000 in
theorem gX1_measure_X7_square : GoodIn wsX1_measure (wsV RX1 31 RX7 yX7_square wsX7_square) := goodIn_app (goodIn_of _ (by decide +kernel)) ggX1_measure_X7_square
set_option maxRecDepth 20000 in
theorem ggX1_measure_X7_height : GoodIn wsX1_measure wsX7_height := goodIn_r _ [23, 24, 25, 26, 28, 29, 30, 31, 32, 33, 34, 35, 36, 37] (by decide +kernel) (by decide +kernel)
set_option maxRecDepth 20000 in
theorem gX1_measure_X7_height : GoodIn wsX1_measure (wsV RX1 35 RX7 yX7_height wsX7_height) := goodIn_app (goodIn_of _ (by decide +kernel)) ggX1_measure_X7_height
set_option maxRecDepth 20000 in
theorem ggX1_isQuad_X1_isFilled : GoodIn wsX1_isQuad wsX1_isFilled := goodIn_r _ [5, 6, 7, 8] (by decide +kernel) (by decide +kernel)
set_option maxRecDepth 20000 in
theorem gX1_isQuad_X1_isFilled : GoodIn wsX1_isQuad (wsV RX1 44 RX1 yX1_isFilled wsX1_isFilled) := goodIn_app (goodIn_of _ (by decide +kernel)) ggX1_isQuad_X1_isFilled
set_option maxRecDepth 20000 in
theorem ggX1_countThirds_X1_isQuad : GoodIn wsX1_countThirds wsX1_isQuad := goodIn_r _ [5, 6, 7, 8, 4, 9, 10, 11, 12] (by decide +kernel) (by decide +kernel)
set_option maxRecDepth 20000 in
theorem gX1_countThirds_X1_isQuad : GoodIn wsX1_countThirds (wsV RX1 48 RX1 yX1_isQuad wsX1_isQuad) := goodIn_app (goodIn_of _ (by decide +kernel)) ggX1_countThirds_X1_isQuad
set_option maxRecDepth 20000 in
theorem ggX1_volumeAbove_X1_isQuad : GoodIn wsX1_volumeAbove wsX1_isQuad := goodIn_r _ [7, 8, 9, 10, 6, 11, 12, 13, 22] (by decide +kernel) (by decide +kernel)
set_option maxRecDepth 20000 in
theorem gX1_volumeAbove_X1_isQuad : GoodIn wsX1_volumeAbove (wsV RX1 48 RX1 yX1_isQuad wsX1_isQuad) := goodIn_app (goodIn_of _ (by decide +kernel)) ggX1_volumeAbove_X1_isQuad
set_option maxRecDepth 20000 in
theorem ggX1_volumeAbove_X1_sumOfBoth : GoodIn wsX1_volumeAbove wsX1_sumOfBoth := goodIn_r _ [17, 18, 19, 20, 6, 21, 12, 22] (by decide +kernel) (by decide +kernel)
set_option maxRecDepth 20000 in
theorem gX1_volumeAbove_X1_sumOfBoth : GoodIn wsX1_volumeAbove (wsV RX1 51 RX1 yX1_sumOfBoth wsX1_sumOfBoth) := goodIn_app (goodIn_of _ (by decide +kernel)) ggX1_volumeAbove_X1_sumOfBoth
set_option maxRecDepth 20000 in
theorem ggX1_sumOfBoth_X1_at : GoodIn wsX1_sumOfBoth wsX1_at := goodIn_r _ [5, 6, 7] (by decide +kernel) (by decide +kernel)
set_option maxRecDepth 20000 in
theorem gX1_sumOfBoth_X1_at : GoodIn wsX1_sumOfBoth (wsV RX1 58 RX1 yX1_at wsX1_at) := goodIn_app (goodIn_of _ (by decide +kernel)) ggX1_sumOfBoth_X1_at
set_option maxRecDepth 20000 in
theorem ggX1_countBoth_X1_bothFilled : GoodIn wsX1_countBoth wsX1_bothFilled := goodIn_r _ [6, 1, 7, 8] (by decide +kernel) (by decide +kernel)
set_option maxRecDepth 20000 in
theorem gX1_countBoth_X1_bothFilled : GoodIn wsX1_countBoth (wsV RX1 61 RX1 yX1_bothFilled wsX1_bothFilled) := goodIn_app (goodIn_of _ (by decide +kernel)) ggX1_countBoth_X1_bothFilled
set_option maxRecDepth 20000 in
theorem ggX1_countRisen_X1_bothFilled : GoodIn wsX1_countRisen wsX1_bothFilled := goodIn_r _ [6, 1, 7, 8] (by decide +kernel) (by decide +kernel)
set_option maxRecDepth 20000 in
theorem gX1_countRisen_X1_bothFilled : GoodIn wsX1_countRisen (wsV RX1 61 RX1 yX1_bothFilled wsX1_bothFilled) := goodIn_app (goodIn_of _ (by decide +kernel)) ggX1_countRisen_X1_bothFilled
set_option maxRecDepth 20000 in
theorem ggX1_sumOfRises_X1_bothFilled : GoodIn wsX1_sumOfRises wsX1_bothFilled := goodIn_r _ [6, 1, 7, 8] (by decide +kernel) (by decide +kernel)
set_option maxRecDepth 20000 in
theorem gX1_sumOfRises_X1_bothFilled : GoodIn wsX1_sumOfRises (wsV RX1 61 RX1 yX1_bothFilled wsX1_bothFilled) := goodIn_app (goodIn_of _ (by decide +kernel)) ggX1_sumOfRises_X1_bothFilled
set_option maxRecDepth 20000 in
theorem ggX3_countLines_X3_isCrossed : GoodIn wsX3_countLines wsX3_isCrossed := goodIn_r _ [6, 7, 8, 9, 5, 10, 11, 12, 13, 14, 15, 16, 17, 18, 19, 20, 21, 22, 23, 24, 25, 26, 27, 28, 29, 30, 31, 32, 33, 34, 35, 36, 37, 63] (by decide +kernel) (by decide +kernel)
set_option maxRecDepth 20000 in
theorem gX3_countLines_X3_isCrossed : GoodIn wsX3_countLines (wsV RX3 23 RX3 yX3_isCrossed wsX3_isCrossed) := goodIn_app (goodIn_of _ (by decide +kernel)) ggX3_countLines_X3_isCrossed
set_option maxRecDepth 20000 in
theorem ggX3_countLines_X3_walkFrom : GoodIn wsX3_countLines wsX3_walkFrom := goodIn_r _ [41, 42, 43, 44, 45, 46, 5, 47, 1, 48, 49, 50, 51, 26, 27, 28, 29, 7, 8, 9, 10, 11, 12, 13, 14, 30, 31, 32, 33, 34, 35, 36, 18, 37, 24, 52, 53, 54, 55, 56, 57, 58, 59, 15, 16, 17, 19, 20, 21, 22, 23, 25, 60, 61, 62, 63] (by decide +kernel) (by decide +kernel)
set_option maxRecDepth 20000 in
theorem gX3_countLines_X3_walkFrom : GoodIn wsX3_countLines (wsV RX3 27 RX3 yX3_walkFrom wsX3_walkFrom) := goodIn_app (goodIn_of _ (by decide +kernel)) ggX3_countLines_X3_walkFrom
set_option maxRecDepth 20000 in
theorem ggX3_walkFrom_X3_enqueue : GoodIn wsX3_walkFrom wsX3_enqueue := goodIn_r _ [7, 8, 1, 2, 52, 53, 54] (by decide +kernel) (by decide +kernel)
set_option maxRecDepth 20000 in
theorem gX3_walkFrom_X3_enqueue : GoodIn wsX3_walkFrom (wsV RX3 30 RX3 yX3_enqueue wsX3_enqueue) := goodIn_app (goodIn_of _ (by decide +kernel)) ggX3_walkFrom_X3_enqueue
set_option maxRecDepth 20000 in
theorem ggX3_walkFrom_X3_isEdgeCrossed : GoodIn wsX3_walkFrom wsX3_isEdgeCrossed := goodIn_r _ [12, 13, 14, 15, 6, 16, 17, 18, 19, 20, 21, 22, 23, 24, 25, 26, 27, 28, 29, 30, 31, 32, 33, 34, 55] (by decide +kernel) (by decide +kernel)
set_option maxRecDepth 20000 in
theorem gX3_walkFrom_X3_isEdgeCrossed : GoodIn wsX3_walkFrom (wsV RX3 34 RX3 yX3_isEdgeCrossed wsX3_isEdgeCrossed) := goodIn_app (goodIn_of _ (by decide +kernel)) ggX3_walkFrom_X3_isEdgeCrossed
set_option maxRecDepth 20000 in
theorem ggX3_walkFrom_X3_beyond : GoodIn wsX3_walkFrom wsX3_beyond := goodIn_r _ [38, 17, 18, 19, 6, 20, 21, 22, 23, 24, 25, 26, 27, 28, 39, 40, 41, 42, 43, 44, 45, 32, 46, 47, 48, 49, 50, 34, 51, 55] (by decide +kernel) (by decide +kernel)
set_option maxRecDepth 20000 in
theorem gX3_walkFrom_X3_beyond : GoodIn wsX3_walkFrom (wsV RX3 38 RX3 yX3_beyond wsX3_beyond) := goodIn_app (goodIn_of _ (by decide +kernel)) ggX3_walkFrom_X3_beyond
set_option maxRecDepth 20000 in
theorem ggX3_isCrossed_X3_column : GoodIn wsX3_isCrossed wsX3_column := goodIn_r _ [5] (by decide +kernel) (by decide +kernel)
set_option maxRecDepth 20000 in
theorem gX3_isCrossed_X3_column : GoodIn wsX3_isCrossed (wsV RX3 42 RX3 yX3_column wsX3_column) := goodIn_app (goodIn_of _ (by decide +kernel)) ggX3_isCrossed_X3_column
set_option maxRecDepth 20000 in
theorem ggX3_isCrossed_X3_row : GoodIn wsX3_isCrossed wsX3_row := goodIn_r _ [9] (by decide +kernel) (by decide +kernel)
set_option maxRecDepth 20000 in
theorem gX3_isCrossed_X3_row : GoodIn wsX3_isCrossed (wsV RX3 46 RX3 yX3_row wsX3_row) := goodIn_app (goodIn_of _ (by decide +kernel)) ggX3_isCrossed_X3_row
set_option maxRecDepth 20000 in
theorem ggX3_isCrossed_X1_isQuad : GoodIn wsX3_isCrossed wsX1_isQuad := goodIn_r _ [14, 15, 16, 17, 13, 18, 19, 20, 33] (by decide +kernel) (by decide +kernel)
set_option maxRecDepth 20000 in
theorem gX3_isCrossed_X1_isQuad : GoodIn wsX3_isCrossed (wsV RX3 49 RX1 yX1_isQuad wsX1_isQuad) := goodIn_app (goodIn_of _ (by decide +kernel)) ggX3_isCrossed_X1_isQuad
set_option maxRecDepth 20000 in
theorem ggX3_isCrossed_X3_isAbove : GoodIn wsX3_isCrossed wsX3_isAbove := goodIn_r _ [24, 1, 2, 3, 4, 5, 6, 7, 8, 9, 25, 26, 27, 28, 29, 30, 31, 13, 32, 19, 33] (by decide +kernel) (by decide +kernel)
set_option maxRecDepth 20000 in
theorem gX3_isCrossed_X3_isAbove : GoodIn wsX3_isCrossed (wsV RX3 53 RX3 yX3_isAbove wsX3_isAbove) := goodIn_app (goodIn_of _ (by decide +kernel)) ggX3_isCrossed_X3_isAbove
set_option maxRecDepth 20000 in
theorem ggX3_isEdgeCrossed_X3_isAbove : GoodIn wsX3_isEdgeCrossed wsX3_isAbove := goodIn_r _ [5, 6, 7, 8, 4, 9, 10, 11, 12, 13, 14, 15, 16, 17, 18, 19, 20, 21, 22, 23, 24] (by decide +kernel) (by decide +kernel)
set_option maxRecDepth 20000 in
theorem gX3_isEdgeCrossed_X3_isAbove : GoodIn wsX3_isEdgeCrossed (wsV RX3 53 RX3 yX3_isAbove wsX3_isAbove) := goodIn_app (goodIn_of _ (by decide +kernel)) ggX3_isEdgeCrossed_X3_isAbove
set_option maxRecDepth 20000 in
theorem ggX3_isAbove_X3_column : GoodIn wsX3_isAbove wsX3_column := goodIn_r _ [5] (by decide +kernel) (by decide +kernel)
set_option maxRecDepth 20000 in
theorem gX3_isAbove_X3_column : GoodIn wsX3_isAbove (wsV RX3 42 RX3 yX3_column wsX3_column) := goodIn_app (goodIn_of _ (by decide +kernel)) ggX3_isAbove_X3_column
set_option maxRecDepth 20000 in
theorem ggX3_isAbove_X3_row : GoodIn wsX3_isAbove wsX3_row := goodIn_r _ [9] (by decide +kernel) (by decide +kernel)
set_option maxRecDepth 20000 in
theorem gX3_isAbove_X3_row : GoodIn wsX3_isAbove (wsV RX3 46 RX3 yX3_row wsX3_row) := goodIn_app (goodIn_of _ (by decide +kernel)) ggX3_isAbove_X3_row
set_option maxRecDepth 20000 in
theorem ggX3_isAbove_X3_isUpper : GoodIn wsX3_isAbove wsX3_isUpper := goodIn_r _ [13] (by decide +kernel) (by decide +kernel)
set_option maxRecDepth 20000 in
theorem gX3_isAbove_X3_isUpper : GoodIn wsX3_isAbove (wsV RX3 56 RX3 yX3_isUpper wsX3_isUpper) := goodIn_app (goodIn_of _ (by decide +kernel)) ggX3_isAbove_X3_isUpper
set_option maxRecDepth 20000 in
theorem ggX3_isAbove_X1_at : GoodIn wsX3_isAbove wsX1_at := goodIn_r _ [18, 19, 20] (by decide +kernel) (by decide +kernel)
set_option maxRecDepth 20000 in
theorem gX3_isAbove_X1_at : GoodIn wsX3_isAbove (wsV RX3 60 RX1 yX1_at wsX1_at) := goodIn_app (goodIn_of _ (by decide +kernel)) ggX3_isAbove_X1_at
set_option maxRecDepth 20000 in
theorem ggX3_beyond_X3_column : GoodIn wsX3_beyond wsX3_column := goodIn_r _ [5] (by decide +kernel) (by decide +kernel)
set_option maxRecDepth 20000 in
theorem gX3_beyond_X3_column : GoodIn wsX3_beyond (wsV RX3 42 RX3 yX3_column wsX3_column) := goodIn_app (goodIn_of _ (by decide +kernel)) ggX3_beyond_X3_column
set_option maxRecDepth 20000 in
theorem ggX3_beyond_X3_row : GoodIn wsX3_beyond wsX3_row := goodIn_r _ [9] (by decide +kernel) (by decide +kernel)
set_option maxRecDepth 20000 in
theorem gX3_beyond_X3_row : GoodIn wsX3_beyond (wsV RX3 46 RX3 yX3_row wsX3_row) := goodIn_app (goodIn_of _ (by decide +kernel)) ggX3_beyond_X3_row
set_option maxRecDepth 20000 in
theorem ggX3_beyond_X3_isUpper : GoodIn wsX3_beyond wsX3_isUpper := goodIn_r _ [13] (by decide +kernel) (by decide +kernel)
set_option maxRecDepth 20000 in
theorem gX3_beyond_X3_isUpper : GoodIn wsX3_beyond (wsV RX3 56 RX3 yX3_isUpper wsX3_isUpper) := goodIn_app (goodIn_of _ (by decide +kernel)) ggX3_beyond_X3_isUpper
set_option maxRecDepth 20000 in
theorem ggX3_beyond_X3_thirdAt : GoodIn wsX3_beyond wsX3_thirdAt := goodIn_r _ [17, 18, 19, 20, 21, 22, 23, 24, 25, 26, 27, 28, 29] (by decide +kernel) (by decide +kernel)
set_option maxRecDepth 20000 in
theorem gX3_beyond_X3_thirdAt : GoodIn wsX3_beyond (wsV RX3 64 RX3 yX3_thirdAt wsX3_thirdAt) := goodIn_app (goodIn_of _ (by decide +kernel)) ggX3_beyond_X3_thirdAt
set_option maxRecDepth 20000 in
theorem ggX3_thirdAt_X1_isQuad : GoodIn wsX3_thirdAt wsX1_isQuad := goodIn_r _ [5, 6, 7, 8, 4, 9, 10, 11, 12] (by decide +kernel) (by decide +kernel)
set_option maxRecDepth 20000 in
theorem gX3_thirdAt_X1_isQuad : GoodIn wsX3_thirdAt (wsV RX3 49 RX1 yX1_isQuad wsX1_isQuad) := goodIn_app (goodIn_of _ (by decide +kernel)) ggX3_thirdAt_X1_isQuad
set_option maxRecDepth 20000 in
theorem ggX5_renew_J7_fill_53178 : GoodIn wsX5_renew wsJ7_fill_53178 := goodIn_r _ [7] (by decide +kernel) (by decide +kernel)
set_option maxRecDepth 20000 in
theorem gX5_renew_J7_fill_53178 : GoodIn wsX5_renew (va_wsS RX5 20 yJ7_fill_53178 wsJ7_fill_53178) := goodIn_app (goodIn_of _ (by decide +kernel)) ggX5_renew_J7_fill_53178
set_option maxRecDepth 20000 in
theorem ggX7_canTake_X7_isPoint : GoodIn wsX7_canTake wsX7_isPoint := goodIn_r _ [5, 6, 7, 8, 9, 10, 11, 12, 13, 14, 15, 16, 17, 18, 19] (by decide +kernel) (by decide +kernel)
set_option maxRecDepth 20000 in
theorem gX7_canTake_X7_isPoint : GoodIn wsX7_canTake (wsV RX7 44 RX7 yX7_isPoint wsX7_isPoint) := goodIn_app (goodIn_of _ (by decide +kernel)) ggX7_canTake_X7_isPoint
set_option maxRecDepth 20000 in
theorem ggX7_isPoint_X8_tileOf : GoodIn wsX7_isPoint wsX8_tileOf := goodIn_r _ [4] (by decide +kernel) (by decide +kernel)
set_option maxRecDepth 20000 in
theorem gX7_isPoint_X8_tileOf_n48 : GoodIn wsX7_isPoint (wsX8_tileOf) := ggX7_isPoint_X8_tileOf
set_option maxRecDepth 20000 in
theorem ggX7_take_X7_settle : GoodIn wsX7_take wsX7_settle := goodIn_r _ [11, 12, 13, 14, 15, 16, 17, 18, 19, 20, 21, 22, 23] (by decide +kernel) (by decide +kernel)
set_option maxRecDepth 20000 in
theorem gX7_take_X7_settle : GoodIn wsX7_take (wsV RX7 52 RX7 yX7_settle wsX7_settle) := goodIn_app (goodIn_of _ (by decide +kernel)) ggX7_take_X7_settle
set_option maxRecDepth 20000 in
theorem ggX7_growGround_X7_startFromSeeds : GoodIn wsX7_growGround wsX7_startFromSeeds := goodIn_r _ [6, 1, 7, 8, 9, 10, 5, 11, 12, 13, 14, 15, 16, 17, 18, 19, 20, 21, 22, 23, 24, 25, 26, 27, 28, 29, 54, 55, 56, 57, 58, 59, 60, 61, 62, 63] (by decide +kernel) (by decide +kernel)
set_option maxRecDepth 20000 in
theorem gX7_growGround_X7_startFromSeeds : GoodIn wsX7_growGround (wsV RX7 71 RX7 yX7_startFromSeeds wsX7_startFromSeeds) := goodIn_app (goodIn_of _ (by decide +kernel)) ggX7_growGround_X7_startFromSeeds
set_option maxRecDepth 20000 in
theorem ggX7_growGround_X7_spread : GoodIn wsX7_growGround wsX7_spread := goodIn_r _ [33, 1, 12, 7, 34, 35, 36, 5, 37, 13, 38, 39, 40, 41, 42, 43, 44, 45, 18, 19, 46, 47, 48, 49, 23, 24, 25, 26, 27, 28, 29, 8, 9, 10, 11, 54, 55, 56, 57, 58, 59, 60, 61, 62, 63] (by decide +kernel) (by decide +kernel)
set_option maxRecDepth 20000 in
theorem gX7_growGround_X7_spread : GoodIn wsX7_growGround (wsV RX7 74 RX7 yX7_spread wsX7_spread) := goodIn_app (goodIn_of _ (by decide +kernel)) ggX7_growGround_X7_spread
set_option maxRecDepth 20000 in
theorem ggX7_growGround_X7_countKind : GoodIn wsX7_growGround wsX7_countKind := goodIn_r _ [53, 1, 12, 54, 55, 56, 57, 58, 59, 60, 61, 62, 63] (by decide +kernel) (by decide +kernel)
set_option maxRecDepth 20000 in
theorem gX7_growGround_X7_countKind : GoodIn wsX7_growGround (wsV RX7 77 RX7 yX7_countKind wsX7_countKind) := goodIn_app (goodIn_of _ (by decide +kernel)) ggX7_growGround_X7_countKind
set_option maxRecDepth 20000 in
theorem ggX7_startFromSeeds_X7_settle : GoodIn wsX7_startFromSeeds wsX7_settle := goodIn_r _ [7, 8, 9, 26, 27, 28, 29, 30, 31, 32, 33, 34, 35] (by decide +kernel) (by decide +kernel)
set_option maxRecDepth 20000 in
theorem gX7_startFromSeeds_X7_settle : GoodIn wsX7_startFromSeeds (wsV RX7 52 RX7 yX7_settle wsX7_settle) := goodIn_app (goodIn_of _ (by decide +kernel)) ggX7_startFromSeeds_X7_settle
set_option maxRecDepth 20000 in
theorem ggX7_startFromSeeds_X7_lowestOf : GoodIn wsX7_startFromSeeds wsX7_lowestOf := goodIn_r _ [13, 1, 2, 14, 15, 16, 17, 18, 19, 20, 21, 6, 22, 23, 24, 25, 26, 27, 28, 29, 30, 31, 32, 33, 34, 35] (by decide +kernel) (by decide +kernel)
set_option maxRecDepth 20000 in
theorem gX7_startFromSeeds_X7_lowestOf : GoodIn wsX7_startFromSeeds (wsV RX7 80 RX7 yX7_lowestOf wsX7_lowestOf) := goodIn_app (goodIn_of _ (by decide +kernel)) ggX7_startFromSeeds_X7_lowestOf
set_option maxRecDepth 20000 in
theorem ggX7_lowestOf_X8_tileOf : GoodIn wsX7_lowestOf wsX8_tileOf := goodIn_r _ [7] (by decide +kernel) (by decide +kernel)
set_option maxRecDepth 20000 in
theorem gX7_lowestOf_X8_tileOf_n48 : GoodIn wsX7_lowestOf (wsX8_tileOf) := ggX7_lowestOf_X8_tileOf
set_option maxRecDepth 20000 in
theorem ggX7_lowestOf_X7_height : GoodIn wsX7_lowestOf wsX7_height := goodIn_r _ [12, 13, 14, 15, 16, 17, 18, 19, 20, 21, 22, 23, 24, 25] (by decide +kernel) (by decide +kernel)
set_option maxRecDepth 20000 in
theorem gX7_lowestOf_X7_height : GoodIn wsX7_lowestOf (wsV RX7 68 RX7 yX7_height wsX7_height) := goodIn_app (goodIn_of _ (by decide +kernel)) ggX7_lowestOf_X7_height
set_option maxRecDepth 20000 in
theorem ggX7_spread_X7_isReached : GoodIn wsX7_spread wsX7_isReached := goodIn_r _ [8, 1, 9, 10, 11, 12, 7, 13, 14, 15, 16, 17, 18, 19, 20, 21, 22, 23, 24, 25, 26, 27, 28, 29, 30, 35, 36, 37, 38, 39, 40, 41, 42, 43, 44] (by decide +kernel) (by decide +kernel)
set_option maxRecDepth 20000 in
theorem gX7_spread_X7_isReached : GoodIn wsX7_spread (wsV RX7 83 RX7 yX7_isReached wsX7_isReached) := goodIn_app (goodIn_of _ (by decide +kernel)) ggX7_spread_X7_isReached
set_option maxRecDepth 20000 in
theorem ggX7_spread_X7_settle : GoodIn wsX7_spread wsX7_settle := goodIn_r _ [34, 2, 9, 35, 36, 37, 38, 39, 40, 41, 42, 43, 44] (by decide +kernel) (by decide +kernel)
set_option maxRecDepth 20000 in
theorem gX7_spread_X7_settle : GoodIn wsX7_spread (wsV RX7 52 RX7 yX7_settle wsX7_settle) := goodIn_app (goodIn_of _ (by decide +kernel)) ggX7_spread_X7_settle
set_option maxRecDepth 20000 in
theorem ggX7_isReached_X7_isNear : GoodIn wsX7_isReached wsX7_isNear := goodIn_r _ [7, 8, 9, 10, 6, 11, 12, 13, 25, 26, 27, 28, 29, 30, 31, 32, 33, 34] (by decide +kernel) (by decide +kernel)
set_option maxRecDepth 20000 in
theorem gX7_isReached_X7_isNear : GoodIn wsX7_isReached (wsV RX7 87 RX7 yX7_isNear wsX7_isNear) := goodIn_app (goodIn_of _ (by decide +kernel)) ggX7_isReached_X7_isNear
set_option maxRecDepth 20000 in
theorem ggX7_isReached_X7_isEven : GoodIn wsX7_isReached wsX7_isEven := goodIn_r _ [17, 18, 19, 20, 6, 21, 22, 23, 24, 8, 9, 10, 11, 12, 13, 25, 26, 27, 28, 29, 30, 31, 32, 33, 34] (by decide +kernel) (by decide +kernel)
set_option maxRecDepth 20000 in
theorem gX7_isReached_X7_isEven : GoodIn wsX7_isReached (wsV RX7 91 RX7 yX7_isEven wsX7_isEven) := goodIn_app (goodIn_of _ (by decide +kernel)) ggX7_isReached_X7_isEven
set_option maxRecDepth 20000 in
theorem ggX7_isNear_X7_squareOfWay : GoodIn wsX7_isNear wsX7_squareOfWay := goodIn_r _ [5, 6, 7, 8, 9, 10, 11, 12, 13, 14, 15, 16, 17] (by decide +kernel) (by decide +kernel)
set_option maxRecDepth 20000 in
theorem gX7_isNear_X7_squareOfWay : GoodIn wsX7_isNear (wsV RX7 94 RX7 yX7_squareOfWay wsX7_squareOfWay) := goodIn_app (goodIn_of _ (by decide +kernel)) ggX7_isNear_X7_squareOfWay
set_option maxRecDepth 20000 in
theorem ggX7_isEven_X7_height : GoodIn wsX7_isEven wsX7_height := goodIn_r _ [5, 6, 7, 8, 15, 16, 17, 18, 19, 20, 21, 22, 23, 24] (by decide +kernel) (by decide +kernel)
set_option maxRecDepth 20000 in
theorem gX7_isEven_X7_height : GoodIn wsX7_isEven (wsV RX7 68 RX7 yX7_height wsX7_height) := goodIn_app (goodIn_of _ (by decide +kernel)) ggX7_isEven_X7_height
set_option maxRecDepth 20000 in
theorem ggX7_isEven_X7_squareOfWay : GoodIn wsX7_isEven wsX7_squareOfWay := goodIn_r _ [12, 13, 14, 15, 16, 17, 18, 19, 20, 21, 22, 23, 24] (by decide +kernel) (by decide +kernel)
set_option maxRecDepth 20000 in
theorem gX7_isEven_X7_squareOfWay : GoodIn wsX7_isEven (wsV RX7 94 RX7 yX7_squareOfWay wsX7_squareOfWay) := goodIn_app (goodIn_of _ (by decide +kernel)) ggX7_isEven_X7_squareOfWay
set_option maxRecDepth 20000 in
theorem ggX8_init_X6_init : GoodIn wsX8_init wsX6_init := goodIn_r _ [38, 39, 2, 3, 40, 41, 42, 120, 121] (by decide +kernel) (by decide +kernel)
set_option maxRecDepth 20000 in
theorem gX8_init_X6_init_n23 : GoodIn wsX8_init (wsX6_init) := ggX8_init_X6_init
set_option maxRecDepth 20000 in
theorem ggX8_init_X2_init : GoodIn wsX8_init wsX2_init := goodIn_r _ [44, 45, 2, 3, 40, 46, 47, 48, 49, 50, 51, 52, 53, 54, 55, 122, 123, 124, 125, 126, 127, 128, 129, 130] (by decide +kernel) (by decide +kernel)
set_option maxRecDepth 20000 in
theorem gX8_init_X2_init_n30 : GoodIn wsX8_init (wsX2_init) := ggX8_init_X2_init
set_option maxRecDepth 20000 in
theorem ggX8_init_X0_init : GoodIn wsX8_init wsX0_init := goodIn_r _ [57, 58, 2, 3, 47, 59, 60, 61, 62, 63, 64, 131, 132, 133, 134] (by decide +kernel) (by decide +kernel)
set_option maxRecDepth 20000 in
theorem gX8_init_X0_init_n37 : GoodIn wsX8_init (wsX0_init) := ggX8_init_X0_init
set_option maxRecDepth 20000 in
theorem ggX8_init_X4_init : GoodIn wsX8_init wsX4_init := goodIn_r _ [66, 67, 2, 3, 47, 68, 69, 70, 71, 72, 73, 74, 75, 76, 77, 78, 79, 80, 135, 136, 137, 138, 139, 140, 141, 142, 143, 144, 145, 146, 147] (by decide +kernel) (by decide +kernel)
set_option maxRecDepth 20000 in
theorem gX8_init_X4_init_n44 : GoodIn wsX8_init (wsX4_init) := ggX8_init_X4_init
set_option maxRecDepth 20000 in
theorem ggX8_init_X3_init : GoodIn wsX8_init wsX3_init := goodIn_r _ [82, 83, 2, 3, 84, 85, 47, 86, 87, 148, 149, 150] (by decide +kernel) (by decide +kernel)
set_option maxRecDepth 20000 in
theorem gX8_init_X3_init_n51 : GoodIn wsX8_init (wsX3_init) := ggX8_init_X3_init
set_option maxRecDepth 20000 in
theorem ggX8_init_X1_init : GoodIn wsX8_init wsX1_init := goodIn_r _ [89, 90, 2, 3, 47, 91, 151] (by decide +kernel) (by decide +kernel)
set_option maxRecDepth 20000 in
theorem gX8_init_X1_init_n58 : GoodIn wsX8_init (wsX1_init) := ggX8_init_X1_init
set_option maxRecDepth 20000 in
theorem ggX8_init_X5_init : GoodIn wsX8_init wsX5_init := goodIn_r _ [93, 94, 2, 3, 47, 95, 96, 97, 152, 153, 154] (by decide +kernel) (by decide +kernel)
set_option maxRecDepth 20000 in
theorem gX8_init_X5_init_n66 : GoodIn wsX8_init (wsX5_init) := ggX8_init_X5_init
set_option maxRecDepth 20000 in
theorem ggX8_init_X7_init : GoodIn wsX8_init wsX7_init := goodIn_r _ [99, 100, 2, 3, 47, 101, 102, 103, 104, 105, 106, 107, 108, 84, 109, 110, 155, 156, 157, 158, 159, 160, 161, 162, 163, 164] (by decide +kernel) (by decide +kernel)
set_option maxRecDepth 20000 in
theorem gX8_init_X7_init_n67 : GoodIn wsX8_init (wsX7_init) := ggX8_init_X7_init
set_option maxRecDepth 20000 in
theorem ggX8_sheet_X8_isSheet : GoodIn wsX8_sheet wsX8_isSheet := goodIn_r _ [5] (by decide +kernel) (by decide +kernel)
set_option maxRecDepth 20000 in
theorem gX8_sheet_X8_isSheet : GoodIn wsX8_sheet (va_wsS RX8 68 yX8_isSheet wsX8_isSheet) := goodIn_app (goodIn_of _ (by decide +kernel)) ggX8_sheet_X8_isSheet
set_option maxRecDepth 20000 in
theorem ggX8_sheet_X8_isLane : GoodIn wsX8_sheet wsX8_isLane := goodIn_r _ [8] (by decide +kernel) (by decide +kernel)
set_option maxRecDepth 20000 in
theorem gX8_sheet_X8_isLane : GoodIn wsX8_sheet (va_wsS RX8 72 yX8_isLane wsX8_isLane) := goodIn_app (goodIn_of _ (by decide +kernel)) ggX8_sheet_X8_isLane
set_option maxRecDepth 20000 in
theorem ggX8_sheet_X5_renew : GoodIn wsX8_sheet wsX5_renew := goodIn_r _ [13, 14, 15, 16, 17, 18, 19, 20, 30, 31, 32] (by decide +kernel) (by decide +kernel)
set_option maxRecDepth 20000 in
theorem gX8_sheet_X5_renew : GoodIn wsX8_sheet (wsV RX8 75 RX5 yX5_renew wsX5_renew) := goodIn_app (goodIn_of _ (by decide +kernel)) ggX8_sheet_X5_renew
set_option maxRecDepth 20000 in
theorem ggX8_item_X8_isSheet : GoodIn wsX8_item wsX8_isSheet := goodIn_r _ [6] (by decide +kernel) (by decide +kernel)
set_option maxRecDepth 20000 in
theorem gX8_item_X8_isSheet : GoodIn wsX8_item (va_wsS RX8 68 yX8_isSheet wsX8_isSheet) := goodIn_app (goodIn_of _ (by decide +kernel)) ggX8_item_X8_isSheet
set_option maxRecDepth 20000 in
theorem ggX8_item_X8_isLane : GoodIn wsX8_item wsX8_isLane := goodIn_r _ [9] (by decide +kernel) (by decide +kernel)
set_option maxRecDepth 20000 in
theorem gX8_item_X8_isLane : GoodIn wsX8_item (va_wsS RX8 72 yX8_isLane wsX8_isLane) := goodIn_app (goodIn_of _ (by decide +kernel)) ggX8_item_X8_isLane
set_option maxRecDepth 20000 in
theorem ggX8_item_X5_holds : GoodIn wsX8_item wsX5_holds := goodIn_r _ [14, 15, 35, 36, 37] (by decide +kernel) (by decide +kernel)
set_option maxRecDepth 20000 in
theorem gX8_item_X5_holds : GoodIn wsX8_item (wsV RX8 79 RX5 yX5_holds wsX5_holds) := goodIn_app (goodIn_of _ (by decide +kernel)) ggX8_item_X5_holds
set_option maxRecDepth 20000 in
theorem ggX8_item_X5_hasRange : GoodIn wsX8_item wsX5_hasRange := goodIn_r _ [19, 20, 35, 36, 37] (by decide +kernel) (by decide +kernel)
set_option maxRecDepth 20000 in
theorem gX8_item_X5_hasRange : GoodIn wsX8_item (wsV RX8 93 RX5 yX5_hasRange wsX5_hasRange) := goodIn_app (goodIn_of _ (by decide +kernel)) ggX8_item_X5_hasRange
set_option maxRecDepth 20000 in
theorem ggX8_item_X5_put : GoodIn wsX8_item wsX5_put := goodIn_r _ [24, 15, 25, 35, 36, 37] (by decide +kernel) (by decide +kernel)
set_option maxRecDepth 20000 in
theorem gX8_item_X5_put : GoodIn wsX8_item (wsV RX8 97 RX5 yX5_put wsX5_put) := goodIn_app (goodIn_of _ (by decide +kernel)) ggX8_item_X5_put
set_option maxRecDepth 20000 in
theorem ggX8_points_X8_isYear : GoodIn wsX8_points wsX8_isYear := goodIn_r _ [9] (by decide +kernel) (by decide +kernel)
set_option maxRecDepth 20000 in
theorem gX8_points_X8_isYear : GoodIn wsX8_points (va_wsS RX8 110 yX8_isYear wsX8_isYear) := goodIn_app (goodIn_of _ (by decide +kernel)) ggX8_points_X8_isYear
set_option maxRecDepth 20000 in
theorem ggX8_points_X8_isSheet : GoodIn wsX8_points wsX8_isSheet := goodIn_r _ [12] (by decide +kernel) (by decide +kernel)
set_option maxRecDepth 20000 in
theorem gX8_points_X8_isSheet : GoodIn wsX8_points (va_wsS RX8 68 yX8_isSheet wsX8_isSheet) := goodIn_app (goodIn_of _ (by decide +kernel)) ggX8_points_X8_isSheet
set_option maxRecDepth 20000 in
theorem ggX8_points_X8_isLane : GoodIn wsX8_points wsX8_isLane := goodIn_r _ [15] (by decide +kernel) (by decide +kernel)
set_option maxRecDepth 20000 in
theorem gX8_points_X8_isLane : GoodIn wsX8_points (va_wsS RX8 72 yX8_isLane wsX8_isLane) := goodIn_app (goodIn_of _ (by decide +kernel)) ggX8_points_X8_isLane
set_option maxRecDepth 20000 in
theorem ggX8_points_X5_holds : GoodIn wsX8_points wsX5_holds := goodIn_r _ [20, 21, 64, 65, 66] (by decide +kernel) (by decide +kernel)
set_option maxRecDepth 20000 in
theorem gX8_points_X5_holds : GoodIn wsX8_points (wsV RX8 79 RX5 yX5_holds wsX5_holds) := goodIn_app (goodIn_of _ (by decide +kernel)) ggX8_points_X5_holds
set_option maxRecDepth 20000 in
theorem ggX8_points_X5_hasRange : GoodIn wsX8_points wsX5_hasRange := goodIn_r _ [25, 26, 64, 65, 66] (by decide +kernel) (by decide +kernel)
set_option maxRecDepth 20000 in
theorem gX8_points_X5_hasRange : GoodIn wsX8_points (wsV RX8 93 RX5 yX5_hasRange wsX5_hasRange) := goodIn_app (goodIn_of _ (by decide +kernel)) ggX8_points_X5_hasRange
set_option maxRecDepth 20000 in
theorem ggX8_points_X7_canTake : GoodIn wsX8_points wsX7_canTake := goodIn_r _ [31, 32, 33, 34, 30, 35, 36, 37, 8, 38, 67, 68, 69, 70, 71, 72, 73, 74, 75, 76] (by decide +kernel) (by decide +kernel)
set_option maxRecDepth 20000 in
theorem gX8_points_X7_canTake : GoodIn wsX8_points (wsV RX8 113 RX7 yX7_canTake wsX7_canTake) := goodIn_app (goodIn_of _ (by decide +kernel)) ggX8_points_X7_canTake
set_option maxRecDepth 20000 in
theorem ggX8_points_X7_take : GoodIn wsX8_points wsX7_take := goodIn_r _ [42, 43, 44, 45, 46, 47, 48, 49, 50, 51, 30, 52, 53, 54, 67, 68, 69, 70, 71, 72, 73, 74, 75, 76] (by decide +kernel) (by decide +kernel)
set_option maxRecDepth 20000 in
theorem gX8_points_X7_take : GoodIn wsX8_points (wsV RX8 118 RX7 yX7_take wsX7_take) := goodIn_app (goodIn_of _ (by decide +kernel)) ggX8_points_X7_take
set_option maxRecDepth 20000 in
theorem ggX8_told_X8_isYear : GoodIn wsX8_told wsX8_isYear := goodIn_r _ [11] (by decide +kernel) (by decide +kernel)
set_option maxRecDepth 20000 in
theorem gX8_told_X8_isYear : GoodIn wsX8_told (va_wsS RX8 110 yX8_isYear wsX8_isYear) := goodIn_app (goodIn_of _ (by decide +kernel)) ggX8_told_X8_isYear
set_option maxRecDepth 20000 in
theorem ggX8_told_X7_hasPoint : GoodIn wsX8_told wsX7_hasPoint := goodIn_r _ [16, 17, 34, 35, 36, 37, 38, 39, 40, 41, 42, 43] (by decide +kernel) (by decide +kernel)
set_option maxRecDepth 20000 in
theorem gX8_told_X7_hasPoint : GoodIn wsX8_told (wsV RX8 122 RX7 yX7_hasPoint wsX7_hasPoint) := goodIn_app (goodIn_of _ (by decide +kernel)) ggX8_told_X7_hasPoint
set_option maxRecDepth 20000 in
theorem ggX8_told_X7_height : GoodIn wsX8_told wsX7_height := goodIn_r _ [21, 22, 23, 24, 34, 35, 36, 37, 38, 39, 40, 41, 42, 43] (by decide +kernel) (by decide +kernel)
set_option maxRecDepth 20000 in
theorem gX8_told_X7_height : GoodIn wsX8_told (wsV RX8 131 RX7 yX7_height wsX7_height) := goodIn_app (goodIn_of _ (by decide +kernel)) ggX8_told_X7_height
set_option maxRecDepth 20000 in
theorem ggX8_grow_X8_isYear : GoodIn wsX8_grow wsX8_isYear := goodIn_r _ [5] (by decide +kernel) (by decide +kernel)
set_option maxRecDepth 20000 in
theorem gX8_grow_X8_isYear : GoodIn wsX8_grow (va_wsS RX8 110 yX8_isYear wsX8_isYear) := goodIn_app (goodIn_of _ (by decide +kernel)) ggX8_grow_X8_isYear
set_option maxRecDepth 20000 in
theorem ggX8_grow_X7_growGround : GoodIn wsX8_grow wsX7_growGround := goodIn_r _ [10, 11, 12, 13, 14, 9, 15, 16, 17, 18, 19, 20, 21, 22, 23, 24, 25, 26, 27, 28, 29, 4, 30, 31, 32, 33, 34, 35, 36, 37, 38, 39, 40, 41, 42, 43, 44, 45, 46, 47, 48, 49, 50, 51, 52, 53, 54, 55, 56, 57, 58, 59, 60, 61, 71, 72, 73, 74, 75, 76, 77, 78, 79, 80] (by decide +kernel) (by decide +kernel)
set_option maxRecDepth 20000 in
theorem gX8_grow_X7_growGround : GoodIn wsX8_grow (wsV RX8 182 RX7 yX7_growGround wsX7_growGround) := goodIn_app (goodIn_of _ (by decide +kernel)) ggX8_grow_X7_growGround
set_option maxRecDepth 20000 in
theorem ggX8_count_X8_isYear : GoodIn wsX8_count wsX8_isYear := goodIn_r _ [7] (by decide +kernel) (by decide +kernel)
set_option maxRecDepth 20000 in
theorem gX8_count_X8_isYear : GoodIn wsX8_count (va_wsS RX8 110 yX8_isYear wsX8_isYear) := goodIn_app (goodIn_of _ (by decide +kernel)) ggX8_count_X8_isYear
set_option maxRecDepth 20000 in
theorem ggX8_count_X7_countLost : GoodIn wsX8_count wsX7_countLost := goodIn_r _ [12, 13, 63, 64, 65, 66, 67, 68, 69, 70, 71, 72] (by decide +kernel) (by decide +kernel)
set_option maxRecDepth 20000 in
theorem gX8_count_X7_countLost : GoodIn wsX8_count (wsV RX8 190 RX7 yX7_countLost wsX7_countLost) := goodIn_app (goodIn_of _ (by decide +kernel)) ggX8_count_X7_countLost
set_option maxRecDepth 20000 in
theorem ggX8_count_X1_measure : GoodIn wsX8_count wsX1_measure := goodIn_r _ [18, 19, 20, 21, 22, 23, 24, 25, 26, 27, 28, 29, 30, 31, 32, 33, 11, 34, 35, 36, 37, 38, 39, 40, 41, 42, 43, 73, 63, 64, 65, 66, 67, 68, 69, 70, 71, 72] (by decide +kernel) (by decide +kernel)
set_option maxRecDepth 20000 in
theorem gX8_count_X1_measure : GoodIn wsX8_count (wsV RX8 194 RX1 yX1_measure wsX1_measure) := goodIn_app (goodIn_of _ (by decide +kernel)) ggX8_count_X1_measure
set_option maxRecDepth 20000 in
theorem ggX8_count_X1_countFilled : GoodIn wsX8_count wsX1_countFilled := goodIn_r _ [47, 19, 20, 73] (by decide +kernel) (by decide +kernel)
set_option maxRecDepth 20000 in
theorem gX8_count_X1_countFilled : GoodIn wsX8_count (wsV RX8 198 RX1 yX1_countFilled wsX1_countFilled) := goodIn_app (goodIn_of _ (by decide +kernel)) ggX8_count_X1_countFilled
set_option maxRecDepth 20000 in
theorem ggX8_count_X7_countKind : GoodIn wsX8_count wsX7_countKind := goodIn_r _ [51, 52, 53, 63, 64, 65, 66, 67, 68, 69, 70, 71, 72] (by decide +kernel) (by decide +kernel)
set_option maxRecDepth 20000 in
theorem gX8_count_X7_countKind : GoodIn wsX8_count (wsV RX8 201 RX7 yX7_countKind wsX7_countKind) := goodIn_app (goodIn_of _ (by decide +kernel)) ggX8_count_X7_countKind
set_option maxRecDepth 20000 in
theorem ggX8_grid_X8_isYear : GoodIn wsX8_grid wsX8_isYear := goodIn_r _ [6] (by decide +kernel) (by decide +kernel)
set_option maxRecDepth 20000 in
theorem gX8_grid_X8_isYear : GoodIn wsX8_grid (va_wsS RX8 110 yX8_isYear wsX8_isYear) := goodIn_app (goodIn_of _ (by decide +kernel)) ggX8_grid_X8_isYear
set_option maxRecDepth 20000 in
theorem ggX8_grid_X8_isSquare : GoodIn wsX8_grid wsX8_isSquare := goodIn_r _ [9] (by decide +kernel) (by decide +kernel)
set_option maxRecDepth 20000 in
theorem gX8_grid_X8_isSquare : GoodIn wsX8_grid (va_wsS RX8 204 yX8_isSquare wsX8_isSquare) := goodIn_app (goodIn_of _ (by decide +kernel)) ggX8_grid_X8_isSquare
set_option maxRecDepth 20000 in
theorem ggX8_grid_X1_measure : GoodIn wsX8_grid wsX1_measure := goodIn_r _ [14, 15, 16, 17, 18, 19, 20, 21, 22, 23, 24, 25, 26, 27, 28, 29, 30, 31, 32, 33, 34, 35, 36, 37, 38, 39, 40, 54, 55, 56, 57, 58, 59, 60, 61, 62, 63, 64] (by decide +kernel) (by decide +kernel)
set_option maxRecDepth 20000 in
theorem gX8_grid_X1_measure : GoodIn wsX8_grid (wsV RX8 194 RX1 yX1_measure wsX1_measure) := goodIn_app (goodIn_of _ (by decide +kernel)) ggX8_grid_X1_measure
set_option maxRecDepth 20000 in
theorem ggX8_grid_X1_at : GoodIn wsX8_grid wsX1_at := goodIn_r _ [44, 15, 54] (by decide +kernel) (by decide +kernel)
set_option maxRecDepth 20000 in
theorem gX8_grid_X1_at : GoodIn wsX8_grid (wsV RX8 207 RX1 yX1_at wsX1_at) := goodIn_app (goodIn_of _ (by decide +kernel)) ggX8_grid_X1_at
set_option maxRecDepth 20000 in
theorem ggX8_volume_X8_isYear : GoodIn wsX8_volume wsX8_isYear := goodIn_r _ [6] (by decide +kernel) (by decide +kernel)
set_option maxRecDepth 20000 in
theorem gX8_volume_X8_isYear : GoodIn wsX8_volume (va_wsS RX8 110 yX8_isYear wsX8_isYear) := goodIn_app (goodIn_of _ (by decide +kernel)) ggX8_volume_X8_isYear
set_option maxRecDepth 20000 in
theorem ggX8_volume_X8_isLevel : GoodIn wsX8_volume wsX8_isLevel := goodIn_r _ [9] (by decide +kernel) (by decide +kernel)
set_option maxRecDepth 20000 in
theorem gX8_volume_X8_isLevel : GoodIn wsX8_volume (va_wsS RX8 211 yX8_isLevel wsX8_isLevel) := goodIn_app (goodIn_of _ (by decide +kernel)) ggX8_volume_X8_isLevel
set_option maxRecDepth 20000 in
theorem ggX8_volume_X1_measure : GoodIn wsX8_volume wsX1_measure := goodIn_r _ [14, 15, 16, 17, 18, 19, 20, 21, 22, 23, 24, 25, 26, 27, 28, 29, 30, 31, 32, 33, 34, 35, 36, 37, 38, 39, 40, 72, 73, 74, 75, 76, 77, 78, 79, 80, 81, 82] (by decide +kernel) (by decide +kernel)
set_option maxRecDepth 20000 in
theorem gX8_volume_X1_measure : GoodIn wsX8_volume (wsV RX8 194 RX1 yX1_measure wsX1_measure) := goodIn_app (goodIn_of _ (by decide +kernel)) ggX8_volume_X1_measure
set_option maxRecDepth 20000 in
theorem ggX8_volume_X1_volumeAbove : GoodIn wsX8_volume wsX1_volumeAbove := goodIn_r _ [44, 45, 46, 47, 48, 49, 13, 50, 51, 52, 53, 54, 15, 16, 55, 56, 57, 58, 59, 60, 61, 62, 72] (by decide +kernel) (by decide +kernel)
set_option maxRecDepth 20000 in
theorem gX8_volume_X1_volumeAbove : GoodIn wsX8_volume (wsV RX8 214 RX1 yX1_volumeAbove wsX1_volumeAbove) := goodIn_app (goodIn_of _ (by decide +kernel)) ggX8_volume_X1_volumeAbove
set_option maxRecDepth 20000 in
theorem ggX8_thirds_X8_isYear : GoodIn wsX8_thirds wsX8_isYear := goodIn_r _ [6] (by decide +kernel) (by decide +kernel)
set_option maxRecDepth 20000 in
theorem gX8_thirds_X8_isYear : GoodIn wsX8_thirds (va_wsS RX8 110 yX8_isYear wsX8_isYear) := goodIn_app (goodIn_of _ (by decide +kernel)) ggX8_thirds_X8_isYear
set_option maxRecDepth 20000 in
theorem ggX8_thirds_X1_measure : GoodIn wsX8_thirds wsX1_measure := goodIn_r _ [11, 12, 13, 14, 15, 16, 17, 18, 19, 20, 21, 22, 23, 24, 25, 26, 27, 28, 29, 30, 31, 32, 33, 34, 35, 36, 37, 59, 60, 61, 62, 63, 64, 65, 66, 67, 68, 69] (by decide +kernel) (by decide +kernel)
set_option maxRecDepth 20000 in
theorem gX8_thirds_X1_measure : GoodIn wsX8_thirds (wsV RX8 194 RX1 yX1_measure wsX1_measure) := goodIn_app (goodIn_of _ (by decide +kernel)) ggX8_thirds_X1_measure
set_option maxRecDepth 20000 in
theorem ggX8_thirds_X1_countThirds : GoodIn wsX8_thirds wsX1_countThirds := goodIn_r _ [41, 42, 43, 44, 10, 45, 46, 47, 48, 49, 12, 13, 59] (by decide +kernel) (by decide +kernel)
set_option maxRecDepth 20000 in
theorem gX8_thirds_X1_countThirds : GoodIn wsX8_thirds (wsV RX8 218 RX1 yX1_countThirds wsX1_countThirds) := goodIn_app (goodIn_of _ (by decide +kernel)) ggX8_thirds_X1_countThirds
set_option maxRecDepth 20000 in
theorem ggX8_lines_X8_isYear : GoodIn wsX8_lines wsX8_isYear := goodIn_r _ [7] (by decide +kernel) (by decide +kernel)
set_option maxRecDepth 20000 in
theorem gX8_lines_X8_isYear : GoodIn wsX8_lines (va_wsS RX8 110 yX8_isYear wsX8_isYear) := goodIn_app (goodIn_of _ (by decide +kernel)) ggX8_lines_X8_isYear
set_option maxRecDepth 20000 in
theorem ggX8_lines_X8_isLevel : GoodIn wsX8_lines wsX8_isLevel := goodIn_r _ [10] (by decide +kernel) (by decide +kernel)
set_option maxRecDepth 20000 in
theorem gX8_lines_X8_isLevel : GoodIn wsX8_lines (va_wsS RX8 211 yX8_isLevel wsX8_isLevel) := goodIn_app (goodIn_of _ (by decide +kernel)) ggX8_lines_X8_isLevel
set_option maxRecDepth 20000 in
theorem ggX8_lines_X1_measure : GoodIn wsX8_lines wsX1_measure := goodIn_r _ [15, 16, 17, 18, 19, 20, 21, 22, 23, 24, 25, 26, 27, 28, 29, 30, 31, 32, 33, 34, 35, 36, 37, 38, 39, 40, 41, 111, 112, 113, 114, 115, 116, 117, 118, 119, 120, 121] (by decide +kernel) (by decide +kernel)
set_option maxRecDepth 20000 in
theorem gX8_lines_X1_measure : GoodIn wsX8_lines (wsV RX8 194 RX1 yX1_measure wsX1_measure) := goodIn_app (goodIn_of _ (by decide +kernel)) ggX8_lines_X1_measure
set_option maxRecDepth 20000 in
theorem ggX8_lines_X3_countLines : GoodIn wsX8_lines wsX3_countLines := goodIn_r _ [46, 47, 48, 49, 50, 45, 51, 52, 53, 54, 55, 56, 57, 58, 59, 60, 61, 62, 14, 63, 64, 65, 66, 67, 16, 17, 68, 69, 70, 71, 72, 73, 74, 75, 76, 77, 78, 79, 80, 81, 82, 83, 84, 85, 86, 87, 88, 89, 90, 91, 92, 93, 94, 95, 96, 97, 98, 99, 100, 101, 122, 123, 124, 111] (by decide +kernel) (by decide +kernel)
set_option maxRecDepth 20000 in
theorem gX8_lines_X3_countLines : GoodIn wsX8_lines (wsV RX8 221 RX3 yX3_countLines wsX3_countLines) := goodIn_app (goodIn_of _ (by decide +kernel)) ggX8_lines_X3_countLines
set_option maxRecDepth 20000 in
theorem ggX8_changed_X1_measure : GoodIn wsX8_changed wsX1_measure := goodIn_r _ [9, 10, 11, 12, 13, 14, 15, 16, 17, 18, 19, 20, 21, 22, 23, 24, 25, 26, 27, 28, 29, 30, 31, 32, 33, 34, 35, 61, 62, 63, 64, 65, 66, 67, 68, 69, 70, 71] (by decide +kernel) (by decide +kernel)
set_option maxRecDepth 20000 in
theorem gX8_changed_X1_measure : GoodIn wsX8_changed (wsV RX8 194 RX1 yX1_measure wsX1_measure) := goodIn_app (goodIn_of _ (by decide +kernel)) ggX8_changed_X1_measure
set_option maxRecDepth 20000 in
theorem ggX8_changed_X1_countBoth : GoodIn wsX8_changed wsX1_countBoth := goodIn_r _ [39, 10, 40, 41, 42, 8, 43, 11, 61] (by decide +kernel) (by decide +kernel)
set_option maxRecDepth 20000 in
theorem gX8_changed_X1_countBoth : GoodIn wsX8_changed (wsV RX8 226 RX1 yX1_countBoth wsX1_countBoth) := goodIn_app (goodIn_of _ (by decide +kernel)) ggX8_changed_X1_countBoth
set_option maxRecDepth 20000 in
theorem ggX8_changed_X1_countRisen : GoodIn wsX8_changed wsX1_countRisen := goodIn_r _ [47, 10, 40, 41, 42, 8, 43, 11, 61] (by decide +kernel) (by decide +kernel)
set_option maxRecDepth 20000 in
theorem gX8_changed_X1_countRisen : GoodIn wsX8_changed (wsV RX8 230 RX1 yX1_countRisen wsX1_countRisen) := goodIn_app (goodIn_of _ (by decide +kernel)) ggX8_changed_X1_countRisen
set_option maxRecDepth 20000 in
theorem ggX8_changed_X1_sumOfRises : GoodIn wsX8_changed wsX1_sumOfRises := goodIn_r _ [51, 10, 40, 41, 42, 8, 43, 11, 61] (by decide +kernel) (by decide +kernel)
set_option maxRecDepth 20000 in
theorem gX8_changed_X1_sumOfRises : GoodIn wsX8_changed (wsV RX8 234 RX1 yX1_sumOfRises wsX1_sumOfRises) := goodIn_app (goodIn_of _ (by decide +kernel)) ggX8_changed_X1_sumOfRises
