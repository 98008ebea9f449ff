set_option maxRecDepth 20000 in
theorem ggX0_bringTogether_X0_countPoints : GoodIn wsX0_bringTogether wsX0_countPoints := goodIn_r _ [8, 1, 9, 10, 11, 12, 13, 14, 64, 65, 66, 67, 68, 69, 70, 71, 72, 73, 74, 75, 76, 77] (by decide +kernel) (by decide +kernel)
set_option maxRecDepth 20000 in
theorem gX0_bringTogether_X0_countPoints : GoodIn wsX0_bringTogether (wsV RX0 27 RX0 yX0_countPoints wsX0_countPoints) := goodIn_app (goodIn_of _ (by decide +kernel)) ggX0_bringTogether_X0_countPoints
set_option maxRecDepth 20000 in
theorem ggX0_bringTogether_X0_setEquations : GoodIn wsX0_bringTogether wsX0_setEquations := goodIn_r _ [18, 19, 20, 1, 9, 10, 21, 22, 23, 13, 24, 25, 26, 27, 28, 29, 30, 31, 32, 33, 34, 35, 36, 37, 38, 39, 7, 40, 64, 65, 66, 67, 68, 69, 70, 71, 72, 73, 74, 75, 76, 77] (by decide +kernel) (by decide +kernel)
set_option maxRecDepth 20000 in
theorem gX0_bringTogether_X0_setEquations : GoodIn wsX0_bringTogether (wsV RX0 31 RX0 yX0_setEquations wsX0_setEquations) := goodIn_app (goodIn_of _ (by decide +kernel)) ggX0_bringTogether_X0_setEquations
set_option maxRecDepth 20000 in
theorem ggX0_bringTogether_X0_solve : GoodIn wsX0_bringTogether wsX0_solve := goodIn_r _ [44, 45, 46, 47, 3, 48, 49, 50, 7, 51, 19, 52, 53, 54, 55, 56, 57, 58, 59, 20, 60, 61, 62, 63, 64, 65, 66, 67] (by decide +kernel) (by decide +kernel)
set_option maxRecDepth 20000 in
theorem gX0_bringTogether_X0_solve : GoodIn wsX0_bringTogether (wsV RX0 34 RX0 yX0_solve wsX0_solve) := goodIn_app (goodIn_of _ (by decide +kernel)) ggX0_bringTogether_X0_solve
set_option maxRecDepth 20000 in
theorem ggX0_countPoints_J7_fill_53178 : GoodIn wsX0_countPoints wsJ7_fill_53178 := goodIn_r _ [7] (by decide +kernel) (by decide +kernel)
set_option maxRecDepth 20000 in
theorem gX0_countPoints_J7_fill_53178 : GoodIn wsX0_countPoints (va_wsS RX0 43 yJ7_fill_53178 wsJ7_fill_53178) := goodIn_app (goodIn_of _ (by decide +kernel)) ggX0_countPoints_J7_fill_53178
set_option maxRecDepth 20000 in
theorem ggX0_setEquations_J7_fill_d0a16 : GoodIn wsX0_setEquations wsJ7_fill_d0a16 := goodIn_r _ [10] (by decide +kernel) (by decide +kernel)
set_option maxRecDepth 20000 in
theorem gX0_setEquations_J7_fill_d0a16 : GoodIn wsX0_setEquations (va_wsS RX0 56 yJ7_fill_d0a16 wsJ7_fill_d0a16) := goodIn_app (goodIn_of _ (by decide +kernel)) ggX0_setEquations_J7_fill_d0a16
set_option maxRecDepth 20000 in
theorem ggX0_setEquations_X7_isPair : GoodIn wsX0_setEquations wsX7_isPair := goodIn_r _ [15, 16, 17, 18, 19, 14, 20, 21, 22, 32, 33, 34, 35, 36, 37, 38, 39, 40, 41] (by decide +kernel) (by decide +kernel)
set_option maxRecDepth 20000 in
theorem gX0_setEquations_X7_isPair : GoodIn wsX0_setEquations (wsV RX0 59 RX7 yX7_isPair wsX7_isPair) := goodIn_app (goodIn_of _ (by decide +kernel)) ggX0_setEquations_X7_isPair
set_option maxRecDepth 20000 in
theorem ggX0_setEquations_X0_addPair : GoodIn wsX0_setEquations wsX0_addPair := goodIn_r _ [27, 1, 2, 28, 29, 30, 31] (by decide +kernel) (by decide +kernel)
set_option maxRecDepth 20000 in
theorem gX0_setEquations_X0_addPair : GoodIn wsX0_setEquations (wsV RX0 66 RX0 yX0_addPair wsX0_addPair) := goodIn_app (goodIn_of _ (by decide +kernel)) ggX0_setEquations_X0_addPair
set_option maxRecDepth 20000 in
theorem ggX0_solve_X0_determinant : GoodIn wsX0_solve wsX0_determinant := goodIn_r _ [9, 10, 11, 12, 13, 8, 14, 24, 25, 26, 27] (by decide +kernel) (by decide +kernel)
set_option maxRecDepth 20000 in
theorem gX0_solve_X0_determinant : GoodIn wsX0_solve (wsV RX0 70 RX0 yX0_determinant wsX0_determinant) := goodIn_app (goodIn_of _ (by decide +kernel)) ggX0_solve_X0_determinant
set_option maxRecDepth 20000 in
theorem ggX0_solve_X0_swapColumn : GoodIn wsX0_solve wsX0_swapColumn := goodIn_r _ [18, 10, 19, 24, 25, 26, 27] (by decide +kernel) (by decide +kernel)
set_option maxRecDepth 20000 in
theorem gX0_solve_X0_swapColumn : GoodIn wsX0_solve (wsV RX0 74 RX0 yX0_swapColumn wsX0_swapColumn) := goodIn_app (goodIn_of _ (by decide +kernel)) ggX0_solve_X0_swapColumn
set_option maxRecDepth 20000 in
theorem ggX0_solve_J9_floorDiv_f86c9 : GoodIn wsX0_solve wsJ9_floorDiv_f86c9 := goodIn_r _ [23] (by decide +kernel) (by decide +kernel)
set_option maxRecDepth 20000 in
theorem gX0_solve_J9_floorDiv_f86c9 : GoodIn wsX0_solve (va_wsS RX0 80 yJ9_floorDiv_f86c9 wsJ9_floorDiv_f86c9) := goodIn_app (goodIn_of _ (by decide +kernel)) ggX0_solve_J9_floorDiv_f86c9
set_option maxRecDepth 20000 in
theorem ggX0_determinant_X0_minor : GoodIn wsX0_determinant wsX0_minor := goodIn_r _ [6, 1, 7, 8, 9, 10] (by decide +kernel) (by decide +kernel)
set_option maxRecDepth 20000 in
theorem gX0_determinant_X0_minor : GoodIn wsX0_determinant (wsV RX0 90 RX0 yX0_minor wsX0_minor) := goodIn_app (goodIn_of _ (by decide +kernel)) ggX0_determinant_X0_minor
set_option maxRecDepth 20000 in
theorem ggX1_measure_J7_fill_53178 : GoodIn wsX1_measure wsJ7_fill_53178 := goodIn_r _ [12] (by decide +kernel) (by decide +kernel)
set_option maxRecDepth 20000 in
theorem gX1_measure_J7_fill_53178 : GoodIn wsX1_measure (va_wsS RX1 16 yJ7_fill_53178 wsJ7_fill_53178) := goodIn_app (goodIn_of _ (by decide +kernel)) ggX1_measure_J7_fill_53178
set_option maxRecDepth 20000 in
theorem ggX1_measure_X7_square : GoodIn wsX1_measure wsX7_square := goodIn_r _ [17, 18, 19, 28, 29, 30, 31, 32, 33, 34, 35, 36, 37] (by decide +kernel) (by decide +kernel)
set_option maxRecDepth 20000 in
theorem gX1_measure_X7_square : GoodIn wsX1_measure (wsV RX1 31 RX7 yX7_square wsX7_square) := goodIn_app (goodIn_of _ (by decide +kernel)) ggX1_measure_X7_square
set_option maxRecDepth 20000 in
theorem ggX1_measure_X7_height : GoodIn wsX1_measure wsX7_height := goodIn_r _ [23, 24, 25, 26, 28, 29, 30, 31, 32, 33, 34, 35, 36, 37] (by decide +kernel) (by decide +kernel)
set_option maxRecDepth 20000 in
theorem gX1_measure_X7_height : GoodIn wsX1_measure (wsV RX1 35 RX7 yX7_height wsX7_height) := goodIn_app (goodIn_of _ (by decide +kernel)) ggX1_measure_X7_height
set_option maxRecDepth 20000 in
theorem ggX1_isQuad_X1_isFilled : GoodIn wsX1_isQuad wsX1_isFilled := goodIn_r _ [5, 6, 7, 8] (by decide +kernel) (by decide +kernel)
set_option maxRecDepth 20000 in
theorem gX1_isQuad_X1_isFilled : GoodIn wsX1_isQuad (wsV RX1 44 RX1 yX1_isFilled wsX1_isFilled) := goodIn_app (goodIn_of _ (by decide +kernel)) ggX1_isQuad_X1_isFilled
set_option maxRecDepth 20000 in
theorem ggX1_countThirds_X1_isQuad : GoodIn wsX1_countThirds wsX1_isQuad := goodIn_r _ [5, 6, 7, 8, 4, 9, 10, 11, 12] (by decide +kernel) (by decide +kernel)
set_option maxRecDepth 20000 in
theorem gX1_countThirds_X1_isQuad : GoodIn wsX1_countThirds (wsV RX1 48 RX1 yX1_isQuad wsX1_isQuad) := goodIn_app (goodIn_of _ (by decide +kernel)) ggX1_countThirds_X1_isQuad
set_option maxRecDepth 20000 in
theorem ggX1_volumeAbove_X1_isQuad : GoodIn wsX1_volumeAbove wsX1_isQuad := goodIn_r _ [7, 8, 9, 10, 6, 11, 12, 13, 22] (by decide +kernel) (by decide +kernel)
set_option maxRecDepth 20000 in
theorem gX1_volumeAbove_X1_isQuad : GoodIn wsX1_volumeAbove (wsV RX1 48 RX1 yX1_isQuad wsX1_isQuad) := goodIn_app (goodIn_of _ (by decide +kernel)) ggX1_volumeAbove_X1_isQuad
set_option maxRecDepth 20000 in
theorem ggX1_volumeAbove_X1_sumOfBoth : GoodIn wsX1_volumeAbove wsX1_sumOfBoth := goodIn_r _ [17, 18, 19, 20, 6, 21, 12, 22] (by decide +kernel) (by decide +kernel)
set_option maxRecDepth 20000 in
theorem gX1_volumeAbove_X1_sumOfBoth : GoodIn wsX1_volumeAbove (wsV RX1 51 RX1 yX1_sumOfBoth wsX1_sumOfBoth) := goodIn_app (goodIn_of _ (by decide +kernel)) ggX1_volumeAbove_X1_sumOfBoth
set_option maxRecDepth 20000 in
theorem ggX1_sumOfBoth_X1_at : GoodIn wsX1_sumOfBoth wsX1_at := goodIn_r _ [5, 6, 7] (by decide +kernel) (by decide +kernel)
set_option maxRecDepth 20000 in
theorem gX1_sumOfBoth_X1_at : GoodIn wsX1_sumOfBoth (wsV RX1 58 RX1 yX1_at wsX1_at) := goodIn_app (goodIn_of _ (by decide +kernel)) ggX1_sumOfBoth_X1_at
set_option maxRecDepth 20000 in
theorem ggX1_countBoth_X1_bothFilled : GoodIn wsX1_countBoth wsX1_bothFilled := goodIn_r _ [6, 1, 7, 8] (by decide +kernel) (by decide +kernel)
set_option maxRecDepth 20000 in
theorem gX1_countBoth_X1_bothFilled : GoodIn wsX1_countBoth (wsV RX1 61 RX1 yX1_bothFilled wsX1_bothFilled) := goodIn_app (goodIn_of _ (by decide +kernel)) ggX1_countBoth_X1_bothFilled
set_option maxRecDepth 20000 in
theorem ggX1_countRisen_X1_bothFilled : GoodIn wsX1_countRisen wsX1_bothFilled := goodIn_r _ [6, 1, 7, 8] (by decide +kernel) (by decide +kernel)
set_option maxRecDepth 20000 in
theorem gX1_countRisen_X1_bothFilled : GoodIn wsX1_countRisen (wsV RX1 61 RX1 yX1_bothFilled wsX1_bothFilled) := goodIn_app (goodIn_of _ (by decide +kernel)) ggX1_countRisen_X1_bothFilled
set_option maxRecDepth 20000 in
theorem ggX1_sumOfRises_X1_bothFilled : GoodIn wsX1_sumOfRises wsX1_bothFilled := goodIn_r _ [6, 1, 7, 8] (by decide +kernel) (by decide +kernel)
set_option maxRecDepth 20000 in
theorem gX1_sumOfRises_X1_bothFilled : GoodIn wsX1_sumOfRises (wsV RX1 61 RX1 yX1_bothFilled wsX1_bothFilled) := goodIn_app (goodIn_of _ (by decide +kernel)) ggX1_sumOfRises_X1_bothFilled
set_option maxRecDepth 20000 in
theorem ggX2_read_X2_readStep : GoodIn wsX2_read wsX2_readStep := goodIn_r _ [12, 7, 6, 2, 5, 13, 14, 15, 16, 17, 18, 19, 11, 20, 4, 21, 22, 23, 24, 25, 26, 27, 34, 35, 36, 37, 38, 39, 40, 41, 42] (by decide +kernel) (by decide +kernel)
set_option maxRecDepth 20000 in
theorem gX2_read_X2_readStep : GoodIn wsX2_read (wsV RX2 46 RX2 yX2_readStep wsX2_readStep) := goodIn_app (goodIn_of _ (by decide +kernel)) ggX2_read_X2_readStep
set_option maxRecDepth 20000 in
theorem ggX2_read_X2_hasMore : GoodIn wsX2_read wsX2_hasMore := goodIn_r _ [20, 5, 4, 2, 34, 35, 36, 37, 38, 39, 40, 41, 42] (by decide +kernel) (by decide +kernel)
set_option maxRecDepth 20000 in
theorem gX2_read_X2_hasMore : GoodIn wsX2_read (wsV RX2 49 RX2 yX2_hasMore wsX2_hasMore) := goodIn_app (goodIn_of _ (by decide +kernel)) ggX2_read_X2_hasMore
set_option maxRecDepth 20000 in
theorem ggX2_read_X2_readBetween : GoodIn wsX2_read wsX2_readBetween := goodIn_r _ [31, 2, 5, 7, 17, 18, 19, 11, 20, 4, 34, 35, 36, 37, 38, 39, 40, 41, 42] (by decide +kernel) (by decide +kernel)
set_option maxRecDepth 20000 in
theorem gX2_read_X2_readBetween : GoodIn wsX2_read (wsV RX2 53 RX2 yX2_readBetween wsX2_readBetween) := goodIn_app (goodIn_of _ (by decide +kernel)) ggX2_read_X2_readBetween
set_option maxRecDepth 20000 in
theorem ggX2_readBetween_X2_hasMore : GoodIn wsX2_readBetween wsX2_hasMore := goodIn_r _ [8, 2, 9, 1, 10, 11, 12, 13, 14, 15, 16, 17, 18] (by decide +kernel) (by decide +kernel)
set_option maxRecDepth 20000 in
theorem gX2_readBetween_X2_hasMore : GoodIn wsX2_readBetween (wsV RX2 49 RX2 yX2_hasMore wsX2_hasMore) := goodIn_app (goodIn_of _ (by decide +kernel)) ggX2_readBetween_X2_hasMore
set_option maxRecDepth 20000 in
theorem ggX2_readStep_X2_hasMore : GoodIn wsX2_readStep wsX2_hasMore := goodIn_r _ [13, 4, 14, 3, 22, 23, 24, 25, 26, 27, 28, 29, 30] (by decide +kernel) (by decide +kernel)
set_option maxRecDepth 20000 in
theorem gX2_readStep_X2_hasMore : GoodIn wsX2_readStep (wsV RX2 49 RX2 yX2_hasMore wsX2_hasMore) := goodIn_app (goodIn_of _ (by decide +kernel)) ggX2_readStep_X2_hasMore
set_option maxRecDepth 20000 in
theorem ggX2_readStep_X2_readNumber : GoodIn wsX2_readStep wsX2_readNumber := goodIn_r _ [18, 1, 4, 14, 3, 9, 10, 11, 12, 13, 19, 20, 21, 22, 23, 24, 25, 26, 27, 28, 29, 30] (by decide +kernel) (by decide +kernel)
set_option maxRecDepth 20000 in
theorem gX2_readStep_X2_readNumber : GoodIn wsX2_readStep (wsV RX2 56 RX2 yX2_readNumber wsX2_readNumber) := goodIn_app (goodIn_of _ (by decide +kernel)) ggX2_readStep_X2_readNumber
set_option maxRecDepth 20000 in
theorem ggX2_readNumber_X2_hasMore : GoodIn wsX2_readNumber wsX2_hasMore := goodIn_r _ [9, 2, 3, 4, 13, 14, 15, 16, 17, 18, 19, 20, 21] (by decide +kernel) (by decide +kernel)
set_option maxRecDepth 20000 in
theorem gX2_readNumber_X2_hasMore : GoodIn wsX2_readNumber (wsV RX2 49 RX2 yX2_hasMore wsX2_hasMore) := goodIn_app (goodIn_of _ (by decide +kernel)) ggX2_readNumber_X2_hasMore
set_option maxRecDepth 20000 in
theorem ggX2_readNumber_X2_isDigit : GoodIn wsX2_readNumber wsX2_isDigit := goodIn_r _ [12] (by decide +kernel) (by decide +kernel)
set_option maxRecDepth 20000 in
theorem gX2_readNumber_X2_isDigit : GoodIn wsX2_readNumber (va_wsS RX2 60 yX2_isDigit wsX2_isDigit) := goodIn_app (goodIn_of _ (by decide +kernel)) ggX2_readNumber_X2_isDigit
set_option maxRecDepth 20000 in
theorem ggX3_countLines_X3_isCrossed : GoodIn wsX3_countLines wsX3_isCrossed := goodIn_r _ [6, 7, 8, 9, 5, 10, 11, 12, 13, 14, 15, 16, 17, 18, 19, 20, 21, 22, 23, 24, 25, 26, 27, 28, 29, 30, 31, 32, 33, 34, 35, 36, 37, 63] (by decide +kernel) (by decide +kernel)
set_option maxRecDepth 20000 in
theorem gX3_countLines_X3_isCrossed : GoodIn wsX3_countLines (wsV RX3 23 RX3 yX3_isCrossed wsX3_isCrossed) := goodIn_app (goodIn_of _ (by decide +kernel)) ggX3_countLines_X3_isCrossed
set_option maxRecDepth 20000 in
theorem ggX3_countLines_X3_walkFrom : GoodIn wsX3_countLines wsX3_walkFrom := goodIn_r _ [41, 42, 43, 44, 45, 46, 5, 47, 1, 48, 49, 50, 51, 26, 27, 28, 29, 7, 8, 9, 10, 11, 12, 13, 14, 30, 31, 32, 33, 34, 35, 36, 18, 37, 24, 52, 53, 54, 55, 56, 57, 58, 59, 15, 16, 17, 19, 20, 21, 22, 23, 25, 60, 61, 62, 63] (by decide +kernel) (by decide +kernel)
set_option maxRecDepth 20000 in
theorem gX3_countLines_X3_walkFrom : GoodIn wsX3_countLines (wsV RX3 27 RX3 yX3_walkFrom wsX3_walkFrom) := goodIn_app (goodIn_of _ (by decide +kernel)) ggX3_countLines_X3_walkFrom
set_option maxRecDepth 20000 in
theorem ggX3_walkFrom_X3_enqueue : GoodIn wsX3_walkFrom wsX3_enqueue := goodIn_r _ [7, 8, 1, 2, 52, 53, 54] (by decide +kernel) (by decide +kernel)
set_option maxRecDepth 20000 in
theorem gX3_walkFrom_X3_enqueue : GoodIn wsX3_walkFrom (wsV RX3 30 RX3 yX3_enqueue wsX3_enqueue) := goodIn_app (goodIn_of _ (by decide +kernel)) ggX3_walkFrom_X3_enqueue
set_option maxRecDepth 20000 in
theorem ggX3_walkFrom_X3_isEdgeCrossed : GoodIn wsX3_walkFrom wsX3_isEdgeCrossed := goodIn_r _ [12, 13, 14, 15, 6, 16, 17, 18, 19, 20, 21, 22, 23, 24, 25, 26, 27, 28, 29, 30, 31, 32, 33, 34, 55] (by decide +kernel) (by decide +kernel)
set_option maxRecDepth 20000 in
theorem gX3_walkFrom_X3_isEdgeCrossed : GoodIn wsX3_walkFrom (wsV RX3 34 RX3 yX3_isEdgeCrossed wsX3_isEdgeCrossed) := goodIn_app (goodIn_of _ (by decide +kernel)) ggX3_walkFrom_X3_isEdgeCrossed
set_option maxRecDepth 20000 in
theorem ggX3_walkFrom_X3_beyond : GoodIn wsX3_walkFrom wsX3_beyond := goodIn_r _ [38, 17, 18, 19, 6, 20, 21, 22, 23, 24, 25, 26, 27, 28, 39, 40, 41, 42, 43, 44, 45, 32, 46, 47, 48, 49, 50, 34, 51, 55] (by decide +kernel) (by decide +kernel)
set_option maxRecDepth 20000 in
theorem gX3_walkFrom_X3_beyond : GoodIn wsX3_walkFrom (wsV RX3 38 RX3 yX3_beyond wsX3_beyond) := goodIn_app (goodIn_of _ (by decide +kernel)) ggX3_walkFrom_X3_beyond
set_option maxRecDepth 20000 in
theorem ggX3_isCrossed_X3_column : GoodIn wsX3_isCrossed wsX3_column := goodIn_r _ [5] (by decide +kernel) (by decide +kernel)
set_option maxRecDepth 20000 in
theorem gX3_isCrossed_X3_column : GoodIn wsX3_isCrossed (wsV RX3 42 RX3 yX3_column wsX3_column) := goodIn_app (goodIn_of _ (by decide +kernel)) ggX3_isCrossed_X3_column
set_option maxRecDepth 20000 in
theorem ggX3_isCrossed_X3_row : GoodIn wsX3_isCrossed wsX3_row := goodIn_r _ [9] (by decide +kernel) (by decide +kernel)
set_option maxRecDepth 20000 in
theorem gX3_isCrossed_X3_row : GoodIn wsX3_isCrossed (wsV RX3 46 RX3 yX3_row wsX3_row) := goodIn_app (goodIn_of _ (by decide +kernel)) ggX3_isCrossed_X3_row
set_option maxRecDepth 20000 in
theorem ggX3_isCrossed_X1_isQuad : GoodIn wsX3_isCrossed wsX1_isQuad := goodIn_r _ [14, 15, 16, 17, 13, 18, 19, 20, 33] (by decide +kernel) (by decide +kernel)
set_option maxRecDepth 20000 in
theorem gX3_isCrossed_X1_isQuad : GoodIn wsX3_isCrossed (wsV RX3 49 RX1 yX1_isQuad wsX1_isQuad) := goodIn_app (goodIn_of _ (by decide +kernel)) ggX3_isCrossed_X1_isQuad
set_option maxRecDepth 20000 in
theorem ggX3_isCrossed_X3_isAbove : GoodIn wsX3_isCrossed wsX3_isAbove := goodIn_r _ [24, 1, 2, 3, 4, 5, 6, 7, 8, 9, 25, 26, 27, 28, 29, 30, 31, 13, 32, 19, 33] (by decide +kernel) (by decide +kernel)
set_option maxRecDepth 20000 in
theorem gX3_isCrossed_X3_isAbove : GoodIn wsX3_isCrossed (wsV RX3 53 RX3 yX3_isAbove wsX3_isAbove) := goodIn_app (goodIn_of _ (by decide +kernel)) ggX3_isCrossed_X3_isAbove
set_option maxRecDepth 20000 in
theorem ggX3_isEdgeCrossed_X3_isAbove : GoodIn wsX3_isEdgeCrossed wsX3_isAbove := goodIn_r _ [5, 6, 7, 8, 4, 9, 10, 11, 12, 13, 14, 15, 16, 17, 18, 19, 20, 21, 22, 23, 24] (by decide +kernel) (by decide +kernel)
set_option maxRecDepth 20000 in
theorem gX3_isEdgeCrossed_X3_isAbove : GoodIn wsX3_isEdgeCrossed (wsV RX3 53 RX3 yX3_isAbove wsX3_isAbove) := goodIn_app (goodIn_of _ (by decide +kernel)) ggX3_isEdgeCrossed_X3_isAbove
set_option maxRecDepth 20000 in
theorem ggX3_isAbove_X3_column : GoodIn wsX3_isAbove wsX3_column := goodIn_r _ [5] (by decide +kernel) (by decide +kernel)
set_option maxRecDepth 20000 in
theorem gX3_isAbove_X3_column : GoodIn wsX3_isAbove (wsV RX3 42 RX3 yX3_column wsX3_column) := goodIn_app (goodIn_of _ (by decide +kernel)) ggX3_isAbove_X3_column
set_option maxRecDepth 20000 in
theorem ggX3_isAbove_X3_row : GoodIn wsX3_isAbove wsX3_row := goodIn_r _ [9] (by decide +kernel) (by decide +kernel)
set_option maxRecDepth 20000 in
theorem gX3_isAbove_X3_row : GoodIn wsX3_isAbove (wsV RX3 46 RX3 yX3_row wsX3_row) := goodIn_app (goodIn_of _ (by decide +kernel)) ggX3_isAbove_X3_row
set_option maxRecDepth 20000 in
theorem ggX3_isAbove_X3_isUpper : GoodIn wsX3_isAbove wsX3_isUpper := goodIn_r _ [13] (by decide +kernel) (by decide +kernel)
set_option maxRecDepth 20000 in
theorem gX3_isAbove_X3_isUpper : GoodIn wsX3_isAbove (wsV RX3 56 RX3 yX3_isUpper wsX3_isUpper) := goodIn_app (goodIn_of _ (by decide +kernel)) ggX3_isAbove_X3_isUpper
set_option maxRecDepth 20000 in
theorem ggX3_isAbove_X1_at : GoodIn wsX3_isAbove wsX1_at := goodIn_r _ [18, 19, 20] (by decide +kernel) (by decide +kernel)
set_option maxRecDepth 20000 in
theorem gX3_isAbove_X1_at : GoodIn wsX3_isAbove (wsV RX3 60 RX1 yX1_at wsX1_at) := goodIn_app (goodIn_of _ (by decide +kernel)) ggX3_isAbove_X1_at
set_option maxRecDepth 20000 in
theorem ggX3_beyond_X3_column : GoodIn wsX3_beyond wsX3_column := goodIn_r _ [5] (by decide +kernel) (by decide +kernel)
set_option maxRecDepth 20000 in
theorem gX3_beyond_X3_column : GoodIn wsX3_beyond (wsV RX3 42 RX3 yX3_column wsX3_column) := goodIn_app (goodIn_of _ (by decide +kernel)) ggX3_beyond_X3_column
set_option maxRecDepth 20000 in
theorem ggX3_beyond_X3_row : GoodIn wsX3_beyond wsX3_row := goodIn_r _ [9] (by decide +kernel) (by decide +kernel)
set_option maxRecDepth 20000 in
theorem gX3_beyond_X3_row : GoodIn wsX3_beyond (wsV RX3 46 RX3 yX3_row wsX3_row) := goodIn_app (goodIn_of _ (by decide +kernel)) ggX3_beyond_X3_row
set_option maxRecDepth 20000 in
theorem ggX3_beyond_X3_isUpper : GoodIn wsX3_beyond wsX3_isUpper := goodIn_r _ [13] (by decide +kernel) (by decide +kernel)
set_option maxRecDepth 20000 in
theorem gX3_beyond_X3_isUpper : GoodIn wsX3_beyond (wsV RX3 56 RX3 yX3_isUpper wsX3_isUpper) := goodIn_app (goodIn_of _ (by decide +kernel)) ggX3_beyond_X3_isUpper
set_option maxRecDepth 20000 in
theorem ggX3_beyond_X3_thirdAt : GoodIn wsX3_beyond wsX3_thirdAt := goodIn_r _ [17, 18, 19, 20, 21, 22, 23, 24, 25, 26, 27, 28, 29] (by decide +kernel) (by decide +kernel)
set_option maxRecDepth 20000 in
theorem gX3_beyond_X3_thirdAt : GoodIn wsX3_beyond (wsV RX3 64 RX3 yX3_thirdAt wsX3_thirdAt) := goodIn_app (goodIn_of _ (by decide +kernel)) ggX3_beyond_X3_thirdAt
set_option maxRecDepth 20000 in
theorem ggX3_thirdAt_X1_isQuad : GoodIn wsX3_thirdAt wsX1_isQuad := goodIn_r _ [5, 6, 7, 8, 4, 9, 10, 11, 12] (by decide +kernel) (by decide +kernel)
set_option maxRecDepth 20000 in
theorem gX3_thirdAt_X1_isQuad : GoodIn wsX3_thirdAt (wsV RX3 49 RX1 yX1_isQuad wsX1_isQuad) := goodIn_app (goodIn_of _ (by decide +kernel)) ggX3_thirdAt_X1_isQuad
set_option maxRecDepth 20000 in
theorem ggX4_findAll_X4_countFree : GoodIn wsX4_findAll wsX4_countFree := goodIn_r _ [6, 7, 8, 9, 10, 5, 11, 12, 13, 85, 86, 87, 88, 89, 90, 91, 92, 93, 94] (by decide +kernel) (by decide +kernel)
set_option maxRecDepth 20000 in
theorem gX4_findAll_X4_countFree : GoodIn wsX4_findAll (wsV RX4 53 RX4 yX4_countFree wsX4_countFree) := goodIn_app (goodIn_of _ (by decide +kernel)) ggX4_findAll_X4_countFree
set_option maxRecDepth 20000 in
theorem ggX4_findAll_X4_gather : GoodIn wsX4_findAll wsX4_gather := goodIn_r _ [17, 18, 7, 12, 19, 20, 21, 22, 23, 24, 8, 9, 10, 5, 11, 13, 25, 26, 27, 28, 29, 30, 31, 32, 72, 73, 74, 75, 76, 77, 78, 79, 80, 81, 82, 83, 84, 85, 86, 87, 88, 89, 90, 91, 92, 93, 94] (by decide +kernel) (by decide +kernel)
set_option maxRecDepth 20000 in
theorem gX4_findAll_X4_gather : GoodIn wsX4_findAll (wsV RX4 57 RX4 yX4_gather wsX4_gather) := goodIn_app (goodIn_of _ (by decide +kernel)) ggX4_findAll_X4_gather
set_option maxRecDepth 20000 in
theorem ggX4_findAll_X4_findBest : GoodIn wsX4_findAll wsX4_findBest := goodIn_r _ [36, 1, 18, 37, 38, 39, 5, 40, 20, 22, 24, 41, 42, 43, 44, 45, 46, 47, 48, 49, 50, 51, 52, 53, 54, 55, 56, 57, 58, 59, 60, 61, 62, 63, 72, 73, 74, 75, 76, 77, 78, 79, 80, 81, 82, 83, 84] (by decide +kernel) (by decide +kernel)
set_option maxRecDepth 20000 in
theorem gX4_findAll_X4_findBest : GoodIn wsX4_findAll (wsV RX4 61 RX4 yX4_findBest wsX4_findBest) := goodIn_app (goodIn_of _ (by decide +kernel)) ggX4_findAll_X4_findBest
set_option maxRecDepth 20000 in
theorem ggX4_findAll_X4_takeBest : GoodIn wsX4_findAll wsX4_takeBest := goodIn_r _ [67, 61, 62, 63, 18, 12, 19, 37, 38, 39, 5, 40, 20, 22, 24, 41, 42, 43, 44, 49, 50, 51, 52, 53, 54, 55, 56, 68, 69, 70, 71, 72, 73, 74, 75, 76, 77, 78, 79, 80, 81, 82, 83, 84, 85, 86, 87, 88, 89, 90, 91, 92, 93, 94] (by decide +kernel) (by decide +kernel)
set_option maxRecDepth 20000 in
theorem gX4_findAll_X4_takeBest : GoodIn wsX4_findAll (wsV RX4 65 RX4 yX4_takeBest wsX4_takeBest) := goodIn_app (goodIn_of _ (by decide +kernel)) ggX4_findAll_X4_takeBest
set_option maxRecDepth 20000 in
theorem ggX4_countFree_X4_isFree : GoodIn wsX4_countFree wsX4_isFree := goodIn_r _ [6, 7, 8, 9, 10, 11, 12, 13, 14, 15, 16, 17, 18] (by decide +kernel) (by decide +kernel)
set_option maxRecDepth 20000 in
theorem gX4_countFree_X4_isFree : GoodIn wsX4_countFree (wsV RX4 78 RX4 yX4_isFree wsX4_isFree) := goodIn_app (goodIn_of _ (by decide +kernel)) ggX4_countFree_X4_isFree
set_option maxRecDepth 20000 in
theorem ggX4_gather_X4_isFree : GoodIn wsX4_gather wsX4_isFree := goodIn_r _ [14, 3, 15, 37, 38, 39, 40, 41, 42, 43, 44, 45, 46] (by decide +kernel) (by decide +kernel)
set_option maxRecDepth 20000 in
theorem gX4_gather_X4_isFree : GoodIn wsX4_gather (wsV RX4 78 RX4 yX4_isFree wsX4_isFree) := goodIn_app (goodIn_of _ (by decide +kernel)) ggX4_gather_X4_isFree
set_option maxRecDepth 20000 in
theorem ggX4_gather_X7_height : GoodIn wsX4_gather wsX7_height := goodIn_r _ [20, 21, 22, 23, 37, 38, 39, 40, 41, 42, 43, 44, 45, 46] (by decide +kernel) (by decide +kernel)
set_option maxRecDepth 20000 in
theorem gX4_gather_X7_height : GoodIn wsX4_gather (wsV RX4 84 RX7 yX7_height wsX7_height) := goodIn_app (goodIn_of _ (by decide +kernel)) ggX4_gather_X7_height
set_option maxRecDepth 20000 in
theorem ggX4_findBest_X4_lay : GoodIn wsX4_findBest wsX4_lay := goodIn_r _ [7, 8, 9, 10, 11, 12, 13, 14, 34, 35, 36, 37, 38, 39, 40, 41, 42, 43, 44, 45, 46] (by decide +kernel) (by decide +kernel)
set_option maxRecDepth 20000 in
theorem gX4_findBest_X4_lay : GoodIn wsX4_findBest (wsV RX4 87 RX4 yX4_lay wsX4_lay) := goodIn_app (goodIn_of _ (by decide +kernel)) ggX4_findBest_X4_lay
set_option maxRecDepth 20000 in
theorem ggX4_findBest_X4_countOn : GoodIn wsX4_findBest wsX4_countOn := goodIn_r _ [18, 2, 1, 19, 20, 21, 6, 22, 12, 8, 11, 13, 9, 14, 10, 23, 24, 25, 26, 34, 35, 36, 37, 38, 39, 40, 41, 42, 43, 44, 45, 46] (by decide +kernel) (by decide +kernel)
set_option maxRecDepth 20000 in
theorem gX4_findBest_X4_countOn : GoodIn wsX4_findBest (wsV RX4 91 RX4 yX4_countOn wsX4_countOn) := goodIn_app (goodIn_of _ (by decide +kernel)) ggX4_findBest_X4_countOn
set_option maxRecDepth 20000 in
theorem ggX4_findBest_X4_offer : GoodIn wsX4_findBest wsX4_offer := goodIn_r _ [30, 1, 31, 32, 33, 34, 35, 36, 37, 38, 39, 40, 41, 42, 43, 44, 45, 46] (by decide +kernel) (by decide +kernel)
set_option maxRecDepth 20000 in
theorem gX4_findBest_X4_offer : GoodIn wsX4_findBest (wsV RX4 94 RX4 yX4_offer wsX4_offer) := goodIn_app (goodIn_of _ (by decide +kernel)) ggX4_findBest_X4_offer
set_option maxRecDepth 20000 in
theorem ggX4_countOn_X4_isOn : GoodIn wsX4_countOn wsX4_isOn := goodIn_r _ [7, 8, 9, 10, 11, 12, 13, 14, 15, 16, 17, 18, 19, 20, 21, 22, 23, 24, 25, 26, 27, 28, 29, 30, 31] (by decide +kernel) (by decide +kernel)
set_option maxRecDepth 20000 in
theorem gX4_countOn_X4_isOn : GoodIn wsX4_countOn (wsV RX4 104 RX4 yX4_isOn wsX4_isOn) := goodIn_app (goodIn_of _ (by decide +kernel)) ggX4_countOn_X4_isOn
set_option maxRecDepth 20000 in
theorem ggX4_takeBest_X4_lay : GoodIn wsX4_takeBest wsX4_lay := goodIn_r _ [11, 12, 13, 14, 15, 16, 17, 18, 31, 32, 33, 34, 35, 36, 37, 38, 39, 40, 41, 42, 43] (by decide +kernel) (by decide +kernel)
set_option maxRecDepth 20000 in
theorem gX4_takeBest_X4_lay : GoodIn wsX4_takeBest (wsV RX4 87 RX4 yX4_lay wsX4_lay) := goodIn_app (goodIn_of _ (by decide +kernel)) ggX4_takeBest_X4_lay
set_option maxRecDepth 20000 in
theorem ggX4_takeBest_X4_isOn : GoodIn wsX4_takeBest wsX4_isOn := goodIn_r _ [22, 16, 12, 15, 17, 13, 18, 14, 23, 24, 25, 26, 31, 32, 33, 34, 35, 36, 37, 38, 39, 40, 41, 42, 43] (by decide +kernel) (by decide +kernel)
set_option maxRecDepth 20000 in
theorem gX4_takeBest_X4_isOn : GoodIn wsX4_takeBest (wsV RX4 104 RX4 yX4_isOn wsX4_isOn) := goodIn_app (goodIn_of _ (by decide +kernel)) ggX4_takeBest_X4_isOn
set_option maxRecDepth 20000 in
theorem ggX4_takeBest_X4_keepHigh : GoodIn wsX4_takeBest wsX4_keepHigh := goodIn_r _ [30, 4, 5, 6, 12, 13, 14, 31, 32, 33, 34, 35, 36, 37, 38, 39, 40, 41, 42, 43, 44, 45, 46, 47, 48, 49, 50, 51, 52, 53] (by decide +kernel) (by decide +kernel)
set_option maxRecDepth 20000 in
theorem gX4_takeBest_X4_keepHigh : GoodIn wsX4_takeBest (wsV RX4 108 RX4 yX4_keepHigh wsX4_keepHigh) := goodIn_app (goodIn_of _ (by decide +kernel)) ggX4_takeBest_X4_keepHigh
set_option maxRecDepth 20000 in
theorem ggX5_renew_J7_fill_53178 : GoodIn wsX5_renew wsJ7_fill_53178 := goodIn_r _ [7] (by decide +kernel) (by decide +kernel)
set_option maxRecDepth 20000 in
theorem gX5_renew_J7_fill_53178 : GoodIn wsX5_renew (va_wsS RX5 20 yJ7_fill_53178 wsJ7_fill_53178) := goodIn_app (goodIn_of _ (by decide +kernel)) ggX5_renew_J7_fill_53178
set_option maxRecDepth 20000 in
theorem ggX6_isPlain_X6_byteOf : GoodIn wsX6_isPlain wsX6_byteOf := goodIn_r _ [4] (by decide +kernel) (by decide +kernel)
set_option maxRecDepth 20000 in
theorem gX6_isPlain_X6_byteOf : GoodIn wsX6_isPlain (va_wsS RX6 17 yX6_byteOf wsX6_byteOf) := goodIn_app (goodIn_of _ (by decide +kernel)) ggX6_isPlain_X6_byteOf
set_option maxRecDepth 20000 in
theorem ggX6_append_X6_byteOf : GoodIn wsX6_append wsX6_byteOf := goodIn_r _ [6] (by decide +kernel) (by decide +kernel)
set_option maxRecDepth 20000 in
theorem gX6_append_X6_byteOf : GoodIn wsX6_append (va_wsS RX6 17 yX6_byteOf wsX6_byteOf) := goodIn_app (goodIn_of _ (by decide +kernel)) ggX6_append_X6_byteOf
set_option maxRecDepth 20000 in
theorem ggX7_canTake_X7_isPoint : GoodIn wsX7_canTake wsX7_isPoint := goodIn_r _ [5, 6, 7, 8, 9, 10, 11, 12, 13, 14, 15, 16, 17, 18, 19] (by decide +kernel) (by decide +kernel)
set_option maxRecDepth 20000 in
theorem gX7_canTake_X7_isPoint : GoodIn wsX7_canTake (wsV RX7 44 RX7 yX7_isPoint wsX7_isPoint) := goodIn_app (goodIn_of _ (by decide +kernel)) ggX7_canTake_X7_isPoint
set_option maxRecDepth 20000 in
theorem ggX7_isPoint_X8_tileOf : GoodIn wsX7_isPoint wsX8_tileOf := goodIn_r _ [4] (by decide +kernel) (by decide +kernel)
set_option maxRecDepth 20000 in
theorem gX7_isPoint_X8_tileOf_n48 : GoodIn wsX7_isPoint (wsX8_tileOf) := ggX7_isPoint_X8_tileOf
set_option maxRecDepth 20000 in
theorem ggX7_take_X7_settle : GoodIn wsX7_take wsX7_settle := goodIn_r _ [11, 12, 13, 14, 15, 16, 17, 18, 19, 20, 21, 22, 23] (by decide +kernel) (by decide +kernel)
set_option maxRecDepth 20000 in
theorem gX7_take_X7_settle : GoodIn wsX7_take (wsV RX7 52 RX7 yX7_settle wsX7_settle) := goodIn_app (goodIn_of _ (by decide +kernel)) ggX7_take_X7_settle
set_option maxRecDepth 20000 in
theorem ggX7_removeTile_X8_tileOf : GoodIn wsX7_removeTile wsX8_tileOf := goodIn_r _ [6] (by decide +kernel) (by decide +kernel)
set_option maxRecDepth 20000 in
theorem gX7_removeTile_X8_tileOf_n48 : GoodIn wsX7_removeTile (wsX8_tileOf) := ggX7_removeTile_X8_tileOf
set_option maxRecDepth 20000 in
theorem ggX7_removeTile_X7_move : GoodIn wsX7_removeTile wsX7_move := goodIn_r _ [11, 2, 3, 12, 13, 14, 15, 16, 17, 18, 19, 20, 21, 22, 23, 24, 25, 26] (by decide +kernel) (by decide +kernel)
set_option maxRecDepth 20000 in
theorem gX7_removeTile_X7_move : GoodIn wsX7_removeTile (wsV RX7 56 RX7 yX7_move wsX7_move) := goodIn_app (goodIn_of _ (by decide +kernel)) ggX7_removeTile_X7_move
set_option maxRecDepth 20000 in
theorem ggX7_isPair_X7_square : GoodIn wsX7_isPair wsX7_square := goodIn_r _ [6, 7, 8, 9, 10, 11, 12, 13, 14, 15, 16, 17, 18] (by decide +kernel) (by decide +kernel)
set_option maxRecDepth 20000 in
theorem gX7_isPair_X7_square : GoodIn wsX7_isPair (wsV RX7 60 RX7 yX7_square wsX7_square) := goodIn_app (goodIn_of _ (by decide +kernel)) ggX7_isPair_X7_square
set_option maxRecDepth 20000 in
theorem ggX7_sumOfSquares_X7_isPair : GoodIn wsX7_sumOfSquares wsX7_isPair := goodIn_r _ [6, 7, 8, 9, 10, 5, 11, 12, 13, 20, 21, 22, 23, 24, 25, 26, 27, 28, 29] (by decide +kernel) (by decide +kernel)
set_option maxRecDepth 20000 in
theorem gX7_sumOfSquares_X7_isPair : GoodIn wsX7_sumOfSquares (wsV RX7 64 RX7 yX7_isPair wsX7_isPair) := goodIn_app (goodIn_of _ (by decide +kernel)) ggX7_sumOfSquares_X7_isPair
set_option maxRecDepth 20000 in
theorem ggX7_sumOfSquares_X7_height : GoodIn wsX7_sumOfSquares wsX7_height := goodIn_r _ [17, 18, 19, 7, 20, 21, 22, 23, 24, 25, 26, 27, 28, 29] (by decide +kernel) (by decide +kernel)
set_option maxRecDepth 20000 in
theorem gX7_sumOfSquares_X7_height : GoodIn wsX7_sumOfSquares (wsV RX7 68 RX7 yX7_height wsX7_height) := goodIn_app (goodIn_of _ (by decide +kernel)) ggX7_sumOfSquares_X7_height
set_option maxRecDepth 20000 in
theorem ggX7_growGround_X7_startFromSeeds : GoodIn wsX7_growGround wsX7_startFromSeeds := goodIn_r _ [6, 1, 7, 8, 9, 10, 5, 11, 12, 13, 14, 15, 16, 17, 18, 19, 20, 21, 22, 23, 24, 25, 26, 27, 28, 29, 54, 55, 56, 57, 58, 59, 60, 61, 62, 63] (by decide +kernel) (by decide +kernel)
set_option maxRecDepth 20000 in
theorem gX7_growGround_X7_startFromSeeds : GoodIn wsX7_growGround (wsV RX7 71 RX7 yX7_startFromSeeds wsX7_startFromSeeds) := goodIn_app (goodIn_of _ (by decide +kernel)) ggX7_growGround_X7_startFromSeeds
set_option maxRecDepth 20000 in
theorem ggX7_growGround_X7_spread : GoodIn wsX7_growGround wsX7_spread := goodIn_r _ [33, 1, 12, 7, 34, 35, 36, 5, 37, 13, 38, 39, 40, 41, 42, 43, 44, 45, 18, 19, 46, 47, 48, 49, 23, 24, 25, 26, 27, 28, 29, 8, 9, 10, 11, 54, 55, 56, 57, 58, 59, 60, 61, 62, 63] (by decide +kernel) (by decide +kernel)
set_option maxRecDepth 20000 in
theorem gX7_growGround_X7_spread : GoodIn wsX7_growGround (wsV RX7 74 RX7 yX7_spread wsX7_spread) := goodIn_app (goodIn_of _ (by decide +kernel)) ggX7_growGround_X7_spread
set_option maxRecDepth 20000 in
theorem ggX7_growGround_X7_countKind : GoodIn wsX7_growGround wsX7_countKind := goodIn_r _ [53, 1, 12, 54, 55, 56, 57, 58, 59, 60, 61, 62, 63] (by decide +kernel) (by decide +kernel)
set_option maxRecDepth 20000 in
theorem gX7_growGround_X7_countKind : GoodIn wsX7_growGround (wsV RX7 77 RX7 yX7_countKind wsX7_countKind) := goodIn_app (goodIn_of _ (by decide +kernel)) ggX7_growGround_X7_countKind
set_option maxRecDepth 20000 in
theorem ggX7_startFromSeeds_X7_settle : GoodIn wsX7_startFromSeeds wsX7_settle := goodIn_r _ [7, 8, 9, 26, 27, 28, 29, 30, 31, 32, 33, 34, 35] (by decide +kernel) (by decide +kernel)
set_option maxRecDepth 20000 in
theorem gX7_startFromSeeds_X7_settle : GoodIn wsX7_startFromSeeds (wsV RX7 52 RX7 yX7_settle wsX7_settle) := goodIn_app (goodIn_of _ (by decide +kernel)) ggX7_startFromSeeds_X7_settle
set_option maxRecDepth 20000 in
theorem ggX7_startFromSeeds_X7_lowestOf : GoodIn wsX7_startFromSeeds wsX7_lowestOf := goodIn_r _ [13, 1, 2, 14, 15, 16, 17, 18, 19, 20, 21, 6, 22, 23, 24, 25, 26, 27, 28, 29, 30, 31, 32, 33, 34, 35] (by decide +kernel) (by decide +kernel)
set_option maxRecDepth 20000 in
theorem gX7_startFromSeeds_X7_lowestOf : GoodIn wsX7_startFromSeeds (wsV RX7 80 RX7 yX7_lowestOf wsX7_lowestOf) := goodIn_app (goodIn_of _ (by decide +kernel)) ggX7_startFromSeeds_X7_lowestOf
set_option maxRecDepth 20000 in
theorem ggX7_lowestOf_X8_tileOf : GoodIn wsX7_lowestOf wsX8_tileOf := goodIn_r _ [7] (by decide +kernel) (by decide +kernel)
set_option maxRecDepth 20000 in
theorem gX7_lowestOf_X8_tileOf_n48 : GoodIn wsX7_lowestOf (wsX8_tileOf) := ggX7_lowestOf_X8_tileOf
set_option maxRecDepth 20000 in
theorem ggX7_lowestOf_X7_height : GoodIn wsX7_lowestOf wsX7_height := goodIn_r _ [12, 13, 14, 15, 16, 17, 18, 19, 20, 21, 22, 23, 24, 25] (by decide +kernel) (by decide +kernel)
set_option maxRecDepth 20000 in
theorem gX7_lowestOf_X7_height : GoodIn wsX7_lowestOf (wsV RX7 68 RX7 yX7_height wsX7_height) := goodIn_app (goodIn_of _ (by decide +kernel)) ggX7_lowestOf_X7_height
set_option maxRecDepth 20000 in
theorem ggX7_spread_X7_isReached : GoodIn wsX7_spread wsX7_isReached := goodIn_r _ [8, 1, 9, 10, 11, 12, 7, 13, 14, 15, 16, 17, 18, 19, 20, 21, 22, 23, 24, 25, 26, 27, 28, 29, 30, 35, 36, 37, 38, 39, 40, 41, 42, 43, 44] (by decide +kernel) (by decide +kernel)
set_option maxRecDepth 20000 in
theorem gX7_spread_X7_isReached : GoodIn wsX7_spread (wsV RX7 83 RX7 yX7_isReached wsX7_isReached) := goodIn_app (goodIn_of _ (by decide +kernel)) ggX7_spread_X7_isReached
set_option maxRecDepth 20000 in
theorem ggX7_spread_X7_settle : GoodIn wsX7_spread wsX7_settle := goodIn_r _ [34, 2, 9, 35, 36, 37, 38, 39, 40, 41, 42, 43, 44] (by decide +kernel) (by decide +kernel)
set_option maxRecDepth 20000 in
theorem gX7_spread_X7_settle : GoodIn wsX7_spread (wsV RX7 52 RX7 yX7_settle wsX7_settle) := goodIn_app (goodIn_of _ (by decide +kernel)) ggX7_spread_X7_settle
set_option maxRecDepth 20000 in
theorem ggX7_isReached_X7_isNear : GoodIn wsX7_isReached wsX7_isNear := goodIn_r _ [7, 8, 9, 10, 6, 11, 12, 13, 25, 26, 27, 28, 29, 30, 31, 32, 33, 34] (by decide +kernel) (by decide +kernel)
set_option maxRecDepth 20000 in
theorem gX7_isReached_X7_isNear : GoodIn wsX7_isReached (wsV RX7 87 RX7 yX7_isNear wsX7_isNear) := goodIn_app (goodIn_of _ (by decide +kernel)) ggX7_isReached_X7_isNear
set_option maxRecDepth 20000 in
theorem ggX7_isReached_X7_isEven : GoodIn wsX7_isReached wsX7_isEven := goodIn_r _ [17, 18, 19, 20, 6, 21, 22, 23, 24, 8, 9, 10, 11, 12, 13, 25, 26, 27, 28, 29, 30, 31, 32, 33, 34] (by decide +kernel) (by decide +kernel)
set_option maxRecDepth 20000 in
theorem gX7_isReached_X7_isEven : GoodIn wsX7_isReached (wsV RX7 91 RX7 yX7_isEven wsX7_isEven) := goodIn_app (goodIn_of _ (by decide +kernel)) ggX7_isReached_X7_isEven
set_option maxRecDepth 20000 in
theorem ggX7_isNear_X7_squareOfWay : GoodIn wsX7_isNear wsX7_squareOfWay := goodIn_r _ [5, 6, 7, 8, 9, 10, 11, 12, 13, 14, 15, 16, 17] (by decide +kernel) (by decide +kernel)
set_option maxRecDepth 20000 in
theorem gX7_isNear_X7_squareOfWay : GoodIn wsX7_isNear (wsV RX7 94 RX7 yX7_squareOfWay wsX7_squareOfWay) := goodIn_app (goodIn_of _ (by decide +kernel)) ggX7_isNear_X7_squareOfWay
set_option maxRecDepth 20000 in
theorem ggX7_isEven_X7_height : GoodIn wsX7_isEven wsX7_height := goodIn_r _ [5, 6, 7, 8, 15, 16, 17, 18, 19, 20, 21, 22, 23, 24] (by decide +kernel) (by decide +kernel)
set_option maxRecDepth 20000 in
theorem gX7_isEven_X7_height : GoodIn wsX7_isEven (wsV RX7 68 RX7 yX7_height wsX7_height) := goodIn_app (goodIn_of _ (by decide +kernel)) ggX7_isEven_X7_height
set_option maxRecDepth 20000 in
theorem ggX7_isEven_X7_squareOfWay : GoodIn wsX7_isEven wsX7_squareOfWay := goodIn_r _ [12, 13, 14, 15, 16, 17, 18, 19, 20, 21, 22, 23, 24] (by decide +kernel) (by decide +kernel)
set_option maxRecDepth 20000 in
theorem gX7_isEven_X7_squareOfWay : GoodIn wsX7_isEven (wsV RX7 94 RX7 yX7_squareOfWay wsX7_squareOfWay) := goodIn_app (goodIn_of _ (by decide +kernel)) ggX7_isEven_X7_squareOfWay
set_option maxRecDepth 20000 in
theorem ggX8_init_X6_init : GoodIn wsX8_init wsX6_init := goodIn_r _ [38, 39, 2, 3, 40, 41, 42, 120, 121] (by decide +kernel) (by decide +kernel)
set_option maxRecDepth 20000 in
theorem gX8_init_X6_init_n23 : GoodIn wsX8_init (wsX6_init) := ggX8_init_X6_init
set_option maxRecDepth 20000 in
theorem ggX8_init_X2_init : GoodIn wsX8_init wsX2_init := goodIn_r _ [44, 45, 2, 3, 40, 46, 47, 48, 49, 50, 51, 52, 53, 54, 55, 122, 123, 124, 125, 126, 127, 128, 129, 130] (by decide +kernel) (by decide +kernel)
set_option maxRecDepth 20000 in
theorem gX8_init_X2_init_n30 : GoodIn wsX8_init (wsX2_init) := ggX8_init_X2_init
set_option maxRecDepth 20000 in
theorem ggX8_init_X0_init : GoodIn wsX8_init wsX0_init := goodIn_r _ [57, 58, 2, 3, 47, 59, 60, 61, 62, 63, 64, 131, 132, 133, 134] (by decide +kernel) (by decide +kernel)
set_option maxRecDepth 20000 in
theorem gX8_init_X0_init_n37 : GoodIn wsX8_init (wsX0_init) := ggX8_init_X0_init
set_option maxRecDepth 20000 in
theorem ggX8_init_X4_init : GoodIn wsX8_init wsX4_init := goodIn_r _ [66, 67, 2, 3, 47, 68, 69, 70, 71, 72, 73, 74, 75, 76, 77, 78, 79, 80, 135, 136, 137, 138, 139, 140, 141, 142, 143, 144, 145, 146, 147] (by decide +kernel) (by decide +kernel)
set_option maxRecDepth 20000 in
theorem gX8_init_X4_init_n44 : GoodIn wsX8_init (wsX4_init) := ggX8_init_X4_init
set_option maxRecDepth 20000 in
theorem ggX8_init_X3_init : GoodIn wsX8_init wsX3_init := goodIn_r _ [82, 83, 2, 3, 84, 85, 47, 86, 87, 148, 149, 150] (by decide +kernel) (by decide +kernel)
set_option maxRecDepth 20000 in
theorem gX8_init_X3_init_n51 : GoodIn wsX8_init (wsX3_init) := ggX8_init_X3_init
set_option maxRecDepth 20000 in
theorem ggX8_init_X1_init : GoodIn wsX8_init wsX1_init := goodIn_r _ [89, 90, 2, 3, 47, 91, 151] (by decide +kernel) (by decide +kernel)
set_option maxRecDepth 20000 in
theorem gX8_init_X1_init_n58 : GoodIn wsX8_init (wsX1_init) := ggX8_init_X1_init
set_option maxRecDepth 20000 in
theorem ggX8_init_X5_init : GoodIn wsX8_init wsX5_init := goodIn_r _ [93, 94, 2, 3, 47, 95, 96, 97, 152, 153, 154] (by decide +kernel) (by decide +kernel)
set_option maxRecDepth 20000 in
theorem gX8_init_X5_init_n66 : GoodIn wsX8_init (wsX5_init) := ggX8_init_X5_init
set_option maxRecDepth 20000 in
theorem ggX8_init_X7_init : GoodIn wsX8_init wsX7_init := goodIn_r _ [99, 100, 2, 3, 47, 101, 102, 103, 104, 105, 106, 107, 108, 84, 109, 110, 155, 156, 157, 158, 159, 160, 161, 162, 163, 164] (by decide +kernel) (by decide +kernel)
set_option maxRecDepth 20000 in
theorem gX8_init_X7_init_n67 : GoodIn wsX8_init (wsX7_init) := ggX8_init_X7_init
set_option maxRecDepth 20000 in
theorem ggX8_sheet_X8_isSheet : GoodIn wsX8_sheet wsX8_isSheet := goodIn_r _ [5] (by decide +kernel) (by decide +kernel)
set_option maxRecDepth 20000 in
theorem gX8_sheet_X8_isSheet : GoodIn wsX8_sheet (va_wsS RX8 68 yX8_isSheet wsX8_isSheet) := goodIn_app (goodIn_of _ (by decide +kernel)) ggX8_sheet_X8_isSheet
set_option maxRecDepth 20000 in
theorem ggX8_sheet_X8_isLane : GoodIn wsX8_sheet wsX8_isLane := goodIn_r _ [8] (by decide +kernel) (by decide +kernel)
set_option maxRecDepth 20000 in
theorem gX8_sheet_X8_isLane : GoodIn wsX8_sheet (va_wsS RX8 72 yX8_isLane wsX8_isLane) := goodIn_app (goodIn_of _ (by decide +kernel)) ggX8_sheet_X8_isLane
set_option maxRecDepth 20000 in
theorem ggX8_sheet_X5_renew : GoodIn wsX8_sheet wsX5_renew := goodIn_r _ [13, 14, 15, 16, 17, 18, 19, 20, 30, 31, 32] (by decide +kernel) (by decide +kernel)
set_option maxRecDepth 20000 in
theorem gX8_sheet_X5_renew : GoodIn wsX8_sheet (wsV RX8 75 RX5 yX5_renew wsX5_renew) := goodIn_app (goodIn_of _ (by decide +kernel)) ggX8_sheet_X5_renew
set_option maxRecDepth 20000 in
theorem ggX8_drop_X8_isSheet : GoodIn wsX8_drop wsX8_isSheet := goodIn_r _ [6] (by decide +kernel) (by decide +kernel)
set_option maxRecDepth 20000 in
theorem gX8_drop_X8_isSheet : GoodIn wsX8_drop (va_wsS RX8 68 yX8_isSheet wsX8_isSheet) := goodIn_app (goodIn_of _ (by decide +kernel)) ggX8_drop_X8_isSheet
set_option maxRecDepth 20000 in
theorem ggX8_drop_X5_holds : GoodIn wsX8_drop wsX5_holds := goodIn_r _ [11, 12, 27, 28, 29] (by decide +kernel) (by decide +kernel)
set_option maxRecDepth 20000 in
theorem gX8_drop_X5_holds : GoodIn wsX8_drop (wsV RX8 79 RX5 yX5_holds wsX5_holds) := goodIn_app (goodIn_of _ (by decide +kernel)) ggX8_drop_X5_holds
set_option maxRecDepth 20000 in
theorem ggX8_drop_X5_clear : GoodIn wsX8_drop wsX5_clear := goodIn_r _ [16, 12, 17, 27, 28, 29] (by decide +kernel) (by decide +kernel)
set_option maxRecDepth 20000 in
theorem gX8_drop_X5_clear : GoodIn wsX8_drop (wsV RX8 87 RX5 yX5_clear wsX5_clear) := goodIn_app (goodIn_of _ (by decide +kernel)) ggX8_drop_X5_clear
set_option maxRecDepth 20000 in
theorem ggX8_item_X8_isSheet : GoodIn wsX8_item wsX8_isSheet := goodIn_r _ [6] (by decide +kernel) (by decide +kernel)
set_option maxRecDepth 20000 in
theorem gX8_item_X8_isSheet : GoodIn wsX8_item (va_wsS RX8 68 yX8_isSheet wsX8_isSheet) := goodIn_app (goodIn_of _ (by decide +kernel)) ggX8_item_X8_isSheet
set_option maxRecDepth 20000 in
theorem ggX8_item_X8_isLane : GoodIn wsX8_item wsX8_isLane := goodIn_r _ [9] (by decide +kernel) (by decide +kernel)
set_option maxRecDepth 20000 in
theorem gX8_item_X8_isLane : GoodIn wsX8_item (va_wsS RX8 72 yX8_isLane wsX8_isLane) := goodIn_app (goodIn_of _ (by decide +kernel)) ggX8_item_X8_isLane
set_option maxRecDepth 20000 in
theorem ggX8_item_X5_holds : GoodIn wsX8_item wsX5_holds := goodIn_r _ [14, 15, 35, 36, 37] (by decide +kernel) (by decide +kernel)
set_option maxRecDepth 20000 in
theorem gX8_item_X5_holds : GoodIn wsX8_item (wsV RX8 79 RX5 yX5_holds wsX5_holds) := goodIn_app (goodIn_of _ (by decide +kernel)) ggX8_item_X5_holds
set_option maxRecDepth 20000 in
theorem ggX8_item_X5_hasRange : GoodIn wsX8_item wsX5_hasRange := goodIn_r _ [19, 20, 35, 36, 37] (by decide +kernel) (by decide +kernel)
set_option maxRecDepth 20000 in
theorem gX8_item_X5_hasRange : GoodIn wsX8_item (wsV RX8 93 RX5 yX5_hasRange wsX5_hasRange) := goodIn_app (goodIn_of _ (by decide +kernel)) ggX8_item_X5_hasRange
set_option maxRecDepth 20000 in
theorem ggX8_item_X5_put : GoodIn wsX8_item wsX5_put := goodIn_r _ [24, 15, 25, 35, 36, 37] (by decide +kernel) (by decide +kernel)
set_option maxRecDepth 20000 in
theorem gX8_item_X5_put : GoodIn wsX8_item (wsV RX8 97 RX5 yX5_put wsX5_put) := goodIn_app (goodIn_of _ (by decide +kernel)) ggX8_item_X5_put
set_option maxRecDepth 20000 in
theorem ggX8_copy_X8_isSheet : GoodIn wsX8_copy wsX8_isSheet := goodIn_r _ [11] (by decide +kernel) (by decide +kernel)
set_option maxRecDepth 20000 in
theorem gX8_copy_X8_isSheet : GoodIn wsX8_copy (va_wsS RX8 68 yX8_isSheet wsX8_isSheet) := goodIn_app (goodIn_of _ (by decide +kernel)) ggX8_copy_X8_isSheet
set_option maxRecDepth 20000 in
theorem ggX8_copy_X5_holds : GoodIn wsX8_copy wsX5_holds := goodIn_r _ [16, 17, 32, 33, 34] (by decide +kernel) (by decide +kernel)
set_option maxRecDepth 20000 in
theorem gX8_copy_X5_holds : GoodIn wsX8_copy (wsV RX8 79 RX5 yX5_holds wsX5_holds) := goodIn_app (goodIn_of _ (by decide +kernel)) ggX8_copy_X5_holds
set_option maxRecDepth 20000 in
theorem ggX8_copy_X5_hasRange : GoodIn wsX8_copy wsX5_hasRange := goodIn_r _ [21, 22, 32, 33, 34] (by decide +kernel) (by decide +kernel)
set_option maxRecDepth 20000 in
theorem gX8_copy_X5_hasRange : GoodIn wsX8_copy (wsV RX8 93 RX5 yX5_hasRange wsX5_hasRange) := goodIn_app (goodIn_of _ (by decide +kernel)) ggX8_copy_X5_hasRange
set_option maxRecDepth 20000 in
theorem ggX8_points_X8_isYear : GoodIn wsX8_points wsX8_isYear := goodIn_r _ [9] (by decide +kernel) (by decide +kernel)
set_option maxRecDepth 20000 in
theorem gX8_points_X8_isYear : GoodIn wsX8_points (va_wsS RX8 110 yX8_isYear wsX8_isYear) := goodIn_app (goodIn_of _ (by decide +kernel)) ggX8_points_X8_isYear
set_option maxRecDepth 20000 in
theorem ggX8_points_X8_isSheet : GoodIn wsX8_points wsX8_isSheet := goodIn_r _ [12] (by decide +kernel) (by decide +kernel)
set_option maxRecDepth 20000 in
theorem gX8_points_X8_isSheet : GoodIn wsX8_points (va_wsS RX8 68 yX8_isSheet wsX8_isSheet) := goodIn_app (goodIn_of _ (by decide +kernel)) ggX8_points_X8_isSheet
set_option maxRecDepth 20000 in
theorem ggX8_points_X8_isLane : GoodIn wsX8_points wsX8_isLane := goodIn_r _ [15] (by decide +kernel) (by decide +kernel)
set_option maxRecDepth 20000 in
theorem gX8_points_X8_isLane : GoodIn wsX8_points (va_wsS RX8 72 yX8_isLane wsX8_isLane) := goodIn_app (goodIn_of _ (by decide +kernel)) ggX8_points_X8_isLane
set_option maxRecDepth 20000 in
theorem ggX8_points_X5_holds : GoodIn wsX8_points wsX5_holds := goodIn_r _ [20, 21, 64, 65, 66] (by decide +kernel) (by decide +kernel)
set_option maxRecDepth 20000 in
theorem gX8_points_X5_holds : GoodIn wsX8_points (wsV RX8 79 RX5 yX5_holds wsX5_holds) := goodIn_app (goodIn_of _ (by decide +kernel)) ggX8_points_X5_holds
set_option maxRecDepth 20000 in
theorem ggX8_points_X5_hasRange : GoodIn wsX8_points wsX5_hasRange := goodIn_r _ [25, 26, 64, 65, 66] (by decide +kernel) (by decide +kernel)
set_option maxRecDepth 20000 in
theorem gX8_points_X5_hasRange : GoodIn wsX8_points (wsV RX8 93 RX5 yX5_hasRange wsX5_hasRange) := goodIn_app (goodIn_of _ (by decide +kernel)) ggX8_points_X5_hasRange
set_option maxRecDepth 20000 in
theorem ggX8_points_X7_canTake : GoodIn wsX8_points wsX7_canTake := goodIn_r _ [31, 32, 33, 34, 30, 35, 36, 37, 8, 38, 67, 68, 69, 70, 71, 72, 73, 74, 75, 76] (by decide +kernel) (by decide +kernel)
set_option maxRecDepth 20000 in
theorem gX8_points_X7_canTake : GoodIn wsX8_points (wsV RX8 113 RX7 yX7_canTake wsX7_canTake) := goodIn_app (goodIn_of _ (by decide +kernel)) ggX8_points_X7_canTake
set_option maxRecDepth 20000 in
theorem ggX8_points_X7_take : GoodIn wsX8_points wsX7_take := goodIn_r _ [42, 43, 44, 45, 46, 47, 48, 49, 50, 51, 30, 52, 53, 54, 67, 68, 69, 70, 71, 72, 73, 74, 75, 76] (by decide +kernel) (by decide +kernel)
set_option maxRecDepth 20000 in
theorem gX8_points_X7_take : GoodIn wsX8_points (wsV RX8 118 RX7 yX7_take wsX7_take) := goodIn_app (goodIn_of _ (by decide +kernel)) ggX8_points_X7_take
set_option maxRecDepth 20000 in
theorem ggX8_told_X8_isYear : GoodIn wsX8_told wsX8_isYear := goodIn_r _ [11] (by decide +kernel) (by decide +kernel)
set_option maxRecDepth 20000 in
theorem gX8_told_X8_isYear : GoodIn wsX8_told (va_wsS RX8 110 yX8_isYear wsX8_isYear) := goodIn_app (goodIn_of _ (by decide +kernel)) ggX8_told_X8_isYear
set_option maxRecDepth 20000 in
theorem ggX8_told_X7_hasPoint : GoodIn wsX8_told wsX7_hasPoint := goodIn_r _ [16, 17, 34, 35, 36, 37, 38, 39, 40, 41, 42, 43] (by decide +kernel) (by decide +kernel)
set_option maxRecDepth 20000 in
theorem gX8_told_X7_hasPoint : GoodIn wsX8_told (wsV RX8 122 RX7 yX7_hasPoint wsX7_hasPoint) := goodIn_app (goodIn_of _ (by decide +kernel)) ggX8_told_X7_hasPoint
set_option maxRecDepth 20000 in
theorem ggX8_told_X7_height : GoodIn wsX8_told wsX7_height := goodIn_r _ [21, 22, 23, 24, 34, 35, 36, 37, 38, 39, 40, 41, 42, 43] (by decide +kernel) (by decide +kernel)
set_option maxRecDepth 20000 in
theorem gX8_told_X7_height : GoodIn wsX8_told (wsV RX8 131 RX7 yX7_height wsX7_height) := goodIn_app (goodIn_of _ (by decide +kernel)) ggX8_told_X7_height
set_option maxRecDepth 20000 in
theorem ggX8_lose_X8_isYear : GoodIn wsX8_lose wsX8_isYear := goodIn_r _ [6] (by decide +kernel) (by decide +kernel)
set_option maxRecDepth 20000 in
theorem gX8_lose_X8_isYear : GoodIn wsX8_lose (va_wsS RX8 110 yX8_isYear wsX8_isYear) := goodIn_app (goodIn_of _ (by decide +kernel)) ggX8_lose_X8_isYear
set_option maxRecDepth 20000 in
theorem ggX8_lose_X7_removeTile : GoodIn wsX8_lose wsX7_removeTile := goodIn_r _ [11, 12, 13, 14, 15, 5, 16, 17, 18, 19, 10, 20, 21, 22, 23, 24, 25, 35, 36, 37, 38, 39, 40, 41, 42, 43, 44] (by decide +kernel) (by decide +kernel)
set_option maxRecDepth 20000 in
theorem gX8_lose_X7_removeTile : GoodIn wsX8_lose (wsV RX8 151 RX7 yX7_removeTile wsX7_removeTile) := goodIn_app (goodIn_of _ (by decide +kernel)) ggX8_lose_X7_removeTile
set_option maxRecDepth 20000 in
theorem ggX8_box_X8_isYear : GoodIn wsX8_box wsX8_isYear := goodIn_r _ [5] (by decide +kernel) (by decide +kernel)
set_option maxRecDepth 20000 in
theorem gX8_box_X8_isYear : GoodIn wsX8_box (va_wsS RX8 110 yX8_isYear wsX8_isYear) := goodIn_app (goodIn_of _ (by decide +kernel)) ggX8_box_X8_isYear
set_option maxRecDepth 20000 in
theorem ggX8_box_X8_isSpan : GoodIn wsX8_box wsX8_isSpan := goodIn_r _ [8] (by decide +kernel) (by decide +kernel)
set_option maxRecDepth 20000 in
theorem gX8_box_X8_isSpan : GoodIn wsX8_box (va_wsS RX8 154 yX8_isSpan wsX8_isSpan) := goodIn_app (goodIn_of _ (by decide +kernel)) ggX8_box_X8_isSpan
set_option maxRecDepth 20000 in
theorem ggX8_box_X7_touchesLost : GoodIn wsX8_box wsX7_touchesLost := goodIn_r _ [13, 14, 31, 32, 33, 34, 35, 36, 37, 38, 39, 40] (by decide +kernel) (by decide +kernel)
set_option maxRecDepth 20000 in
theorem gX8_box_X7_touchesLost : GoodIn wsX8_box (wsV RX8 157 RX7 yX7_touchesLost wsX7_touchesLost) := goodIn_app (goodIn_of _ (by decide +kernel)) ggX8_box_X7_touchesLost
set_option maxRecDepth 20000 in
theorem ggX8_box_X7_countInBox : GoodIn wsX8_box wsX7_countInBox := goodIn_r _ [18, 19, 20, 21, 31, 32, 33, 34, 35, 36, 37, 38, 39, 40] (by decide +kernel) (by decide +kernel)
set_option maxRecDepth 20000 in
theorem gX8_box_X7_countInBox : GoodIn wsX8_box (wsV RX8 161 RX7 yX7_countInBox wsX7_countInBox) := goodIn_app (goodIn_of _ (by decide +kernel)) ggX8_box_X7_countInBox
set_option maxRecDepth 20000 in
theorem ggX8_shift_X8_isYear : GoodIn wsX8_shift wsX8_isYear := goodIn_r _ [6] (by decide +kernel) (by decide +kernel)
set_option maxRecDepth 20000 in
theorem gX8_shift_X8_isYear : GoodIn wsX8_shift (va_wsS RX8 110 yX8_isYear wsX8_isYear) := goodIn_app (goodIn_of _ (by decide +kernel)) ggX8_shift_X8_isYear
set_option maxRecDepth 20000 in
theorem ggX8_fit_X8_isYear : GoodIn wsX8_fit wsX8_isYear := goodIn_r _ [6] (by decide +kernel) (by decide +kernel)
set_option maxRecDepth 20000 in
theorem gX8_fit_X8_isYear : GoodIn wsX8_fit (va_wsS RX8 110 yX8_isYear wsX8_isYear) := goodIn_app (goodIn_of _ (by decide +kernel)) ggX8_fit_X8_isYear
set_option maxRecDepth 20000 in
theorem ggX8_fit_X0_bringTogether : GoodIn wsX8_fit wsX0_bringTogether := goodIn_r _ [11, 12, 13, 14, 15, 16, 17, 10, 18, 19, 20, 21, 22, 23, 24, 25, 26, 27, 28, 29, 30, 31, 32, 33, 34, 35, 36, 37, 38, 39, 40, 41, 42, 43, 44, 45, 46, 47, 48, 49, 50, 51, 52, 53, 54, 55, 56, 57, 58, 59, 60, 61, 62, 63, 64, 65, 66, 67, 68, 69, 70, 71, 72, 73, 83, 84, 85, 86, 87, 88, 89, 90, 91, 92, 93, 94, 95, 96] (by decide +kernel) (by decide +kernel)
set_option maxRecDepth 20000 in
theorem gX8_fit_X0_bringTogether : GoodIn wsX8_fit (wsV RX8 168 RX0 yX0_bringTogether wsX0_bringTogether) := goodIn_app (goodIn_of _ (by decide +kernel)) ggX8_fit_X0_bringTogether
set_option maxRecDepth 20000 in
theorem ggX8_leftOver_X8_isYear : GoodIn wsX8_leftOver wsX8_isYear := goodIn_r _ [6] (by decide +kernel) (by decide +kernel)
set_option maxRecDepth 20000 in
theorem gX8_leftOver_X8_isYear : GoodIn wsX8_leftOver (va_wsS RX8 110 yX8_isYear wsX8_isYear) := goodIn_app (goodIn_of _ (by decide +kernel)) ggX8_leftOver_X8_isYear
set_option maxRecDepth 20000 in
theorem ggX8_leftOver_X7_sumOfSquares : GoodIn wsX8_leftOver wsX7_sumOfSquares := goodIn_r _ [11, 12, 13, 14, 15, 10, 16, 17, 18, 19, 20, 21, 22, 23, 24, 25, 26, 27, 28, 29, 39, 40, 41, 42, 43, 44, 45, 46, 47, 48] (by decide +kernel) (by decide +kernel)
set_option maxRecDepth 20000 in
theorem gX8_leftOver_X7_sumOfSquares : GoodIn wsX8_leftOver (wsV RX8 174 RX7 yX7_sumOfSquares wsX7_sumOfSquares) := goodIn_app (goodIn_of _ (by decide +kernel)) ggX8_leftOver_X7_sumOfSquares
set_option maxRecDepth 20000 in
theorem ggX8_hand_X8_isYear : GoodIn wsX8_hand wsX8_isYear := goodIn_r _ [6] (by decide +kernel) (by decide +kernel)
set_option maxRecDepth 20000 in
theorem gX8_hand_X8_isYear : GoodIn wsX8_hand (va_wsS RX8 110 yX8_isYear wsX8_isYear) := goodIn_app (goodIn_of _ (by decide +kernel)) ggX8_hand_X8_isYear
set_option maxRecDepth 20000 in
theorem ggX8_hand_X7_hasPoint : GoodIn wsX8_hand wsX7_hasPoint := goodIn_r _ [11, 12, 28, 29, 30, 31, 32, 33, 34, 35, 36, 37] (by decide +kernel) (by decide +kernel)
set_option maxRecDepth 20000 in
theorem gX8_hand_X7_hasPoint : GoodIn wsX8_hand (wsV RX8 122 RX7 yX7_hasPoint wsX7_hasPoint) := goodIn_app (goodIn_of _ (by decide +kernel)) ggX8_hand_X7_hasPoint
set_option maxRecDepth 20000 in
theorem ggX8_hand_X7_settle : GoodIn wsX8_hand wsX7_settle := goodIn_r _ [16, 17, 18, 28, 29, 30, 31, 32, 33, 34, 35, 36, 37] (by decide +kernel) (by decide +kernel)
set_option maxRecDepth 20000 in
theorem gX8_hand_X7_settle : GoodIn wsX8_hand (wsV RX8 178 RX7 yX7_settle wsX7_settle) := goodIn_app (goodIn_of _ (by decide +kernel)) ggX8_hand_X7_settle
set_option maxRecDepth 20000 in
theorem ggX8_grow_X8_isYear : GoodIn wsX8_grow wsX8_isYear := goodIn_r _ [5] (by decide +kernel) (by decide +kernel)
set_option maxRecDepth 20000 in
theorem gX8_grow_X8_isYear : GoodIn wsX8_grow (va_wsS RX8 110 yX8_isYear wsX8_isYear) := goodIn_app (goodIn_of _ (by decide +kernel)) ggX8_grow_X8_isYear
set_option maxRecDepth 20000 in
theorem ggX8_grow_X7_growGround : GoodIn wsX8_grow wsX7_growGround := goodIn_r _ [10, 11, 12, 13, 14, 9, 15, 16, 17, 18, 19, 20, 21, 22, 23, 24, 25, 26, 27, 28, 29, 4, 30, 31, 32, 33, 34, 35, 36, 37, 38, 39, 40, 41, 42, 43, 44, 45, 46, 47, 48, 49, 50, 51, 52, 53, 54, 55, 56, 57, 58, 59, 60, 61, 71, 72, 73, 74, 75, 76, 77, 78, 79, 80] (by decide +kernel) (by decide +kernel)
set_option maxRecDepth 20000 in
theorem gX8_grow_X7_growGround : GoodIn wsX8_grow (wsV RX8 182 RX7 yX7_growGround wsX7_growGround) := goodIn_app (goodIn_of _ (by decide +kernel)) ggX8_grow_X7_growGround
set_option maxRecDepth 20000 in
theorem ggX8_roofs_X8_isYear : GoodIn wsX8_roofs wsX8_isYear := goodIn_r _ [6] (by decide +kernel) (by decide +kernel)
set_option maxRecDepth 20000 in
theorem gX8_roofs_X8_isYear : GoodIn wsX8_roofs (va_wsS RX8 110 yX8_isYear wsX8_isYear) := goodIn_app (goodIn_of _ (by decide +kernel)) ggX8_roofs_X8_isYear
set_option maxRecDepth 20000 in
theorem ggX8_roofs_X4_findAll : GoodIn wsX8_roofs wsX4_findAll := goodIn_r _ [11, 12, 13, 14, 15, 10, 16, 17, 18, 19, 20, 21, 22, 23, 24, 25, 26, 27, 28, 29, 30, 31, 32, 33, 34, 35, 36, 37, 38, 39, 40, 41, 42, 43, 44, 45, 46, 47, 48, 49, 50, 51, 52, 53, 54, 55, 56, 57, 58, 59, 60, 61, 62, 63, 64, 65, 66, 67, 68, 69, 70, 71, 72, 73, 74, 75, 76, 77, 78, 79, 80, 81, 91, 92, 93, 94, 95, 96, 97, 98, 99, 100, 101, 102, 103, 104, 105, 106, 107, 108, 109, 110, 111, 112, 113] (by decide +kernel) (by decide +kernel)
set_option maxRecDepth 20000 in
theorem gX8_roofs_X4_findAll : GoodIn wsX8_roofs (wsV RX8 186 RX4 yX4_findAll wsX4_findAll) := goodIn_app (goodIn_of _ (by decide +kernel)) ggX8_roofs_X4_findAll
set_option maxRecDepth 20000 in
theorem ggX8_count_X8_isYear : GoodIn wsX8_count wsX8_isYear := goodIn_r _ [7] (by decide +kernel) (by decide +kernel)
set_option maxRecDepth 20000 in
theorem gX8_count_X8_isYear : GoodIn wsX8_count (va_wsS RX8 110 yX8_isYear wsX8_isYear) := goodIn_app (goodIn_of _ (by decide +kernel)) ggX8_count_X8_isYear
set_option maxRecDepth 20000 in
theorem ggX8_count_X7_countLost : GoodIn wsX8_count wsX7_countLost := goodIn_r _ [12, 13, 63, 64, 65, 66, 67, 68, 69, 70, 71, 72] (by decide +kernel) (by decide +kernel)
set_option maxRecDepth 20000 in
theorem gX8_count_X7_countLost : GoodIn wsX8_count (wsV RX8 190 RX7 yX7_countLost wsX7_countLost) := goodIn_app (goodIn_of _ (by decide +kernel)) ggX8_count_X7_countLost
set_option maxRecDepth 20000 in
theorem ggX8_count_X1_measure : GoodIn wsX8_count wsX1_measure := goodIn_r _ [18, 19, 20, 21, 22, 23, 24, 25, 26, 27, 28, 29, 30, 31, 32, 33, 11, 34, 35, 36, 37, 38, 39, 40, 41, 42, 43, 73, 63, 64, 65, 66, 67, 68, 69, 70, 71, 72] (by decide +kernel) (by decide +kernel)
set_option maxRecDepth 20000 in
theorem gX8_count_X1_measure : GoodIn wsX8_count (wsV RX8 194 RX1 yX1_measure wsX1_measure) := goodIn_app (goodIn_of _ (by decide +kernel)) ggX8_count_X1_measure
set_option maxRecDepth 20000 in
theorem ggX8_count_X1_countFilled : GoodIn wsX8_count wsX1_countFilled := goodIn_r _ [47, 19, 20, 73] (by decide +kernel) (by decide +kernel)
set_option maxRecDepth 20000 in
theorem gX8_count_X1_countFilled : GoodIn wsX8_count (wsV RX8 198 RX1 yX1_countFilled wsX1_countFilled) := goodIn_app (goodIn_of _ (by decide +kernel)) ggX8_count_X1_countFilled
set_option maxRecDepth 20000 in
theorem ggX8_count_X7_countKind : GoodIn wsX8_count wsX7_countKind := goodIn_r _ [51, 52, 53, 63, 64, 65, 66, 67, 68, 69, 70, 71, 72] (by decide +kernel) (by decide +kernel)
set_option maxRecDepth 20000 in
theorem gX8_count_X7_countKind : GoodIn wsX8_count (wsV RX8 201 RX7 yX7_countKind wsX7_countKind) := goodIn_app (goodIn_of _ (by decide +kernel)) ggX8_count_X7_countKind
set_option maxRecDepth 20000 in
theorem ggX8_grid_X8_isYear : GoodIn wsX8_grid wsX8_isYear := goodIn_r _ [6] (by decide +kernel) (by decide +kernel)
set_option maxRecDepth 20000 in
theorem gX8_grid_X8_isYear : GoodIn wsX8_grid (va_wsS RX8 110 yX8_isYear wsX8_isYear) := goodIn_app (goodIn_of _ (by decide +kernel)) ggX8_grid_X8_isYear
set_option maxRecDepth 20000 in
theorem ggX8_grid_X8_isSquare : GoodIn wsX8_grid wsX8_isSquare := goodIn_r _ [9] (by decide +kernel) (by decide +kernel)
set_option maxRecDepth 20000 in
theorem gX8_grid_X8_isSquare : GoodIn wsX8_grid (va_wsS RX8 204 yX8_isSquare wsX8_isSquare) := goodIn_app (goodIn_of _ (by decide +kernel)) ggX8_grid_X8_isSquare
set_option maxRecDepth 20000 in
theorem ggX8_grid_X1_measure : GoodIn wsX8_grid wsX1_measure := goodIn_r _ [14, 15, 16, 17, 18, 19, 20, 21, 22, 23, 24, 25, 26, 27, 28, 29, 30, 31, 32, 33, 34, 35, 36, 37, 38, 39, 40, 54, 55, 56, 57, 58, 59, 60, 61, 62, 63, 64] (by decide +kernel) (by decide +kernel)
set_option maxRecDepth 20000 in
theorem gX8_grid_X1_measure : GoodIn wsX8_grid (wsV RX8 194 RX1 yX1_measure wsX1_measure) := goodIn_app (goodIn_of _ (by decide +kernel)) ggX8_grid_X1_measure
set_option maxRecDepth 20000 in
theorem ggX8_grid_X1_at : GoodIn wsX8_grid wsX1_at := goodIn_r _ [44, 15, 54] (by decide +kernel) (by decide +kernel)
set_option maxRecDepth 20000 in
theorem gX8_grid_X1_at : GoodIn wsX8_grid (wsV RX8 207 RX1 yX1_at wsX1_at) := goodIn_app (goodIn_of _ (by decide +kernel)) ggX8_grid_X1_at
set_option maxRecDepth 20000 in
theorem ggX8_volume_X8_isYear : GoodIn wsX8_volume wsX8_isYear := goodIn_r _ [6] (by decide +kernel) (by decide +kernel)
set_option maxRecDepth 20000 in
theorem gX8_volume_X8_isYear : GoodIn wsX8_volume (va_wsS RX8 110 yX8_isYear wsX8_isYear) := goodIn_app (goodIn_of _ (by decide +kernel)) ggX8_volume_X8_isYear
set_option maxRecDepth 20000 in
theorem ggX8_volume_X8_isLevel : GoodIn wsX8_volume wsX8_isLevel := goodIn_r _ [9] (by decide +kernel) (by decide +kernel)
set_option maxRecDepth 20000 in
theorem gX8_volume_X8_isLevel : GoodIn wsX8_volume (va_wsS RX8 211 yX8_isLevel wsX8_isLevel) := goodIn_app (goodIn_of _ (by decide +kernel)) ggX8_volume_X8_isLevel
set_option maxRecDepth 20000 in
theorem ggX8_volume_X1_measure : GoodIn wsX8_volume wsX1_measure := goodIn_r _ [14, 15, 16, 17, 18, 19, 20, 21, 22, 23, 24, 25, 26, 27, 28, 29, 30, 31, 32, 33, 34, 35, 36, 37, 38, 39, 40, 72, 73, 74, 75, 76, 77, 78, 79, 80, 81, 82] (by decide +kernel) (by decide +kernel)
set_option maxRecDepth 20000 in
theorem gX8_volume_X1_measure : GoodIn wsX8_volume (wsV RX8 194 RX1 yX1_measure wsX1_measure) := goodIn_app (goodIn_of _ (by decide +kernel)) ggX8_volume_X1_measure
set_option maxRecDepth 20000 in
theorem ggX8_volume_X1_volumeAbove : GoodIn wsX8_volume wsX1_volumeAbove := goodIn_r _ [44, 45, 46, 47, 48, 49, 13, 50, 51, 52, 53, 54, 15, 16, 55, 56, 57, 58, 59, 60, 61, 62, 72] (by decide +kernel) (by decide +kernel)
set_option maxRecDepth 20000 in
theorem gX8_volume_X1_volumeAbove : GoodIn wsX8_volume (wsV RX8 214 RX1 yX1_volumeAbove wsX1_volumeAbove) := goodIn_app (goodIn_of _ (by decide +kernel)) ggX8_volume_X1_volumeAbove
set_option maxRecDepth 20000 in
theorem ggX8_thirds_X8_isYear : GoodIn wsX8_thirds wsX8_isYear := goodIn_r _ [6] (by decide +kernel) (by decide +kernel)
set_option maxRecDepth 20000 in
theorem gX8_thirds_X8_isYear : GoodIn wsX8_thirds (va_wsS RX8 110 yX8_isYear wsX8_isYear) := goodIn_app (goodIn_of _ (by decide +kernel)) ggX8_thirds_X8_isYear
set_option maxRecDepth 20000 in
theorem ggX8_thirds_X1_measure : GoodIn wsX8_thirds wsX1_measure := goodIn_r _ [11, 12, 13, 14, 15, 16, 17, 18, 19, 20, 21, 22, 23, 24, 25, 26, 27, 28, 29, 30, 31, 32, 33, 34, 35, 36, 37, 59, 60, 61, 62, 63, 64, 65, 66, 67, 68, 69] (by decide +kernel) (by decide +kernel)
set_option maxRecDepth 20000 in
theorem gX8_thirds_X1_measure : GoodIn wsX8_thirds (wsV RX8 194 RX1 yX1_measure wsX1_measure) := goodIn_app (goodIn_of _ (by decide +kernel)) ggX8_thirds_X1_measure
set_option maxRecDepth 20000 in
theorem ggX8_thirds_X1_countThirds : GoodIn wsX8_thirds wsX1_countThirds := goodIn_r _ [41, 42, 43, 44, 10, 45, 46, 47, 48, 49, 12, 13, 59] (by decide +kernel) (by decide +kernel)
set_option maxRecDepth 20000 in
theorem gX8_thirds_X1_countThirds : GoodIn wsX8_thirds (wsV RX8 218 RX1 yX1_countThirds wsX1_countThirds) := goodIn_app (goodIn_of _ (by decide +kernel)) ggX8_thirds_X1_countThirds
set_option maxRecDepth 20000 in
theorem ggX8_lines_X8_isYear : GoodIn wsX8_lines wsX8_isYear := goodIn_r _ [7] (by decide +kernel) (by decide +kernel)
set_option maxRecDepth 20000 in
theorem gX8_lines_X8_isYear : GoodIn wsX8_lines (va_wsS RX8 110 yX8_isYear wsX8_isYear) := goodIn_app (goodIn_of _ (by decide +kernel)) ggX8_lines_X8_isYear
set_option maxRecDepth 20000 in
theorem ggX8_lines_X8_isLevel : GoodIn wsX8_lines wsX8_isLevel := goodIn_r _ [10] (by decide +kernel) (by decide +kernel)
set_option maxRecDepth 20000 in
theorem gX8_lines_X8_isLevel : GoodIn wsX8_lines (va_wsS RX8 211 yX8_isLevel wsX8_isLevel) := goodIn_app (goodIn_of _ (by decide +kernel)) ggX8_lines_X8_isLevel
set_option maxRecDepth 20000 in
theorem ggX8_lines_X1_measure : GoodIn wsX8_lines wsX1_measure := goodIn_r _ [15, 16, 17, 18, 19, 20, 21, 22, 23, 24, 25, 26, 27, 28, 29, 30, 31, 32, 33, 34, 35, 36, 37, 38, 39, 40, 41, 111, 112, 113, 114, 115, 116, 117, 118, 119, 120, 121] (by decide +kernel) (by decide +kernel)
set_option maxRecDepth 20000 in
theorem gX8_lines_X1_measure : GoodIn wsX8_lines (wsV RX8 194 RX1 yX1_measure wsX1_measure) := goodIn_app (goodIn_of _ (by decide +kernel)) ggX8_lines_X1_measure
set_option maxRecDepth 20000 in
theorem ggX8_lines_X3_countLines : GoodIn wsX8_lines wsX3_countLines := goodIn_r _ [46, 47, 48, 49, 50, 45, 51, 52, 53, 54, 55, 56, 57, 58, 59, 60, 61, 62, 14, 63, 64, 65, 66, 67, 16, 17, 68, 69, 70, 71, 72, 73, 74, 75, 76, 77, 78, 79, 80, 81, 82, 83, 84, 85, 86, 87, 88, 89, 90, 91, 92, 93, 94, 95, 96, 97, 98, 99, 100, 101, 122, 123, 124, 111] (by decide +kernel) (by decide +kernel)
set_option maxRecDepth 20000 in
theorem gX8_lines_X3_countLines : GoodIn wsX8_lines (wsV RX8 221 RX3 yX3_countLines wsX3_countLines) := goodIn_app (goodIn_of _ (by decide +kernel)) ggX8_lines_X3_countLines
set_option maxRecDepth 20000 in
theorem ggX8_changed_X1_measure : GoodIn wsX8_changed wsX1_measure := goodIn_r _ [9, 10, 11, 12, 13, 14, 15, 16, 17, 18, 19, 20, 21, 22, 23, 24, 25, 26, 27, 28, 29, 30, 31, 32, 33, 34, 35, 61, 62, 63, 64, 65, 66, 67, 68, 69, 70, 71] (by decide +kernel) (by decide +kernel)
set_option maxRecDepth 20000 in
theorem gX8_changed_X1_measure : GoodIn wsX8_changed (wsV RX8 194 RX1 yX1_measure wsX1_measure) := goodIn_app (goodIn_of _ (by decide +kernel)) ggX8_changed_X1_measure
set_option maxRecDepth 20000 in
theorem ggX8_changed_X1_countBoth : GoodIn wsX8_changed wsX1_countBoth := goodIn_r _ [39, 10, 40, 41, 42, 8, 43, 11, 61] (by decide +kernel) (by decide +kernel)
set_option maxRecDepth 20000 in
theorem gX8_changed_X1_countBoth : GoodIn wsX8_changed (wsV RX8 226 RX1 yX1_countBoth wsX1_countBoth) := goodIn_app (goodIn_of _ (by decide +kernel)) ggX8_changed_X1_countBoth
set_option maxRecDepth 20000 in
theorem ggX8_changed_X1_countRisen : GoodIn wsX8_changed wsX1_countRisen := goodIn_r _ [47, 10, 40, 41, 42, 8, 43, 11, 61] (by decide +kernel) (by decide +kernel)
set_option maxRecDepth 20000 in
theorem gX8_changed_X1_countRisen : GoodIn wsX8_changed (wsV RX8 230 RX1 yX1_countRisen wsX1_countRisen) := goodIn_app (goodIn_of _ (by decide +kernel)) ggX8_changed_X1_countRisen
set_option maxRecDepth 20000 in
theorem ggX8_changed_X1_sumOfRises : GoodIn wsX8_changed wsX1_sumOfRises := goodIn_r _ [51, 10, 40, 41, 42, 8, 43, 11, 61] (by decide +kernel) (by decide +kernel)
set_option maxRecDepth 20000 in
theorem gX8_changed_X1_sumOfRises : GoodIn wsX8_changed (wsV RX8 234 RX1 yX1_sumOfRises wsX1_sumOfRises) := goodIn_app (goodIn_of _ (by decide +kernel)) ggX8_changed_X1_sumOfRises
set_option maxRecDepth 20000 in
theorem ggX8_type_X6_isPlain : GoodIn wsX8_type wsX6_isPlain := goodIn_r _ [6, 7, 8, 5, 9] (by decide +kernel) (by decide +kernel)
set_option maxRecDepth 20000 in
theorem gX8_type_X6_isPlain : GoodIn wsX8_type (va_wsS RX8 237 yX6_isPlain wsX6_isPlain) := goodIn_app (goodIn_of _ (by decide +kernel)) ggX8_type_X6_isPlain
set_option maxRecDepth 20000 in
theorem ggX8_type_X6_append : GoodIn wsX8_type wsX6_append := goodIn_r _ [13, 14, 15, 7, 8, 5, 9, 25, 26] (by decide +kernel) (by decide +kernel)
set_option maxRecDepth 20000 in
theorem gX8_type_X6_append : GoodIn wsX8_type (wsV RX8 242 RX6 yX6_append wsX6_append) := goodIn_app (goodIn_of _ (by decide +kernel)) ggX8_type_X6_append
set_option maxRecDepth 20000 in
theorem ggX8_job_X8_isYear : GoodIn wsX8_job wsX8_isYear := goodIn_r _ [9] (by decide +kernel) (by decide +kernel)
set_option maxRecDepth 20000 in
theorem gX8_job_X8_isYear : GoodIn wsX8_job (va_wsS RX8 110 yX8_isYear wsX8_isYear) := goodIn_app (goodIn_of _ (by decide +kernel)) ggX8_job_X8_isYear
set_option maxRecDepth 20000 in
theorem ggX8_job_X2_read : GoodIn wsX8_job wsX2_read := goodIn_r _ [14, 15, 16, 17, 18, 19, 20, 21, 22, 23, 24, 13, 25, 26, 27, 28, 29, 30, 31, 32, 33, 34, 35, 36, 37, 38, 39, 40, 41, 42, 43, 44, 251, 252, 253, 254, 255, 256, 257, 258, 259, 260, 261] (by decide +kernel) (by decide +kernel)
set_option maxRecDepth 20000 in
theorem gX8_job_X2_read : GoodIn wsX8_job (wsV RX8 246 RX2 yX2_read wsX2_read) := goodIn_app (goodIn_of _ (by decide +kernel)) ggX8_job_X2_read
set_option maxRecDepth 20000 in
theorem ggX8_job_X8_doStep : GoodIn wsX8_job wsX8_doStep := goodIn_r _ [48, 1, 49, 50, 51, 52, 53, 54, 55, 56, 57, 58, 59, 60, 61, 62, 63, 64, 65, 66, 67, 68, 69, 70, 71, 72, 73, 74, 75, 76, 77, 78, 79, 80, 81, 82, 83, 84, 85, 86, 87, 88, 89, 90, 91, 92, 93, 94, 95, 96, 97, 98, 99, 100, 101, 102, 103, 104, 105, 106, 107, 108, 109, 110, 111, 112, 113, 114, 115, 116, 117, 118, 119, 120, 121, 122, 123, 124, 125, 126, 127, 128, 129, 130, 131, 132, 133, 134, 135, 136, 137, 138, 139, 140, 141, 142, 8, 143, 144, 145, 146, 147, 148, 149, 150, 151, 152, 153, 154, 155, 156, 157, 158, 159, 160, 161, 162, 163, 164, 165, 166, 167, 168, 169, 170, 171, 172, 173, 174, 175, 176, 177, 178, 179, 180, 181, 182, 183, 184, 185, 186, 187, 188, 189, 190, 191, 192, 193, 194, 195, 196, 197, 198, 199, 200, 201, 202, 203, 204, 205, 206, 207, 208, 209, 210, 211, 212, 213, 214, 215, 216, 217, 218, 219, 220, 221, 222, 223, 224, 225, 226, 227, 228, 229, 230, 231, 232, 233, 234, 235, 236, 237, 238, 239, 240, 241, 242, 243, 244, 245, 246, 247, 248, 249, 250, 253, 254, 255, 256, 257, 258, 259, 260, 261, 262, 263, 264, 265, 266, 267, 268, 269, 270, 271, 272, 273, 274, 275, 276, 277, 278, 279, 280, 281, 282, 283, 284, 285, 286, 287, 288] (by decide +kernel) (by decide +kernel)
set_option maxRecDepth 20000 in
theorem gX8_job_X8_doStep : GoodIn wsX8_job (wsV RX8 253 RX8 yX8_doStep wsX8_doStep) := goodIn_app (goodIn_of _ (by decide +kernel)) ggX8_job_X8_doStep
set_option maxRecDepth 20000 in
theorem ggX8_doStep_X0_bringTogether : GoodIn wsX8_doStep wsX0_bringTogether := goodIn_r _ [12, 13, 14, 15, 16, 17, 18, 11, 19, 20, 21, 22, 23, 24, 25, 26, 27, 28, 29, 30, 31, 32, 33, 34, 35, 36, 37, 38, 39, 40, 41, 42, 43, 44, 45, 46, 47, 48, 49, 50, 51, 52, 53, 54, 55, 56, 57, 58, 59, 60, 61, 62, 63, 64, 65, 66, 67, 68, 69, 70, 71, 72, 73, 74, 214, 215, 216, 217, 218, 219, 220, 221, 222, 223, 224, 225, 226, 227] (by decide +kernel) (by decide +kernel)
set_option maxRecDepth 20000 in
theorem gX8_doStep_X0_bringTogether : GoodIn wsX8_doStep (wsV RX8 168 RX0 yX0_bringTogether wsX0_bringTogether) := goodIn_app (goodIn_of _ (by decide +kernel)) ggX8_doStep_X0_bringTogether
set_option maxRecDepth 20000 in
theorem ggX8_doStep_X7_growGround : GoodIn wsX8_doStep wsX7_growGround := goodIn_r _ [78, 79, 80, 81, 82, 39, 83, 84, 85, 86, 87, 88, 89, 90, 91, 92, 93, 94, 46, 47, 95, 96, 97, 98, 99, 100, 101, 102, 103, 41, 104, 105, 106, 107, 108, 109, 110, 111, 112, 113, 114, 115, 116, 117, 118, 119, 120, 121, 122, 123, 124, 125, 126, 127, 218, 219, 220, 221, 222, 223, 224, 225, 226, 227] (by decide +kernel) (by decide +kernel)
set_option maxRecDepth 20000 in
theorem gX8_doStep_X7_growGround : GoodIn wsX8_doStep (wsV RX8 182 RX7 yX7_growGround wsX7_growGround) := goodIn_app (goodIn_of _ (by decide +kernel)) ggX8_doStep_X7_growGround
set_option maxRecDepth 20000 in
theorem ggX8_doStep_X4_findAll : GoodIn wsX8_doStep wsX4_findAll := goodIn_r _ [132, 133, 134, 135, 136, 131, 137, 138, 139, 140, 141, 142, 143, 144, 145, 146, 147, 148, 149, 150, 151, 152, 153, 154, 155, 156, 99, 100, 39, 101, 102, 103, 41, 157, 158, 159, 160, 161, 162, 163, 164, 165, 166, 167, 168, 169, 170, 171, 172, 173, 174, 175, 176, 177, 178, 179, 180, 181, 182, 183, 184, 185, 186, 187, 188, 189, 190, 191, 192, 193, 194, 195, 228, 229, 230, 231, 232, 233, 234, 235, 236, 237, 238, 239, 240, 218, 219, 220, 221, 222, 223, 224, 225, 226, 227] (by decide +kernel) (by decide +kernel)
set_option maxRecDepth 20000 in
theorem gX8_doStep_X4_findAll : GoodIn wsX8_doStep (wsV RX8 186 RX4 yX4_findAll wsX4_findAll) := goodIn_app (goodIn_of _ (by decide +kernel)) ggX8_doStep_X4_findAll
set_option maxRecDepth 20000 in
theorem ggX9_isSheet_X9_in : GoodIn wsX9_isSheet wsX9_in := goodIn_r _ [6] (by decide +kernel) (by decide +kernel)
set_option maxRecDepth 20000 in
theorem gX9_isSheet_X9_in : GoodIn wsX9_isSheet (va_wsS RX9 89 yX9_in wsX9_in) := goodIn_app (goodIn_of _ (by decide +kernel)) ggX9_isSheet_X9_in
set_option maxRecDepth 20000 in
theorem ggX9_sheet_X9_isSheet : GoodIn wsX9_sheet wsX9_isSheet := goodIn_r _ [7, 8, 9, 10, 11, 6, 12] (by decide +kernel) (by decide +kernel)
set_option maxRecDepth 20000 in
theorem gX9_sheet_X9_isSheet : GoodIn wsX9_sheet (va_wsS RX9 95 yX9_isSheet wsX9_isSheet) := goodIn_app (goodIn_of _ (by decide +kernel)) ggX9_sheet_X9_isSheet
set_option maxRecDepth 20000 in
theorem ggX9_drop_X9_in : GoodIn wsX9_drop wsX9_in := goodIn_r _ [7] (by decide +kernel) (by decide +kernel)
set_option maxRecDepth 20000 in
theorem gX9_drop_X9_in : GoodIn wsX9_drop (va_wsS RX9 89 yX9_in wsX9_in) := goodIn_app (goodIn_of _ (by decide +kernel)) ggX9_drop_X9_in
set_option maxRecDepth 20000 in
theorem ggX9_item_X9_isSheet : GoodIn wsX9_item wsX9_isSheet := goodIn_r _ [6, 7, 8, 9, 10, 5, 11] (by decide +kernel) (by decide +kernel)
set_option maxRecDepth 20000 in
theorem gX9_item_X9_isSheet : GoodIn wsX9_item (va_wsS RX9 95 yX9_isSheet wsX9_isSheet) := goodIn_app (goodIn_of _ (by decide +kernel)) ggX9_item_X9_isSheet
set_option maxRecDepth 20000 in
theorem ggX9_item_X9_against : GoodIn wsX9_item wsX9_against := goodIn_r _ [15, 16, 17, 18, 19, 20, 21, 22, 23, 24, 25, 26, 27, 28, 29, 30, 31, 32, 33, 34, 35, 36, 37, 38, 39, 40, 41, 42, 43, 44, 45, 46] (by decide +kernel) (by decide +kernel)
set_option maxRecDepth 20000 in
theorem gX9_item_X9_against : GoodIn wsX9_item (wsV RX9 99 RX9 yX9_against wsX9_against) := goodIn_app (goodIn_of _ (by decide +kernel)) ggX9_item_X9_against
set_option maxRecDepth 20000 in
theorem ggX9_item_X9_in : GoodIn wsX9_item wsX9_in := goodIn_r _ [11] (by decide +kernel) (by decide +kernel)
set_option maxRecDepth 20000 in
theorem gX9_item_X9_in : GoodIn wsX9_item (va_wsS RX9 89 yX9_in wsX9_in) := goodIn_app (goodIn_of _ (by decide +kernel)) ggX9_item_X9_in
set_option maxRecDepth 20000 in
theorem ggX9_copy_X9_in : GoodIn wsX9_copy wsX9_in := goodIn_r _ [9] (by decide +kernel) (by decide +kernel)
set_option maxRecDepth 20000 in
theorem gX9_copy_X9_in : GoodIn wsX9_copy (va_wsS RX9 89 yX9_in wsX9_in) := goodIn_app (goodIn_of _ (by decide +kernel)) ggX9_copy_X9_in
set_option maxRecDepth 20000 in
theorem ggX9_copy_X9_isSpan : GoodIn wsX9_copy wsX9_isSpan := goodIn_r _ [12] (by decide +kernel) (by decide +kernel)
set_option maxRecDepth 20000 in
theorem gX9_copy_X9_isSpan : GoodIn wsX9_copy (va_wsS RX9 103 yX9_isSpan wsX9_isSpan) := goodIn_app (goodIn_of _ (by decide +kernel)) ggX9_copy_X9_isSpan
set_option maxRecDepth 20000 in
theorem ggX9_isYear_X9_in : GoodIn wsX9_isYear wsX9_in := goodIn_r _ [4] (by decide +kernel) (by decide +kernel)
set_option maxRecDepth 20000 in
theorem gX9_isYear_X9_in : GoodIn wsX9_isYear (va_wsS RX9 89 yX9_in wsX9_in) := goodIn_app (goodIn_of _ (by decide +kernel)) ggX9_isYear_X9_in
set_option maxRecDepth 20000 in
theorem ggX9_isPoint_X9_in : GoodIn wsX9_isPoint wsX9_in := goodIn_r _ [9] (by decide +kernel) (by decide +kernel)
set_option maxRecDepth 20000 in
theorem gX9_isPoint_X9_in : GoodIn wsX9_isPoint (va_wsS RX9 89 yX9_in wsX9_in) := goodIn_app (goodIn_of _ (by decide +kernel)) ggX9_isPoint_X9_in
set_option maxRecDepth 20000 in
theorem ggX9_isPoint_X9_tileOf : GoodIn wsX9_isPoint wsX9_tileOf := goodIn_r _ [12] (by decide +kernel) (by decide +kernel)
set_option maxRecDepth 20000 in
theorem gX9_isPoint_X9_tileOf : GoodIn wsX9_isPoint (va_wsS RX9 113 yX9_tileOf wsX9_tileOf) := goodIn_app (goodIn_of _ (by decide +kernel)) ggX9_isPoint_X9_tileOf
set_option maxRecDepth 20000 in
theorem ggX9_points_X9_isYear : GoodIn wsX9_points wsX9_isYear := goodIn_r _ [15, 16, 17, 14, 18] (by decide +kernel) (by decide +kernel)
set_option maxRecDepth 20000 in
theorem gX9_points_X9_isYear : GoodIn wsX9_points (va_wsS RX9 116 yX9_isYear wsX9_isYear) := goodIn_app (goodIn_of _ (by decide +kernel)) ggX9_points_X9_isYear
set_option maxRecDepth 20000 in
theorem ggX9_points_X9_isSheet : GoodIn wsX9_points wsX9_isSheet := goodIn_r _ [21, 22, 23, 16, 17, 14, 18] (by decide +kernel) (by decide +kernel)
set_option maxRecDepth 20000 in
theorem gX9_points_X9_isSheet : GoodIn wsX9_points (va_wsS RX9 95 yX9_isSheet wsX9_isSheet) := goodIn_app (goodIn_of _ (by decide +kernel)) ggX9_points_X9_isSheet
set_option maxRecDepth 20000 in
theorem ggX9_points_X9_in : GoodIn wsX9_points wsX9_in := goodIn_r _ [18] (by decide +kernel) (by decide +kernel)
set_option maxRecDepth 20000 in
theorem gX9_points_X9_in : GoodIn wsX9_points (va_wsS RX9 89 yX9_in wsX9_in) := goodIn_app (goodIn_of _ (by decide +kernel)) ggX9_points_X9_in
set_option maxRecDepth 20000 in
theorem ggX9_points_X9_against : GoodIn wsX9_points wsX9_against := goodIn_r _ [27, 28, 43, 44, 45, 46, 47, 48, 49, 50, 51, 52, 53, 54, 55, 56, 57, 58, 59, 60, 61, 62, 63, 64, 65, 66, 67, 68, 69, 70, 71, 72] (by decide +kernel) (by decide +kernel)
set_option maxRecDepth 20000 in
theorem gX9_points_X9_against : GoodIn wsX9_points (wsV RX9 99 RX9 yX9_against wsX9_against) := goodIn_app (goodIn_of _ (by decide +kernel)) ggX9_points_X9_against
set_option maxRecDepth 20000 in
theorem ggX9_points_X9_isSpan : GoodIn wsX9_points wsX9_isSpan := goodIn_r _ [31] (by decide +kernel) (by decide +kernel)
set_option maxRecDepth 20000 in
theorem gX9_points_X9_isSpan : GoodIn wsX9_points (va_wsS RX9 103 yX9_isSpan wsX9_isSpan) := goodIn_app (goodIn_of _ (by decide +kernel)) ggX9_points_X9_isSpan
set_option maxRecDepth 20000 in
theorem ggX9_points_X9_isPoint : GoodIn wsX9_points wsX9_isPoint := goodIn_r _ [35, 36, 37, 38, 22, 39, 16, 17, 14, 18, 40, 41, 42, 43, 44, 45, 46, 47, 48, 49, 50, 51, 52, 53, 54, 55, 56, 57, 58, 59, 60, 61, 62, 63, 64, 65, 66, 67, 68, 69, 70, 71, 72] (by decide +kernel) (by decide +kernel)
set_option maxRecDepth 20000 in
theorem gX9_points_X9_isPoint : GoodIn wsX9_points (wsV RX9 122 RX9 yX9_isPoint wsX9_isPoint) := goodIn_app (goodIn_of _ (by decide +kernel)) ggX9_points_X9_isPoint
set_option maxRecDepth 20000 in
theorem ggX9_told_X9_isYear : GoodIn wsX9_told wsX9_isYear := goodIn_r _ [12, 13, 14, 11, 15] (by decide +kernel) (by decide +kernel)
set_option maxRecDepth 20000 in
theorem gX9_told_X9_isYear : GoodIn wsX9_told (va_wsS RX9 116 yX9_isYear wsX9_isYear) := goodIn_app (goodIn_of _ (by decide +kernel)) ggX9_told_X9_isYear
set_option maxRecDepth 20000 in
theorem ggX9_told_X9_in : GoodIn wsX9_told wsX9_in := goodIn_r _ [15] (by decide +kernel) (by decide +kernel)
set_option maxRecDepth 20000 in
theorem gX9_told_X9_in : GoodIn wsX9_told (va_wsS RX9 89 yX9_in wsX9_in) := goodIn_app (goodIn_of _ (by decide +kernel)) ggX9_told_X9_in
set_option maxRecDepth 20000 in
theorem ggX9_told_X9_heightOf : GoodIn wsX9_told wsX9_heightOf := goodIn_r _ [19, 20, 21, 5, 22, 23, 24, 25, 26, 27, 28, 29, 30, 31, 32, 33, 34, 35, 36, 37, 38, 39, 40, 41, 42, 43, 44, 45, 46, 47, 48, 49, 50, 51] (by decide +kernel) (by decide +kernel)
set_option maxRecDepth 20000 in
theorem gX9_told_X9_heightOf : GoodIn wsX9_told (wsV RX9 128 RX9 yX9_heightOf wsX9_heightOf) := goodIn_app (goodIn_of _ (by decide +kernel)) ggX9_told_X9_heightOf
set_option maxRecDepth 20000 in
theorem ggX9_lose_X9_isYear : GoodIn wsX9_lose wsX9_isYear := goodIn_r _ [14, 15, 16, 13, 17] (by decide +kernel) (by decide +kernel)
set_option maxRecDepth 20000 in
theorem gX9_lose_X9_isYear : GoodIn wsX9_lose (va_wsS RX9 116 yX9_isYear wsX9_isYear) := goodIn_app (goodIn_of _ (by decide +kernel)) ggX9_lose_X9_isYear
set_option maxRecDepth 20000 in
theorem ggX9_lose_X9_in : GoodIn wsX9_lose wsX9_in := goodIn_r _ [17] (by decide +kernel) (by decide +kernel)
set_option maxRecDepth 20000 in
theorem gX9_lose_X9_in : GoodIn wsX9_lose (va_wsS RX9 89 yX9_in wsX9_in) := goodIn_app (goodIn_of _ (by decide +kernel)) ggX9_lose_X9_in
set_option maxRecDepth 20000 in
theorem ggX9_lose_X9_tileOf : GoodIn wsX9_lose wsX9_tileOf := goodIn_r _ [20] (by decide +kernel) (by decide +kernel)
set_option maxRecDepth 20000 in
theorem gX9_lose_X9_tileOf : GoodIn wsX9_lose (va_wsS RX9 113 yX9_tileOf wsX9_tileOf) := goodIn_app (goodIn_of _ (by decide +kernel)) ggX9_lose_X9_tileOf
set_option maxRecDepth 20000 in
theorem ggX9_box_X9_isYear : GoodIn wsX9_box wsX9_isYear := goodIn_r _ [8, 9, 10, 7, 11] (by decide +kernel) (by decide +kernel)
set_option maxRecDepth 20000 in
theorem gX9_box_X9_isYear : GoodIn wsX9_box (va_wsS RX9 116 yX9_isYear wsX9_isYear) := goodIn_app (goodIn_of _ (by decide +kernel)) ggX9_box_X9_isYear
set_option maxRecDepth 20000 in
theorem ggX9_box_X9_in : GoodIn wsX9_box wsX9_in := goodIn_r _ [11] (by decide +kernel) (by decide +kernel)
set_option maxRecDepth 20000 in
theorem gX9_box_X9_in : GoodIn wsX9_box (va_wsS RX9 89 yX9_in wsX9_in) := goodIn_app (goodIn_of _ (by decide +kernel)) ggX9_box_X9_in
set_option maxRecDepth 20000 in
theorem ggX9_box_X9_endOf : GoodIn wsX9_box wsX9_endOf := goodIn_r _ [15, 16, 17, 18, 19, 20, 21, 22, 23, 24, 25, 26, 27, 28, 29, 30, 31, 32, 33, 34, 35, 36, 37, 38, 39, 40, 41, 42, 43, 44, 45, 46] (by decide +kernel) (by decide +kernel)
set_option maxRecDepth 20000 in
theorem gX9_box_X9_endOf : GoodIn wsX9_box (wsV RX9 133 RX9 yX9_endOf wsX9_endOf) := goodIn_app (goodIn_of _ (by decide +kernel)) ggX9_box_X9_endOf
set_option maxRecDepth 20000 in
theorem ggX9_shift_X9_isYear : GoodIn wsX9_shift wsX9_isYear := goodIn_r _ [8, 9, 10, 7, 11] (by decide +kernel) (by decide +kernel)
set_option maxRecDepth 20000 in
theorem gX9_shift_X9_isYear : GoodIn wsX9_shift (va_wsS RX9 116 yX9_isYear wsX9_isYear) := goodIn_app (goodIn_of _ (by decide +kernel)) ggX9_shift_X9_isYear
set_option maxRecDepth 20000 in
theorem ggX9_shift_X9_in : GoodIn wsX9_shift wsX9_in := goodIn_r _ [11] (by decide +kernel) (by decide +kernel)
set_option maxRecDepth 20000 in
theorem gX9_shift_X9_in : GoodIn wsX9_shift (va_wsS RX9 89 yX9_in wsX9_in) := goodIn_app (goodIn_of _ (by decide +kernel)) ggX9_shift_X9_in
set_option maxRecDepth 20000 in
theorem ggX9_leftOver_X9_isYear : GoodIn wsX9_leftOver wsX9_isYear := goodIn_r _ [5, 6, 7, 4, 8] (by decide +kernel) (by decide +kernel)
set_option maxRecDepth 20000 in
theorem gX9_leftOver_X9_isYear : GoodIn wsX9_leftOver (va_wsS RX9 116 yX9_isYear wsX9_isYear) := goodIn_app (goodIn_of _ (by decide +kernel)) ggX9_leftOver_X9_isYear
set_option maxRecDepth 20000 in
theorem ggX9_leftOver_X9_endOf : GoodIn wsX9_leftOver wsX9_endOf := goodIn_r _ [12, 13, 27, 28, 29, 30, 31, 32, 33, 34, 35, 36, 37, 38, 39, 40, 41, 42, 43, 44, 45, 46, 47, 48, 49, 50, 51, 52, 53, 54, 55, 56] (by decide +kernel) (by decide +kernel)
set_option maxRecDepth 20000 in
theorem gX9_leftOver_X9_endOf : GoodIn wsX9_leftOver (wsV RX9 133 RX9 yX9_endOf wsX9_endOf) := goodIn_app (goodIn_of _ (by decide +kernel)) ggX9_leftOver_X9_endOf
set_option maxRecDepth 20000 in
theorem ggX9_leftOver_X9_heightOf : GoodIn wsX9_leftOver wsX9_heightOf := goodIn_r _ [17, 18, 19, 20, 27, 28, 29, 30, 31, 32, 33, 34, 35, 36, 37, 38, 39, 40, 41, 42, 43, 44, 45, 46, 47, 48, 49, 50, 51, 52, 53, 54, 55, 56] (by decide +kernel) (by decide +kernel)
set_option maxRecDepth 20000 in
theorem gX9_leftOver_X9_heightOf : GoodIn wsX9_leftOver (wsV RX9 128 RX9 yX9_heightOf wsX9_heightOf) := goodIn_app (goodIn_of _ (by decide +kernel)) ggX9_leftOver_X9_heightOf
set_option maxRecDepth 20000 in
theorem ggX9_leftOver_X9_arePair : GoodIn wsX9_leftOver wsX9_arePair := goodIn_r _ [24, 20, 25, 26, 27, 28, 29, 30, 31, 32, 33, 34, 35, 36, 37, 38, 39, 40, 41, 42, 43, 44, 45, 46, 47, 48, 49, 50, 51, 52, 53, 54, 55, 56] (by decide +kernel) (by decide +kernel)
set_option maxRecDepth 20000 in
theorem gX9_leftOver_X9_arePair : GoodIn wsX9_leftOver (wsV RX9 143 RX9 yX9_arePair wsX9_arePair) := goodIn_app (goodIn_of _ (by decide +kernel)) ggX9_leftOver_X9_arePair
set_option maxRecDepth 20000 in
theorem ggX9_hasStrip_X9_endOf : GoodIn wsX9_hasStrip wsX9_endOf := goodIn_r _ [6, 7, 8, 9, 10, 11, 12, 13, 14, 15, 16, 17, 18, 19, 20, 21, 22, 23, 24, 25, 26, 27, 28, 29, 30, 31, 32, 33, 34, 35, 36, 37] (by decide +kernel) (by decide +kernel)
set_option maxRecDepth 20000 in
theorem gX9_hasStrip_X9_endOf : GoodIn wsX9_hasStrip (wsV RX9 133 RX9 yX9_endOf wsX9_endOf) := goodIn_app (goodIn_of _ (by decide +kernel)) ggX9_hasStrip_X9_endOf
set_option maxRecDepth 20000 in
theorem ggX9_findSums_X9_hasStrip : GoodIn wsX9_findSums wsX9_hasStrip := goodIn_r _ [9, 3, 10, 11, 12, 8, 13, 14, 21, 22, 23, 24, 25, 26, 27, 28, 29, 30, 31, 32, 33, 34, 35, 36, 37, 38, 39, 40, 41, 42, 43, 44, 45, 46, 47, 48, 49, 50] (by decide +kernel) (by decide +kernel)
set_option maxRecDepth 20000 in
theorem gX9_findSums_X9_hasStrip : GoodIn wsX9_findSums (wsV RX9 146 RX9 yX9_hasStrip wsX9_hasStrip) := goodIn_app (goodIn_of _ (by decide +kernel)) ggX9_findSums_X9_hasStrip
set_option maxRecDepth 20000 in
theorem ggX9_findSums_X9_endOf : GoodIn wsX9_findSums wsX9_endOf := goodIn_r _ [13, 14, 21, 22, 23, 24, 25, 26, 27, 28, 29, 30, 31, 32, 33, 34, 35, 36, 37, 38, 39, 40, 41, 42, 43, 44, 45, 46, 47, 48, 49, 50] (by decide +kernel) (by decide +kernel)
set_option maxRecDepth 20000 in
theorem gX9_findSums_X9_endOf : GoodIn wsX9_findSums (wsV RX9 133 RX9 yX9_endOf wsX9_endOf) := goodIn_app (goodIn_of _ (by decide +kernel)) ggX9_findSums_X9_endOf
set_option maxRecDepth 20000 in
theorem ggX9_findSums_X9_arePair : GoodIn wsX9_findSums wsX9_arePair := goodIn_r _ [18, 3, 19, 20, 21, 22, 23, 24, 25, 26, 27, 28, 29, 30, 31, 32, 33, 34, 35, 36, 37, 38, 39, 40, 41, 42, 43, 44, 45, 46, 47, 48, 49, 50] (by decide +kernel) (by decide +kernel)
set_option maxRecDepth 20000 in
theorem gX9_findSums_X9_arePair : GoodIn wsX9_findSums (wsV RX9 143 RX9 yX9_arePair wsX9_arePair) := goodIn_app (goodIn_of _ (by decide +kernel)) ggX9_findSums_X9_arePair
set_option maxRecDepth 20000 in
theorem ggX9_fit_X9_isYear : GoodIn wsX9_fit wsX9_isYear := goodIn_r _ [11, 12, 13, 10, 14] (by decide +kernel) (by decide +kernel)
set_option maxRecDepth 20000 in
theorem gX9_fit_X9_isYear : GoodIn wsX9_fit (va_wsS RX9 116 yX9_isYear wsX9_isYear) := goodIn_app (goodIn_of _ (by decide +kernel)) ggX9_fit_X9_isYear
set_option maxRecDepth 20000 in
theorem ggX9_fit_X9_hasStrip : GoodIn wsX9_fit wsX9_hasStrip := goodIn_r _ [18, 19, 20, 21, 22, 10, 23, 24, 42, 43, 44, 45, 46, 47, 48, 49, 50, 51, 52, 53, 54, 55, 56, 57, 58, 59, 60, 61, 62, 63, 64, 65, 66, 67, 68, 69, 70, 71] (by decide +kernel) (by decide +kernel)
set_option maxRecDepth 20000 in
theorem gX9_fit_X9_hasStrip : GoodIn wsX9_fit (wsV RX9 146 RX9 yX9_hasStrip wsX9_hasStrip) := goodIn_app (goodIn_of _ (by decide +kernel)) ggX9_fit_X9_hasStrip
set_option maxRecDepth 20000 in
theorem ggX9_fit_X9_findSums : GoodIn wsX9_fit wsX9_findSums := goodIn_r _ [28, 1, 2, 19, 29, 15, 16, 17, 10, 18, 20, 21, 22, 23, 24, 30, 31, 32, 33, 34, 35, 42, 43, 44, 45, 46, 47, 48, 49, 50, 51, 52, 53, 54, 55, 56, 57, 58, 59, 60, 61, 62, 63, 64, 65, 66, 67, 68, 69, 70, 71] (by decide +kernel) (by decide +kernel)
set_option maxRecDepth 20000 in
theorem gX9_fit_X9_findSums : GoodIn wsX9_fit (wsV RX9 149 RX9 yX9_findSums wsX9_findSums) := goodIn_app (goodIn_of _ (by decide +kernel)) ggX9_fit_X9_findSums
set_option maxRecDepth 20000 in
theorem ggX9_fit_X9_ofThree : GoodIn wsX9_fit wsX9_ofThree := goodIn_r _ [38] (by decide +kernel) (by decide +kernel)
set_option maxRecDepth 20000 in
theorem gX9_fit_X9_ofThree : GoodIn wsX9_fit (va_wsS RX9 153 yX9_ofThree wsX9_ofThree) := goodIn_app (goodIn_of _ (by decide +kernel)) ggX9_fit_X9_ofThree
set_option maxRecDepth 20000 in
theorem ggX9_fit_X9_down : GoodIn wsX9_fit wsX9_down := goodIn_r _ [41] (by decide +kernel) (by decide +kernel)
set_option maxRecDepth 20000 in
theorem gX9_fit_X9_down : GoodIn wsX9_fit (va_wsS RX9 157 yX9_down wsX9_down) := goodIn_app (goodIn_of _ (by decide +kernel)) ggX9_fit_X9_down
set_option maxRecDepth 20000 in
theorem ggX9_fit_X9_in : GoodIn wsX9_fit wsX9_in := goodIn_r _ [14] (by decide +kernel) (by decide +kernel)
set_option maxRecDepth 20000 in
theorem gX9_fit_X9_in : GoodIn wsX9_fit (va_wsS RX9 89 yX9_in wsX9_in) := goodIn_app (goodIn_of _ (by decide +kernel)) ggX9_fit_X9_in
set_option maxRecDepth 20000 in
theorem ggX9_hand_X9_isYear : GoodIn wsX9_hand wsX9_isYear := goodIn_r _ [9, 10, 11, 8, 12] (by decide +kernel) (by decide +kernel)
set_option maxRecDepth 20000 in
theorem gX9_hand_X9_isYear : GoodIn wsX9_hand (va_wsS RX9 116 yX9_isYear wsX9_isYear) := goodIn_app (goodIn_of _ (by decide +kernel)) ggX9_hand_X9_isYear
set_option maxRecDepth 20000 in
theorem ggX9_hand_X9_in : GoodIn wsX9_hand wsX9_in := goodIn_r _ [12] (by decide +kernel) (by decide +kernel)
set_option maxRecDepth 20000 in
theorem gX9_hand_X9_in : GoodIn wsX9_hand (va_wsS RX9 89 yX9_in wsX9_in) := goodIn_app (goodIn_of _ (by decide +kernel)) ggX9_hand_X9_in
set_option maxRecDepth 20000 in
theorem ggX9_seed_X9_endOf : GoodIn wsX9_seed wsX9_endOf := goodIn_r _ [8, 9, 26, 27, 28, 29, 30, 31, 32, 33, 34, 35, 36, 37, 38, 39, 40, 41, 42, 43, 44, 45, 46, 47, 48, 49, 50, 51, 52, 53, 54, 55] (by decide +kernel) (by decide +kernel)
set_option maxRecDepth 20000 in
theorem gX9_seed_X9_endOf : GoodIn wsX9_seed (wsV RX9 133 RX9 yX9_endOf wsX9_endOf) := goodIn_app (goodIn_of _ (by decide +kernel)) ggX9_seed_X9_endOf
set_option maxRecDepth 20000 in
theorem ggX9_seed_X9_tileOf : GoodIn wsX9_seed wsX9_tileOf := goodIn_r _ [12] (by decide +kernel) (by decide +kernel)
set_option maxRecDepth 20000 in
theorem gX9_seed_X9_tileOf : GoodIn wsX9_seed (va_wsS RX9 113 yX9_tileOf wsX9_tileOf) := goodIn_app (goodIn_of _ (by decide +kernel)) ggX9_seed_X9_tileOf
set_option maxRecDepth 20000 in
theorem ggX9_seed_X9_heightOf : GoodIn wsX9_seed wsX9_heightOf := goodIn_r _ [16, 17, 18, 19, 26, 27, 28, 29, 30, 31, 32, 33, 34, 35, 36, 37, 38, 39, 40, 41, 42, 43, 44, 45, 46, 47, 48, 49, 50, 51, 52, 53, 54, 55] (by decide +kernel) (by decide +kernel)
set_option maxRecDepth 20000 in
theorem gX9_seed_X9_heightOf : GoodIn wsX9_seed (wsV RX9 128 RX9 yX9_heightOf wsX9_heightOf) := goodIn_app (goodIn_of _ (by decide +kernel)) ggX9_seed_X9_heightOf
set_option maxRecDepth 20000 in
theorem ggX9_seed_X9_ground : GoodIn wsX9_seed wsX9_ground := goodIn_r _ [23, 24, 25, 26, 27, 28, 29, 30, 31, 32, 33, 34, 35, 36, 37, 38, 39, 40, 41, 42, 43, 44, 45, 46, 47, 48, 49, 50, 51, 52, 53, 54, 55] (by decide +kernel) (by decide +kernel)
set_option maxRecDepth 20000 in
theorem gX9_seed_X9_ground : GoodIn wsX9_seed (wsV RX9 161 RX9 yX9_ground wsX9_ground) := goodIn_app (goodIn_of _ (by decide +kernel)) ggX9_seed_X9_ground
set_option maxRecDepth 20000 in
theorem ggX9_reaches_X9_heightOf : GoodIn wsX9_reaches wsX9_heightOf := goodIn_r _ [7, 8, 9, 10, 11, 12, 13, 14, 15, 16, 17, 18, 19, 20, 21, 22, 23, 24, 25, 26, 27, 28, 29, 30, 31, 32, 33, 34, 35, 36, 37, 38, 39, 40] (by decide +kernel) (by decide +kernel)
set_option maxRecDepth 20000 in
theorem gX9_reaches_X9_heightOf : GoodIn wsX9_reaches (wsV RX9 128 RX9 yX9_heightOf wsX9_heightOf) := goodIn_app (goodIn_of _ (by decide +kernel)) ggX9_reaches_X9_heightOf
set_option maxRecDepth 20000 in
theorem ggX9_isReached_X9_endOf : GoodIn wsX9_isReached wsX9_endOf := goodIn_r _ [7, 8, 22, 23, 24, 25, 26, 27, 28, 29, 30, 31, 32, 33, 34, 35, 36, 37, 38, 39, 40, 41, 42, 43, 44, 45, 46, 47, 48, 49, 50, 51] (by decide +kernel) (by decide +kernel)
set_option maxRecDepth 20000 in
theorem gX9_isReached_X9_endOf : GoodIn wsX9_isReached (wsV RX9 133 RX9 yX9_endOf wsX9_endOf) := goodIn_app (goodIn_of _ (by decide +kernel)) ggX9_isReached_X9_endOf
set_option maxRecDepth 20000 in
theorem ggX9_isReached_X9_reaches : GoodIn wsX9_isReached wsX9_reaches := goodIn_r _ [12, 13, 14, 15, 16, 17, 6, 18, 19, 20, 21, 22, 23, 24, 25, 26, 27, 28, 29, 30, 31, 32, 33, 34, 35, 36, 37, 38, 39, 40, 41, 42, 43, 44, 45, 46, 47, 48, 49, 50, 51] (by decide +kernel) (by decide +kernel)
set_option maxRecDepth 20000 in
theorem gX9_isReached_X9_reaches : GoodIn wsX9_isReached (wsV RX9 165 RX9 yX9_reaches wsX9_reaches) := goodIn_app (goodIn_of _ (by decide +kernel)) ggX9_isReached_X9_reaches
set_option maxRecDepth 20000 in
theorem ggX9_countOf_X9_endOf : GoodIn wsX9_countOf wsX9_endOf := goodIn_r _ [6, 7, 8, 9, 10, 11, 12, 13, 14, 15, 16, 17, 18, 19, 20, 21, 22, 23, 24, 25, 26, 27, 28, 29, 30, 31, 32, 33, 34, 35, 36, 37] (by decide +kernel) (by decide +kernel)
set_option maxRecDepth 20000 in
theorem gX9_countOf_X9_endOf : GoodIn wsX9_countOf (wsV RX9 133 RX9 yX9_endOf wsX9_endOf) := goodIn_app (goodIn_of _ (by decide +kernel)) ggX9_countOf_X9_endOf
set_option maxRecDepth 20000 in
theorem ggX9_isGrowing_X9_in : GoodIn wsX9_isGrowing wsX9_in := goodIn_r _ [6] (by decide +kernel) (by decide +kernel)
set_option maxRecDepth 20000 in
theorem gX9_isGrowing_X9_in : GoodIn wsX9_isGrowing (va_wsS RX9 89 yX9_in wsX9_in) := goodIn_app (goodIn_of _ (by decide +kernel)) ggX9_isGrowing_X9_in
set_option maxRecDepth 20000 in
theorem ggX9_grow_X9_isYear : GoodIn wsX9_grow wsX9_isYear := goodIn_r _ [7, 8, 9, 6, 10] (by decide +kernel) (by decide +kernel)
set_option maxRecDepth 20000 in
theorem gX9_grow_X9_isYear : GoodIn wsX9_grow (va_wsS RX9 116 yX9_isYear wsX9_isYear) := goodIn_app (goodIn_of _ (by decide +kernel)) ggX9_grow_X9_isYear
set_option maxRecDepth 20000 in
theorem ggX9_grow_X9_isGrowing : GoodIn wsX9_grow wsX9_isGrowing := goodIn_r _ [13, 14, 15, 8, 9, 6, 10] (by decide +kernel) (by decide +kernel)
set_option maxRecDepth 20000 in
theorem gX9_grow_X9_isGrowing : GoodIn wsX9_grow (va_wsS RX9 173 yX9_isGrowing wsX9_isGrowing) := goodIn_app (goodIn_of _ (by decide +kernel)) ggX9_grow_X9_isGrowing
set_option maxRecDepth 20000 in
theorem ggX9_grow_X9_endOf : GoodIn wsX9_grow wsX9_endOf := goodIn_r _ [19, 20, 53, 54, 55, 56, 57, 58, 59, 60, 61, 62, 63, 64, 65, 66, 67, 68, 69, 70, 71, 72, 73, 74, 75, 76, 77, 78, 79, 80, 81, 82] (by decide +kernel) (by decide +kernel)
set_option maxRecDepth 20000 in
theorem gX9_grow_X9_endOf : GoodIn wsX9_grow (wsV RX9 133 RX9 yX9_endOf wsX9_endOf) := goodIn_app (goodIn_of _ (by decide +kernel)) ggX9_grow_X9_endOf
set_option maxRecDepth 20000 in
theorem ggX9_grow_X9_seed : GoodIn wsX9_grow wsX9_seed := goodIn_r _ [24, 25, 26, 3, 16, 17, 18, 6, 19, 20, 27, 28, 29, 30, 31, 32, 33, 34, 35, 36, 37, 38, 39, 40, 1, 2, 53, 54, 55, 56, 57, 58, 59, 60, 61, 62, 63, 64, 65, 66, 67, 68, 69, 70, 71, 72, 73, 74, 75, 76, 77, 78, 79, 80, 81, 82] (by decide +kernel) (by decide +kernel)
set_option maxRecDepth 20000 in
theorem gX9_grow_X9_seed : GoodIn wsX9_grow (wsV RX9 176 RX9 yX9_seed wsX9_seed) := goodIn_app (goodIn_of _ (by decide +kernel)) ggX9_grow_X9_seed
set_option maxRecDepth 20000 in
theorem ggX9_grow_X9_isReached : GoodIn wsX9_grow wsX9_isReached := goodIn_r _ [44, 1, 2, 16, 17, 18, 6, 19, 20, 45, 46, 47, 48, 25, 26, 30, 31, 32, 33, 34, 35, 36, 53, 54, 55, 56, 57, 58, 59, 60, 61, 62, 63, 64, 65, 66, 67, 68, 69, 70, 71, 72, 73, 74, 75, 76, 77, 78, 79, 80, 81, 82] (by decide +kernel) (by decide +kernel)
set_option maxRecDepth 20000 in
theorem gX9_grow_X9_isReached : GoodIn wsX9_grow (wsV RX9 179 RX9 yX9_isReached wsX9_isReached) := goodIn_app (goodIn_of _ (by decide +kernel)) ggX9_grow_X9_isReached
set_option maxRecDepth 20000 in
theorem ggX9_grow_X9_ground : GoodIn wsX9_grow wsX9_ground := goodIn_r _ [40, 1, 2, 53, 54, 55, 56, 57, 58, 59, 60, 61, 62, 63, 64, 65, 66, 67, 68, 69, 70, 71, 72, 73, 74, 75, 76, 77, 78, 79, 80, 81, 82] (by decide +kernel) (by decide +kernel)
set_option maxRecDepth 20000 in
theorem gX9_grow_X9_ground : GoodIn wsX9_grow (wsV RX9 161 RX9 yX9_ground wsX9_ground) := goodIn_app (goodIn_of _ (by decide +kernel)) ggX9_grow_X9_ground
set_option maxRecDepth 20000 in
theorem ggX9_grow_X9_countOf : GoodIn wsX9_grow wsX9_countOf := goodIn_r _ [52, 1, 16, 17, 18, 6, 19, 20, 53, 54, 55, 56, 57, 58, 59, 60, 61, 62, 63, 64, 65, 66, 67, 68, 69, 70, 71, 72, 73, 74, 75, 76, 77, 78, 79, 80, 81, 82] (by decide +kernel) (by decide +kernel)
set_option maxRecDepth 20000 in
theorem gX9_grow_X9_countOf : GoodIn wsX9_grow (wsV RX9 182 RX9 yX9_countOf wsX9_countOf) := goodIn_app (goodIn_of _ (by decide +kernel)) ggX9_grow_X9_countOf
set_option maxRecDepth 20000 in
theorem ggX9_nearPlane_X9_heightOf : GoodIn wsX9_nearPlane wsX9_heightOf := goodIn_r _ [10, 11, 12, 13, 17, 18, 19, 20, 21, 22, 23, 24, 25, 26, 27, 28, 29, 30, 31, 32, 33, 34, 35, 36, 37, 38, 39, 40, 41, 42, 43, 44, 45, 46] (by decide +kernel) (by decide +kernel)
set_option maxRecDepth 20000 in
theorem gX9_nearPlane_X9_heightOf : GoodIn wsX9_nearPlane (wsV RX9 128 RX9 yX9_heightOf wsX9_heightOf) := goodIn_app (goodIn_of _ (by decide +kernel)) ggX9_nearPlane_X9_heightOf
set_option maxRecDepth 20000 in
theorem ggX9_nearPlane_X9_in : GoodIn wsX9_nearPlane wsX9_in := goodIn_r _ [16] (by decide +kernel) (by decide +kernel)
set_option maxRecDepth 20000 in
theorem gX9_nearPlane_X9_in : GoodIn wsX9_nearPlane (va_wsS RX9 89 yX9_in wsX9_in) := goodIn_app (goodIn_of _ (by decide +kernel)) ggX9_nearPlane_X9_in
set_option maxRecDepth 20000 in
theorem ggX9_findRoof_X9_nearPlane : GoodIn wsX9_findRoof wsX9_nearPlane := goodIn_r _ [9, 10, 11, 1, 2, 3, 12, 13, 14, 8, 15, 16, 17, 18, 19, 20, 21, 22, 23, 24, 25, 26, 27, 28, 29, 30, 31, 32, 33, 34, 35, 36, 37, 38, 39, 40, 41, 42, 43, 44, 45, 46, 47, 48, 49, 50, 51] (by decide +kernel) (by decide +kernel)
set_option maxRecDepth 20000 in
theorem gX9_findRoof_X9_nearPlane : GoodIn wsX9_findRoof (wsV RX9 189 RX9 yX9_nearPlane wsX9_nearPlane) := goodIn_app (goodIn_of _ (by decide +kernel)) ggX9_findRoof_X9_nearPlane
set_option maxRecDepth 20000 in
theorem ggX9_isRoofing_X9_in : GoodIn wsX9_isRoofing wsX9_in := goodIn_r _ [7] (by decide +kernel) (by decide +kernel)
set_option maxRecDepth 20000 in
theorem gX9_isRoofing_X9_in : GoodIn wsX9_isRoofing (va_wsS RX9 89 yX9_in wsX9_in) := goodIn_app (goodIn_of _ (by decide +kernel)) ggX9_isRoofing_X9_in
set_option maxRecDepth 20000 in
theorem ggX9_roofs_X9_isYear : GoodIn wsX9_roofs wsX9_isYear := goodIn_r _ [8, 9, 10, 7, 11] (by decide +kernel) (by decide +kernel)
set_option maxRecDepth 20000 in
theorem gX9_roofs_X9_isYear : GoodIn wsX9_roofs (va_wsS RX9 116 yX9_isYear wsX9_isYear) := goodIn_app (goodIn_of _ (by decide +kernel)) ggX9_roofs_X9_isYear
set_option maxRecDepth 20000 in
theorem ggX9_roofs_X9_isRoofing : GoodIn wsX9_roofs wsX9_isRoofing := goodIn_r _ [14, 15, 16, 17, 9, 10, 7, 11] (by decide +kernel) (by decide +kernel)
set_option maxRecDepth 20000 in
theorem gX9_roofs_X9_isRoofing : GoodIn wsX9_roofs (va_wsS RX9 197 yX9_isRoofing wsX9_isRoofing) := goodIn_app (goodIn_of _ (by decide +kernel)) ggX9_roofs_X9_isRoofing
set_option maxRecDepth 20000 in
theorem ggX9_roofs_X9_endOf : GoodIn wsX9_roofs wsX9_endOf := goodIn_r _ [21, 22, 41, 42, 43, 44, 45, 46, 47, 48, 49, 50, 51, 52, 53, 54, 55, 56, 57, 58, 59, 60, 61, 62, 63, 64, 65, 66, 67, 68, 69, 70] (by decide +kernel) (by decide +kernel)
set_option maxRecDepth 20000 in
theorem gX9_roofs_X9_endOf : GoodIn wsX9_roofs (wsV RX9 133 RX9 yX9_endOf wsX9_endOf) := goodIn_app (goodIn_of _ (by decide +kernel)) ggX9_roofs_X9_endOf
set_option maxRecDepth 20000 in
theorem ggX9_roofs_X9_findRoof : GoodIn wsX9_roofs wsX9_findRoof := goodIn_r _ [26, 3, 4, 27, 1, 28, 29, 30, 7, 31, 32, 33, 34, 35, 36, 37, 38, 39, 40, 9, 10, 11, 41, 42, 43, 44, 45, 46, 47, 48, 49, 50, 51, 52, 53, 54, 55, 56, 57, 58, 59, 60, 61, 62, 63, 64, 65, 66, 67, 68, 69, 70] (by decide +kernel) (by decide +kernel)
set_option maxRecDepth 20000 in
theorem gX9_roofs_X9_findRoof : GoodIn wsX9_roofs (wsV RX9 200 RX9 yX9_findRoof wsX9_findRoof) := goodIn_app (goodIn_of _ (by decide +kernel)) ggX9_roofs_X9_findRoof
set_option maxRecDepth 20000 in
theorem ggX9_findGrid_X9_endOf : GoodIn wsX9_findGrid wsX9_endOf := goodIn_r _ [10, 11, 19, 20, 21, 22, 23, 24, 25, 26, 27, 28, 29, 30, 31, 32, 33, 34, 35, 36, 37, 38, 39, 40, 41, 42, 43, 44, 45, 46, 47, 48] (by decide +kernel) (by decide +kernel)
set_option maxRecDepth 20000 in
theorem gX9_findGrid_X9_endOf : GoodIn wsX9_findGrid (wsV RX9 133 RX9 yX9_endOf wsX9_endOf) := goodIn_app (goodIn_of _ (by decide +kernel)) ggX9_findGrid_X9_endOf
set_option maxRecDepth 20000 in
theorem ggX9_findGrid_X9_heightOf : GoodIn wsX9_findGrid wsX9_heightOf := goodIn_r _ [15, 16, 17, 18, 19, 20, 21, 22, 23, 24, 25, 26, 27, 28, 29, 30, 31, 32, 33, 34, 35, 36, 37, 38, 39, 40, 41, 42, 43, 44, 45, 46, 47, 48] (by decide +kernel) (by decide +kernel)
set_option maxRecDepth 20000 in
theorem gX9_findGrid_X9_heightOf : GoodIn wsX9_findGrid (wsV RX9 128 RX9 yX9_heightOf wsX9_heightOf) := goodIn_app (goodIn_of _ (by decide +kernel)) ggX9_findGrid_X9_heightOf
set_option maxRecDepth 20000 in
theorem ggX9_count_X9_isYear : GoodIn wsX9_count wsX9_isYear := goodIn_r _ [9, 10, 11, 8, 12] (by decide +kernel) (by decide +kernel)
set_option maxRecDepth 20000 in
theorem gX9_count_X9_isYear : GoodIn wsX9_count (va_wsS RX9 116 yX9_isYear wsX9_isYear) := goodIn_app (goodIn_of _ (by decide +kernel)) ggX9_count_X9_isYear
set_option maxRecDepth 20000 in
theorem ggX9_count_X9_in : GoodIn wsX9_count wsX9_in := goodIn_r _ [12] (by decide +kernel) (by decide +kernel)
set_option maxRecDepth 20000 in
theorem gX9_count_X9_in : GoodIn wsX9_count (va_wsS RX9 89 yX9_in wsX9_in) := goodIn_app (goodIn_of _ (by decide +kernel)) ggX9_count_X9_in
set_option maxRecDepth 20000 in
theorem ggX9_count_X9_findGrid : GoodIn wsX9_count wsX9_findGrid := goodIn_r _ [16, 3, 4, 17, 18, 19, 20, 21, 22, 8, 23, 5, 24, 25, 26, 27, 28, 29, 30, 35, 36, 37, 38, 39, 40, 41, 42, 43, 44, 45, 46, 47, 48, 49, 50, 51, 52, 53, 54, 55, 56, 57, 58, 59, 60, 61, 62, 63, 64] (by decide +kernel) (by decide +kernel)
set_option maxRecDepth 20000 in
theorem gX9_count_X9_findGrid : GoodIn wsX9_count (wsV RX9 207 RX9 yX9_findGrid wsX9_findGrid) := goodIn_app (goodIn_of _ (by decide +kernel)) ggX9_count_X9_findGrid
set_option maxRecDepth 20000 in
theorem ggX9_count_X9_countOf : GoodIn wsX9_count wsX9_countOf := goodIn_r _ [34, 19, 20, 21, 22, 8, 23, 5, 35, 36, 37, 38, 39, 40, 41, 42, 43, 44, 45, 46, 47, 48, 49, 50, 51, 52, 53, 54, 55, 56, 57, 58, 59, 60, 61, 62, 63, 64] (by decide +kernel) (by decide +kernel)
set_option maxRecDepth 20000 in
theorem gX9_count_X9_countOf : GoodIn wsX9_count (wsV RX9 182 RX9 yX9_countOf wsX9_countOf) := goodIn_app (goodIn_of _ (by decide +kernel)) ggX9_count_X9_countOf
set_option maxRecDepth 20000 in
theorem ggX9_grid_X9_isYear : GoodIn wsX9_grid wsX9_isYear := goodIn_r _ [6, 7, 8, 5, 9] (by decide +kernel) (by decide +kernel)
set_option maxRecDepth 20000 in
theorem gX9_grid_X9_isYear : GoodIn wsX9_grid (va_wsS RX9 116 yX9_isYear wsX9_isYear) := goodIn_app (goodIn_of _ (by decide +kernel)) ggX9_grid_X9_isYear
set_option maxRecDepth 20000 in
theorem ggX9_grid_X9_in : GoodIn wsX9_grid wsX9_in := goodIn_r _ [9] (by decide +kernel) (by decide +kernel)
set_option maxRecDepth 20000 in
theorem gX9_grid_X9_in : GoodIn wsX9_grid (va_wsS RX9 89 yX9_in wsX9_in) := goodIn_app (goodIn_of _ (by decide +kernel)) ggX9_grid_X9_in
set_option maxRecDepth 20000 in
theorem ggX9_grid_X9_findGrid : GoodIn wsX9_grid wsX9_findGrid := goodIn_r _ [13, 2, 14, 15, 16, 17, 18, 19, 20, 5, 21, 22, 23, 24, 25, 26, 27, 28, 29, 30, 31, 32, 33, 34, 35, 36, 37, 38, 39, 40, 41, 42, 43, 44, 45, 46, 47, 48, 49, 50, 51, 52, 53, 54, 55, 56, 57, 58, 59] (by decide +kernel) (by decide +kernel)
set_option maxRecDepth 20000 in
theorem gX9_grid_X9_findGrid : GoodIn wsX9_grid (wsV RX9 207 RX9 yX9_findGrid wsX9_findGrid) := goodIn_app (goodIn_of _ (by decide +kernel)) ggX9_grid_X9_findGrid
set_option maxRecDepth 20000 in
theorem ggX9_isFour_X9_in : GoodIn wsX9_isFour wsX9_in := goodIn_r _ [7] (by decide +kernel) (by decide +kernel)
set_option maxRecDepth 20000 in
theorem gX9_isFour_X9_in : GoodIn wsX9_isFour (va_wsS RX9 89 yX9_in wsX9_in) := goodIn_app (goodIn_of _ (by decide +kernel)) ggX9_isFour_X9_in
set_option maxRecDepth 20000 in
theorem ggX9_volume_X9_isYear : GoodIn wsX9_volume wsX9_isYear := goodIn_r _ [9, 10, 11, 8, 12] (by decide +kernel) (by decide +kernel)
set_option maxRecDepth 20000 in
theorem gX9_volume_X9_isYear : GoodIn wsX9_volume (va_wsS RX9 116 yX9_isYear wsX9_isYear) := goodIn_app (goodIn_of _ (by decide +kernel)) ggX9_volume_X9_isYear
set_option maxRecDepth 20000 in
theorem ggX9_volume_X9_in : GoodIn wsX9_volume wsX9_in := goodIn_r _ [12] (by decide +kernel) (by decide +kernel)
set_option maxRecDepth 20000 in
theorem gX9_volume_X9_in : GoodIn wsX9_volume (va_wsS RX9 89 yX9_in wsX9_in) := goodIn_app (goodIn_of _ (by decide +kernel)) ggX9_volume_X9_in
set_option maxRecDepth 20000 in
theorem ggX9_volume_X9_findGrid : GoodIn wsX9_volume wsX9_findGrid := goodIn_r _ [16, 3, 17, 18, 19, 20, 21, 22, 23, 8, 24, 25, 26, 27, 28, 29, 30, 31, 32, 38, 39, 40, 41, 42, 43, 44, 45, 46, 47, 48, 49, 50, 51, 52, 53, 54, 55, 56, 57, 58, 59, 60, 61, 62, 63, 64, 65, 66, 67] (by decide +kernel) (by decide +kernel)
set_option maxRecDepth 20000 in
theorem gX9_volume_X9_findGrid : GoodIn wsX9_volume (wsV RX9 207 RX9 yX9_findGrid wsX9_findGrid) := goodIn_app (goodIn_of _ (by decide +kernel)) ggX9_volume_X9_findGrid
set_option maxRecDepth 20000 in
theorem ggX9_volume_X9_isFour : GoodIn wsX9_volume wsX9_isFour := goodIn_r _ [36, 37, 3, 17, 10, 11, 8, 12, 38, 39, 40, 41, 42, 43, 44, 45, 46, 47, 48, 49, 50, 51, 52, 53, 54, 55, 56, 57, 58, 59, 60, 61, 62, 63, 64, 65, 66, 67] (by decide +kernel) (by decide +kernel)
set_option maxRecDepth 20000 in
theorem gX9_volume_X9_isFour : GoodIn wsX9_volume (wsV RX9 216 RX9 yX9_isFour wsX9_isFour) := goodIn_app (goodIn_of _ (by decide +kernel)) ggX9_volume_X9_isFour
set_option maxRecDepth 20000 in
theorem ggX9_thirds_X9_isYear : GoodIn wsX9_thirds wsX9_isYear := goodIn_r _ [4, 5, 6, 3, 7] (by decide +kernel) (by decide +kernel)
set_option maxRecDepth 20000 in
theorem gX9_thirds_X9_isYear : GoodIn wsX9_thirds (va_wsS RX9 116 yX9_isYear wsX9_isYear) := goodIn_app (goodIn_of _ (by decide +kernel)) ggX9_thirds_X9_isYear
set_option maxRecDepth 20000 in
theorem ggX9_thirds_X9_findGrid : GoodIn wsX9_thirds wsX9_findGrid := goodIn_r _ [11, 12, 13, 14, 15, 16, 17, 18, 19, 3, 20, 21, 22, 23, 24, 25, 26, 27, 28, 34, 35, 36, 37, 38, 39, 40, 41, 42, 43, 44, 45, 46, 47, 48, 49, 50, 51, 52, 53, 54, 55, 56, 57, 58, 59, 60, 61, 62, 63] (by decide +kernel) (by decide +kernel)
set_option maxRecDepth 20000 in
theorem gX9_thirds_X9_findGrid : GoodIn wsX9_thirds (wsV RX9 207 RX9 yX9_findGrid wsX9_findGrid) := goodIn_app (goodIn_of _ (by decide +kernel)) ggX9_thirds_X9_findGrid
set_option maxRecDepth 20000 in
theorem ggX9_thirds_X9_isFour : GoodIn wsX9_thirds wsX9_isFour := goodIn_r _ [32, 33, 12, 13, 5, 6, 3, 7, 34, 35, 36, 37, 38, 39, 40, 41, 42, 43, 44, 45, 46, 47, 48, 49, 50, 51, 52, 53, 54, 55, 56, 57, 58, 59, 60, 61, 62, 63] (by decide +kernel) (by decide +kernel)
set_option maxRecDepth 20000 in
theorem gX9_thirds_X9_isFour : GoodIn wsX9_thirds (wsV RX9 216 RX9 yX9_isFour wsX9_isFour) := goodIn_app (goodIn_of _ (by decide +kernel)) ggX9_thirds_X9_isFour
set_option maxRecDepth 20000 in
theorem ggX9_isThird_X9_isFour : GoodIn wsX9_isThird wsX9_isFour := goodIn_r _ [5, 6, 7, 8, 9, 10, 4, 11, 12, 13, 14, 15, 16, 17, 18, 19, 20, 21, 22, 23, 24, 25, 26, 27, 28, 29, 30, 31, 32, 33, 34, 35, 36, 37, 38, 39, 40, 41] (by decide +kernel) (by decide +kernel)
set_option maxRecDepth 20000 in
theorem gX9_isThird_X9_isFour : GoodIn wsX9_isThird (wsV RX9 216 RX9 yX9_isFour wsX9_isFour) := goodIn_app (goodIn_of _ (by decide +kernel)) ggX9_isThird_X9_isFour
set_option maxRecDepth 20000 in
theorem ggX9_isCrossed_X9_isUp : GoodIn wsX9_isCrossed wsX9_isUp := goodIn_r _ [6, 7, 11, 12, 13, 14, 15, 16, 17, 18, 19, 20, 21, 22, 23, 24, 25, 26, 27, 28, 29, 30, 31, 32, 33, 34, 35, 36, 37, 38, 39, 40] (by decide +kernel) (by decide +kernel)
set_option maxRecDepth 20000 in
theorem gX9_isCrossed_X9_isUp : GoodIn wsX9_isCrossed (wsV RX9 221 RX9 yX9_isUp wsX9_isUp) := goodIn_app (goodIn_of _ (by decide +kernel)) ggX9_isCrossed_X9_isUp
set_option maxRecDepth 20000 in
theorem ggX9_isCrossed_X9_in : GoodIn wsX9_isCrossed wsX9_in := goodIn_r _ [10] (by decide +kernel) (by decide +kernel)
set_option maxRecDepth 20000 in
theorem gX9_isCrossed_X9_in : GoodIn wsX9_isCrossed (va_wsS RX9 89 yX9_in wsX9_in) := goodIn_app (goodIn_of _ (by decide +kernel)) ggX9_isCrossed_X9_in
set_option maxRecDepth 20000 in
theorem ggX9_besideOf_X9_in : GoodIn wsX9_besideOf wsX9_in := goodIn_r _ [5] (by decide +kernel) (by decide +kernel)
set_option maxRecDepth 20000 in
theorem gX9_besideOf_X9_in : GoodIn wsX9_besideOf (va_wsS RX9 89 yX9_in wsX9_in) := goodIn_app (goodIn_of _ (by decide +kernel)) ggX9_besideOf_X9_in
set_option maxRecDepth 20000 in
theorem ggX9_besideOf_X9_isFour : GoodIn wsX9_besideOf wsX9_isFour := goodIn_r _ [9, 1, 10, 11, 2, 3, 4, 5, 12, 13, 14, 15, 16, 17, 18, 19, 20, 21, 22, 23, 24, 25, 26, 27, 28, 29, 30, 31, 32, 33, 34, 35, 36, 37, 38, 39, 40, 41] (by decide +kernel) (by decide +kernel)
set_option maxRecDepth 20000 in
theorem gX9_besideOf_X9_isFour : GoodIn wsX9_besideOf (wsV RX9 216 RX9 yX9_isFour wsX9_isFour) := goodIn_app (goodIn_of _ (by decide +kernel)) ggX9_besideOf_X9_isFour
set_option maxRecDepth 20000 in
theorem ggX9_isCut_X9_isUp : GoodIn wsX9_isCut wsX9_isUp := goodIn_r _ [5, 6, 7, 8, 9, 10, 11, 12, 13, 14, 15, 16, 17, 18, 19, 20, 21, 22, 23, 24, 25, 26, 27, 28, 29, 30, 31, 32, 33, 34, 35, 36] (by decide +kernel) (by decide +kernel)
set_option maxRecDepth 20000 in
theorem gX9_isCut_X9_isUp : GoodIn wsX9_isCut (wsV RX9 221 RX9 yX9_isUp wsX9_isUp) := goodIn_app (goodIn_of _ (by decide +kernel)) ggX9_isCut_X9_isUp
set_option maxRecDepth 20000 in
theorem ggX9_lines_X9_isYear : GoodIn wsX9_lines wsX9_isYear := goodIn_r _ [7, 8, 9, 6, 10] (by decide +kernel) (by decide +kernel)
set_option maxRecDepth 20000 in
theorem gX9_lines_X9_isYear : GoodIn wsX9_lines (va_wsS RX9 116 yX9_isYear wsX9_isYear) := goodIn_app (goodIn_of _ (by decide +kernel)) ggX9_lines_X9_isYear
set_option maxRecDepth 20000 in
theorem ggX9_lines_X9_in : GoodIn wsX9_lines wsX9_in := goodIn_r _ [10] (by decide +kernel) (by decide +kernel)
set_option maxRecDepth 20000 in
theorem gX9_lines_X9_in : GoodIn wsX9_lines (va_wsS RX9 89 yX9_in wsX9_in) := goodIn_app (goodIn_of _ (by decide +kernel)) ggX9_lines_X9_in
set_option maxRecDepth 20000 in
theorem ggX9_lines_X9_findGrid : GoodIn wsX9_lines wsX9_findGrid := goodIn_r _ [14, 15, 16, 17, 18, 19, 20, 21, 22, 6, 23, 24, 25, 26, 27, 28, 29, 30, 31, 62, 63, 64, 65, 66, 67, 68, 69, 70, 71, 72, 73, 74, 75, 76, 77, 78, 79, 80, 81, 82, 83, 84, 85, 86, 87, 88, 89, 90, 91] (by decide +kernel) (by decide +kernel)
set_option maxRecDepth 20000 in
theorem gX9_lines_X9_findGrid : GoodIn wsX9_lines (wsV RX9 207 RX9 yX9_findGrid wsX9_findGrid) := goodIn_app (goodIn_of _ (by decide +kernel)) ggX9_lines_X9_findGrid
set_option maxRecDepth 20000 in
theorem ggX9_lines_X9_isThird : GoodIn wsX9_lines wsX9_isThird := goodIn_r _ [35, 36, 37, 38, 6, 39, 40, 15, 16, 8, 9, 10, 62, 63, 64, 65, 66, 67, 68, 69, 70, 71, 72, 73, 74, 75, 76, 77, 78, 79, 80, 81, 82, 83, 84, 85, 86, 87, 88, 89, 90, 91] (by decide +kernel) (by decide +kernel)
set_option maxRecDepth 20000 in
theorem gX9_lines_X9_isThird : GoodIn wsX9_lines (wsV RX9 224 RX9 yX9_isThird wsX9_isThird) := goodIn_app (goodIn_of _ (by decide +kernel)) ggX9_lines_X9_isThird
set_option maxRecDepth 20000 in
theorem ggX9_lines_X9_isCrossed : GoodIn wsX9_lines wsX9_isCrossed := goodIn_r _ [44, 45, 46, 47, 48, 6, 49, 15, 8, 9, 10, 62, 63, 64, 65, 66, 67, 68, 69, 70, 71, 72, 73, 74, 75, 76, 77, 78, 79, 80, 81, 82, 83, 84, 85, 86, 87, 88, 89, 90, 91] (by decide +kernel) (by decide +kernel)
set_option maxRecDepth 20000 in
theorem gX9_lines_X9_isCrossed : GoodIn wsX9_lines (wsV RX9 227 RX9 yX9_isCrossed wsX9_isCrossed) := goodIn_app (goodIn_of _ (by decide +kernel)) ggX9_lines_X9_isCrossed
set_option maxRecDepth 20000 in
theorem ggX9_lines_X9_besideOf : GoodIn wsX9_lines wsX9_besideOf := goodIn_r _ [53, 40, 8, 9, 6, 10, 36, 37, 38, 39, 15, 16, 62, 63, 64, 65, 66, 67, 68, 69, 70, 71, 72, 73, 74, 75, 76, 77, 78, 79, 80, 81, 82, 83, 84, 85, 86, 87, 88, 89, 90, 91] (by decide +kernel) (by decide +kernel)
set_option maxRecDepth 20000 in
theorem gX9_lines_X9_besideOf : GoodIn wsX9_lines (wsV RX9 230 RX9 yX9_besideOf wsX9_besideOf) := goodIn_app (goodIn_of _ (by decide +kernel)) ggX9_lines_X9_besideOf
set_option maxRecDepth 20000 in
theorem ggX9_lines_X9_isCut : GoodIn wsX9_lines wsX9_isCut := goodIn_r _ [57, 46, 47, 48, 6, 49, 15, 62, 63, 64, 65, 66, 67, 68, 69, 70, 71, 72, 73, 74, 75, 76, 77, 78, 79, 80, 81, 82, 83, 84, 85, 86, 87, 88, 89, 90, 91] (by decide +kernel) (by decide +kernel)
set_option maxRecDepth 20000 in
theorem gX9_lines_X9_isCut : GoodIn wsX9_lines (wsV RX9 233 RX9 yX9_isCut wsX9_isCut) := goodIn_app (goodIn_of _ (by decide +kernel)) ggX9_lines_X9_isCut
set_option maxRecDepth 20000 in
theorem ggX9_lines_X9_isClosed : GoodIn wsX9_lines wsX9_isClosed := goodIn_r _ [61, 3, 54, 55, 56, 6, 57, 46, 47, 48, 49, 15, 50, 51, 52, 53, 40, 8, 9, 10, 36, 37, 38, 39, 16, 62, 63, 64, 65, 66, 67, 68, 69, 70, 71, 72, 73, 74, 75, 76, 77, 78, 79, 80, 81, 82, 83, 84, 85, 86, 87, 88, 89, 90, 91] (by decide +kernel) (by decide +kernel)
set_option maxRecDepth 20000 in
theorem gX9_lines_X9_isClosed : GoodIn wsX9_lines (wsV RX9 236 RX9 yX9_isClosed wsX9_isClosed) := goodIn_app (goodIn_of _ (by decide +kernel)) ggX9_lines_X9_isClosed
set_option maxRecDepth 20000 in
theorem ggX9_isClosed_X9_isCut : GoodIn wsX9_isClosed wsX9_isCut := goodIn_r _ [6, 7, 8, 9, 5, 10, 11, 25, 26, 27, 28, 29, 30, 31, 32, 33, 34, 35, 36, 37, 38, 39, 40, 41, 42, 43, 44, 45, 46, 47, 48, 49, 50, 51, 52, 53, 54] (by decide +kernel) (by decide +kernel)
set_option maxRecDepth 20000 in
theorem gX9_isClosed_X9_isCut : GoodIn wsX9_isClosed (wsV RX9 233 RX9 yX9_isCut wsX9_isCut) := goodIn_app (goodIn_of _ (by decide +kernel)) ggX9_isClosed_X9_isCut
set_option maxRecDepth 20000 in
theorem ggX9_isClosed_X9_besideOf : GoodIn wsX9_isClosed wsX9_besideOf := goodIn_r _ [15, 16, 17, 18, 5, 19, 20, 21, 22, 23, 11, 24, 25, 26, 27, 28, 29, 30, 31, 32, 33, 34, 35, 36, 37, 38, 39, 40, 41, 42, 43, 44, 45, 46, 47, 48, 49, 50, 51, 52, 53, 54] (by decide +kernel) (by decide +kernel)
set_option maxRecDepth 20000 in
theorem gX9_isClosed_X9_besideOf : GoodIn wsX9_isClosed (wsV RX9 230 RX9 yX9_besideOf wsX9_besideOf) := goodIn_app (goodIn_of _ (by decide +kernel)) ggX9_isClosed_X9_besideOf
set_option maxRecDepth 20000 in
theorem ggX9_changed_X9_in : GoodIn wsX9_changed wsX9_in := goodIn_r _ [10] (by decide +kernel) (by decide +kernel)
set_option maxRecDepth 20000 in
theorem gX9_changed_X9_in : GoodIn wsX9_changed (va_wsS RX9 89 yX9_in wsX9_in) := goodIn_app (goodIn_of _ (by decide +kernel)) ggX9_changed_X9_in
set_option maxRecDepth 20000 in
theorem ggX9_changed_X9_findGrid : GoodIn wsX9_changed wsX9_findGrid := goodIn_r _ [14, 5, 6, 15, 16, 17, 18, 19, 20, 9, 21, 22, 23, 24, 25, 26, 27, 28, 29, 30, 31, 32, 33, 34, 35, 36, 37, 38, 39, 40, 41, 42, 43, 44, 45, 46, 47, 48, 49, 50, 51, 52, 53, 54, 55, 56, 57, 58, 59] (by decide +kernel) (by decide +kernel)
set_option maxRecDepth 20000 in
theorem gX9_changed_X9_findGrid : GoodIn wsX9_changed (wsV RX9 207 RX9 yX9_findGrid wsX9_findGrid) := goodIn_app (goodIn_of _ (by decide +kernel)) ggX9_changed_X9_findGrid
set_option maxRecDepth 20000 in
theorem ggX9_type_X9_in : GoodIn wsX9_type wsX9_in := goodIn_r _ [10] (by decide +kernel) (by decide +kernel)
set_option maxRecDepth 20000 in
theorem gX9_type_X9_in : GoodIn wsX9_type (va_wsS RX9 89 yX9_in wsX9_in) := goodIn_app (goodIn_of _ (by decide +kernel)) ggX9_type_X9_in
set_option maxRecDepth 20000 in
theorem ggX9_number_X9_next : GoodIn wsX9_number wsX9_next := goodIn_r _ [11, 1, 2, 3, 15, 16, 17, 18, 19, 20, 21, 22, 23, 24, 25, 26, 27, 28, 29, 30, 31, 32, 33, 34, 35, 36, 37, 38, 39, 40, 41, 42, 43, 44] (by decide +kernel) (by decide +kernel)
set_option maxRecDepth 20000 in
theorem gX9_number_X9_next : GoodIn wsX9_number (wsV RX9 252 RX9 yX9_next wsX9_next) := goodIn_app (goodIn_of _ (by decide +kernel)) ggX9_number_X9_next
set_option maxRecDepth 20000 in
theorem ggX9_number_X9_in : GoodIn wsX9_number wsX9_in := goodIn_r _ [14] (by decide +kernel) (by decide +kernel)
set_option maxRecDepth 20000 in
theorem gX9_number_X9_in : GoodIn wsX9_number (va_wsS RX9 89 yX9_in wsX9_in) := goodIn_app (goodIn_of _ (by decide +kernel)) ggX9_number_X9_in
set_option maxRecDepth 20000 in
theorem ggX9_readStep_X9_next : GoodIn wsX9_readStep wsX9_next := goodIn_r _ [10, 3, 11, 12, 22, 23, 24, 25, 26, 27, 28, 29, 30, 31, 32, 33, 34, 35, 36, 37, 38, 39, 40, 41, 42, 43, 44, 45, 46, 47, 48, 49, 50, 51] (by decide +kernel) (by decide +kernel)
set_option maxRecDepth 20000 in
theorem gX9_readStep_X9_next : GoodIn wsX9_readStep (wsV RX9 252 RX9 yX9_next wsX9_next) := goodIn_app (goodIn_of _ (by decide +kernel)) ggX9_readStep_X9_next
set_option maxRecDepth 20000 in
theorem ggX9_readStep_X9_number : GoodIn wsX9_readStep wsX9_number := goodIn_r _ [16, 3, 11, 12, 17, 18, 4, 6, 7, 8, 9, 10, 19, 20, 21, 22, 23, 24, 25, 26, 27, 28, 29, 30, 31, 32, 33, 34, 35, 36, 37, 38, 39, 40, 41, 42, 43, 44, 45, 46, 47, 48, 49, 50, 51] (by decide +kernel) (by decide +kernel)
set_option maxRecDepth 20000 in
theorem gX9_readStep_X9_number : GoodIn wsX9_readStep (wsV RX9 266 RX9 yX9_number wsX9_number) := goodIn_app (goodIn_of _ (by decide +kernel)) ggX9_readStep_X9_number
set_option maxRecDepth 20000 in
theorem ggX9_readJob_X9_readStep : GoodIn wsX9_readJob wsX9_readStep := goodIn_r _ [8, 9, 3, 1, 2, 10, 11, 12, 13, 7, 14, 15, 16, 17, 18, 19, 20, 21, 22, 23, 24, 25, 26, 27, 28, 29, 30, 31, 32, 33, 34, 35, 36, 37, 38, 39, 40, 41, 42, 43, 44, 45, 46, 47, 48, 49, 50, 51, 52, 53, 54, 55] (by decide +kernel) (by decide +kernel)
set_option maxRecDepth 20000 in
theorem gX9_readJob_X9_readStep : GoodIn wsX9_readJob (wsV RX9 269 RX9 yX9_readStep wsX9_readStep) := goodIn_app (goodIn_of _ (by decide +kernel)) ggX9_readJob_X9_readStep
set_option maxRecDepth 20000 in
theorem ggX9_readJob_X9_next : GoodIn wsX9_readJob wsX9_next := goodIn_r _ [14, 1, 15, 16, 26, 27, 28, 29, 30, 31, 32, 33, 34, 35, 36, 37, 38, 39, 40, 41, 42, 43, 44, 45, 46, 47, 48, 49, 50, 51, 52, 53, 54, 55] (by decide +kernel) (by decide +kernel)
set_option maxRecDepth 20000 in
theorem gX9_readJob_X9_next : GoodIn wsX9_readJob (wsV RX9 252 RX9 yX9_next wsX9_next) := goodIn_app (goodIn_of _ (by decide +kernel)) ggX9_readJob_X9_next
set_option maxRecDepth 20000 in
theorem ggX9_job_X9_isYear : GoodIn wsX9_job wsX9_isYear := goodIn_r _ [9, 10, 11, 8, 12] (by decide +kernel) (by decide +kernel)
set_option maxRecDepth 20000 in
theorem gX9_job_X9_isYear : GoodIn wsX9_job (va_wsS RX9 116 yX9_isYear wsX9_isYear) := goodIn_app (goodIn_of _ (by decide +kernel)) ggX9_job_X9_isYear
set_option maxRecDepth 20000 in
theorem ggX9_job_X9_readJob : GoodIn wsX9_job wsX9_readJob := goodIn_r _ [16, 17, 2, 3, 18, 19, 20, 8, 21, 4, 5, 22, 23, 24, 25, 1, 26, 27, 28, 29, 30, 31, 32, 10, 11, 12, 131, 132, 133, 134, 135, 136, 137, 138, 139, 140, 141, 142, 143, 144, 145, 146, 147, 148, 149, 150, 151, 152, 153, 154, 155, 156, 157, 158, 159, 160] (by decide +kernel) (by decide +kernel)
set_option maxRecDepth 20000 in
theorem gX9_job_X9_readJob : GoodIn wsX9_job (wsV RX9 272 RX9 yX9_readJob wsX9_readJob) := goodIn_app (goodIn_of _ (by decide +kernel)) ggX9_job_X9_readJob
set_option maxRecDepth 20000 in
theorem ggX9_job_X9_fit : GoodIn wsX9_job wsX9_fit := goodIn_r _ [36, 37, 38, 39, 40, 41, 42, 43, 6, 7, 8, 9, 10, 11, 12, 44, 45, 46, 47, 48, 49, 50, 51, 52, 53, 54, 55, 56, 57, 58, 59, 60, 61, 62, 63, 64, 65, 66, 67, 68, 69, 70, 131, 132, 133, 134, 135, 136, 137, 138, 139, 140, 141, 142, 143, 144, 145, 146, 147, 148, 149, 150, 151, 152, 153, 154, 155, 156, 157, 158, 159, 160] (by decide +kernel) (by decide +kernel)
set_option maxRecDepth 20000 in
theorem gX9_job_X9_fit : GoodIn wsX9_job (wsV RX9 275 RX9 yX9_fit wsX9_fit) := goodIn_app (goodIn_of _ (by decide +kernel)) ggX9_job_X9_fit
set_option maxRecDepth 20000 in
theorem ggX9_job_X9_grow : GoodIn wsX9_job wsX9_grow := goodIn_r _ [74, 75, 76, 77, 6, 7, 8, 9, 10, 11, 12, 78, 79, 80, 81, 82, 49, 50, 51, 52, 53, 83, 84, 85, 86, 63, 64, 87, 88, 89, 90, 91, 92, 93, 58, 43, 48, 94, 95, 96, 97, 98, 99, 100, 101, 102, 103, 104, 105, 106, 107, 108, 109, 131, 132, 133, 134, 135, 136, 137, 138, 139, 140, 141, 142, 143, 144, 145, 146, 147, 148, 149, 150, 151, 152, 153, 154, 155, 156, 157, 158, 159, 160] (by decide +kernel) (by decide +kernel)
set_option maxRecDepth 20000 in
theorem gX9_job_X9_grow : GoodIn wsX9_job (wsV RX9 278 RX9 yX9_grow wsX9_grow) := goodIn_app (goodIn_of _ (by decide +kernel)) ggX9_job_X9_grow
set_option maxRecDepth 20000 in
theorem ggX9_job_X9_roofs : GoodIn wsX9_job wsX9_roofs := goodIn_r _ [113, 75, 77, 114, 115, 6, 7, 8, 9, 10, 11, 12, 116, 117, 118, 119, 120, 121, 49, 50, 51, 52, 53, 122, 123, 124, 125, 126, 127, 128, 129, 130, 63, 64, 90, 91, 92, 93, 58, 43, 48, 131, 132, 133, 134, 135, 136, 137, 138, 139, 140, 141, 142, 143, 144, 145, 146, 147, 148, 149, 150, 151, 152, 153, 154, 155, 156, 157, 158, 159, 160] (by decide +kernel) (by decide +kernel)
set_option maxRecDepth 20000 in
theorem gX9_job_X9_roofs : GoodIn wsX9_job (wsV RX9 282 RX9 yX9_roofs wsX9_roofs) := goodIn_app (goodIn_of _ (by decide +kernel)) ggX9_job_X9_roofs
