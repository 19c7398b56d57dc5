def wsX5_feed : List Cond := .code yX5_feed cX5_feed 3 (some .int) :: ([.fieldLink RX5 21 "DiscCoder" "disc" "LDiscCoder$Disc;", .fieldLink RX5 30 "DiscCoder" "writer" "LDiscCoder$Writer;", .methodLink RX5 52 yX4_writeFrame, .instanceMethod yX4_writeFrame, .selects RX4 yX4_writeFrame yX4_writeFrame, .initialized RX4, .code yX4_writeFrame cX4_writeFrame 4 (some .int), .fieldLink RX4 9 "DiscCoder$Writer" "disc" "LDiscCoder$Disc;", .methodLink RX4 37 yX4_makeInner, .instanceMethod yX4_makeInner, .selects RX4 yX4_makeInner yX4_makeInner, .code yX4_makeInner cX4_makeInner 5 none, .fieldLink RX4 15 "DiscCoder$Writer" "inner" "LDiscCoder$Word;", .methodLink RX4 48 yX3_beginWith, .instanceMethod yX3_beginWith, .selects RX3 yX3_beginWith yX3_beginWith, .initialized RX3, .code yX3_beginWith cX3_beginWith 4 none, .fieldLink RX3 15 "DiscCoder$Word" "symbols" "[I", .methodLink RX4 54 yX3_makeChecks, .instanceMethod yX3_makeChecks, .selects RX3 yX3_makeChecks yX3_makeChecks, .code yX3_makeChecks cX3_makeChecks 2 none, .fieldLink RX3 9 "DiscCoder$Word" "size" "I", .fieldLink RX3 19 "DiscCoder$Word" "doubted" "[Z", .methodLink RX3 44 yX3_fillDoubted, .instanceMethod yX3_fillDoubted, .selects RX3 yX3_fillDoubted yX3_fillDoubted, .code yX3_fillDoubted cX3_fillDoubted 3 (some .boolean), .methodLink RX3 58 yX3_countDoubted, .instanceMethod yX3_countDoubted, .selects RX3 yX3_countDoubted yX3_countDoubted, .code yX3_countDoubted cX3_countDoubted 3 (some .int), .methodLink RX3 62 yX3_listDoubted, .instanceMethod yX3_listDoubted, .selects RX3 yX3_listDoubted yX3_listDoubted, .code yX3_listDoubted cX3_listDoubted 3 none, .fieldLink RX3 29 "DiscCoder$Word" "doubtedAt" "[I", .methodLink RX3 48 yX3_makeSums, .instanceMethod yX3_makeSums, .selects RX3 yX3_makeSums yX3_makeSums, .code yX3_makeSums cX3_makeSums 5 none, .methodLink RX3 38 yX1_times, .static yX1_times, .initialized RX1, .code yX1_times cX1_times 5 (some .int), .fieldLink RX3 26 "DiscCoder$Word" "sums" "[I", .fieldLink RX3 32 "DiscCoder$Word" "changes" "[I", .methodLink RX3 65 yX3_changeAt, .instanceMethod yX3_changeAt, .selects RX3 yX3_changeAt yX3_changeAt, .code yX3_changeAt cX3_changeAt 7 (some .int), .fieldLink RX3 23 "DiscCoder$Word" "locators" "[I", .methodLink RX3 72 yX3_startWeights, .instanceMethod yX3_startWeights, .selects RX3 yX3_startWeights yX3_startWeights, .code yX3_startWeights cX3_startWeights 2 none, .fieldLink RX3 35 "DiscCoder$Word" "weights" "[I", .methodLink RX3 75 yX3_addRoot, .instanceMethod yX3_addRoot, .selects RX3 yX3_addRoot yX3_addRoot, .code yX3_addRoot cX3_addRoot 3 none, .methodLink RX3 78 yX3_weightedSums, .instanceMethod yX3_weightedSums, .selects RX3 yX3_weightedSums yX3_weightedSums, .code yX3_weightedSums cX3_weightedSums 3 (some .int), .methodLink RX3 81 yX1_inverse, .static yX1_inverse, .code yX1_inverse cX1_inverse 4 (some .int), .methodLink RX1 11 yX1_times, .methodLink RX3 68 yX3_addChanges, .instanceMethod yX3_addChanges, .selects RX3 yX3_addChanges yX3_addChanges, .code yX3_addChanges cX3_addChanges 3 none, .methodLink RX3 51 yX3_isWord, .instanceMethod yX3_isWord, .selects RX3 yX3_isWord yX3_isWord, .code yX3_isWord cX3_isWord 2 (some .boolean), .fieldLink RX4 24 "DiscCoder$Writer" "innerWords" "[[I", .methodLink RX4 41 yX4_makeOuter, .instanceMethod yX4_makeOuter, .selects RX4 yX4_makeOuter yX4_makeOuter, .code yX4_makeOuter cX4_makeOuter 3 none, .fieldLink RX4 19 "DiscCoder$Writer" "outer" "LDiscCoder$Word;", .methodLink RX4 45 yX4_writeRow, .instanceMethod yX4_writeRow, .selects RX4 yX4_writeRow yX4_writeRow, .code yX4_writeRow cX4_writeRow 3 none, .fieldLink RX4 27 "DiscCoder$Writer" "outerBefore" "[I", .methodLink RX4 60 yX0_setPlain, .instanceMethod yX0_setPlain, .selects RX0 yX0_setPlain yX0_setPlain, .initialized RX0, .code yX0_setPlain cX0_setPlain 4 none, .fieldLink RX0 9 "DiscCoder$Disc" "symbols" "[I", .methodLink RX0 19 yX0_turned, .static yX0_turned, .code yX0_turned cX0_turned 2 (some .int)] ++ wsX50 ++ wsX00 ++ wsX40 ++ wsX30)
def wsX5_symbol : List Cond := .code yX5_symbol cX5_symbol 3 (some .int) :: ([.fieldLink RX5 21 "DiscCoder" "disc" "LDiscCoder$Disc;", .methodLink RX5 56 yX0_has, .instanceMethod yX0_has, .selects RX0 yX0_has yX0_has, .initialized RX0, .code yX0_has cX0_has 3 (some .boolean), .fieldLink RX0 15 "DiscCoder$Disc" "rowsWritten" "I"] ++ wsX50 ++ wsX00)
def wsX5_scratch : List Cond := .code yX5_scratch cX5_scratch 4 none :: ([.fieldLink RX5 21 "DiscCoder" "disc" "LDiscCoder$Disc;", .methodLink RX5 56 yX0_has, .instanceMethod yX0_has, .selects RX0 yX0_has yX0_has, .initialized RX0, .code yX0_has cX0_has 3 (some .boolean), .fieldLink RX0 15 "DiscCoder$Disc" "rowsWritten" "I", .methodLink RX5 69 yX1_holds, .static yX1_holds, .initialized RX1, .code yX1_holds cX1_holds 1 (some .boolean)] ++ wsX50 ++ wsX00)
def wsX5_burst : List Cond := .code yX5_burst cX5_burst 5 none :: ([.methodLink RX5 69 yX1_holds, .static yX1_holds, .initialized RX1, .code yX1_holds cX1_holds 1 (some .boolean), .fieldLink RX5 21 "DiscCoder" "disc" "LDiscCoder$Disc;"] ++ wsX50 ++ wsX00)
def wsX5_read : List Cond := .code yX5_read cX5_read 1 (some .int) :: ([.fieldLink RX5 21 "DiscCoder" "disc" "LDiscCoder$Disc;", .fieldLink RX5 37 "DiscCoder" "reader" "LDiscCoder$Reader;", .methodLink RX5 94 yX2_readRow, .instanceMethod yX2_readRow, .selects RX2 yX2_readRow yX2_readRow, .initialized RX2, .code yX2_readRow cX2_readRow 2 (some .boolean), .fieldLink RX2 9 "DiscCoder$Reader" "disc" "LDiscCoder$Disc;", .methodLink RX2 44 yX2_gatherOuter, .instanceMethod yX2_gatherOuter, .selects RX2 yX2_gatherOuter yX2_gatherOuter, .code yX2_gatherOuter cX2_gatherOuter 3 none, .fieldLink RX2 19 "DiscCoder$Reader" "outer" "LDiscCoder$Word;", .methodLink RX2 62 yX0_getPlain, .instanceMethod yX0_getPlain, .selects RX0 yX0_getPlain yX0_getPlain, .initialized RX0, .code yX0_getPlain cX0_getPlain 3 (some .int), .methodLink RX0 23 yX0_has, .instanceMethod yX0_has, .selects RX0 yX0_has yX0_has, .code yX0_has cX0_has 3 (some .boolean), .fieldLink RX0 15 "DiscCoder$Disc" "rowsWritten" "I", .fieldLink RX0 9 "DiscCoder$Disc" "symbols" "[I", .methodLink RX0 19 yX0_turned, .static yX0_turned, .code yX0_turned cX0_turned 2 (some .int), .methodLink RX2 48 yX2_rightOuter, .instanceMethod yX2_rightOuter, .selects RX2 yX2_rightOuter yX2_rightOuter, .code yX2_rightOuter cX2_rightOuter 3 none, .methodLink RX2 66 yX3_mendOne, .instanceMethod yX3_mendOne, .selects RX3 yX3_mendOne yX3_mendOne, .initialized RX3, .code yX3_mendOne cX3_mendOne 2 (some .boolean), .methodLink RX3 51 yX3_isWord, .instanceMethod yX3_isWord, .selects RX3 yX3_isWord yX3_isWord, .code yX3_isWord cX3_isWord 2 (some .boolean), .methodLink RX3 48 yX3_makeSums, .instanceMethod yX3_makeSums, .selects RX3 yX3_makeSums yX3_makeSums, .code yX3_makeSums cX3_makeSums 5 none, .fieldLink RX3 9 "DiscCoder$Word" "size" "I", .methodLink RX3 38 yX1_times, .static yX1_times, .initialized RX1, .code yX1_times cX1_times 5 (some .int), .fieldLink RX3 15 "DiscCoder$Word" "symbols" "[I", .fieldLink RX3 26 "DiscCoder$Word" "sums" "[I", .methodLink RX3 54 yX3_isOnlyFault, .instanceMethod yX3_isOnlyFault, .selects RX3 yX3_isOnlyFault yX3_isOnlyFault, .code yX3_isOnlyFault cX3_isOnlyFault 4 (some .boolean), .fieldLink RX3 23 "DiscCoder$Word" "locators" "[I", .fieldLink RX2 70 "DiscCoder$Reader" "wordsMended" "I", .methodLink RX2 73 yX3_isWord, .fieldLink RX2 27 "DiscCoder$Reader" "outerDoubted" "[Z", .fieldLink RX2 76 "DiscCoder$Reader" "wordsDoubted" "I", .fieldLink RX2 24 "DiscCoder$Reader" "outerWords" "[[I", .methodLink RX2 51 yX2_gatherInner, .instanceMethod yX2_gatherInner, .selects RX2 yX2_gatherInner yX2_gatherInner, .code yX2_gatherInner cX2_gatherInner 4 none, .fieldLink RX2 15 "DiscCoder$Reader" "inner" "LDiscCoder$Word;", .methodLink RX2 54 yX2_rightInner, .instanceMethod yX2_rightInner, .selects RX2 yX2_rightInner yX2_rightInner, .code yX2_rightInner cX2_rightInner 3 none, .methodLink RX2 82 yX3_fillDoubted, .instanceMethod yX3_fillDoubted, .selects RX3 yX3_fillDoubted yX3_fillDoubted, .code yX3_fillDoubted cX3_fillDoubted 3 (some .boolean), .methodLink RX3 58 yX3_countDoubted, .instanceMethod yX3_countDoubted, .selects RX3 yX3_countDoubted yX3_countDoubted, .code yX3_countDoubted cX3_countDoubted 3 (some .int), .fieldLink RX3 19 "DiscCoder$Word" "doubted" "[Z", .methodLink RX3 62 yX3_listDoubted, .instanceMethod yX3_listDoubted, .selects RX3 yX3_listDoubted yX3_listDoubted, .code yX3_listDoubted cX3_listDoubted 3 none, .fieldLink RX3 29 "DiscCoder$Word" "doubtedAt" "[I", .fieldLink RX3 32 "DiscCoder$Word" "changes" "[I", .methodLink RX3 65 yX3_changeAt, .instanceMethod yX3_changeAt, .selects RX3 yX3_changeAt yX3_changeAt, .code yX3_changeAt cX3_changeAt 7 (some .int), .methodLink RX3 72 yX3_startWeights, .instanceMethod yX3_startWeights, .selects RX3 yX3_startWeights yX3_startWeights, .code yX3_startWeights cX3_startWeights 2 none, .fieldLink RX3 35 "DiscCoder$Word" "weights" "[I", .methodLink RX3 75 yX3_addRoot, .instanceMethod yX3_addRoot, .selects RX3 yX3_addRoot yX3_addRoot, .code yX3_addRoot cX3_addRoot 3 none, .methodLink RX3 78 yX3_weightedSums, .instanceMethod yX3_weightedSums, .selects RX3 yX3_weightedSums yX3_weightedSums, .code yX3_weightedSums cX3_weightedSums 3 (some .int), .methodLink RX3 81 yX1_inverse, .static yX1_inverse, .code yX1_inverse cX1_inverse 4 (some .int), .methodLink RX1 11 yX1_times, .methodLink RX3 68 yX3_addChanges, .instanceMethod yX3_addChanges, .selects RX3 yX3_addChanges yX3_addChanges, .code yX3_addChanges cX3_addChanges 3 none, .fieldLink RX2 85 "DiscCoder$Reader" "symbolsFilled" "I", .methodLink RX2 88 yX3_countDoubted, .fieldLink RX2 35 "DiscCoder$Reader" "lost" "[Z", .fieldLink RX2 92 "DiscCoder$Reader" "wordsLost" "I", .fieldLink RX2 31 "DiscCoder$Reader" "output" "[I"] ++ wsX50 ++ wsX00 ++ wsX20 ++ wsX30)
def wsX5_out : List Cond := .code yX5_out cX5_out 2 (some .int) :: ([.fieldLink RX5 21 "DiscCoder" "disc" "LDiscCoder$Disc;", .fieldLink RX5 37 "DiscCoder" "reader" "LDiscCoder$Reader;"] ++ wsX50 ++ wsX00 ++ wsX20)
def wsX5_flagged : List Cond := .code yX5_flagged cX5_flagged 2 (some .boolean) :: ([.fieldLink RX5 21 "DiscCoder" "disc" "LDiscCoder$Disc;", .fieldLink RX5 37 "DiscCoder" "reader" "LDiscCoder$Reader;"] ++ wsX50 ++ wsX00 ++ wsX20)
def wsX5_figure : List Cond := .code yX5_figure cX5_figure 2 (some .int) :: ([.fieldLink RX5 21 "DiscCoder" "disc" "LDiscCoder$Disc;", .fieldLink RX5 37 "DiscCoder" "reader" "LDiscCoder$Reader;"] ++ wsX50 ++ wsX00 ++ wsX20)
def wsX5_check : List Cond := .code yX5_check cX5_check 4 (some .int) :: ([.fieldLink RX5 17 "DiscCoder" "inner" "LDiscCoder$Word;", .methodLink RX5 123 yX3_beginWith, .instanceMethod yX3_beginWith, .selects RX3 yX3_beginWith yX3_beginWith, .initialized RX3, .code yX3_beginWith cX3_beginWith 4 none, .fieldLink RX3 15 "DiscCoder$Word" "symbols" "[I", .methodLink RX5 127 yX3_makeChecks, .instanceMethod yX3_makeChecks, .selects RX3 yX3_makeChecks yX3_makeChecks, .code yX3_makeChecks cX3_makeChecks 2 none, .fieldLink RX3 9 "DiscCoder$Word" "size" "I", .fieldLink RX3 19 "DiscCoder$Word" "doubted" "[Z", .methodLink RX3 44 yX3_fillDoubted, .instanceMethod yX3_fillDoubted, .selects RX3 yX3_fillDoubted yX3_fillDoubted, .code yX3_fillDoubted cX3_fillDoubted 3 (some .boolean), .methodLink RX3 58 yX3_countDoubted, .instanceMethod yX3_countDoubted, .selects RX3 yX3_countDoubted yX3_countDoubted, .code yX3_countDoubted cX3_countDoubted 3 (some .int), .methodLink RX3 62 yX3_listDoubted, .instanceMethod yX3_listDoubted, .selects RX3 yX3_listDoubted yX3_listDoubted, .code yX3_listDoubted cX3_listDoubted 3 none, .fieldLink RX3 29 "DiscCoder$Word" "doubtedAt" "[I", .methodLink RX3 48 yX3_makeSums, .instanceMethod yX3_makeSums, .selects RX3 yX3_makeSums yX3_makeSums, .code yX3_makeSums cX3_makeSums 5 none, .methodLink RX3 38 yX1_times, .static yX1_times, .initialized RX1, .code yX1_times cX1_times 5 (some .int), .fieldLink RX3 26 "DiscCoder$Word" "sums" "[I", .fieldLink RX3 32 "DiscCoder$Word" "changes" "[I", .methodLink RX3 65 yX3_changeAt, .instanceMethod yX3_changeAt, .selects RX3 yX3_changeAt yX3_changeAt, .code yX3_changeAt cX3_changeAt 7 (some .int), .fieldLink RX3 23 "DiscCoder$Word" "locators" "[I", .methodLink RX3 72 yX3_startWeights, .instanceMethod yX3_startWeights, .selects RX3 yX3_startWeights yX3_startWeights, .code yX3_startWeights cX3_startWeights 2 none, .fieldLink RX3 35 "DiscCoder$Word" "weights" "[I", .methodLink RX3 75 yX3_addRoot, .instanceMethod yX3_addRoot, .selects RX3 yX3_addRoot yX3_addRoot, .code yX3_addRoot cX3_addRoot 3 none, .methodLink RX3 78 yX3_weightedSums, .instanceMethod yX3_weightedSums, .selects RX3 yX3_weightedSums yX3_weightedSums, .code yX3_weightedSums cX3_weightedSums 3 (some .int), .methodLink RX3 81 yX1_inverse, .static yX1_inverse, .code yX1_inverse cX1_inverse 4 (some .int), .methodLink RX1 11 yX1_times, .methodLink RX3 68 yX3_addChanges, .instanceMethod yX3_addChanges, .selects RX3 yX3_addChanges yX3_addChanges, .code yX3_addChanges cX3_addChanges 3 none, .methodLink RX3 51 yX3_isWord, .instanceMethod yX3_isWord, .selects RX3 yX3_isWord yX3_isWord, .code yX3_isWord cX3_isWord 2 (some .boolean)] ++ wsX50 ++ wsX30)
def wsX5_product : List Cond := .code yX5_product cX5_product 3 (some .int) :: ([.methodLink RX5 69 yX1_holds, .static yX1_holds, .initialized RX1, .code yX1_holds cX1_holds 1 (some .boolean), .methodLink RX5 133 yX1_times, .static yX1_times, .code yX1_times cX1_times 5 (some .int)])
set_option maxRecDepth 20000 in
theorem ggX5_feed_X4_writeFrame : GoodIn wsX5_feed wsX4_writeFrame := goodIn_r _ [7, 8, 9, 10, 11, 6, 12, 13, 14, 15, 16, 17, 18, 19, 20, 21, 22, 23, 24, 25, 26, 27, 28, 29, 30, 31, 32, 33, 34, 35, 36, 37, 38, 39, 40, 41, 42, 43, 44, 45, 46, 47, 48, 49, 50, 51, 52, 53, 54, 55, 56, 57, 58, 59, 60, 61, 62, 63, 64, 65, 66, 67, 68, 69, 70, 71, 72, 73, 74, 75, 76, 77, 78, 79, 80, 81, 82, 83, 84, 85, 86, 87, 88, 89, 90, 91, 92, 93, 94, 95, 96, 97, 98, 106, 107, 108, 109, 110, 103, 104, 105, 111, 112, 113, 114, 115, 116, 117, 118] (by decide +kernel) (by decide +kernel)
theorem gX5_feed_X4_writeFrame : GoodIn wsX5_feed (wsV RX5 52 RX4 yX4_writeFrame wsX4_writeFrame) := goodIn_app (goodIn_of _ (by decide +kernel)) ggX5_feed_X4_writeFrame
set_option maxRecDepth 20000 in
theorem ggX5_symbol_X0_has : GoodIn wsX5_symbol wsX0_has := goodIn_r _ [6, 7, 12, 13, 14] (by decide +kernel) (by decide +kernel)
theorem gX5_symbol_X0_has : GoodIn wsX5_symbol (wsV RX5 56 RX0 yX0_has wsX0_has) := goodIn_app (goodIn_of _ (by decide +kernel)) ggX5_symbol_X0_has
set_option maxRecDepth 20000 in
theorem ggX5_scratch_X0_has : GoodIn wsX5_scratch wsX0_has := goodIn_r _ [6, 7, 16, 17, 18] (by decide +kernel) (by decide +kernel)
theorem gX5_scratch_X0_has : GoodIn wsX5_scratch (wsV RX5 56 RX0 yX0_has wsX0_has) := goodIn_app (goodIn_of _ (by decide +kernel)) ggX5_scratch_X0_has
set_option maxRecDepth 20000 in
theorem ggX5_scratch_X1_holds : GoodIn wsX5_scratch wsX1_holds := goodIn_r _ [11] (by decide +kernel) (by decide +kernel)
theorem gX5_scratch_X1_holds : GoodIn wsX5_scratch (va_wsS RX5 69 yX1_holds wsX1_holds) := goodIn_app (goodIn_of _ (by decide +kernel)) ggX5_scratch_X1_holds
set_option maxRecDepth 20000 in
theorem ggX5_burst_X1_holds : GoodIn wsX5_burst wsX1_holds := goodIn_r _ [4] (by decide +kernel) (by decide +kernel)
theorem gX5_burst_X1_holds : GoodIn wsX5_burst (va_wsS RX5 69 yX1_holds wsX1_holds) := goodIn_app (goodIn_of _ (by decide +kernel)) ggX5_burst_X1_holds
set_option maxRecDepth 20000 in
theorem ggX5_read_X2_readRow : GoodIn wsX5_read wsX2_readRow := goodIn_r _ [7, 8, 9, 10, 11, 6, 12, 13, 14, 15, 16, 17, 18, 19, 20, 21, 22, 23, 24, 25, 26, 27, 28, 29, 30, 31, 32, 33, 34, 35, 36, 37, 38, 39, 40, 41, 42, 43, 44, 45, 46, 47, 48, 49, 50, 51, 52, 53, 54, 55, 56, 57, 58, 59, 60, 61, 62, 63, 64, 65, 66, 67, 68, 69, 70, 71, 72, 73, 74, 75, 76, 77, 78, 79, 80, 81, 82, 83, 84, 85, 86, 87, 88, 89, 90, 91, 92, 93, 94, 95, 96, 97, 98, 99, 100, 101, 102, 103, 104, 105, 106, 107, 108, 109, 110, 111, 112, 113, 114, 115, 123, 124, 125, 126, 127, 128, 129, 130, 131, 132, 133, 120, 121, 122, 134, 135, 136, 137, 138, 139, 140, 141] (by decide +kernel) (by decide +kernel)
theorem gX5_read_X2_readRow : GoodIn wsX5_read (wsV RX5 94 RX2 yX2_readRow wsX2_readRow) := goodIn_app (goodIn_of _ (by decide +kernel)) ggX5_read_X2_readRow
set_option maxRecDepth 20000 in
theorem ggX5_check_X3_beginWith : GoodIn wsX5_check wsX3_beginWith := goodIn_r _ [6, 7, 71, 72, 73, 74, 75, 76, 77, 78] (by decide +kernel) (by decide +kernel)
theorem gX5_check_X3_beginWith : GoodIn wsX5_check (wsV RX5 123 RX3 yX3_beginWith wsX3_beginWith) := goodIn_app (goodIn_of _ (by decide +kernel)) ggX5_check_X3_beginWith
set_option maxRecDepth 20000 in
theorem ggX5_check_X3_makeChecks : GoodIn wsX5_check wsX3_makeChecks := goodIn_r _ [11, 12, 13, 14, 15, 16, 5, 17, 18, 19, 20, 21, 22, 23, 24, 25, 26, 27, 28, 29, 30, 31, 32, 33, 34, 7, 35, 36, 37, 38, 39, 40, 41, 42, 43, 44, 45, 46, 47, 48, 49, 50, 51, 52, 53, 54, 55, 56, 57, 58, 59, 60, 61, 62, 63, 64, 65, 66, 71, 72, 73, 74, 75, 76, 77, 78] (by decide +kernel) (by decide +kernel)
theorem gX5_check_X3_makeChecks : GoodIn wsX5_check (wsV RX5 127 RX3 yX3_makeChecks wsX3_makeChecks) := goodIn_app (goodIn_of _ (by decide +kernel)) ggX5_check_X3_makeChecks
set_option maxRecDepth 20000 in
theorem ggX5_product_X1_holds : GoodIn wsX5_product wsX1_holds := goodIn_r _ [4] (by decide +kernel) (by decide +kernel)
theorem gX5_product_X1_holds : GoodIn wsX5_product (va_wsS RX5 69 yX1_holds wsX1_holds) := goodIn_app (goodIn_of _ (by decide +kernel)) ggX5_product_X1_holds
set_option maxRecDepth 20000 in
theorem ggX5_product_X1_times : GoodIn wsX5_product wsX1_times := goodIn_r _ [7] (by decide +kernel) (by decide +kernel)
theorem gX5_product_X1_times : GoodIn wsX5_product (va_wsS RX5 133 yX1_times wsX1_times) := goodIn_app (goodIn_of _ (by decide +kernel)) ggX5_product_X1_times
theorem dX5_feed_0 : decode cX5_feed 0 = .ok (.aload_n 0, 1) := by decide +kernel
theorem dX5_feed_1 : decode cX5_feed 1 = .ok (.getfield 21, 3) := by decide +kernel
theorem dX5_feed_4 : decode cX5_feed 4 = .ok (.getfield 41, 3) := by decide +kernel
theorem dX5_feed_7 : decode cX5_feed 7 = .ok (.bipush 48, 2) := by decide +kernel
theorem dX5_feed_9 : decode cX5_feed 9 = .ok (.if_icmp .lt 13, 3) := by decide +kernel
theorem dX5_feed_12 : decode cX5_feed 12 = .ok (.new 45, 3) := by decide +kernel
theorem dX5_feed_15 : decode cX5_feed 15 = .ok (.dup, 1) := by decide +kernel
theorem dX5_feed_16 : decode cX5_feed 16 = .ok (.ldc 47, 2) := by decide +kernel
theorem dX5_feed_18 : decode cX5_feed 18 = .ok (.invokespecial 49, 3) := by decide +kernel
theorem dX5_feed_21 : decode cX5_feed 21 = .ok (.athrow, 1) := by decide +kernel
theorem dX5_feed_22 : decode cX5_feed 22 = .ok (.aload_n 0, 1) := by decide +kernel
theorem dX5_feed_23 : decode cX5_feed 23 = .ok (.getfield 30, 3) := by decide +kernel
theorem dX5_feed_26 : decode cX5_feed 26 = .ok (.lload_n 1, 1) := by decide +kernel
theorem dX5_feed_27 : decode cX5_feed 27 = .ok (.invokevirtual 52, 3) := by decide +kernel
theorem dX5_feed_30 : decode cX5_feed 30 = .ok (.ireturn, 1) := by decide +kernel
theorem dX5_symbol_0 : decode cX5_symbol 0 = .ok (.aload_n 0, 1) := by decide +kernel
theorem dX5_symbol_1 : decode cX5_symbol 1 = .ok (.getfield 21, 3) := by decide +kernel
theorem dX5_symbol_4 : decode cX5_symbol 4 = .ok (.iload_n 1, 1) := by decide +kernel
theorem dX5_symbol_5 : decode cX5_symbol 5 = .ok (.iload_n 2, 1) := by decide +kernel
theorem dX5_symbol_6 : decode cX5_symbol 6 = .ok (.invokevirtual 56, 3) := by decide +kernel
theorem dX5_symbol_9 : decode cX5_symbol 9 = .ok (.ifCond .ne 13, 3) := by decide +kernel
theorem dX5_symbol_12 : decode cX5_symbol 12 = .ok (.new 60, 3) := by decide +kernel
theorem dX5_symbol_15 : decode cX5_symbol 15 = .ok (.dup, 1) := by decide +kernel
theorem dX5_symbol_16 : decode cX5_symbol 16 = .ok (.ldc 62, 2) := by decide +kernel
theorem dX5_symbol_18 : decode cX5_symbol 18 = .ok (.invokespecial 64, 3) := by decide +kernel
theorem dX5_symbol_21 : decode cX5_symbol 21 = .ok (.athrow, 1) := by decide +kernel
theorem dX5_symbol_22 : decode cX5_symbol 22 = .ok (.aload_n 0, 1) := by decide +kernel
theorem dX5_symbol_23 : decode cX5_symbol 23 = .ok (.getfield 21, 3) := by decide +kernel
theorem dX5_symbol_26 : decode cX5_symbol 26 = .ok (.getfield 65, 3) := by decide +kernel
theorem dX5_symbol_29 : decode cX5_symbol 29 = .ok (.iload_n 1, 1) := by decide +kernel
theorem dX5_symbol_30 : decode cX5_symbol 30 = .ok (.bipush 16, 2) := by decide +kernel
theorem dX5_symbol_32 : decode cX5_symbol 32 = .ok (.imul, 1) := by decide +kernel
theorem dX5_symbol_33 : decode cX5_symbol 33 = .ok (.iload_n 2, 1) := by decide +kernel
theorem dX5_symbol_34 : decode cX5_symbol 34 = .ok (.iadd, 1) := by decide +kernel
theorem dX5_symbol_35 : decode cX5_symbol 35 = .ok (.iaload, 1) := by decide +kernel
theorem dX5_symbol_36 : decode cX5_symbol 36 = .ok (.ireturn, 1) := by decide +kernel
theorem dX5_scratch_0 : decode cX5_scratch 0 = .ok (.aload_n 0, 1) := by decide +kernel
theorem dX5_scratch_1 : decode cX5_scratch 1 = .ok (.getfield 21, 3) := by decide +kernel
theorem dX5_scratch_4 : decode cX5_scratch 4 = .ok (.iload_n 1, 1) := by decide +kernel
theorem dX5_scratch_5 : decode cX5_scratch 5 = .ok (.iload_n 2, 1) := by decide +kernel
theorem dX5_scratch_6 : decode cX5_scratch 6 = .ok (.invokevirtual 56, 3) := by decide +kernel
theorem dX5_scratch_9 : decode cX5_scratch 9 = .ok (.ifCond .ne 13, 3) := by decide +kernel
theorem dX5_scratch_12 : decode cX5_scratch 12 = .ok (.new 60, 3) := by decide +kernel
theorem dX5_scratch_15 : decode cX5_scratch 15 = .ok (.dup, 1) := by decide +kernel
theorem dX5_scratch_16 : decode cX5_scratch 16 = .ok (.ldc 62, 2) := by decide +kernel
theorem dX5_scratch_18 : decode cX5_scratch 18 = .ok (.invokespecial 64, 3) := by decide +kernel
theorem dX5_scratch_21 : decode cX5_scratch 21 = .ok (.athrow, 1) := by decide +kernel
theorem dX5_scratch_22 : decode cX5_scratch 22 = .ok (.iload_n 3, 1) := by decide +kernel
theorem dX5_scratch_23 : decode cX5_scratch 23 = .ok (.invokestatic 69, 3) := by decide +kernel
theorem dX5_scratch_26 : decode cX5_scratch 26 = .ok (.ifCond .ne 13, 3) := by decide +kernel
theorem dX5_scratch_29 : decode cX5_scratch 29 = .ok (.new 75, 3) := by decide +kernel
theorem dX5_scratch_32 : decode cX5_scratch 32 = .ok (.dup, 1) := by decide +kernel
theorem dX5_scratch_33 : decode cX5_scratch 33 = .ok (.ldc 77, 2) := by decide +kernel
theorem dX5_scratch_35 : decode cX5_scratch 35 = .ok (.invokespecial 79, 3) := by decide +kernel
theorem dX5_scratch_38 : decode cX5_scratch 38 = .ok (.athrow, 1) := by decide +kernel
theorem dX5_scratch_39 : decode cX5_scratch 39 = .ok (.iload_n 1, 1) := by decide +kernel
theorem dX5_scratch_40 : decode cX5_scratch 40 = .ok (.aload_n 0, 1) := by decide +kernel
theorem dX5_scratch_41 : decode cX5_scratch 41 = .ok (.getfield 21, 3) := by decide +kernel
theorem dX5_scratch_44 : decode cX5_scratch 44 = .ok (.getfield 80, 3) := by decide +kernel
theorem dX5_scratch_47 : decode cX5_scratch 47 = .ok (.if_icmp .ge 13, 3) := by decide +kernel
theorem dX5_scratch_50 : decode cX5_scratch 50 = .ok (.new 45, 3) := by decide +kernel
theorem dX5_scratch_53 : decode cX5_scratch 53 = .ok (.dup, 1) := by decide +kernel
theorem dX5_scratch_54 : decode cX5_scratch 54 = .ok (.ldc 83, 2) := by decide +kernel
theorem dX5_scratch_56 : decode cX5_scratch 56 = .ok (.invokespecial 49, 3) := by decide +kernel
theorem dX5_scratch_59 : decode cX5_scratch 59 = .ok (.athrow, 1) := by decide +kernel
theorem dX5_scratch_60 : decode cX5_scratch 60 = .ok (.aload_n 0, 1) := by decide +kernel
theorem dX5_scratch_61 : decode cX5_scratch 61 = .ok (.getfield 21, 3) := by decide +kernel
theorem dX5_scratch_64 : decode cX5_scratch 64 = .ok (.getfield 65, 3) := by decide +kernel
theorem dX5_scratch_67 : decode cX5_scratch 67 = .ok (.iload_n 1, 1) := by decide +kernel
theorem dX5_scratch_68 : decode cX5_scratch 68 = .ok (.bipush 16, 2) := by decide +kernel
theorem dX5_scratch_70 : decode cX5_scratch 70 = .ok (.imul, 1) := by decide +kernel
theorem dX5_scratch_71 : decode cX5_scratch 71 = .ok (.iload_n 2, 1) := by decide +kernel
theorem dX5_scratch_72 : decode cX5_scratch 72 = .ok (.iadd, 1) := by decide +kernel
theorem dX5_scratch_73 : decode cX5_scratch 73 = .ok (.dup2, 1) := by decide +kernel
theorem dX5_scratch_74 : decode cX5_scratch 74 = .ok (.iaload, 1) := by decide +kernel
theorem dX5_scratch_75 : decode cX5_scratch 75 = .ok (.iload_n 3, 1) := by decide +kernel
theorem dX5_scratch_76 : decode cX5_scratch 76 = .ok (.ixor, 1) := by decide +kernel
theorem dX5_scratch_77 : decode cX5_scratch 77 = .ok (.iastore, 1) := by decide +kernel
theorem dX5_scratch_78 : decode cX5_scratch 78 = .ok (.return_, 1) := by decide +kernel
theorem dX5_burst_0 : decode cX5_burst 0 = .ok (.iload_n 2, 1) := by decide +kernel
theorem dX5_burst_1 : decode cX5_burst 1 = .ok (.ifCond .lt 10, 3) := by decide +kernel
theorem dX5_burst_4 : decode cX5_burst 4 = .ok (.iload_n 3, 1) := by decide +kernel
theorem dX5_burst_5 : decode cX5_burst 5 = .ok (.invokestatic 69, 3) := by decide +kernel
theorem dX5_burst_8 : decode cX5_burst 8 = .ok (.ifCond .ne 13, 3) := by decide +kernel
theorem dX5_burst_11 : decode cX5_burst 11 = .ok (.new 75, 3) := by decide +kernel
theorem dX5_burst_14 : decode cX5_burst 14 = .ok (.dup, 1) := by decide +kernel
theorem dX5_burst_15 : decode cX5_burst 15 = .ok (.ldc 85, 2) := by decide +kernel
theorem dX5_burst_17 : decode cX5_burst 17 = .ok (.invokespecial 79, 3) := by decide +kernel
theorem dX5_burst_20 : decode cX5_burst 20 = .ok (.athrow, 1) := by decide +kernel
theorem dX5_burst_21 : decode cX5_burst 21 = .ok (.iload_n 2, 1) := by decide +kernel
theorem dX5_burst_22 : decode cX5_burst 22 = .ok (.ifCond .ne 4, 3) := by decide +kernel
theorem dX5_burst_25 : decode cX5_burst 25 = .ok (.return_, 1) := by decide +kernel
theorem dX5_burst_26 : decode cX5_burst 26 = .ok (.iload_n 1, 1) := by decide +kernel
theorem dX5_burst_27 : decode cX5_burst 27 = .ok (.ifCond .lt 19, 3) := by decide +kernel
theorem dX5_burst_30 : decode cX5_burst 30 = .ok (.iload_n 1, 1) := by decide +kernel
theorem dX5_burst_31 : decode cX5_burst 31 = .ok (.aload_n 0, 1) := by decide +kernel
theorem dX5_burst_32 : decode cX5_burst 32 = .ok (.getfield 21, 3) := by decide +kernel
theorem dX5_burst_35 : decode cX5_burst 35 = .ok (.getfield 41, 3) := by decide +kernel
theorem dX5_burst_38 : decode cX5_burst 38 = .ok (.bipush 16, 2) := by decide +kernel
theorem dX5_burst_40 : decode cX5_burst 40 = .ok (.imul, 1) := by decide +kernel
theorem dX5_burst_41 : decode cX5_burst 41 = .ok (.iload_n 2, 1) := by decide +kernel
theorem dX5_burst_42 : decode cX5_burst 42 = .ok (.isub, 1) := by decide +kernel
theorem dX5_burst_43 : decode cX5_burst 43 = .ok (.if_icmp .le 13, 3) := by decide +kernel
theorem dX5_burst_46 : decode cX5_burst 46 = .ok (.new 60, 3) := by decide +kernel
theorem dX5_burst_49 : decode cX5_burst 49 = .ok (.dup, 1) := by decide +kernel
theorem dX5_burst_50 : decode cX5_burst 50 = .ok (.ldc 62, 2) := by decide +kernel
theorem dX5_burst_52 : decode cX5_burst 52 = .ok (.invokespecial 64, 3) := by decide +kernel
theorem dX5_burst_55 : decode cX5_burst 55 = .ok (.athrow, 1) := by decide +kernel
theorem dX5_burst_56 : decode cX5_burst 56 = .ok (.iload_n 1, 1) := by decide +kernel
theorem dX5_burst_57 : decode cX5_burst 57 = .ok (.aload_n 0, 1) := by decide +kernel
theorem dX5_burst_58 : decode cX5_burst 58 = .ok (.getfield 21, 3) := by decide +kernel
theorem dX5_burst_61 : decode cX5_burst 61 = .ok (.getfield 80, 3) := by decide +kernel
theorem dX5_burst_64 : decode cX5_burst 64 = .ok (.bipush 16, 2) := by decide +kernel
theorem dX5_burst_66 : decode cX5_burst 66 = .ok (.imul, 1) := by decide +kernel
theorem dX5_burst_67 : decode cX5_burst 67 = .ok (.if_icmp .ge 13, 3) := by decide +kernel
theorem dX5_burst_70 : decode cX5_burst 70 = .ok (.new 45, 3) := by decide +kernel
theorem dX5_burst_73 : decode cX5_burst 73 = .ok (.dup, 1) := by decide +kernel
theorem dX5_burst_74 : decode cX5_burst 74 = .ok (.ldc 87, 2) := by decide +kernel
theorem dX5_burst_76 : decode cX5_burst 76 = .ok (.invokespecial 49, 3) := by decide +kernel
theorem dX5_burst_79 : decode cX5_burst 79 = .ok (.athrow, 1) := by decide +kernel
theorem dX5_burst_80 : decode cX5_burst 80 = .ok (.iload_n 1, 1) := by decide +kernel
theorem dX5_burst_81 : decode cX5_burst 81 = .ok (.istore 4, 2) := by decide +kernel
theorem dX5_burst_83 : decode cX5_burst 83 = .ok (.iload 4, 2) := by decide +kernel
theorem dX5_burst_85 : decode cX5_burst 85 = .ok (.iload_n 1, 1) := by decide +kernel
theorem dX5_burst_86 : decode cX5_burst 86 = .ok (.iload_n 2, 1) := by decide +kernel
theorem dX5_burst_87 : decode cX5_burst 87 = .ok (.iadd, 1) := by decide +kernel
theorem dX5_burst_88 : decode cX5_burst 88 = .ok (.if_icmp .ge 23, 3) := by decide +kernel
theorem dX5_burst_91 : decode cX5_burst 91 = .ok (.aload_n 0, 1) := by decide +kernel
theorem dX5_burst_92 : decode cX5_burst 92 = .ok (.getfield 21, 3) := by decide +kernel
theorem dX5_burst_95 : decode cX5_burst 95 = .ok (.getfield 65, 3) := by decide +kernel
theorem dX5_burst_98 : decode cX5_burst 98 = .ok (.iload 4, 2) := by decide +kernel
theorem dX5_burst_100 : decode cX5_burst 100 = .ok (.dup2, 1) := by decide +kernel
theorem dX5_burst_101 : decode cX5_burst 101 = .ok (.iaload, 1) := by decide +kernel
theorem dX5_burst_102 : decode cX5_burst 102 = .ok (.iload_n 3, 1) := by decide +kernel
theorem dX5_burst_103 : decode cX5_burst 103 = .ok (.ixor, 1) := by decide +kernel
theorem dX5_burst_104 : decode cX5_burst 104 = .ok (.iastore, 1) := by decide +kernel
theorem dX5_burst_105 : decode cX5_burst 105 = .ok (.iinc 4 1, 3) := by decide +kernel
theorem dX5_burst_108 : decode cX5_burst 108 = .ok (.goto (-25), 3) := by decide +kernel
theorem dX5_burst_111 : decode cX5_burst 111 = .ok (.return_, 1) := by decide +kernel
theorem dX5_read_0 : decode cX5_read 0 = .ok (.aload_n 0, 1) := by decide +kernel
theorem dX5_read_1 : decode cX5_read 1 = .ok (.getfield 21, 3) := by decide +kernel
theorem dX5_read_4 : decode cX5_read 4 = .ok (.getfield 80, 3) := by decide +kernel
theorem dX5_read_7 : decode cX5_read 7 = .ok (.aload_n 0, 1) := by decide +kernel
theorem dX5_read_8 : decode cX5_read 8 = .ok (.getfield 21, 3) := by decide +kernel
theorem dX5_read_11 : decode cX5_read 11 = .ok (.getfield 41, 3) := by decide +kernel
theorem dX5_read_14 : decode cX5_read 14 = .ok (.if_icmp .lt 13, 3) := by decide +kernel
theorem dX5_read_17 : decode cX5_read 17 = .ok (.new 89, 3) := by decide +kernel
theorem dX5_read_20 : decode cX5_read 20 = .ok (.dup, 1) := by decide +kernel
theorem dX5_read_21 : decode cX5_read 21 = .ok (.ldc 91, 2) := by decide +kernel
theorem dX5_read_23 : decode cX5_read 23 = .ok (.invokespecial 93, 3) := by decide +kernel
theorem dX5_read_26 : decode cX5_read 26 = .ok (.athrow, 1) := by decide +kernel
theorem dX5_read_27 : decode cX5_read 27 = .ok (.aload_n 0, 1) := by decide +kernel
theorem dX5_read_28 : decode cX5_read 28 = .ok (.getfield 37, 3) := by decide +kernel
theorem dX5_read_31 : decode cX5_read 31 = .ok (.invokevirtual 94, 3) := by decide +kernel
theorem dX5_read_34 : decode cX5_read 34 = .ok (.ifCond .eq 7, 3) := by decide +kernel
theorem dX5_read_37 : decode cX5_read 37 = .ok (.iconst 0, 1) := by decide +kernel
theorem dX5_read_38 : decode cX5_read 38 = .ok (.goto 5, 3) := by decide +kernel
theorem dX5_read_41 : decode cX5_read 41 = .ok (.bipush 8, 2) := by decide +kernel
theorem dX5_read_43 : decode cX5_read 43 = .ok (.ireturn, 1) := by decide +kernel
theorem dX5_out_0 : decode cX5_out 0 = .ok (.iload_n 1, 1) := by decide +kernel
theorem dX5_out_1 : decode cX5_out 1 = .ok (.ifCond .lt 17, 3) := by decide +kernel
theorem dX5_out_4 : decode cX5_out 4 = .ok (.iload_n 1, 1) := by decide +kernel
theorem dX5_out_5 : decode cX5_out 5 = .ok (.aload_n 0, 1) := by decide +kernel
theorem dX5_out_6 : decode cX5_out 6 = .ok (.getfield 21, 3) := by decide +kernel
theorem dX5_out_9 : decode cX5_out 9 = .ok (.getfield 80, 3) := by decide +kernel
theorem dX5_out_12 : decode cX5_out 12 = .ok (.bipush 8, 2) := by decide +kernel
theorem dX5_out_14 : decode cX5_out 14 = .ok (.imul, 1) := by decide +kernel
theorem dX5_out_15 : decode cX5_out 15 = .ok (.if_icmp .lt 13, 3) := by decide +kernel
theorem dX5_out_18 : decode cX5_out 18 = .ok (.new 60, 3) := by decide +kernel
theorem dX5_out_21 : decode cX5_out 21 = .ok (.dup, 1) := by decide +kernel
theorem dX5_out_22 : decode cX5_out 22 = .ok (.ldc 98, 2) := by decide +kernel
theorem dX5_out_24 : decode cX5_out 24 = .ok (.invokespecial 64, 3) := by decide +kernel
theorem dX5_out_27 : decode cX5_out 27 = .ok (.athrow, 1) := by decide +kernel
theorem dX5_out_28 : decode cX5_out 28 = .ok (.aload_n 0, 1) := by decide +kernel
theorem dX5_out_29 : decode cX5_out 29 = .ok (.getfield 37, 3) := by decide +kernel
theorem dX5_out_32 : decode cX5_out 32 = .ok (.getfield 100, 3) := by decide +kernel
theorem dX5_out_35 : decode cX5_out 35 = .ok (.iload_n 1, 1) := by decide +kernel
theorem dX5_out_36 : decode cX5_out 36 = .ok (.iaload, 1) := by decide +kernel
theorem dX5_out_37 : decode cX5_out 37 = .ok (.ireturn, 1) := by decide +kernel
theorem dX5_flagged_0 : decode cX5_flagged 0 = .ok (.iload_n 1, 1) := by decide +kernel
theorem dX5_flagged_1 : decode cX5_flagged 1 = .ok (.ifCond .lt 17, 3) := by decide +kernel
theorem dX5_flagged_4 : decode cX5_flagged 4 = .ok (.iload_n 1, 1) := by decide +kernel
theorem dX5_flagged_5 : decode cX5_flagged 5 = .ok (.aload_n 0, 1) := by decide +kernel
theorem dX5_flagged_6 : decode cX5_flagged 6 = .ok (.getfield 21, 3) := by decide +kernel
theorem dX5_flagged_9 : decode cX5_flagged 9 = .ok (.getfield 80, 3) := by decide +kernel
theorem dX5_flagged_12 : decode cX5_flagged 12 = .ok (.bipush 8, 2) := by decide +kernel
theorem dX5_flagged_14 : decode cX5_flagged 14 = .ok (.imul, 1) := by decide +kernel
theorem dX5_flagged_15 : decode cX5_flagged 15 = .ok (.if_icmp .lt 13, 3) := by decide +kernel
theorem dX5_flagged_18 : decode cX5_flagged 18 = .ok (.new 60, 3) := by decide +kernel
theorem dX5_flagged_21 : decode cX5_flagged 21 = .ok (.dup, 1) := by decide +kernel
theorem dX5_flagged_22 : decode cX5_flagged 22 = .ok (.ldc 98, 2) := by decide +kernel
theorem dX5_flagged_24 : decode cX5_flagged 24 = .ok (.invokespecial 64, 3) := by decide +kernel
theorem dX5_flagged_27 : decode cX5_flagged 27 = .ok (.athrow, 1) := by decide +kernel
theorem dX5_flagged_28 : decode cX5_flagged 28 = .ok (.aload_n 0, 1) := by decide +kernel
theorem dX5_flagged_29 : decode cX5_flagged 29 = .ok (.getfield 37, 3) := by decide +kernel
theorem dX5_flagged_32 : decode cX5_flagged 32 = .ok (.getfield 103, 3) := by decide +kernel
theorem dX5_flagged_35 : decode cX5_flagged 35 = .ok (.iload_n 1, 1) := by decide +kernel
theorem dX5_flagged_36 : decode cX5_flagged 36 = .ok (.bipush 8, 2) := by decide +kernel
theorem dX5_flagged_38 : decode cX5_flagged 38 = .ok (.idiv, 1) := by decide +kernel
theorem dX5_flagged_39 : decode cX5_flagged 39 = .ok (.baload, 1) := by decide +kernel
theorem dX5_flagged_40 : decode cX5_flagged 40 = .ok (.ireturn, 1) := by decide +kernel
theorem dX5_figure_0 : decode cX5_figure 0 = .ok (.iload_n 1, 1) := by decide +kernel
theorem dX5_figure_1 : decode cX5_figure 1 = .ok (.tableswitch 105 0 6 #[43, 51, 62, 70, 78, 86, 94], 43) := by decide +kernel
theorem dX5_figure_44 : decode cX5_figure 44 = .ok (.aload_n 0, 1) := by decide +kernel
theorem dX5_figure_45 : decode cX5_figure 45 = .ok (.getfield 21, 3) := by decide +kernel
theorem dX5_figure_48 : decode cX5_figure 48 = .ok (.getfield 80, 3) := by decide +kernel
theorem dX5_figure_51 : decode cX5_figure 51 = .ok (.ireturn, 1) := by decide +kernel
theorem dX5_figure_52 : decode cX5_figure 52 = .ok (.aload_n 0, 1) := by decide +kernel
theorem dX5_figure_53 : decode cX5_figure 53 = .ok (.getfield 21, 3) := by decide +kernel
theorem dX5_figure_56 : decode cX5_figure 56 = .ok (.getfield 80, 3) := by decide +kernel
theorem dX5_figure_59 : decode cX5_figure 59 = .ok (.bipush 8, 2) := by decide +kernel
theorem dX5_figure_61 : decode cX5_figure 61 = .ok (.imul, 1) := by decide +kernel
theorem dX5_figure_62 : decode cX5_figure 62 = .ok (.ireturn, 1) := by decide +kernel
theorem dX5_figure_63 : decode cX5_figure 63 = .ok (.aload_n 0, 1) := by decide +kernel
theorem dX5_figure_64 : decode cX5_figure 64 = .ok (.getfield 37, 3) := by decide +kernel
theorem dX5_figure_67 : decode cX5_figure 67 = .ok (.getfield 107, 3) := by decide +kernel
theorem dX5_figure_70 : decode cX5_figure 70 = .ok (.ireturn, 1) := by decide +kernel
theorem dX5_figure_71 : decode cX5_figure 71 = .ok (.aload_n 0, 1) := by decide +kernel
theorem dX5_figure_72 : decode cX5_figure 72 = .ok (.getfield 37, 3) := by decide +kernel
theorem dX5_figure_75 : decode cX5_figure 75 = .ok (.getfield 110, 3) := by decide +kernel
theorem dX5_figure_78 : decode cX5_figure 78 = .ok (.ireturn, 1) := by decide +kernel
theorem dX5_figure_79 : decode cX5_figure 79 = .ok (.aload_n 0, 1) := by decide +kernel
theorem dX5_figure_80 : decode cX5_figure 80 = .ok (.getfield 37, 3) := by decide +kernel
theorem dX5_figure_83 : decode cX5_figure 83 = .ok (.getfield 113, 3) := by decide +kernel
theorem dX5_figure_86 : decode cX5_figure 86 = .ok (.ireturn, 1) := by decide +kernel
theorem dX5_figure_87 : decode cX5_figure 87 = .ok (.aload_n 0, 1) := by decide +kernel
theorem dX5_figure_88 : decode cX5_figure 88 = .ok (.getfield 37, 3) := by decide +kernel
theorem dX5_figure_91 : decode cX5_figure 91 = .ok (.getfield 116, 3) := by decide +kernel
theorem dX5_figure_94 : decode cX5_figure 94 = .ok (.ireturn, 1) := by decide +kernel
theorem dX5_figure_95 : decode cX5_figure 95 = .ok (.aload_n 0, 1) := by decide +kernel
theorem dX5_figure_96 : decode cX5_figure 96 = .ok (.getfield 37, 3) := by decide +kernel
theorem dX5_figure_99 : decode cX5_figure 99 = .ok (.getfield 116, 3) := by decide +kernel
theorem dX5_figure_102 : decode cX5_figure 102 = .ok (.bipush 8, 2) := by decide +kernel
theorem dX5_figure_104 : decode cX5_figure 104 = .ok (.imul, 1) := by decide +kernel
theorem dX5_figure_105 : decode cX5_figure 105 = .ok (.ireturn, 1) := by decide +kernel
theorem dX5_figure_106 : decode cX5_figure 106 = .ok (.new 75, 3) := by decide +kernel
theorem dX5_figure_109 : decode cX5_figure 109 = .ok (.dup, 1) := by decide +kernel
theorem dX5_figure_110 : decode cX5_figure 110 = .ok (.ldc 119, 2) := by decide +kernel
theorem dX5_figure_112 : decode cX5_figure 112 = .ok (.invokespecial 79, 3) := by decide +kernel
theorem dX5_figure_115 : decode cX5_figure 115 = .ok (.athrow, 1) := by decide +kernel
theorem dX5_check_0 : decode cX5_check 0 = .ok (.iload_n 3, 1) := by decide +kernel
theorem dX5_check_1 : decode cX5_check 1 = .ok (.ifCond .lt 8, 3) := by decide +kernel
theorem dX5_check_4 : decode cX5_check 4 = .ok (.iload_n 3, 1) := by decide +kernel
theorem dX5_check_5 : decode cX5_check 5 = .ok (.iconst 4, 1) := by decide +kernel
theorem dX5_check_6 : decode cX5_check 6 = .ok (.if_icmp .lt 13, 3) := by decide +kernel
theorem dX5_check_9 : decode cX5_check 9 = .ok (.new 75, 3) := by decide +kernel
theorem dX5_check_12 : decode cX5_check 12 = .ok (.dup, 1) := by decide +kernel
theorem dX5_check_13 : decode cX5_check 13 = .ok (.ldc 121, 2) := by decide +kernel
theorem dX5_check_15 : decode cX5_check 15 = .ok (.invokespecial 79, 3) := by decide +kernel
theorem dX5_check_18 : decode cX5_check 18 = .ok (.athrow, 1) := by decide +kernel
theorem dX5_check_19 : decode cX5_check 19 = .ok (.aload_n 0, 1) := by decide +kernel
theorem dX5_check_20 : decode cX5_check 20 = .ok (.getfield 17, 3) := by decide +kernel
theorem dX5_check_23 : decode cX5_check 23 = .ok (.lload_n 1, 1) := by decide +kernel
theorem dX5_check_24 : decode cX5_check 24 = .ok (.invokevirtual 123, 3) := by decide +kernel
theorem dX5_check_27 : decode cX5_check 27 = .ok (.aload_n 0, 1) := by decide +kernel
theorem dX5_check_28 : decode cX5_check 28 = .ok (.getfield 17, 3) := by decide +kernel
theorem dX5_check_31 : decode cX5_check 31 = .ok (.invokevirtual 127, 3) := by decide +kernel
theorem dX5_check_34 : decode cX5_check 34 = .ok (.aload_n 0, 1) := by decide +kernel
theorem dX5_check_35 : decode cX5_check 35 = .ok (.getfield 17, 3) := by decide +kernel
theorem dX5_check_38 : decode cX5_check 38 = .ok (.getfield 130, 3) := by decide +kernel
theorem dX5_check_41 : decode cX5_check 41 = .ok (.bipush 8, 2) := by decide +kernel
theorem dX5_check_43 : decode cX5_check 43 = .ok (.iload_n 3, 1) := by decide +kernel
theorem dX5_check_44 : decode cX5_check 44 = .ok (.iadd, 1) := by decide +kernel
theorem dX5_check_45 : decode cX5_check 45 = .ok (.iaload, 1) := by decide +kernel
theorem dX5_check_46 : decode cX5_check 46 = .ok (.ireturn, 1) := by decide +kernel
theorem dX5_product_0 : decode cX5_product 0 = .ok (.iload_n 1, 1) := by decide +kernel
theorem dX5_product_1 : decode cX5_product 1 = .ok (.invokestatic 69, 3) := by decide +kernel
theorem dX5_product_4 : decode cX5_product 4 = .ok (.ifCond .eq 10, 3) := by decide +kernel
theorem dX5_product_7 : decode cX5_product 7 = .ok (.iload_n 2, 1) := by decide +kernel
theorem dX5_product_8 : decode cX5_product 8 = .ok (.invokestatic 69, 3) := by decide +kernel
theorem dX5_product_11 : decode cX5_product 11 = .ok (.ifCond .ne 13, 3) := by decide +kernel
theorem dX5_product_14 : decode cX5_product 14 = .ok (.new 75, 3) := by decide +kernel
theorem dX5_product_17 : decode cX5_product 17 = .ok (.dup, 1) := by decide +kernel
theorem dX5_product_18 : decode cX5_product 18 = .ok (.ldc 131, 2) := by decide +kernel
theorem dX5_product_20 : decode cX5_product 20 = .ok (.invokespecial 79, 3) := by decide +kernel
theorem dX5_product_23 : decode cX5_product 23 = .ok (.athrow, 1) := by decide +kernel
theorem dX5_product_24 : decode cX5_product 24 = .ok (.iload_n 1, 1) := by decide +kernel
theorem dX5_product_25 : decode cX5_product 25 = .ok (.iload_n 2, 1) := by decide +kernel
theorem dX5_product_26 : decode cX5_product 26 = .ok (.invokestatic 133, 3) := by decide +kernel
theorem dX5_product_29 : decode cX5_product 29 = .ok (.ireturn, 1) := by decide +kernel
