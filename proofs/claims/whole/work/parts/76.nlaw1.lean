abbrev cL_feed : ByteArray := method_3_code
def yL_feed : MethodName := ⟨RL, "feed", "(LDiscCoder;J[J)I"⟩
abbrev cL_symbol : ByteArray := method_4_code
def yL_symbol : MethodName := ⟨RL, "symbol", "(LDiscCoder;II[J)I"⟩
abbrev cL_scratch : ByteArray := method_5_code
def yL_scratch : MethodName := ⟨RL, "scratch", "(LDiscCoder;III)I"⟩
abbrev cL_burst : ByteArray := method_6_code
def yL_burst : MethodName := ⟨RL, "burst", "(LDiscCoder;III)I"⟩
abbrev cL_read : ByteArray := method_7_code
def yL_read : MethodName := ⟨RL, "read", "(LDiscCoder;[J)I"⟩
abbrev cL_out : ByteArray := method_8_code
def yL_out : MethodName := ⟨RL, "out", "(LDiscCoder;I[J)I"⟩
abbrev cL_flagged : ByteArray := method_9_code
def yL_flagged : MethodName := ⟨RL, "flagged", "(LDiscCoder;I[J)I"⟩
abbrev cL_figure : ByteArray := method_10_code
def yL_figure : MethodName := ⟨RL, "figure", "(LDiscCoder;I[J)I"⟩
abbrev cL_check : ByteArray := method_11_code
def yL_check : MethodName := ⟨RL, "check", "(LDiscCoder;JI[J)I"⟩
abbrev cL_product : ByteArray := method_12_code
def yL_product : MethodName := ⟨RL, "product", "(LDiscCoder;II[J)I"⟩
abbrev cL_law : ByteArray := code
def wsL_feed : List Cond := .codeWith yL_feed cL_feed 5 (some .int) [(0, 9, 12, 13)] :: ([.classLink RL 13 "java/lang/IllegalStateException", .methodLink RL 7 yX5_feed, .instanceMethod yX5_feed, .selects RX5 yX5_feed yX5_feed, .initialized RX5, .code yX5_feed cX5_feed 3 (some .int), .fieldLink RX5 21 "DiscCoder" "disc" "LDiscCoder$Disc;", .fieldLink RX5 30 "DiscCoder" "writer" "LDiscCoder$Writer;", .methodLink RX5 52 yX4_writeFrame, .instanceMethod yX4_writeFrame, .selects RX4 yX4_writeFrame yX4_writeFrame, .initialized RX4, .code yX4_writeFrame cX4_writeFrame 4 (some .int), .fieldLink RX4 9 "DiscCoder$Writer" "disc" "LDiscCoder$Disc;", .methodLink RX4 37 yX4_makeInner, .instanceMethod yX4_makeInner, .selects RX4 yX4_makeInner yX4_makeInner, .code yX4_makeInner cX4_makeInner 5 none, .fieldLink RX4 15 "DiscCoder$Writer" "inner" "LDiscCoder$Word;", .methodLink RX4 48 yX3_beginWith, .instanceMethod yX3_beginWith, .selects RX3 yX3_beginWith yX3_beginWith, .initialized RX3, .code yX3_beginWith cX3_beginWith 4 none, .fieldLink RX3 15 "DiscCoder$Word" "symbols" "[I", .methodLink RX4 54 yX3_makeChecks, .instanceMethod yX3_makeChecks, .selects RX3 yX3_makeChecks yX3_makeChecks, .code yX3_makeChecks cX3_makeChecks 2 none, .fieldLink RX3 9 "DiscCoder$Word" "size" "I", .fieldLink RX3 19 "DiscCoder$Word" "doubted" "[Z", .methodLink RX3 44 yX3_fillDoubted, .instanceMethod yX3_fillDoubted, .selects RX3 yX3_fillDoubted yX3_fillDoubted, .code yX3_fillDoubted cX3_fillDoubted 3 (some .boolean), .methodLink RX3 58 yX3_countDoubted, .instanceMethod yX3_countDoubted, .selects RX3 yX3_countDoubted yX3_countDoubted, .code yX3_countDoubted cX3_countDoubted 3 (some .int), .methodLink RX3 62 yX3_listDoubted, .instanceMethod yX3_listDoubted, .selects RX3 yX3_listDoubted yX3_listDoubted, .code yX3_listDoubted cX3_listDoubted 3 none, .fieldLink RX3 29 "DiscCoder$Word" "doubtedAt" "[I", .methodLink RX3 48 yX3_makeSums, .instanceMethod yX3_makeSums, .selects RX3 yX3_makeSums yX3_makeSums, .code yX3_makeSums cX3_makeSums 5 none, .methodLink RX3 38 yX1_times, .static yX1_times, .initialized RX1, .code yX1_times cX1_times 5 (some .int), .fieldLink RX3 26 "DiscCoder$Word" "sums" "[I", .fieldLink RX3 32 "DiscCoder$Word" "changes" "[I", .methodLink RX3 65 yX3_changeAt, .instanceMethod yX3_changeAt, .selects RX3 yX3_changeAt yX3_changeAt, .code yX3_changeAt cX3_changeAt 7 (some .int), .fieldLink RX3 23 "DiscCoder$Word" "locators" "[I", .methodLink RX3 72 yX3_startWeights, .instanceMethod yX3_startWeights, .selects RX3 yX3_startWeights yX3_startWeights, .code yX3_startWeights cX3_startWeights 2 none, .fieldLink RX3 35 "DiscCoder$Word" "weights" "[I", .methodLink RX3 75 yX3_addRoot, .instanceMethod yX3_addRoot, .selects RX3 yX3_addRoot yX3_addRoot, .code yX3_addRoot cX3_addRoot 3 none, .methodLink RX3 78 yX3_weightedSums, .instanceMethod yX3_weightedSums, .selects RX3 yX3_weightedSums yX3_weightedSums, .code yX3_weightedSums cX3_weightedSums 3 (some .int), .methodLink RX3 81 yX1_inverse, .static yX1_inverse, .code yX1_inverse cX1_inverse 4 (some .int), .methodLink RX1 11 yX1_times, .methodLink RX3 68 yX3_addChanges, .instanceMethod yX3_addChanges, .selects RX3 yX3_addChanges yX3_addChanges, .code yX3_addChanges cX3_addChanges 3 none, .methodLink RX3 51 yX3_isWord, .instanceMethod yX3_isWord, .selects RX3 yX3_isWord yX3_isWord, .code yX3_isWord cX3_isWord 2 (some .boolean), .fieldLink RX4 24 "DiscCoder$Writer" "innerWords" "[[I", .methodLink RX4 41 yX4_makeOuter, .instanceMethod yX4_makeOuter, .selects RX4 yX4_makeOuter yX4_makeOuter, .code yX4_makeOuter cX4_makeOuter 3 none, .fieldLink RX4 19 "DiscCoder$Writer" "outer" "LDiscCoder$Word;", .methodLink RX4 45 yX4_writeRow, .instanceMethod yX4_writeRow, .selects RX4 yX4_writeRow yX4_writeRow, .code yX4_writeRow cX4_writeRow 3 none, .fieldLink RX4 27 "DiscCoder$Writer" "outerBefore" "[I", .methodLink RX4 60 yX0_setPlain, .instanceMethod yX0_setPlain, .selects RX0 yX0_setPlain yX0_setPlain, .initialized RX0, .code yX0_setPlain cX0_setPlain 4 none, .fieldLink RX0 9 "DiscCoder$Disc" "symbols" "[I", .methodLink RX0 19 yX0_turned, .static yX0_turned, .code yX0_turned cX0_turned 2 (some .int)] ++ wsX50 ++ wsX00 ++ wsX40 ++ wsX30)
def wsL_symbol : List Cond := .codeWith yL_symbol cL_symbol 5 (some .int) [(0, 10, 13, 19)] :: ([.classLink RL 19 "java/lang/IndexOutOfBoundsException", .methodLink RL 15 yX5_symbol, .instanceMethod yX5_symbol, .selects RX5 yX5_symbol yX5_symbol, .initialized RX5, .code yX5_symbol cX5_symbol 3 (some .int), .fieldLink RX5 21 "DiscCoder" "disc" "LDiscCoder$Disc;", .methodLink RX5 56 yX0_has, .instanceMethod yX0_has, .selects RX0 yX0_has yX0_has, .initialized RX0, .code yX0_has cX0_has 3 (some .boolean), .fieldLink RX0 15 "DiscCoder$Disc" "rowsWritten" "I"] ++ wsX50 ++ wsX00)
def wsL_scratch : List Cond := .codeWith yL_scratch cL_scratch 5 (some .int) [(0, 7, 10, 19), (0, 7, 14, 25), (0, 7, 18, 13)] :: ([.classLink RL 19 "java/lang/IndexOutOfBoundsException", .classLink RL 25 "java/lang/IllegalArgumentException", .classLink RL 13 "java/lang/IllegalStateException", .methodLink RL 21 yX5_scratch, .instanceMethod yX5_scratch, .selects RX5 yX5_scratch yX5_scratch, .initialized RX5, .code yX5_scratch cX5_scratch 4 none, .fieldLink RX5 21 "DiscCoder" "disc" "LDiscCoder$Disc;", .methodLink RX5 56 yX0_has, .instanceMethod yX0_has, .selects RX0 yX0_has yX0_has, .initialized RX0, .code yX0_has cX0_has 3 (some .boolean), .fieldLink RX0 15 "DiscCoder$Disc" "rowsWritten" "I", .methodLink RX5 69 yX1_holds, .static yX1_holds, .initialized RX1, .code yX1_holds cX1_holds 1 (some .boolean)] ++ wsX50 ++ wsX00)
def wsL_burst : List Cond := .codeWith yL_burst cL_burst 5 (some .int) [(0, 7, 10, 25), (0, 7, 14, 19), (0, 7, 18, 13)] :: ([.classLink RL 25 "java/lang/IllegalArgumentException", .classLink RL 19 "java/lang/IndexOutOfBoundsException", .classLink RL 13 "java/lang/IllegalStateException", .methodLink RL 27 yX5_burst, .instanceMethod yX5_burst, .selects RX5 yX5_burst yX5_burst, .initialized RX5, .code yX5_burst cX5_burst 5 none, .methodLink RX5 69 yX1_holds, .static yX1_holds, .initialized RX1, .code yX1_holds cX1_holds 1 (some .boolean), .fieldLink RX5 21 "DiscCoder" "disc" "LDiscCoder$Disc;"] ++ wsX50 ++ wsX00)
def wsL_read : List Cond := .codeWith yL_read cL_read 3 (some .int) [(0, 8, 11, 34)] :: ([.classLink RL 34 "java/util/NoSuchElementException", .methodLink RL 30 yX5_read, .instanceMethod yX5_read, .selects RX5 yX5_read yX5_read, .initialized RX5, .code yX5_read cX5_read 1 (some .int), .fieldLink RX5 21 "DiscCoder" "disc" "LDiscCoder$Disc;", .fieldLink RX5 37 "DiscCoder" "reader" "LDiscCoder$Reader;", .methodLink RX5 94 yX2_readRow, .instanceMethod yX2_readRow, .selects RX2 yX2_readRow yX2_readRow, .initialized RX2, .code yX2_readRow cX2_readRow 2 (some .boolean), .fieldLink RX2 9 "DiscCoder$Reader" "disc" "LDiscCoder$Disc;", .methodLink RX2 44 yX2_gatherOuter, .instanceMethod yX2_gatherOuter, .selects RX2 yX2_gatherOuter yX2_gatherOuter, .code yX2_gatherOuter cX2_gatherOuter 3 none, .fieldLink RX2 19 "DiscCoder$Reader" "outer" "LDiscCoder$Word;", .methodLink RX2 62 yX0_getPlain, .instanceMethod yX0_getPlain, .selects RX0 yX0_getPlain yX0_getPlain, .initialized RX0, .code yX0_getPlain cX0_getPlain 3 (some .int), .methodLink RX0 23 yX0_has, .instanceMethod yX0_has, .selects RX0 yX0_has yX0_has, .code yX0_has cX0_has 3 (some .boolean), .fieldLink RX0 15 "DiscCoder$Disc" "rowsWritten" "I", .fieldLink RX0 9 "DiscCoder$Disc" "symbols" "[I", .methodLink RX0 19 yX0_turned, .static yX0_turned, .code yX0_turned cX0_turned 2 (some .int), .methodLink RX2 48 yX2_rightOuter, .instanceMethod yX2_rightOuter, .selects RX2 yX2_rightOuter yX2_rightOuter, .code yX2_rightOuter cX2_rightOuter 3 none, .methodLink RX2 66 yX3_mendOne, .instanceMethod yX3_mendOne, .selects RX3 yX3_mendOne yX3_mendOne, .initialized RX3, .code yX3_mendOne cX3_mendOne 2 (some .boolean), .methodLink RX3 51 yX3_isWord, .instanceMethod yX3_isWord, .selects RX3 yX3_isWord yX3_isWord, .code yX3_isWord cX3_isWord 2 (some .boolean), .methodLink RX3 48 yX3_makeSums, .instanceMethod yX3_makeSums, .selects RX3 yX3_makeSums yX3_makeSums, .code yX3_makeSums cX3_makeSums 5 none, .fieldLink RX3 9 "DiscCoder$Word" "size" "I", .methodLink RX3 38 yX1_times, .static yX1_times, .initialized RX1, .code yX1_times cX1_times 5 (some .int), .fieldLink RX3 15 "DiscCoder$Word" "symbols" "[I", .fieldLink RX3 26 "DiscCoder$Word" "sums" "[I", .methodLink RX3 54 yX3_isOnlyFault, .instanceMethod yX3_isOnlyFault, .selects RX3 yX3_isOnlyFault yX3_isOnlyFault, .code yX3_isOnlyFault cX3_isOnlyFault 4 (some .boolean), .fieldLink RX3 23 "DiscCoder$Word" "locators" "[I", .fieldLink RX2 70 "DiscCoder$Reader" "wordsMended" "I", .methodLink RX2 73 yX3_isWord, .fieldLink RX2 27 "DiscCoder$Reader" "outerDoubted" "[Z", .fieldLink RX2 76 "DiscCoder$Reader" "wordsDoubted" "I", .fieldLink RX2 24 "DiscCoder$Reader" "outerWords" "[[I", .methodLink RX2 51 yX2_gatherInner, .instanceMethod yX2_gatherInner, .selects RX2 yX2_gatherInner yX2_gatherInner, .code yX2_gatherInner cX2_gatherInner 4 none, .fieldLink RX2 15 "DiscCoder$Reader" "inner" "LDiscCoder$Word;", .methodLink RX2 54 yX2_rightInner, .instanceMethod yX2_rightInner, .selects RX2 yX2_rightInner yX2_rightInner, .code yX2_rightInner cX2_rightInner 3 none, .methodLink RX2 82 yX3_fillDoubted, .instanceMethod yX3_fillDoubted, .selects RX3 yX3_fillDoubted yX3_fillDoubted, .code yX3_fillDoubted cX3_fillDoubted 3 (some .boolean), .methodLink RX3 58 yX3_countDoubted, .instanceMethod yX3_countDoubted, .selects RX3 yX3_countDoubted yX3_countDoubted, .code yX3_countDoubted cX3_countDoubted 3 (some .int), .fieldLink RX3 19 "DiscCoder$Word" "doubted" "[Z", .methodLink RX3 62 yX3_listDoubted, .instanceMethod yX3_listDoubted, .selects RX3 yX3_listDoubted yX3_listDoubted, .code yX3_listDoubted cX3_listDoubted 3 none, .fieldLink RX3 29 "DiscCoder$Word" "doubtedAt" "[I", .fieldLink RX3 32 "DiscCoder$Word" "changes" "[I", .methodLink RX3 65 yX3_changeAt, .instanceMethod yX3_changeAt, .selects RX3 yX3_changeAt yX3_changeAt, .code yX3_changeAt cX3_changeAt 7 (some .int), .methodLink RX3 72 yX3_startWeights, .instanceMethod yX3_startWeights, .selects RX3 yX3_startWeights yX3_startWeights, .code yX3_startWeights cX3_startWeights 2 none, .fieldLink RX3 35 "DiscCoder$Word" "weights" "[I", .methodLink RX3 75 yX3_addRoot, .instanceMethod yX3_addRoot, .selects RX3 yX3_addRoot yX3_addRoot, .code yX3_addRoot cX3_addRoot 3 none, .methodLink RX3 78 yX3_weightedSums, .instanceMethod yX3_weightedSums, .selects RX3 yX3_weightedSums yX3_weightedSums, .code yX3_weightedSums cX3_weightedSums 3 (some .int), .methodLink RX3 81 yX1_inverse, .static yX1_inverse, .code yX1_inverse cX1_inverse 4 (some .int), .methodLink RX1 11 yX1_times, .methodLink RX3 68 yX3_addChanges, .instanceMethod yX3_addChanges, .selects RX3 yX3_addChanges yX3_addChanges, .code yX3_addChanges cX3_addChanges 3 none, .fieldLink RX2 85 "DiscCoder$Reader" "symbolsFilled" "I", .methodLink RX2 88 yX3_countDoubted, .fieldLink RX2 35 "DiscCoder$Reader" "lost" "[Z", .fieldLink RX2 92 "DiscCoder$Reader" "wordsLost" "I", .fieldLink RX2 31 "DiscCoder$Reader" "output" "[I"] ++ wsX50 ++ wsX00 ++ wsX20 ++ wsX30)
def wsL_out : List Cond := .codeWith yL_out cL_out 4 (some .int) [(0, 9, 12, 19)] :: ([.classLink RL 19 "java/lang/IndexOutOfBoundsException", .methodLink RL 36 yX5_out, .instanceMethod yX5_out, .selects RX5 yX5_out yX5_out, .initialized RX5, .code yX5_out cX5_out 2 (some .int), .fieldLink RX5 21 "DiscCoder" "disc" "LDiscCoder$Disc;", .fieldLink RX5 37 "DiscCoder" "reader" "LDiscCoder$Reader;"] ++ wsX50 ++ wsX00 ++ wsX20)
def wsL_flagged : List Cond := .codeWith yL_flagged cL_flagged 4 (some .int) [(0, 16, 19, 19)] :: ([.classLink RL 19 "java/lang/IndexOutOfBoundsException", .methodLink RL 40 yX5_flagged, .instanceMethod yX5_flagged, .selects RX5 yX5_flagged yX5_flagged, .initialized RX5, .code yX5_flagged cX5_flagged 2 (some .boolean), .fieldLink RX5 21 "DiscCoder" "disc" "LDiscCoder$Disc;", .fieldLink RX5 37 "DiscCoder" "reader" "LDiscCoder$Reader;"] ++ wsX50 ++ wsX00 ++ wsX20)
def wsL_figure : List Cond := .codeWith yL_figure cL_figure 4 (some .int) [(0, 9, 12, 25)] :: ([.classLink RL 25 "java/lang/IllegalArgumentException", .methodLink RL 44 yX5_figure, .instanceMethod yX5_figure, .selects RX5 yX5_figure yX5_figure, .initialized RX5, .code yX5_figure cX5_figure 2 (some .int), .fieldLink RX5 21 "DiscCoder" "disc" "LDiscCoder$Disc;", .fieldLink RX5 37 "DiscCoder" "reader" "LDiscCoder$Reader;"] ++ wsX50 ++ wsX00 ++ wsX20)
def wsL_check : List Cond := .codeWith yL_check cL_check 6 (some .int) [(0, 11, 14, 25)] :: ([.classLink RL 25 "java/lang/IllegalArgumentException", .methodLink RL 47 yX5_check, .instanceMethod yX5_check, .selects RX5 yX5_check yX5_check, .initialized RX5, .code yX5_check cX5_check 4 (some .int), .fieldLink RX5 17 "DiscCoder" "inner" "LDiscCoder$Word;", .methodLink RX5 123 yX3_beginWith, .instanceMethod yX3_beginWith, .selects RX3 yX3_beginWith yX3_beginWith, .initialized RX3, .code yX3_beginWith cX3_beginWith 4 none, .fieldLink RX3 15 "DiscCoder$Word" "symbols" "[I", .methodLink RX5 127 yX3_makeChecks, .instanceMethod yX3_makeChecks, .selects RX3 yX3_makeChecks yX3_makeChecks, .code yX3_makeChecks cX3_makeChecks 2 none, .fieldLink RX3 9 "DiscCoder$Word" "size" "I", .fieldLink RX3 19 "DiscCoder$Word" "doubted" "[Z", .methodLink RX3 44 yX3_fillDoubted, .instanceMethod yX3_fillDoubted, .selects RX3 yX3_fillDoubted yX3_fillDoubted, .code yX3_fillDoubted cX3_fillDoubted 3 (some .boolean), .methodLink RX3 58 yX3_countDoubted, .instanceMethod yX3_countDoubted, .selects RX3 yX3_countDoubted yX3_countDoubted, .code yX3_countDoubted cX3_countDoubted 3 (some .int), .methodLink RX3 62 yX3_listDoubted, .instanceMethod yX3_listDoubted, .selects RX3 yX3_listDoubted yX3_listDoubted, .code yX3_listDoubted cX3_listDoubted 3 none, .fieldLink RX3 29 "DiscCoder$Word" "doubtedAt" "[I", .methodLink RX3 48 yX3_makeSums, .instanceMethod yX3_makeSums, .selects RX3 yX3_makeSums yX3_makeSums, .code yX3_makeSums cX3_makeSums 5 none, .methodLink RX3 38 yX1_times, .static yX1_times, .initialized RX1, .code yX1_times cX1_times 5 (some .int), .fieldLink RX3 26 "DiscCoder$Word" "sums" "[I", .fieldLink RX3 32 "DiscCoder$Word" "changes" "[I", .methodLink RX3 65 yX3_changeAt, .instanceMethod yX3_changeAt, .selects RX3 yX3_changeAt yX3_changeAt, .code yX3_changeAt cX3_changeAt 7 (some .int), .fieldLink RX3 23 "DiscCoder$Word" "locators" "[I", .methodLink RX3 72 yX3_startWeights, .instanceMethod yX3_startWeights, .selects RX3 yX3_startWeights yX3_startWeights, .code yX3_startWeights cX3_startWeights 2 none, .fieldLink RX3 35 "DiscCoder$Word" "weights" "[I", .methodLink RX3 75 yX3_addRoot, .instanceMethod yX3_addRoot, .selects RX3 yX3_addRoot yX3_addRoot, .code yX3_addRoot cX3_addRoot 3 none, .methodLink RX3 78 yX3_weightedSums, .instanceMethod yX3_weightedSums, .selects RX3 yX3_weightedSums yX3_weightedSums, .code yX3_weightedSums cX3_weightedSums 3 (some .int), .methodLink RX3 81 yX1_inverse, .static yX1_inverse, .code yX1_inverse cX1_inverse 4 (some .int), .methodLink RX1 11 yX1_times, .methodLink RX3 68 yX3_addChanges, .instanceMethod yX3_addChanges, .selects RX3 yX3_addChanges yX3_addChanges, .code yX3_addChanges cX3_addChanges 3 none, .methodLink RX3 51 yX3_isWord, .instanceMethod yX3_isWord, .selects RX3 yX3_isWord yX3_isWord, .code yX3_isWord cX3_isWord 2 (some .boolean)] ++ wsX50 ++ wsX30)
def wsL_product : List Cond := .codeWith yL_product cL_product 5 (some .int) [(0, 10, 13, 25)] :: ([.classLink RL 25 "java/lang/IllegalArgumentException", .methodLink RL 51 yX5_product, .instanceMethod yX5_product, .selects RX5 yX5_product yX5_product, .initialized RX5, .code yX5_product cX5_product 3 (some .int), .methodLink RX5 69 yX1_holds, .static yX1_holds, .initialized RX1, .code yX1_holds cX1_holds 1 (some .boolean), .methodLink RX5 133 yX1_times, .static yX1_times, .code yX1_times cX1_times 5 (some .int)])
set_option maxRecDepth 20000 in
theorem ggL_feed_X5_feed : GoodIn wsL_feed wsX5_feed := goodIn_r _ [6, 7, 8, 9, 10, 11, 12, 13, 14, 15, 16, 17, 18, 19, 20, 21, 22, 23, 24, 25, 26, 27, 28, 29, 30, 31, 32, 33, 34, 35, 36, 37, 38, 39, 40, 41, 42, 43, 44, 45, 46, 47, 48, 49, 50, 51, 52, 53, 54, 55, 56, 57, 58, 59, 60, 61, 62, 63, 64, 65, 66, 67, 68, 69, 70, 71, 72, 73, 74, 75, 76, 77, 78, 79, 80, 81, 82, 83, 84, 85, 86, 87, 88, 89, 90, 91, 92, 93, 94, 95, 96, 97, 98, 99, 100, 101, 102, 103, 104, 105, 106, 107, 108, 109, 110, 111, 112, 113, 114, 115, 116, 117, 118, 119, 120, 121, 122, 123, 124] (by decide +kernel) (by decide +kernel)
theorem gL_feed_X5_feed : GoodIn wsL_feed (wsV RL 7 RX5 yX5_feed wsX5_feed) := goodIn_app (goodIn_of _ (by decide +kernel)) ggL_feed_X5_feed
set_option maxRecDepth 20000 in
theorem ggL_symbol_X5_symbol : GoodIn wsL_symbol wsX5_symbol := goodIn_r _ [6, 7, 8, 9, 10, 11, 12, 13, 14, 15, 16, 17, 18, 19, 20] (by decide +kernel) (by decide +kernel)
theorem gL_symbol_X5_symbol : GoodIn wsL_symbol (wsV RL 15 RX5 yX5_symbol wsX5_symbol) := goodIn_app (goodIn_of _ (by decide +kernel)) ggL_symbol_X5_symbol
set_option maxRecDepth 20000 in
theorem ggL_scratch_X5_scratch : GoodIn wsL_scratch wsX5_scratch := goodIn_r _ [8, 9, 10, 11, 12, 13, 14, 15, 16, 17, 18, 19, 20, 21, 22, 23, 24, 25, 26] (by decide +kernel) (by decide +kernel)
theorem gL_scratch_X5_scratch : GoodIn wsL_scratch (wsV RL 21 RX5 yX5_scratch wsX5_scratch) := goodIn_app (goodIn_of _ (by decide +kernel)) ggL_scratch_X5_scratch
set_option maxRecDepth 20000 in
theorem ggL_burst_X5_burst : GoodIn wsL_burst wsX5_burst := goodIn_r _ [8, 9, 10, 11, 12, 13, 14, 15, 16, 17, 18, 19, 20] (by decide +kernel) (by decide +kernel)
theorem gL_burst_X5_burst : GoodIn wsL_burst (wsV RL 27 RX5 yX5_burst wsX5_burst) := goodIn_app (goodIn_of _ (by decide +kernel)) ggL_burst_X5_burst
set_option maxRecDepth 20000 in
theorem ggL_read_X5_read : GoodIn wsL_read wsX5_read := goodIn_r _ [6, 7, 8, 9, 10, 11, 12, 13, 14, 15, 16, 17, 18, 19, 20, 21, 22, 23, 24, 25, 26, 27, 28, 29, 30, 31, 32, 33, 34, 35, 36, 37, 38, 39, 40, 41, 42, 43, 44, 45, 46, 47, 48, 49, 50, 51, 52, 53, 54, 55, 56, 57, 58, 59, 60, 61, 62, 63, 64, 65, 66, 67, 68, 69, 70, 71, 72, 73, 74, 75, 76, 77, 78, 79, 80, 81, 82, 83, 84, 85, 86, 87, 88, 89, 90, 91, 92, 93, 94, 95, 96, 97, 98, 99, 100, 101, 102, 103, 104, 105, 106, 107, 108, 109, 110, 111, 112, 113, 114, 115, 116, 117, 118, 119, 120, 121, 122, 123, 124, 125, 126, 127, 128, 129, 130, 131, 132, 133, 134, 135, 136, 137, 138, 139, 140, 141, 142, 143, 144, 145, 146, 147] (by decide +kernel) (by decide +kernel)
theorem gL_read_X5_read : GoodIn wsL_read (wsV RL 30 RX5 yX5_read wsX5_read) := goodIn_app (goodIn_of _ (by decide +kernel)) ggL_read_X5_read
set_option maxRecDepth 20000 in
theorem ggL_out_X5_out : GoodIn wsL_out wsX5_out := goodIn_r _ [6, 7, 8, 9, 10, 11, 12, 13, 14, 15, 16, 17, 18, 19, 20, 21, 22, 23, 24, 25, 26] (by decide +kernel) (by decide +kernel)
theorem gL_out_X5_out : GoodIn wsL_out (wsV RL 36 RX5 yX5_out wsX5_out) := goodIn_app (goodIn_of _ (by decide +kernel)) ggL_out_X5_out
set_option maxRecDepth 20000 in
theorem ggL_flagged_X5_flagged : GoodIn wsL_flagged wsX5_flagged := goodIn_r _ [6, 7, 8, 9, 10, 11, 12, 13, 14, 15, 16, 17, 18, 19, 20, 21, 22, 23, 24, 25, 26] (by decide +kernel) (by decide +kernel)
theorem gL_flagged_X5_flagged : GoodIn wsL_flagged (wsV RL 40 RX5 yX5_flagged wsX5_flagged) := goodIn_app (goodIn_of _ (by decide +kernel)) ggL_flagged_X5_flagged
set_option maxRecDepth 20000 in
theorem ggL_figure_X5_figure : GoodIn wsL_figure wsX5_figure := goodIn_r _ [6, 7, 8, 9, 10, 11, 12, 13, 14, 15, 16, 17, 18, 19, 20, 21, 22, 23, 24, 25, 26] (by decide +kernel) (by decide +kernel)
theorem gL_figure_X5_figure : GoodIn wsL_figure (wsV RL 44 RX5 yX5_figure wsX5_figure) := goodIn_app (goodIn_of _ (by decide +kernel)) ggL_figure_X5_figure
set_option maxRecDepth 20000 in
theorem ggL_check_X5_check : GoodIn wsL_check wsX5_check := goodIn_r _ [6, 7, 8, 9, 10, 11, 12, 13, 14, 15, 16, 17, 18, 19, 20, 21, 22, 23, 24, 25, 26, 27, 28, 29, 30, 31, 32, 33, 34, 35, 36, 37, 38, 39, 40, 41, 42, 43, 44, 45, 46, 47, 48, 49, 50, 51, 52, 53, 54, 55, 56, 57, 58, 59, 60, 61, 62, 63, 64, 65, 66, 67, 68, 69, 70, 71, 72, 73, 74, 75, 76, 77, 78, 79, 80, 81, 82, 83, 84] (by decide +kernel) (by decide +kernel)
theorem gL_check_X5_check : GoodIn wsL_check (wsV RL 47 RX5 yX5_check wsX5_check) := goodIn_app (goodIn_of _ (by decide +kernel)) ggL_check_X5_check
set_option maxRecDepth 20000 in
theorem ggL_product_X5_product : GoodIn wsL_product wsX5_product := goodIn_r _ [6, 7, 8, 9, 10, 11, 12, 13] (by decide +kernel) (by decide +kernel)
theorem gL_product_X5_product : GoodIn wsL_product (wsV RL 51 RX5 yX5_product wsX5_product) := goodIn_app (goodIn_of _ (by decide +kernel)) ggL_product_X5_product
theorem dL_feed_0 : decode cL_feed 0 = .ok (.aload_n 3, 1) := by decide +kernel
theorem dL_feed_1 : decode cL_feed 1 = .ok (.iconst 0, 1) := by decide +kernel
theorem dL_feed_2 : decode cL_feed 2 = .ok (.aload_n 0, 1) := by decide +kernel
theorem dL_feed_3 : decode cL_feed 3 = .ok (.lload_n 1, 1) := by decide +kernel
theorem dL_feed_4 : decode cL_feed 4 = .ok (.invokevirtual 7, 3) := by decide +kernel
theorem dL_feed_7 : decode cL_feed 7 = .ok (.i2l, 1) := by decide +kernel
theorem dL_feed_8 : decode cL_feed 8 = .ok (.lastore, 1) := by decide +kernel
theorem dL_feed_9 : decode cL_feed 9 = .ok (.goto 7, 3) := by decide +kernel
theorem dL_feed_12 : decode cL_feed 12 = .ok (.astore 4, 2) := by decide +kernel
theorem dL_feed_14 : decode cL_feed 14 = .ok (.iconst 1, 1) := by decide +kernel
theorem dL_feed_15 : decode cL_feed 15 = .ok (.ireturn, 1) := by decide +kernel
theorem dL_feed_16 : decode cL_feed 16 = .ok (.iconst 0, 1) := by decide +kernel
theorem dL_feed_17 : decode cL_feed 17 = .ok (.ireturn, 1) := by decide +kernel
theorem dL_symbol_0 : decode cL_symbol 0 = .ok (.aload_n 3, 1) := by decide +kernel
theorem dL_symbol_1 : decode cL_symbol 1 = .ok (.iconst 0, 1) := by decide +kernel
theorem dL_symbol_2 : decode cL_symbol 2 = .ok (.aload_n 0, 1) := by decide +kernel
theorem dL_symbol_3 : decode cL_symbol 3 = .ok (.iload_n 1, 1) := by decide +kernel
theorem dL_symbol_4 : decode cL_symbol 4 = .ok (.iload_n 2, 1) := by decide +kernel
theorem dL_symbol_5 : decode cL_symbol 5 = .ok (.invokevirtual 15, 3) := by decide +kernel
theorem dL_symbol_8 : decode cL_symbol 8 = .ok (.i2l, 1) := by decide +kernel
theorem dL_symbol_9 : decode cL_symbol 9 = .ok (.lastore, 1) := by decide +kernel
theorem dL_symbol_10 : decode cL_symbol 10 = .ok (.goto 7, 3) := by decide +kernel
theorem dL_symbol_13 : decode cL_symbol 13 = .ok (.astore 4, 2) := by decide +kernel
theorem dL_symbol_15 : decode cL_symbol 15 = .ok (.iconst 1, 1) := by decide +kernel
theorem dL_symbol_16 : decode cL_symbol 16 = .ok (.ireturn, 1) := by decide +kernel
theorem dL_symbol_17 : decode cL_symbol 17 = .ok (.iconst 0, 1) := by decide +kernel
theorem dL_symbol_18 : decode cL_symbol 18 = .ok (.ireturn, 1) := by decide +kernel
theorem dL_scratch_0 : decode cL_scratch 0 = .ok (.aload_n 0, 1) := by decide +kernel
theorem dL_scratch_1 : decode cL_scratch 1 = .ok (.iload_n 1, 1) := by decide +kernel
theorem dL_scratch_2 : decode cL_scratch 2 = .ok (.iload_n 2, 1) := by decide +kernel
theorem dL_scratch_3 : decode cL_scratch 3 = .ok (.iload_n 3, 1) := by decide +kernel
theorem dL_scratch_4 : decode cL_scratch 4 = .ok (.invokevirtual 21, 3) := by decide +kernel
theorem dL_scratch_7 : decode cL_scratch 7 = .ok (.goto 15, 3) := by decide +kernel
theorem dL_scratch_10 : decode cL_scratch 10 = .ok (.astore 4, 2) := by decide +kernel
theorem dL_scratch_12 : decode cL_scratch 12 = .ok (.iconst 1, 1) := by decide +kernel
theorem dL_scratch_13 : decode cL_scratch 13 = .ok (.ireturn, 1) := by decide +kernel
theorem dL_scratch_14 : decode cL_scratch 14 = .ok (.astore 4, 2) := by decide +kernel
theorem dL_scratch_16 : decode cL_scratch 16 = .ok (.iconst 2, 1) := by decide +kernel
theorem dL_scratch_17 : decode cL_scratch 17 = .ok (.ireturn, 1) := by decide +kernel
theorem dL_scratch_18 : decode cL_scratch 18 = .ok (.astore 4, 2) := by decide +kernel
theorem dL_scratch_20 : decode cL_scratch 20 = .ok (.iconst 3, 1) := by decide +kernel
theorem dL_scratch_21 : decode cL_scratch 21 = .ok (.ireturn, 1) := by decide +kernel
theorem dL_scratch_22 : decode cL_scratch 22 = .ok (.iconst 0, 1) := by decide +kernel
theorem dL_scratch_23 : decode cL_scratch 23 = .ok (.ireturn, 1) := by decide +kernel
theorem dL_burst_0 : decode cL_burst 0 = .ok (.aload_n 0, 1) := by decide +kernel
theorem dL_burst_1 : decode cL_burst 1 = .ok (.iload_n 1, 1) := by decide +kernel
theorem dL_burst_2 : decode cL_burst 2 = .ok (.iload_n 2, 1) := by decide +kernel
theorem dL_burst_3 : decode cL_burst 3 = .ok (.iload_n 3, 1) := by decide +kernel
theorem dL_burst_4 : decode cL_burst 4 = .ok (.invokevirtual 27, 3) := by decide +kernel
theorem dL_burst_7 : decode cL_burst 7 = .ok (.goto 15, 3) := by decide +kernel
theorem dL_burst_10 : decode cL_burst 10 = .ok (.astore 4, 2) := by decide +kernel
theorem dL_burst_12 : decode cL_burst 12 = .ok (.iconst 1, 1) := by decide +kernel
theorem dL_burst_13 : decode cL_burst 13 = .ok (.ireturn, 1) := by decide +kernel
theorem dL_burst_14 : decode cL_burst 14 = .ok (.astore 4, 2) := by decide +kernel
theorem dL_burst_16 : decode cL_burst 16 = .ok (.iconst 2, 1) := by decide +kernel
theorem dL_burst_17 : decode cL_burst 17 = .ok (.ireturn, 1) := by decide +kernel
theorem dL_burst_18 : decode cL_burst 18 = .ok (.astore 4, 2) := by decide +kernel
theorem dL_burst_20 : decode cL_burst 20 = .ok (.iconst 3, 1) := by decide +kernel
theorem dL_burst_21 : decode cL_burst 21 = .ok (.ireturn, 1) := by decide +kernel
theorem dL_burst_22 : decode cL_burst 22 = .ok (.iconst 0, 1) := by decide +kernel
theorem dL_burst_23 : decode cL_burst 23 = .ok (.ireturn, 1) := by decide +kernel
theorem dL_read_0 : decode cL_read 0 = .ok (.aload_n 1, 1) := by decide +kernel
theorem dL_read_1 : decode cL_read 1 = .ok (.iconst 0, 1) := by decide +kernel
theorem dL_read_2 : decode cL_read 2 = .ok (.aload_n 0, 1) := by decide +kernel
theorem dL_read_3 : decode cL_read 3 = .ok (.invokevirtual 30, 3) := by decide +kernel
theorem dL_read_6 : decode cL_read 6 = .ok (.i2l, 1) := by decide +kernel
theorem dL_read_7 : decode cL_read 7 = .ok (.lastore, 1) := by decide +kernel
theorem dL_read_8 : decode cL_read 8 = .ok (.goto 6, 3) := by decide +kernel
theorem dL_read_11 : decode cL_read 11 = .ok (.astore_n 2, 1) := by decide +kernel
theorem dL_read_12 : decode cL_read 12 = .ok (.iconst 1, 1) := by decide +kernel
theorem dL_read_13 : decode cL_read 13 = .ok (.ireturn, 1) := by decide +kernel
theorem dL_read_14 : decode cL_read 14 = .ok (.iconst 0, 1) := by decide +kernel
theorem dL_read_15 : decode cL_read 15 = .ok (.ireturn, 1) := by decide +kernel
theorem dL_out_0 : decode cL_out 0 = .ok (.aload_n 2, 1) := by decide +kernel
theorem dL_out_1 : decode cL_out 1 = .ok (.iconst 0, 1) := by decide +kernel
theorem dL_out_2 : decode cL_out 2 = .ok (.aload_n 0, 1) := by decide +kernel
theorem dL_out_3 : decode cL_out 3 = .ok (.iload_n 1, 1) := by decide +kernel
theorem dL_out_4 : decode cL_out 4 = .ok (.invokevirtual 36, 3) := by decide +kernel
theorem dL_out_7 : decode cL_out 7 = .ok (.i2l, 1) := by decide +kernel
theorem dL_out_8 : decode cL_out 8 = .ok (.lastore, 1) := by decide +kernel
theorem dL_out_9 : decode cL_out 9 = .ok (.goto 6, 3) := by decide +kernel
theorem dL_out_12 : decode cL_out 12 = .ok (.astore_n 3, 1) := by decide +kernel
theorem dL_out_13 : decode cL_out 13 = .ok (.iconst 1, 1) := by decide +kernel
theorem dL_out_14 : decode cL_out 14 = .ok (.ireturn, 1) := by decide +kernel
theorem dL_out_15 : decode cL_out 15 = .ok (.iconst 0, 1) := by decide +kernel
theorem dL_out_16 : decode cL_out 16 = .ok (.ireturn, 1) := by decide +kernel
theorem dL_flagged_0 : decode cL_flagged 0 = .ok (.aload_n 2, 1) := by decide +kernel
theorem dL_flagged_1 : decode cL_flagged 1 = .ok (.iconst 0, 1) := by decide +kernel
theorem dL_flagged_2 : decode cL_flagged 2 = .ok (.aload_n 0, 1) := by decide +kernel
theorem dL_flagged_3 : decode cL_flagged 3 = .ok (.iload_n 1, 1) := by decide +kernel
theorem dL_flagged_4 : decode cL_flagged 4 = .ok (.invokevirtual 40, 3) := by decide +kernel
theorem dL_flagged_7 : decode cL_flagged 7 = .ok (.ifCond .eq 7, 3) := by decide +kernel
theorem dL_flagged_10 : decode cL_flagged 10 = .ok (.lconst 1, 1) := by decide +kernel
theorem dL_flagged_11 : decode cL_flagged 11 = .ok (.goto 4, 3) := by decide +kernel
theorem dL_flagged_14 : decode cL_flagged 14 = .ok (.lconst 0, 1) := by decide +kernel
theorem dL_flagged_15 : decode cL_flagged 15 = .ok (.lastore, 1) := by decide +kernel
theorem dL_flagged_16 : decode cL_flagged 16 = .ok (.goto 6, 3) := by decide +kernel
theorem dL_flagged_19 : decode cL_flagged 19 = .ok (.astore_n 3, 1) := by decide +kernel
theorem dL_flagged_20 : decode cL_flagged 20 = .ok (.iconst 1, 1) := by decide +kernel
theorem dL_flagged_21 : decode cL_flagged 21 = .ok (.ireturn, 1) := by decide +kernel
theorem dL_flagged_22 : decode cL_flagged 22 = .ok (.iconst 0, 1) := by decide +kernel
theorem dL_flagged_23 : decode cL_flagged 23 = .ok (.ireturn, 1) := by decide +kernel
theorem dL_figure_0 : decode cL_figure 0 = .ok (.aload_n 2, 1) := by decide +kernel
theorem dL_figure_1 : decode cL_figure 1 = .ok (.iconst 0, 1) := by decide +kernel
theorem dL_figure_2 : decode cL_figure 2 = .ok (.aload_n 0, 1) := by decide +kernel
theorem dL_figure_3 : decode cL_figure 3 = .ok (.iload_n 1, 1) := by decide +kernel
theorem dL_figure_4 : decode cL_figure 4 = .ok (.invokevirtual 44, 3) := by decide +kernel
theorem dL_figure_7 : decode cL_figure 7 = .ok (.i2l, 1) := by decide +kernel
theorem dL_figure_8 : decode cL_figure 8 = .ok (.lastore, 1) := by decide +kernel
theorem dL_figure_9 : decode cL_figure 9 = .ok (.goto 6, 3) := by decide +kernel
theorem dL_figure_12 : decode cL_figure 12 = .ok (.astore_n 3, 1) := by decide +kernel
theorem dL_figure_13 : decode cL_figure 13 = .ok (.iconst 1, 1) := by decide +kernel
theorem dL_figure_14 : decode cL_figure 14 = .ok (.ireturn, 1) := by decide +kernel
theorem dL_figure_15 : decode cL_figure 15 = .ok (.iconst 0, 1) := by decide +kernel
theorem dL_figure_16 : decode cL_figure 16 = .ok (.ireturn, 1) := by decide +kernel
theorem dL_check_0 : decode cL_check 0 = .ok (.aload 4, 2) := by decide +kernel
theorem dL_check_2 : decode cL_check 2 = .ok (.iconst 0, 1) := by decide +kernel
theorem dL_check_3 : decode cL_check 3 = .ok (.aload_n 0, 1) := by decide +kernel
theorem dL_check_4 : decode cL_check 4 = .ok (.lload_n 1, 1) := by decide +kernel
theorem dL_check_5 : decode cL_check 5 = .ok (.iload_n 3, 1) := by decide +kernel
theorem dL_check_6 : decode cL_check 6 = .ok (.invokevirtual 47, 3) := by decide +kernel
theorem dL_check_9 : decode cL_check 9 = .ok (.i2l, 1) := by decide +kernel
theorem dL_check_10 : decode cL_check 10 = .ok (.lastore, 1) := by decide +kernel
theorem dL_check_11 : decode cL_check 11 = .ok (.goto 7, 3) := by decide +kernel
theorem dL_check_14 : decode cL_check 14 = .ok (.astore 5, 2) := by decide +kernel
theorem dL_check_16 : decode cL_check 16 = .ok (.iconst 1, 1) := by decide +kernel
theorem dL_check_17 : decode cL_check 17 = .ok (.ireturn, 1) := by decide +kernel
theorem dL_check_18 : decode cL_check 18 = .ok (.iconst 0, 1) := by decide +kernel
theorem dL_check_19 : decode cL_check 19 = .ok (.ireturn, 1) := by decide +kernel
theorem dL_product_0 : decode cL_product 0 = .ok (.aload_n 3, 1) := by decide +kernel
theorem dL_product_1 : decode cL_product 1 = .ok (.iconst 0, 1) := by decide +kernel
theorem dL_product_2 : decode cL_product 2 = .ok (.aload_n 0, 1) := by decide +kernel
theorem dL_product_3 : decode cL_product 3 = .ok (.iload_n 1, 1) := by decide +kernel
theorem dL_product_4 : decode cL_product 4 = .ok (.iload_n 2, 1) := by decide +kernel
theorem dL_product_5 : decode cL_product 5 = .ok (.invokevirtual 51, 3) := by decide +kernel
theorem dL_product_8 : decode cL_product 8 = .ok (.i2l, 1) := by decide +kernel
theorem dL_product_9 : decode cL_product 9 = .ok (.lastore, 1) := by decide +kernel
theorem dL_product_10 : decode cL_product 10 = .ok (.goto 7, 3) := by decide +kernel
theorem dL_product_13 : decode cL_product 13 = .ok (.astore 4, 2) := by decide +kernel
theorem dL_product_15 : decode cL_product 15 = .ok (.iconst 1, 1) := by decide +kernel
theorem dL_product_16 : decode cL_product 16 = .ok (.ireturn, 1) := by decide +kernel
theorem dL_product_17 : decode cL_product 17 = .ok (.iconst 0, 1) := by decide +kernel
theorem dL_product_18 : decode cL_product 18 = .ok (.ireturn, 1) := by decide +kernel
