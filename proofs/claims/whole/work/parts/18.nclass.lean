def wsX0_init : List Cond := .code yX0_init cX0_init 1 none :: ([.methodLink RX0 3 objectInit, .instanceMethod objectInit, .code objectInit ⟨#[0xb1]⟩ 1 none, .arrayClass .int, .fieldLink RX0 9 "DiscCoder$Disc" "symbols" "[I"] ++ wsX00)
def wsX0_has : List Cond := .code yX0_has cX0_has 3 (some .boolean) :: ([.fieldLink RX0 15 "DiscCoder$Disc" "rowsWritten" "I"] ++ wsX00)
def wsX0_setPlain : List Cond := .code yX0_setPlain cX0_setPlain 4 none :: ([.fieldLink RX0 9 "DiscCoder$Disc" "symbols" "[I", .methodLink RX0 19 yX0_turned, .static yX0_turned, .initialized RX0, .code yX0_turned cX0_turned 2 (some .int)] ++ wsX00)
def wsX0_getPlain : List Cond := .code yX0_getPlain cX0_getPlain 3 (some .int) :: ([.methodLink RX0 23 yX0_has, .instanceMethod yX0_has, .selects RX0 yX0_has yX0_has, .initialized RX0, .code yX0_has cX0_has 3 (some .boolean), .fieldLink RX0 15 "DiscCoder$Disc" "rowsWritten" "I", .fieldLink RX0 9 "DiscCoder$Disc" "symbols" "[I", .methodLink RX0 19 yX0_turned, .static yX0_turned, .code yX0_turned cX0_turned 2 (some .int)] ++ wsX00)
def wsX0_turned : List Cond := .code yX0_turned cX0_turned 2 (some .int) :: ([])
set_option maxRecDepth 20000 in
theorem ggX0_setPlain_X0_turned : GoodIn wsX0_setPlain wsX0_turned := goodIn_r _ [5] (by decide +kernel) (by decide +kernel)
theorem gX0_setPlain_X0_turned : GoodIn wsX0_setPlain (va_wsS RX0 19 yX0_turned wsX0_turned) := goodIn_app (goodIn_of _ (by decide +kernel)) ggX0_setPlain_X0_turned
set_option maxRecDepth 20000 in
theorem ggX0_getPlain_X0_has : GoodIn wsX0_getPlain wsX0_has := goodIn_r _ [5, 6, 11, 12, 13] (by decide +kernel) (by decide +kernel)
theorem gX0_getPlain_X0_has : GoodIn wsX0_getPlain (wsV RX0 23 RX0 yX0_has wsX0_has) := goodIn_app (goodIn_of _ (by decide +kernel)) ggX0_getPlain_X0_has
set_option maxRecDepth 20000 in
theorem ggX0_getPlain_X0_turned : GoodIn wsX0_getPlain wsX0_turned := goodIn_r _ [10] (by decide +kernel) (by decide +kernel)
theorem gX0_getPlain_X0_turned : GoodIn wsX0_getPlain (va_wsS RX0 19 yX0_turned wsX0_turned) := goodIn_app (goodIn_of _ (by decide +kernel)) ggX0_getPlain_X0_turned
theorem dX0_init_0 : decode cX0_init 0 = .ok (.aload_n 0, 1) := by decide +kernel
theorem dX0_init_1 : decode cX0_init 1 = .ok (.invokespecial 3, 3) := by decide +kernel
theorem dX0_init_4 : decode cX0_init 4 = .ok (.aload_n 0, 1) := by decide +kernel
theorem dX0_init_5 : decode cX0_init 5 = .ok (.sipush 768, 3) := by decide +kernel
theorem dX0_init_8 : decode cX0_init 8 = .ok (.newarray .int, 2) := by decide +kernel
theorem dX0_init_10 : decode cX0_init 10 = .ok (.putfield 9, 3) := by decide +kernel
theorem dX0_init_13 : decode cX0_init 13 = .ok (.return_, 1) := by decide +kernel
theorem dX0_has_0 : decode cX0_has 0 = .ok (.iload_n 1, 1) := by decide +kernel
theorem dX0_has_1 : decode cX0_has 1 = .ok (.ifCond .lt 25, 3) := by decide +kernel
theorem dX0_has_4 : decode cX0_has 4 = .ok (.iload_n 1, 1) := by decide +kernel
theorem dX0_has_5 : decode cX0_has 5 = .ok (.aload_n 0, 1) := by decide +kernel
theorem dX0_has_6 : decode cX0_has 6 = .ok (.getfield 15, 3) := by decide +kernel
theorem dX0_has_9 : decode cX0_has 9 = .ok (.if_icmp .ge 17, 3) := by decide +kernel
theorem dX0_has_12 : decode cX0_has 12 = .ok (.iload_n 2, 1) := by decide +kernel
theorem dX0_has_13 : decode cX0_has 13 = .ok (.ifCond .lt 13, 3) := by decide +kernel
theorem dX0_has_16 : decode cX0_has 16 = .ok (.iload_n 2, 1) := by decide +kernel
theorem dX0_has_17 : decode cX0_has 17 = .ok (.bipush 16, 2) := by decide +kernel
theorem dX0_has_19 : decode cX0_has 19 = .ok (.if_icmp .ge 7, 3) := by decide +kernel
theorem dX0_has_22 : decode cX0_has 22 = .ok (.iconst 1, 1) := by decide +kernel
theorem dX0_has_23 : decode cX0_has 23 = .ok (.goto 4, 3) := by decide +kernel
theorem dX0_has_26 : decode cX0_has 26 = .ok (.iconst 0, 1) := by decide +kernel
theorem dX0_has_27 : decode cX0_has 27 = .ok (.ireturn, 1) := by decide +kernel
theorem dX0_setPlain_0 : decode cX0_setPlain 0 = .ok (.aload_n 0, 1) := by decide +kernel
theorem dX0_setPlain_1 : decode cX0_setPlain 1 = .ok (.getfield 9, 3) := by decide +kernel
theorem dX0_setPlain_4 : decode cX0_setPlain 4 = .ok (.iload_n 1, 1) := by decide +kernel
theorem dX0_setPlain_5 : decode cX0_setPlain 5 = .ok (.bipush 16, 2) := by decide +kernel
theorem dX0_setPlain_7 : decode cX0_setPlain 7 = .ok (.imul, 1) := by decide +kernel
theorem dX0_setPlain_8 : decode cX0_setPlain 8 = .ok (.iload_n 2, 1) := by decide +kernel
theorem dX0_setPlain_9 : decode cX0_setPlain 9 = .ok (.iadd, 1) := by decide +kernel
theorem dX0_setPlain_10 : decode cX0_setPlain 10 = .ok (.iload_n 2, 1) := by decide +kernel
theorem dX0_setPlain_11 : decode cX0_setPlain 11 = .ok (.iload_n 3, 1) := by decide +kernel
theorem dX0_setPlain_12 : decode cX0_setPlain 12 = .ok (.invokestatic 19, 3) := by decide +kernel
theorem dX0_setPlain_15 : decode cX0_setPlain 15 = .ok (.iastore, 1) := by decide +kernel
theorem dX0_setPlain_16 : decode cX0_setPlain 16 = .ok (.return_, 1) := by decide +kernel
theorem dX0_getPlain_0 : decode cX0_getPlain 0 = .ok (.aload_n 0, 1) := by decide +kernel
theorem dX0_getPlain_1 : decode cX0_getPlain 1 = .ok (.iload_n 1, 1) := by decide +kernel
theorem dX0_getPlain_2 : decode cX0_getPlain 2 = .ok (.iload_n 2, 1) := by decide +kernel
theorem dX0_getPlain_3 : decode cX0_getPlain 3 = .ok (.invokevirtual 23, 3) := by decide +kernel
theorem dX0_getPlain_6 : decode cX0_getPlain 6 = .ok (.ifCond .eq 21, 3) := by decide +kernel
theorem dX0_getPlain_9 : decode cX0_getPlain 9 = .ok (.iload_n 2, 1) := by decide +kernel
theorem dX0_getPlain_10 : decode cX0_getPlain 10 = .ok (.aload_n 0, 1) := by decide +kernel
theorem dX0_getPlain_11 : decode cX0_getPlain 11 = .ok (.getfield 9, 3) := by decide +kernel
theorem dX0_getPlain_14 : decode cX0_getPlain 14 = .ok (.iload_n 1, 1) := by decide +kernel
theorem dX0_getPlain_15 : decode cX0_getPlain 15 = .ok (.bipush 16, 2) := by decide +kernel
theorem dX0_getPlain_17 : decode cX0_getPlain 17 = .ok (.imul, 1) := by decide +kernel
theorem dX0_getPlain_18 : decode cX0_getPlain 18 = .ok (.iload_n 2, 1) := by decide +kernel
theorem dX0_getPlain_19 : decode cX0_getPlain 19 = .ok (.iadd, 1) := by decide +kernel
theorem dX0_getPlain_20 : decode cX0_getPlain 20 = .ok (.iaload, 1) := by decide +kernel
theorem dX0_getPlain_21 : decode cX0_getPlain 21 = .ok (.invokestatic 19, 3) := by decide +kernel
theorem dX0_getPlain_24 : decode cX0_getPlain 24 = .ok (.goto 4, 3) := by decide +kernel
theorem dX0_getPlain_27 : decode cX0_getPlain 27 = .ok (.iconst 0, 1) := by decide +kernel
theorem dX0_getPlain_28 : decode cX0_getPlain 28 = .ok (.ireturn, 1) := by decide +kernel
theorem dX0_turned_0 : decode cX0_turned 0 = .ok (.iload_n 0, 1) := by decide +kernel
theorem dX0_turned_1 : decode cX0_turned 1 = .ok (.bipush 8, 2) := by decide +kernel
theorem dX0_turned_3 : decode cX0_turned 3 = .ok (.if_icmp .ge 7, 3) := by decide +kernel
theorem dX0_turned_6 : decode cX0_turned 6 = .ok (.iload_n 1, 1) := by decide +kernel
theorem dX0_turned_7 : decode cX0_turned 7 = .ok (.goto 8, 3) := by decide +kernel
theorem dX0_turned_10 : decode cX0_turned 10 = .ok (.sipush 255, 3) := by decide +kernel
theorem dX0_turned_13 : decode cX0_turned 13 = .ok (.iload_n 1, 1) := by decide +kernel
theorem dX0_turned_14 : decode cX0_turned 14 = .ok (.isub, 1) := by decide +kernel
theorem dX0_turned_15 : decode cX0_turned 15 = .ok (.ireturn, 1) := by decide +kernel
def wsX4_init : List Cond := .code yX4_init cX4_init 4 none :: ([.methodLink RX4 3 objectInit, .instanceMethod objectInit, .code objectInit ⟨#[0xb1]⟩ 1 none, .fieldLink RX4 9 "DiscCoder$Writer" "disc" "LDiscCoder$Disc;", .fieldLink RX4 15 "DiscCoder$Writer" "inner" "LDiscCoder$Word;", .fieldLink RX4 19 "DiscCoder$Writer" "outer" "LDiscCoder$Word;", .fieldLink RX4 24 "DiscCoder$Writer" "innerWords" "[[I", .arrayClass .int, .fieldLink RX4 27 "DiscCoder$Writer" "outerBefore" "[I"] ++ wsX40)
def wsX4_writeFrame : List Cond := .code yX4_writeFrame cX4_writeFrame 4 (some .int) :: ([.fieldLink RX4 9 "DiscCoder$Writer" "disc" "LDiscCoder$Disc;", .methodLink RX4 37 yX4_makeInner, .instanceMethod yX4_makeInner, .selects RX4 yX4_makeInner yX4_makeInner, .initialized RX4, .code yX4_makeInner cX4_makeInner 5 none, .fieldLink RX4 15 "DiscCoder$Writer" "inner" "LDiscCoder$Word;", .methodLink RX4 48 yX3_beginWith, .instanceMethod yX3_beginWith, .selects RX3 yX3_beginWith yX3_beginWith, .initialized RX3, .code yX3_beginWith cX3_beginWith 4 none, .fieldLink RX3 15 "DiscCoder$Word" "symbols" "[I", .methodLink RX4 54 yX3_makeChecks, .instanceMethod yX3_makeChecks, .selects RX3 yX3_makeChecks yX3_makeChecks, .code yX3_makeChecks cX3_makeChecks 2 none, .fieldLink RX3 9 "DiscCoder$Word" "size" "I", .fieldLink RX3 19 "DiscCoder$Word" "doubted" "[Z", .methodLink RX3 44 yX3_fillDoubted, .instanceMethod yX3_fillDoubted, .selects RX3 yX3_fillDoubted yX3_fillDoubted, .code yX3_fillDoubted cX3_fillDoubted 3 (some .boolean), .methodLink RX3 58 yX3_countDoubted, .instanceMethod yX3_countDoubted, .selects RX3 yX3_countDoubted yX3_countDoubted, .code yX3_countDoubted cX3_countDoubted 3 (some .int), .methodLink RX3 62 yX3_listDoubted, .instanceMethod yX3_listDoubted, .selects RX3 yX3_listDoubted yX3_listDoubted, .code yX3_listDoubted cX3_listDoubted 3 none, .fieldLink RX3 29 "DiscCoder$Word" "doubtedAt" "[I", .methodLink RX3 48 yX3_makeSums, .instanceMethod yX3_makeSums, .selects RX3 yX3_makeSums yX3_makeSums, .code yX3_makeSums cX3_makeSums 5 none, .methodLink RX3 38 yX1_times, .static yX1_times, .initialized RX1, .code yX1_times cX1_times 5 (some .int), .fieldLink RX3 26 "DiscCoder$Word" "sums" "[I", .fieldLink RX3 32 "DiscCoder$Word" "changes" "[I", .methodLink RX3 65 yX3_changeAt, .instanceMethod yX3_changeAt, .selects RX3 yX3_changeAt yX3_changeAt, .code yX3_changeAt cX3_changeAt 7 (some .int), .fieldLink RX3 23 "DiscCoder$Word" "locators" "[I", .methodLink RX3 72 yX3_startWeights, .instanceMethod yX3_startWeights, .selects RX3 yX3_startWeights yX3_startWeights, .code yX3_startWeights cX3_startWeights 2 none, .fieldLink RX3 35 "DiscCoder$Word" "weights" "[I", .methodLink RX3 75 yX3_addRoot, .instanceMethod yX3_addRoot, .selects RX3 yX3_addRoot yX3_addRoot, .code yX3_addRoot cX3_addRoot 3 none, .methodLink RX3 78 yX3_weightedSums, .instanceMethod yX3_weightedSums, .selects RX3 yX3_weightedSums yX3_weightedSums, .code yX3_weightedSums cX3_weightedSums 3 (some .int), .methodLink RX3 81 yX1_inverse, .static yX1_inverse, .code yX1_inverse cX1_inverse 4 (some .int), .methodLink RX1 11 yX1_times, .methodLink RX3 68 yX3_addChanges, .instanceMethod yX3_addChanges, .selects RX3 yX3_addChanges yX3_addChanges, .code yX3_addChanges cX3_addChanges 3 none, .methodLink RX3 51 yX3_isWord, .instanceMethod yX3_isWord, .selects RX3 yX3_isWord yX3_isWord, .code yX3_isWord cX3_isWord 2 (some .boolean), .fieldLink RX4 24 "DiscCoder$Writer" "innerWords" "[[I", .methodLink RX4 41 yX4_makeOuter, .instanceMethod yX4_makeOuter, .selects RX4 yX4_makeOuter yX4_makeOuter, .code yX4_makeOuter cX4_makeOuter 3 none, .fieldLink RX4 19 "DiscCoder$Writer" "outer" "LDiscCoder$Word;", .methodLink RX4 45 yX4_writeRow, .instanceMethod yX4_writeRow, .selects RX4 yX4_writeRow yX4_writeRow, .code yX4_writeRow cX4_writeRow 3 none, .fieldLink RX4 27 "DiscCoder$Writer" "outerBefore" "[I", .methodLink RX4 60 yX0_setPlain, .instanceMethod yX0_setPlain, .selects RX0 yX0_setPlain yX0_setPlain, .initialized RX0, .code yX0_setPlain cX0_setPlain 4 none, .fieldLink RX0 9 "DiscCoder$Disc" "symbols" "[I", .methodLink RX0 19 yX0_turned, .static yX0_turned, .code yX0_turned cX0_turned 2 (some .int)] ++ wsX40 ++ wsX00 ++ wsX30)
def wsX4_makeInner : List Cond := .code yX4_makeInner cX4_makeInner 5 none :: ([.fieldLink RX4 15 "DiscCoder$Writer" "inner" "LDiscCoder$Word;", .methodLink RX4 48 yX3_beginWith, .instanceMethod yX3_beginWith, .selects RX3 yX3_beginWith yX3_beginWith, .initialized RX3, .code yX3_beginWith cX3_beginWith 4 none, .fieldLink RX3 15 "DiscCoder$Word" "symbols" "[I", .methodLink RX4 54 yX3_makeChecks, .instanceMethod yX3_makeChecks, .selects RX3 yX3_makeChecks yX3_makeChecks, .code yX3_makeChecks cX3_makeChecks 2 none, .fieldLink RX3 9 "DiscCoder$Word" "size" "I", .fieldLink RX3 19 "DiscCoder$Word" "doubted" "[Z", .methodLink RX3 44 yX3_fillDoubted, .instanceMethod yX3_fillDoubted, .selects RX3 yX3_fillDoubted yX3_fillDoubted, .code yX3_fillDoubted cX3_fillDoubted 3 (some .boolean), .methodLink RX3 58 yX3_countDoubted, .instanceMethod yX3_countDoubted, .selects RX3 yX3_countDoubted yX3_countDoubted, .code yX3_countDoubted cX3_countDoubted 3 (some .int), .methodLink RX3 62 yX3_listDoubted, .instanceMethod yX3_listDoubted, .selects RX3 yX3_listDoubted yX3_listDoubted, .code yX3_listDoubted cX3_listDoubted 3 none, .fieldLink RX3 29 "DiscCoder$Word" "doubtedAt" "[I", .methodLink RX3 48 yX3_makeSums, .instanceMethod yX3_makeSums, .selects RX3 yX3_makeSums yX3_makeSums, .code yX3_makeSums cX3_makeSums 5 none, .methodLink RX3 38 yX1_times, .static yX1_times, .initialized RX1, .code yX1_times cX1_times 5 (some .int), .fieldLink RX3 26 "DiscCoder$Word" "sums" "[I", .fieldLink RX3 32 "DiscCoder$Word" "changes" "[I", .methodLink RX3 65 yX3_changeAt, .instanceMethod yX3_changeAt, .selects RX3 yX3_changeAt yX3_changeAt, .code yX3_changeAt cX3_changeAt 7 (some .int), .fieldLink RX3 23 "DiscCoder$Word" "locators" "[I", .methodLink RX3 72 yX3_startWeights, .instanceMethod yX3_startWeights, .selects RX3 yX3_startWeights yX3_startWeights, .code yX3_startWeights cX3_startWeights 2 none, .fieldLink RX3 35 "DiscCoder$Word" "weights" "[I", .methodLink RX3 75 yX3_addRoot, .instanceMethod yX3_addRoot, .selects RX3 yX3_addRoot yX3_addRoot, .code yX3_addRoot cX3_addRoot 3 none, .methodLink RX3 78 yX3_weightedSums, .instanceMethod yX3_weightedSums, .selects RX3 yX3_weightedSums yX3_weightedSums, .code yX3_weightedSums cX3_weightedSums 3 (some .int), .methodLink RX3 81 yX1_inverse, .static yX1_inverse, .code yX1_inverse cX1_inverse 4 (some .int), .methodLink RX1 11 yX1_times, .methodLink RX3 68 yX3_addChanges, .instanceMethod yX3_addChanges, .selects RX3 yX3_addChanges yX3_addChanges, .code yX3_addChanges cX3_addChanges 3 none, .methodLink RX3 51 yX3_isWord, .instanceMethod yX3_isWord, .selects RX3 yX3_isWord yX3_isWord, .code yX3_isWord cX3_isWord 2 (some .boolean), .fieldLink RX4 24 "DiscCoder$Writer" "innerWords" "[[I"] ++ wsX40 ++ wsX30)
def wsX4_makeOuter : List Cond := .code yX4_makeOuter cX4_makeOuter 3 none :: ([.fieldLink RX4 19 "DiscCoder$Writer" "outer" "LDiscCoder$Word;", .fieldLink RX4 24 "DiscCoder$Writer" "innerWords" "[[I", .methodLink RX4 54 yX3_makeChecks, .instanceMethod yX3_makeChecks, .selects RX3 yX3_makeChecks yX3_makeChecks, .initialized RX3, .code yX3_makeChecks cX3_makeChecks 2 none, .fieldLink RX3 9 "DiscCoder$Word" "size" "I", .fieldLink RX3 19 "DiscCoder$Word" "doubted" "[Z", .methodLink RX3 44 yX3_fillDoubted, .instanceMethod yX3_fillDoubted, .selects RX3 yX3_fillDoubted yX3_fillDoubted, .code yX3_fillDoubted cX3_fillDoubted 3 (some .boolean), .methodLink RX3 58 yX3_countDoubted, .instanceMethod yX3_countDoubted, .selects RX3 yX3_countDoubted yX3_countDoubted, .code yX3_countDoubted cX3_countDoubted 3 (some .int), .methodLink RX3 62 yX3_listDoubted, .instanceMethod yX3_listDoubted, .selects RX3 yX3_listDoubted yX3_listDoubted, .code yX3_listDoubted cX3_listDoubted 3 none, .fieldLink RX3 29 "DiscCoder$Word" "doubtedAt" "[I", .methodLink RX3 48 yX3_makeSums, .instanceMethod yX3_makeSums, .selects RX3 yX3_makeSums yX3_makeSums, .code yX3_makeSums cX3_makeSums 5 none, .methodLink RX3 38 yX1_times, .static yX1_times, .initialized RX1, .code yX1_times cX1_times 5 (some .int), .fieldLink RX3 15 "DiscCoder$Word" "symbols" "[I", .fieldLink RX3 26 "DiscCoder$Word" "sums" "[I", .fieldLink RX3 32 "DiscCoder$Word" "changes" "[I", .methodLink RX3 65 yX3_changeAt, .instanceMethod yX3_changeAt, .selects RX3 yX3_changeAt yX3_changeAt, .code yX3_changeAt cX3_changeAt 7 (some .int), .fieldLink RX3 23 "DiscCoder$Word" "locators" "[I", .methodLink RX3 72 yX3_startWeights, .instanceMethod yX3_startWeights, .selects RX3 yX3_startWeights yX3_startWeights, .code yX3_startWeights cX3_startWeights 2 none, .fieldLink RX3 35 "DiscCoder$Word" "weights" "[I", .methodLink RX3 75 yX3_addRoot, .instanceMethod yX3_addRoot, .selects RX3 yX3_addRoot yX3_addRoot, .code yX3_addRoot cX3_addRoot 3 none, .methodLink RX3 78 yX3_weightedSums, .instanceMethod yX3_weightedSums, .selects RX3 yX3_weightedSums yX3_weightedSums, .code yX3_weightedSums cX3_weightedSums 3 (some .int), .methodLink RX3 81 yX1_inverse, .static yX1_inverse, .code yX1_inverse cX1_inverse 4 (some .int), .methodLink RX1 11 yX1_times, .methodLink RX3 68 yX3_addChanges, .instanceMethod yX3_addChanges, .selects RX3 yX3_addChanges yX3_addChanges, .code yX3_addChanges cX3_addChanges 3 none, .methodLink RX3 51 yX3_isWord, .instanceMethod yX3_isWord, .selects RX3 yX3_isWord yX3_isWord, .code yX3_isWord cX3_isWord 2 (some .boolean)] ++ wsX40 ++ wsX30)
def wsX4_writeRow : List Cond := .code yX4_writeRow cX4_writeRow 3 none :: ([.fieldLink RX4 9 "DiscCoder$Writer" "disc" "LDiscCoder$Disc;", .fieldLink RX4 19 "DiscCoder$Writer" "outer" "LDiscCoder$Word;", .fieldLink RX4 27 "DiscCoder$Writer" "outerBefore" "[I", .methodLink RX4 60 yX0_setPlain, .instanceMethod yX0_setPlain, .selects RX0 yX0_setPlain yX0_setPlain, .initialized RX0, .code yX0_setPlain cX0_setPlain 4 none, .fieldLink RX0 9 "DiscCoder$Disc" "symbols" "[I", .methodLink RX0 19 yX0_turned, .static yX0_turned, .code yX0_turned cX0_turned 2 (some .int)] ++ wsX40 ++ wsX30 ++ wsX00)
set_option maxRecDepth 20000 in
theorem ggX4_writeFrame_X4_makeInner : GoodIn wsX4_writeFrame wsX4_makeInner := goodIn_r _ [6, 7, 8, 9, 10, 11, 12, 13, 14, 15, 16, 17, 18, 19, 20, 21, 22, 23, 24, 25, 26, 27, 28, 29, 30, 31, 32, 33, 34, 35, 36, 37, 38, 39, 40, 41, 42, 43, 44, 45, 46, 47, 48, 49, 50, 51, 52, 53, 54, 55, 56, 57, 58, 59, 60, 61, 62, 63, 64, 65, 66, 67, 68, 69, 70, 71, 72, 73, 93, 94, 95, 96, 97, 101, 102, 103, 104, 105, 106, 107, 108] (by decide +kernel) (by decide +kernel)
theorem gX4_writeFrame_X4_makeInner : GoodIn wsX4_writeFrame (wsV RX4 37 RX4 yX4_makeInner wsX4_makeInner) := goodIn_app (goodIn_of _ (by decide +kernel)) ggX4_writeFrame_X4_makeInner
set_option maxRecDepth 20000 in
theorem ggX4_writeFrame_X4_makeOuter : GoodIn wsX4_writeFrame wsX4_makeOuter := goodIn_r _ [77, 78, 73, 14, 15, 16, 11, 17, 18, 19, 20, 21, 22, 23, 24, 25, 26, 27, 28, 29, 30, 31, 32, 33, 34, 35, 36, 37, 38, 39, 40, 13, 41, 42, 43, 44, 45, 46, 47, 48, 49, 50, 51, 52, 53, 54, 55, 56, 57, 58, 59, 60, 61, 62, 63, 64, 65, 66, 67, 68, 69, 70, 71, 72, 93, 94, 95, 96, 97, 101, 102, 103, 104, 105, 106, 107, 108] (by decide +kernel) (by decide +kernel)
theorem gX4_writeFrame_X4_makeOuter : GoodIn wsX4_writeFrame (wsV RX4 41 RX4 yX4_makeOuter wsX4_makeOuter) := goodIn_app (goodIn_of _ (by decide +kernel)) ggX4_writeFrame_X4_makeOuter
set_option maxRecDepth 20000 in
theorem ggX4_writeFrame_X4_writeRow : GoodIn wsX4_writeFrame wsX4_writeRow := goodIn_r _ [82, 1, 78, 83, 84, 85, 86, 87, 88, 89, 90, 91, 92, 93, 94, 95, 96, 97, 101, 102, 103, 104, 105, 106, 107, 108, 98, 99, 100] (by decide +kernel) (by decide +kernel)
theorem gX4_writeFrame_X4_writeRow : GoodIn wsX4_writeFrame (wsV RX4 45 RX4 yX4_writeRow wsX4_writeRow) := goodIn_app (goodIn_of _ (by decide +kernel)) ggX4_writeFrame_X4_writeRow
set_option maxRecDepth 20000 in
theorem ggX4_makeInner_X3_beginWith : GoodIn wsX4_makeInner wsX3_beginWith := goodIn_r _ [6, 7, 73, 74, 75, 76, 77, 78, 79, 80] (by decide +kernel) (by decide +kernel)
theorem gX4_makeInner_X3_beginWith : GoodIn wsX4_makeInner (wsV RX4 48 RX3 yX3_beginWith wsX3_beginWith) := goodIn_app (goodIn_of _ (by decide +kernel)) ggX4_makeInner_X3_beginWith
set_option maxRecDepth 20000 in
theorem ggX4_makeInner_X3_makeChecks : GoodIn wsX4_makeInner wsX3_makeChecks := goodIn_r _ [11, 12, 13, 14, 15, 16, 5, 17, 18, 19, 20, 21, 22, 23, 24, 25, 26, 27, 28, 29, 30, 31, 32, 33, 34, 7, 35, 36, 37, 38, 39, 40, 41, 42, 43, 44, 45, 46, 47, 48, 49, 50, 51, 52, 53, 54, 55, 56, 57, 58, 59, 60, 61, 62, 63, 64, 65, 66, 73, 74, 75, 76, 77, 78, 79, 80] (by decide +kernel) (by decide +kernel)
theorem gX4_makeInner_X3_makeChecks : GoodIn wsX4_makeInner (wsV RX4 54 RX3 yX3_makeChecks wsX3_makeChecks) := goodIn_app (goodIn_of _ (by decide +kernel)) ggX4_makeInner_X3_makeChecks
set_option maxRecDepth 20000 in
theorem ggX4_makeOuter_X3_makeChecks : GoodIn wsX4_makeOuter wsX3_makeChecks := goodIn_r _ [7, 8, 9, 10, 11, 12, 6, 13, 14, 15, 16, 17, 18, 19, 20, 21, 22, 23, 24, 25, 26, 27, 28, 29, 30, 31, 32, 33, 34, 35, 36, 37, 38, 39, 40, 41, 42, 43, 44, 45, 46, 47, 48, 49, 50, 51, 52, 53, 54, 55, 56, 57, 58, 59, 60, 61, 62, 63, 69, 70, 71, 72, 73, 74, 75, 76] (by decide +kernel) (by decide +kernel)
theorem gX4_makeOuter_X3_makeChecks : GoodIn wsX4_makeOuter (wsV RX4 54 RX3 yX3_makeChecks wsX3_makeChecks) := goodIn_app (goodIn_of _ (by decide +kernel)) ggX4_makeOuter_X3_makeChecks
set_option maxRecDepth 20000 in
theorem ggX4_writeRow_X0_setPlain : GoodIn wsX4_writeRow wsX0_setPlain := goodIn_r _ [8, 9, 10, 11, 7, 12, 26, 27, 28] (by decide +kernel) (by decide +kernel)
theorem gX4_writeRow_X0_setPlain : GoodIn wsX4_writeRow (wsV RX4 60 RX0 yX0_setPlain wsX0_setPlain) := goodIn_app (goodIn_of _ (by decide +kernel)) ggX4_writeRow_X0_setPlain
theorem dX4_init_0 : decode cX4_init 0 = .ok (.aload_n 0, 1) := by decide +kernel
theorem dX4_init_1 : decode cX4_init 1 = .ok (.invokespecial 3, 3) := by decide +kernel
theorem dX4_init_4 : decode cX4_init 4 = .ok (.aload_n 0, 1) := by decide +kernel
theorem dX4_init_5 : decode cX4_init 5 = .ok (.aload_n 1, 1) := by decide +kernel
theorem dX4_init_6 : decode cX4_init 6 = .ok (.putfield 9, 3) := by decide +kernel
theorem dX4_init_9 : decode cX4_init 9 = .ok (.aload_n 0, 1) := by decide +kernel
theorem dX4_init_10 : decode cX4_init 10 = .ok (.aload_n 2, 1) := by decide +kernel
theorem dX4_init_11 : decode cX4_init 11 = .ok (.putfield 15, 3) := by decide +kernel
theorem dX4_init_14 : decode cX4_init 14 = .ok (.aload_n 0, 1) := by decide +kernel
theorem dX4_init_15 : decode cX4_init 15 = .ok (.aload_n 3, 1) := by decide +kernel
theorem dX4_init_16 : decode cX4_init 16 = .ok (.putfield 19, 3) := by decide +kernel
theorem dX4_init_19 : decode cX4_init 19 = .ok (.aload_n 0, 1) := by decide +kernel
theorem dX4_init_20 : decode cX4_init 20 = .ok (.bipush 48, 2) := by decide +kernel
theorem dX4_init_22 : decode cX4_init 22 = .ok (.bipush 12, 2) := by decide +kernel
theorem dX4_init_24 : decode cX4_init 24 = .ok (.multianewarray 22 2, 4) := by decide +kernel
theorem dX4_init_28 : decode cX4_init 28 = .ok (.putfield 24, 3) := by decide +kernel
theorem dX4_init_31 : decode cX4_init 31 = .ok (.aload_n 0, 1) := by decide +kernel
theorem dX4_init_32 : decode cX4_init 32 = .ok (.bipush 16, 2) := by decide +kernel
theorem dX4_init_34 : decode cX4_init 34 = .ok (.newarray .int, 2) := by decide +kernel
theorem dX4_init_36 : decode cX4_init 36 = .ok (.putfield 27, 3) := by decide +kernel
theorem dX4_init_39 : decode cX4_init 39 = .ok (.return_, 1) := by decide +kernel
theorem dX4_writeFrame_0 : decode cX4_writeFrame 0 = .ok (.aload_n 0, 1) := by decide +kernel
theorem dX4_writeFrame_1 : decode cX4_writeFrame 1 = .ok (.getfield 9, 3) := by decide +kernel
theorem dX4_writeFrame_4 : decode cX4_writeFrame 4 = .ok (.getfield 31, 3) := by decide +kernel
theorem dX4_writeFrame_7 : decode cX4_writeFrame 7 = .ok (.istore_n 3, 1) := by decide +kernel
theorem dX4_writeFrame_8 : decode cX4_writeFrame 8 = .ok (.aload_n 0, 1) := by decide +kernel
theorem dX4_writeFrame_9 : decode cX4_writeFrame 9 = .ok (.iload_n 3, 1) := by decide +kernel
theorem dX4_writeFrame_10 : decode cX4_writeFrame 10 = .ok (.lload_n 1, 1) := by decide +kernel
theorem dX4_writeFrame_11 : decode cX4_writeFrame 11 = .ok (.invokevirtual 37, 3) := by decide +kernel
theorem dX4_writeFrame_14 : decode cX4_writeFrame 14 = .ok (.aload_n 0, 1) := by decide +kernel
theorem dX4_writeFrame_15 : decode cX4_writeFrame 15 = .ok (.iload_n 3, 1) := by decide +kernel
theorem dX4_writeFrame_16 : decode cX4_writeFrame 16 = .ok (.invokevirtual 41, 3) := by decide +kernel
theorem dX4_writeFrame_19 : decode cX4_writeFrame 19 = .ok (.aload_n 0, 1) := by decide +kernel
theorem dX4_writeFrame_20 : decode cX4_writeFrame 20 = .ok (.iload_n 3, 1) := by decide +kernel
theorem dX4_writeFrame_21 : decode cX4_writeFrame 21 = .ok (.invokevirtual 45, 3) := by decide +kernel
theorem dX4_writeFrame_24 : decode cX4_writeFrame 24 = .ok (.aload_n 0, 1) := by decide +kernel
theorem dX4_writeFrame_25 : decode cX4_writeFrame 25 = .ok (.getfield 9, 3) := by decide +kernel
theorem dX4_writeFrame_28 : decode cX4_writeFrame 28 = .ok (.dup, 1) := by decide +kernel
theorem dX4_writeFrame_29 : decode cX4_writeFrame 29 = .ok (.getfield 31, 3) := by decide +kernel
theorem dX4_writeFrame_32 : decode cX4_writeFrame 32 = .ok (.iconst 1, 1) := by decide +kernel
theorem dX4_writeFrame_33 : decode cX4_writeFrame 33 = .ok (.iadd, 1) := by decide +kernel
theorem dX4_writeFrame_34 : decode cX4_writeFrame 34 = .ok (.putfield 31, 3) := by decide +kernel
theorem dX4_writeFrame_37 : decode cX4_writeFrame 37 = .ok (.iload_n 3, 1) := by decide +kernel
theorem dX4_writeFrame_38 : decode cX4_writeFrame 38 = .ok (.ireturn, 1) := by decide +kernel
theorem dX4_makeInner_0 : decode cX4_makeInner 0 = .ok (.aload_n 0, 1) := by decide +kernel
theorem dX4_makeInner_1 : decode cX4_makeInner 1 = .ok (.getfield 15, 3) := by decide +kernel
theorem dX4_makeInner_4 : decode cX4_makeInner 4 = .ok (.lload_n 2, 1) := by decide +kernel
theorem dX4_makeInner_5 : decode cX4_makeInner 5 = .ok (.invokevirtual 48, 3) := by decide +kernel
theorem dX4_makeInner_8 : decode cX4_makeInner 8 = .ok (.aload_n 0, 1) := by decide +kernel
theorem dX4_makeInner_9 : decode cX4_makeInner 9 = .ok (.getfield 15, 3) := by decide +kernel
theorem dX4_makeInner_12 : decode cX4_makeInner 12 = .ok (.invokevirtual 54, 3) := by decide +kernel
theorem dX4_makeInner_15 : decode cX4_makeInner 15 = .ok (.iconst 0, 1) := by decide +kernel
theorem dX4_makeInner_16 : decode cX4_makeInner 16 = .ok (.istore 4, 2) := by decide +kernel
theorem dX4_makeInner_18 : decode cX4_makeInner 18 = .ok (.iload 4, 2) := by decide +kernel
theorem dX4_makeInner_20 : decode cX4_makeInner 20 = .ok (.bipush 12, 2) := by decide +kernel
theorem dX4_makeInner_22 : decode cX4_makeInner 22 = .ok (.if_icmp .ge 28, 3) := by decide +kernel
theorem dX4_makeInner_25 : decode cX4_makeInner 25 = .ok (.aload_n 0, 1) := by decide +kernel
theorem dX4_makeInner_26 : decode cX4_makeInner 26 = .ok (.getfield 24, 3) := by decide +kernel
theorem dX4_makeInner_29 : decode cX4_makeInner 29 = .ok (.iload_n 1, 1) := by decide +kernel
theorem dX4_makeInner_30 : decode cX4_makeInner 30 = .ok (.aaload, 1) := by decide +kernel
theorem dX4_makeInner_31 : decode cX4_makeInner 31 = .ok (.iload 4, 2) := by decide +kernel
theorem dX4_makeInner_33 : decode cX4_makeInner 33 = .ok (.aload_n 0, 1) := by decide +kernel
theorem dX4_makeInner_34 : decode cX4_makeInner 34 = .ok (.getfield 15, 3) := by decide +kernel
theorem dX4_makeInner_37 : decode cX4_makeInner 37 = .ok (.getfield 57, 3) := by decide +kernel
theorem dX4_makeInner_40 : decode cX4_makeInner 40 = .ok (.iload 4, 2) := by decide +kernel
theorem dX4_makeInner_42 : decode cX4_makeInner 42 = .ok (.iaload, 1) := by decide +kernel
theorem dX4_makeInner_43 : decode cX4_makeInner 43 = .ok (.iastore, 1) := by decide +kernel
theorem dX4_makeInner_44 : decode cX4_makeInner 44 = .ok (.iinc 4 1, 3) := by decide +kernel
theorem dX4_makeInner_47 : decode cX4_makeInner 47 = .ok (.goto (-29), 3) := by decide +kernel
theorem dX4_makeInner_50 : decode cX4_makeInner 50 = .ok (.return_, 1) := by decide +kernel
theorem dX4_makeOuter_0 : decode cX4_makeOuter 0 = .ok (.iconst 0, 1) := by decide +kernel
theorem dX4_makeOuter_1 : decode cX4_makeOuter 1 = .ok (.istore_n 2, 1) := by decide +kernel
theorem dX4_makeOuter_2 : decode cX4_makeOuter 2 = .ok (.iload_n 2, 1) := by decide +kernel
theorem dX4_makeOuter_3 : decode cX4_makeOuter 3 = .ok (.bipush 12, 2) := by decide +kernel
theorem dX4_makeOuter_5 : decode cX4_makeOuter 5 = .ok (.if_icmp .ge 37, 3) := by decide +kernel
theorem dX4_makeOuter_8 : decode cX4_makeOuter 8 = .ok (.aload_n 0, 1) := by decide +kernel
theorem dX4_makeOuter_9 : decode cX4_makeOuter 9 = .ok (.getfield 19, 3) := by decide +kernel
theorem dX4_makeOuter_12 : decode cX4_makeOuter 12 = .ok (.getfield 57, 3) := by decide +kernel
theorem dX4_makeOuter_15 : decode cX4_makeOuter 15 = .ok (.iload_n 2, 1) := by decide +kernel
theorem dX4_makeOuter_16 : decode cX4_makeOuter 16 = .ok (.iload_n 1, 1) := by decide +kernel
theorem dX4_makeOuter_17 : decode cX4_makeOuter 17 = .ok (.iload_n 2, 1) := by decide +kernel
theorem dX4_makeOuter_18 : decode cX4_makeOuter 18 = .ok (.if_icmp .lt 16, 3) := by decide +kernel
theorem dX4_makeOuter_21 : decode cX4_makeOuter 21 = .ok (.aload_n 0, 1) := by decide +kernel
theorem dX4_makeOuter_22 : decode cX4_makeOuter 22 = .ok (.getfield 24, 3) := by decide +kernel
theorem dX4_makeOuter_25 : decode cX4_makeOuter 25 = .ok (.iload_n 1, 1) := by decide +kernel
theorem dX4_makeOuter_26 : decode cX4_makeOuter 26 = .ok (.iload_n 2, 1) := by decide +kernel
theorem dX4_makeOuter_27 : decode cX4_makeOuter 27 = .ok (.isub, 1) := by decide +kernel
theorem dX4_makeOuter_28 : decode cX4_makeOuter 28 = .ok (.aaload, 1) := by decide +kernel
theorem dX4_makeOuter_29 : decode cX4_makeOuter 29 = .ok (.iload_n 2, 1) := by decide +kernel
theorem dX4_makeOuter_30 : decode cX4_makeOuter 30 = .ok (.iaload, 1) := by decide +kernel
theorem dX4_makeOuter_31 : decode cX4_makeOuter 31 = .ok (.goto 4, 3) := by decide +kernel
theorem dX4_makeOuter_34 : decode cX4_makeOuter 34 = .ok (.iconst 0, 1) := by decide +kernel
theorem dX4_makeOuter_35 : decode cX4_makeOuter 35 = .ok (.iastore, 1) := by decide +kernel
theorem dX4_makeOuter_36 : decode cX4_makeOuter 36 = .ok (.iinc 2 1, 3) := by decide +kernel
theorem dX4_makeOuter_39 : decode cX4_makeOuter 39 = .ok (.goto (-37), 3) := by decide +kernel
theorem dX4_makeOuter_42 : decode cX4_makeOuter 42 = .ok (.aload_n 0, 1) := by decide +kernel
theorem dX4_makeOuter_43 : decode cX4_makeOuter 43 = .ok (.getfield 19, 3) := by decide +kernel
theorem dX4_makeOuter_46 : decode cX4_makeOuter 46 = .ok (.invokevirtual 54, 3) := by decide +kernel
theorem dX4_makeOuter_49 : decode cX4_makeOuter 49 = .ok (.return_, 1) := by decide +kernel
theorem dX4_writeRow_0 : decode cX4_writeRow 0 = .ok (.iconst 0, 1) := by decide +kernel
theorem dX4_writeRow_1 : decode cX4_writeRow 1 = .ok (.istore_n 2, 1) := by decide +kernel
theorem dX4_writeRow_2 : decode cX4_writeRow 2 = .ok (.iload_n 2, 1) := by decide +kernel
theorem dX4_writeRow_3 : decode cX4_writeRow 3 = .ok (.bipush 16, 2) := by decide +kernel
theorem dX4_writeRow_5 : decode cX4_writeRow 5 = .ok (.if_icmp .ge 57, 3) := by decide +kernel
theorem dX4_writeRow_8 : decode cX4_writeRow 8 = .ok (.aload_n 0, 1) := by decide +kernel
theorem dX4_writeRow_9 : decode cX4_writeRow 9 = .ok (.getfield 9, 3) := by decide +kernel
theorem dX4_writeRow_12 : decode cX4_writeRow 12 = .ok (.iload_n 1, 1) := by decide +kernel
theorem dX4_writeRow_13 : decode cX4_writeRow 13 = .ok (.iload_n 2, 1) := by decide +kernel
theorem dX4_writeRow_14 : decode cX4_writeRow 14 = .ok (.iload_n 2, 1) := by decide +kernel
theorem dX4_writeRow_15 : decode cX4_writeRow 15 = .ok (.iconst 2, 1) := by decide +kernel
theorem dX4_writeRow_16 : decode cX4_writeRow 16 = .ok (.irem, 1) := by decide +kernel
theorem dX4_writeRow_17 : decode cX4_writeRow 17 = .ok (.ifCond .ne 15, 3) := by decide +kernel
theorem dX4_writeRow_20 : decode cX4_writeRow 20 = .ok (.aload_n 0, 1) := by decide +kernel
theorem dX4_writeRow_21 : decode cX4_writeRow 21 = .ok (.getfield 19, 3) := by decide +kernel
theorem dX4_writeRow_24 : decode cX4_writeRow 24 = .ok (.getfield 57, 3) := by decide +kernel
theorem dX4_writeRow_27 : decode cX4_writeRow 27 = .ok (.iload_n 2, 1) := by decide +kernel
theorem dX4_writeRow_28 : decode cX4_writeRow 28 = .ok (.iaload, 1) := by decide +kernel
theorem dX4_writeRow_29 : decode cX4_writeRow 29 = .ok (.goto 9, 3) := by decide +kernel
theorem dX4_writeRow_32 : decode cX4_writeRow 32 = .ok (.aload_n 0, 1) := by decide +kernel
theorem dX4_writeRow_33 : decode cX4_writeRow 33 = .ok (.getfield 27, 3) := by decide +kernel
theorem dX4_writeRow_36 : decode cX4_writeRow 36 = .ok (.iload_n 2, 1) := by decide +kernel
theorem dX4_writeRow_37 : decode cX4_writeRow 37 = .ok (.iaload, 1) := by decide +kernel
theorem dX4_writeRow_38 : decode cX4_writeRow 38 = .ok (.invokevirtual 60, 3) := by decide +kernel
theorem dX4_writeRow_41 : decode cX4_writeRow 41 = .ok (.aload_n 0, 1) := by decide +kernel
theorem dX4_writeRow_42 : decode cX4_writeRow 42 = .ok (.getfield 27, 3) := by decide +kernel
theorem dX4_writeRow_45 : decode cX4_writeRow 45 = .ok (.iload_n 2, 1) := by decide +kernel
theorem dX4_writeRow_46 : decode cX4_writeRow 46 = .ok (.aload_n 0, 1) := by decide +kernel
theorem dX4_writeRow_47 : decode cX4_writeRow 47 = .ok (.getfield 19, 3) := by decide +kernel
theorem dX4_writeRow_50 : decode cX4_writeRow 50 = .ok (.getfield 57, 3) := by decide +kernel
theorem dX4_writeRow_53 : decode cX4_writeRow 53 = .ok (.iload_n 2, 1) := by decide +kernel
theorem dX4_writeRow_54 : decode cX4_writeRow 54 = .ok (.iaload, 1) := by decide +kernel
theorem dX4_writeRow_55 : decode cX4_writeRow 55 = .ok (.iastore, 1) := by decide +kernel
theorem dX4_writeRow_56 : decode cX4_writeRow 56 = .ok (.iinc 2 1, 3) := by decide +kernel
theorem dX4_writeRow_59 : decode cX4_writeRow 59 = .ok (.goto (-57), 3) := by decide +kernel
theorem dX4_writeRow_62 : decode cX4_writeRow 62 = .ok (.return_, 1) := by decide +kernel
def wsX2_init : List Cond := .code yX2_init cX2_init 4 none :: ([.methodLink RX2 3 objectInit, .instanceMethod objectInit, .code objectInit ⟨#[0xb1]⟩ 1 none, .fieldLink RX2 9 "DiscCoder$Reader" "disc" "LDiscCoder$Disc;", .fieldLink RX2 15 "DiscCoder$Reader" "inner" "LDiscCoder$Word;", .fieldLink RX2 19 "DiscCoder$Reader" "outer" "LDiscCoder$Word;", .fieldLink RX2 24 "DiscCoder$Reader" "outerWords" "[[I", .arrayClass .boolean, .fieldLink RX2 27 "DiscCoder$Reader" "outerDoubted" "[Z", .arrayClass .int, .fieldLink RX2 31 "DiscCoder$Reader" "output" "[I", .fieldLink RX2 35 "DiscCoder$Reader" "lost" "[Z"] ++ wsX20)
def wsX2_readRow : List Cond := .code yX2_readRow cX2_readRow 2 (some .boolean) :: ([.fieldLink RX2 9 "DiscCoder$Reader" "disc" "LDiscCoder$Disc;", .methodLink RX2 44 yX2_gatherOuter, .instanceMethod yX2_gatherOuter, .selects RX2 yX2_gatherOuter yX2_gatherOuter, .initialized RX2, .code yX2_gatherOuter cX2_gatherOuter 3 none, .fieldLink RX2 19 "DiscCoder$Reader" "outer" "LDiscCoder$Word;", .methodLink RX2 62 yX0_getPlain, .instanceMethod yX0_getPlain, .selects RX0 yX0_getPlain yX0_getPlain, .initialized RX0, .code yX0_getPlain cX0_getPlain 3 (some .int), .methodLink RX0 23 yX0_has, .instanceMethod yX0_has, .selects RX0 yX0_has yX0_has, .code yX0_has cX0_has 3 (some .boolean), .fieldLink RX0 15 "DiscCoder$Disc" "rowsWritten" "I", .fieldLink RX0 9 "DiscCoder$Disc" "symbols" "[I", .methodLink RX0 19 yX0_turned, .static yX0_turned, .code yX0_turned cX0_turned 2 (some .int), .methodLink RX2 48 yX2_rightOuter, .instanceMethod yX2_rightOuter, .selects RX2 yX2_rightOuter yX2_rightOuter, .code yX2_rightOuter cX2_rightOuter 3 none, .methodLink RX2 66 yX3_mendOne, .instanceMethod yX3_mendOne, .selects RX3 yX3_mendOne yX3_mendOne, .initialized RX3, .code yX3_mendOne cX3_mendOne 2 (some .boolean), .methodLink RX3 51 yX3_isWord, .instanceMethod yX3_isWord, .selects RX3 yX3_isWord yX3_isWord, .code yX3_isWord cX3_isWord 2 (some .boolean), .methodLink RX3 48 yX3_makeSums, .instanceMethod yX3_makeSums, .selects RX3 yX3_makeSums yX3_makeSums, .code yX3_makeSums cX3_makeSums 5 none, .fieldLink RX3 9 "DiscCoder$Word" "size" "I", .methodLink RX3 38 yX1_times, .static yX1_times, .initialized RX1, .code yX1_times cX1_times 5 (some .int), .fieldLink RX3 15 "DiscCoder$Word" "symbols" "[I", .fieldLink RX3 26 "DiscCoder$Word" "sums" "[I", .methodLink RX3 54 yX3_isOnlyFault, .instanceMethod yX3_isOnlyFault, .selects RX3 yX3_isOnlyFault yX3_isOnlyFault, .code yX3_isOnlyFault cX3_isOnlyFault 4 (some .boolean), .fieldLink RX3 23 "DiscCoder$Word" "locators" "[I", .fieldLink RX2 70 "DiscCoder$Reader" "wordsMended" "I", .methodLink RX2 73 yX3_isWord, .fieldLink RX2 27 "DiscCoder$Reader" "outerDoubted" "[Z", .fieldLink RX2 76 "DiscCoder$Reader" "wordsDoubted" "I", .fieldLink RX2 24 "DiscCoder$Reader" "outerWords" "[[I", .methodLink RX2 51 yX2_gatherInner, .instanceMethod yX2_gatherInner, .selects RX2 yX2_gatherInner yX2_gatherInner, .code yX2_gatherInner cX2_gatherInner 4 none, .fieldLink RX2 15 "DiscCoder$Reader" "inner" "LDiscCoder$Word;", .methodLink RX2 54 yX2_rightInner, .instanceMethod yX2_rightInner, .selects RX2 yX2_rightInner yX2_rightInner, .code yX2_rightInner cX2_rightInner 3 none, .methodLink RX2 82 yX3_fillDoubted, .instanceMethod yX3_fillDoubted, .selects RX3 yX3_fillDoubted yX3_fillDoubted, .code yX3_fillDoubted cX3_fillDoubted 3 (some .boolean), .methodLink RX3 58 yX3_countDoubted, .instanceMethod yX3_countDoubted, .selects RX3 yX3_countDoubted yX3_countDoubted, .code yX3_countDoubted cX3_countDoubted 3 (some .int), .fieldLink RX3 19 "DiscCoder$Word" "doubted" "[Z", .methodLink RX3 62 yX3_listDoubted, .instanceMethod yX3_listDoubted, .selects RX3 yX3_listDoubted yX3_listDoubted, .code yX3_listDoubted cX3_listDoubted 3 none, .fieldLink RX3 29 "DiscCoder$Word" "doubtedAt" "[I", .fieldLink RX3 32 "DiscCoder$Word" "changes" "[I", .methodLink RX3 65 yX3_changeAt, .instanceMethod yX3_changeAt, .selects RX3 yX3_changeAt yX3_changeAt, .code yX3_changeAt cX3_changeAt 7 (some .int), .methodLink RX3 72 yX3_startWeights, .instanceMethod yX3_startWeights, .selects RX3 yX3_startWeights yX3_startWeights, .code yX3_startWeights cX3_startWeights 2 none, .fieldLink RX3 35 "DiscCoder$Word" "weights" "[I", .methodLink RX3 75 yX3_addRoot, .instanceMethod yX3_addRoot, .selects RX3 yX3_addRoot yX3_addRoot, .code yX3_addRoot cX3_addRoot 3 none, .methodLink RX3 78 yX3_weightedSums, .instanceMethod yX3_weightedSums, .selects RX3 yX3_weightedSums yX3_weightedSums, .code yX3_weightedSums cX3_weightedSums 3 (some .int), .methodLink RX3 81 yX1_inverse, .static yX1_inverse, .code yX1_inverse cX1_inverse 4 (some .int), .methodLink RX1 11 yX1_times, .methodLink RX3 68 yX3_addChanges, .instanceMethod yX3_addChanges, .selects RX3 yX3_addChanges yX3_addChanges, .code yX3_addChanges cX3_addChanges 3 none, .fieldLink RX2 85 "DiscCoder$Reader" "symbolsFilled" "I", .methodLink RX2 88 yX3_countDoubted, .fieldLink RX2 35 "DiscCoder$Reader" "lost" "[Z", .fieldLink RX2 92 "DiscCoder$Reader" "wordsLost" "I", .fieldLink RX2 31 "DiscCoder$Reader" "output" "[I"] ++ wsX20 ++ wsX00 ++ wsX30)
def wsX2_gatherOuter : List Cond := .code yX2_gatherOuter cX2_gatherOuter 3 none :: ([.fieldLink RX2 19 "DiscCoder$Reader" "outer" "LDiscCoder$Word;", .fieldLink RX2 9 "DiscCoder$Reader" "disc" "LDiscCoder$Disc;", .methodLink RX2 62 yX0_getPlain, .instanceMethod yX0_getPlain, .selects RX0 yX0_getPlain yX0_getPlain, .initialized RX0, .code yX0_getPlain cX0_getPlain 3 (some .int), .methodLink RX0 23 yX0_has, .instanceMethod yX0_has, .selects RX0 yX0_has yX0_has, .code yX0_has cX0_has 3 (some .boolean), .fieldLink RX0 15 "DiscCoder$Disc" "rowsWritten" "I", .fieldLink RX0 9 "DiscCoder$Disc" "symbols" "[I", .methodLink RX0 19 yX0_turned, .static yX0_turned, .code yX0_turned cX0_turned 2 (some .int)] ++ wsX20 ++ wsX30 ++ wsX00)
def wsX2_rightOuter : List Cond := .code yX2_rightOuter cX2_rightOuter 3 none :: ([.fieldLink RX2 19 "DiscCoder$Reader" "outer" "LDiscCoder$Word;", .methodLink RX2 66 yX3_mendOne, .instanceMethod yX3_mendOne, .selects RX3 yX3_mendOne yX3_mendOne, .initialized RX3, .code yX3_mendOne cX3_mendOne 2 (some .boolean), .methodLink RX3 51 yX3_isWord, .instanceMethod yX3_isWord, .selects RX3 yX3_isWord yX3_isWord, .code yX3_isWord cX3_isWord 2 (some .boolean), .methodLink RX3 48 yX3_makeSums, .instanceMethod yX3_makeSums, .selects RX3 yX3_makeSums yX3_makeSums, .code yX3_makeSums cX3_makeSums 5 none, .fieldLink RX3 9 "DiscCoder$Word" "size" "I", .methodLink RX3 38 yX1_times, .static yX1_times, .initialized RX1, .code yX1_times cX1_times 5 (some .int), .fieldLink RX3 15 "DiscCoder$Word" "symbols" "[I", .fieldLink RX3 26 "DiscCoder$Word" "sums" "[I", .methodLink RX3 54 yX3_isOnlyFault, .instanceMethod yX3_isOnlyFault, .selects RX3 yX3_isOnlyFault yX3_isOnlyFault, .code yX3_isOnlyFault cX3_isOnlyFault 4 (some .boolean), .fieldLink RX3 23 "DiscCoder$Word" "locators" "[I", .fieldLink RX2 70 "DiscCoder$Reader" "wordsMended" "I", .methodLink RX2 73 yX3_isWord, .fieldLink RX2 27 "DiscCoder$Reader" "outerDoubted" "[Z", .fieldLink RX2 76 "DiscCoder$Reader" "wordsDoubted" "I", .fieldLink RX2 24 "DiscCoder$Reader" "outerWords" "[[I"] ++ wsX20 ++ wsX30)
def wsX2_gatherInner : List Cond := .code yX2_gatherInner cX2_gatherInner 4 none :: ([.fieldLink RX2 15 "DiscCoder$Reader" "inner" "LDiscCoder$Word;", .fieldLink RX2 24 "DiscCoder$Reader" "outerWords" "[[I", .fieldLink RX2 27 "DiscCoder$Reader" "outerDoubted" "[Z"] ++ wsX20 ++ wsX30)
def wsX2_rightInner : List Cond := .code yX2_rightInner cX2_rightInner 3 none :: ([.fieldLink RX2 15 "DiscCoder$Reader" "inner" "LDiscCoder$Word;", .methodLink RX2 82 yX3_fillDoubted, .instanceMethod yX3_fillDoubted, .selects RX3 yX3_fillDoubted yX3_fillDoubted, .initialized RX3, .code yX3_fillDoubted cX3_fillDoubted 3 (some .boolean), .methodLink RX3 58 yX3_countDoubted, .instanceMethod yX3_countDoubted, .selects RX3 yX3_countDoubted yX3_countDoubted, .code yX3_countDoubted cX3_countDoubted 3 (some .int), .fieldLink RX3 9 "DiscCoder$Word" "size" "I", .fieldLink RX3 19 "DiscCoder$Word" "doubted" "[Z", .methodLink RX3 62 yX3_listDoubted, .instanceMethod yX3_listDoubted, .selects RX3 yX3_listDoubted yX3_listDoubted, .code yX3_listDoubted cX3_listDoubted 3 none, .fieldLink RX3 29 "DiscCoder$Word" "doubtedAt" "[I", .methodLink RX3 48 yX3_makeSums, .instanceMethod yX3_makeSums, .selects RX3 yX3_makeSums yX3_makeSums, .code yX3_makeSums cX3_makeSums 5 none, .methodLink RX3 38 yX1_times, .static yX1_times, .initialized RX1, .code yX1_times cX1_times 5 (some .int), .fieldLink RX3 15 "DiscCoder$Word" "symbols" "[I", .fieldLink RX3 26 "DiscCoder$Word" "sums" "[I", .fieldLink RX3 32 "DiscCoder$Word" "changes" "[I", .methodLink RX3 65 yX3_changeAt, .instanceMethod yX3_changeAt, .selects RX3 yX3_changeAt yX3_changeAt, .code yX3_changeAt cX3_changeAt 7 (some .int), .fieldLink RX3 23 "DiscCoder$Word" "locators" "[I", .methodLink RX3 72 yX3_startWeights, .instanceMethod yX3_startWeights, .selects RX3 yX3_startWeights yX3_startWeights, .code yX3_startWeights cX3_startWeights 2 none, .fieldLink RX3 35 "DiscCoder$Word" "weights" "[I", .methodLink RX3 75 yX3_addRoot, .instanceMethod yX3_addRoot, .selects RX3 yX3_addRoot yX3_addRoot, .code yX3_addRoot cX3_addRoot 3 none, .methodLink RX3 78 yX3_weightedSums, .instanceMethod yX3_weightedSums, .selects RX3 yX3_weightedSums yX3_weightedSums, .code yX3_weightedSums cX3_weightedSums 3 (some .int), .methodLink RX3 81 yX1_inverse, .static yX1_inverse, .code yX1_inverse cX1_inverse 4 (some .int), .methodLink RX1 11 yX1_times, .methodLink RX3 68 yX3_addChanges, .instanceMethod yX3_addChanges, .selects RX3 yX3_addChanges yX3_addChanges, .code yX3_addChanges cX3_addChanges 3 none, .methodLink RX3 51 yX3_isWord, .instanceMethod yX3_isWord, .selects RX3 yX3_isWord yX3_isWord, .code yX3_isWord cX3_isWord 2 (some .boolean), .fieldLink RX2 85 "DiscCoder$Reader" "symbolsFilled" "I", .methodLink RX2 88 yX3_countDoubted, .fieldLink RX2 35 "DiscCoder$Reader" "lost" "[Z", .fieldLink RX2 92 "DiscCoder$Reader" "wordsLost" "I", .fieldLink RX2 31 "DiscCoder$Reader" "output" "[I"] ++ wsX20 ++ wsX30)
set_option maxRecDepth 20000 in
theorem ggX2_readRow_X2_gatherOuter : GoodIn wsX2_readRow wsX2_gatherOuter := goodIn_r _ [6, 7, 1, 8, 9, 10, 11, 12, 13, 14, 15, 16, 17, 18, 19, 20, 21, 110, 111, 112, 113, 114, 115, 116, 117, 118, 119, 120, 124, 125, 126, 127, 128, 129, 130, 131, 121, 122, 123] (by decide +kernel) (by decide +kernel)
theorem gX2_readRow_X2_gatherOuter : GoodIn wsX2_readRow (wsV RX2 44 RX2 yX2_gatherOuter wsX2_gatherOuter) := goodIn_app (goodIn_of _ (by decide +kernel)) ggX2_readRow_X2_gatherOuter
set_option maxRecDepth 20000 in
theorem ggX2_readRow_X2_rightOuter : GoodIn wsX2_readRow wsX2_rightOuter := goodIn_r _ [25, 7, 26, 27, 28, 29, 30, 31, 32, 33, 34, 35, 36, 37, 38, 39, 40, 41, 42, 43, 44, 45, 46, 47, 48, 49, 50, 51, 52, 53, 54, 55, 110, 111, 112, 113, 114, 115, 116, 117, 118, 119, 120, 124, 125, 126, 127, 128, 129, 130, 131] (by decide +kernel) (by decide +kernel)
theorem gX2_readRow_X2_rightOuter : GoodIn wsX2_readRow (wsV RX2 48 RX2 yX2_rightOuter wsX2_rightOuter) := goodIn_app (goodIn_of _ (by decide +kernel)) ggX2_readRow_X2_rightOuter
set_option maxRecDepth 20000 in
theorem ggX2_readRow_X2_gatherInner : GoodIn wsX2_readRow wsX2_gatherInner := goodIn_r _ [59, 60, 55, 53, 110, 111, 112, 113, 114, 115, 116, 117, 118, 119, 120, 124, 125, 126, 127, 128, 129, 130, 131] (by decide +kernel) (by decide +kernel)
theorem gX2_readRow_X2_gatherInner : GoodIn wsX2_readRow (wsV RX2 51 RX2 yX2_gatherInner wsX2_gatherInner) := goodIn_app (goodIn_of _ (by decide +kernel)) ggX2_readRow_X2_gatherInner
set_option maxRecDepth 20000 in
theorem ggX2_readRow_X2_rightInner : GoodIn wsX2_readRow wsX2_rightInner := goodIn_r _ [64, 60, 65, 66, 67, 29, 68, 69, 70, 71, 72, 39, 73, 74, 75, 76, 77, 78, 35, 36, 37, 38, 40, 41, 42, 43, 44, 45, 79, 80, 81, 82, 83, 50, 84, 85, 86, 87, 88, 89, 90, 91, 92, 93, 94, 95, 96, 97, 98, 99, 100, 101, 102, 103, 104, 31, 32, 33, 34, 105, 106, 107, 108, 109, 110, 111, 112, 113, 114, 115, 116, 117, 118, 119, 120, 124, 125, 126, 127, 128, 129, 130, 131] (by decide +kernel) (by decide +kernel)
theorem gX2_readRow_X2_rightInner : GoodIn wsX2_readRow (wsV RX2 54 RX2 yX2_rightInner wsX2_rightInner) := goodIn_app (goodIn_of _ (by decide +kernel)) ggX2_readRow_X2_rightInner
set_option maxRecDepth 20000 in
theorem ggX2_gatherOuter_X0_getPlain : GoodIn wsX2_gatherOuter wsX0_getPlain := goodIn_r _ [7, 8, 9, 10, 6, 11, 12, 13, 14, 15, 16, 36, 37, 38] (by decide +kernel) (by decide +kernel)
theorem gX2_gatherOuter_X0_getPlain : GoodIn wsX2_gatherOuter (wsV RX2 62 RX0 yX0_getPlain wsX0_getPlain) := goodIn_app (goodIn_of _ (by decide +kernel)) ggX2_gatherOuter_X0_getPlain
set_option maxRecDepth 20000 in
theorem ggX2_rightOuter_X3_mendOne : GoodIn wsX2_rightOuter wsX3_mendOne := goodIn_r _ [6, 7, 8, 9, 5, 10, 11, 12, 13, 14, 15, 16, 17, 18, 19, 20, 21, 22, 23, 24, 25, 26, 43, 44, 45, 46, 47, 48, 49, 50] (by decide +kernel) (by decide +kernel)
theorem gX2_rightOuter_X3_mendOne : GoodIn wsX2_rightOuter (wsV RX2 66 RX3 yX3_mendOne wsX3_mendOne) := goodIn_app (goodIn_of _ (by decide +kernel)) ggX2_rightOuter_X3_mendOne
set_option maxRecDepth 20000 in
theorem ggX2_rightOuter_X3_isWord : GoodIn wsX2_rightOuter wsX3_isWord := goodIn_r _ [10, 11, 12, 13, 5, 14, 15, 16, 17, 18, 19, 20, 21, 43, 44, 45, 46, 47, 48, 49, 50] (by decide +kernel) (by decide +kernel)
theorem gX2_rightOuter_X3_isWord : GoodIn wsX2_rightOuter (wsV RX2 73 RX3 yX3_isWord wsX3_isWord) := goodIn_app (goodIn_of _ (by decide +kernel)) ggX2_rightOuter_X3_isWord
set_option maxRecDepth 20000 in
theorem ggX2_rightInner_X3_fillDoubted : GoodIn wsX2_rightInner wsX3_fillDoubted := goodIn_r _ [6, 7, 8, 9, 5, 10, 11, 12, 13, 14, 15, 16, 17, 18, 19, 20, 21, 22, 23, 24, 25, 26, 27, 28, 29, 30, 31, 32, 33, 34, 35, 36, 37, 38, 39, 40, 41, 42, 43, 44, 45, 46, 47, 48, 49, 50, 51, 52, 53, 54, 55, 56, 57, 58, 75, 76, 77, 78, 79, 80, 81, 82] (by decide +kernel) (by decide +kernel)
theorem gX2_rightInner_X3_fillDoubted : GoodIn wsX2_rightInner (wsV RX2 82 RX3 yX3_fillDoubted wsX3_fillDoubted) := goodIn_app (goodIn_of _ (by decide +kernel)) ggX2_rightInner_X3_fillDoubted
set_option maxRecDepth 20000 in
theorem ggX2_rightInner_X3_countDoubted : GoodIn wsX2_rightInner wsX3_countDoubted := goodIn_r _ [10, 11, 12, 75, 76, 77, 78, 79, 80, 81, 82] (by decide +kernel) (by decide +kernel)
theorem gX2_rightInner_X3_countDoubted : GoodIn wsX2_rightInner (wsV RX2 88 RX3 yX3_countDoubted wsX3_countDoubted) := goodIn_app (goodIn_of _ (by decide +kernel)) ggX2_rightInner_X3_countDoubted
theorem dX2_init_0 : decode cX2_init 0 = .ok (.aload_n 0, 1) := by decide +kernel
theorem dX2_init_1 : decode cX2_init 1 = .ok (.invokespecial 3, 3) := by decide +kernel
theorem dX2_init_4 : decode cX2_init 4 = .ok (.aload_n 0, 1) := by decide +kernel
theorem dX2_init_5 : decode cX2_init 5 = .ok (.aload_n 1, 1) := by decide +kernel
theorem dX2_init_6 : decode cX2_init 6 = .ok (.putfield 9, 3) := by decide +kernel
theorem dX2_init_9 : decode cX2_init 9 = .ok (.aload_n 0, 1) := by decide +kernel
theorem dX2_init_10 : decode cX2_init 10 = .ok (.aload_n 2, 1) := by decide +kernel
theorem dX2_init_11 : decode cX2_init 11 = .ok (.putfield 15, 3) := by decide +kernel
theorem dX2_init_14 : decode cX2_init 14 = .ok (.aload_n 0, 1) := by decide +kernel
theorem dX2_init_15 : decode cX2_init 15 = .ok (.aload_n 3, 1) := by decide +kernel
theorem dX2_init_16 : decode cX2_init 16 = .ok (.putfield 19, 3) := by decide +kernel
theorem dX2_init_19 : decode cX2_init 19 = .ok (.aload_n 0, 1) := by decide +kernel
theorem dX2_init_20 : decode cX2_init 20 = .ok (.bipush 48, 2) := by decide +kernel
theorem dX2_init_22 : decode cX2_init 22 = .ok (.bipush 12, 2) := by decide +kernel
theorem dX2_init_24 : decode cX2_init 24 = .ok (.multianewarray 22 2, 4) := by decide +kernel
theorem dX2_init_28 : decode cX2_init 28 = .ok (.putfield 24, 3) := by decide +kernel
theorem dX2_init_31 : decode cX2_init 31 = .ok (.aload_n 0, 1) := by decide +kernel
theorem dX2_init_32 : decode cX2_init 32 = .ok (.bipush 48, 2) := by decide +kernel
theorem dX2_init_34 : decode cX2_init 34 = .ok (.newarray .boolean, 2) := by decide +kernel
theorem dX2_init_36 : decode cX2_init 36 = .ok (.putfield 27, 3) := by decide +kernel
theorem dX2_init_39 : decode cX2_init 39 = .ok (.aload_n 0, 1) := by decide +kernel
theorem dX2_init_40 : decode cX2_init 40 = .ok (.sipush 384, 3) := by decide +kernel
theorem dX2_init_43 : decode cX2_init 43 = .ok (.newarray .int, 2) := by decide +kernel
theorem dX2_init_45 : decode cX2_init 45 = .ok (.putfield 31, 3) := by decide +kernel
theorem dX2_init_48 : decode cX2_init 48 = .ok (.aload_n 0, 1) := by decide +kernel
theorem dX2_init_49 : decode cX2_init 49 = .ok (.bipush 48, 2) := by decide +kernel
theorem dX2_init_51 : decode cX2_init 51 = .ok (.newarray .boolean, 2) := by decide +kernel
theorem dX2_init_53 : decode cX2_init 53 = .ok (.putfield 35, 3) := by decide +kernel
theorem dX2_init_56 : decode cX2_init 56 = .ok (.return_, 1) := by decide +kernel
theorem dX2_readRow_0 : decode cX2_readRow 0 = .ok (.aload_n 0, 1) := by decide +kernel
theorem dX2_readRow_1 : decode cX2_readRow 1 = .ok (.getfield 9, 3) := by decide +kernel
theorem dX2_readRow_4 : decode cX2_readRow 4 = .ok (.getfield 38, 3) := by decide +kernel
theorem dX2_readRow_7 : decode cX2_readRow 7 = .ok (.istore_n 1, 1) := by decide +kernel
theorem dX2_readRow_8 : decode cX2_readRow 8 = .ok (.aload_n 0, 1) := by decide +kernel
theorem dX2_readRow_9 : decode cX2_readRow 9 = .ok (.iload_n 1, 1) := by decide +kernel
theorem dX2_readRow_10 : decode cX2_readRow 10 = .ok (.invokevirtual 44, 3) := by decide +kernel
theorem dX2_readRow_13 : decode cX2_readRow 13 = .ok (.aload_n 0, 1) := by decide +kernel
theorem dX2_readRow_14 : decode cX2_readRow 14 = .ok (.iload_n 1, 1) := by decide +kernel
theorem dX2_readRow_15 : decode cX2_readRow 15 = .ok (.invokevirtual 48, 3) := by decide +kernel
theorem dX2_readRow_18 : decode cX2_readRow 18 = .ok (.aload_n 0, 1) := by decide +kernel
theorem dX2_readRow_19 : decode cX2_readRow 19 = .ok (.iload_n 1, 1) := by decide +kernel
theorem dX2_readRow_20 : decode cX2_readRow 20 = .ok (.invokevirtual 51, 3) := by decide +kernel
theorem dX2_readRow_23 : decode cX2_readRow 23 = .ok (.aload_n 0, 1) := by decide +kernel
theorem dX2_readRow_24 : decode cX2_readRow 24 = .ok (.iload_n 1, 1) := by decide +kernel
theorem dX2_readRow_25 : decode cX2_readRow 25 = .ok (.invokevirtual 54, 3) := by decide +kernel
theorem dX2_readRow_28 : decode cX2_readRow 28 = .ok (.aload_n 0, 1) := by decide +kernel
theorem dX2_readRow_29 : decode cX2_readRow 29 = .ok (.getfield 9, 3) := by decide +kernel
theorem dX2_readRow_32 : decode cX2_readRow 32 = .ok (.dup, 1) := by decide +kernel
theorem dX2_readRow_33 : decode cX2_readRow 33 = .ok (.getfield 38, 3) := by decide +kernel
theorem dX2_readRow_36 : decode cX2_readRow 36 = .ok (.iconst 1, 1) := by decide +kernel
theorem dX2_readRow_37 : decode cX2_readRow 37 = .ok (.iadd, 1) := by decide +kernel
theorem dX2_readRow_38 : decode cX2_readRow 38 = .ok (.putfield 38, 3) := by decide +kernel
theorem dX2_readRow_41 : decode cX2_readRow 41 = .ok (.aload_n 0, 1) := by decide +kernel
theorem dX2_readRow_42 : decode cX2_readRow 42 = .ok (.getfield 35, 3) := by decide +kernel
theorem dX2_readRow_45 : decode cX2_readRow 45 = .ok (.iload_n 1, 1) := by decide +kernel
theorem dX2_readRow_46 : decode cX2_readRow 46 = .ok (.baload, 1) := by decide +kernel
theorem dX2_readRow_47 : decode cX2_readRow 47 = .ok (.ifCond .ne 7, 3) := by decide +kernel
theorem dX2_readRow_50 : decode cX2_readRow 50 = .ok (.iconst 1, 1) := by decide +kernel
theorem dX2_readRow_51 : decode cX2_readRow 51 = .ok (.goto 4, 3) := by decide +kernel
theorem dX2_readRow_54 : decode cX2_readRow 54 = .ok (.iconst 0, 1) := by decide +kernel
theorem dX2_readRow_55 : decode cX2_readRow 55 = .ok (.ireturn, 1) := by decide +kernel
theorem dX2_gatherOuter_0 : decode cX2_gatherOuter 0 = .ok (.iconst 0, 1) := by decide +kernel
theorem dX2_gatherOuter_1 : decode cX2_gatherOuter 1 = .ok (.istore_n 2, 1) := by decide +kernel
theorem dX2_gatherOuter_2 : decode cX2_gatherOuter 2 = .ok (.iload_n 2, 1) := by decide +kernel
theorem dX2_gatherOuter_3 : decode cX2_gatherOuter 3 = .ok (.bipush 16, 2) := by decide +kernel
theorem dX2_gatherOuter_5 : decode cX2_gatherOuter 5 = .ok (.if_icmp .ge 39, 3) := by decide +kernel
theorem dX2_gatherOuter_8 : decode cX2_gatherOuter 8 = .ok (.aload_n 0, 1) := by decide +kernel
theorem dX2_gatherOuter_9 : decode cX2_gatherOuter 9 = .ok (.getfield 19, 3) := by decide +kernel
theorem dX2_gatherOuter_12 : decode cX2_gatherOuter 12 = .ok (.getfield 57, 3) := by decide +kernel
theorem dX2_gatherOuter_15 : decode cX2_gatherOuter 15 = .ok (.iload_n 2, 1) := by decide +kernel
theorem dX2_gatherOuter_16 : decode cX2_gatherOuter 16 = .ok (.aload_n 0, 1) := by decide +kernel
theorem dX2_gatherOuter_17 : decode cX2_gatherOuter 17 = .ok (.getfield 9, 3) := by decide +kernel
theorem dX2_gatherOuter_20 : decode cX2_gatherOuter 20 = .ok (.iload_n 2, 1) := by decide +kernel
theorem dX2_gatherOuter_21 : decode cX2_gatherOuter 21 = .ok (.iconst 2, 1) := by decide +kernel
theorem dX2_gatherOuter_22 : decode cX2_gatherOuter 22 = .ok (.irem, 1) := by decide +kernel
theorem dX2_gatherOuter_23 : decode cX2_gatherOuter 23 = .ok (.ifCond .ne 9, 3) := by decide +kernel
theorem dX2_gatherOuter_26 : decode cX2_gatherOuter 26 = .ok (.iload_n 1, 1) := by decide +kernel
theorem dX2_gatherOuter_27 : decode cX2_gatherOuter 27 = .ok (.iconst 1, 1) := by decide +kernel
theorem dX2_gatherOuter_28 : decode cX2_gatherOuter 28 = .ok (.isub, 1) := by decide +kernel
theorem dX2_gatherOuter_29 : decode cX2_gatherOuter 29 = .ok (.goto 4, 3) := by decide +kernel
theorem dX2_gatherOuter_32 : decode cX2_gatherOuter 32 = .ok (.iload_n 1, 1) := by decide +kernel
theorem dX2_gatherOuter_33 : decode cX2_gatherOuter 33 = .ok (.iload_n 2, 1) := by decide +kernel
theorem dX2_gatherOuter_34 : decode cX2_gatherOuter 34 = .ok (.invokevirtual 62, 3) := by decide +kernel
theorem dX2_gatherOuter_37 : decode cX2_gatherOuter 37 = .ok (.iastore, 1) := by decide +kernel
theorem dX2_gatherOuter_38 : decode cX2_gatherOuter 38 = .ok (.iinc 2 1, 3) := by decide +kernel
theorem dX2_gatherOuter_41 : decode cX2_gatherOuter 41 = .ok (.goto (-39), 3) := by decide +kernel
theorem dX2_gatherOuter_44 : decode cX2_gatherOuter 44 = .ok (.return_, 1) := by decide +kernel
theorem dX2_rightOuter_0 : decode cX2_rightOuter 0 = .ok (.aload_n 0, 1) := by decide +kernel
theorem dX2_rightOuter_1 : decode cX2_rightOuter 1 = .ok (.getfield 19, 3) := by decide +kernel
theorem dX2_rightOuter_4 : decode cX2_rightOuter 4 = .ok (.invokevirtual 66, 3) := by decide +kernel
theorem dX2_rightOuter_7 : decode cX2_rightOuter 7 = .ok (.ifCond .eq 16, 3) := by decide +kernel
theorem dX2_rightOuter_10 : decode cX2_rightOuter 10 = .ok (.aload_n 0, 1) := by decide +kernel
theorem dX2_rightOuter_11 : decode cX2_rightOuter 11 = .ok (.dup, 1) := by decide +kernel
theorem dX2_rightOuter_12 : decode cX2_rightOuter 12 = .ok (.getfield 70, 3) := by decide +kernel
theorem dX2_rightOuter_15 : decode cX2_rightOuter 15 = .ok (.iconst 1, 1) := by decide +kernel
theorem dX2_rightOuter_16 : decode cX2_rightOuter 16 = .ok (.iadd, 1) := by decide +kernel
theorem dX2_rightOuter_17 : decode cX2_rightOuter 17 = .ok (.putfield 70, 3) := by decide +kernel
theorem dX2_rightOuter_20 : decode cX2_rightOuter 20 = .ok (.goto 30, 3) := by decide +kernel
theorem dX2_rightOuter_23 : decode cX2_rightOuter 23 = .ok (.aload_n 0, 1) := by decide +kernel
theorem dX2_rightOuter_24 : decode cX2_rightOuter 24 = .ok (.getfield 19, 3) := by decide +kernel
theorem dX2_rightOuter_27 : decode cX2_rightOuter 27 = .ok (.invokevirtual 73, 3) := by decide +kernel
theorem dX2_rightOuter_30 : decode cX2_rightOuter 30 = .ok (.ifCond .ne 20, 3) := by decide +kernel
theorem dX2_rightOuter_33 : decode cX2_rightOuter 33 = .ok (.aload_n 0, 1) := by decide +kernel
theorem dX2_rightOuter_34 : decode cX2_rightOuter 34 = .ok (.getfield 27, 3) := by decide +kernel
theorem dX2_rightOuter_37 : decode cX2_rightOuter 37 = .ok (.iload_n 1, 1) := by decide +kernel
theorem dX2_rightOuter_38 : decode cX2_rightOuter 38 = .ok (.iconst 1, 1) := by decide +kernel
theorem dX2_rightOuter_39 : decode cX2_rightOuter 39 = .ok (.bastore, 1) := by decide +kernel
theorem dX2_rightOuter_40 : decode cX2_rightOuter 40 = .ok (.aload_n 0, 1) := by decide +kernel
theorem dX2_rightOuter_41 : decode cX2_rightOuter 41 = .ok (.dup, 1) := by decide +kernel
theorem dX2_rightOuter_42 : decode cX2_rightOuter 42 = .ok (.getfield 76, 3) := by decide +kernel
theorem dX2_rightOuter_45 : decode cX2_rightOuter 45 = .ok (.iconst 1, 1) := by decide +kernel
theorem dX2_rightOuter_46 : decode cX2_rightOuter 46 = .ok (.iadd, 1) := by decide +kernel
theorem dX2_rightOuter_47 : decode cX2_rightOuter 47 = .ok (.putfield 76, 3) := by decide +kernel
theorem dX2_rightOuter_50 : decode cX2_rightOuter 50 = .ok (.iconst 0, 1) := by decide +kernel
theorem dX2_rightOuter_51 : decode cX2_rightOuter 51 = .ok (.istore_n 2, 1) := by decide +kernel
theorem dX2_rightOuter_52 : decode cX2_rightOuter 52 = .ok (.iload_n 2, 1) := by decide +kernel
theorem dX2_rightOuter_53 : decode cX2_rightOuter 53 = .ok (.bipush 12, 2) := by decide +kernel
theorem dX2_rightOuter_55 : decode cX2_rightOuter 55 = .ok (.if_icmp .ge 26, 3) := by decide +kernel
theorem dX2_rightOuter_58 : decode cX2_rightOuter 58 = .ok (.aload_n 0, 1) := by decide +kernel
theorem dX2_rightOuter_59 : decode cX2_rightOuter 59 = .ok (.getfield 24, 3) := by decide +kernel
theorem dX2_rightOuter_62 : decode cX2_rightOuter 62 = .ok (.iload_n 1, 1) := by decide +kernel
theorem dX2_rightOuter_63 : decode cX2_rightOuter 63 = .ok (.aaload, 1) := by decide +kernel
theorem dX2_rightOuter_64 : decode cX2_rightOuter 64 = .ok (.iload_n 2, 1) := by decide +kernel
theorem dX2_rightOuter_65 : decode cX2_rightOuter 65 = .ok (.aload_n 0, 1) := by decide +kernel
theorem dX2_rightOuter_66 : decode cX2_rightOuter 66 = .ok (.getfield 19, 3) := by decide +kernel
theorem dX2_rightOuter_69 : decode cX2_rightOuter 69 = .ok (.getfield 57, 3) := by decide +kernel
theorem dX2_rightOuter_72 : decode cX2_rightOuter 72 = .ok (.iload_n 2, 1) := by decide +kernel
theorem dX2_rightOuter_73 : decode cX2_rightOuter 73 = .ok (.iaload, 1) := by decide +kernel
theorem dX2_rightOuter_74 : decode cX2_rightOuter 74 = .ok (.iastore, 1) := by decide +kernel
theorem dX2_rightOuter_75 : decode cX2_rightOuter 75 = .ok (.iinc 2 1, 3) := by decide +kernel
theorem dX2_rightOuter_78 : decode cX2_rightOuter 78 = .ok (.goto (-26), 3) := by decide +kernel
theorem dX2_rightOuter_81 : decode cX2_rightOuter 81 = .ok (.return_, 1) := by decide +kernel
theorem dX2_gatherInner_0 : decode cX2_gatherInner 0 = .ok (.iconst 0, 1) := by decide +kernel
theorem dX2_gatherInner_1 : decode cX2_gatherInner 1 = .ok (.istore_n 2, 1) := by decide +kernel
theorem dX2_gatherInner_2 : decode cX2_gatherInner 2 = .ok (.iload_n 2, 1) := by decide +kernel
theorem dX2_gatherInner_3 : decode cX2_gatherInner 3 = .ok (.bipush 12, 2) := by decide +kernel
theorem dX2_gatherInner_5 : decode cX2_gatherInner 5 = .ok (.if_icmp .ge 68, 3) := by decide +kernel
theorem dX2_gatherInner_8 : decode cX2_gatherInner 8 = .ok (.iload_n 1, 1) := by decide +kernel
theorem dX2_gatherInner_9 : decode cX2_gatherInner 9 = .ok (.bipush 11, 2) := by decide +kernel
theorem dX2_gatherInner_11 : decode cX2_gatherInner 11 = .ok (.isub, 1) := by decide +kernel
theorem dX2_gatherInner_12 : decode cX2_gatherInner 12 = .ok (.iload_n 2, 1) := by decide +kernel
theorem dX2_gatherInner_13 : decode cX2_gatherInner 13 = .ok (.iadd, 1) := by decide +kernel
theorem dX2_gatherInner_14 : decode cX2_gatherInner 14 = .ok (.istore_n 3, 1) := by decide +kernel
theorem dX2_gatherInner_15 : decode cX2_gatherInner 15 = .ok (.aload_n 0, 1) := by decide +kernel
theorem dX2_gatherInner_16 : decode cX2_gatherInner 16 = .ok (.getfield 15, 3) := by decide +kernel
theorem dX2_gatherInner_19 : decode cX2_gatherInner 19 = .ok (.getfield 57, 3) := by decide +kernel
theorem dX2_gatherInner_22 : decode cX2_gatherInner 22 = .ok (.iload_n 2, 1) := by decide +kernel
theorem dX2_gatherInner_23 : decode cX2_gatherInner 23 = .ok (.iload_n 3, 1) := by decide +kernel
theorem dX2_gatherInner_24 : decode cX2_gatherInner 24 = .ok (.ifCond .lt 14, 3) := by decide +kernel
theorem dX2_gatherInner_27 : decode cX2_gatherInner 27 = .ok (.aload_n 0, 1) := by decide +kernel
theorem dX2_gatherInner_28 : decode cX2_gatherInner 28 = .ok (.getfield 24, 3) := by decide +kernel
theorem dX2_gatherInner_31 : decode cX2_gatherInner 31 = .ok (.iload_n 3, 1) := by decide +kernel
theorem dX2_gatherInner_32 : decode cX2_gatherInner 32 = .ok (.aaload, 1) := by decide +kernel
theorem dX2_gatherInner_33 : decode cX2_gatherInner 33 = .ok (.iload_n 2, 1) := by decide +kernel
theorem dX2_gatherInner_34 : decode cX2_gatherInner 34 = .ok (.iaload, 1) := by decide +kernel
theorem dX2_gatherInner_35 : decode cX2_gatherInner 35 = .ok (.goto 4, 3) := by decide +kernel
theorem dX2_gatherInner_38 : decode cX2_gatherInner 38 = .ok (.iconst 0, 1) := by decide +kernel
theorem dX2_gatherInner_39 : decode cX2_gatherInner 39 = .ok (.iastore, 1) := by decide +kernel
theorem dX2_gatherInner_40 : decode cX2_gatherInner 40 = .ok (.aload_n 0, 1) := by decide +kernel
theorem dX2_gatherInner_41 : decode cX2_gatherInner 41 = .ok (.getfield 15, 3) := by decide +kernel
theorem dX2_gatherInner_44 : decode cX2_gatherInner 44 = .ok (.getfield 79, 3) := by decide +kernel
theorem dX2_gatherInner_47 : decode cX2_gatherInner 47 = .ok (.iload_n 2, 1) := by decide +kernel
theorem dX2_gatherInner_48 : decode cX2_gatherInner 48 = .ok (.iload_n 3, 1) := by decide +kernel
theorem dX2_gatherInner_49 : decode cX2_gatherInner 49 = .ok (.ifCond .lt 16, 3) := by decide +kernel
theorem dX2_gatherInner_52 : decode cX2_gatherInner 52 = .ok (.aload_n 0, 1) := by decide +kernel
theorem dX2_gatherInner_53 : decode cX2_gatherInner 53 = .ok (.getfield 27, 3) := by decide +kernel
theorem dX2_gatherInner_56 : decode cX2_gatherInner 56 = .ok (.iload_n 3, 1) := by decide +kernel
theorem dX2_gatherInner_57 : decode cX2_gatherInner 57 = .ok (.baload, 1) := by decide +kernel
theorem dX2_gatherInner_58 : decode cX2_gatherInner 58 = .ok (.ifCond .eq 7, 3) := by decide +kernel
theorem dX2_gatherInner_61 : decode cX2_gatherInner 61 = .ok (.iconst 1, 1) := by decide +kernel
theorem dX2_gatherInner_62 : decode cX2_gatherInner 62 = .ok (.goto 4, 3) := by decide +kernel
theorem dX2_gatherInner_65 : decode cX2_gatherInner 65 = .ok (.iconst 0, 1) := by decide +kernel
theorem dX2_gatherInner_66 : decode cX2_gatherInner 66 = .ok (.bastore, 1) := by decide +kernel
theorem dX2_gatherInner_67 : decode cX2_gatherInner 67 = .ok (.iinc 2 1, 3) := by decide +kernel
theorem dX2_gatherInner_70 : decode cX2_gatherInner 70 = .ok (.goto (-68), 3) := by decide +kernel
theorem dX2_gatherInner_73 : decode cX2_gatherInner 73 = .ok (.return_, 1) := by decide +kernel
theorem dX2_rightInner_0 : decode cX2_rightInner 0 = .ok (.aload_n 0, 1) := by decide +kernel
theorem dX2_rightInner_1 : decode cX2_rightInner 1 = .ok (.getfield 15, 3) := by decide +kernel
theorem dX2_rightInner_4 : decode cX2_rightInner 4 = .ok (.invokevirtual 82, 3) := by decide +kernel
theorem dX2_rightInner_7 : decode cX2_rightInner 7 = .ok (.ifCond .eq 22, 3) := by decide +kernel
theorem dX2_rightInner_10 : decode cX2_rightInner 10 = .ok (.aload_n 0, 1) := by decide +kernel
theorem dX2_rightInner_11 : decode cX2_rightInner 11 = .ok (.dup, 1) := by decide +kernel
theorem dX2_rightInner_12 : decode cX2_rightInner 12 = .ok (.getfield 85, 3) := by decide +kernel
theorem dX2_rightInner_15 : decode cX2_rightInner 15 = .ok (.aload_n 0, 1) := by decide +kernel
theorem dX2_rightInner_16 : decode cX2_rightInner 16 = .ok (.getfield 15, 3) := by decide +kernel
theorem dX2_rightInner_19 : decode cX2_rightInner 19 = .ok (.invokevirtual 88, 3) := by decide +kernel
theorem dX2_rightInner_22 : decode cX2_rightInner 22 = .ok (.iadd, 1) := by decide +kernel
theorem dX2_rightInner_23 : decode cX2_rightInner 23 = .ok (.putfield 85, 3) := by decide +kernel
theorem dX2_rightInner_26 : decode cX2_rightInner 26 = .ok (.goto 20, 3) := by decide +kernel
theorem dX2_rightInner_29 : decode cX2_rightInner 29 = .ok (.aload_n 0, 1) := by decide +kernel
theorem dX2_rightInner_30 : decode cX2_rightInner 30 = .ok (.getfield 35, 3) := by decide +kernel
theorem dX2_rightInner_33 : decode cX2_rightInner 33 = .ok (.iload_n 1, 1) := by decide +kernel
theorem dX2_rightInner_34 : decode cX2_rightInner 34 = .ok (.iconst 1, 1) := by decide +kernel
theorem dX2_rightInner_35 : decode cX2_rightInner 35 = .ok (.bastore, 1) := by decide +kernel
theorem dX2_rightInner_36 : decode cX2_rightInner 36 = .ok (.aload_n 0, 1) := by decide +kernel
theorem dX2_rightInner_37 : decode cX2_rightInner 37 = .ok (.dup, 1) := by decide +kernel
theorem dX2_rightInner_38 : decode cX2_rightInner 38 = .ok (.getfield 92, 3) := by decide +kernel
theorem dX2_rightInner_41 : decode cX2_rightInner 41 = .ok (.iconst 1, 1) := by decide +kernel
theorem dX2_rightInner_42 : decode cX2_rightInner 42 = .ok (.iadd, 1) := by decide +kernel
theorem dX2_rightInner_43 : decode cX2_rightInner 43 = .ok (.putfield 92, 3) := by decide +kernel
theorem dX2_rightInner_46 : decode cX2_rightInner 46 = .ok (.iconst 0, 1) := by decide +kernel
theorem dX2_rightInner_47 : decode cX2_rightInner 47 = .ok (.istore_n 2, 1) := by decide +kernel
theorem dX2_rightInner_48 : decode cX2_rightInner 48 = .ok (.iload_n 2, 1) := by decide +kernel
theorem dX2_rightInner_49 : decode cX2_rightInner 49 = .ok (.bipush 8, 2) := by decide +kernel
theorem dX2_rightInner_51 : decode cX2_rightInner 51 = .ok (.if_icmp .ge 29, 3) := by decide +kernel
theorem dX2_rightInner_54 : decode cX2_rightInner 54 = .ok (.aload_n 0, 1) := by decide +kernel
theorem dX2_rightInner_55 : decode cX2_rightInner 55 = .ok (.getfield 31, 3) := by decide +kernel
theorem dX2_rightInner_58 : decode cX2_rightInner 58 = .ok (.iload_n 1, 1) := by decide +kernel
theorem dX2_rightInner_59 : decode cX2_rightInner 59 = .ok (.bipush 8, 2) := by decide +kernel
theorem dX2_rightInner_61 : decode cX2_rightInner 61 = .ok (.imul, 1) := by decide +kernel
theorem dX2_rightInner_62 : decode cX2_rightInner 62 = .ok (.iload_n 2, 1) := by decide +kernel
theorem dX2_rightInner_63 : decode cX2_rightInner 63 = .ok (.iadd, 1) := by decide +kernel
theorem dX2_rightInner_64 : decode cX2_rightInner 64 = .ok (.aload_n 0, 1) := by decide +kernel
theorem dX2_rightInner_65 : decode cX2_rightInner 65 = .ok (.getfield 15, 3) := by decide +kernel
theorem dX2_rightInner_68 : decode cX2_rightInner 68 = .ok (.getfield 57, 3) := by decide +kernel
theorem dX2_rightInner_71 : decode cX2_rightInner 71 = .ok (.iload_n 2, 1) := by decide +kernel
theorem dX2_rightInner_72 : decode cX2_rightInner 72 = .ok (.iaload, 1) := by decide +kernel
theorem dX2_rightInner_73 : decode cX2_rightInner 73 = .ok (.iastore, 1) := by decide +kernel
theorem dX2_rightInner_74 : decode cX2_rightInner 74 = .ok (.iinc 2 1, 3) := by decide +kernel
theorem dX2_rightInner_77 : decode cX2_rightInner 77 = .ok (.goto (-29), 3) := by decide +kernel
theorem dX2_rightInner_80 : decode cX2_rightInner 80 = .ok (.return_, 1) := by decide +kernel
