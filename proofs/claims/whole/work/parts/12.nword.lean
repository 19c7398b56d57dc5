def wsX3_init : List Cond := .code yX3_init cX3_init 4 none :: ([.methodLink RX3 3 objectInit, .instanceMethod objectInit, .code objectInit ⟨#[0xb1]⟩ 1 none, .fieldLink RX3 9 "DiscCoder$Word" "size" "I", .arrayClass .int, .fieldLink RX3 15 "DiscCoder$Word" "symbols" "[I", .arrayClass .boolean, .fieldLink RX3 19 "DiscCoder$Word" "doubted" "[Z", .fieldLink RX3 23 "DiscCoder$Word" "locators" "[I", .fieldLink RX3 26 "DiscCoder$Word" "sums" "[I", .fieldLink RX3 29 "DiscCoder$Word" "doubtedAt" "[I", .fieldLink RX3 32 "DiscCoder$Word" "changes" "[I", .fieldLink RX3 35 "DiscCoder$Word" "weights" "[I", .methodLink RX3 38 yX1_times, .static yX1_times, .initialized RX1, .code yX1_times cX1_times 5 (some .int)] ++ wsX30)
def wsX3_beginWith : List Cond := .code yX3_beginWith cX3_beginWith 4 none :: ([.fieldLink RX3 15 "DiscCoder$Word" "symbols" "[I"] ++ wsX30)
def wsX3_makeChecks : List Cond := .code yX3_makeChecks cX3_makeChecks 2 none :: ([.fieldLink RX3 9 "DiscCoder$Word" "size" "I", .fieldLink RX3 19 "DiscCoder$Word" "doubted" "[Z", .methodLink RX3 44 yX3_fillDoubted, .instanceMethod yX3_fillDoubted, .selects RX3 yX3_fillDoubted yX3_fillDoubted, .initialized RX3, .code yX3_fillDoubted cX3_fillDoubted 3 (some .boolean), .methodLink RX3 58 yX3_countDoubted, .instanceMethod yX3_countDoubted, .selects RX3 yX3_countDoubted yX3_countDoubted, .code yX3_countDoubted cX3_countDoubted 3 (some .int), .methodLink RX3 62 yX3_listDoubted, .instanceMethod yX3_listDoubted, .selects RX3 yX3_listDoubted yX3_listDoubted, .code yX3_listDoubted cX3_listDoubted 3 none, .fieldLink RX3 29 "DiscCoder$Word" "doubtedAt" "[I", .methodLink RX3 48 yX3_makeSums, .instanceMethod yX3_makeSums, .selects RX3 yX3_makeSums yX3_makeSums, .code yX3_makeSums cX3_makeSums 5 none, .methodLink RX3 38 yX1_times, .static yX1_times, .initialized RX1, .code yX1_times cX1_times 5 (some .int), .fieldLink RX3 15 "DiscCoder$Word" "symbols" "[I", .fieldLink RX3 26 "DiscCoder$Word" "sums" "[I", .fieldLink RX3 32 "DiscCoder$Word" "changes" "[I", .methodLink RX3 65 yX3_changeAt, .instanceMethod yX3_changeAt, .selects RX3 yX3_changeAt yX3_changeAt, .code yX3_changeAt cX3_changeAt 7 (some .int), .fieldLink RX3 23 "DiscCoder$Word" "locators" "[I", .methodLink RX3 72 yX3_startWeights, .instanceMethod yX3_startWeights, .selects RX3 yX3_startWeights yX3_startWeights, .code yX3_startWeights cX3_startWeights 2 none, .fieldLink RX3 35 "DiscCoder$Word" "weights" "[I", .methodLink RX3 75 yX3_addRoot, .instanceMethod yX3_addRoot, .selects RX3 yX3_addRoot yX3_addRoot, .code yX3_addRoot cX3_addRoot 3 none, .methodLink RX3 78 yX3_weightedSums, .instanceMethod yX3_weightedSums, .selects RX3 yX3_weightedSums yX3_weightedSums, .code yX3_weightedSums cX3_weightedSums 3 (some .int), .methodLink RX3 81 yX1_inverse, .static yX1_inverse, .code yX1_inverse cX1_inverse 4 (some .int), .methodLink RX1 11 yX1_times, .methodLink RX3 68 yX3_addChanges, .instanceMethod yX3_addChanges, .selects RX3 yX3_addChanges yX3_addChanges, .code yX3_addChanges cX3_addChanges 3 none, .methodLink RX3 51 yX3_isWord, .instanceMethod yX3_isWord, .selects RX3 yX3_isWord yX3_isWord, .code yX3_isWord cX3_isWord 2 (some .boolean)] ++ wsX30)
def wsX3_isWord : List Cond := .code yX3_isWord cX3_isWord 2 (some .boolean) :: ([.methodLink RX3 48 yX3_makeSums, .instanceMethod yX3_makeSums, .selects RX3 yX3_makeSums yX3_makeSums, .initialized RX3, .code yX3_makeSums cX3_makeSums 5 none, .fieldLink RX3 9 "DiscCoder$Word" "size" "I", .methodLink RX3 38 yX1_times, .static yX1_times, .initialized RX1, .code yX1_times cX1_times 5 (some .int), .fieldLink RX3 15 "DiscCoder$Word" "symbols" "[I", .fieldLink RX3 26 "DiscCoder$Word" "sums" "[I"] ++ wsX30)
def wsX3_makeSums : List Cond := .code yX3_makeSums cX3_makeSums 5 none :: ([.fieldLink RX3 9 "DiscCoder$Word" "size" "I", .methodLink RX3 38 yX1_times, .static yX1_times, .initialized RX1, .code yX1_times cX1_times 5 (some .int), .fieldLink RX3 15 "DiscCoder$Word" "symbols" "[I", .fieldLink RX3 26 "DiscCoder$Word" "sums" "[I"] ++ wsX30)
def wsX3_mendOne : List Cond := .code yX3_mendOne cX3_mendOne 2 (some .boolean) :: ([.methodLink RX3 51 yX3_isWord, .instanceMethod yX3_isWord, .selects RX3 yX3_isWord yX3_isWord, .initialized RX3, .code yX3_isWord cX3_isWord 2 (some .boolean), .methodLink RX3 48 yX3_makeSums, .instanceMethod yX3_makeSums, .selects RX3 yX3_makeSums yX3_makeSums, .code yX3_makeSums cX3_makeSums 5 none, .fieldLink RX3 9 "DiscCoder$Word" "size" "I", .methodLink RX3 38 yX1_times, .static yX1_times, .initialized RX1, .code yX1_times cX1_times 5 (some .int), .fieldLink RX3 15 "DiscCoder$Word" "symbols" "[I", .fieldLink RX3 26 "DiscCoder$Word" "sums" "[I", .methodLink RX3 54 yX3_isOnlyFault, .instanceMethod yX3_isOnlyFault, .selects RX3 yX3_isOnlyFault yX3_isOnlyFault, .code yX3_isOnlyFault cX3_isOnlyFault 4 (some .boolean), .fieldLink RX3 23 "DiscCoder$Word" "locators" "[I"] ++ wsX30)
def wsX3_isOnlyFault : List Cond := .code yX3_isOnlyFault cX3_isOnlyFault 4 (some .boolean) :: ([.fieldLink RX3 26 "DiscCoder$Word" "sums" "[I", .fieldLink RX3 23 "DiscCoder$Word" "locators" "[I", .methodLink RX3 38 yX1_times, .static yX1_times, .initialized RX1, .code yX1_times cX1_times 5 (some .int)] ++ wsX30)
def wsX3_countDoubted : List Cond := .code yX3_countDoubted cX3_countDoubted 3 (some .int) :: ([.fieldLink RX3 9 "DiscCoder$Word" "size" "I", .fieldLink RX3 19 "DiscCoder$Word" "doubted" "[Z"] ++ wsX30)
def wsX3_fillDoubted : List Cond := .code yX3_fillDoubted cX3_fillDoubted 3 (some .boolean) :: ([.methodLink RX3 58 yX3_countDoubted, .instanceMethod yX3_countDoubted, .selects RX3 yX3_countDoubted yX3_countDoubted, .initialized RX3, .code yX3_countDoubted cX3_countDoubted 3 (some .int), .fieldLink RX3 9 "DiscCoder$Word" "size" "I", .fieldLink RX3 19 "DiscCoder$Word" "doubted" "[Z", .methodLink RX3 62 yX3_listDoubted, .instanceMethod yX3_listDoubted, .selects RX3 yX3_listDoubted yX3_listDoubted, .code yX3_listDoubted cX3_listDoubted 3 none, .fieldLink RX3 29 "DiscCoder$Word" "doubtedAt" "[I", .methodLink RX3 48 yX3_makeSums, .instanceMethod yX3_makeSums, .selects RX3 yX3_makeSums yX3_makeSums, .code yX3_makeSums cX3_makeSums 5 none, .methodLink RX3 38 yX1_times, .static yX1_times, .initialized RX1, .code yX1_times cX1_times 5 (some .int), .fieldLink RX3 15 "DiscCoder$Word" "symbols" "[I", .fieldLink RX3 26 "DiscCoder$Word" "sums" "[I", .fieldLink RX3 32 "DiscCoder$Word" "changes" "[I", .methodLink RX3 65 yX3_changeAt, .instanceMethod yX3_changeAt, .selects RX3 yX3_changeAt yX3_changeAt, .code yX3_changeAt cX3_changeAt 7 (some .int), .fieldLink RX3 23 "DiscCoder$Word" "locators" "[I", .methodLink RX3 72 yX3_startWeights, .instanceMethod yX3_startWeights, .selects RX3 yX3_startWeights yX3_startWeights, .code yX3_startWeights cX3_startWeights 2 none, .fieldLink RX3 35 "DiscCoder$Word" "weights" "[I", .methodLink RX3 75 yX3_addRoot, .instanceMethod yX3_addRoot, .selects RX3 yX3_addRoot yX3_addRoot, .code yX3_addRoot cX3_addRoot 3 none, .methodLink RX3 78 yX3_weightedSums, .instanceMethod yX3_weightedSums, .selects RX3 yX3_weightedSums yX3_weightedSums, .code yX3_weightedSums cX3_weightedSums 3 (some .int), .methodLink RX3 81 yX1_inverse, .static yX1_inverse, .code yX1_inverse cX1_inverse 4 (some .int), .methodLink RX1 11 yX1_times, .methodLink RX3 68 yX3_addChanges, .instanceMethod yX3_addChanges, .selects RX3 yX3_addChanges yX3_addChanges, .code yX3_addChanges cX3_addChanges 3 none, .methodLink RX3 51 yX3_isWord, .instanceMethod yX3_isWord, .selects RX3 yX3_isWord yX3_isWord, .code yX3_isWord cX3_isWord 2 (some .boolean)] ++ wsX30)
def wsX3_listDoubted : List Cond := .code yX3_listDoubted cX3_listDoubted 3 none :: ([.fieldLink RX3 9 "DiscCoder$Word" "size" "I", .fieldLink RX3 19 "DiscCoder$Word" "doubted" "[Z", .fieldLink RX3 29 "DiscCoder$Word" "doubtedAt" "[I"] ++ wsX30)
def wsX3_addChanges : List Cond := .code yX3_addChanges cX3_addChanges 3 none :: ([.fieldLink RX3 15 "DiscCoder$Word" "symbols" "[I", .fieldLink RX3 29 "DiscCoder$Word" "doubtedAt" "[I", .fieldLink RX3 32 "DiscCoder$Word" "changes" "[I"] ++ wsX30)
def wsX3_changeAt : List Cond := .code yX3_changeAt cX3_changeAt 7 (some .int) :: ([.fieldLink RX3 23 "DiscCoder$Word" "locators" "[I", .fieldLink RX3 29 "DiscCoder$Word" "doubtedAt" "[I", .methodLink RX3 72 yX3_startWeights, .instanceMethod yX3_startWeights, .selects RX3 yX3_startWeights yX3_startWeights, .initialized RX3, .code yX3_startWeights cX3_startWeights 2 none, .fieldLink RX3 35 "DiscCoder$Word" "weights" "[I", .methodLink RX3 75 yX3_addRoot, .instanceMethod yX3_addRoot, .selects RX3 yX3_addRoot yX3_addRoot, .code yX3_addRoot cX3_addRoot 3 none, .methodLink RX3 38 yX1_times, .static yX1_times, .initialized RX1, .code yX1_times cX1_times 5 (some .int), .methodLink RX3 78 yX3_weightedSums, .instanceMethod yX3_weightedSums, .selects RX3 yX3_weightedSums yX3_weightedSums, .code yX3_weightedSums cX3_weightedSums 3 (some .int), .fieldLink RX3 26 "DiscCoder$Word" "sums" "[I", .methodLink RX3 81 yX1_inverse, .static yX1_inverse, .code yX1_inverse cX1_inverse 4 (some .int), .methodLink RX1 11 yX1_times] ++ wsX30)
def wsX3_startWeights : List Cond := .code yX3_startWeights cX3_startWeights 2 none :: ([.fieldLink RX3 35 "DiscCoder$Word" "weights" "[I"] ++ wsX30)
def wsX3_addRoot : List Cond := .code yX3_addRoot cX3_addRoot 3 none :: ([.fieldLink RX3 35 "DiscCoder$Word" "weights" "[I", .methodLink RX3 38 yX1_times, .static yX1_times, .initialized RX1, .code yX1_times cX1_times 5 (some .int)] ++ wsX30)
def wsX3_weightedSums : List Cond := .code yX3_weightedSums cX3_weightedSums 3 (some .int) :: ([.fieldLink RX3 35 "DiscCoder$Word" "weights" "[I", .fieldLink RX3 26 "DiscCoder$Word" "sums" "[I", .methodLink RX3 38 yX1_times, .static yX1_times, .initialized RX1, .code yX1_times cX1_times 5 (some .int)] ++ wsX30)
set_option maxRecDepth 20000 in
theorem ggX3_init_X1_times : GoodIn wsX3_init wsX1_times := goodIn_r _ [17] (by decide +kernel) (by decide +kernel)
theorem gX3_init_X1_times : GoodIn wsX3_init (va_wsS RX3 38 yX1_times wsX1_times) := goodIn_app (goodIn_of _ (by decide +kernel)) ggX3_init_X1_times
set_option maxRecDepth 20000 in
theorem ggX3_makeChecks_X3_fillDoubted : GoodIn wsX3_makeChecks wsX3_fillDoubted := goodIn_r _ [7, 8, 9, 10, 6, 11, 1, 2, 12, 13, 14, 15, 16, 17, 18, 19, 20, 21, 22, 23, 24, 25, 26, 27, 28, 29, 30, 31, 32, 33, 34, 35, 36, 37, 38, 39, 40, 41, 42, 43, 44, 45, 46, 47, 48, 49, 50, 51, 52, 53, 54, 55, 56, 57, 58, 59, 60, 61, 62, 63, 64, 65] (by decide +kernel) (by decide +kernel)
theorem gX3_makeChecks_X3_fillDoubted : GoodIn wsX3_makeChecks (wsV RX3 44 RX3 yX3_fillDoubted wsX3_fillDoubted) := goodIn_app (goodIn_of _ (by decide +kernel)) ggX3_makeChecks_X3_fillDoubted
set_option maxRecDepth 20000 in
theorem ggX3_isWord_X3_makeSums : GoodIn wsX3_isWord wsX3_makeSums := goodIn_r _ [5, 6, 7, 8, 9, 10, 11, 12, 13, 14, 15, 16, 17, 18, 19, 20] (by decide +kernel) (by decide +kernel)
theorem gX3_isWord_X3_makeSums : GoodIn wsX3_isWord (wsV RX3 48 RX3 yX3_makeSums wsX3_makeSums) := goodIn_app (goodIn_of _ (by decide +kernel)) ggX3_isWord_X3_makeSums
set_option maxRecDepth 20000 in
theorem ggX3_makeSums_X1_times : GoodIn wsX3_makeSums wsX1_times := goodIn_r _ [5] (by decide +kernel) (by decide +kernel)
theorem gX3_makeSums_X1_times : GoodIn wsX3_makeSums (va_wsS RX3 38 yX1_times wsX1_times) := goodIn_app (goodIn_of _ (by decide +kernel)) ggX3_makeSums_X1_times
set_option maxRecDepth 20000 in
theorem ggX3_mendOne_X3_isWord : GoodIn wsX3_mendOne wsX3_isWord := goodIn_r _ [5, 6, 7, 8, 4, 9, 10, 11, 12, 13, 14, 15, 16, 22, 23, 24, 25, 26, 27, 28, 29] (by decide +kernel) (by decide +kernel)
theorem gX3_mendOne_X3_isWord : GoodIn wsX3_mendOne (wsV RX3 51 RX3 yX3_isWord wsX3_isWord) := goodIn_app (goodIn_of _ (by decide +kernel)) ggX3_mendOne_X3_isWord
set_option maxRecDepth 20000 in
theorem ggX3_mendOne_X3_isOnlyFault : GoodIn wsX3_mendOne wsX3_isOnlyFault := goodIn_r _ [20, 16, 21, 11, 12, 13, 14, 22, 23, 24, 25, 26, 27, 28, 29] (by decide +kernel) (by decide +kernel)
theorem gX3_mendOne_X3_isOnlyFault : GoodIn wsX3_mendOne (wsV RX3 54 RX3 yX3_isOnlyFault wsX3_isOnlyFault) := goodIn_app (goodIn_of _ (by decide +kernel)) ggX3_mendOne_X3_isOnlyFault
set_option maxRecDepth 20000 in
theorem ggX3_isOnlyFault_X1_times : GoodIn wsX3_isOnlyFault wsX1_times := goodIn_r _ [6] (by decide +kernel) (by decide +kernel)
theorem gX3_isOnlyFault_X1_times : GoodIn wsX3_isOnlyFault (va_wsS RX3 38 yX1_times wsX1_times) := goodIn_app (goodIn_of _ (by decide +kernel)) ggX3_isOnlyFault_X1_times
set_option maxRecDepth 20000 in
theorem ggX3_fillDoubted_X3_countDoubted : GoodIn wsX3_fillDoubted wsX3_countDoubted := goodIn_r _ [5, 6, 7, 54, 55, 56, 57, 58, 59, 60, 61] (by decide +kernel) (by decide +kernel)
theorem gX3_fillDoubted_X3_countDoubted : GoodIn wsX3_fillDoubted (wsV RX3 58 RX3 yX3_countDoubted wsX3_countDoubted) := goodIn_app (goodIn_of _ (by decide +kernel)) ggX3_fillDoubted_X3_countDoubted
set_option maxRecDepth 20000 in
theorem ggX3_fillDoubted_X3_listDoubted : GoodIn wsX3_fillDoubted wsX3_listDoubted := goodIn_r _ [11, 6, 7, 12, 54, 55, 56, 57, 58, 59, 60, 61] (by decide +kernel) (by decide +kernel)
theorem gX3_fillDoubted_X3_listDoubted : GoodIn wsX3_fillDoubted (wsV RX3 62 RX3 yX3_listDoubted wsX3_listDoubted) := goodIn_app (goodIn_of _ (by decide +kernel)) ggX3_fillDoubted_X3_listDoubted
set_option maxRecDepth 20000 in
theorem ggX3_fillDoubted_X3_makeSums : GoodIn wsX3_fillDoubted wsX3_makeSums := goodIn_r _ [16, 6, 17, 18, 19, 20, 21, 22, 54, 55, 56, 57, 58, 59, 60, 61] (by decide +kernel) (by decide +kernel)
theorem gX3_fillDoubted_X3_makeSums : GoodIn wsX3_fillDoubted (wsV RX3 48 RX3 yX3_makeSums wsX3_makeSums) := goodIn_app (goodIn_of _ (by decide +kernel)) ggX3_fillDoubted_X3_makeSums
set_option maxRecDepth 20000 in
theorem ggX3_fillDoubted_X3_changeAt : GoodIn wsX3_fillDoubted wsX3_changeAt := goodIn_r _ [27, 28, 12, 29, 30, 31, 4, 32, 33, 34, 35, 36, 37, 17, 18, 19, 20, 38, 39, 40, 41, 22, 42, 43, 44, 45, 54, 55, 56, 57, 58, 59, 60, 61] (by decide +kernel) (by decide +kernel)
theorem gX3_fillDoubted_X3_changeAt : GoodIn wsX3_fillDoubted (wsV RX3 65 RX3 yX3_changeAt wsX3_changeAt) := goodIn_app (goodIn_of _ (by decide +kernel)) ggX3_fillDoubted_X3_changeAt
set_option maxRecDepth 20000 in
theorem ggX3_fillDoubted_X3_addChanges : GoodIn wsX3_fillDoubted wsX3_addChanges := goodIn_r _ [49, 21, 12, 23, 54, 55, 56, 57, 58, 59, 60, 61] (by decide +kernel) (by decide +kernel)
theorem gX3_fillDoubted_X3_addChanges : GoodIn wsX3_fillDoubted (wsV RX3 68 RX3 yX3_addChanges wsX3_addChanges) := goodIn_app (goodIn_of _ (by decide +kernel)) ggX3_fillDoubted_X3_addChanges
set_option maxRecDepth 20000 in
theorem ggX3_fillDoubted_X3_isWord : GoodIn wsX3_fillDoubted wsX3_isWord := goodIn_r _ [53, 13, 14, 15, 4, 16, 6, 17, 18, 19, 20, 21, 22, 54, 55, 56, 57, 58, 59, 60, 61] (by decide +kernel) (by decide +kernel)
theorem gX3_fillDoubted_X3_isWord : GoodIn wsX3_fillDoubted (wsV RX3 51 RX3 yX3_isWord wsX3_isWord) := goodIn_app (goodIn_of _ (by decide +kernel)) ggX3_fillDoubted_X3_isWord
set_option maxRecDepth 20000 in
theorem ggX3_changeAt_X3_startWeights : GoodIn wsX3_changeAt wsX3_startWeights := goodIn_r _ [7, 8, 26, 27, 28, 29, 30, 31, 32, 33] (by decide +kernel) (by decide +kernel)
theorem gX3_changeAt_X3_startWeights : GoodIn wsX3_changeAt (wsV RX3 72 RX3 yX3_startWeights wsX3_startWeights) := goodIn_app (goodIn_of _ (by decide +kernel)) ggX3_changeAt_X3_startWeights
set_option maxRecDepth 20000 in
theorem ggX3_changeAt_X3_addRoot : GoodIn wsX3_changeAt wsX3_addRoot := goodIn_r _ [12, 8, 13, 14, 15, 16, 26, 27, 28, 29, 30, 31, 32, 33] (by decide +kernel) (by decide +kernel)
theorem gX3_changeAt_X3_addRoot : GoodIn wsX3_changeAt (wsV RX3 75 RX3 yX3_addRoot wsX3_addRoot) := goodIn_app (goodIn_of _ (by decide +kernel)) ggX3_changeAt_X3_addRoot
set_option maxRecDepth 20000 in
theorem ggX3_changeAt_X1_times : GoodIn wsX3_changeAt wsX1_times := goodIn_r _ [16] (by decide +kernel) (by decide +kernel)
theorem gX3_changeAt_X1_times : GoodIn wsX3_changeAt (va_wsS RX3 38 yX1_times wsX1_times) := goodIn_app (goodIn_of _ (by decide +kernel)) ggX3_changeAt_X1_times
set_option maxRecDepth 20000 in
theorem ggX3_changeAt_X3_weightedSums : GoodIn wsX3_changeAt wsX3_weightedSums := goodIn_r _ [20, 8, 21, 13, 14, 15, 16, 26, 27, 28, 29, 30, 31, 32, 33] (by decide +kernel) (by decide +kernel)
theorem gX3_changeAt_X3_weightedSums : GoodIn wsX3_changeAt (wsV RX3 78 RX3 yX3_weightedSums wsX3_weightedSums) := goodIn_app (goodIn_of _ (by decide +kernel)) ggX3_changeAt_X3_weightedSums
set_option maxRecDepth 20000 in
theorem ggX3_changeAt_X1_inverse : GoodIn wsX3_changeAt wsX1_inverse := goodIn_r _ [24, 25, 14, 15, 16] (by decide +kernel) (by decide +kernel)
theorem gX3_changeAt_X1_inverse : GoodIn wsX3_changeAt (va_wsS RX3 81 yX1_inverse wsX1_inverse) := goodIn_app (goodIn_of _ (by decide +kernel)) ggX3_changeAt_X1_inverse
set_option maxRecDepth 20000 in
theorem ggX3_addRoot_X1_times : GoodIn wsX3_addRoot wsX1_times := goodIn_r _ [5] (by decide +kernel) (by decide +kernel)
theorem gX3_addRoot_X1_times : GoodIn wsX3_addRoot (va_wsS RX3 38 yX1_times wsX1_times) := goodIn_app (goodIn_of _ (by decide +kernel)) ggX3_addRoot_X1_times
set_option maxRecDepth 20000 in
theorem ggX3_weightedSums_X1_times : GoodIn wsX3_weightedSums wsX1_times := goodIn_r _ [6] (by decide +kernel) (by decide +kernel)
theorem gX3_weightedSums_X1_times : GoodIn wsX3_weightedSums (va_wsS RX3 38 yX1_times wsX1_times) := goodIn_app (goodIn_of _ (by decide +kernel)) ggX3_weightedSums_X1_times
theorem dX3_init_0 : decode cX3_init 0 = .ok (.aload_n 0, 1) := by decide +kernel
theorem dX3_init_1 : decode cX3_init 1 = .ok (.invokespecial 3, 3) := by decide +kernel
theorem dX3_init_4 : decode cX3_init 4 = .ok (.aload_n 0, 1) := by decide +kernel
theorem dX3_init_5 : decode cX3_init 5 = .ok (.iload_n 1, 1) := by decide +kernel
theorem dX3_init_6 : decode cX3_init 6 = .ok (.putfield 9, 3) := by decide +kernel
theorem dX3_init_9 : decode cX3_init 9 = .ok (.aload_n 0, 1) := by decide +kernel
theorem dX3_init_10 : decode cX3_init 10 = .ok (.iload_n 1, 1) := by decide +kernel
theorem dX3_init_11 : decode cX3_init 11 = .ok (.newarray .int, 2) := by decide +kernel
theorem dX3_init_13 : decode cX3_init 13 = .ok (.putfield 15, 3) := by decide +kernel
theorem dX3_init_16 : decode cX3_init 16 = .ok (.aload_n 0, 1) := by decide +kernel
theorem dX3_init_17 : decode cX3_init 17 = .ok (.iload_n 1, 1) := by decide +kernel
theorem dX3_init_18 : decode cX3_init 18 = .ok (.newarray .boolean, 2) := by decide +kernel
theorem dX3_init_20 : decode cX3_init 20 = .ok (.putfield 19, 3) := by decide +kernel
theorem dX3_init_23 : decode cX3_init 23 = .ok (.aload_n 0, 1) := by decide +kernel
theorem dX3_init_24 : decode cX3_init 24 = .ok (.iload_n 1, 1) := by decide +kernel
theorem dX3_init_25 : decode cX3_init 25 = .ok (.newarray .int, 2) := by decide +kernel
theorem dX3_init_27 : decode cX3_init 27 = .ok (.putfield 23, 3) := by decide +kernel
theorem dX3_init_30 : decode cX3_init 30 = .ok (.aload_n 0, 1) := by decide +kernel
theorem dX3_init_31 : decode cX3_init 31 = .ok (.iconst 4, 1) := by decide +kernel
theorem dX3_init_32 : decode cX3_init 32 = .ok (.newarray .int, 2) := by decide +kernel
theorem dX3_init_34 : decode cX3_init 34 = .ok (.putfield 26, 3) := by decide +kernel
theorem dX3_init_37 : decode cX3_init 37 = .ok (.aload_n 0, 1) := by decide +kernel
theorem dX3_init_38 : decode cX3_init 38 = .ok (.iconst 4, 1) := by decide +kernel
theorem dX3_init_39 : decode cX3_init 39 = .ok (.newarray .int, 2) := by decide +kernel
theorem dX3_init_41 : decode cX3_init 41 = .ok (.putfield 29, 3) := by decide +kernel
theorem dX3_init_44 : decode cX3_init 44 = .ok (.aload_n 0, 1) := by decide +kernel
theorem dX3_init_45 : decode cX3_init 45 = .ok (.iconst 4, 1) := by decide +kernel
theorem dX3_init_46 : decode cX3_init 46 = .ok (.newarray .int, 2) := by decide +kernel
theorem dX3_init_48 : decode cX3_init 48 = .ok (.putfield 32, 3) := by decide +kernel
theorem dX3_init_51 : decode cX3_init 51 = .ok (.aload_n 0, 1) := by decide +kernel
theorem dX3_init_52 : decode cX3_init 52 = .ok (.iconst 4, 1) := by decide +kernel
theorem dX3_init_53 : decode cX3_init 53 = .ok (.newarray .int, 2) := by decide +kernel
theorem dX3_init_55 : decode cX3_init 55 = .ok (.putfield 35, 3) := by decide +kernel
theorem dX3_init_58 : decode cX3_init 58 = .ok (.iconst 1, 1) := by decide +kernel
theorem dX3_init_59 : decode cX3_init 59 = .ok (.istore_n 2, 1) := by decide +kernel
theorem dX3_init_60 : decode cX3_init 60 = .ok (.iload_n 1, 1) := by decide +kernel
theorem dX3_init_61 : decode cX3_init 61 = .ok (.iconst 1, 1) := by decide +kernel
theorem dX3_init_62 : decode cX3_init 62 = .ok (.isub, 1) := by decide +kernel
theorem dX3_init_63 : decode cX3_init 63 = .ok (.istore_n 3, 1) := by decide +kernel
theorem dX3_init_64 : decode cX3_init 64 = .ok (.iload_n 3, 1) := by decide +kernel
theorem dX3_init_65 : decode cX3_init 65 = .ok (.ifCond .lt 22, 3) := by decide +kernel
theorem dX3_init_68 : decode cX3_init 68 = .ok (.aload_n 0, 1) := by decide +kernel
theorem dX3_init_69 : decode cX3_init 69 = .ok (.getfield 23, 3) := by decide +kernel
theorem dX3_init_72 : decode cX3_init 72 = .ok (.iload_n 3, 1) := by decide +kernel
theorem dX3_init_73 : decode cX3_init 73 = .ok (.iload_n 2, 1) := by decide +kernel
theorem dX3_init_74 : decode cX3_init 74 = .ok (.iastore, 1) := by decide +kernel
theorem dX3_init_75 : decode cX3_init 75 = .ok (.iload_n 2, 1) := by decide +kernel
theorem dX3_init_76 : decode cX3_init 76 = .ok (.iconst 2, 1) := by decide +kernel
theorem dX3_init_77 : decode cX3_init 77 = .ok (.invokestatic 38, 3) := by decide +kernel
theorem dX3_init_80 : decode cX3_init 80 = .ok (.istore_n 2, 1) := by decide +kernel
theorem dX3_init_81 : decode cX3_init 81 = .ok (.iinc 3 (-1), 3) := by decide +kernel
theorem dX3_init_84 : decode cX3_init 84 = .ok (.goto (-20), 3) := by decide +kernel
theorem dX3_init_87 : decode cX3_init 87 = .ok (.return_, 1) := by decide +kernel
theorem dX3_beginWith_0 : decode cX3_beginWith 0 = .ok (.iconst 0, 1) := by decide +kernel
theorem dX3_beginWith_1 : decode cX3_beginWith 1 = .ok (.istore_n 3, 1) := by decide +kernel
theorem dX3_beginWith_2 : decode cX3_beginWith 2 = .ok (.iload_n 3, 1) := by decide +kernel
theorem dX3_beginWith_3 : decode cX3_beginWith 3 = .ok (.bipush 8, 2) := by decide +kernel
theorem dX3_beginWith_5 : decode cX3_beginWith 5 = .ok (.if_icmp .ge 26, 3) := by decide +kernel
theorem dX3_beginWith_8 : decode cX3_beginWith 8 = .ok (.aload_n 0, 1) := by decide +kernel
theorem dX3_beginWith_9 : decode cX3_beginWith 9 = .ok (.getfield 15, 3) := by decide +kernel
theorem dX3_beginWith_12 : decode cX3_beginWith 12 = .ok (.iload_n 3, 1) := by decide +kernel
theorem dX3_beginWith_13 : decode cX3_beginWith 13 = .ok (.lload_n 1, 1) := by decide +kernel
theorem dX3_beginWith_14 : decode cX3_beginWith 14 = .ok (.bipush 8, 2) := by decide +kernel
theorem dX3_beginWith_16 : decode cX3_beginWith 16 = .ok (.iload_n 3, 1) := by decide +kernel
theorem dX3_beginWith_17 : decode cX3_beginWith 17 = .ok (.imul, 1) := by decide +kernel
theorem dX3_beginWith_18 : decode cX3_beginWith 18 = .ok (.lushr, 1) := by decide +kernel
theorem dX3_beginWith_19 : decode cX3_beginWith 19 = .ok (.l2i, 1) := by decide +kernel
theorem dX3_beginWith_20 : decode cX3_beginWith 20 = .ok (.sipush 255, 3) := by decide +kernel
theorem dX3_beginWith_23 : decode cX3_beginWith 23 = .ok (.iand, 1) := by decide +kernel
theorem dX3_beginWith_24 : decode cX3_beginWith 24 = .ok (.iastore, 1) := by decide +kernel
theorem dX3_beginWith_25 : decode cX3_beginWith 25 = .ok (.iinc 3 1, 3) := by decide +kernel
theorem dX3_beginWith_28 : decode cX3_beginWith 28 = .ok (.goto (-26), 3) := by decide +kernel
theorem dX3_beginWith_31 : decode cX3_beginWith 31 = .ok (.return_, 1) := by decide +kernel
theorem dX3_makeChecks_0 : decode cX3_makeChecks 0 = .ok (.iconst 0, 1) := by decide +kernel
theorem dX3_makeChecks_1 : decode cX3_makeChecks 1 = .ok (.istore_n 1, 1) := by decide +kernel
theorem dX3_makeChecks_2 : decode cX3_makeChecks 2 = .ok (.iload_n 1, 1) := by decide +kernel
theorem dX3_makeChecks_3 : decode cX3_makeChecks 3 = .ok (.aload_n 0, 1) := by decide +kernel
theorem dX3_makeChecks_4 : decode cX3_makeChecks 4 = .ok (.getfield 9, 3) := by decide +kernel
theorem dX3_makeChecks_7 : decode cX3_makeChecks 7 = .ok (.if_icmp .ge 30, 3) := by decide +kernel
theorem dX3_makeChecks_10 : decode cX3_makeChecks 10 = .ok (.aload_n 0, 1) := by decide +kernel
theorem dX3_makeChecks_11 : decode cX3_makeChecks 11 = .ok (.getfield 19, 3) := by decide +kernel
theorem dX3_makeChecks_14 : decode cX3_makeChecks 14 = .ok (.iload_n 1, 1) := by decide +kernel
theorem dX3_makeChecks_15 : decode cX3_makeChecks 15 = .ok (.iload_n 1, 1) := by decide +kernel
theorem dX3_makeChecks_16 : decode cX3_makeChecks 16 = .ok (.aload_n 0, 1) := by decide +kernel
theorem dX3_makeChecks_17 : decode cX3_makeChecks 17 = .ok (.getfield 9, 3) := by decide +kernel
theorem dX3_makeChecks_20 : decode cX3_makeChecks 20 = .ok (.iconst 4, 1) := by decide +kernel
theorem dX3_makeChecks_21 : decode cX3_makeChecks 21 = .ok (.isub, 1) := by decide +kernel
theorem dX3_makeChecks_22 : decode cX3_makeChecks 22 = .ok (.if_icmp .lt 7, 3) := by decide +kernel
theorem dX3_makeChecks_25 : decode cX3_makeChecks 25 = .ok (.iconst 1, 1) := by decide +kernel
theorem dX3_makeChecks_26 : decode cX3_makeChecks 26 = .ok (.goto 4, 3) := by decide +kernel
theorem dX3_makeChecks_29 : decode cX3_makeChecks 29 = .ok (.iconst 0, 1) := by decide +kernel
theorem dX3_makeChecks_30 : decode cX3_makeChecks 30 = .ok (.bastore, 1) := by decide +kernel
theorem dX3_makeChecks_31 : decode cX3_makeChecks 31 = .ok (.iinc 1 1, 3) := by decide +kernel
theorem dX3_makeChecks_34 : decode cX3_makeChecks 34 = .ok (.goto (-32), 3) := by decide +kernel
theorem dX3_makeChecks_37 : decode cX3_makeChecks 37 = .ok (.aload_n 0, 1) := by decide +kernel
theorem dX3_makeChecks_38 : decode cX3_makeChecks 38 = .ok (.invokevirtual 44, 3) := by decide +kernel
theorem dX3_makeChecks_41 : decode cX3_makeChecks 41 = .ok (.pop, 1) := by decide +kernel
theorem dX3_makeChecks_42 : decode cX3_makeChecks 42 = .ok (.return_, 1) := by decide +kernel
theorem dX3_isWord_0 : decode cX3_isWord 0 = .ok (.aload_n 0, 1) := by decide +kernel
theorem dX3_isWord_1 : decode cX3_isWord 1 = .ok (.invokevirtual 48, 3) := by decide +kernel
theorem dX3_isWord_4 : decode cX3_isWord 4 = .ok (.iconst 0, 1) := by decide +kernel
theorem dX3_isWord_5 : decode cX3_isWord 5 = .ok (.istore_n 1, 1) := by decide +kernel
theorem dX3_isWord_6 : decode cX3_isWord 6 = .ok (.iload_n 1, 1) := by decide +kernel
theorem dX3_isWord_7 : decode cX3_isWord 7 = .ok (.iconst 4, 1) := by decide +kernel
theorem dX3_isWord_8 : decode cX3_isWord 8 = .ok (.if_icmp .ge 20, 3) := by decide +kernel
theorem dX3_isWord_11 : decode cX3_isWord 11 = .ok (.aload_n 0, 1) := by decide +kernel
theorem dX3_isWord_12 : decode cX3_isWord 12 = .ok (.getfield 26, 3) := by decide +kernel
theorem dX3_isWord_15 : decode cX3_isWord 15 = .ok (.iload_n 1, 1) := by decide +kernel
theorem dX3_isWord_16 : decode cX3_isWord 16 = .ok (.iaload, 1) := by decide +kernel
theorem dX3_isWord_17 : decode cX3_isWord 17 = .ok (.ifCond .eq 5, 3) := by decide +kernel
theorem dX3_isWord_20 : decode cX3_isWord 20 = .ok (.iconst 0, 1) := by decide +kernel
theorem dX3_isWord_21 : decode cX3_isWord 21 = .ok (.ireturn, 1) := by decide +kernel
theorem dX3_isWord_22 : decode cX3_isWord 22 = .ok (.iinc 1 1, 3) := by decide +kernel
theorem dX3_isWord_25 : decode cX3_isWord 25 = .ok (.goto (-19), 3) := by decide +kernel
theorem dX3_isWord_28 : decode cX3_isWord 28 = .ok (.iconst 1, 1) := by decide +kernel
theorem dX3_isWord_29 : decode cX3_isWord 29 = .ok (.ireturn, 1) := by decide +kernel
theorem dX3_makeSums_0 : decode cX3_makeSums 0 = .ok (.iconst 1, 1) := by decide +kernel
theorem dX3_makeSums_1 : decode cX3_makeSums 1 = .ok (.istore_n 1, 1) := by decide +kernel
theorem dX3_makeSums_2 : decode cX3_makeSums 2 = .ok (.iconst 0, 1) := by decide +kernel
theorem dX3_makeSums_3 : decode cX3_makeSums 3 = .ok (.istore_n 2, 1) := by decide +kernel
theorem dX3_makeSums_4 : decode cX3_makeSums 4 = .ok (.iload_n 2, 1) := by decide +kernel
theorem dX3_makeSums_5 : decode cX3_makeSums 5 = .ok (.iconst 4, 1) := by decide +kernel
theorem dX3_makeSums_6 : decode cX3_makeSums 6 = .ok (.if_icmp .ge 56, 3) := by decide +kernel
theorem dX3_makeSums_9 : decode cX3_makeSums 9 = .ok (.iconst 0, 1) := by decide +kernel
theorem dX3_makeSums_10 : decode cX3_makeSums 10 = .ok (.istore_n 3, 1) := by decide +kernel
theorem dX3_makeSums_11 : decode cX3_makeSums 11 = .ok (.iconst 0, 1) := by decide +kernel
theorem dX3_makeSums_12 : decode cX3_makeSums 12 = .ok (.istore 4, 2) := by decide +kernel
theorem dX3_makeSums_14 : decode cX3_makeSums 14 = .ok (.iload 4, 2) := by decide +kernel
theorem dX3_makeSums_16 : decode cX3_makeSums 16 = .ok (.aload_n 0, 1) := by decide +kernel
theorem dX3_makeSums_17 : decode cX3_makeSums 17 = .ok (.getfield 9, 3) := by decide +kernel
theorem dX3_makeSums_20 : decode cX3_makeSums 20 = .ok (.if_icmp .ge 23, 3) := by decide +kernel
theorem dX3_makeSums_23 : decode cX3_makeSums 23 = .ok (.iload_n 3, 1) := by decide +kernel
theorem dX3_makeSums_24 : decode cX3_makeSums 24 = .ok (.iload_n 1, 1) := by decide +kernel
theorem dX3_makeSums_25 : decode cX3_makeSums 25 = .ok (.invokestatic 38, 3) := by decide +kernel
theorem dX3_makeSums_28 : decode cX3_makeSums 28 = .ok (.aload_n 0, 1) := by decide +kernel
theorem dX3_makeSums_29 : decode cX3_makeSums 29 = .ok (.getfield 15, 3) := by decide +kernel
theorem dX3_makeSums_32 : decode cX3_makeSums 32 = .ok (.iload 4, 2) := by decide +kernel
theorem dX3_makeSums_34 : decode cX3_makeSums 34 = .ok (.iaload, 1) := by decide +kernel
theorem dX3_makeSums_35 : decode cX3_makeSums 35 = .ok (.ixor, 1) := by decide +kernel
theorem dX3_makeSums_36 : decode cX3_makeSums 36 = .ok (.istore_n 3, 1) := by decide +kernel
theorem dX3_makeSums_37 : decode cX3_makeSums 37 = .ok (.iinc 4 1, 3) := by decide +kernel
theorem dX3_makeSums_40 : decode cX3_makeSums 40 = .ok (.goto (-26), 3) := by decide +kernel
theorem dX3_makeSums_43 : decode cX3_makeSums 43 = .ok (.aload_n 0, 1) := by decide +kernel
theorem dX3_makeSums_44 : decode cX3_makeSums 44 = .ok (.getfield 26, 3) := by decide +kernel
theorem dX3_makeSums_47 : decode cX3_makeSums 47 = .ok (.iload_n 2, 1) := by decide +kernel
theorem dX3_makeSums_48 : decode cX3_makeSums 48 = .ok (.iload_n 3, 1) := by decide +kernel
theorem dX3_makeSums_49 : decode cX3_makeSums 49 = .ok (.iastore, 1) := by decide +kernel
theorem dX3_makeSums_50 : decode cX3_makeSums 50 = .ok (.iload_n 1, 1) := by decide +kernel
theorem dX3_makeSums_51 : decode cX3_makeSums 51 = .ok (.iconst 2, 1) := by decide +kernel
theorem dX3_makeSums_52 : decode cX3_makeSums 52 = .ok (.invokestatic 38, 3) := by decide +kernel
theorem dX3_makeSums_55 : decode cX3_makeSums 55 = .ok (.istore_n 1, 1) := by decide +kernel
theorem dX3_makeSums_56 : decode cX3_makeSums 56 = .ok (.iinc 2 1, 3) := by decide +kernel
theorem dX3_makeSums_59 : decode cX3_makeSums 59 = .ok (.goto (-55), 3) := by decide +kernel
theorem dX3_makeSums_62 : decode cX3_makeSums 62 = .ok (.return_, 1) := by decide +kernel
theorem dX3_mendOne_0 : decode cX3_mendOne 0 = .ok (.aload_n 0, 1) := by decide +kernel
theorem dX3_mendOne_1 : decode cX3_mendOne 1 = .ok (.invokevirtual 51, 3) := by decide +kernel
theorem dX3_mendOne_4 : decode cX3_mendOne 4 = .ok (.ifCond .eq 5, 3) := by decide +kernel
theorem dX3_mendOne_7 : decode cX3_mendOne 7 = .ok (.iconst 0, 1) := by decide +kernel
theorem dX3_mendOne_8 : decode cX3_mendOne 8 = .ok (.ireturn, 1) := by decide +kernel
theorem dX3_mendOne_9 : decode cX3_mendOne 9 = .ok (.iconst 0, 1) := by decide +kernel
theorem dX3_mendOne_10 : decode cX3_mendOne 10 = .ok (.istore_n 1, 1) := by decide +kernel
theorem dX3_mendOne_11 : decode cX3_mendOne 11 = .ok (.iload_n 1, 1) := by decide +kernel
theorem dX3_mendOne_12 : decode cX3_mendOne 12 = .ok (.aload_n 0, 1) := by decide +kernel
theorem dX3_mendOne_13 : decode cX3_mendOne 13 = .ok (.getfield 9, 3) := by decide +kernel
theorem dX3_mendOne_16 : decode cX3_mendOne 16 = .ok (.if_icmp .ge 34, 3) := by decide +kernel
theorem dX3_mendOne_19 : decode cX3_mendOne 19 = .ok (.aload_n 0, 1) := by decide +kernel
theorem dX3_mendOne_20 : decode cX3_mendOne 20 = .ok (.iload_n 1, 1) := by decide +kernel
theorem dX3_mendOne_21 : decode cX3_mendOne 21 = .ok (.invokevirtual 54, 3) := by decide +kernel
theorem dX3_mendOne_24 : decode cX3_mendOne 24 = .ok (.ifCond .eq 20, 3) := by decide +kernel
theorem dX3_mendOne_27 : decode cX3_mendOne 27 = .ok (.aload_n 0, 1) := by decide +kernel
theorem dX3_mendOne_28 : decode cX3_mendOne 28 = .ok (.getfield 15, 3) := by decide +kernel
theorem dX3_mendOne_31 : decode cX3_mendOne 31 = .ok (.iload_n 1, 1) := by decide +kernel
theorem dX3_mendOne_32 : decode cX3_mendOne 32 = .ok (.dup2, 1) := by decide +kernel
theorem dX3_mendOne_33 : decode cX3_mendOne 33 = .ok (.iaload, 1) := by decide +kernel
theorem dX3_mendOne_34 : decode cX3_mendOne 34 = .ok (.aload_n 0, 1) := by decide +kernel
theorem dX3_mendOne_35 : decode cX3_mendOne 35 = .ok (.getfield 26, 3) := by decide +kernel
theorem dX3_mendOne_38 : decode cX3_mendOne 38 = .ok (.iconst 0, 1) := by decide +kernel
theorem dX3_mendOne_39 : decode cX3_mendOne 39 = .ok (.iaload, 1) := by decide +kernel
theorem dX3_mendOne_40 : decode cX3_mendOne 40 = .ok (.ixor, 1) := by decide +kernel
theorem dX3_mendOne_41 : decode cX3_mendOne 41 = .ok (.iastore, 1) := by decide +kernel
theorem dX3_mendOne_42 : decode cX3_mendOne 42 = .ok (.iconst 1, 1) := by decide +kernel
theorem dX3_mendOne_43 : decode cX3_mendOne 43 = .ok (.ireturn, 1) := by decide +kernel
theorem dX3_mendOne_44 : decode cX3_mendOne 44 = .ok (.iinc 1 1, 3) := by decide +kernel
theorem dX3_mendOne_47 : decode cX3_mendOne 47 = .ok (.goto (-36), 3) := by decide +kernel
theorem dX3_mendOne_50 : decode cX3_mendOne 50 = .ok (.iconst 0, 1) := by decide +kernel
theorem dX3_mendOne_51 : decode cX3_mendOne 51 = .ok (.ireturn, 1) := by decide +kernel
theorem dX3_isOnlyFault_0 : decode cX3_isOnlyFault 0 = .ok (.aload_n 0, 1) := by decide +kernel
theorem dX3_isOnlyFault_1 : decode cX3_isOnlyFault 1 = .ok (.getfield 26, 3) := by decide +kernel
theorem dX3_isOnlyFault_4 : decode cX3_isOnlyFault 4 = .ok (.iconst 0, 1) := by decide +kernel
theorem dX3_isOnlyFault_5 : decode cX3_isOnlyFault 5 = .ok (.iaload, 1) := by decide +kernel
theorem dX3_isOnlyFault_6 : decode cX3_isOnlyFault 6 = .ok (.istore_n 2, 1) := by decide +kernel
theorem dX3_isOnlyFault_7 : decode cX3_isOnlyFault 7 = .ok (.iconst 1, 1) := by decide +kernel
theorem dX3_isOnlyFault_8 : decode cX3_isOnlyFault 8 = .ok (.istore_n 3, 1) := by decide +kernel
theorem dX3_isOnlyFault_9 : decode cX3_isOnlyFault 9 = .ok (.iload_n 3, 1) := by decide +kernel
theorem dX3_isOnlyFault_10 : decode cX3_isOnlyFault 10 = .ok (.iconst 4, 1) := by decide +kernel
theorem dX3_isOnlyFault_11 : decode cX3_isOnlyFault 11 = .ok (.if_icmp .ge 32, 3) := by decide +kernel
theorem dX3_isOnlyFault_14 : decode cX3_isOnlyFault 14 = .ok (.iload_n 2, 1) := by decide +kernel
theorem dX3_isOnlyFault_15 : decode cX3_isOnlyFault 15 = .ok (.aload_n 0, 1) := by decide +kernel
theorem dX3_isOnlyFault_16 : decode cX3_isOnlyFault 16 = .ok (.getfield 23, 3) := by decide +kernel
theorem dX3_isOnlyFault_19 : decode cX3_isOnlyFault 19 = .ok (.iload_n 1, 1) := by decide +kernel
theorem dX3_isOnlyFault_20 : decode cX3_isOnlyFault 20 = .ok (.iaload, 1) := by decide +kernel
theorem dX3_isOnlyFault_21 : decode cX3_isOnlyFault 21 = .ok (.invokestatic 38, 3) := by decide +kernel
theorem dX3_isOnlyFault_24 : decode cX3_isOnlyFault 24 = .ok (.istore_n 2, 1) := by decide +kernel
theorem dX3_isOnlyFault_25 : decode cX3_isOnlyFault 25 = .ok (.iload_n 2, 1) := by decide +kernel
theorem dX3_isOnlyFault_26 : decode cX3_isOnlyFault 26 = .ok (.aload_n 0, 1) := by decide +kernel
theorem dX3_isOnlyFault_27 : decode cX3_isOnlyFault 27 = .ok (.getfield 26, 3) := by decide +kernel
theorem dX3_isOnlyFault_30 : decode cX3_isOnlyFault 30 = .ok (.iload_n 3, 1) := by decide +kernel
theorem dX3_isOnlyFault_31 : decode cX3_isOnlyFault 31 = .ok (.iaload, 1) := by decide +kernel
theorem dX3_isOnlyFault_32 : decode cX3_isOnlyFault 32 = .ok (.if_icmp .eq 5, 3) := by decide +kernel
theorem dX3_isOnlyFault_35 : decode cX3_isOnlyFault 35 = .ok (.iconst 0, 1) := by decide +kernel
theorem dX3_isOnlyFault_36 : decode cX3_isOnlyFault 36 = .ok (.ireturn, 1) := by decide +kernel
theorem dX3_isOnlyFault_37 : decode cX3_isOnlyFault 37 = .ok (.iinc 3 1, 3) := by decide +kernel
theorem dX3_isOnlyFault_40 : decode cX3_isOnlyFault 40 = .ok (.goto (-31), 3) := by decide +kernel
theorem dX3_isOnlyFault_43 : decode cX3_isOnlyFault 43 = .ok (.iconst 1, 1) := by decide +kernel
theorem dX3_isOnlyFault_44 : decode cX3_isOnlyFault 44 = .ok (.ireturn, 1) := by decide +kernel
theorem dX3_countDoubted_0 : decode cX3_countDoubted 0 = .ok (.iconst 0, 1) := by decide +kernel
theorem dX3_countDoubted_1 : decode cX3_countDoubted 1 = .ok (.istore_n 1, 1) := by decide +kernel
theorem dX3_countDoubted_2 : decode cX3_countDoubted 2 = .ok (.iconst 0, 1) := by decide +kernel
theorem dX3_countDoubted_3 : decode cX3_countDoubted 3 = .ok (.istore_n 2, 1) := by decide +kernel
theorem dX3_countDoubted_4 : decode cX3_countDoubted 4 = .ok (.iload_n 2, 1) := by decide +kernel
theorem dX3_countDoubted_5 : decode cX3_countDoubted 5 = .ok (.aload_n 0, 1) := by decide +kernel
theorem dX3_countDoubted_6 : decode cX3_countDoubted 6 = .ok (.getfield 9, 3) := by decide +kernel
theorem dX3_countDoubted_9 : decode cX3_countDoubted 9 = .ok (.if_icmp .ge 21, 3) := by decide +kernel
theorem dX3_countDoubted_12 : decode cX3_countDoubted 12 = .ok (.aload_n 0, 1) := by decide +kernel
theorem dX3_countDoubted_13 : decode cX3_countDoubted 13 = .ok (.getfield 19, 3) := by decide +kernel
theorem dX3_countDoubted_16 : decode cX3_countDoubted 16 = .ok (.iload_n 2, 1) := by decide +kernel
theorem dX3_countDoubted_17 : decode cX3_countDoubted 17 = .ok (.baload, 1) := by decide +kernel
theorem dX3_countDoubted_18 : decode cX3_countDoubted 18 = .ok (.ifCond .eq 6, 3) := by decide +kernel
theorem dX3_countDoubted_21 : decode cX3_countDoubted 21 = .ok (.iinc 1 1, 3) := by decide +kernel
theorem dX3_countDoubted_24 : decode cX3_countDoubted 24 = .ok (.iinc 2 1, 3) := by decide +kernel
theorem dX3_countDoubted_27 : decode cX3_countDoubted 27 = .ok (.goto (-23), 3) := by decide +kernel
theorem dX3_countDoubted_30 : decode cX3_countDoubted 30 = .ok (.iload_n 1, 1) := by decide +kernel
theorem dX3_countDoubted_31 : decode cX3_countDoubted 31 = .ok (.ireturn, 1) := by decide +kernel
theorem dX3_fillDoubted_0 : decode cX3_fillDoubted 0 = .ok (.aload_n 0, 1) := by decide +kernel
theorem dX3_fillDoubted_1 : decode cX3_fillDoubted 1 = .ok (.invokevirtual 58, 3) := by decide +kernel
theorem dX3_fillDoubted_4 : decode cX3_fillDoubted 4 = .ok (.istore_n 1, 1) := by decide +kernel
theorem dX3_fillDoubted_5 : decode cX3_fillDoubted 5 = .ok (.iload_n 1, 1) := by decide +kernel
theorem dX3_fillDoubted_6 : decode cX3_fillDoubted 6 = .ok (.iconst 4, 1) := by decide +kernel
theorem dX3_fillDoubted_7 : decode cX3_fillDoubted 7 = .ok (.if_icmp .le 5, 3) := by decide +kernel
theorem dX3_fillDoubted_10 : decode cX3_fillDoubted 10 = .ok (.iconst 0, 1) := by decide +kernel
theorem dX3_fillDoubted_11 : decode cX3_fillDoubted 11 = .ok (.ireturn, 1) := by decide +kernel
theorem dX3_fillDoubted_12 : decode cX3_fillDoubted 12 = .ok (.aload_n 0, 1) := by decide +kernel
theorem dX3_fillDoubted_13 : decode cX3_fillDoubted 13 = .ok (.invokevirtual 62, 3) := by decide +kernel
theorem dX3_fillDoubted_16 : decode cX3_fillDoubted 16 = .ok (.aload_n 0, 1) := by decide +kernel
theorem dX3_fillDoubted_17 : decode cX3_fillDoubted 17 = .ok (.invokevirtual 48, 3) := by decide +kernel
theorem dX3_fillDoubted_20 : decode cX3_fillDoubted 20 = .ok (.iconst 0, 1) := by decide +kernel
theorem dX3_fillDoubted_21 : decode cX3_fillDoubted 21 = .ok (.istore_n 2, 1) := by decide +kernel
theorem dX3_fillDoubted_22 : decode cX3_fillDoubted 22 = .ok (.iload_n 2, 1) := by decide +kernel
theorem dX3_fillDoubted_23 : decode cX3_fillDoubted 23 = .ok (.iload_n 1, 1) := by decide +kernel
theorem dX3_fillDoubted_24 : decode cX3_fillDoubted 24 = .ok (.if_icmp .ge 21, 3) := by decide +kernel
theorem dX3_fillDoubted_27 : decode cX3_fillDoubted 27 = .ok (.aload_n 0, 1) := by decide +kernel
theorem dX3_fillDoubted_28 : decode cX3_fillDoubted 28 = .ok (.getfield 32, 3) := by decide +kernel
theorem dX3_fillDoubted_31 : decode cX3_fillDoubted 31 = .ok (.iload_n 2, 1) := by decide +kernel
theorem dX3_fillDoubted_32 : decode cX3_fillDoubted 32 = .ok (.aload_n 0, 1) := by decide +kernel
theorem dX3_fillDoubted_33 : decode cX3_fillDoubted 33 = .ok (.iload_n 2, 1) := by decide +kernel
theorem dX3_fillDoubted_34 : decode cX3_fillDoubted 34 = .ok (.iload_n 1, 1) := by decide +kernel
theorem dX3_fillDoubted_35 : decode cX3_fillDoubted 35 = .ok (.invokevirtual 65, 3) := by decide +kernel
theorem dX3_fillDoubted_38 : decode cX3_fillDoubted 38 = .ok (.iastore, 1) := by decide +kernel
theorem dX3_fillDoubted_39 : decode cX3_fillDoubted 39 = .ok (.iinc 2 1, 3) := by decide +kernel
theorem dX3_fillDoubted_42 : decode cX3_fillDoubted 42 = .ok (.goto (-20), 3) := by decide +kernel
theorem dX3_fillDoubted_45 : decode cX3_fillDoubted 45 = .ok (.aload_n 0, 1) := by decide +kernel
theorem dX3_fillDoubted_46 : decode cX3_fillDoubted 46 = .ok (.iload_n 1, 1) := by decide +kernel
theorem dX3_fillDoubted_47 : decode cX3_fillDoubted 47 = .ok (.invokevirtual 68, 3) := by decide +kernel
theorem dX3_fillDoubted_50 : decode cX3_fillDoubted 50 = .ok (.aload_n 0, 1) := by decide +kernel
theorem dX3_fillDoubted_51 : decode cX3_fillDoubted 51 = .ok (.invokevirtual 51, 3) := by decide +kernel
theorem dX3_fillDoubted_54 : decode cX3_fillDoubted 54 = .ok (.ifCond .eq 5, 3) := by decide +kernel
theorem dX3_fillDoubted_57 : decode cX3_fillDoubted 57 = .ok (.iconst 1, 1) := by decide +kernel
theorem dX3_fillDoubted_58 : decode cX3_fillDoubted 58 = .ok (.ireturn, 1) := by decide +kernel
theorem dX3_fillDoubted_59 : decode cX3_fillDoubted 59 = .ok (.aload_n 0, 1) := by decide +kernel
theorem dX3_fillDoubted_60 : decode cX3_fillDoubted 60 = .ok (.iload_n 1, 1) := by decide +kernel
theorem dX3_fillDoubted_61 : decode cX3_fillDoubted 61 = .ok (.invokevirtual 68, 3) := by decide +kernel
theorem dX3_fillDoubted_64 : decode cX3_fillDoubted 64 = .ok (.iconst 0, 1) := by decide +kernel
theorem dX3_fillDoubted_65 : decode cX3_fillDoubted 65 = .ok (.ireturn, 1) := by decide +kernel
theorem dX3_listDoubted_0 : decode cX3_listDoubted 0 = .ok (.iconst 0, 1) := by decide +kernel
theorem dX3_listDoubted_1 : decode cX3_listDoubted 1 = .ok (.istore_n 1, 1) := by decide +kernel
theorem dX3_listDoubted_2 : decode cX3_listDoubted 2 = .ok (.iconst 0, 1) := by decide +kernel
theorem dX3_listDoubted_3 : decode cX3_listDoubted 3 = .ok (.istore_n 2, 1) := by decide +kernel
theorem dX3_listDoubted_4 : decode cX3_listDoubted 4 = .ok (.iload_n 2, 1) := by decide +kernel
theorem dX3_listDoubted_5 : decode cX3_listDoubted 5 = .ok (.aload_n 0, 1) := by decide +kernel
theorem dX3_listDoubted_6 : decode cX3_listDoubted 6 = .ok (.getfield 9, 3) := by decide +kernel
theorem dX3_listDoubted_9 : decode cX3_listDoubted 9 = .ok (.if_icmp .ge 33, 3) := by decide +kernel
theorem dX3_listDoubted_12 : decode cX3_listDoubted 12 = .ok (.aload_n 0, 1) := by decide +kernel
theorem dX3_listDoubted_13 : decode cX3_listDoubted 13 = .ok (.getfield 19, 3) := by decide +kernel
theorem dX3_listDoubted_16 : decode cX3_listDoubted 16 = .ok (.iload_n 2, 1) := by decide +kernel
theorem dX3_listDoubted_17 : decode cX3_listDoubted 17 = .ok (.baload, 1) := by decide +kernel
theorem dX3_listDoubted_18 : decode cX3_listDoubted 18 = .ok (.ifCond .eq 18, 3) := by decide +kernel
theorem dX3_listDoubted_21 : decode cX3_listDoubted 21 = .ok (.iload_n 1, 1) := by decide +kernel
theorem dX3_listDoubted_22 : decode cX3_listDoubted 22 = .ok (.iconst 4, 1) := by decide +kernel
theorem dX3_listDoubted_23 : decode cX3_listDoubted 23 = .ok (.if_icmp .ge 13, 3) := by decide +kernel
theorem dX3_listDoubted_26 : decode cX3_listDoubted 26 = .ok (.aload_n 0, 1) := by decide +kernel
theorem dX3_listDoubted_27 : decode cX3_listDoubted 27 = .ok (.getfield 29, 3) := by decide +kernel
theorem dX3_listDoubted_30 : decode cX3_listDoubted 30 = .ok (.iload_n 1, 1) := by decide +kernel
theorem dX3_listDoubted_31 : decode cX3_listDoubted 31 = .ok (.iload_n 2, 1) := by decide +kernel
theorem dX3_listDoubted_32 : decode cX3_listDoubted 32 = .ok (.iastore, 1) := by decide +kernel
theorem dX3_listDoubted_33 : decode cX3_listDoubted 33 = .ok (.iinc 1 1, 3) := by decide +kernel
theorem dX3_listDoubted_36 : decode cX3_listDoubted 36 = .ok (.iinc 2 1, 3) := by decide +kernel
theorem dX3_listDoubted_39 : decode cX3_listDoubted 39 = .ok (.goto (-35), 3) := by decide +kernel
theorem dX3_listDoubted_42 : decode cX3_listDoubted 42 = .ok (.return_, 1) := by decide +kernel
theorem dX3_addChanges_0 : decode cX3_addChanges 0 = .ok (.iconst 0, 1) := by decide +kernel
theorem dX3_addChanges_1 : decode cX3_addChanges 1 = .ok (.istore_n 2, 1) := by decide +kernel
theorem dX3_addChanges_2 : decode cX3_addChanges 2 = .ok (.iload_n 2, 1) := by decide +kernel
theorem dX3_addChanges_3 : decode cX3_addChanges 3 = .ok (.iload_n 1, 1) := by decide +kernel
theorem dX3_addChanges_4 : decode cX3_addChanges 4 = .ok (.if_icmp .ge 29, 3) := by decide +kernel
theorem dX3_addChanges_7 : decode cX3_addChanges 7 = .ok (.aload_n 0, 1) := by decide +kernel
theorem dX3_addChanges_8 : decode cX3_addChanges 8 = .ok (.getfield 15, 3) := by decide +kernel
theorem dX3_addChanges_11 : decode cX3_addChanges 11 = .ok (.aload_n 0, 1) := by decide +kernel
theorem dX3_addChanges_12 : decode cX3_addChanges 12 = .ok (.getfield 29, 3) := by decide +kernel
theorem dX3_addChanges_15 : decode cX3_addChanges 15 = .ok (.iload_n 2, 1) := by decide +kernel
theorem dX3_addChanges_16 : decode cX3_addChanges 16 = .ok (.iaload, 1) := by decide +kernel
theorem dX3_addChanges_17 : decode cX3_addChanges 17 = .ok (.dup2, 1) := by decide +kernel
theorem dX3_addChanges_18 : decode cX3_addChanges 18 = .ok (.iaload, 1) := by decide +kernel
theorem dX3_addChanges_19 : decode cX3_addChanges 19 = .ok (.aload_n 0, 1) := by decide +kernel
theorem dX3_addChanges_20 : decode cX3_addChanges 20 = .ok (.getfield 32, 3) := by decide +kernel
theorem dX3_addChanges_23 : decode cX3_addChanges 23 = .ok (.iload_n 2, 1) := by decide +kernel
theorem dX3_addChanges_24 : decode cX3_addChanges 24 = .ok (.iaload, 1) := by decide +kernel
theorem dX3_addChanges_25 : decode cX3_addChanges 25 = .ok (.ixor, 1) := by decide +kernel
theorem dX3_addChanges_26 : decode cX3_addChanges 26 = .ok (.iastore, 1) := by decide +kernel
theorem dX3_addChanges_27 : decode cX3_addChanges 27 = .ok (.iinc 2 1, 3) := by decide +kernel
theorem dX3_addChanges_30 : decode cX3_addChanges 30 = .ok (.goto (-28), 3) := by decide +kernel
theorem dX3_addChanges_33 : decode cX3_addChanges 33 = .ok (.return_, 1) := by decide +kernel
theorem dX3_changeAt_0 : decode cX3_changeAt 0 = .ok (.aload_n 0, 1) := by decide +kernel
theorem dX3_changeAt_1 : decode cX3_changeAt 1 = .ok (.getfield 23, 3) := by decide +kernel
theorem dX3_changeAt_4 : decode cX3_changeAt 4 = .ok (.aload_n 0, 1) := by decide +kernel
theorem dX3_changeAt_5 : decode cX3_changeAt 5 = .ok (.getfield 29, 3) := by decide +kernel
theorem dX3_changeAt_8 : decode cX3_changeAt 8 = .ok (.iload_n 1, 1) := by decide +kernel
theorem dX3_changeAt_9 : decode cX3_changeAt 9 = .ok (.iaload, 1) := by decide +kernel
theorem dX3_changeAt_10 : decode cX3_changeAt 10 = .ok (.iaload, 1) := by decide +kernel
theorem dX3_changeAt_11 : decode cX3_changeAt 11 = .ok (.istore_n 3, 1) := by decide +kernel
theorem dX3_changeAt_12 : decode cX3_changeAt 12 = .ok (.iconst 1, 1) := by decide +kernel
theorem dX3_changeAt_13 : decode cX3_changeAt 13 = .ok (.istore 4, 2) := by decide +kernel
theorem dX3_changeAt_15 : decode cX3_changeAt 15 = .ok (.aload_n 0, 1) := by decide +kernel
theorem dX3_changeAt_16 : decode cX3_changeAt 16 = .ok (.invokevirtual 72, 3) := by decide +kernel
theorem dX3_changeAt_19 : decode cX3_changeAt 19 = .ok (.iconst 0, 1) := by decide +kernel
theorem dX3_changeAt_20 : decode cX3_changeAt 20 = .ok (.istore 5, 2) := by decide +kernel
theorem dX3_changeAt_22 : decode cX3_changeAt 22 = .ok (.iload 5, 2) := by decide +kernel
theorem dX3_changeAt_24 : decode cX3_changeAt 24 = .ok (.iload_n 2, 1) := by decide +kernel
theorem dX3_changeAt_25 : decode cX3_changeAt 25 = .ok (.if_icmp .ge 46, 3) := by decide +kernel
theorem dX3_changeAt_28 : decode cX3_changeAt 28 = .ok (.iload 5, 2) := by decide +kernel
theorem dX3_changeAt_30 : decode cX3_changeAt 30 = .ok (.iload_n 1, 1) := by decide +kernel
theorem dX3_changeAt_31 : decode cX3_changeAt 31 = .ok (.if_icmp .eq 34, 3) := by decide +kernel
theorem dX3_changeAt_34 : decode cX3_changeAt 34 = .ok (.aload_n 0, 1) := by decide +kernel
theorem dX3_changeAt_35 : decode cX3_changeAt 35 = .ok (.getfield 23, 3) := by decide +kernel
theorem dX3_changeAt_38 : decode cX3_changeAt 38 = .ok (.aload_n 0, 1) := by decide +kernel
theorem dX3_changeAt_39 : decode cX3_changeAt 39 = .ok (.getfield 29, 3) := by decide +kernel
theorem dX3_changeAt_42 : decode cX3_changeAt 42 = .ok (.iload 5, 2) := by decide +kernel
theorem dX3_changeAt_44 : decode cX3_changeAt 44 = .ok (.iaload, 1) := by decide +kernel
theorem dX3_changeAt_45 : decode cX3_changeAt 45 = .ok (.iaload, 1) := by decide +kernel
theorem dX3_changeAt_46 : decode cX3_changeAt 46 = .ok (.istore 6, 2) := by decide +kernel
theorem dX3_changeAt_48 : decode cX3_changeAt 48 = .ok (.aload_n 0, 1) := by decide +kernel
theorem dX3_changeAt_49 : decode cX3_changeAt 49 = .ok (.iload 6, 2) := by decide +kernel
theorem dX3_changeAt_51 : decode cX3_changeAt 51 = .ok (.invokevirtual 75, 3) := by decide +kernel
theorem dX3_changeAt_54 : decode cX3_changeAt 54 = .ok (.iload 4, 2) := by decide +kernel
theorem dX3_changeAt_56 : decode cX3_changeAt 56 = .ok (.iload_n 3, 1) := by decide +kernel
theorem dX3_changeAt_57 : decode cX3_changeAt 57 = .ok (.iload 6, 2) := by decide +kernel
theorem dX3_changeAt_59 : decode cX3_changeAt 59 = .ok (.ixor, 1) := by decide +kernel
theorem dX3_changeAt_60 : decode cX3_changeAt 60 = .ok (.invokestatic 38, 3) := by decide +kernel
theorem dX3_changeAt_63 : decode cX3_changeAt 63 = .ok (.istore 4, 2) := by decide +kernel
theorem dX3_changeAt_65 : decode cX3_changeAt 65 = .ok (.iinc 5 1, 3) := by decide +kernel
theorem dX3_changeAt_68 : decode cX3_changeAt 68 = .ok (.goto (-46), 3) := by decide +kernel
theorem dX3_changeAt_71 : decode cX3_changeAt 71 = .ok (.aload_n 0, 1) := by decide +kernel
theorem dX3_changeAt_72 : decode cX3_changeAt 72 = .ok (.invokevirtual 78, 3) := by decide +kernel
theorem dX3_changeAt_75 : decode cX3_changeAt 75 = .ok (.iload 4, 2) := by decide +kernel
theorem dX3_changeAt_77 : decode cX3_changeAt 77 = .ok (.invokestatic 81, 3) := by decide +kernel
theorem dX3_changeAt_80 : decode cX3_changeAt 80 = .ok (.invokestatic 38, 3) := by decide +kernel
theorem dX3_changeAt_83 : decode cX3_changeAt 83 = .ok (.ireturn, 1) := by decide +kernel
theorem dX3_startWeights_0 : decode cX3_startWeights 0 = .ok (.aload_n 0, 1) := by decide +kernel
theorem dX3_startWeights_1 : decode cX3_startWeights 1 = .ok (.getfield 35, 3) := by decide +kernel
theorem dX3_startWeights_4 : decode cX3_startWeights 4 = .ok (.iconst 0, 1) := by decide +kernel
theorem dX3_startWeights_5 : decode cX3_startWeights 5 = .ok (.iconst 1, 1) := by decide +kernel
theorem dX3_startWeights_6 : decode cX3_startWeights 6 = .ok (.iastore, 1) := by decide +kernel
theorem dX3_startWeights_7 : decode cX3_startWeights 7 = .ok (.iconst 1, 1) := by decide +kernel
theorem dX3_startWeights_8 : decode cX3_startWeights 8 = .ok (.istore_n 1, 1) := by decide +kernel
theorem dX3_startWeights_9 : decode cX3_startWeights 9 = .ok (.iload_n 1, 1) := by decide +kernel
theorem dX3_startWeights_10 : decode cX3_startWeights 10 = .ok (.iconst 4, 1) := by decide +kernel
theorem dX3_startWeights_11 : decode cX3_startWeights 11 = .ok (.if_icmp .ge 16, 3) := by decide +kernel
theorem dX3_startWeights_14 : decode cX3_startWeights 14 = .ok (.aload_n 0, 1) := by decide +kernel
theorem dX3_startWeights_15 : decode cX3_startWeights 15 = .ok (.getfield 35, 3) := by decide +kernel
theorem dX3_startWeights_18 : decode cX3_startWeights 18 = .ok (.iload_n 1, 1) := by decide +kernel
theorem dX3_startWeights_19 : decode cX3_startWeights 19 = .ok (.iconst 0, 1) := by decide +kernel
theorem dX3_startWeights_20 : decode cX3_startWeights 20 = .ok (.iastore, 1) := by decide +kernel
theorem dX3_startWeights_21 : decode cX3_startWeights 21 = .ok (.iinc 1 1, 3) := by decide +kernel
theorem dX3_startWeights_24 : decode cX3_startWeights 24 = .ok (.goto (-15), 3) := by decide +kernel
theorem dX3_startWeights_27 : decode cX3_startWeights 27 = .ok (.return_, 1) := by decide +kernel
theorem dX3_addRoot_0 : decode cX3_addRoot 0 = .ok (.iconst 3, 1) := by decide +kernel
theorem dX3_addRoot_1 : decode cX3_addRoot 1 = .ok (.istore_n 2, 1) := by decide +kernel
theorem dX3_addRoot_2 : decode cX3_addRoot 2 = .ok (.iload_n 2, 1) := by decide +kernel
theorem dX3_addRoot_3 : decode cX3_addRoot 3 = .ok (.ifCond .le 34, 3) := by decide +kernel
theorem dX3_addRoot_6 : decode cX3_addRoot 6 = .ok (.aload_n 0, 1) := by decide +kernel
theorem dX3_addRoot_7 : decode cX3_addRoot 7 = .ok (.getfield 35, 3) := by decide +kernel
theorem dX3_addRoot_10 : decode cX3_addRoot 10 = .ok (.iload_n 2, 1) := by decide +kernel
theorem dX3_addRoot_11 : decode cX3_addRoot 11 = .ok (.aload_n 0, 1) := by decide +kernel
theorem dX3_addRoot_12 : decode cX3_addRoot 12 = .ok (.getfield 35, 3) := by decide +kernel
theorem dX3_addRoot_15 : decode cX3_addRoot 15 = .ok (.iload_n 2, 1) := by decide +kernel
theorem dX3_addRoot_16 : decode cX3_addRoot 16 = .ok (.iaload, 1) := by decide +kernel
theorem dX3_addRoot_17 : decode cX3_addRoot 17 = .ok (.iload_n 1, 1) := by decide +kernel
theorem dX3_addRoot_18 : decode cX3_addRoot 18 = .ok (.invokestatic 38, 3) := by decide +kernel
theorem dX3_addRoot_21 : decode cX3_addRoot 21 = .ok (.aload_n 0, 1) := by decide +kernel
theorem dX3_addRoot_22 : decode cX3_addRoot 22 = .ok (.getfield 35, 3) := by decide +kernel
theorem dX3_addRoot_25 : decode cX3_addRoot 25 = .ok (.iload_n 2, 1) := by decide +kernel
theorem dX3_addRoot_26 : decode cX3_addRoot 26 = .ok (.iconst 1, 1) := by decide +kernel
theorem dX3_addRoot_27 : decode cX3_addRoot 27 = .ok (.isub, 1) := by decide +kernel
theorem dX3_addRoot_28 : decode cX3_addRoot 28 = .ok (.iaload, 1) := by decide +kernel
theorem dX3_addRoot_29 : decode cX3_addRoot 29 = .ok (.ixor, 1) := by decide +kernel
theorem dX3_addRoot_30 : decode cX3_addRoot 30 = .ok (.iastore, 1) := by decide +kernel
theorem dX3_addRoot_31 : decode cX3_addRoot 31 = .ok (.iinc 2 (-1), 3) := by decide +kernel
theorem dX3_addRoot_34 : decode cX3_addRoot 34 = .ok (.goto (-32), 3) := by decide +kernel
theorem dX3_addRoot_37 : decode cX3_addRoot 37 = .ok (.aload_n 0, 1) := by decide +kernel
theorem dX3_addRoot_38 : decode cX3_addRoot 38 = .ok (.getfield 35, 3) := by decide +kernel
theorem dX3_addRoot_41 : decode cX3_addRoot 41 = .ok (.iconst 0, 1) := by decide +kernel
theorem dX3_addRoot_42 : decode cX3_addRoot 42 = .ok (.aload_n 0, 1) := by decide +kernel
theorem dX3_addRoot_43 : decode cX3_addRoot 43 = .ok (.getfield 35, 3) := by decide +kernel
theorem dX3_addRoot_46 : decode cX3_addRoot 46 = .ok (.iconst 0, 1) := by decide +kernel
theorem dX3_addRoot_47 : decode cX3_addRoot 47 = .ok (.iaload, 1) := by decide +kernel
theorem dX3_addRoot_48 : decode cX3_addRoot 48 = .ok (.iload_n 1, 1) := by decide +kernel
theorem dX3_addRoot_49 : decode cX3_addRoot 49 = .ok (.invokestatic 38, 3) := by decide +kernel
theorem dX3_addRoot_52 : decode cX3_addRoot 52 = .ok (.iastore, 1) := by decide +kernel
theorem dX3_addRoot_53 : decode cX3_addRoot 53 = .ok (.return_, 1) := by decide +kernel
theorem dX3_weightedSums_0 : decode cX3_weightedSums 0 = .ok (.iconst 0, 1) := by decide +kernel
theorem dX3_weightedSums_1 : decode cX3_weightedSums 1 = .ok (.istore_n 1, 1) := by decide +kernel
theorem dX3_weightedSums_2 : decode cX3_weightedSums 2 = .ok (.iconst 0, 1) := by decide +kernel
theorem dX3_weightedSums_3 : decode cX3_weightedSums 3 = .ok (.istore_n 2, 1) := by decide +kernel
theorem dX3_weightedSums_4 : decode cX3_weightedSums 4 = .ok (.iload_n 2, 1) := by decide +kernel
theorem dX3_weightedSums_5 : decode cX3_weightedSums 5 = .ok (.iconst 4, 1) := by decide +kernel
theorem dX3_weightedSums_6 : decode cX3_weightedSums 6 = .ok (.if_icmp .ge 27, 3) := by decide +kernel
theorem dX3_weightedSums_9 : decode cX3_weightedSums 9 = .ok (.iload_n 1, 1) := by decide +kernel
theorem dX3_weightedSums_10 : decode cX3_weightedSums 10 = .ok (.aload_n 0, 1) := by decide +kernel
theorem dX3_weightedSums_11 : decode cX3_weightedSums 11 = .ok (.getfield 35, 3) := by decide +kernel
theorem dX3_weightedSums_14 : decode cX3_weightedSums 14 = .ok (.iload_n 2, 1) := by decide +kernel
theorem dX3_weightedSums_15 : decode cX3_weightedSums 15 = .ok (.iaload, 1) := by decide +kernel
theorem dX3_weightedSums_16 : decode cX3_weightedSums 16 = .ok (.aload_n 0, 1) := by decide +kernel
theorem dX3_weightedSums_17 : decode cX3_weightedSums 17 = .ok (.getfield 26, 3) := by decide +kernel
theorem dX3_weightedSums_20 : decode cX3_weightedSums 20 = .ok (.iload_n 2, 1) := by decide +kernel
theorem dX3_weightedSums_21 : decode cX3_weightedSums 21 = .ok (.iaload, 1) := by decide +kernel
theorem dX3_weightedSums_22 : decode cX3_weightedSums 22 = .ok (.invokestatic 38, 3) := by decide +kernel
theorem dX3_weightedSums_25 : decode cX3_weightedSums 25 = .ok (.ixor, 1) := by decide +kernel
theorem dX3_weightedSums_26 : decode cX3_weightedSums 26 = .ok (.istore_n 1, 1) := by decide +kernel
theorem dX3_weightedSums_27 : decode cX3_weightedSums 27 = .ok (.iinc 2 1, 3) := by decide +kernel
theorem dX3_weightedSums_30 : decode cX3_weightedSums 30 = .ok (.goto (-26), 3) := by decide +kernel
theorem dX3_weightedSums_33 : decode cX3_weightedSums 33 = .ok (.iload_n 1, 1) := by decide +kernel
theorem dX3_weightedSums_34 : decode cX3_weightedSums 34 = .ok (.ireturn, 1) := by decide +kernel
