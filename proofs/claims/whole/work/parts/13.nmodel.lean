def wsX6_init : List Cond := .code yX6_init cX6_init 1 none :: ([.methodLink RX6 1 objectInit, .instanceMethod objectInit, .code objectInit ⟨#[0xb1]⟩ 1 none, .arrayClass .int, .fieldLink RX6 7 "DiscCoderModel" "inner" "[I", .fieldLink RX6 13 "DiscCoderModel" "outer" "[I", .fieldLink RX6 16 "DiscCoderModel" "disc" "[I", .fieldLink RX6 19 "DiscCoderModel" "got" "[I", .fieldLink RX6 22 "DiscCoderModel" "right" "[I", .arrayClass .boolean, .fieldLink RX6 25 "DiscCoderModel" "doubted" "[Z", .fieldLink RX6 29 "DiscCoderModel" "output" "[I", .fieldLink RX6 32 "DiscCoderModel" "flags" "[Z", .fieldLink RX6 35 "DiscCoderModel" "word" "[I", .fieldLink RX6 38 "DiscCoderModel" "missing" "[Z", .fieldLink RX6 41 "DiscCoderModel" "rows" "[I", .fieldLink RX6 44 "DiscCoderModel" "places" "[I"] ++ wsX60)
def wsX6_thrown : List Cond := .code yX6_thrown cX6_thrown 1 (some .int) :: ([.fieldLink RX6 47 "DiscCoderModel" "code" "I"] ++ wsX60)
def wsX6_times : List Cond := .code yX6_times cX6_times 5 (some .int) :: ([])
def wsX6_power : List Cond := .code yX6_power cX6_power 3 (some .int) :: ([.methodLink RX6 51 yX6_times, .static yX6_times, .initialized RX6, .code yX6_times cX6_times 5 (some .int)])
def wsX6_inverse : List Cond := .code yX6_inverse cX6_inverse 3 (some .int) :: ([.methodLink RX6 51 yX6_times, .static yX6_times, .initialized RX6, .code yX6_times cX6_times 5 (some .int)])
def wsX6_sum : List Cond := .code yX6_sum cX6_sum 5 (some .int) :: ([.methodLink RX6 51 yX6_times, .static yX6_times, .initialized RX6, .code yX6_times cX6_times 5 (some .int), .fieldLink RX6 35 "DiscCoderModel" "word" "[I"] ++ wsX60)
def wsX6_isWord : List Cond := .code yX6_isWord cX6_isWord 2 (some .boolean) :: ([.methodLink RX6 55 yX6_sum, .instanceMethod yX6_sum, .selects RX6 yX6_sum yX6_sum, .initialized RX6, .code yX6_sum cX6_sum 5 (some .int), .methodLink RX6 51 yX6_times, .static yX6_times, .code yX6_times cX6_times 5 (some .int), .fieldLink RX6 35 "DiscCoderModel" "word" "[I"] ++ wsX60)
def wsX6_swap : List Cond := .code yX6_swap cX6_swap 5 none :: ([.fieldLink RX6 41 "DiscCoderModel" "rows" "[I"] ++ wsX60)
def wsX6_clear : List Cond := .code yX6_clear cX6_clear 7 none :: ([.fieldLink RX6 41 "DiscCoderModel" "rows" "[I", .methodLink RX6 58 yX6_swap, .instanceMethod yX6_swap, .selects RX6 yX6_swap yX6_swap, .initialized RX6, .code yX6_swap cX6_swap 5 none, .methodLink RX6 62 yX6_inverse, .static yX6_inverse, .code yX6_inverse cX6_inverse 3 (some .int), .methodLink RX6 51 yX6_times, .static yX6_times, .code yX6_times cX6_times 5 (some .int)] ++ wsX60)
def wsX6_fill : List Cond := .code yX6_fill cX6_fill 6 (some .boolean) :: ([.fieldLink RX6 38 "DiscCoderModel" "missing" "[Z", .fieldLink RX6 44 "DiscCoderModel" "places" "[I", .methodLink RX6 51 yX6_times, .static yX6_times, .initialized RX6, .code yX6_times cX6_times 5 (some .int), .fieldLink RX6 35 "DiscCoderModel" "word" "[I", .fieldLink RX6 41 "DiscCoderModel" "rows" "[I", .methodLink RX6 66 yX6_power, .static yX6_power, .code yX6_power cX6_power 3 (some .int), .methodLink RX6 69 yX6_clear, .instanceMethod yX6_clear, .selects RX6 yX6_clear yX6_clear, .code yX6_clear cX6_clear 7 none, .methodLink RX6 58 yX6_swap, .instanceMethod yX6_swap, .selects RX6 yX6_swap yX6_swap, .code yX6_swap cX6_swap 5 none, .methodLink RX6 62 yX6_inverse, .static yX6_inverse, .code yX6_inverse cX6_inverse 3 (some .int)] ++ wsX60)
def wsX6_finish : List Cond := .code yX6_finish cX6_finish 3 none :: ([.fieldLink RX6 38 "DiscCoderModel" "missing" "[Z", .methodLink RX6 73 yX6_fill, .instanceMethod yX6_fill, .selects RX6 yX6_fill yX6_fill, .initialized RX6, .code yX6_fill cX6_fill 6 (some .boolean), .fieldLink RX6 44 "DiscCoderModel" "places" "[I", .methodLink RX6 51 yX6_times, .static yX6_times, .code yX6_times cX6_times 5 (some .int), .fieldLink RX6 35 "DiscCoderModel" "word" "[I", .fieldLink RX6 41 "DiscCoderModel" "rows" "[I", .methodLink RX6 66 yX6_power, .static yX6_power, .code yX6_power cX6_power 3 (some .int), .methodLink RX6 69 yX6_clear, .instanceMethod yX6_clear, .selects RX6 yX6_clear yX6_clear, .code yX6_clear cX6_clear 7 none, .methodLink RX6 58 yX6_swap, .instanceMethod yX6_swap, .selects RX6 yX6_swap yX6_swap, .code yX6_swap cX6_swap 5 none, .methodLink RX6 62 yX6_inverse, .static yX6_inverse, .code yX6_inverse cX6_inverse 3 (some .int)] ++ wsX60)
def wsX6_loadData : List Cond := .code yX6_loadData cX6_loadData 4 none :: ([.fieldLink RX6 35 "DiscCoderModel" "word" "[I", .constantLong RX6 77 255] ++ wsX60)
def wsX6_feed : List Cond := .code yX6_feed cX6_feed 7 (some .int) :: ([.fieldLink RX6 79 "DiscCoderModel" "frames" "I", .fieldLink RX6 47 "DiscCoderModel" "code" "I", .methodLink RX6 82 yX6_loadData, .instanceMethod yX6_loadData, .selects RX6 yX6_loadData yX6_loadData, .initialized RX6, .code yX6_loadData cX6_loadData 4 none, .fieldLink RX6 35 "DiscCoderModel" "word" "[I", .constantLong RX6 77 255, .methodLink RX6 86 yX6_finish, .instanceMethod yX6_finish, .selects RX6 yX6_finish yX6_finish, .code yX6_finish cX6_finish 3 none, .fieldLink RX6 38 "DiscCoderModel" "missing" "[Z", .methodLink RX6 73 yX6_fill, .instanceMethod yX6_fill, .selects RX6 yX6_fill yX6_fill, .code yX6_fill cX6_fill 6 (some .boolean), .fieldLink RX6 44 "DiscCoderModel" "places" "[I", .methodLink RX6 51 yX6_times, .static yX6_times, .code yX6_times cX6_times 5 (some .int), .fieldLink RX6 41 "DiscCoderModel" "rows" "[I", .methodLink RX6 66 yX6_power, .static yX6_power, .code yX6_power cX6_power 3 (some .int), .methodLink RX6 69 yX6_clear, .instanceMethod yX6_clear, .selects RX6 yX6_clear yX6_clear, .code yX6_clear cX6_clear 7 none, .methodLink RX6 58 yX6_swap, .instanceMethod yX6_swap, .selects RX6 yX6_swap yX6_swap, .code yX6_swap cX6_swap 5 none, .methodLink RX6 62 yX6_inverse, .static yX6_inverse, .code yX6_inverse cX6_inverse 3 (some .int), .fieldLink RX6 7 "DiscCoderModel" "inner" "[I", .fieldLink RX6 13 "DiscCoderModel" "outer" "[I", .fieldLink RX6 16 "DiscCoderModel" "disc" "[I"] ++ wsX60)
def wsX6_rows : List Cond := .code yX6_rows cX6_rows 1 (some .int) :: ([.fieldLink RX6 47 "DiscCoderModel" "code" "I", .fieldLink RX6 79 "DiscCoderModel" "frames" "I"] ++ wsX60)
def wsX6_onDisc : List Cond := .code yX6_onDisc cX6_onDisc 3 (some .boolean) :: ([.fieldLink RX6 79 "DiscCoderModel" "frames" "I"] ++ wsX60)
def wsX6_isSymbol : List Cond := .code yX6_isSymbol cX6_isSymbol 1 (some .boolean) :: ([])
def wsX6_symbol : List Cond := .code yX6_symbol cX6_symbol 3 (some .int) :: ([.methodLink RX6 89 yX6_onDisc, .instanceMethod yX6_onDisc, .selects RX6 yX6_onDisc yX6_onDisc, .initialized RX6, .code yX6_onDisc cX6_onDisc 3 (some .boolean), .fieldLink RX6 79 "DiscCoderModel" "frames" "I", .fieldLink RX6 47 "DiscCoderModel" "code" "I", .fieldLink RX6 16 "DiscCoderModel" "disc" "[I"] ++ wsX60)
def wsX6_scratch : List Cond := .code yX6_scratch cX6_scratch 4 none :: ([.methodLink RX6 89 yX6_onDisc, .instanceMethod yX6_onDisc, .selects RX6 yX6_onDisc yX6_onDisc, .initialized RX6, .code yX6_onDisc cX6_onDisc 3 (some .boolean), .fieldLink RX6 79 "DiscCoderModel" "frames" "I", .methodLink RX6 93 yX6_isSymbol, .static yX6_isSymbol, .code yX6_isSymbol cX6_isSymbol 1 (some .boolean), .fieldLink RX6 96 "DiscCoderModel" "done" "I", .fieldLink RX6 47 "DiscCoderModel" "code" "I", .fieldLink RX6 16 "DiscCoderModel" "disc" "[I"] ++ wsX60)
def wsX6_burst : List Cond := .code yX6_burst cX6_burst 5 none :: ([.methodLink RX6 93 yX6_isSymbol, .static yX6_isSymbol, .initialized RX6, .code yX6_isSymbol cX6_isSymbol 1 (some .boolean), .fieldLink RX6 79 "DiscCoderModel" "frames" "I", .fieldLink RX6 96 "DiscCoderModel" "done" "I", .fieldLink RX6 47 "DiscCoderModel" "code" "I", .fieldLink RX6 16 "DiscCoderModel" "disc" "[I"] ++ wsX60)
def wsX6_mend : List Cond := .code yX6_mend cX6_mend 3 (some .int) :: ([.methodLink RX6 99 yX6_isWord, .instanceMethod yX6_isWord, .selects RX6 yX6_isWord yX6_isWord, .initialized RX6, .code yX6_isWord cX6_isWord 2 (some .boolean), .methodLink RX6 55 yX6_sum, .instanceMethod yX6_sum, .selects RX6 yX6_sum yX6_sum, .code yX6_sum cX6_sum 5 (some .int), .methodLink RX6 51 yX6_times, .static yX6_times, .code yX6_times cX6_times 5 (some .int), .fieldLink RX6 35 "DiscCoderModel" "word" "[I"] ++ wsX60)
def wsX6_gather : List Cond := .code yX6_gather cX6_gather 4 none :: ([.fieldLink RX6 35 "DiscCoderModel" "word" "[I", .fieldLink RX6 19 "DiscCoderModel" "got" "[I"] ++ wsX60)
def wsX6_read : List Cond := .code yX6_read cX6_read 6 (some .int) :: ([.fieldLink RX6 96 "DiscCoderModel" "done" "I", .fieldLink RX6 79 "DiscCoderModel" "frames" "I", .fieldLink RX6 47 "DiscCoderModel" "code" "I", .fieldLink RX6 19 "DiscCoderModel" "got" "[I", .fieldLink RX6 16 "DiscCoderModel" "disc" "[I", .methodLink RX6 102 yX6_gather, .instanceMethod yX6_gather, .selects RX6 yX6_gather yX6_gather, .initialized RX6, .code yX6_gather cX6_gather 4 none, .fieldLink RX6 35 "DiscCoderModel" "word" "[I", .methodLink RX6 105 yX6_mend, .instanceMethod yX6_mend, .selects RX6 yX6_mend yX6_mend, .code yX6_mend cX6_mend 3 (some .int), .methodLink RX6 99 yX6_isWord, .instanceMethod yX6_isWord, .selects RX6 yX6_isWord yX6_isWord, .code yX6_isWord cX6_isWord 2 (some .boolean), .methodLink RX6 55 yX6_sum, .instanceMethod yX6_sum, .selects RX6 yX6_sum yX6_sum, .code yX6_sum cX6_sum 5 (some .int), .methodLink RX6 51 yX6_times, .static yX6_times, .code yX6_times cX6_times 5 (some .int), .fieldLink RX6 109 "DiscCoderModel" "mended" "I", .fieldLink RX6 112 "DiscCoderModel" "doubts" "I", .fieldLink RX6 25 "DiscCoderModel" "doubted" "[Z", .fieldLink RX6 22 "DiscCoderModel" "right" "[I", .fieldLink RX6 38 "DiscCoderModel" "missing" "[Z", .methodLink RX6 73 yX6_fill, .instanceMethod yX6_fill, .selects RX6 yX6_fill yX6_fill, .code yX6_fill cX6_fill 6 (some .boolean), .fieldLink RX6 44 "DiscCoderModel" "places" "[I", .fieldLink RX6 41 "DiscCoderModel" "rows" "[I", .methodLink RX6 66 yX6_power, .static yX6_power, .code yX6_power cX6_power 3 (some .int), .methodLink RX6 69 yX6_clear, .instanceMethod yX6_clear, .selects RX6 yX6_clear yX6_clear, .code yX6_clear cX6_clear 7 none, .methodLink RX6 58 yX6_swap, .instanceMethod yX6_swap, .selects RX6 yX6_swap yX6_swap, .code yX6_swap cX6_swap 5 none, .methodLink RX6 62 yX6_inverse, .static yX6_inverse, .code yX6_inverse cX6_inverse 3 (some .int), .fieldLink RX6 115 "DiscCoderModel" "filled" "I", .fieldLink RX6 118 "DiscCoderModel" "lost" "I", .fieldLink RX6 29 "DiscCoderModel" "output" "[I", .fieldLink RX6 32 "DiscCoderModel" "flags" "[Z"] ++ wsX60)
def wsX6_isOut : List Cond := .code yX6_isOut cX6_isOut 2 (some .boolean) :: ([.fieldLink RX6 96 "DiscCoderModel" "done" "I"] ++ wsX60)
def wsX6_out : List Cond := .code yX6_out cX6_out 2 (some .int) :: ([.methodLink RX6 121 yX6_isOut, .instanceMethod yX6_isOut, .selects RX6 yX6_isOut yX6_isOut, .initialized RX6, .code yX6_isOut cX6_isOut 2 (some .boolean), .fieldLink RX6 96 "DiscCoderModel" "done" "I", .fieldLink RX6 47 "DiscCoderModel" "code" "I", .fieldLink RX6 29 "DiscCoderModel" "output" "[I"] ++ wsX60)
def wsX6_flagged : List Cond := .code yX6_flagged cX6_flagged 2 (some .boolean) :: ([.methodLink RX6 121 yX6_isOut, .instanceMethod yX6_isOut, .selects RX6 yX6_isOut yX6_isOut, .initialized RX6, .code yX6_isOut cX6_isOut 2 (some .boolean), .fieldLink RX6 96 "DiscCoderModel" "done" "I", .fieldLink RX6 47 "DiscCoderModel" "code" "I", .fieldLink RX6 32 "DiscCoderModel" "flags" "[Z"] ++ wsX60)
def wsX6_figure : List Cond := .code yX6_figure cX6_figure 2 (some .int) :: ([.fieldLink RX6 47 "DiscCoderModel" "code" "I", .fieldLink RX6 96 "DiscCoderModel" "done" "I", .fieldLink RX6 109 "DiscCoderModel" "mended" "I", .fieldLink RX6 112 "DiscCoderModel" "doubts" "I", .fieldLink RX6 115 "DiscCoderModel" "filled" "I", .fieldLink RX6 118 "DiscCoderModel" "lost" "I"] ++ wsX60)
def wsX6_check : List Cond := .code yX6_check cX6_check 4 (some .int) :: ([.fieldLink RX6 47 "DiscCoderModel" "code" "I", .methodLink RX6 82 yX6_loadData, .instanceMethod yX6_loadData, .selects RX6 yX6_loadData yX6_loadData, .initialized RX6, .code yX6_loadData cX6_loadData 4 none, .fieldLink RX6 35 "DiscCoderModel" "word" "[I", .constantLong RX6 77 255, .methodLink RX6 86 yX6_finish, .instanceMethod yX6_finish, .selects RX6 yX6_finish yX6_finish, .code yX6_finish cX6_finish 3 none, .fieldLink RX6 38 "DiscCoderModel" "missing" "[Z", .methodLink RX6 73 yX6_fill, .instanceMethod yX6_fill, .selects RX6 yX6_fill yX6_fill, .code yX6_fill cX6_fill 6 (some .boolean), .fieldLink RX6 44 "DiscCoderModel" "places" "[I", .methodLink RX6 51 yX6_times, .static yX6_times, .code yX6_times cX6_times 5 (some .int), .fieldLink RX6 41 "DiscCoderModel" "rows" "[I", .methodLink RX6 66 yX6_power, .static yX6_power, .code yX6_power cX6_power 3 (some .int), .methodLink RX6 69 yX6_clear, .instanceMethod yX6_clear, .selects RX6 yX6_clear yX6_clear, .code yX6_clear cX6_clear 7 none, .methodLink RX6 58 yX6_swap, .instanceMethod yX6_swap, .selects RX6 yX6_swap yX6_swap, .code yX6_swap cX6_swap 5 none, .methodLink RX6 62 yX6_inverse, .static yX6_inverse, .code yX6_inverse cX6_inverse 3 (some .int)] ++ wsX60)
def wsX6_product : List Cond := .code yX6_product cX6_product 3 (some .int) :: ([.methodLink RX6 93 yX6_isSymbol, .static yX6_isSymbol, .initialized RX6, .code yX6_isSymbol cX6_isSymbol 1 (some .boolean), .fieldLink RX6 47 "DiscCoderModel" "code" "I", .methodLink RX6 51 yX6_times, .static yX6_times, .code yX6_times cX6_times 5 (some .int)] ++ wsX60)
set_option maxRecDepth 20000 in
theorem ggX6_power_X6_times : GoodIn wsX6_power wsX6_times := goodIn_r _ [4] (by decide +kernel) (by decide +kernel)
theorem gX6_power_X6_times : GoodIn wsX6_power (va_wsS RX6 51 yX6_times wsX6_times) := goodIn_app (goodIn_of _ (by decide +kernel)) ggX6_power_X6_times
set_option maxRecDepth 20000 in
theorem ggX6_inverse_X6_times : GoodIn wsX6_inverse wsX6_times := goodIn_r _ [4] (by decide +kernel) (by decide +kernel)
theorem gX6_inverse_X6_times : GoodIn wsX6_inverse (va_wsS RX6 51 yX6_times wsX6_times) := goodIn_app (goodIn_of _ (by decide +kernel)) ggX6_inverse_X6_times
set_option maxRecDepth 20000 in
theorem ggX6_sum_X6_times : GoodIn wsX6_sum wsX6_times := goodIn_r _ [4] (by decide +kernel) (by decide +kernel)
theorem gX6_sum_X6_times : GoodIn wsX6_sum (va_wsS RX6 51 yX6_times wsX6_times) := goodIn_app (goodIn_of _ (by decide +kernel)) ggX6_sum_X6_times
set_option maxRecDepth 20000 in
theorem ggX6_isWord_X6_sum : GoodIn wsX6_isWord wsX6_sum := goodIn_r _ [5, 6, 7, 4, 8, 9, 10, 11, 12, 13, 14, 15, 16, 17, 18, 19, 20, 21, 22, 23, 24, 25, 26, 27, 28] (by decide +kernel) (by decide +kernel)
theorem gX6_isWord_X6_sum : GoodIn wsX6_isWord (wsV RX6 55 RX6 yX6_sum wsX6_sum) := goodIn_app (goodIn_of _ (by decide +kernel)) ggX6_isWord_X6_sum
set_option maxRecDepth 20000 in
theorem ggX6_clear_X6_swap : GoodIn wsX6_clear wsX6_swap := goodIn_r _ [6, 1, 13, 14, 15, 16, 17, 18, 19, 20, 21, 22, 23, 24, 25, 26, 27, 28, 29, 30, 31] (by decide +kernel) (by decide +kernel)
theorem gX6_clear_X6_swap : GoodIn wsX6_clear (wsV RX6 58 RX6 yX6_swap wsX6_swap) := goodIn_app (goodIn_of _ (by decide +kernel)) ggX6_clear_X6_swap
set_option maxRecDepth 20000 in
theorem ggX6_clear_X6_inverse : GoodIn wsX6_clear wsX6_inverse := goodIn_r _ [9, 10, 11, 5, 12] (by decide +kernel) (by decide +kernel)
theorem gX6_clear_X6_inverse : GoodIn wsX6_clear (va_wsS RX6 62 yX6_inverse wsX6_inverse) := goodIn_app (goodIn_of _ (by decide +kernel)) ggX6_clear_X6_inverse
set_option maxRecDepth 20000 in
theorem ggX6_clear_X6_times : GoodIn wsX6_clear wsX6_times := goodIn_r _ [12] (by decide +kernel) (by decide +kernel)
theorem gX6_clear_X6_times : GoodIn wsX6_clear (va_wsS RX6 51 yX6_times wsX6_times) := goodIn_app (goodIn_of _ (by decide +kernel)) ggX6_clear_X6_times
set_option maxRecDepth 20000 in
theorem ggX6_fill_X6_times : GoodIn wsX6_fill wsX6_times := goodIn_r _ [6] (by decide +kernel) (by decide +kernel)
theorem gX6_fill_X6_times : GoodIn wsX6_fill (va_wsS RX6 51 yX6_times wsX6_times) := goodIn_app (goodIn_of _ (by decide +kernel)) ggX6_fill_X6_times
set_option maxRecDepth 20000 in
theorem ggX6_fill_X6_power : GoodIn wsX6_fill wsX6_power := goodIn_r _ [11, 3, 4, 5, 6] (by decide +kernel) (by decide +kernel)
theorem gX6_fill_X6_power : GoodIn wsX6_fill (va_wsS RX6 66 yX6_power wsX6_power) := goodIn_app (goodIn_of _ (by decide +kernel)) ggX6_fill_X6_power
set_option maxRecDepth 20000 in
theorem ggX6_fill_X6_clear : GoodIn wsX6_fill wsX6_clear := goodIn_r _ [15, 8, 16, 17, 18, 5, 19, 20, 21, 22, 3, 4, 6, 23, 24, 25, 26, 27, 28, 29, 30, 31, 32, 33, 34, 35, 36, 37, 38, 39, 40, 41] (by decide +kernel) (by decide +kernel)
theorem gX6_fill_X6_clear : GoodIn wsX6_fill (wsV RX6 69 RX6 yX6_clear wsX6_clear) := goodIn_app (goodIn_of _ (by decide +kernel)) ggX6_fill_X6_clear
set_option maxRecDepth 20000 in
theorem ggX6_finish_X6_fill : GoodIn wsX6_finish wsX6_fill := goodIn_r _ [6, 1, 7, 8, 9, 5, 10, 11, 12, 13, 14, 15, 16, 17, 18, 19, 20, 21, 22, 23, 24, 25, 26, 27, 28, 29, 30, 31, 32, 33, 34, 35, 36, 37, 38, 39, 40, 41, 42, 43, 44, 45] (by decide +kernel) (by decide +kernel)
theorem gX6_finish_X6_fill : GoodIn wsX6_finish (wsV RX6 73 RX6 yX6_fill wsX6_fill) := goodIn_app (goodIn_of _ (by decide +kernel)) ggX6_finish_X6_fill
set_option maxRecDepth 20000 in
theorem ggX6_feed_X6_loadData : GoodIn wsX6_feed wsX6_loadData := goodIn_r _ [7, 8, 9, 41, 42, 43, 44, 45, 46, 47, 48, 49, 50, 51, 52, 53, 54, 55, 56, 57, 58, 59] (by decide +kernel) (by decide +kernel)
theorem gX6_feed_X6_loadData : GoodIn wsX6_feed (wsV RX6 82 RX6 yX6_loadData wsX6_loadData) := goodIn_app (goodIn_of _ (by decide +kernel)) ggX6_feed_X6_loadData
set_option maxRecDepth 20000 in
theorem ggX6_feed_X6_finish : GoodIn wsX6_feed wsX6_finish := goodIn_r _ [13, 14, 15, 16, 17, 6, 18, 19, 20, 21, 22, 8, 23, 24, 25, 26, 27, 28, 29, 30, 31, 32, 33, 34, 35, 36, 37, 41, 42, 43, 44, 45, 46, 47, 48, 49, 50, 51, 52, 53, 54, 55, 56, 57, 58, 59] (by decide +kernel) (by decide +kernel)
theorem gX6_feed_X6_finish : GoodIn wsX6_feed (wsV RX6 86 RX6 yX6_finish wsX6_finish) := goodIn_app (goodIn_of _ (by decide +kernel)) ggX6_feed_X6_finish
set_option maxRecDepth 20000 in
theorem ggX6_symbol_X6_onDisc : GoodIn wsX6_symbol wsX6_onDisc := goodIn_r _ [5, 6, 9, 10, 11, 12, 13, 14, 15, 16, 17, 18, 19, 20, 21, 22, 23, 24, 25, 26, 27] (by decide +kernel) (by decide +kernel)
theorem gX6_symbol_X6_onDisc : GoodIn wsX6_symbol (wsV RX6 89 RX6 yX6_onDisc wsX6_onDisc) := goodIn_app (goodIn_of _ (by decide +kernel)) ggX6_symbol_X6_onDisc
set_option maxRecDepth 20000 in
theorem ggX6_scratch_X6_onDisc : GoodIn wsX6_scratch wsX6_onDisc := goodIn_r _ [5, 6, 13, 14, 15, 16, 17, 18, 19, 20, 21, 22, 23, 24, 25, 26, 27, 28, 29, 30, 31] (by decide +kernel) (by decide +kernel)
theorem gX6_scratch_X6_onDisc : GoodIn wsX6_scratch (wsV RX6 89 RX6 yX6_onDisc wsX6_onDisc) := goodIn_app (goodIn_of _ (by decide +kernel)) ggX6_scratch_X6_onDisc
set_option maxRecDepth 20000 in
theorem ggX6_scratch_X6_isSymbol : GoodIn wsX6_scratch wsX6_isSymbol := goodIn_r _ [9] (by decide +kernel) (by decide +kernel)
theorem gX6_scratch_X6_isSymbol : GoodIn wsX6_scratch (va_wsS RX6 93 yX6_isSymbol wsX6_isSymbol) := goodIn_app (goodIn_of _ (by decide +kernel)) ggX6_scratch_X6_isSymbol
set_option maxRecDepth 20000 in
theorem ggX6_burst_X6_isSymbol : GoodIn wsX6_burst wsX6_isSymbol := goodIn_r _ [4] (by decide +kernel) (by decide +kernel)
theorem gX6_burst_X6_isSymbol : GoodIn wsX6_burst (va_wsS RX6 93 yX6_isSymbol wsX6_isSymbol) := goodIn_app (goodIn_of _ (by decide +kernel)) ggX6_burst_X6_isSymbol
set_option maxRecDepth 20000 in
theorem ggX6_mend_X6_isWord : GoodIn wsX6_mend wsX6_isWord := goodIn_r _ [5, 6, 7, 8, 4, 9, 10, 11, 12, 13, 14, 15, 16, 17, 18, 19, 20, 21, 22, 23, 24, 25, 26, 27, 28, 29, 30, 31, 32] (by decide +kernel) (by decide +kernel)
theorem gX6_mend_X6_isWord : GoodIn wsX6_mend (wsV RX6 99 RX6 yX6_isWord wsX6_isWord) := goodIn_app (goodIn_of _ (by decide +kernel)) ggX6_mend_X6_isWord
set_option maxRecDepth 20000 in
theorem ggX6_mend_X6_sum : GoodIn wsX6_mend wsX6_sum := goodIn_r _ [9, 10, 11, 4, 12, 13, 14, 15, 16, 17, 18, 19, 20, 21, 22, 23, 24, 25, 26, 27, 28, 29, 30, 31, 32] (by decide +kernel) (by decide +kernel)
theorem gX6_mend_X6_sum : GoodIn wsX6_mend (wsV RX6 55 RX6 yX6_sum wsX6_sum) := goodIn_app (goodIn_of _ (by decide +kernel)) ggX6_mend_X6_sum
set_option maxRecDepth 20000 in
theorem ggX6_read_X6_gather : GoodIn wsX6_read wsX6_gather := goodIn_r _ [10, 11, 4, 56, 57, 58, 59, 60, 61, 62, 63, 64, 65, 66, 67, 68, 69, 70, 71, 72, 73, 74] (by decide +kernel) (by decide +kernel)
theorem gX6_read_X6_gather : GoodIn wsX6_read (wsV RX6 102 RX6 yX6_gather wsX6_gather) := goodIn_app (goodIn_of _ (by decide +kernel)) ggX6_read_X6_gather
set_option maxRecDepth 20000 in
theorem ggX6_read_X6_mend : GoodIn wsX6_read wsX6_mend := goodIn_r _ [15, 16, 17, 18, 9, 19, 20, 21, 22, 23, 24, 25, 26, 11, 56, 57, 58, 59, 60, 61, 62, 63, 64, 65, 66, 67, 68, 69, 70, 71, 72, 73, 74] (by decide +kernel) (by decide +kernel)
theorem gX6_read_X6_mend : GoodIn wsX6_read (wsV RX6 105 RX6 yX6_mend wsX6_mend) := goodIn_app (goodIn_of _ (by decide +kernel)) ggX6_read_X6_mend
set_option maxRecDepth 20000 in
theorem ggX6_read_X6_fill : GoodIn wsX6_read wsX6_fill := goodIn_r _ [35, 31, 36, 24, 25, 9, 26, 11, 37, 38, 39, 40, 41, 42, 43, 44, 45, 46, 47, 48, 49, 50, 51, 56, 57, 58, 59, 60, 61, 62, 63, 64, 65, 66, 67, 68, 69, 70, 71, 72, 73, 74] (by decide +kernel) (by decide +kernel)
theorem gX6_read_X6_fill : GoodIn wsX6_read (wsV RX6 73 RX6 yX6_fill wsX6_fill) := goodIn_app (goodIn_of _ (by decide +kernel)) ggX6_read_X6_fill
set_option maxRecDepth 20000 in
theorem ggX6_out_X6_isOut : GoodIn wsX6_out wsX6_isOut := goodIn_r _ [5, 6, 9, 10, 11, 12, 13, 14, 15, 16, 17, 18, 19, 20, 21, 22, 23, 24, 25, 26, 27] (by decide +kernel) (by decide +kernel)
theorem gX6_out_X6_isOut : GoodIn wsX6_out (wsV RX6 121 RX6 yX6_isOut wsX6_isOut) := goodIn_app (goodIn_of _ (by decide +kernel)) ggX6_out_X6_isOut
set_option maxRecDepth 20000 in
theorem ggX6_flagged_X6_isOut : GoodIn wsX6_flagged wsX6_isOut := goodIn_r _ [5, 6, 9, 10, 11, 12, 13, 14, 15, 16, 17, 18, 19, 20, 21, 22, 23, 24, 25, 26, 27] (by decide +kernel) (by decide +kernel)
theorem gX6_flagged_X6_isOut : GoodIn wsX6_flagged (wsV RX6 121 RX6 yX6_isOut wsX6_isOut) := goodIn_app (goodIn_of _ (by decide +kernel)) ggX6_flagged_X6_isOut
set_option maxRecDepth 20000 in
theorem ggX6_check_X6_loadData : GoodIn wsX6_check wsX6_loadData := goodIn_r _ [6, 7, 8, 37, 38, 39, 40, 41, 42, 43, 44, 45, 46, 47, 48, 49, 50, 51, 52, 53, 54, 55] (by decide +kernel) (by decide +kernel)
theorem gX6_check_X6_loadData : GoodIn wsX6_check (wsV RX6 82 RX6 yX6_loadData wsX6_loadData) := goodIn_app (goodIn_of _ (by decide +kernel)) ggX6_check_X6_loadData
set_option maxRecDepth 20000 in
theorem ggX6_check_X6_finish : GoodIn wsX6_check wsX6_finish := goodIn_r _ [12, 13, 14, 15, 16, 5, 17, 18, 19, 20, 21, 7, 22, 23, 24, 25, 26, 27, 28, 29, 30, 31, 32, 33, 34, 35, 36, 37, 38, 39, 40, 41, 42, 43, 44, 45, 46, 47, 48, 49, 50, 51, 52, 53, 54, 55] (by decide +kernel) (by decide +kernel)
theorem gX6_check_X6_finish : GoodIn wsX6_check (wsV RX6 86 RX6 yX6_finish wsX6_finish) := goodIn_app (goodIn_of _ (by decide +kernel)) ggX6_check_X6_finish
set_option maxRecDepth 20000 in
theorem ggX6_product_X6_isSymbol : GoodIn wsX6_product wsX6_isSymbol := goodIn_r _ [4] (by decide +kernel) (by decide +kernel)
theorem gX6_product_X6_isSymbol : GoodIn wsX6_product (va_wsS RX6 93 yX6_isSymbol wsX6_isSymbol) := goodIn_app (goodIn_of _ (by decide +kernel)) ggX6_product_X6_isSymbol
set_option maxRecDepth 20000 in
theorem ggX6_product_X6_times : GoodIn wsX6_product wsX6_times := goodIn_r _ [8] (by decide +kernel) (by decide +kernel)
theorem gX6_product_X6_times : GoodIn wsX6_product (va_wsS RX6 51 yX6_times wsX6_times) := goodIn_app (goodIn_of _ (by decide +kernel)) ggX6_product_X6_times
theorem dX6_init_0 : decode cX6_init 0 = .ok (.aload_n 0, 1) := by decide +kernel
theorem dX6_init_1 : decode cX6_init 1 = .ok (.invokespecial 1, 3) := by decide +kernel
theorem dX6_init_4 : decode cX6_init 4 = .ok (.aload_n 0, 1) := by decide +kernel
theorem dX6_init_5 : decode cX6_init 5 = .ok (.sipush 576, 3) := by decide +kernel
theorem dX6_init_8 : decode cX6_init 8 = .ok (.newarray .int, 2) := by decide +kernel
theorem dX6_init_10 : decode cX6_init 10 = .ok (.putfield 7, 3) := by decide +kernel
theorem dX6_init_13 : decode cX6_init 13 = .ok (.aload_n 0, 1) := by decide +kernel
theorem dX6_init_14 : decode cX6_init 14 = .ok (.sipush 768, 3) := by decide +kernel
theorem dX6_init_17 : decode cX6_init 17 = .ok (.newarray .int, 2) := by decide +kernel
theorem dX6_init_19 : decode cX6_init 19 = .ok (.putfield 13, 3) := by decide +kernel
theorem dX6_init_22 : decode cX6_init 22 = .ok (.aload_n 0, 1) := by decide +kernel
theorem dX6_init_23 : decode cX6_init 23 = .ok (.sipush 768, 3) := by decide +kernel
theorem dX6_init_26 : decode cX6_init 26 = .ok (.newarray .int, 2) := by decide +kernel
theorem dX6_init_28 : decode cX6_init 28 = .ok (.putfield 16, 3) := by decide +kernel
theorem dX6_init_31 : decode cX6_init 31 = .ok (.aload_n 0, 1) := by decide +kernel
theorem dX6_init_32 : decode cX6_init 32 = .ok (.sipush 768, 3) := by decide +kernel
theorem dX6_init_35 : decode cX6_init 35 = .ok (.newarray .int, 2) := by decide +kernel
theorem dX6_init_37 : decode cX6_init 37 = .ok (.putfield 19, 3) := by decide +kernel
theorem dX6_init_40 : decode cX6_init 40 = .ok (.aload_n 0, 1) := by decide +kernel
theorem dX6_init_41 : decode cX6_init 41 = .ok (.sipush 576, 3) := by decide +kernel
theorem dX6_init_44 : decode cX6_init 44 = .ok (.newarray .int, 2) := by decide +kernel
theorem dX6_init_46 : decode cX6_init 46 = .ok (.putfield 22, 3) := by decide +kernel
theorem dX6_init_49 : decode cX6_init 49 = .ok (.aload_n 0, 1) := by decide +kernel
theorem dX6_init_50 : decode cX6_init 50 = .ok (.bipush 48, 2) := by decide +kernel
theorem dX6_init_52 : decode cX6_init 52 = .ok (.newarray .boolean, 2) := by decide +kernel
theorem dX6_init_54 : decode cX6_init 54 = .ok (.putfield 25, 3) := by decide +kernel
theorem dX6_init_57 : decode cX6_init 57 = .ok (.aload_n 0, 1) := by decide +kernel
theorem dX6_init_58 : decode cX6_init 58 = .ok (.sipush 384, 3) := by decide +kernel
theorem dX6_init_61 : decode cX6_init 61 = .ok (.newarray .int, 2) := by decide +kernel
theorem dX6_init_63 : decode cX6_init 63 = .ok (.putfield 29, 3) := by decide +kernel
theorem dX6_init_66 : decode cX6_init 66 = .ok (.aload_n 0, 1) := by decide +kernel
theorem dX6_init_67 : decode cX6_init 67 = .ok (.sipush 384, 3) := by decide +kernel
theorem dX6_init_70 : decode cX6_init 70 = .ok (.newarray .boolean, 2) := by decide +kernel
theorem dX6_init_72 : decode cX6_init 72 = .ok (.putfield 32, 3) := by decide +kernel
theorem dX6_init_75 : decode cX6_init 75 = .ok (.aload_n 0, 1) := by decide +kernel
theorem dX6_init_76 : decode cX6_init 76 = .ok (.bipush 16, 2) := by decide +kernel
theorem dX6_init_78 : decode cX6_init 78 = .ok (.newarray .int, 2) := by decide +kernel
theorem dX6_init_80 : decode cX6_init 80 = .ok (.putfield 35, 3) := by decide +kernel
theorem dX6_init_83 : decode cX6_init 83 = .ok (.aload_n 0, 1) := by decide +kernel
theorem dX6_init_84 : decode cX6_init 84 = .ok (.bipush 16, 2) := by decide +kernel
theorem dX6_init_86 : decode cX6_init 86 = .ok (.newarray .boolean, 2) := by decide +kernel
theorem dX6_init_88 : decode cX6_init 88 = .ok (.putfield 38, 3) := by decide +kernel
theorem dX6_init_91 : decode cX6_init 91 = .ok (.aload_n 0, 1) := by decide +kernel
theorem dX6_init_92 : decode cX6_init 92 = .ok (.bipush 20, 2) := by decide +kernel
theorem dX6_init_94 : decode cX6_init 94 = .ok (.newarray .int, 2) := by decide +kernel
theorem dX6_init_96 : decode cX6_init 96 = .ok (.putfield 41, 3) := by decide +kernel
theorem dX6_init_99 : decode cX6_init 99 = .ok (.aload_n 0, 1) := by decide +kernel
theorem dX6_init_100 : decode cX6_init 100 = .ok (.iconst 4, 1) := by decide +kernel
theorem dX6_init_101 : decode cX6_init 101 = .ok (.newarray .int, 2) := by decide +kernel
theorem dX6_init_103 : decode cX6_init 103 = .ok (.putfield 44, 3) := by decide +kernel
theorem dX6_init_106 : decode cX6_init 106 = .ok (.return_, 1) := by decide +kernel
theorem dX6_thrown_0 : decode cX6_thrown 0 = .ok (.aload_n 0, 1) := by decide +kernel
theorem dX6_thrown_1 : decode cX6_thrown 1 = .ok (.getfield 47, 3) := by decide +kernel
theorem dX6_thrown_4 : decode cX6_thrown 4 = .ok (.ireturn, 1) := by decide +kernel
theorem dX6_times_0 : decode cX6_times 0 = .ok (.iload_n 0, 1) := by decide +kernel
theorem dX6_times_1 : decode cX6_times 1 = .ok (.istore_n 2, 1) := by decide +kernel
theorem dX6_times_2 : decode cX6_times 2 = .ok (.iconst 0, 1) := by decide +kernel
theorem dX6_times_3 : decode cX6_times 3 = .ok (.istore_n 3, 1) := by decide +kernel
theorem dX6_times_4 : decode cX6_times 4 = .ok (.iconst 0, 1) := by decide +kernel
theorem dX6_times_5 : decode cX6_times 5 = .ok (.istore 4, 2) := by decide +kernel
theorem dX6_times_7 : decode cX6_times 7 = .ok (.iload 4, 2) := by decide +kernel
theorem dX6_times_9 : decode cX6_times 9 = .ok (.bipush 8, 2) := by decide +kernel
theorem dX6_times_11 : decode cX6_times 11 = .ok (.if_icmp .ge 48, 3) := by decide +kernel
theorem dX6_times_14 : decode cX6_times 14 = .ok (.iload_n 3, 1) := by decide +kernel
theorem dX6_times_15 : decode cX6_times 15 = .ok (.iload_n 1, 1) := by decide +kernel
theorem dX6_times_16 : decode cX6_times 16 = .ok (.iload 4, 2) := by decide +kernel
theorem dX6_times_18 : decode cX6_times 18 = .ok (.ishr, 1) := by decide +kernel
theorem dX6_times_19 : decode cX6_times 19 = .ok (.iconst 1, 1) := by decide +kernel
theorem dX6_times_20 : decode cX6_times 20 = .ok (.iand, 1) := by decide +kernel
theorem dX6_times_21 : decode cX6_times 21 = .ok (.iconst 1, 1) := by decide +kernel
theorem dX6_times_22 : decode cX6_times 22 = .ok (.if_icmp .ne 7, 3) := by decide +kernel
theorem dX6_times_25 : decode cX6_times 25 = .ok (.iload_n 2, 1) := by decide +kernel
theorem dX6_times_26 : decode cX6_times 26 = .ok (.goto 4, 3) := by decide +kernel
theorem dX6_times_29 : decode cX6_times 29 = .ok (.iconst 0, 1) := by decide +kernel
theorem dX6_times_30 : decode cX6_times 30 = .ok (.ixor, 1) := by decide +kernel
theorem dX6_times_31 : decode cX6_times 31 = .ok (.istore_n 3, 1) := by decide +kernel
theorem dX6_times_32 : decode cX6_times 32 = .ok (.iload_n 2, 1) := by decide +kernel
theorem dX6_times_33 : decode cX6_times 33 = .ok (.iconst 1, 1) := by decide +kernel
theorem dX6_times_34 : decode cX6_times 34 = .ok (.ishl, 1) := by decide +kernel
theorem dX6_times_35 : decode cX6_times 35 = .ok (.istore_n 2, 1) := by decide +kernel
theorem dX6_times_36 : decode cX6_times 36 = .ok (.iload_n 2, 1) := by decide +kernel
theorem dX6_times_37 : decode cX6_times 37 = .ok (.sipush 255, 3) := by decide +kernel
theorem dX6_times_40 : decode cX6_times 40 = .ok (.if_icmp .le 11, 3) := by decide +kernel
theorem dX6_times_43 : decode cX6_times 43 = .ok (.iload_n 2, 1) := by decide +kernel
theorem dX6_times_44 : decode cX6_times 44 = .ok (.sipush 285, 3) := by decide +kernel
theorem dX6_times_47 : decode cX6_times 47 = .ok (.ixor, 1) := by decide +kernel
theorem dX6_times_48 : decode cX6_times 48 = .ok (.goto 4, 3) := by decide +kernel
theorem dX6_times_51 : decode cX6_times 51 = .ok (.iload_n 2, 1) := by decide +kernel
theorem dX6_times_52 : decode cX6_times 52 = .ok (.istore_n 2, 1) := by decide +kernel
theorem dX6_times_53 : decode cX6_times 53 = .ok (.iinc 4 1, 3) := by decide +kernel
theorem dX6_times_56 : decode cX6_times 56 = .ok (.goto (-49), 3) := by decide +kernel
theorem dX6_times_59 : decode cX6_times 59 = .ok (.iload_n 3, 1) := by decide +kernel
theorem dX6_times_60 : decode cX6_times 60 = .ok (.ireturn, 1) := by decide +kernel
theorem dX6_power_0 : decode cX6_power 0 = .ok (.iconst 1, 1) := by decide +kernel
theorem dX6_power_1 : decode cX6_power 1 = .ok (.istore_n 1, 1) := by decide +kernel
theorem dX6_power_2 : decode cX6_power 2 = .ok (.iconst 0, 1) := by decide +kernel
theorem dX6_power_3 : decode cX6_power 3 = .ok (.istore_n 2, 1) := by decide +kernel
theorem dX6_power_4 : decode cX6_power 4 = .ok (.iload_n 2, 1) := by decide +kernel
theorem dX6_power_5 : decode cX6_power 5 = .ok (.iload_n 0, 1) := by decide +kernel
theorem dX6_power_6 : decode cX6_power 6 = .ok (.if_icmp .ge 15, 3) := by decide +kernel
theorem dX6_power_9 : decode cX6_power 9 = .ok (.iload_n 1, 1) := by decide +kernel
theorem dX6_power_10 : decode cX6_power 10 = .ok (.iconst 2, 1) := by decide +kernel
theorem dX6_power_11 : decode cX6_power 11 = .ok (.invokestatic 51, 3) := by decide +kernel
theorem dX6_power_14 : decode cX6_power 14 = .ok (.istore_n 1, 1) := by decide +kernel
theorem dX6_power_15 : decode cX6_power 15 = .ok (.iinc 2 1, 3) := by decide +kernel
theorem dX6_power_18 : decode cX6_power 18 = .ok (.goto (-14), 3) := by decide +kernel
theorem dX6_power_21 : decode cX6_power 21 = .ok (.iload_n 1, 1) := by decide +kernel
theorem dX6_power_22 : decode cX6_power 22 = .ok (.ireturn, 1) := by decide +kernel
theorem dX6_inverse_0 : decode cX6_inverse 0 = .ok (.iconst 1, 1) := by decide +kernel
theorem dX6_inverse_1 : decode cX6_inverse 1 = .ok (.istore_n 1, 1) := by decide +kernel
theorem dX6_inverse_2 : decode cX6_inverse 2 = .ok (.iconst 0, 1) := by decide +kernel
theorem dX6_inverse_3 : decode cX6_inverse 3 = .ok (.istore_n 2, 1) := by decide +kernel
theorem dX6_inverse_4 : decode cX6_inverse 4 = .ok (.iload_n 2, 1) := by decide +kernel
theorem dX6_inverse_5 : decode cX6_inverse 5 = .ok (.sipush 254, 3) := by decide +kernel
theorem dX6_inverse_8 : decode cX6_inverse 8 = .ok (.if_icmp .ge 15, 3) := by decide +kernel
theorem dX6_inverse_11 : decode cX6_inverse 11 = .ok (.iload_n 1, 1) := by decide +kernel
theorem dX6_inverse_12 : decode cX6_inverse 12 = .ok (.iload_n 0, 1) := by decide +kernel
theorem dX6_inverse_13 : decode cX6_inverse 13 = .ok (.invokestatic 51, 3) := by decide +kernel
theorem dX6_inverse_16 : decode cX6_inverse 16 = .ok (.istore_n 1, 1) := by decide +kernel
theorem dX6_inverse_17 : decode cX6_inverse 17 = .ok (.iinc 2 1, 3) := by decide +kernel
theorem dX6_inverse_20 : decode cX6_inverse 20 = .ok (.goto (-16), 3) := by decide +kernel
theorem dX6_inverse_23 : decode cX6_inverse 23 = .ok (.iload_n 1, 1) := by decide +kernel
theorem dX6_inverse_24 : decode cX6_inverse 24 = .ok (.ireturn, 1) := by decide +kernel
theorem dX6_sum_0 : decode cX6_sum 0 = .ok (.iconst 0, 1) := by decide +kernel
theorem dX6_sum_1 : decode cX6_sum 1 = .ok (.istore_n 3, 1) := by decide +kernel
theorem dX6_sum_2 : decode cX6_sum 2 = .ok (.iconst 0, 1) := by decide +kernel
theorem dX6_sum_3 : decode cX6_sum 3 = .ok (.istore 4, 2) := by decide +kernel
theorem dX6_sum_5 : decode cX6_sum 5 = .ok (.iload 4, 2) := by decide +kernel
theorem dX6_sum_7 : decode cX6_sum 7 = .ok (.iload_n 1, 1) := by decide +kernel
theorem dX6_sum_8 : decode cX6_sum 8 = .ok (.if_icmp .ge 25, 3) := by decide +kernel
theorem dX6_sum_11 : decode cX6_sum 11 = .ok (.iload_n 3, 1) := by decide +kernel
theorem dX6_sum_12 : decode cX6_sum 12 = .ok (.iconst 1, 1) := by decide +kernel
theorem dX6_sum_13 : decode cX6_sum 13 = .ok (.iload_n 2, 1) := by decide +kernel
theorem dX6_sum_14 : decode cX6_sum 14 = .ok (.ishl, 1) := by decide +kernel
theorem dX6_sum_15 : decode cX6_sum 15 = .ok (.invokestatic 51, 3) := by decide +kernel
theorem dX6_sum_18 : decode cX6_sum 18 = .ok (.aload_n 0, 1) := by decide +kernel
theorem dX6_sum_19 : decode cX6_sum 19 = .ok (.getfield 35, 3) := by decide +kernel
theorem dX6_sum_22 : decode cX6_sum 22 = .ok (.iload 4, 2) := by decide +kernel
theorem dX6_sum_24 : decode cX6_sum 24 = .ok (.iaload, 1) := by decide +kernel
theorem dX6_sum_25 : decode cX6_sum 25 = .ok (.ixor, 1) := by decide +kernel
theorem dX6_sum_26 : decode cX6_sum 26 = .ok (.istore_n 3, 1) := by decide +kernel
theorem dX6_sum_27 : decode cX6_sum 27 = .ok (.iinc 4 1, 3) := by decide +kernel
theorem dX6_sum_30 : decode cX6_sum 30 = .ok (.goto (-25), 3) := by decide +kernel
theorem dX6_sum_33 : decode cX6_sum 33 = .ok (.iload_n 3, 1) := by decide +kernel
theorem dX6_sum_34 : decode cX6_sum 34 = .ok (.ireturn, 1) := by decide +kernel
theorem dX6_isWord_0 : decode cX6_isWord 0 = .ok (.aload_n 0, 1) := by decide +kernel
theorem dX6_isWord_1 : decode cX6_isWord 1 = .ok (.iload_n 1, 1) := by decide +kernel
theorem dX6_isWord_2 : decode cX6_isWord 2 = .ok (.iconst 0, 1) := by decide +kernel
theorem dX6_isWord_3 : decode cX6_isWord 3 = .ok (.invokevirtual 55, 3) := by decide +kernel
theorem dX6_isWord_6 : decode cX6_isWord 6 = .ok (.ifCond .ne 34, 3) := by decide +kernel
theorem dX6_isWord_9 : decode cX6_isWord 9 = .ok (.aload_n 0, 1) := by decide +kernel
theorem dX6_isWord_10 : decode cX6_isWord 10 = .ok (.iload_n 1, 1) := by decide +kernel
theorem dX6_isWord_11 : decode cX6_isWord 11 = .ok (.iconst 1, 1) := by decide +kernel
theorem dX6_isWord_12 : decode cX6_isWord 12 = .ok (.invokevirtual 55, 3) := by decide +kernel
theorem dX6_isWord_15 : decode cX6_isWord 15 = .ok (.ifCond .ne 25, 3) := by decide +kernel
theorem dX6_isWord_18 : decode cX6_isWord 18 = .ok (.aload_n 0, 1) := by decide +kernel
theorem dX6_isWord_19 : decode cX6_isWord 19 = .ok (.iload_n 1, 1) := by decide +kernel
theorem dX6_isWord_20 : decode cX6_isWord 20 = .ok (.iconst 2, 1) := by decide +kernel
theorem dX6_isWord_21 : decode cX6_isWord 21 = .ok (.invokevirtual 55, 3) := by decide +kernel
theorem dX6_isWord_24 : decode cX6_isWord 24 = .ok (.ifCond .ne 16, 3) := by decide +kernel
theorem dX6_isWord_27 : decode cX6_isWord 27 = .ok (.aload_n 0, 1) := by decide +kernel
theorem dX6_isWord_28 : decode cX6_isWord 28 = .ok (.iload_n 1, 1) := by decide +kernel
theorem dX6_isWord_29 : decode cX6_isWord 29 = .ok (.iconst 3, 1) := by decide +kernel
theorem dX6_isWord_30 : decode cX6_isWord 30 = .ok (.invokevirtual 55, 3) := by decide +kernel
theorem dX6_isWord_33 : decode cX6_isWord 33 = .ok (.ifCond .ne 7, 3) := by decide +kernel
theorem dX6_isWord_36 : decode cX6_isWord 36 = .ok (.iconst 1, 1) := by decide +kernel
theorem dX6_isWord_37 : decode cX6_isWord 37 = .ok (.goto 4, 3) := by decide +kernel
theorem dX6_isWord_40 : decode cX6_isWord 40 = .ok (.iconst 0, 1) := by decide +kernel
theorem dX6_isWord_41 : decode cX6_isWord 41 = .ok (.ireturn, 1) := by decide +kernel
theorem dX6_swap_0 : decode cX6_swap 0 = .ok (.iconst 0, 1) := by decide +kernel
theorem dX6_swap_1 : decode cX6_swap 1 = .ok (.istore_n 3, 1) := by decide +kernel
theorem dX6_swap_2 : decode cX6_swap 2 = .ok (.iload_n 3, 1) := by decide +kernel
theorem dX6_swap_3 : decode cX6_swap 3 = .ok (.iconst 5, 1) := by decide +kernel
theorem dX6_swap_4 : decode cX6_swap 4 = .ok (.if_icmp .ge 53, 3) := by decide +kernel
theorem dX6_swap_7 : decode cX6_swap 7 = .ok (.aload_n 0, 1) := by decide +kernel
theorem dX6_swap_8 : decode cX6_swap 8 = .ok (.getfield 41, 3) := by decide +kernel
theorem dX6_swap_11 : decode cX6_swap 11 = .ok (.iconst 5, 1) := by decide +kernel
theorem dX6_swap_12 : decode cX6_swap 12 = .ok (.iload_n 1, 1) := by decide +kernel
theorem dX6_swap_13 : decode cX6_swap 13 = .ok (.imul, 1) := by decide +kernel
theorem dX6_swap_14 : decode cX6_swap 14 = .ok (.iload_n 3, 1) := by decide +kernel
theorem dX6_swap_15 : decode cX6_swap 15 = .ok (.iadd, 1) := by decide +kernel
theorem dX6_swap_16 : decode cX6_swap 16 = .ok (.iaload, 1) := by decide +kernel
theorem dX6_swap_17 : decode cX6_swap 17 = .ok (.istore 4, 2) := by decide +kernel
theorem dX6_swap_19 : decode cX6_swap 19 = .ok (.aload_n 0, 1) := by decide +kernel
theorem dX6_swap_20 : decode cX6_swap 20 = .ok (.getfield 41, 3) := by decide +kernel
theorem dX6_swap_23 : decode cX6_swap 23 = .ok (.iconst 5, 1) := by decide +kernel
theorem dX6_swap_24 : decode cX6_swap 24 = .ok (.iload_n 1, 1) := by decide +kernel
theorem dX6_swap_25 : decode cX6_swap 25 = .ok (.imul, 1) := by decide +kernel
theorem dX6_swap_26 : decode cX6_swap 26 = .ok (.iload_n 3, 1) := by decide +kernel
theorem dX6_swap_27 : decode cX6_swap 27 = .ok (.iadd, 1) := by decide +kernel
theorem dX6_swap_28 : decode cX6_swap 28 = .ok (.aload_n 0, 1) := by decide +kernel
theorem dX6_swap_29 : decode cX6_swap 29 = .ok (.getfield 41, 3) := by decide +kernel
theorem dX6_swap_32 : decode cX6_swap 32 = .ok (.iconst 5, 1) := by decide +kernel
theorem dX6_swap_33 : decode cX6_swap 33 = .ok (.iload_n 2, 1) := by decide +kernel
theorem dX6_swap_34 : decode cX6_swap 34 = .ok (.imul, 1) := by decide +kernel
theorem dX6_swap_35 : decode cX6_swap 35 = .ok (.iload_n 3, 1) := by decide +kernel
theorem dX6_swap_36 : decode cX6_swap 36 = .ok (.iadd, 1) := by decide +kernel
theorem dX6_swap_37 : decode cX6_swap 37 = .ok (.iaload, 1) := by decide +kernel
theorem dX6_swap_38 : decode cX6_swap 38 = .ok (.iastore, 1) := by decide +kernel
theorem dX6_swap_39 : decode cX6_swap 39 = .ok (.aload_n 0, 1) := by decide +kernel
theorem dX6_swap_40 : decode cX6_swap 40 = .ok (.getfield 41, 3) := by decide +kernel
theorem dX6_swap_43 : decode cX6_swap 43 = .ok (.iconst 5, 1) := by decide +kernel
theorem dX6_swap_44 : decode cX6_swap 44 = .ok (.iload_n 2, 1) := by decide +kernel
theorem dX6_swap_45 : decode cX6_swap 45 = .ok (.imul, 1) := by decide +kernel
theorem dX6_swap_46 : decode cX6_swap 46 = .ok (.iload_n 3, 1) := by decide +kernel
theorem dX6_swap_47 : decode cX6_swap 47 = .ok (.iadd, 1) := by decide +kernel
theorem dX6_swap_48 : decode cX6_swap 48 = .ok (.iload 4, 2) := by decide +kernel
theorem dX6_swap_50 : decode cX6_swap 50 = .ok (.iastore, 1) := by decide +kernel
theorem dX6_swap_51 : decode cX6_swap 51 = .ok (.iinc 3 1, 3) := by decide +kernel
theorem dX6_swap_54 : decode cX6_swap 54 = .ok (.goto (-52), 3) := by decide +kernel
theorem dX6_swap_57 : decode cX6_swap 57 = .ok (.return_, 1) := by decide +kernel
theorem dX6_clear_0 : decode cX6_clear 0 = .ok (.iload_n 1, 1) := by decide +kernel
theorem dX6_clear_1 : decode cX6_clear 1 = .ok (.istore_n 2, 1) := by decide +kernel
theorem dX6_clear_2 : decode cX6_clear 2 = .ok (.iload_n 2, 1) := by decide +kernel
theorem dX6_clear_3 : decode cX6_clear 3 = .ok (.iconst 3, 1) := by decide +kernel
theorem dX6_clear_4 : decode cX6_clear 4 = .ok (.if_icmp .ge 22, 3) := by decide +kernel
theorem dX6_clear_7 : decode cX6_clear 7 = .ok (.aload_n 0, 1) := by decide +kernel
theorem dX6_clear_8 : decode cX6_clear 8 = .ok (.getfield 41, 3) := by decide +kernel
theorem dX6_clear_11 : decode cX6_clear 11 = .ok (.iconst 5, 1) := by decide +kernel
theorem dX6_clear_12 : decode cX6_clear 12 = .ok (.iload_n 2, 1) := by decide +kernel
theorem dX6_clear_13 : decode cX6_clear 13 = .ok (.imul, 1) := by decide +kernel
theorem dX6_clear_14 : decode cX6_clear 14 = .ok (.iload_n 1, 1) := by decide +kernel
theorem dX6_clear_15 : decode cX6_clear 15 = .ok (.iadd, 1) := by decide +kernel
theorem dX6_clear_16 : decode cX6_clear 16 = .ok (.iaload, 1) := by decide +kernel
theorem dX6_clear_17 : decode cX6_clear 17 = .ok (.ifCond .ne 9, 3) := by decide +kernel
theorem dX6_clear_20 : decode cX6_clear 20 = .ok (.iinc 2 1, 3) := by decide +kernel
theorem dX6_clear_23 : decode cX6_clear 23 = .ok (.goto (-21), 3) := by decide +kernel
theorem dX6_clear_26 : decode cX6_clear 26 = .ok (.aload_n 0, 1) := by decide +kernel
theorem dX6_clear_27 : decode cX6_clear 27 = .ok (.iload_n 2, 1) := by decide +kernel
theorem dX6_clear_28 : decode cX6_clear 28 = .ok (.iload_n 1, 1) := by decide +kernel
theorem dX6_clear_29 : decode cX6_clear 29 = .ok (.invokevirtual 58, 3) := by decide +kernel
theorem dX6_clear_32 : decode cX6_clear 32 = .ok (.aload_n 0, 1) := by decide +kernel
theorem dX6_clear_33 : decode cX6_clear 33 = .ok (.getfield 41, 3) := by decide +kernel
theorem dX6_clear_36 : decode cX6_clear 36 = .ok (.iconst 5, 1) := by decide +kernel
theorem dX6_clear_37 : decode cX6_clear 37 = .ok (.iload_n 1, 1) := by decide +kernel
theorem dX6_clear_38 : decode cX6_clear 38 = .ok (.imul, 1) := by decide +kernel
theorem dX6_clear_39 : decode cX6_clear 39 = .ok (.iload_n 1, 1) := by decide +kernel
theorem dX6_clear_40 : decode cX6_clear 40 = .ok (.iadd, 1) := by decide +kernel
theorem dX6_clear_41 : decode cX6_clear 41 = .ok (.iaload, 1) := by decide +kernel
theorem dX6_clear_42 : decode cX6_clear 42 = .ok (.invokestatic 62, 3) := by decide +kernel
theorem dX6_clear_45 : decode cX6_clear 45 = .ok (.istore_n 3, 1) := by decide +kernel
theorem dX6_clear_46 : decode cX6_clear 46 = .ok (.iconst 0, 1) := by decide +kernel
theorem dX6_clear_47 : decode cX6_clear 47 = .ok (.istore 4, 2) := by decide +kernel
theorem dX6_clear_49 : decode cX6_clear 49 = .ok (.iload 4, 2) := by decide +kernel
theorem dX6_clear_51 : decode cX6_clear 51 = .ok (.iconst 5, 1) := by decide +kernel
theorem dX6_clear_52 : decode cX6_clear 52 = .ok (.if_icmp .ge 35, 3) := by decide +kernel
theorem dX6_clear_55 : decode cX6_clear 55 = .ok (.aload_n 0, 1) := by decide +kernel
theorem dX6_clear_56 : decode cX6_clear 56 = .ok (.getfield 41, 3) := by decide +kernel
theorem dX6_clear_59 : decode cX6_clear 59 = .ok (.iconst 5, 1) := by decide +kernel
theorem dX6_clear_60 : decode cX6_clear 60 = .ok (.iload_n 1, 1) := by decide +kernel
theorem dX6_clear_61 : decode cX6_clear 61 = .ok (.imul, 1) := by decide +kernel
theorem dX6_clear_62 : decode cX6_clear 62 = .ok (.iload 4, 2) := by decide +kernel
theorem dX6_clear_64 : decode cX6_clear 64 = .ok (.iadd, 1) := by decide +kernel
theorem dX6_clear_65 : decode cX6_clear 65 = .ok (.aload_n 0, 1) := by decide +kernel
theorem dX6_clear_66 : decode cX6_clear 66 = .ok (.getfield 41, 3) := by decide +kernel
theorem dX6_clear_69 : decode cX6_clear 69 = .ok (.iconst 5, 1) := by decide +kernel
theorem dX6_clear_70 : decode cX6_clear 70 = .ok (.iload_n 1, 1) := by decide +kernel
theorem dX6_clear_71 : decode cX6_clear 71 = .ok (.imul, 1) := by decide +kernel
theorem dX6_clear_72 : decode cX6_clear 72 = .ok (.iload 4, 2) := by decide +kernel
theorem dX6_clear_74 : decode cX6_clear 74 = .ok (.iadd, 1) := by decide +kernel
theorem dX6_clear_75 : decode cX6_clear 75 = .ok (.iaload, 1) := by decide +kernel
theorem dX6_clear_76 : decode cX6_clear 76 = .ok (.iload_n 3, 1) := by decide +kernel
theorem dX6_clear_77 : decode cX6_clear 77 = .ok (.invokestatic 51, 3) := by decide +kernel
theorem dX6_clear_80 : decode cX6_clear 80 = .ok (.iastore, 1) := by decide +kernel
theorem dX6_clear_81 : decode cX6_clear 81 = .ok (.iinc 4 1, 3) := by decide +kernel
theorem dX6_clear_84 : decode cX6_clear 84 = .ok (.goto (-35), 3) := by decide +kernel
theorem dX6_clear_87 : decode cX6_clear 87 = .ok (.iconst 0, 1) := by decide +kernel
theorem dX6_clear_88 : decode cX6_clear 88 = .ok (.istore 4, 2) := by decide +kernel
theorem dX6_clear_90 : decode cX6_clear 90 = .ok (.iload 4, 2) := by decide +kernel
theorem dX6_clear_92 : decode cX6_clear 92 = .ok (.iconst 4, 1) := by decide +kernel
theorem dX6_clear_93 : decode cX6_clear 93 = .ok (.if_icmp .ge 74, 3) := by decide +kernel
theorem dX6_clear_96 : decode cX6_clear 96 = .ok (.aload_n 0, 1) := by decide +kernel
theorem dX6_clear_97 : decode cX6_clear 97 = .ok (.getfield 41, 3) := by decide +kernel
theorem dX6_clear_100 : decode cX6_clear 100 = .ok (.iconst 5, 1) := by decide +kernel
theorem dX6_clear_101 : decode cX6_clear 101 = .ok (.iload 4, 2) := by decide +kernel
theorem dX6_clear_103 : decode cX6_clear 103 = .ok (.imul, 1) := by decide +kernel
theorem dX6_clear_104 : decode cX6_clear 104 = .ok (.iload_n 1, 1) := by decide +kernel
theorem dX6_clear_105 : decode cX6_clear 105 = .ok (.iadd, 1) := by decide +kernel
theorem dX6_clear_106 : decode cX6_clear 106 = .ok (.iaload, 1) := by decide +kernel
theorem dX6_clear_107 : decode cX6_clear 107 = .ok (.istore 5, 2) := by decide +kernel
theorem dX6_clear_109 : decode cX6_clear 109 = .ok (.iconst 0, 1) := by decide +kernel
theorem dX6_clear_110 : decode cX6_clear 110 = .ok (.istore 6, 2) := by decide +kernel
theorem dX6_clear_112 : decode cX6_clear 112 = .ok (.iload 6, 2) := by decide +kernel
theorem dX6_clear_114 : decode cX6_clear 114 = .ok (.iconst 5, 1) := by decide +kernel
theorem dX6_clear_115 : decode cX6_clear 115 = .ok (.if_icmp .ge 46, 3) := by decide +kernel
theorem dX6_clear_118 : decode cX6_clear 118 = .ok (.iload 4, 2) := by decide +kernel
theorem dX6_clear_120 : decode cX6_clear 120 = .ok (.iload_n 1, 1) := by decide +kernel
theorem dX6_clear_121 : decode cX6_clear 121 = .ok (.if_icmp .eq 40, 3) := by decide +kernel
theorem dX6_clear_124 : decode cX6_clear 124 = .ok (.aload_n 0, 1) := by decide +kernel
theorem dX6_clear_125 : decode cX6_clear 125 = .ok (.getfield 41, 3) := by decide +kernel
theorem dX6_clear_128 : decode cX6_clear 128 = .ok (.iconst 5, 1) := by decide +kernel
theorem dX6_clear_129 : decode cX6_clear 129 = .ok (.iload 4, 2) := by decide +kernel
theorem dX6_clear_131 : decode cX6_clear 131 = .ok (.imul, 1) := by decide +kernel
theorem dX6_clear_132 : decode cX6_clear 132 = .ok (.iload 6, 2) := by decide +kernel
theorem dX6_clear_134 : decode cX6_clear 134 = .ok (.iadd, 1) := by decide +kernel
theorem dX6_clear_135 : decode cX6_clear 135 = .ok (.dup2, 1) := by decide +kernel
theorem dX6_clear_136 : decode cX6_clear 136 = .ok (.iaload, 1) := by decide +kernel
theorem dX6_clear_137 : decode cX6_clear 137 = .ok (.iload 5, 2) := by decide +kernel
theorem dX6_clear_139 : decode cX6_clear 139 = .ok (.aload_n 0, 1) := by decide +kernel
theorem dX6_clear_140 : decode cX6_clear 140 = .ok (.getfield 41, 3) := by decide +kernel
theorem dX6_clear_143 : decode cX6_clear 143 = .ok (.iconst 5, 1) := by decide +kernel
theorem dX6_clear_144 : decode cX6_clear 144 = .ok (.iload_n 1, 1) := by decide +kernel
theorem dX6_clear_145 : decode cX6_clear 145 = .ok (.imul, 1) := by decide +kernel
theorem dX6_clear_146 : decode cX6_clear 146 = .ok (.iload 6, 2) := by decide +kernel
theorem dX6_clear_148 : decode cX6_clear 148 = .ok (.iadd, 1) := by decide +kernel
theorem dX6_clear_149 : decode cX6_clear 149 = .ok (.iaload, 1) := by decide +kernel
theorem dX6_clear_150 : decode cX6_clear 150 = .ok (.invokestatic 51, 3) := by decide +kernel
theorem dX6_clear_153 : decode cX6_clear 153 = .ok (.ixor, 1) := by decide +kernel
theorem dX6_clear_154 : decode cX6_clear 154 = .ok (.iastore, 1) := by decide +kernel
theorem dX6_clear_155 : decode cX6_clear 155 = .ok (.iinc 6 1, 3) := by decide +kernel
theorem dX6_clear_158 : decode cX6_clear 158 = .ok (.goto (-46), 3) := by decide +kernel
theorem dX6_clear_161 : decode cX6_clear 161 = .ok (.iinc 4 1, 3) := by decide +kernel
theorem dX6_clear_164 : decode cX6_clear 164 = .ok (.goto (-74), 3) := by decide +kernel
theorem dX6_clear_167 : decode cX6_clear 167 = .ok (.return_, 1) := by decide +kernel
theorem dX6_fill_0 : decode cX6_fill 0 = .ok (.iconst 0, 1) := by decide +kernel
theorem dX6_fill_1 : decode cX6_fill 1 = .ok (.istore_n 2, 1) := by decide +kernel
theorem dX6_fill_2 : decode cX6_fill 2 = .ok (.iconst 0, 1) := by decide +kernel
theorem dX6_fill_3 : decode cX6_fill 3 = .ok (.istore_n 3, 1) := by decide +kernel
theorem dX6_fill_4 : decode cX6_fill 4 = .ok (.iload_n 3, 1) := by decide +kernel
theorem dX6_fill_5 : decode cX6_fill 5 = .ok (.iload_n 1, 1) := by decide +kernel
theorem dX6_fill_6 : decode cX6_fill 6 = .ok (.if_icmp .ge 28, 3) := by decide +kernel
theorem dX6_fill_9 : decode cX6_fill 9 = .ok (.aload_n 0, 1) := by decide +kernel
theorem dX6_fill_10 : decode cX6_fill 10 = .ok (.getfield 38, 3) := by decide +kernel
theorem dX6_fill_13 : decode cX6_fill 13 = .ok (.iload_n 3, 1) := by decide +kernel
theorem dX6_fill_14 : decode cX6_fill 14 = .ok (.baload, 1) := by decide +kernel
theorem dX6_fill_15 : decode cX6_fill 15 = .ok (.ifCond .eq 13, 3) := by decide +kernel
theorem dX6_fill_18 : decode cX6_fill 18 = .ok (.aload_n 0, 1) := by decide +kernel
theorem dX6_fill_19 : decode cX6_fill 19 = .ok (.getfield 44, 3) := by decide +kernel
theorem dX6_fill_22 : decode cX6_fill 22 = .ok (.iload_n 2, 1) := by decide +kernel
theorem dX6_fill_23 : decode cX6_fill 23 = .ok (.iload_n 3, 1) := by decide +kernel
theorem dX6_fill_24 : decode cX6_fill 24 = .ok (.iastore, 1) := by decide +kernel
theorem dX6_fill_25 : decode cX6_fill 25 = .ok (.iinc 2 1, 3) := by decide +kernel
theorem dX6_fill_28 : decode cX6_fill 28 = .ok (.iinc 3 1, 3) := by decide +kernel
theorem dX6_fill_31 : decode cX6_fill 31 = .ok (.goto (-27), 3) := by decide +kernel
theorem dX6_fill_34 : decode cX6_fill 34 = .ok (.iconst 0, 1) := by decide +kernel
theorem dX6_fill_35 : decode cX6_fill 35 = .ok (.istore_n 3, 1) := by decide +kernel
theorem dX6_fill_36 : decode cX6_fill 36 = .ok (.iload_n 3, 1) := by decide +kernel
theorem dX6_fill_37 : decode cX6_fill 37 = .ok (.iconst 4, 1) := by decide +kernel
theorem dX6_fill_38 : decode cX6_fill 38 = .ok (.if_icmp .ge 123, 3) := by decide +kernel
theorem dX6_fill_41 : decode cX6_fill 41 = .ok (.iconst 0, 1) := by decide +kernel
theorem dX6_fill_42 : decode cX6_fill 42 = .ok (.istore 4, 2) := by decide +kernel
theorem dX6_fill_44 : decode cX6_fill 44 = .ok (.iconst 0, 1) := by decide +kernel
theorem dX6_fill_45 : decode cX6_fill 45 = .ok (.istore 5, 2) := by decide +kernel
theorem dX6_fill_47 : decode cX6_fill 47 = .ok (.iload 5, 2) := by decide +kernel
theorem dX6_fill_49 : decode cX6_fill 49 = .ok (.iload_n 1, 1) := by decide +kernel
theorem dX6_fill_50 : decode cX6_fill 50 = .ok (.if_icmp .ge 41, 3) := by decide +kernel
theorem dX6_fill_53 : decode cX6_fill 53 = .ok (.iload 4, 2) := by decide +kernel
theorem dX6_fill_55 : decode cX6_fill 55 = .ok (.iconst 1, 1) := by decide +kernel
theorem dX6_fill_56 : decode cX6_fill 56 = .ok (.iload_n 3, 1) := by decide +kernel
theorem dX6_fill_57 : decode cX6_fill 57 = .ok (.ishl, 1) := by decide +kernel
theorem dX6_fill_58 : decode cX6_fill 58 = .ok (.invokestatic 51, 3) := by decide +kernel
theorem dX6_fill_61 : decode cX6_fill 61 = .ok (.aload_n 0, 1) := by decide +kernel
theorem dX6_fill_62 : decode cX6_fill 62 = .ok (.getfield 38, 3) := by decide +kernel
theorem dX6_fill_65 : decode cX6_fill 65 = .ok (.iload 5, 2) := by decide +kernel
theorem dX6_fill_67 : decode cX6_fill 67 = .ok (.baload, 1) := by decide +kernel
theorem dX6_fill_68 : decode cX6_fill 68 = .ok (.ifCond .eq 7, 3) := by decide +kernel
theorem dX6_fill_71 : decode cX6_fill 71 = .ok (.iconst 0, 1) := by decide +kernel
theorem dX6_fill_72 : decode cX6_fill 72 = .ok (.goto 10, 3) := by decide +kernel
theorem dX6_fill_75 : decode cX6_fill 75 = .ok (.aload_n 0, 1) := by decide +kernel
theorem dX6_fill_76 : decode cX6_fill 76 = .ok (.getfield 35, 3) := by decide +kernel
theorem dX6_fill_79 : decode cX6_fill 79 = .ok (.iload 5, 2) := by decide +kernel
theorem dX6_fill_81 : decode cX6_fill 81 = .ok (.iaload, 1) := by decide +kernel
theorem dX6_fill_82 : decode cX6_fill 82 = .ok (.ixor, 1) := by decide +kernel
theorem dX6_fill_83 : decode cX6_fill 83 = .ok (.istore 4, 2) := by decide +kernel
theorem dX6_fill_85 : decode cX6_fill 85 = .ok (.iinc 5 1, 3) := by decide +kernel
theorem dX6_fill_88 : decode cX6_fill 88 = .ok (.goto (-41), 3) := by decide +kernel
theorem dX6_fill_91 : decode cX6_fill 91 = .ok (.iconst 0, 1) := by decide +kernel
theorem dX6_fill_92 : decode cX6_fill 92 = .ok (.istore 5, 2) := by decide +kernel
theorem dX6_fill_94 : decode cX6_fill 94 = .ok (.iload 5, 2) := by decide +kernel
theorem dX6_fill_96 : decode cX6_fill 96 = .ok (.iconst 4, 1) := by decide +kernel
theorem dX6_fill_97 : decode cX6_fill 97 = .ok (.if_icmp .ge 46, 3) := by decide +kernel
theorem dX6_fill_100 : decode cX6_fill 100 = .ok (.aload_n 0, 1) := by decide +kernel
theorem dX6_fill_101 : decode cX6_fill 101 = .ok (.getfield 41, 3) := by decide +kernel
theorem dX6_fill_104 : decode cX6_fill 104 = .ok (.iconst 5, 1) := by decide +kernel
theorem dX6_fill_105 : decode cX6_fill 105 = .ok (.iload_n 3, 1) := by decide +kernel
theorem dX6_fill_106 : decode cX6_fill 106 = .ok (.imul, 1) := by decide +kernel
theorem dX6_fill_107 : decode cX6_fill 107 = .ok (.iload 5, 2) := by decide +kernel
theorem dX6_fill_109 : decode cX6_fill 109 = .ok (.iadd, 1) := by decide +kernel
theorem dX6_fill_110 : decode cX6_fill 110 = .ok (.iload 5, 2) := by decide +kernel
theorem dX6_fill_112 : decode cX6_fill 112 = .ok (.iload_n 2, 1) := by decide +kernel
theorem dX6_fill_113 : decode cX6_fill 113 = .ok (.if_icmp .ge 22, 3) := by decide +kernel
theorem dX6_fill_116 : decode cX6_fill 116 = .ok (.iload_n 3, 1) := by decide +kernel
theorem dX6_fill_117 : decode cX6_fill 117 = .ok (.iload_n 1, 1) := by decide +kernel
theorem dX6_fill_118 : decode cX6_fill 118 = .ok (.iconst 1, 1) := by decide +kernel
theorem dX6_fill_119 : decode cX6_fill 119 = .ok (.isub, 1) := by decide +kernel
theorem dX6_fill_120 : decode cX6_fill 120 = .ok (.aload_n 0, 1) := by decide +kernel
theorem dX6_fill_121 : decode cX6_fill 121 = .ok (.getfield 44, 3) := by decide +kernel
theorem dX6_fill_124 : decode cX6_fill 124 = .ok (.iload 5, 2) := by decide +kernel
theorem dX6_fill_126 : decode cX6_fill 126 = .ok (.iaload, 1) := by decide +kernel
theorem dX6_fill_127 : decode cX6_fill 127 = .ok (.isub, 1) := by decide +kernel
theorem dX6_fill_128 : decode cX6_fill 128 = .ok (.imul, 1) := by decide +kernel
theorem dX6_fill_129 : decode cX6_fill 129 = .ok (.invokestatic 66, 3) := by decide +kernel
theorem dX6_fill_132 : decode cX6_fill 132 = .ok (.goto 4, 3) := by decide +kernel
theorem dX6_fill_135 : decode cX6_fill 135 = .ok (.iconst 0, 1) := by decide +kernel
theorem dX6_fill_136 : decode cX6_fill 136 = .ok (.iastore, 1) := by decide +kernel
theorem dX6_fill_137 : decode cX6_fill 137 = .ok (.iinc 5 1, 3) := by decide +kernel
theorem dX6_fill_140 : decode cX6_fill 140 = .ok (.goto (-46), 3) := by decide +kernel
theorem dX6_fill_143 : decode cX6_fill 143 = .ok (.aload_n 0, 1) := by decide +kernel
theorem dX6_fill_144 : decode cX6_fill 144 = .ok (.getfield 41, 3) := by decide +kernel
theorem dX6_fill_147 : decode cX6_fill 147 = .ok (.iconst 5, 1) := by decide +kernel
theorem dX6_fill_148 : decode cX6_fill 148 = .ok (.iload_n 3, 1) := by decide +kernel
theorem dX6_fill_149 : decode cX6_fill 149 = .ok (.imul, 1) := by decide +kernel
theorem dX6_fill_150 : decode cX6_fill 150 = .ok (.iconst 4, 1) := by decide +kernel
theorem dX6_fill_151 : decode cX6_fill 151 = .ok (.iadd, 1) := by decide +kernel
theorem dX6_fill_152 : decode cX6_fill 152 = .ok (.iload 4, 2) := by decide +kernel
theorem dX6_fill_154 : decode cX6_fill 154 = .ok (.iastore, 1) := by decide +kernel
theorem dX6_fill_155 : decode cX6_fill 155 = .ok (.iinc 3 1, 3) := by decide +kernel
theorem dX6_fill_158 : decode cX6_fill 158 = .ok (.goto (-122), 3) := by decide +kernel
theorem dX6_fill_161 : decode cX6_fill 161 = .ok (.iconst 0, 1) := by decide +kernel
theorem dX6_fill_162 : decode cX6_fill 162 = .ok (.istore_n 3, 1) := by decide +kernel
theorem dX6_fill_163 : decode cX6_fill 163 = .ok (.iload_n 3, 1) := by decide +kernel
theorem dX6_fill_164 : decode cX6_fill 164 = .ok (.iload_n 2, 1) := by decide +kernel
theorem dX6_fill_165 : decode cX6_fill 165 = .ok (.if_icmp .ge 14, 3) := by decide +kernel
theorem dX6_fill_168 : decode cX6_fill 168 = .ok (.aload_n 0, 1) := by decide +kernel
theorem dX6_fill_169 : decode cX6_fill 169 = .ok (.iload_n 3, 1) := by decide +kernel
theorem dX6_fill_170 : decode cX6_fill 170 = .ok (.invokevirtual 69, 3) := by decide +kernel
theorem dX6_fill_173 : decode cX6_fill 173 = .ok (.iinc 3 1, 3) := by decide +kernel
theorem dX6_fill_176 : decode cX6_fill 176 = .ok (.goto (-13), 3) := by decide +kernel
theorem dX6_fill_179 : decode cX6_fill 179 = .ok (.iconst 1, 1) := by decide +kernel
theorem dX6_fill_180 : decode cX6_fill 180 = .ok (.istore_n 3, 1) := by decide +kernel
theorem dX6_fill_181 : decode cX6_fill 181 = .ok (.iload_n 2, 1) := by decide +kernel
theorem dX6_fill_182 : decode cX6_fill 182 = .ok (.istore 4, 2) := by decide +kernel
theorem dX6_fill_184 : decode cX6_fill 184 = .ok (.iload 4, 2) := by decide +kernel
theorem dX6_fill_186 : decode cX6_fill 186 = .ok (.iconst 4, 1) := by decide +kernel
theorem dX6_fill_187 : decode cX6_fill 187 = .ok (.if_icmp .ge 33, 3) := by decide +kernel
theorem dX6_fill_190 : decode cX6_fill 190 = .ok (.iload_n 3, 1) := by decide +kernel
theorem dX6_fill_191 : decode cX6_fill 191 = .ok (.ifCond .eq 21, 3) := by decide +kernel
theorem dX6_fill_194 : decode cX6_fill 194 = .ok (.aload_n 0, 1) := by decide +kernel
theorem dX6_fill_195 : decode cX6_fill 195 = .ok (.getfield 41, 3) := by decide +kernel
theorem dX6_fill_198 : decode cX6_fill 198 = .ok (.iconst 5, 1) := by decide +kernel
theorem dX6_fill_199 : decode cX6_fill 199 = .ok (.iload 4, 2) := by decide +kernel
theorem dX6_fill_201 : decode cX6_fill 201 = .ok (.imul, 1) := by decide +kernel
theorem dX6_fill_202 : decode cX6_fill 202 = .ok (.iconst 4, 1) := by decide +kernel
theorem dX6_fill_203 : decode cX6_fill 203 = .ok (.iadd, 1) := by decide +kernel
theorem dX6_fill_204 : decode cX6_fill 204 = .ok (.iaload, 1) := by decide +kernel
theorem dX6_fill_205 : decode cX6_fill 205 = .ok (.ifCond .ne 7, 3) := by decide +kernel
theorem dX6_fill_208 : decode cX6_fill 208 = .ok (.iconst 1, 1) := by decide +kernel
theorem dX6_fill_209 : decode cX6_fill 209 = .ok (.goto 4, 3) := by decide +kernel
theorem dX6_fill_212 : decode cX6_fill 212 = .ok (.iconst 0, 1) := by decide +kernel
theorem dX6_fill_213 : decode cX6_fill 213 = .ok (.istore_n 3, 1) := by decide +kernel
theorem dX6_fill_214 : decode cX6_fill 214 = .ok (.iinc 4 1, 3) := by decide +kernel
theorem dX6_fill_217 : decode cX6_fill 217 = .ok (.goto (-33), 3) := by decide +kernel
theorem dX6_fill_220 : decode cX6_fill 220 = .ok (.iconst 0, 1) := by decide +kernel
theorem dX6_fill_221 : decode cX6_fill 221 = .ok (.istore 4, 2) := by decide +kernel
theorem dX6_fill_223 : decode cX6_fill 223 = .ok (.iload 4, 2) := by decide +kernel
theorem dX6_fill_225 : decode cX6_fill 225 = .ok (.iload_n 2, 1) := by decide +kernel
theorem dX6_fill_226 : decode cX6_fill 226 = .ok (.if_icmp .ge 36, 3) := by decide +kernel
theorem dX6_fill_229 : decode cX6_fill 229 = .ok (.iload_n 3, 1) := by decide +kernel
theorem dX6_fill_230 : decode cX6_fill 230 = .ok (.ifCond .eq 32, 3) := by decide +kernel
theorem dX6_fill_233 : decode cX6_fill 233 = .ok (.aload_n 0, 1) := by decide +kernel
theorem dX6_fill_234 : decode cX6_fill 234 = .ok (.getfield 35, 3) := by decide +kernel
theorem dX6_fill_237 : decode cX6_fill 237 = .ok (.aload_n 0, 1) := by decide +kernel
theorem dX6_fill_238 : decode cX6_fill 238 = .ok (.getfield 44, 3) := by decide +kernel
theorem dX6_fill_241 : decode cX6_fill 241 = .ok (.iload 4, 2) := by decide +kernel
theorem dX6_fill_243 : decode cX6_fill 243 = .ok (.iaload, 1) := by decide +kernel
theorem dX6_fill_244 : decode cX6_fill 244 = .ok (.aload_n 0, 1) := by decide +kernel
theorem dX6_fill_245 : decode cX6_fill 245 = .ok (.getfield 41, 3) := by decide +kernel
theorem dX6_fill_248 : decode cX6_fill 248 = .ok (.iconst 5, 1) := by decide +kernel
theorem dX6_fill_249 : decode cX6_fill 249 = .ok (.iload 4, 2) := by decide +kernel
theorem dX6_fill_251 : decode cX6_fill 251 = .ok (.imul, 1) := by decide +kernel
theorem dX6_fill_252 : decode cX6_fill 252 = .ok (.iconst 4, 1) := by decide +kernel
theorem dX6_fill_253 : decode cX6_fill 253 = .ok (.iadd, 1) := by decide +kernel
theorem dX6_fill_254 : decode cX6_fill 254 = .ok (.iaload, 1) := by decide +kernel
theorem dX6_fill_255 : decode cX6_fill 255 = .ok (.iastore, 1) := by decide +kernel
theorem dX6_fill_256 : decode cX6_fill 256 = .ok (.iinc 4 1, 3) := by decide +kernel
theorem dX6_fill_259 : decode cX6_fill 259 = .ok (.goto (-36), 3) := by decide +kernel
theorem dX6_fill_262 : decode cX6_fill 262 = .ok (.iload_n 3, 1) := by decide +kernel
theorem dX6_fill_263 : decode cX6_fill 263 = .ok (.ireturn, 1) := by decide +kernel
theorem dX6_finish_0 : decode cX6_finish 0 = .ok (.iconst 0, 1) := by decide +kernel
theorem dX6_finish_1 : decode cX6_finish 1 = .ok (.istore_n 2, 1) := by decide +kernel
theorem dX6_finish_2 : decode cX6_finish 2 = .ok (.iload_n 2, 1) := by decide +kernel
theorem dX6_finish_3 : decode cX6_finish 3 = .ok (.bipush 16, 2) := by decide +kernel
theorem dX6_finish_5 : decode cX6_finish 5 = .ok (.if_icmp .ge 32, 3) := by decide +kernel
theorem dX6_finish_8 : decode cX6_finish 8 = .ok (.aload_n 0, 1) := by decide +kernel
theorem dX6_finish_9 : decode cX6_finish 9 = .ok (.getfield 38, 3) := by decide +kernel
theorem dX6_finish_12 : decode cX6_finish 12 = .ok (.iload_n 2, 1) := by decide +kernel
theorem dX6_finish_13 : decode cX6_finish 13 = .ok (.iload_n 2, 1) := by decide +kernel
theorem dX6_finish_14 : decode cX6_finish 14 = .ok (.iload_n 1, 1) := by decide +kernel
theorem dX6_finish_15 : decode cX6_finish 15 = .ok (.iconst 4, 1) := by decide +kernel
theorem dX6_finish_16 : decode cX6_finish 16 = .ok (.isub, 1) := by decide +kernel
theorem dX6_finish_17 : decode cX6_finish 17 = .ok (.if_icmp .lt 12, 3) := by decide +kernel
theorem dX6_finish_20 : decode cX6_finish 20 = .ok (.iload_n 2, 1) := by decide +kernel
theorem dX6_finish_21 : decode cX6_finish 21 = .ok (.iload_n 1, 1) := by decide +kernel
theorem dX6_finish_22 : decode cX6_finish 22 = .ok (.if_icmp .ge 7, 3) := by decide +kernel
theorem dX6_finish_25 : decode cX6_finish 25 = .ok (.iconst 1, 1) := by decide +kernel
theorem dX6_finish_26 : decode cX6_finish 26 = .ok (.goto 4, 3) := by decide +kernel
theorem dX6_finish_29 : decode cX6_finish 29 = .ok (.iconst 0, 1) := by decide +kernel
theorem dX6_finish_30 : decode cX6_finish 30 = .ok (.bastore, 1) := by decide +kernel
theorem dX6_finish_31 : decode cX6_finish 31 = .ok (.iinc 2 1, 3) := by decide +kernel
theorem dX6_finish_34 : decode cX6_finish 34 = .ok (.goto (-32), 3) := by decide +kernel
theorem dX6_finish_37 : decode cX6_finish 37 = .ok (.aload_n 0, 1) := by decide +kernel
theorem dX6_finish_38 : decode cX6_finish 38 = .ok (.iload_n 1, 1) := by decide +kernel
theorem dX6_finish_39 : decode cX6_finish 39 = .ok (.invokevirtual 73, 3) := by decide +kernel
theorem dX6_finish_42 : decode cX6_finish 42 = .ok (.pop, 1) := by decide +kernel
theorem dX6_finish_43 : decode cX6_finish 43 = .ok (.return_, 1) := by decide +kernel
theorem dX6_loadData_0 : decode cX6_loadData 0 = .ok (.iconst 0, 1) := by decide +kernel
theorem dX6_loadData_1 : decode cX6_loadData 1 = .ok (.istore_n 3, 1) := by decide +kernel
theorem dX6_loadData_2 : decode cX6_loadData 2 = .ok (.iload_n 3, 1) := by decide +kernel
theorem dX6_loadData_3 : decode cX6_loadData 3 = .ok (.bipush 8, 2) := by decide +kernel
theorem dX6_loadData_5 : decode cX6_loadData 5 = .ok (.if_icmp .ge 26, 3) := by decide +kernel
theorem dX6_loadData_8 : decode cX6_loadData 8 = .ok (.aload_n 0, 1) := by decide +kernel
theorem dX6_loadData_9 : decode cX6_loadData 9 = .ok (.getfield 35, 3) := by decide +kernel
theorem dX6_loadData_12 : decode cX6_loadData 12 = .ok (.iload_n 3, 1) := by decide +kernel
theorem dX6_loadData_13 : decode cX6_loadData 13 = .ok (.lload_n 1, 1) := by decide +kernel
theorem dX6_loadData_14 : decode cX6_loadData 14 = .ok (.bipush 8, 2) := by decide +kernel
theorem dX6_loadData_16 : decode cX6_loadData 16 = .ok (.iload_n 3, 1) := by decide +kernel
theorem dX6_loadData_17 : decode cX6_loadData 17 = .ok (.imul, 1) := by decide +kernel
theorem dX6_loadData_18 : decode cX6_loadData 18 = .ok (.lshr, 1) := by decide +kernel
theorem dX6_loadData_19 : decode cX6_loadData 19 = .ok (.ldc2_w 77, 3) := by decide +kernel
theorem dX6_loadData_22 : decode cX6_loadData 22 = .ok (.land, 1) := by decide +kernel
theorem dX6_loadData_23 : decode cX6_loadData 23 = .ok (.l2i, 1) := by decide +kernel
theorem dX6_loadData_24 : decode cX6_loadData 24 = .ok (.iastore, 1) := by decide +kernel
theorem dX6_loadData_25 : decode cX6_loadData 25 = .ok (.iinc 3 1, 3) := by decide +kernel
theorem dX6_loadData_28 : decode cX6_loadData 28 = .ok (.goto (-26), 3) := by decide +kernel
theorem dX6_loadData_31 : decode cX6_loadData 31 = .ok (.return_, 1) := by decide +kernel
theorem dX6_feed_0 : decode cX6_feed 0 = .ok (.aload_n 0, 1) := by decide +kernel
theorem dX6_feed_1 : decode cX6_feed 1 = .ok (.aload_n 0, 1) := by decide +kernel
theorem dX6_feed_2 : decode cX6_feed 2 = .ok (.getfield 79, 3) := by decide +kernel
theorem dX6_feed_5 : decode cX6_feed 5 = .ok (.bipush 48, 2) := by decide +kernel
theorem dX6_feed_7 : decode cX6_feed 7 = .ok (.if_icmp .ne 7, 3) := by decide +kernel
theorem dX6_feed_10 : decode cX6_feed 10 = .ok (.iconst 1, 1) := by decide +kernel
theorem dX6_feed_11 : decode cX6_feed 11 = .ok (.goto 4, 3) := by decide +kernel
theorem dX6_feed_14 : decode cX6_feed 14 = .ok (.iconst 0, 1) := by decide +kernel
theorem dX6_feed_15 : decode cX6_feed 15 = .ok (.putfield 47, 3) := by decide +kernel
theorem dX6_feed_18 : decode cX6_feed 18 = .ok (.aload_n 0, 1) := by decide +kernel
theorem dX6_feed_19 : decode cX6_feed 19 = .ok (.getfield 47, 3) := by decide +kernel
theorem dX6_feed_22 : decode cX6_feed 22 = .ok (.ifCond .le 5, 3) := by decide +kernel
theorem dX6_feed_25 : decode cX6_feed 25 = .ok (.iconst 0, 1) := by decide +kernel
theorem dX6_feed_26 : decode cX6_feed 26 = .ok (.ireturn, 1) := by decide +kernel
theorem dX6_feed_27 : decode cX6_feed 27 = .ok (.aload_n 0, 1) := by decide +kernel
theorem dX6_feed_28 : decode cX6_feed 28 = .ok (.getfield 79, 3) := by decide +kernel
theorem dX6_feed_31 : decode cX6_feed 31 = .ok (.istore_n 3, 1) := by decide +kernel
theorem dX6_feed_32 : decode cX6_feed 32 = .ok (.aload_n 0, 1) := by decide +kernel
theorem dX6_feed_33 : decode cX6_feed 33 = .ok (.lload_n 1, 1) := by decide +kernel
theorem dX6_feed_34 : decode cX6_feed 34 = .ok (.invokevirtual 82, 3) := by decide +kernel
theorem dX6_feed_37 : decode cX6_feed 37 = .ok (.aload_n 0, 1) := by decide +kernel
theorem dX6_feed_38 : decode cX6_feed 38 = .ok (.bipush 12, 2) := by decide +kernel
theorem dX6_feed_40 : decode cX6_feed 40 = .ok (.invokevirtual 86, 3) := by decide +kernel
theorem dX6_feed_43 : decode cX6_feed 43 = .ok (.iconst 0, 1) := by decide +kernel
theorem dX6_feed_44 : decode cX6_feed 44 = .ok (.istore 4, 2) := by decide +kernel
theorem dX6_feed_46 : decode cX6_feed 46 = .ok (.iload 4, 2) := by decide +kernel
theorem dX6_feed_48 : decode cX6_feed 48 = .ok (.bipush 12, 2) := by decide +kernel
theorem dX6_feed_50 : decode cX6_feed 50 = .ok (.if_icmp .ge 28, 3) := by decide +kernel
theorem dX6_feed_53 : decode cX6_feed 53 = .ok (.aload_n 0, 1) := by decide +kernel
theorem dX6_feed_54 : decode cX6_feed 54 = .ok (.getfield 7, 3) := by decide +kernel
theorem dX6_feed_57 : decode cX6_feed 57 = .ok (.bipush 12, 2) := by decide +kernel
theorem dX6_feed_59 : decode cX6_feed 59 = .ok (.iload_n 3, 1) := by decide +kernel
theorem dX6_feed_60 : decode cX6_feed 60 = .ok (.imul, 1) := by decide +kernel
theorem dX6_feed_61 : decode cX6_feed 61 = .ok (.iload 4, 2) := by decide +kernel
theorem dX6_feed_63 : decode cX6_feed 63 = .ok (.iadd, 1) := by decide +kernel
theorem dX6_feed_64 : decode cX6_feed 64 = .ok (.aload_n 0, 1) := by decide +kernel
theorem dX6_feed_65 : decode cX6_feed 65 = .ok (.getfield 35, 3) := by decide +kernel
theorem dX6_feed_68 : decode cX6_feed 68 = .ok (.iload 4, 2) := by decide +kernel
theorem dX6_feed_70 : decode cX6_feed 70 = .ok (.iaload, 1) := by decide +kernel
theorem dX6_feed_71 : decode cX6_feed 71 = .ok (.iastore, 1) := by decide +kernel
theorem dX6_feed_72 : decode cX6_feed 72 = .ok (.iinc 4 1, 3) := by decide +kernel
theorem dX6_feed_75 : decode cX6_feed 75 = .ok (.goto (-29), 3) := by decide +kernel
theorem dX6_feed_78 : decode cX6_feed 78 = .ok (.iconst 0, 1) := by decide +kernel
theorem dX6_feed_79 : decode cX6_feed 79 = .ok (.istore 4, 2) := by decide +kernel
theorem dX6_feed_81 : decode cX6_feed 81 = .ok (.iload 4, 2) := by decide +kernel
theorem dX6_feed_83 : decode cX6_feed 83 = .ok (.bipush 12, 2) := by decide +kernel
theorem dX6_feed_85 : decode cX6_feed 85 = .ok (.if_icmp .ge 42, 3) := by decide +kernel
theorem dX6_feed_88 : decode cX6_feed 88 = .ok (.aload_n 0, 1) := by decide +kernel
theorem dX6_feed_89 : decode cX6_feed 89 = .ok (.getfield 35, 3) := by decide +kernel
theorem dX6_feed_92 : decode cX6_feed 92 = .ok (.iload 4, 2) := by decide +kernel
theorem dX6_feed_94 : decode cX6_feed 94 = .ok (.iload_n 3, 1) := by decide +kernel
theorem dX6_feed_95 : decode cX6_feed 95 = .ok (.iload 4, 2) := by decide +kernel
theorem dX6_feed_97 : decode cX6_feed 97 = .ok (.isub, 1) := by decide +kernel
theorem dX6_feed_98 : decode cX6_feed 98 = .ok (.ifCond .ge 7, 3) := by decide +kernel
theorem dX6_feed_101 : decode cX6_feed 101 = .ok (.iconst 0, 1) := by decide +kernel
theorem dX6_feed_102 : decode cX6_feed 102 = .ok (.goto 18, 3) := by decide +kernel
theorem dX6_feed_105 : decode cX6_feed 105 = .ok (.aload_n 0, 1) := by decide +kernel
theorem dX6_feed_106 : decode cX6_feed 106 = .ok (.getfield 7, 3) := by decide +kernel
theorem dX6_feed_109 : decode cX6_feed 109 = .ok (.bipush 12, 2) := by decide +kernel
theorem dX6_feed_111 : decode cX6_feed 111 = .ok (.iload_n 3, 1) := by decide +kernel
theorem dX6_feed_112 : decode cX6_feed 112 = .ok (.iload 4, 2) := by decide +kernel
theorem dX6_feed_114 : decode cX6_feed 114 = .ok (.isub, 1) := by decide +kernel
theorem dX6_feed_115 : decode cX6_feed 115 = .ok (.imul, 1) := by decide +kernel
theorem dX6_feed_116 : decode cX6_feed 116 = .ok (.iload 4, 2) := by decide +kernel
theorem dX6_feed_118 : decode cX6_feed 118 = .ok (.iadd, 1) := by decide +kernel
theorem dX6_feed_119 : decode cX6_feed 119 = .ok (.iaload, 1) := by decide +kernel
theorem dX6_feed_120 : decode cX6_feed 120 = .ok (.iastore, 1) := by decide +kernel
theorem dX6_feed_121 : decode cX6_feed 121 = .ok (.iinc 4 1, 3) := by decide +kernel
theorem dX6_feed_124 : decode cX6_feed 124 = .ok (.goto (-43), 3) := by decide +kernel
theorem dX6_feed_127 : decode cX6_feed 127 = .ok (.aload_n 0, 1) := by decide +kernel
theorem dX6_feed_128 : decode cX6_feed 128 = .ok (.bipush 16, 2) := by decide +kernel
theorem dX6_feed_130 : decode cX6_feed 130 = .ok (.invokevirtual 86, 3) := by decide +kernel
theorem dX6_feed_133 : decode cX6_feed 133 = .ok (.iconst 0, 1) := by decide +kernel
theorem dX6_feed_134 : decode cX6_feed 134 = .ok (.istore 4, 2) := by decide +kernel
theorem dX6_feed_136 : decode cX6_feed 136 = .ok (.iload 4, 2) := by decide +kernel
theorem dX6_feed_138 : decode cX6_feed 138 = .ok (.bipush 16, 2) := by decide +kernel
theorem dX6_feed_140 : decode cX6_feed 140 = .ok (.if_icmp .ge 28, 3) := by decide +kernel
theorem dX6_feed_143 : decode cX6_feed 143 = .ok (.aload_n 0, 1) := by decide +kernel
theorem dX6_feed_144 : decode cX6_feed 144 = .ok (.getfield 13, 3) := by decide +kernel
theorem dX6_feed_147 : decode cX6_feed 147 = .ok (.bipush 16, 2) := by decide +kernel
theorem dX6_feed_149 : decode cX6_feed 149 = .ok (.iload_n 3, 1) := by decide +kernel
theorem dX6_feed_150 : decode cX6_feed 150 = .ok (.imul, 1) := by decide +kernel
theorem dX6_feed_151 : decode cX6_feed 151 = .ok (.iload 4, 2) := by decide +kernel
theorem dX6_feed_153 : decode cX6_feed 153 = .ok (.iadd, 1) := by decide +kernel
theorem dX6_feed_154 : decode cX6_feed 154 = .ok (.aload_n 0, 1) := by decide +kernel
theorem dX6_feed_155 : decode cX6_feed 155 = .ok (.getfield 35, 3) := by decide +kernel
theorem dX6_feed_158 : decode cX6_feed 158 = .ok (.iload 4, 2) := by decide +kernel
theorem dX6_feed_160 : decode cX6_feed 160 = .ok (.iaload, 1) := by decide +kernel
theorem dX6_feed_161 : decode cX6_feed 161 = .ok (.iastore, 1) := by decide +kernel
theorem dX6_feed_162 : decode cX6_feed 162 = .ok (.iinc 4 1, 3) := by decide +kernel
theorem dX6_feed_165 : decode cX6_feed 165 = .ok (.goto (-29), 3) := by decide +kernel
theorem dX6_feed_168 : decode cX6_feed 168 = .ok (.iconst 0, 1) := by decide +kernel
theorem dX6_feed_169 : decode cX6_feed 169 = .ok (.istore 4, 2) := by decide +kernel
theorem dX6_feed_171 : decode cX6_feed 171 = .ok (.iload 4, 2) := by decide +kernel
theorem dX6_feed_173 : decode cX6_feed 173 = .ok (.bipush 16, 2) := by decide +kernel
theorem dX6_feed_175 : decode cX6_feed 175 = .ok (.if_icmp .ge 71, 3) := by decide +kernel
theorem dX6_feed_178 : decode cX6_feed 178 = .ok (.iload_n 3, 1) := by decide +kernel
theorem dX6_feed_179 : decode cX6_feed 179 = .ok (.iload 4, 2) := by decide +kernel
theorem dX6_feed_181 : decode cX6_feed 181 = .ok (.iconst 2, 1) := by decide +kernel
theorem dX6_feed_182 : decode cX6_feed 182 = .ok (.irem, 1) := by decide +kernel
theorem dX6_feed_183 : decode cX6_feed 183 = .ok (.isub, 1) := by decide +kernel
theorem dX6_feed_184 : decode cX6_feed 184 = .ok (.istore 5, 2) := by decide +kernel
theorem dX6_feed_186 : decode cX6_feed 186 = .ok (.iload 5, 2) := by decide +kernel
theorem dX6_feed_188 : decode cX6_feed 188 = .ok (.ifCond .ge 7, 3) := by decide +kernel
theorem dX6_feed_191 : decode cX6_feed 191 = .ok (.iconst 0, 1) := by decide +kernel
theorem dX6_feed_192 : decode cX6_feed 192 = .ok (.goto 16, 3) := by decide +kernel
theorem dX6_feed_195 : decode cX6_feed 195 = .ok (.aload_n 0, 1) := by decide +kernel
theorem dX6_feed_196 : decode cX6_feed 196 = .ok (.getfield 13, 3) := by decide +kernel
theorem dX6_feed_199 : decode cX6_feed 199 = .ok (.bipush 16, 2) := by decide +kernel
theorem dX6_feed_201 : decode cX6_feed 201 = .ok (.iload 5, 2) := by decide +kernel
theorem dX6_feed_203 : decode cX6_feed 203 = .ok (.imul, 1) := by decide +kernel
theorem dX6_feed_204 : decode cX6_feed 204 = .ok (.iload 4, 2) := by decide +kernel
theorem dX6_feed_206 : decode cX6_feed 206 = .ok (.iadd, 1) := by decide +kernel
theorem dX6_feed_207 : decode cX6_feed 207 = .ok (.iaload, 1) := by decide +kernel
theorem dX6_feed_208 : decode cX6_feed 208 = .ok (.istore 6, 2) := by decide +kernel
theorem dX6_feed_210 : decode cX6_feed 210 = .ok (.aload_n 0, 1) := by decide +kernel
theorem dX6_feed_211 : decode cX6_feed 211 = .ok (.getfield 16, 3) := by decide +kernel
theorem dX6_feed_214 : decode cX6_feed 214 = .ok (.bipush 16, 2) := by decide +kernel
theorem dX6_feed_216 : decode cX6_feed 216 = .ok (.iload_n 3, 1) := by decide +kernel
theorem dX6_feed_217 : decode cX6_feed 217 = .ok (.imul, 1) := by decide +kernel
theorem dX6_feed_218 : decode cX6_feed 218 = .ok (.iload 4, 2) := by decide +kernel
theorem dX6_feed_220 : decode cX6_feed 220 = .ok (.iadd, 1) := by decide +kernel
theorem dX6_feed_221 : decode cX6_feed 221 = .ok (.iload 4, 2) := by decide +kernel
theorem dX6_feed_223 : decode cX6_feed 223 = .ok (.bipush 8, 2) := by decide +kernel
theorem dX6_feed_225 : decode cX6_feed 225 = .ok (.if_icmp .ge 8, 3) := by decide +kernel
theorem dX6_feed_228 : decode cX6_feed 228 = .ok (.iload 6, 2) := by decide +kernel
theorem dX6_feed_230 : decode cX6_feed 230 = .ok (.goto 9, 3) := by decide +kernel
theorem dX6_feed_233 : decode cX6_feed 233 = .ok (.sipush 255, 3) := by decide +kernel
theorem dX6_feed_236 : decode cX6_feed 236 = .ok (.iload 6, 2) := by decide +kernel
theorem dX6_feed_238 : decode cX6_feed 238 = .ok (.isub, 1) := by decide +kernel
theorem dX6_feed_239 : decode cX6_feed 239 = .ok (.iastore, 1) := by decide +kernel
theorem dX6_feed_240 : decode cX6_feed 240 = .ok (.iinc 4 1, 3) := by decide +kernel
theorem dX6_feed_243 : decode cX6_feed 243 = .ok (.goto (-72), 3) := by decide +kernel
theorem dX6_feed_246 : decode cX6_feed 246 = .ok (.aload_n 0, 1) := by decide +kernel
theorem dX6_feed_247 : decode cX6_feed 247 = .ok (.dup, 1) := by decide +kernel
theorem dX6_feed_248 : decode cX6_feed 248 = .ok (.getfield 79, 3) := by decide +kernel
theorem dX6_feed_251 : decode cX6_feed 251 = .ok (.iconst 1, 1) := by decide +kernel
theorem dX6_feed_252 : decode cX6_feed 252 = .ok (.iadd, 1) := by decide +kernel
theorem dX6_feed_253 : decode cX6_feed 253 = .ok (.putfield 79, 3) := by decide +kernel
theorem dX6_feed_256 : decode cX6_feed 256 = .ok (.iload_n 3, 1) := by decide +kernel
theorem dX6_feed_257 : decode cX6_feed 257 = .ok (.ireturn, 1) := by decide +kernel
theorem dX6_rows_0 : decode cX6_rows 0 = .ok (.aload_n 0, 1) := by decide +kernel
theorem dX6_rows_1 : decode cX6_rows 1 = .ok (.iconst 0, 1) := by decide +kernel
theorem dX6_rows_2 : decode cX6_rows 2 = .ok (.putfield 47, 3) := by decide +kernel
theorem dX6_rows_5 : decode cX6_rows 5 = .ok (.aload_n 0, 1) := by decide +kernel
theorem dX6_rows_6 : decode cX6_rows 6 = .ok (.getfield 79, 3) := by decide +kernel
theorem dX6_rows_9 : decode cX6_rows 9 = .ok (.ireturn, 1) := by decide +kernel
theorem dX6_onDisc_0 : decode cX6_onDisc 0 = .ok (.iload_n 1, 1) := by decide +kernel
theorem dX6_onDisc_1 : decode cX6_onDisc 1 = .ok (.ifCond .lt 25, 3) := by decide +kernel
theorem dX6_onDisc_4 : decode cX6_onDisc 4 = .ok (.iload_n 1, 1) := by decide +kernel
theorem dX6_onDisc_5 : decode cX6_onDisc 5 = .ok (.aload_n 0, 1) := by decide +kernel
theorem dX6_onDisc_6 : decode cX6_onDisc 6 = .ok (.getfield 79, 3) := by decide +kernel
theorem dX6_onDisc_9 : decode cX6_onDisc 9 = .ok (.if_icmp .ge 17, 3) := by decide +kernel
theorem dX6_onDisc_12 : decode cX6_onDisc 12 = .ok (.iload_n 2, 1) := by decide +kernel
theorem dX6_onDisc_13 : decode cX6_onDisc 13 = .ok (.ifCond .lt 13, 3) := by decide +kernel
theorem dX6_onDisc_16 : decode cX6_onDisc 16 = .ok (.iload_n 2, 1) := by decide +kernel
theorem dX6_onDisc_17 : decode cX6_onDisc 17 = .ok (.bipush 16, 2) := by decide +kernel
theorem dX6_onDisc_19 : decode cX6_onDisc 19 = .ok (.if_icmp .ge 7, 3) := by decide +kernel
theorem dX6_onDisc_22 : decode cX6_onDisc 22 = .ok (.iconst 1, 1) := by decide +kernel
theorem dX6_onDisc_23 : decode cX6_onDisc 23 = .ok (.goto 4, 3) := by decide +kernel
theorem dX6_onDisc_26 : decode cX6_onDisc 26 = .ok (.iconst 0, 1) := by decide +kernel
theorem dX6_onDisc_27 : decode cX6_onDisc 27 = .ok (.ireturn, 1) := by decide +kernel
theorem dX6_isSymbol_0 : decode cX6_isSymbol 0 = .ok (.iload_n 0, 1) := by decide +kernel
theorem dX6_isSymbol_1 : decode cX6_isSymbol 1 = .ok (.ifCond .lt 14, 3) := by decide +kernel
theorem dX6_isSymbol_4 : decode cX6_isSymbol 4 = .ok (.iload_n 0, 1) := by decide +kernel
theorem dX6_isSymbol_5 : decode cX6_isSymbol 5 = .ok (.sipush 255, 3) := by decide +kernel
theorem dX6_isSymbol_8 : decode cX6_isSymbol 8 = .ok (.if_icmp .gt 7, 3) := by decide +kernel
theorem dX6_isSymbol_11 : decode cX6_isSymbol 11 = .ok (.iconst 1, 1) := by decide +kernel
theorem dX6_isSymbol_12 : decode cX6_isSymbol 12 = .ok (.goto 4, 3) := by decide +kernel
theorem dX6_isSymbol_15 : decode cX6_isSymbol 15 = .ok (.iconst 0, 1) := by decide +kernel
theorem dX6_isSymbol_16 : decode cX6_isSymbol 16 = .ok (.ireturn, 1) := by decide +kernel
theorem dX6_symbol_0 : decode cX6_symbol 0 = .ok (.aload_n 0, 1) := by decide +kernel
theorem dX6_symbol_1 : decode cX6_symbol 1 = .ok (.aload_n 0, 1) := by decide +kernel
theorem dX6_symbol_2 : decode cX6_symbol 2 = .ok (.iload_n 1, 1) := by decide +kernel
theorem dX6_symbol_3 : decode cX6_symbol 3 = .ok (.iload_n 2, 1) := by decide +kernel
theorem dX6_symbol_4 : decode cX6_symbol 4 = .ok (.invokevirtual 89, 3) := by decide +kernel
theorem dX6_symbol_7 : decode cX6_symbol 7 = .ok (.ifCond .eq 7, 3) := by decide +kernel
theorem dX6_symbol_10 : decode cX6_symbol 10 = .ok (.iconst 0, 1) := by decide +kernel
theorem dX6_symbol_11 : decode cX6_symbol 11 = .ok (.goto 4, 3) := by decide +kernel
theorem dX6_symbol_14 : decode cX6_symbol 14 = .ok (.iconst 1, 1) := by decide +kernel
theorem dX6_symbol_15 : decode cX6_symbol 15 = .ok (.putfield 47, 3) := by decide +kernel
theorem dX6_symbol_18 : decode cX6_symbol 18 = .ok (.aload_n 0, 1) := by decide +kernel
theorem dX6_symbol_19 : decode cX6_symbol 19 = .ok (.getfield 47, 3) := by decide +kernel
theorem dX6_symbol_22 : decode cX6_symbol 22 = .ok (.ifCond .ne 17, 3) := by decide +kernel
theorem dX6_symbol_25 : decode cX6_symbol 25 = .ok (.aload_n 0, 1) := by decide +kernel
theorem dX6_symbol_26 : decode cX6_symbol 26 = .ok (.getfield 16, 3) := by decide +kernel
theorem dX6_symbol_29 : decode cX6_symbol 29 = .ok (.bipush 16, 2) := by decide +kernel
theorem dX6_symbol_31 : decode cX6_symbol 31 = .ok (.iload_n 1, 1) := by decide +kernel
theorem dX6_symbol_32 : decode cX6_symbol 32 = .ok (.imul, 1) := by decide +kernel
theorem dX6_symbol_33 : decode cX6_symbol 33 = .ok (.iload_n 2, 1) := by decide +kernel
theorem dX6_symbol_34 : decode cX6_symbol 34 = .ok (.iadd, 1) := by decide +kernel
theorem dX6_symbol_35 : decode cX6_symbol 35 = .ok (.iaload, 1) := by decide +kernel
theorem dX6_symbol_36 : decode cX6_symbol 36 = .ok (.goto 4, 3) := by decide +kernel
theorem dX6_symbol_39 : decode cX6_symbol 39 = .ok (.iconst 0, 1) := by decide +kernel
theorem dX6_symbol_40 : decode cX6_symbol 40 = .ok (.ireturn, 1) := by decide +kernel
theorem dX6_scratch_0 : decode cX6_scratch 0 = .ok (.aload_n 0, 1) := by decide +kernel
theorem dX6_scratch_1 : decode cX6_scratch 1 = .ok (.aload_n 0, 1) := by decide +kernel
theorem dX6_scratch_2 : decode cX6_scratch 2 = .ok (.iload_n 1, 1) := by decide +kernel
theorem dX6_scratch_3 : decode cX6_scratch 3 = .ok (.iload_n 2, 1) := by decide +kernel
theorem dX6_scratch_4 : decode cX6_scratch 4 = .ok (.invokevirtual 89, 3) := by decide +kernel
theorem dX6_scratch_7 : decode cX6_scratch 7 = .ok (.ifCond .ne 7, 3) := by decide +kernel
theorem dX6_scratch_10 : decode cX6_scratch 10 = .ok (.iconst 1, 1) := by decide +kernel
theorem dX6_scratch_11 : decode cX6_scratch 11 = .ok (.goto 27, 3) := by decide +kernel
theorem dX6_scratch_14 : decode cX6_scratch 14 = .ok (.iload_n 3, 1) := by decide +kernel
theorem dX6_scratch_15 : decode cX6_scratch 15 = .ok (.invokestatic 93, 3) := by decide +kernel
theorem dX6_scratch_18 : decode cX6_scratch 18 = .ok (.ifCond .ne 7, 3) := by decide +kernel
theorem dX6_scratch_21 : decode cX6_scratch 21 = .ok (.iconst 2, 1) := by decide +kernel
theorem dX6_scratch_22 : decode cX6_scratch 22 = .ok (.goto 16, 3) := by decide +kernel
theorem dX6_scratch_25 : decode cX6_scratch 25 = .ok (.iload_n 1, 1) := by decide +kernel
theorem dX6_scratch_26 : decode cX6_scratch 26 = .ok (.aload_n 0, 1) := by decide +kernel
theorem dX6_scratch_27 : decode cX6_scratch 27 = .ok (.getfield 96, 3) := by decide +kernel
theorem dX6_scratch_30 : decode cX6_scratch 30 = .ok (.if_icmp .ge 7, 3) := by decide +kernel
theorem dX6_scratch_33 : decode cX6_scratch 33 = .ok (.iconst 3, 1) := by decide +kernel
theorem dX6_scratch_34 : decode cX6_scratch 34 = .ok (.goto 4, 3) := by decide +kernel
theorem dX6_scratch_37 : decode cX6_scratch 37 = .ok (.iconst 0, 1) := by decide +kernel
theorem dX6_scratch_38 : decode cX6_scratch 38 = .ok (.putfield 47, 3) := by decide +kernel
theorem dX6_scratch_41 : decode cX6_scratch 41 = .ok (.aload_n 0, 1) := by decide +kernel
theorem dX6_scratch_42 : decode cX6_scratch 42 = .ok (.getfield 47, 3) := by decide +kernel
theorem dX6_scratch_45 : decode cX6_scratch 45 = .ok (.ifCond .ne 18, 3) := by decide +kernel
theorem dX6_scratch_48 : decode cX6_scratch 48 = .ok (.aload_n 0, 1) := by decide +kernel
theorem dX6_scratch_49 : decode cX6_scratch 49 = .ok (.getfield 16, 3) := by decide +kernel
theorem dX6_scratch_52 : decode cX6_scratch 52 = .ok (.bipush 16, 2) := by decide +kernel
theorem dX6_scratch_54 : decode cX6_scratch 54 = .ok (.iload_n 1, 1) := by decide +kernel
theorem dX6_scratch_55 : decode cX6_scratch 55 = .ok (.imul, 1) := by decide +kernel
theorem dX6_scratch_56 : decode cX6_scratch 56 = .ok (.iload_n 2, 1) := by decide +kernel
theorem dX6_scratch_57 : decode cX6_scratch 57 = .ok (.iadd, 1) := by decide +kernel
theorem dX6_scratch_58 : decode cX6_scratch 58 = .ok (.dup2, 1) := by decide +kernel
theorem dX6_scratch_59 : decode cX6_scratch 59 = .ok (.iaload, 1) := by decide +kernel
theorem dX6_scratch_60 : decode cX6_scratch 60 = .ok (.iload_n 3, 1) := by decide +kernel
theorem dX6_scratch_61 : decode cX6_scratch 61 = .ok (.ixor, 1) := by decide +kernel
theorem dX6_scratch_62 : decode cX6_scratch 62 = .ok (.iastore, 1) := by decide +kernel
theorem dX6_scratch_63 : decode cX6_scratch 63 = .ok (.return_, 1) := by decide +kernel
theorem dX6_burst_0 : decode cX6_burst 0 = .ok (.aload_n 0, 1) := by decide +kernel
theorem dX6_burst_1 : decode cX6_burst 1 = .ok (.iload_n 2, 1) := by decide +kernel
theorem dX6_burst_2 : decode cX6_burst 2 = .ok (.ifCond .lt 10, 3) := by decide +kernel
theorem dX6_burst_5 : decode cX6_burst 5 = .ok (.iload_n 3, 1) := by decide +kernel
theorem dX6_burst_6 : decode cX6_burst 6 = .ok (.invokestatic 93, 3) := by decide +kernel
theorem dX6_burst_9 : decode cX6_burst 9 = .ok (.ifCond .ne 7, 3) := by decide +kernel
theorem dX6_burst_12 : decode cX6_burst 12 = .ok (.iconst 1, 1) := by decide +kernel
theorem dX6_burst_13 : decode cX6_burst 13 = .ok (.goto 59, 3) := by decide +kernel
theorem dX6_burst_16 : decode cX6_burst 16 = .ok (.iload_n 2, 1) := by decide +kernel
theorem dX6_burst_17 : decode cX6_burst 17 = .ok (.ifCond .le 35, 3) := by decide +kernel
theorem dX6_burst_20 : decode cX6_burst 20 = .ok (.iload_n 1, 1) := by decide +kernel
theorem dX6_burst_21 : decode cX6_burst 21 = .ok (.ifCond .lt 27, 3) := by decide +kernel
theorem dX6_burst_24 : decode cX6_burst 24 = .ok (.iload_n 1, 1) := by decide +kernel
theorem dX6_burst_25 : decode cX6_burst 25 = .ok (.bipush 16, 2) := by decide +kernel
theorem dX6_burst_27 : decode cX6_burst 27 = .ok (.aload_n 0, 1) := by decide +kernel
theorem dX6_burst_28 : decode cX6_burst 28 = .ok (.getfield 79, 3) := by decide +kernel
theorem dX6_burst_31 : decode cX6_burst 31 = .ok (.imul, 1) := by decide +kernel
theorem dX6_burst_32 : decode cX6_burst 32 = .ok (.if_icmp .ge 16, 3) := by decide +kernel
theorem dX6_burst_35 : decode cX6_burst 35 = .ok (.iload_n 2, 1) := by decide +kernel
theorem dX6_burst_36 : decode cX6_burst 36 = .ok (.bipush 16, 2) := by decide +kernel
theorem dX6_burst_38 : decode cX6_burst 38 = .ok (.aload_n 0, 1) := by decide +kernel
theorem dX6_burst_39 : decode cX6_burst 39 = .ok (.getfield 79, 3) := by decide +kernel
theorem dX6_burst_42 : decode cX6_burst 42 = .ok (.imul, 1) := by decide +kernel
theorem dX6_burst_43 : decode cX6_burst 43 = .ok (.iload_n 1, 1) := by decide +kernel
theorem dX6_burst_44 : decode cX6_burst 44 = .ok (.isub, 1) := by decide +kernel
theorem dX6_burst_45 : decode cX6_burst 45 = .ok (.if_icmp .le 7, 3) := by decide +kernel
theorem dX6_burst_48 : decode cX6_burst 48 = .ok (.iconst 2, 1) := by decide +kernel
theorem dX6_burst_49 : decode cX6_burst 49 = .ok (.goto 23, 3) := by decide +kernel
theorem dX6_burst_52 : decode cX6_burst 52 = .ok (.iload_n 2, 1) := by decide +kernel
theorem dX6_burst_53 : decode cX6_burst 53 = .ok (.ifCond .le 18, 3) := by decide +kernel
theorem dX6_burst_56 : decode cX6_burst 56 = .ok (.iload_n 1, 1) := by decide +kernel
theorem dX6_burst_57 : decode cX6_burst 57 = .ok (.bipush 16, 2) := by decide +kernel
theorem dX6_burst_59 : decode cX6_burst 59 = .ok (.idiv, 1) := by decide +kernel
theorem dX6_burst_60 : decode cX6_burst 60 = .ok (.aload_n 0, 1) := by decide +kernel
theorem dX6_burst_61 : decode cX6_burst 61 = .ok (.getfield 96, 3) := by decide +kernel
theorem dX6_burst_64 : decode cX6_burst 64 = .ok (.if_icmp .ge 7, 3) := by decide +kernel
theorem dX6_burst_67 : decode cX6_burst 67 = .ok (.iconst 3, 1) := by decide +kernel
theorem dX6_burst_68 : decode cX6_burst 68 = .ok (.goto 4, 3) := by decide +kernel
theorem dX6_burst_71 : decode cX6_burst 71 = .ok (.iconst 0, 1) := by decide +kernel
theorem dX6_burst_72 : decode cX6_burst 72 = .ok (.putfield 47, 3) := by decide +kernel
theorem dX6_burst_75 : decode cX6_burst 75 = .ok (.iconst 0, 1) := by decide +kernel
theorem dX6_burst_76 : decode cX6_burst 76 = .ok (.istore 4, 2) := by decide +kernel
theorem dX6_burst_78 : decode cX6_burst 78 = .ok (.iload 4, 2) := by decide +kernel
theorem dX6_burst_80 : decode cX6_burst 80 = .ok (.iload_n 2, 1) := by decide +kernel
theorem dX6_burst_81 : decode cX6_burst 81 = .ok (.if_icmp .ge 29, 3) := by decide +kernel
theorem dX6_burst_84 : decode cX6_burst 84 = .ok (.aload_n 0, 1) := by decide +kernel
theorem dX6_burst_85 : decode cX6_burst 85 = .ok (.getfield 47, 3) := by decide +kernel
theorem dX6_burst_88 : decode cX6_burst 88 = .ok (.ifCond .ne 22, 3) := by decide +kernel
theorem dX6_burst_91 : decode cX6_burst 91 = .ok (.aload_n 0, 1) := by decide +kernel
theorem dX6_burst_92 : decode cX6_burst 92 = .ok (.getfield 16, 3) := by decide +kernel
theorem dX6_burst_95 : decode cX6_burst 95 = .ok (.iload_n 1, 1) := by decide +kernel
theorem dX6_burst_96 : decode cX6_burst 96 = .ok (.iload 4, 2) := by decide +kernel
theorem dX6_burst_98 : decode cX6_burst 98 = .ok (.iadd, 1) := by decide +kernel
theorem dX6_burst_99 : decode cX6_burst 99 = .ok (.dup2, 1) := by decide +kernel
theorem dX6_burst_100 : decode cX6_burst 100 = .ok (.iaload, 1) := by decide +kernel
theorem dX6_burst_101 : decode cX6_burst 101 = .ok (.iload_n 3, 1) := by decide +kernel
theorem dX6_burst_102 : decode cX6_burst 102 = .ok (.ixor, 1) := by decide +kernel
theorem dX6_burst_103 : decode cX6_burst 103 = .ok (.iastore, 1) := by decide +kernel
theorem dX6_burst_104 : decode cX6_burst 104 = .ok (.iinc 4 1, 3) := by decide +kernel
theorem dX6_burst_107 : decode cX6_burst 107 = .ok (.goto (-29), 3) := by decide +kernel
theorem dX6_burst_110 : decode cX6_burst 110 = .ok (.return_, 1) := by decide +kernel
theorem dX6_mend_0 : decode cX6_mend 0 = .ok (.aload_n 0, 1) := by decide +kernel
theorem dX6_mend_1 : decode cX6_mend 1 = .ok (.bipush 16, 2) := by decide +kernel
theorem dX6_mend_3 : decode cX6_mend 3 = .ok (.invokevirtual 99, 3) := by decide +kernel
theorem dX6_mend_6 : decode cX6_mend 6 = .ok (.ifCond .eq 5, 3) := by decide +kernel
theorem dX6_mend_9 : decode cX6_mend 9 = .ok (.iconst 0, 1) := by decide +kernel
theorem dX6_mend_10 : decode cX6_mend 10 = .ok (.ireturn, 1) := by decide +kernel
theorem dX6_mend_11 : decode cX6_mend 11 = .ok (.aload_n 0, 1) := by decide +kernel
theorem dX6_mend_12 : decode cX6_mend 12 = .ok (.bipush 16, 2) := by decide +kernel
theorem dX6_mend_14 : decode cX6_mend 14 = .ok (.iconst 0, 1) := by decide +kernel
theorem dX6_mend_15 : decode cX6_mend 15 = .ok (.invokevirtual 55, 3) := by decide +kernel
theorem dX6_mend_18 : decode cX6_mend 18 = .ok (.istore_n 1, 1) := by decide +kernel
theorem dX6_mend_19 : decode cX6_mend 19 = .ok (.iconst 0, 1) := by decide +kernel
theorem dX6_mend_20 : decode cX6_mend 20 = .ok (.istore_n 2, 1) := by decide +kernel
theorem dX6_mend_21 : decode cX6_mend 21 = .ok (.iload_n 2, 1) := by decide +kernel
theorem dX6_mend_22 : decode cX6_mend 22 = .ok (.bipush 16, 2) := by decide +kernel
theorem dX6_mend_24 : decode cX6_mend 24 = .ok (.if_icmp .ge 44, 3) := by decide +kernel
theorem dX6_mend_27 : decode cX6_mend 27 = .ok (.aload_n 0, 1) := by decide +kernel
theorem dX6_mend_28 : decode cX6_mend 28 = .ok (.getfield 35, 3) := by decide +kernel
theorem dX6_mend_31 : decode cX6_mend 31 = .ok (.iload_n 2, 1) := by decide +kernel
theorem dX6_mend_32 : decode cX6_mend 32 = .ok (.dup2, 1) := by decide +kernel
theorem dX6_mend_33 : decode cX6_mend 33 = .ok (.iaload, 1) := by decide +kernel
theorem dX6_mend_34 : decode cX6_mend 34 = .ok (.iload_n 1, 1) := by decide +kernel
theorem dX6_mend_35 : decode cX6_mend 35 = .ok (.ixor, 1) := by decide +kernel
theorem dX6_mend_36 : decode cX6_mend 36 = .ok (.iastore, 1) := by decide +kernel
theorem dX6_mend_37 : decode cX6_mend 37 = .ok (.iload_n 1, 1) := by decide +kernel
theorem dX6_mend_38 : decode cX6_mend 38 = .ok (.ifCond .le 14, 3) := by decide +kernel
theorem dX6_mend_41 : decode cX6_mend 41 = .ok (.aload_n 0, 1) := by decide +kernel
theorem dX6_mend_42 : decode cX6_mend 42 = .ok (.bipush 16, 2) := by decide +kernel
theorem dX6_mend_44 : decode cX6_mend 44 = .ok (.invokevirtual 99, 3) := by decide +kernel
theorem dX6_mend_47 : decode cX6_mend 47 = .ok (.ifCond .eq 5, 3) := by decide +kernel
theorem dX6_mend_50 : decode cX6_mend 50 = .ok (.iconst 1, 1) := by decide +kernel
theorem dX6_mend_51 : decode cX6_mend 51 = .ok (.ireturn, 1) := by decide +kernel
theorem dX6_mend_52 : decode cX6_mend 52 = .ok (.aload_n 0, 1) := by decide +kernel
theorem dX6_mend_53 : decode cX6_mend 53 = .ok (.getfield 35, 3) := by decide +kernel
theorem dX6_mend_56 : decode cX6_mend 56 = .ok (.iload_n 2, 1) := by decide +kernel
theorem dX6_mend_57 : decode cX6_mend 57 = .ok (.dup2, 1) := by decide +kernel
theorem dX6_mend_58 : decode cX6_mend 58 = .ok (.iaload, 1) := by decide +kernel
theorem dX6_mend_59 : decode cX6_mend 59 = .ok (.iload_n 1, 1) := by decide +kernel
theorem dX6_mend_60 : decode cX6_mend 60 = .ok (.ixor, 1) := by decide +kernel
theorem dX6_mend_61 : decode cX6_mend 61 = .ok (.iastore, 1) := by decide +kernel
theorem dX6_mend_62 : decode cX6_mend 62 = .ok (.iinc 2 1, 3) := by decide +kernel
theorem dX6_mend_65 : decode cX6_mend 65 = .ok (.goto (-44), 3) := by decide +kernel
theorem dX6_mend_68 : decode cX6_mend 68 = .ok (.iconst 2, 1) := by decide +kernel
theorem dX6_mend_69 : decode cX6_mend 69 = .ok (.ireturn, 1) := by decide +kernel
theorem dX6_gather_0 : decode cX6_gather 0 = .ok (.iconst 0, 1) := by decide +kernel
theorem dX6_gather_1 : decode cX6_gather 1 = .ok (.istore_n 2, 1) := by decide +kernel
theorem dX6_gather_2 : decode cX6_gather 2 = .ok (.iload_n 2, 1) := by decide +kernel
theorem dX6_gather_3 : decode cX6_gather 3 = .ok (.bipush 16, 2) := by decide +kernel
theorem dX6_gather_5 : decode cX6_gather 5 = .ok (.if_icmp .ge 42, 3) := by decide +kernel
theorem dX6_gather_8 : decode cX6_gather 8 = .ok (.iload_n 1, 1) := by decide +kernel
theorem dX6_gather_9 : decode cX6_gather 9 = .ok (.iconst 1, 1) := by decide +kernel
theorem dX6_gather_10 : decode cX6_gather 10 = .ok (.isub, 1) := by decide +kernel
theorem dX6_gather_11 : decode cX6_gather 11 = .ok (.iload_n 2, 1) := by decide +kernel
theorem dX6_gather_12 : decode cX6_gather 12 = .ok (.iconst 2, 1) := by decide +kernel
theorem dX6_gather_13 : decode cX6_gather 13 = .ok (.irem, 1) := by decide +kernel
theorem dX6_gather_14 : decode cX6_gather 14 = .ok (.iadd, 1) := by decide +kernel
theorem dX6_gather_15 : decode cX6_gather 15 = .ok (.istore_n 3, 1) := by decide +kernel
theorem dX6_gather_16 : decode cX6_gather 16 = .ok (.aload_n 0, 1) := by decide +kernel
theorem dX6_gather_17 : decode cX6_gather 17 = .ok (.getfield 35, 3) := by decide +kernel
theorem dX6_gather_20 : decode cX6_gather 20 = .ok (.iload_n 2, 1) := by decide +kernel
theorem dX6_gather_21 : decode cX6_gather 21 = .ok (.iload_n 3, 1) := by decide +kernel
theorem dX6_gather_22 : decode cX6_gather 22 = .ok (.ifCond .ge 7, 3) := by decide +kernel
theorem dX6_gather_25 : decode cX6_gather 25 = .ok (.iconst 0, 1) := by decide +kernel
theorem dX6_gather_26 : decode cX6_gather 26 = .ok (.goto 14, 3) := by decide +kernel
theorem dX6_gather_29 : decode cX6_gather 29 = .ok (.aload_n 0, 1) := by decide +kernel
theorem dX6_gather_30 : decode cX6_gather 30 = .ok (.getfield 19, 3) := by decide +kernel
theorem dX6_gather_33 : decode cX6_gather 33 = .ok (.bipush 16, 2) := by decide +kernel
theorem dX6_gather_35 : decode cX6_gather 35 = .ok (.iload_n 3, 1) := by decide +kernel
theorem dX6_gather_36 : decode cX6_gather 36 = .ok (.imul, 1) := by decide +kernel
theorem dX6_gather_37 : decode cX6_gather 37 = .ok (.iload_n 2, 1) := by decide +kernel
theorem dX6_gather_38 : decode cX6_gather 38 = .ok (.iadd, 1) := by decide +kernel
theorem dX6_gather_39 : decode cX6_gather 39 = .ok (.iaload, 1) := by decide +kernel
theorem dX6_gather_40 : decode cX6_gather 40 = .ok (.iastore, 1) := by decide +kernel
theorem dX6_gather_41 : decode cX6_gather 41 = .ok (.iinc 2 1, 3) := by decide +kernel
theorem dX6_gather_44 : decode cX6_gather 44 = .ok (.goto (-42), 3) := by decide +kernel
theorem dX6_gather_47 : decode cX6_gather 47 = .ok (.return_, 1) := by decide +kernel
theorem dX6_read_0 : decode cX6_read 0 = .ok (.aload_n 0, 1) := by decide +kernel
theorem dX6_read_1 : decode cX6_read 1 = .ok (.aload_n 0, 1) := by decide +kernel
theorem dX6_read_2 : decode cX6_read 2 = .ok (.getfield 96, 3) := by decide +kernel
theorem dX6_read_5 : decode cX6_read 5 = .ok (.aload_n 0, 1) := by decide +kernel
theorem dX6_read_6 : decode cX6_read 6 = .ok (.getfield 79, 3) := by decide +kernel
theorem dX6_read_9 : decode cX6_read 9 = .ok (.if_icmp .ne 7, 3) := by decide +kernel
theorem dX6_read_12 : decode cX6_read 12 = .ok (.iconst 1, 1) := by decide +kernel
theorem dX6_read_13 : decode cX6_read 13 = .ok (.goto 4, 3) := by decide +kernel
theorem dX6_read_16 : decode cX6_read 16 = .ok (.iconst 0, 1) := by decide +kernel
theorem dX6_read_17 : decode cX6_read 17 = .ok (.putfield 47, 3) := by decide +kernel
theorem dX6_read_20 : decode cX6_read 20 = .ok (.aload_n 0, 1) := by decide +kernel
theorem dX6_read_21 : decode cX6_read 21 = .ok (.getfield 47, 3) := by decide +kernel
theorem dX6_read_24 : decode cX6_read 24 = .ok (.ifCond .le 5, 3) := by decide +kernel
theorem dX6_read_27 : decode cX6_read 27 = .ok (.iconst 0, 1) := by decide +kernel
theorem dX6_read_28 : decode cX6_read 28 = .ok (.ireturn, 1) := by decide +kernel
theorem dX6_read_29 : decode cX6_read 29 = .ok (.aload_n 0, 1) := by decide +kernel
theorem dX6_read_30 : decode cX6_read 30 = .ok (.getfield 96, 3) := by decide +kernel
theorem dX6_read_33 : decode cX6_read 33 = .ok (.istore_n 1, 1) := by decide +kernel
theorem dX6_read_34 : decode cX6_read 34 = .ok (.iconst 0, 1) := by decide +kernel
theorem dX6_read_35 : decode cX6_read 35 = .ok (.istore_n 2, 1) := by decide +kernel
theorem dX6_read_36 : decode cX6_read 36 = .ok (.iload_n 2, 1) := by decide +kernel
theorem dX6_read_37 : decode cX6_read 37 = .ok (.bipush 16, 2) := by decide +kernel
theorem dX6_read_39 : decode cX6_read 39 = .ok (.if_icmp .ge 55, 3) := by decide +kernel
theorem dX6_read_42 : decode cX6_read 42 = .ok (.aload_n 0, 1) := by decide +kernel
theorem dX6_read_43 : decode cX6_read 43 = .ok (.getfield 19, 3) := by decide +kernel
theorem dX6_read_46 : decode cX6_read 46 = .ok (.bipush 16, 2) := by decide +kernel
theorem dX6_read_48 : decode cX6_read 48 = .ok (.iload_n 1, 1) := by decide +kernel
theorem dX6_read_49 : decode cX6_read 49 = .ok (.imul, 1) := by decide +kernel
theorem dX6_read_50 : decode cX6_read 50 = .ok (.iload_n 2, 1) := by decide +kernel
theorem dX6_read_51 : decode cX6_read 51 = .ok (.iadd, 1) := by decide +kernel
theorem dX6_read_52 : decode cX6_read 52 = .ok (.iload_n 2, 1) := by decide +kernel
theorem dX6_read_53 : decode cX6_read 53 = .ok (.bipush 8, 2) := by decide +kernel
theorem dX6_read_55 : decode cX6_read 55 = .ok (.if_icmp .ge 17, 3) := by decide +kernel
theorem dX6_read_58 : decode cX6_read 58 = .ok (.aload_n 0, 1) := by decide +kernel
theorem dX6_read_59 : decode cX6_read 59 = .ok (.getfield 16, 3) := by decide +kernel
theorem dX6_read_62 : decode cX6_read 62 = .ok (.bipush 16, 2) := by decide +kernel
theorem dX6_read_64 : decode cX6_read 64 = .ok (.iload_n 1, 1) := by decide +kernel
theorem dX6_read_65 : decode cX6_read 65 = .ok (.imul, 1) := by decide +kernel
theorem dX6_read_66 : decode cX6_read 66 = .ok (.iload_n 2, 1) := by decide +kernel
theorem dX6_read_67 : decode cX6_read 67 = .ok (.iadd, 1) := by decide +kernel
theorem dX6_read_68 : decode cX6_read 68 = .ok (.iaload, 1) := by decide +kernel
theorem dX6_read_69 : decode cX6_read 69 = .ok (.goto 18, 3) := by decide +kernel
theorem dX6_read_72 : decode cX6_read 72 = .ok (.sipush 255, 3) := by decide +kernel
theorem dX6_read_75 : decode cX6_read 75 = .ok (.aload_n 0, 1) := by decide +kernel
theorem dX6_read_76 : decode cX6_read 76 = .ok (.getfield 16, 3) := by decide +kernel
theorem dX6_read_79 : decode cX6_read 79 = .ok (.bipush 16, 2) := by decide +kernel
theorem dX6_read_81 : decode cX6_read 81 = .ok (.iload_n 1, 1) := by decide +kernel
theorem dX6_read_82 : decode cX6_read 82 = .ok (.imul, 1) := by decide +kernel
theorem dX6_read_83 : decode cX6_read 83 = .ok (.iload_n 2, 1) := by decide +kernel
theorem dX6_read_84 : decode cX6_read 84 = .ok (.iadd, 1) := by decide +kernel
theorem dX6_read_85 : decode cX6_read 85 = .ok (.iaload, 1) := by decide +kernel
theorem dX6_read_86 : decode cX6_read 86 = .ok (.isub, 1) := by decide +kernel
theorem dX6_read_87 : decode cX6_read 87 = .ok (.iastore, 1) := by decide +kernel
theorem dX6_read_88 : decode cX6_read 88 = .ok (.iinc 2 1, 3) := by decide +kernel
theorem dX6_read_91 : decode cX6_read 91 = .ok (.goto (-55), 3) := by decide +kernel
theorem dX6_read_94 : decode cX6_read 94 = .ok (.aload_n 0, 1) := by decide +kernel
theorem dX6_read_95 : decode cX6_read 95 = .ok (.dup, 1) := by decide +kernel
theorem dX6_read_96 : decode cX6_read 96 = .ok (.getfield 96, 3) := by decide +kernel
theorem dX6_read_99 : decode cX6_read 99 = .ok (.iconst 1, 1) := by decide +kernel
theorem dX6_read_100 : decode cX6_read 100 = .ok (.iadd, 1) := by decide +kernel
theorem dX6_read_101 : decode cX6_read 101 = .ok (.putfield 96, 3) := by decide +kernel
theorem dX6_read_104 : decode cX6_read 104 = .ok (.aload_n 0, 1) := by decide +kernel
theorem dX6_read_105 : decode cX6_read 105 = .ok (.iload_n 1, 1) := by decide +kernel
theorem dX6_read_106 : decode cX6_read 106 = .ok (.invokevirtual 102, 3) := by decide +kernel
theorem dX6_read_109 : decode cX6_read 109 = .ok (.aload_n 0, 1) := by decide +kernel
theorem dX6_read_110 : decode cX6_read 110 = .ok (.invokevirtual 105, 3) := by decide +kernel
theorem dX6_read_113 : decode cX6_read 113 = .ok (.istore_n 2, 1) := by decide +kernel
theorem dX6_read_114 : decode cX6_read 114 = .ok (.aload_n 0, 1) := by decide +kernel
theorem dX6_read_115 : decode cX6_read 115 = .ok (.dup, 1) := by decide +kernel
theorem dX6_read_116 : decode cX6_read 116 = .ok (.getfield 109, 3) := by decide +kernel
theorem dX6_read_119 : decode cX6_read 119 = .ok (.iload_n 2, 1) := by decide +kernel
theorem dX6_read_120 : decode cX6_read 120 = .ok (.iconst 1, 1) := by decide +kernel
theorem dX6_read_121 : decode cX6_read 121 = .ok (.if_icmp .ne 7, 3) := by decide +kernel
theorem dX6_read_124 : decode cX6_read 124 = .ok (.iconst 1, 1) := by decide +kernel
theorem dX6_read_125 : decode cX6_read 125 = .ok (.goto 4, 3) := by decide +kernel
theorem dX6_read_128 : decode cX6_read 128 = .ok (.iconst 0, 1) := by decide +kernel
theorem dX6_read_129 : decode cX6_read 129 = .ok (.iadd, 1) := by decide +kernel
theorem dX6_read_130 : decode cX6_read 130 = .ok (.putfield 109, 3) := by decide +kernel
theorem dX6_read_133 : decode cX6_read 133 = .ok (.aload_n 0, 1) := by decide +kernel
theorem dX6_read_134 : decode cX6_read 134 = .ok (.dup, 1) := by decide +kernel
theorem dX6_read_135 : decode cX6_read 135 = .ok (.getfield 112, 3) := by decide +kernel
theorem dX6_read_138 : decode cX6_read 138 = .ok (.iload_n 2, 1) := by decide +kernel
theorem dX6_read_139 : decode cX6_read 139 = .ok (.iconst 2, 1) := by decide +kernel
theorem dX6_read_140 : decode cX6_read 140 = .ok (.if_icmp .ne 7, 3) := by decide +kernel
theorem dX6_read_143 : decode cX6_read 143 = .ok (.iconst 1, 1) := by decide +kernel
theorem dX6_read_144 : decode cX6_read 144 = .ok (.goto 4, 3) := by decide +kernel
theorem dX6_read_147 : decode cX6_read 147 = .ok (.iconst 0, 1) := by decide +kernel
theorem dX6_read_148 : decode cX6_read 148 = .ok (.iadd, 1) := by decide +kernel
theorem dX6_read_149 : decode cX6_read 149 = .ok (.putfield 112, 3) := by decide +kernel
theorem dX6_read_152 : decode cX6_read 152 = .ok (.aload_n 0, 1) := by decide +kernel
theorem dX6_read_153 : decode cX6_read 153 = .ok (.getfield 25, 3) := by decide +kernel
theorem dX6_read_156 : decode cX6_read 156 = .ok (.iload_n 1, 1) := by decide +kernel
theorem dX6_read_157 : decode cX6_read 157 = .ok (.iload_n 2, 1) := by decide +kernel
theorem dX6_read_158 : decode cX6_read 158 = .ok (.iconst 2, 1) := by decide +kernel
theorem dX6_read_159 : decode cX6_read 159 = .ok (.if_icmp .ne 7, 3) := by decide +kernel
theorem dX6_read_162 : decode cX6_read 162 = .ok (.iconst 1, 1) := by decide +kernel
theorem dX6_read_163 : decode cX6_read 163 = .ok (.goto 4, 3) := by decide +kernel
theorem dX6_read_166 : decode cX6_read 166 = .ok (.iconst 0, 1) := by decide +kernel
theorem dX6_read_167 : decode cX6_read 167 = .ok (.bastore, 1) := by decide +kernel
theorem dX6_read_168 : decode cX6_read 168 = .ok (.iconst 0, 1) := by decide +kernel
theorem dX6_read_169 : decode cX6_read 169 = .ok (.istore_n 3, 1) := by decide +kernel
theorem dX6_read_170 : decode cX6_read 170 = .ok (.iload_n 3, 1) := by decide +kernel
theorem dX6_read_171 : decode cX6_read 171 = .ok (.bipush 12, 2) := by decide +kernel
theorem dX6_read_173 : decode cX6_read 173 = .ok (.if_icmp .ge 26, 3) := by decide +kernel
theorem dX6_read_176 : decode cX6_read 176 = .ok (.aload_n 0, 1) := by decide +kernel
theorem dX6_read_177 : decode cX6_read 177 = .ok (.getfield 22, 3) := by decide +kernel
theorem dX6_read_180 : decode cX6_read 180 = .ok (.bipush 12, 2) := by decide +kernel
theorem dX6_read_182 : decode cX6_read 182 = .ok (.iload_n 1, 1) := by decide +kernel
theorem dX6_read_183 : decode cX6_read 183 = .ok (.imul, 1) := by decide +kernel
theorem dX6_read_184 : decode cX6_read 184 = .ok (.iload_n 3, 1) := by decide +kernel
theorem dX6_read_185 : decode cX6_read 185 = .ok (.iadd, 1) := by decide +kernel
theorem dX6_read_186 : decode cX6_read 186 = .ok (.aload_n 0, 1) := by decide +kernel
theorem dX6_read_187 : decode cX6_read 187 = .ok (.getfield 35, 3) := by decide +kernel
theorem dX6_read_190 : decode cX6_read 190 = .ok (.iload_n 3, 1) := by decide +kernel
theorem dX6_read_191 : decode cX6_read 191 = .ok (.iaload, 1) := by decide +kernel
theorem dX6_read_192 : decode cX6_read 192 = .ok (.iastore, 1) := by decide +kernel
theorem dX6_read_193 : decode cX6_read 193 = .ok (.iinc 3 1, 3) := by decide +kernel
theorem dX6_read_196 : decode cX6_read 196 = .ok (.goto (-26), 3) := by decide +kernel
theorem dX6_read_199 : decode cX6_read 199 = .ok (.iconst 0, 1) := by decide +kernel
theorem dX6_read_200 : decode cX6_read 200 = .ok (.istore_n 3, 1) := by decide +kernel
theorem dX6_read_201 : decode cX6_read 201 = .ok (.iconst 0, 1) := by decide +kernel
theorem dX6_read_202 : decode cX6_read 202 = .ok (.istore 4, 2) := by decide +kernel
theorem dX6_read_204 : decode cX6_read 204 = .ok (.iload 4, 2) := by decide +kernel
theorem dX6_read_206 : decode cX6_read 206 = .ok (.bipush 12, 2) := by decide +kernel
theorem dX6_read_208 : decode cX6_read 208 = .ok (.if_icmp .ge 92, 3) := by decide +kernel
theorem dX6_read_211 : decode cX6_read 211 = .ok (.iload_n 1, 1) := by decide +kernel
theorem dX6_read_212 : decode cX6_read 212 = .ok (.bipush 11, 2) := by decide +kernel
theorem dX6_read_214 : decode cX6_read 214 = .ok (.isub, 1) := by decide +kernel
theorem dX6_read_215 : decode cX6_read 215 = .ok (.iload 4, 2) := by decide +kernel
theorem dX6_read_217 : decode cX6_read 217 = .ok (.iadd, 1) := by decide +kernel
theorem dX6_read_218 : decode cX6_read 218 = .ok (.istore 5, 2) := by decide +kernel
theorem dX6_read_220 : decode cX6_read 220 = .ok (.aload_n 0, 1) := by decide +kernel
theorem dX6_read_221 : decode cX6_read 221 = .ok (.getfield 35, 3) := by decide +kernel
theorem dX6_read_224 : decode cX6_read 224 = .ok (.iload 4, 2) := by decide +kernel
theorem dX6_read_226 : decode cX6_read 226 = .ok (.iload 5, 2) := by decide +kernel
theorem dX6_read_228 : decode cX6_read 228 = .ok (.ifCond .ge 7, 3) := by decide +kernel
theorem dX6_read_231 : decode cX6_read 231 = .ok (.iconst 0, 1) := by decide +kernel
theorem dX6_read_232 : decode cX6_read 232 = .ok (.goto 16, 3) := by decide +kernel
theorem dX6_read_235 : decode cX6_read 235 = .ok (.aload_n 0, 1) := by decide +kernel
theorem dX6_read_236 : decode cX6_read 236 = .ok (.getfield 22, 3) := by decide +kernel
theorem dX6_read_239 : decode cX6_read 239 = .ok (.bipush 12, 2) := by decide +kernel
theorem dX6_read_241 : decode cX6_read 241 = .ok (.iload 5, 2) := by decide +kernel
theorem dX6_read_243 : decode cX6_read 243 = .ok (.imul, 1) := by decide +kernel
theorem dX6_read_244 : decode cX6_read 244 = .ok (.iload 4, 2) := by decide +kernel
theorem dX6_read_246 : decode cX6_read 246 = .ok (.iadd, 1) := by decide +kernel
theorem dX6_read_247 : decode cX6_read 247 = .ok (.iaload, 1) := by decide +kernel
theorem dX6_read_248 : decode cX6_read 248 = .ok (.iastore, 1) := by decide +kernel
theorem dX6_read_249 : decode cX6_read 249 = .ok (.aload_n 0, 1) := by decide +kernel
theorem dX6_read_250 : decode cX6_read 250 = .ok (.getfield 38, 3) := by decide +kernel
theorem dX6_read_253 : decode cX6_read 253 = .ok (.iload 4, 2) := by decide +kernel
theorem dX6_read_255 : decode cX6_read 255 = .ok (.iload 5, 2) := by decide +kernel
theorem dX6_read_257 : decode cX6_read 257 = .ok (.ifCond .lt 17, 3) := by decide +kernel
theorem dX6_read_260 : decode cX6_read 260 = .ok (.aload_n 0, 1) := by decide +kernel
theorem dX6_read_261 : decode cX6_read 261 = .ok (.getfield 25, 3) := by decide +kernel
theorem dX6_read_264 : decode cX6_read 264 = .ok (.iload 5, 2) := by decide +kernel
theorem dX6_read_266 : decode cX6_read 266 = .ok (.baload, 1) := by decide +kernel
theorem dX6_read_267 : decode cX6_read 267 = .ok (.ifCond .eq 7, 3) := by decide +kernel
theorem dX6_read_270 : decode cX6_read 270 = .ok (.iconst 1, 1) := by decide +kernel
theorem dX6_read_271 : decode cX6_read 271 = .ok (.goto 4, 3) := by decide +kernel
theorem dX6_read_274 : decode cX6_read 274 = .ok (.iconst 0, 1) := by decide +kernel
theorem dX6_read_275 : decode cX6_read 275 = .ok (.bastore, 1) := by decide +kernel
theorem dX6_read_276 : decode cX6_read 276 = .ok (.iload_n 3, 1) := by decide +kernel
theorem dX6_read_277 : decode cX6_read 277 = .ok (.aload_n 0, 1) := by decide +kernel
theorem dX6_read_278 : decode cX6_read 278 = .ok (.getfield 38, 3) := by decide +kernel
theorem dX6_read_281 : decode cX6_read 281 = .ok (.iload 4, 2) := by decide +kernel
theorem dX6_read_283 : decode cX6_read 283 = .ok (.baload, 1) := by decide +kernel
theorem dX6_read_284 : decode cX6_read 284 = .ok (.ifCond .eq 7, 3) := by decide +kernel
theorem dX6_read_287 : decode cX6_read 287 = .ok (.iconst 1, 1) := by decide +kernel
theorem dX6_read_288 : decode cX6_read 288 = .ok (.goto 4, 3) := by decide +kernel
theorem dX6_read_291 : decode cX6_read 291 = .ok (.iconst 0, 1) := by decide +kernel
theorem dX6_read_292 : decode cX6_read 292 = .ok (.iadd, 1) := by decide +kernel
theorem dX6_read_293 : decode cX6_read 293 = .ok (.istore_n 3, 1) := by decide +kernel
theorem dX6_read_294 : decode cX6_read 294 = .ok (.iinc 4 1, 3) := by decide +kernel
theorem dX6_read_297 : decode cX6_read 297 = .ok (.goto (-93), 3) := by decide +kernel
theorem dX6_read_300 : decode cX6_read 300 = .ok (.iload_n 3, 1) := by decide +kernel
theorem dX6_read_301 : decode cX6_read 301 = .ok (.iconst 4, 1) := by decide +kernel
theorem dX6_read_302 : decode cX6_read 302 = .ok (.if_icmp .gt 16, 3) := by decide +kernel
theorem dX6_read_305 : decode cX6_read 305 = .ok (.aload_n 0, 1) := by decide +kernel
theorem dX6_read_306 : decode cX6_read 306 = .ok (.bipush 12, 2) := by decide +kernel
theorem dX6_read_308 : decode cX6_read 308 = .ok (.invokevirtual 73, 3) := by decide +kernel
theorem dX6_read_311 : decode cX6_read 311 = .ok (.ifCond .eq 7, 3) := by decide +kernel
theorem dX6_read_314 : decode cX6_read 314 = .ok (.iconst 1, 1) := by decide +kernel
theorem dX6_read_315 : decode cX6_read 315 = .ok (.goto 4, 3) := by decide +kernel
theorem dX6_read_318 : decode cX6_read 318 = .ok (.iconst 0, 1) := by decide +kernel
theorem dX6_read_319 : decode cX6_read 319 = .ok (.istore 4, 2) := by decide +kernel
theorem dX6_read_321 : decode cX6_read 321 = .ok (.aload_n 0, 1) := by decide +kernel
theorem dX6_read_322 : decode cX6_read 322 = .ok (.dup, 1) := by decide +kernel
theorem dX6_read_323 : decode cX6_read 323 = .ok (.getfield 115, 3) := by decide +kernel
theorem dX6_read_326 : decode cX6_read 326 = .ok (.iload 4, 2) := by decide +kernel
theorem dX6_read_328 : decode cX6_read 328 = .ok (.ifCond .eq 7, 3) := by decide +kernel
theorem dX6_read_331 : decode cX6_read 331 = .ok (.iload_n 3, 1) := by decide +kernel
theorem dX6_read_332 : decode cX6_read 332 = .ok (.goto 4, 3) := by decide +kernel
theorem dX6_read_335 : decode cX6_read 335 = .ok (.iconst 0, 1) := by decide +kernel
theorem dX6_read_336 : decode cX6_read 336 = .ok (.iadd, 1) := by decide +kernel
theorem dX6_read_337 : decode cX6_read 337 = .ok (.putfield 115, 3) := by decide +kernel
theorem dX6_read_340 : decode cX6_read 340 = .ok (.aload_n 0, 1) := by decide +kernel
theorem dX6_read_341 : decode cX6_read 341 = .ok (.dup, 1) := by decide +kernel
theorem dX6_read_342 : decode cX6_read 342 = .ok (.getfield 118, 3) := by decide +kernel
theorem dX6_read_345 : decode cX6_read 345 = .ok (.iload 4, 2) := by decide +kernel
theorem dX6_read_347 : decode cX6_read 347 = .ok (.ifCond .eq 7, 3) := by decide +kernel
theorem dX6_read_350 : decode cX6_read 350 = .ok (.iconst 0, 1) := by decide +kernel
theorem dX6_read_351 : decode cX6_read 351 = .ok (.goto 4, 3) := by decide +kernel
theorem dX6_read_354 : decode cX6_read 354 = .ok (.iconst 1, 1) := by decide +kernel
theorem dX6_read_355 : decode cX6_read 355 = .ok (.iadd, 1) := by decide +kernel
theorem dX6_read_356 : decode cX6_read 356 = .ok (.putfield 118, 3) := by decide +kernel
theorem dX6_read_359 : decode cX6_read 359 = .ok (.iconst 0, 1) := by decide +kernel
theorem dX6_read_360 : decode cX6_read 360 = .ok (.istore 5, 2) := by decide +kernel
theorem dX6_read_362 : decode cX6_read 362 = .ok (.iload 5, 2) := by decide +kernel
theorem dX6_read_364 : decode cX6_read 364 = .ok (.bipush 8, 2) := by decide +kernel
theorem dX6_read_366 : decode cX6_read 366 = .ok (.if_icmp .ge 50, 3) := by decide +kernel
theorem dX6_read_369 : decode cX6_read 369 = .ok (.aload_n 0, 1) := by decide +kernel
theorem dX6_read_370 : decode cX6_read 370 = .ok (.getfield 29, 3) := by decide +kernel
theorem dX6_read_373 : decode cX6_read 373 = .ok (.bipush 8, 2) := by decide +kernel
theorem dX6_read_375 : decode cX6_read 375 = .ok (.iload_n 1, 1) := by decide +kernel
theorem dX6_read_376 : decode cX6_read 376 = .ok (.imul, 1) := by decide +kernel
theorem dX6_read_377 : decode cX6_read 377 = .ok (.iload 5, 2) := by decide +kernel
theorem dX6_read_379 : decode cX6_read 379 = .ok (.iadd, 1) := by decide +kernel
theorem dX6_read_380 : decode cX6_read 380 = .ok (.aload_n 0, 1) := by decide +kernel
theorem dX6_read_381 : decode cX6_read 381 = .ok (.getfield 35, 3) := by decide +kernel
theorem dX6_read_384 : decode cX6_read 384 = .ok (.iload 5, 2) := by decide +kernel
theorem dX6_read_386 : decode cX6_read 386 = .ok (.iaload, 1) := by decide +kernel
theorem dX6_read_387 : decode cX6_read 387 = .ok (.iastore, 1) := by decide +kernel
theorem dX6_read_388 : decode cX6_read 388 = .ok (.aload_n 0, 1) := by decide +kernel
theorem dX6_read_389 : decode cX6_read 389 = .ok (.getfield 32, 3) := by decide +kernel
theorem dX6_read_392 : decode cX6_read 392 = .ok (.bipush 8, 2) := by decide +kernel
theorem dX6_read_394 : decode cX6_read 394 = .ok (.iload_n 1, 1) := by decide +kernel
theorem dX6_read_395 : decode cX6_read 395 = .ok (.imul, 1) := by decide +kernel
theorem dX6_read_396 : decode cX6_read 396 = .ok (.iload 5, 2) := by decide +kernel
theorem dX6_read_398 : decode cX6_read 398 = .ok (.iadd, 1) := by decide +kernel
theorem dX6_read_399 : decode cX6_read 399 = .ok (.iload 4, 2) := by decide +kernel
theorem dX6_read_401 : decode cX6_read 401 = .ok (.ifCond .ne 7, 3) := by decide +kernel
theorem dX6_read_404 : decode cX6_read 404 = .ok (.iconst 1, 1) := by decide +kernel
theorem dX6_read_405 : decode cX6_read 405 = .ok (.goto 4, 3) := by decide +kernel
theorem dX6_read_408 : decode cX6_read 408 = .ok (.iconst 0, 1) := by decide +kernel
theorem dX6_read_409 : decode cX6_read 409 = .ok (.bastore, 1) := by decide +kernel
theorem dX6_read_410 : decode cX6_read 410 = .ok (.iinc 5 1, 3) := by decide +kernel
theorem dX6_read_413 : decode cX6_read 413 = .ok (.goto (-51), 3) := by decide +kernel
theorem dX6_read_416 : decode cX6_read 416 = .ok (.iload 4, 2) := by decide +kernel
theorem dX6_read_418 : decode cX6_read 418 = .ok (.ifCond .eq 7, 3) := by decide +kernel
theorem dX6_read_421 : decode cX6_read 421 = .ok (.iconst 0, 1) := by decide +kernel
theorem dX6_read_422 : decode cX6_read 422 = .ok (.goto 5, 3) := by decide +kernel
theorem dX6_read_425 : decode cX6_read 425 = .ok (.bipush 8, 2) := by decide +kernel
theorem dX6_read_427 : decode cX6_read 427 = .ok (.ireturn, 1) := by decide +kernel
theorem dX6_isOut_0 : decode cX6_isOut 0 = .ok (.iload_n 1, 1) := by decide +kernel
theorem dX6_isOut_1 : decode cX6_isOut 1 = .ok (.ifCond .lt 18, 3) := by decide +kernel
theorem dX6_isOut_4 : decode cX6_isOut 4 = .ok (.iload_n 1, 1) := by decide +kernel
theorem dX6_isOut_5 : decode cX6_isOut 5 = .ok (.bipush 8, 2) := by decide +kernel
theorem dX6_isOut_7 : decode cX6_isOut 7 = .ok (.aload_n 0, 1) := by decide +kernel
theorem dX6_isOut_8 : decode cX6_isOut 8 = .ok (.getfield 96, 3) := by decide +kernel
theorem dX6_isOut_11 : decode cX6_isOut 11 = .ok (.imul, 1) := by decide +kernel
theorem dX6_isOut_12 : decode cX6_isOut 12 = .ok (.if_icmp .ge 7, 3) := by decide +kernel
theorem dX6_isOut_15 : decode cX6_isOut 15 = .ok (.iconst 1, 1) := by decide +kernel
theorem dX6_isOut_16 : decode cX6_isOut 16 = .ok (.goto 4, 3) := by decide +kernel
theorem dX6_isOut_19 : decode cX6_isOut 19 = .ok (.iconst 0, 1) := by decide +kernel
theorem dX6_isOut_20 : decode cX6_isOut 20 = .ok (.ireturn, 1) := by decide +kernel
theorem dX6_out_0 : decode cX6_out 0 = .ok (.aload_n 0, 1) := by decide +kernel
theorem dX6_out_1 : decode cX6_out 1 = .ok (.aload_n 0, 1) := by decide +kernel
theorem dX6_out_2 : decode cX6_out 2 = .ok (.iload_n 1, 1) := by decide +kernel
theorem dX6_out_3 : decode cX6_out 3 = .ok (.invokevirtual 121, 3) := by decide +kernel
theorem dX6_out_6 : decode cX6_out 6 = .ok (.ifCond .eq 7, 3) := by decide +kernel
theorem dX6_out_9 : decode cX6_out 9 = .ok (.iconst 0, 1) := by decide +kernel
theorem dX6_out_10 : decode cX6_out 10 = .ok (.goto 4, 3) := by decide +kernel
theorem dX6_out_13 : decode cX6_out 13 = .ok (.iconst 1, 1) := by decide +kernel
theorem dX6_out_14 : decode cX6_out 14 = .ok (.putfield 47, 3) := by decide +kernel
theorem dX6_out_17 : decode cX6_out 17 = .ok (.aload_n 0, 1) := by decide +kernel
theorem dX6_out_18 : decode cX6_out 18 = .ok (.getfield 47, 3) := by decide +kernel
theorem dX6_out_21 : decode cX6_out 21 = .ok (.ifCond .ne 12, 3) := by decide +kernel
theorem dX6_out_24 : decode cX6_out 24 = .ok (.aload_n 0, 1) := by decide +kernel
theorem dX6_out_25 : decode cX6_out 25 = .ok (.getfield 29, 3) := by decide +kernel
theorem dX6_out_28 : decode cX6_out 28 = .ok (.iload_n 1, 1) := by decide +kernel
theorem dX6_out_29 : decode cX6_out 29 = .ok (.iaload, 1) := by decide +kernel
theorem dX6_out_30 : decode cX6_out 30 = .ok (.goto 4, 3) := by decide +kernel
theorem dX6_out_33 : decode cX6_out 33 = .ok (.iconst 0, 1) := by decide +kernel
theorem dX6_out_34 : decode cX6_out 34 = .ok (.ireturn, 1) := by decide +kernel
theorem dX6_flagged_0 : decode cX6_flagged 0 = .ok (.aload_n 0, 1) := by decide +kernel
theorem dX6_flagged_1 : decode cX6_flagged 1 = .ok (.aload_n 0, 1) := by decide +kernel
theorem dX6_flagged_2 : decode cX6_flagged 2 = .ok (.iload_n 1, 1) := by decide +kernel
theorem dX6_flagged_3 : decode cX6_flagged 3 = .ok (.invokevirtual 121, 3) := by decide +kernel
theorem dX6_flagged_6 : decode cX6_flagged 6 = .ok (.ifCond .eq 7, 3) := by decide +kernel
theorem dX6_flagged_9 : decode cX6_flagged 9 = .ok (.iconst 0, 1) := by decide +kernel
theorem dX6_flagged_10 : decode cX6_flagged 10 = .ok (.goto 4, 3) := by decide +kernel
theorem dX6_flagged_13 : decode cX6_flagged 13 = .ok (.iconst 1, 1) := by decide +kernel
theorem dX6_flagged_14 : decode cX6_flagged 14 = .ok (.putfield 47, 3) := by decide +kernel
theorem dX6_flagged_17 : decode cX6_flagged 17 = .ok (.aload_n 0, 1) := by decide +kernel
theorem dX6_flagged_18 : decode cX6_flagged 18 = .ok (.getfield 47, 3) := by decide +kernel
theorem dX6_flagged_21 : decode cX6_flagged 21 = .ok (.ifCond .ne 16, 3) := by decide +kernel
theorem dX6_flagged_24 : decode cX6_flagged 24 = .ok (.aload_n 0, 1) := by decide +kernel
theorem dX6_flagged_25 : decode cX6_flagged 25 = .ok (.getfield 32, 3) := by decide +kernel
theorem dX6_flagged_28 : decode cX6_flagged 28 = .ok (.iload_n 1, 1) := by decide +kernel
theorem dX6_flagged_29 : decode cX6_flagged 29 = .ok (.baload, 1) := by decide +kernel
theorem dX6_flagged_30 : decode cX6_flagged 30 = .ok (.ifCond .eq 7, 3) := by decide +kernel
theorem dX6_flagged_33 : decode cX6_flagged 33 = .ok (.iconst 1, 1) := by decide +kernel
theorem dX6_flagged_34 : decode cX6_flagged 34 = .ok (.goto 4, 3) := by decide +kernel
theorem dX6_flagged_37 : decode cX6_flagged 37 = .ok (.iconst 0, 1) := by decide +kernel
theorem dX6_flagged_38 : decode cX6_flagged 38 = .ok (.ireturn, 1) := by decide +kernel
theorem dX6_figure_0 : decode cX6_figure 0 = .ok (.aload_n 0, 1) := by decide +kernel
theorem dX6_figure_1 : decode cX6_figure 1 = .ok (.iload_n 1, 1) := by decide +kernel
theorem dX6_figure_2 : decode cX6_figure 2 = .ok (.ifCond .lt 9, 3) := by decide +kernel
theorem dX6_figure_5 : decode cX6_figure 5 = .ok (.iload_n 1, 1) := by decide +kernel
theorem dX6_figure_6 : decode cX6_figure 6 = .ok (.bipush 6, 2) := by decide +kernel
theorem dX6_figure_8 : decode cX6_figure 8 = .ok (.if_icmp .le 7, 3) := by decide +kernel
theorem dX6_figure_11 : decode cX6_figure 11 = .ok (.iconst 1, 1) := by decide +kernel
theorem dX6_figure_12 : decode cX6_figure 12 = .ok (.goto 4, 3) := by decide +kernel
theorem dX6_figure_15 : decode cX6_figure 15 = .ok (.iconst 0, 1) := by decide +kernel
theorem dX6_figure_16 : decode cX6_figure 16 = .ok (.putfield 47, 3) := by decide +kernel
theorem dX6_figure_19 : decode cX6_figure 19 = .ok (.iload_n 1, 1) := by decide +kernel
theorem dX6_figure_20 : decode cX6_figure 20 = .ok (.tableswitch 85 0 6 #[44, 49, 57, 62, 67, 72, 77], 44) := by decide +kernel
theorem dX6_figure_64 : decode cX6_figure 64 = .ok (.aload_n 0, 1) := by decide +kernel
theorem dX6_figure_65 : decode cX6_figure 65 = .ok (.getfield 96, 3) := by decide +kernel
theorem dX6_figure_68 : decode cX6_figure 68 = .ok (.ireturn, 1) := by decide +kernel
theorem dX6_figure_69 : decode cX6_figure 69 = .ok (.bipush 8, 2) := by decide +kernel
theorem dX6_figure_71 : decode cX6_figure 71 = .ok (.aload_n 0, 1) := by decide +kernel
theorem dX6_figure_72 : decode cX6_figure 72 = .ok (.getfield 96, 3) := by decide +kernel
theorem dX6_figure_75 : decode cX6_figure 75 = .ok (.imul, 1) := by decide +kernel
theorem dX6_figure_76 : decode cX6_figure 76 = .ok (.ireturn, 1) := by decide +kernel
theorem dX6_figure_77 : decode cX6_figure 77 = .ok (.aload_n 0, 1) := by decide +kernel
theorem dX6_figure_78 : decode cX6_figure 78 = .ok (.getfield 109, 3) := by decide +kernel
theorem dX6_figure_81 : decode cX6_figure 81 = .ok (.ireturn, 1) := by decide +kernel
theorem dX6_figure_82 : decode cX6_figure 82 = .ok (.aload_n 0, 1) := by decide +kernel
theorem dX6_figure_83 : decode cX6_figure 83 = .ok (.getfield 112, 3) := by decide +kernel
theorem dX6_figure_86 : decode cX6_figure 86 = .ok (.ireturn, 1) := by decide +kernel
theorem dX6_figure_87 : decode cX6_figure 87 = .ok (.aload_n 0, 1) := by decide +kernel
theorem dX6_figure_88 : decode cX6_figure 88 = .ok (.getfield 115, 3) := by decide +kernel
theorem dX6_figure_91 : decode cX6_figure 91 = .ok (.ireturn, 1) := by decide +kernel
theorem dX6_figure_92 : decode cX6_figure 92 = .ok (.aload_n 0, 1) := by decide +kernel
theorem dX6_figure_93 : decode cX6_figure 93 = .ok (.getfield 118, 3) := by decide +kernel
theorem dX6_figure_96 : decode cX6_figure 96 = .ok (.ireturn, 1) := by decide +kernel
theorem dX6_figure_97 : decode cX6_figure 97 = .ok (.bipush 8, 2) := by decide +kernel
theorem dX6_figure_99 : decode cX6_figure 99 = .ok (.aload_n 0, 1) := by decide +kernel
theorem dX6_figure_100 : decode cX6_figure 100 = .ok (.getfield 118, 3) := by decide +kernel
theorem dX6_figure_103 : decode cX6_figure 103 = .ok (.imul, 1) := by decide +kernel
theorem dX6_figure_104 : decode cX6_figure 104 = .ok (.ireturn, 1) := by decide +kernel
theorem dX6_figure_105 : decode cX6_figure 105 = .ok (.iconst 0, 1) := by decide +kernel
theorem dX6_figure_106 : decode cX6_figure 106 = .ok (.ireturn, 1) := by decide +kernel
theorem dX6_check_0 : decode cX6_check 0 = .ok (.aload_n 0, 1) := by decide +kernel
theorem dX6_check_1 : decode cX6_check 1 = .ok (.iload_n 3, 1) := by decide +kernel
theorem dX6_check_2 : decode cX6_check 2 = .ok (.ifCond .lt 8, 3) := by decide +kernel
theorem dX6_check_5 : decode cX6_check 5 = .ok (.iload_n 3, 1) := by decide +kernel
theorem dX6_check_6 : decode cX6_check 6 = .ok (.iconst 3, 1) := by decide +kernel
theorem dX6_check_7 : decode cX6_check 7 = .ok (.if_icmp .le 7, 3) := by decide +kernel
theorem dX6_check_10 : decode cX6_check 10 = .ok (.iconst 1, 1) := by decide +kernel
theorem dX6_check_11 : decode cX6_check 11 = .ok (.goto 4, 3) := by decide +kernel
theorem dX6_check_14 : decode cX6_check 14 = .ok (.iconst 0, 1) := by decide +kernel
theorem dX6_check_15 : decode cX6_check 15 = .ok (.putfield 47, 3) := by decide +kernel
theorem dX6_check_18 : decode cX6_check 18 = .ok (.aload_n 0, 1) := by decide +kernel
theorem dX6_check_19 : decode cX6_check 19 = .ok (.getfield 47, 3) := by decide +kernel
theorem dX6_check_22 : decode cX6_check 22 = .ok (.ifCond .le 5, 3) := by decide +kernel
theorem dX6_check_25 : decode cX6_check 25 = .ok (.iconst 0, 1) := by decide +kernel
theorem dX6_check_26 : decode cX6_check 26 = .ok (.ireturn, 1) := by decide +kernel
theorem dX6_check_27 : decode cX6_check 27 = .ok (.aload_n 0, 1) := by decide +kernel
theorem dX6_check_28 : decode cX6_check 28 = .ok (.lload_n 1, 1) := by decide +kernel
theorem dX6_check_29 : decode cX6_check 29 = .ok (.invokevirtual 82, 3) := by decide +kernel
theorem dX6_check_32 : decode cX6_check 32 = .ok (.aload_n 0, 1) := by decide +kernel
theorem dX6_check_33 : decode cX6_check 33 = .ok (.bipush 12, 2) := by decide +kernel
theorem dX6_check_35 : decode cX6_check 35 = .ok (.invokevirtual 86, 3) := by decide +kernel
theorem dX6_check_38 : decode cX6_check 38 = .ok (.aload_n 0, 1) := by decide +kernel
theorem dX6_check_39 : decode cX6_check 39 = .ok (.getfield 35, 3) := by decide +kernel
theorem dX6_check_42 : decode cX6_check 42 = .ok (.bipush 8, 2) := by decide +kernel
theorem dX6_check_44 : decode cX6_check 44 = .ok (.iload_n 3, 1) := by decide +kernel
theorem dX6_check_45 : decode cX6_check 45 = .ok (.iadd, 1) := by decide +kernel
theorem dX6_check_46 : decode cX6_check 46 = .ok (.iaload, 1) := by decide +kernel
theorem dX6_check_47 : decode cX6_check 47 = .ok (.ireturn, 1) := by decide +kernel
theorem dX6_product_0 : decode cX6_product 0 = .ok (.aload_n 0, 1) := by decide +kernel
theorem dX6_product_1 : decode cX6_product 1 = .ok (.iload_n 1, 1) := by decide +kernel
theorem dX6_product_2 : decode cX6_product 2 = .ok (.invokestatic 93, 3) := by decide +kernel
theorem dX6_product_5 : decode cX6_product 5 = .ok (.ifCond .eq 14, 3) := by decide +kernel
theorem dX6_product_8 : decode cX6_product 8 = .ok (.iload_n 2, 1) := by decide +kernel
theorem dX6_product_9 : decode cX6_product 9 = .ok (.invokestatic 93, 3) := by decide +kernel
theorem dX6_product_12 : decode cX6_product 12 = .ok (.ifCond .eq 7, 3) := by decide +kernel
theorem dX6_product_15 : decode cX6_product 15 = .ok (.iconst 0, 1) := by decide +kernel
theorem dX6_product_16 : decode cX6_product 16 = .ok (.goto 4, 3) := by decide +kernel
theorem dX6_product_19 : decode cX6_product 19 = .ok (.iconst 1, 1) := by decide +kernel
theorem dX6_product_20 : decode cX6_product 20 = .ok (.putfield 47, 3) := by decide +kernel
theorem dX6_product_23 : decode cX6_product 23 = .ok (.aload_n 0, 1) := by decide +kernel
theorem dX6_product_24 : decode cX6_product 24 = .ok (.getfield 47, 3) := by decide +kernel
theorem dX6_product_27 : decode cX6_product 27 = .ok (.ifCond .ne 11, 3) := by decide +kernel
theorem dX6_product_30 : decode cX6_product 30 = .ok (.iload_n 1, 1) := by decide +kernel
theorem dX6_product_31 : decode cX6_product 31 = .ok (.iload_n 2, 1) := by decide +kernel
theorem dX6_product_32 : decode cX6_product 32 = .ok (.invokestatic 51, 3) := by decide +kernel
theorem dX6_product_35 : decode cX6_product 35 = .ok (.goto 4, 3) := by decide +kernel
theorem dX6_product_38 : decode cX6_product 38 = .ok (.iconst 0, 1) := by decide +kernel
theorem dX6_product_39 : decode cX6_product 39 = .ok (.ireturn, 1) := by decide +kernel
