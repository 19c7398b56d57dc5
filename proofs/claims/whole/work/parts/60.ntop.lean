def wsX5_init : List Cond := .code yX5_init cX5_init 4 none :: ([.methodLink RX5 1 objectInit, .instanceMethod objectInit, .code objectInit ⟨#[0xb1]⟩ 1 none, .classLink RX5 7 RX3, .instantiable RX3 8, .initialized RX3, .methodLink RX5 11 yX3_init, .instanceMethod yX3_init, .code yX3_init cX3_init 4 none, .methodLink RX3 3 objectInit, .fieldLink RX3 9 "DiscCoder$Word" "size" "I", .arrayClass .int, .fieldLink RX3 15 "DiscCoder$Word" "symbols" "[I", .arrayClass .boolean, .fieldLink RX3 19 "DiscCoder$Word" "doubted" "[Z", .fieldLink RX3 23 "DiscCoder$Word" "locators" "[I", .fieldLink RX3 26 "DiscCoder$Word" "sums" "[I", .fieldLink RX3 29 "DiscCoder$Word" "doubtedAt" "[I", .fieldLink RX3 32 "DiscCoder$Word" "changes" "[I", .fieldLink RX3 35 "DiscCoder$Word" "weights" "[I", .methodLink RX3 38 yX1_times, .static yX1_times, .initialized RX1, .code yX1_times cX1_times 5 (some .int), .classLink RX5 14 RX0, .instantiable RX0 3, .initialized RX0, .methodLink RX5 16 yX0_init, .instanceMethod yX0_init, .code yX0_init cX0_init 1 none, .methodLink RX0 3 objectInit, .fieldLink RX0 9 "DiscCoder$Disc" "symbols" "[I", .fieldLink RX5 17 "DiscCoder" "inner" "LDiscCoder$Word;", .fieldLink RX5 21 "DiscCoder" "disc" "LDiscCoder$Disc;", .classLink RX5 25 RX4, .instantiable RX4 5, .initialized RX4, .methodLink RX5 27 yX4_init, .instanceMethod yX4_init, .code yX4_init cX4_init 4 none, .methodLink RX4 3 objectInit, .fieldLink RX4 9 "DiscCoder$Writer" "disc" "LDiscCoder$Disc;", .fieldLink RX4 15 "DiscCoder$Writer" "inner" "LDiscCoder$Word;", .fieldLink RX4 19 "DiscCoder$Writer" "outer" "LDiscCoder$Word;", .fieldLink RX4 24 "DiscCoder$Writer" "innerWords" "[[I", .fieldLink RX4 27 "DiscCoder$Writer" "outerBefore" "[I", .fieldLink RX5 30 "DiscCoder" "writer" "LDiscCoder$Writer;", .classLink RX5 34 RX2, .instantiable RX2 11, .initialized RX2, .methodLink RX5 36 yX2_init, .instanceMethod yX2_init, .code yX2_init cX2_init 4 none, .methodLink RX2 3 objectInit, .fieldLink RX2 9 "DiscCoder$Reader" "disc" "LDiscCoder$Disc;", .fieldLink RX2 15 "DiscCoder$Reader" "inner" "LDiscCoder$Word;", .fieldLink RX2 19 "DiscCoder$Reader" "outer" "LDiscCoder$Word;", .fieldLink RX2 24 "DiscCoder$Reader" "outerWords" "[[I", .fieldLink RX2 27 "DiscCoder$Reader" "outerDoubted" "[Z", .fieldLink RX2 31 "DiscCoder$Reader" "output" "[I", .fieldLink RX2 35 "DiscCoder$Reader" "lost" "[Z", .fieldLink RX5 37 "DiscCoder" "reader" "LDiscCoder$Reader;"] ++ wsX30 ++ wsX00 ++ wsX50 ++ wsX40 ++ wsX20)
def wsX5_rows : List Cond := .code yX5_rows cX5_rows 1 (some .int) :: ([.fieldLink RX5 21 "DiscCoder" "disc" "LDiscCoder$Disc;"] ++ wsX50 ++ wsX00)
set_option maxRecDepth 20000 in
theorem ggX5_init_X3_init : GoodIn wsX5_init wsX3_init := goodIn_r _ [9, 10, 2, 3, 11, 12, 13, 14, 15, 16, 17, 18, 19, 20, 21, 22, 23, 24, 63, 64, 65, 66, 67, 68, 69, 70] (by decide +kernel) (by decide +kernel)
theorem gX5_init_X3_init : GoodIn wsX5_init (wsX3_init) := ggX5_init_X3_init
set_option maxRecDepth 20000 in
theorem ggX5_init_X0_init : GoodIn wsX5_init wsX0_init := goodIn_r _ [30, 31, 2, 3, 12, 32, 71, 72, 73] (by decide +kernel) (by decide +kernel)
theorem gX5_init_X0_init : GoodIn wsX5_init (wsX0_init) := ggX5_init_X0_init
set_option maxRecDepth 20000 in
theorem ggX5_init_X4_init : GoodIn wsX5_init wsX4_init := goodIn_r _ [40, 41, 2, 3, 42, 43, 44, 45, 12, 46, 78, 79, 80, 81, 82] (by decide +kernel) (by decide +kernel)
theorem gX5_init_X4_init : GoodIn wsX5_init (wsX4_init) := ggX5_init_X4_init
set_option maxRecDepth 20000 in
theorem ggX5_init_X2_init : GoodIn wsX5_init wsX2_init := goodIn_r _ [53, 54, 2, 3, 55, 56, 57, 58, 14, 59, 12, 60, 61, 83, 84, 85, 86, 87, 88, 89, 90, 91, 92, 93] (by decide +kernel) (by decide +kernel)
theorem gX5_init_X2_init : GoodIn wsX5_init (wsX2_init) := ggX5_init_X2_init
theorem dX5_init_0 : decode cX5_init 0 = .ok (.aload_n 0, 1) := by decide +kernel
theorem dX5_init_1 : decode cX5_init 1 = .ok (.invokespecial 1, 3) := by decide +kernel
theorem dX5_init_4 : decode cX5_init 4 = .ok (.new 7, 3) := by decide +kernel
theorem dX5_init_7 : decode cX5_init 7 = .ok (.dup, 1) := by decide +kernel
theorem dX5_init_8 : decode cX5_init 8 = .ok (.bipush 12, 2) := by decide +kernel
theorem dX5_init_10 : decode cX5_init 10 = .ok (.invokespecial 11, 3) := by decide +kernel
theorem dX5_init_13 : decode cX5_init 13 = .ok (.astore_n 1, 1) := by decide +kernel
theorem dX5_init_14 : decode cX5_init 14 = .ok (.new 7, 3) := by decide +kernel
theorem dX5_init_17 : decode cX5_init 17 = .ok (.dup, 1) := by decide +kernel
theorem dX5_init_18 : decode cX5_init 18 = .ok (.bipush 16, 2) := by decide +kernel
theorem dX5_init_20 : decode cX5_init 20 = .ok (.invokespecial 11, 3) := by decide +kernel
theorem dX5_init_23 : decode cX5_init 23 = .ok (.astore_n 2, 1) := by decide +kernel
theorem dX5_init_24 : decode cX5_init 24 = .ok (.new 14, 3) := by decide +kernel
theorem dX5_init_27 : decode cX5_init 27 = .ok (.dup, 1) := by decide +kernel
theorem dX5_init_28 : decode cX5_init 28 = .ok (.invokespecial 16, 3) := by decide +kernel
theorem dX5_init_31 : decode cX5_init 31 = .ok (.astore_n 3, 1) := by decide +kernel
theorem dX5_init_32 : decode cX5_init 32 = .ok (.aload_n 0, 1) := by decide +kernel
theorem dX5_init_33 : decode cX5_init 33 = .ok (.aload_n 1, 1) := by decide +kernel
theorem dX5_init_34 : decode cX5_init 34 = .ok (.putfield 17, 3) := by decide +kernel
theorem dX5_init_37 : decode cX5_init 37 = .ok (.aload_n 0, 1) := by decide +kernel
theorem dX5_init_38 : decode cX5_init 38 = .ok (.aload_n 3, 1) := by decide +kernel
theorem dX5_init_39 : decode cX5_init 39 = .ok (.putfield 21, 3) := by decide +kernel
theorem dX5_init_42 : decode cX5_init 42 = .ok (.aload_n 0, 1) := by decide +kernel
theorem dX5_init_43 : decode cX5_init 43 = .ok (.new 25, 3) := by decide +kernel
theorem dX5_init_46 : decode cX5_init 46 = .ok (.dup, 1) := by decide +kernel
theorem dX5_init_47 : decode cX5_init 47 = .ok (.aload_n 3, 1) := by decide +kernel
theorem dX5_init_48 : decode cX5_init 48 = .ok (.aload_n 1, 1) := by decide +kernel
theorem dX5_init_49 : decode cX5_init 49 = .ok (.aload_n 2, 1) := by decide +kernel
theorem dX5_init_50 : decode cX5_init 50 = .ok (.invokespecial 27, 3) := by decide +kernel
theorem dX5_init_53 : decode cX5_init 53 = .ok (.putfield 30, 3) := by decide +kernel
theorem dX5_init_56 : decode cX5_init 56 = .ok (.aload_n 0, 1) := by decide +kernel
theorem dX5_init_57 : decode cX5_init 57 = .ok (.new 34, 3) := by decide +kernel
theorem dX5_init_60 : decode cX5_init 60 = .ok (.dup, 1) := by decide +kernel
theorem dX5_init_61 : decode cX5_init 61 = .ok (.aload_n 3, 1) := by decide +kernel
theorem dX5_init_62 : decode cX5_init 62 = .ok (.aload_n 1, 1) := by decide +kernel
theorem dX5_init_63 : decode cX5_init 63 = .ok (.aload_n 2, 1) := by decide +kernel
theorem dX5_init_64 : decode cX5_init 64 = .ok (.invokespecial 36, 3) := by decide +kernel
theorem dX5_init_67 : decode cX5_init 67 = .ok (.putfield 37, 3) := by decide +kernel
theorem dX5_init_70 : decode cX5_init 70 = .ok (.return_, 1) := by decide +kernel
theorem dX5_rows_0 : decode cX5_rows 0 = .ok (.aload_n 0, 1) := by decide +kernel
theorem dX5_rows_1 : decode cX5_rows 1 = .ok (.getfield 21, 3) := by decide +kernel
theorem dX5_rows_4 : decode cX5_rows 4 = .ok (.getfield 41, 3) := by decide +kernel
theorem dX5_rows_7 : decode cX5_rows 7 = .ok (.ireturn, 1) := by decide +kernel
