def wsX1_holds : List Cond := .code yX1_holds cX1_holds 1 (some .boolean) :: ([])
def wsX1_times : List Cond := .code yX1_times cX1_times 5 (some .int) :: ([])
def wsX1_inverse : List Cond := .code yX1_inverse cX1_inverse 4 (some .int) :: ([.methodLink RX1 11 yX1_times, .static yX1_times, .initialized RX1, .code yX1_times cX1_times 5 (some .int)])
set_option maxRecDepth 20000 in
theorem ggX1_inverse_X1_times : GoodIn wsX1_inverse wsX1_times := goodIn_r _ [4] (by decide +kernel) (by decide +kernel)
theorem gX1_inverse_X1_times : GoodIn wsX1_inverse (va_wsS RX1 11 yX1_times wsX1_times) := goodIn_app (goodIn_of _ (by decide +kernel)) ggX1_inverse_X1_times
theorem dX1_holds_0 : decode cX1_holds 0 = .ok (.iload_n 0, 1) := by decide +kernel
theorem dX1_holds_1 : decode cX1_holds 1 = .ok (.ifCond .lt 14, 3) := by decide +kernel
theorem dX1_holds_4 : decode cX1_holds 4 = .ok (.iload_n 0, 1) := by decide +kernel
theorem dX1_holds_5 : decode cX1_holds 5 = .ok (.sipush 255, 3) := by decide +kernel
theorem dX1_holds_8 : decode cX1_holds 8 = .ok (.if_icmp .gt 7, 3) := by decide +kernel
theorem dX1_holds_11 : decode cX1_holds 11 = .ok (.iconst 1, 1) := by decide +kernel
theorem dX1_holds_12 : decode cX1_holds 12 = .ok (.goto 4, 3) := by decide +kernel
theorem dX1_holds_15 : decode cX1_holds 15 = .ok (.iconst 0, 1) := by decide +kernel
theorem dX1_holds_16 : decode cX1_holds 16 = .ok (.ireturn, 1) := by decide +kernel
theorem dX1_times_0 : decode cX1_times 0 = .ok (.iconst 0, 1) := by decide +kernel
theorem dX1_times_1 : decode cX1_times 1 = .ok (.istore_n 2, 1) := by decide +kernel
theorem dX1_times_2 : decode cX1_times 2 = .ok (.iload_n 0, 1) := by decide +kernel
theorem dX1_times_3 : decode cX1_times 3 = .ok (.istore_n 3, 1) := by decide +kernel
theorem dX1_times_4 : decode cX1_times 4 = .ok (.iconst 0, 1) := by decide +kernel
theorem dX1_times_5 : decode cX1_times 5 = .ok (.istore 4, 2) := by decide +kernel
theorem dX1_times_7 : decode cX1_times 7 = .ok (.iload 4, 2) := by decide +kernel
theorem dX1_times_9 : decode cX1_times 9 = .ok (.bipush 8, 2) := by decide +kernel
theorem dX1_times_11 : decode cX1_times 11 = .ok (.if_icmp .ge 39, 3) := by decide +kernel
theorem dX1_times_14 : decode cX1_times 14 = .ok (.iload_n 1, 1) := by decide +kernel
theorem dX1_times_15 : decode cX1_times 15 = .ok (.iload 4, 2) := by decide +kernel
theorem dX1_times_17 : decode cX1_times 17 = .ok (.ishr, 1) := by decide +kernel
theorem dX1_times_18 : decode cX1_times 18 = .ok (.iconst 1, 1) := by decide +kernel
theorem dX1_times_19 : decode cX1_times 19 = .ok (.iand, 1) := by decide +kernel
theorem dX1_times_20 : decode cX1_times 20 = .ok (.ifCond .eq 7, 3) := by decide +kernel
theorem dX1_times_23 : decode cX1_times 23 = .ok (.iload_n 2, 1) := by decide +kernel
theorem dX1_times_24 : decode cX1_times 24 = .ok (.iload_n 3, 1) := by decide +kernel
theorem dX1_times_25 : decode cX1_times 25 = .ok (.ixor, 1) := by decide +kernel
theorem dX1_times_26 : decode cX1_times 26 = .ok (.istore_n 2, 1) := by decide +kernel
theorem dX1_times_27 : decode cX1_times 27 = .ok (.iload_n 3, 1) := by decide +kernel
theorem dX1_times_28 : decode cX1_times 28 = .ok (.iconst 1, 1) := by decide +kernel
theorem dX1_times_29 : decode cX1_times 29 = .ok (.ishl, 1) := by decide +kernel
theorem dX1_times_30 : decode cX1_times 30 = .ok (.istore_n 3, 1) := by decide +kernel
theorem dX1_times_31 : decode cX1_times 31 = .ok (.iload_n 3, 1) := by decide +kernel
theorem dX1_times_32 : decode cX1_times 32 = .ok (.sipush 255, 3) := by decide +kernel
theorem dX1_times_35 : decode cX1_times 35 = .ok (.if_icmp .le 9, 3) := by decide +kernel
theorem dX1_times_38 : decode cX1_times 38 = .ok (.iload_n 3, 1) := by decide +kernel
theorem dX1_times_39 : decode cX1_times 39 = .ok (.sipush 285, 3) := by decide +kernel
theorem dX1_times_42 : decode cX1_times 42 = .ok (.ixor, 1) := by decide +kernel
theorem dX1_times_43 : decode cX1_times 43 = .ok (.istore_n 3, 1) := by decide +kernel
theorem dX1_times_44 : decode cX1_times 44 = .ok (.iinc 4 1, 3) := by decide +kernel
theorem dX1_times_47 : decode cX1_times 47 = .ok (.goto (-40), 3) := by decide +kernel
theorem dX1_times_50 : decode cX1_times 50 = .ok (.iload_n 2, 1) := by decide +kernel
theorem dX1_times_51 : decode cX1_times 51 = .ok (.ireturn, 1) := by decide +kernel
theorem dX1_inverse_0 : decode cX1_inverse 0 = .ok (.iload_n 0, 1) := by decide +kernel
theorem dX1_inverse_1 : decode cX1_inverse 1 = .ok (.istore_n 1, 1) := by decide +kernel
theorem dX1_inverse_2 : decode cX1_inverse 2 = .ok (.iconst 1, 1) := by decide +kernel
theorem dX1_inverse_3 : decode cX1_inverse 3 = .ok (.istore_n 2, 1) := by decide +kernel
theorem dX1_inverse_4 : decode cX1_inverse 4 = .ok (.iconst 1, 1) := by decide +kernel
theorem dX1_inverse_5 : decode cX1_inverse 5 = .ok (.istore_n 3, 1) := by decide +kernel
theorem dX1_inverse_6 : decode cX1_inverse 6 = .ok (.iload_n 3, 1) := by decide +kernel
theorem dX1_inverse_7 : decode cX1_inverse 7 = .ok (.bipush 8, 2) := by decide +kernel
theorem dX1_inverse_9 : decode cX1_inverse 9 = .ok (.if_icmp .ge 21, 3) := by decide +kernel
theorem dX1_inverse_12 : decode cX1_inverse 12 = .ok (.iload_n 1, 1) := by decide +kernel
theorem dX1_inverse_13 : decode cX1_inverse 13 = .ok (.iload_n 1, 1) := by decide +kernel
theorem dX1_inverse_14 : decode cX1_inverse 14 = .ok (.invokestatic 11, 3) := by decide +kernel
theorem dX1_inverse_17 : decode cX1_inverse 17 = .ok (.istore_n 1, 1) := by decide +kernel
theorem dX1_inverse_18 : decode cX1_inverse 18 = .ok (.iload_n 2, 1) := by decide +kernel
theorem dX1_inverse_19 : decode cX1_inverse 19 = .ok (.iload_n 1, 1) := by decide +kernel
theorem dX1_inverse_20 : decode cX1_inverse 20 = .ok (.invokestatic 11, 3) := by decide +kernel
theorem dX1_inverse_23 : decode cX1_inverse 23 = .ok (.istore_n 2, 1) := by decide +kernel
theorem dX1_inverse_24 : decode cX1_inverse 24 = .ok (.iinc 3 1, 3) := by decide +kernel
theorem dX1_inverse_27 : decode cX1_inverse 27 = .ok (.goto (-21), 3) := by decide +kernel
theorem dX1_inverse_30 : decode cX1_inverse 30 = .ok (.iload_n 2, 1) := by decide +kernel
theorem dX1_inverse_31 : decode cX1_inverse 31 = .ok (.ireturn, 1) := by decide +kernel
