set_option maxRecDepth 20000 in
theorem ggX0_init_X3_init : GoodIn wsX0_init wsX3_init := goodIn_r _ [19, 20, 2, 3, 4, 21, 22, 33, 34] rfl (by decide +kernel)
set_option maxRecDepth 20000 in
theorem gX0_init_X3_init_n39 : GoodIn wsX0_init (wsX3_init) := ggX0_init_X3_init
theorem dX0_init_0 : decode cX0_init 0 = .ok (.aload_n 0, 1) := by decide +kernel
theorem dX0_init_1 : decode cX0_init 1 = .ok (.invokespecial 3, 3) := by decide +kernel
theorem dX0_init_4 : decode cX0_init 4 = .ok (.aload_n 0, 1) := by decide +kernel
theorem dX0_init_5 : decode cX0_init 5 = .ok (.bipush 40, 2) := by decide +kernel
theorem dX0_init_7 : decode cX0_init 7 = .ok (.newarray .int, 2) := by decide +kernel
theorem dX0_init_9 : decode cX0_init 9 = .ok (.putfield 9, 3) := by decide +kernel
theorem dX0_init_12 : decode cX0_init 12 = .ok (.aload_n 0, 1) := by decide +kernel
theorem dX0_init_13 : decode cX0_init 13 = .ok (.bipush 40, 2) := by decide +kernel
theorem dX0_init_15 : decode cX0_init 15 = .ok (.newarray .int, 2) := by decide +kernel
theorem dX0_init_17 : decode cX0_init 17 = .ok (.putfield 15, 3) := by decide +kernel
theorem dX0_init_20 : decode cX0_init 20 = .ok (.aload_n 0, 1) := by decide +kernel
theorem dX0_init_21 : decode cX0_init 21 = .ok (.bipush 40, 2) := by decide +kernel
theorem dX0_init_23 : decode cX0_init 23 = .ok (.newarray .int, 2) := by decide +kernel
theorem dX0_init_25 : decode cX0_init 25 = .ok (.putfield 18, 3) := by decide +kernel
theorem dX0_init_28 : decode cX0_init 28 = .ok (.aload_n 0, 1) := by decide +kernel
theorem dX0_init_29 : decode cX0_init 29 = .ok (.bipush 40, 2) := by decide +kernel
theorem dX0_init_31 : decode cX0_init 31 = .ok (.newarray .int, 2) := by decide +kernel
theorem dX0_init_33 : decode cX0_init 33 = .ok (.putfield 21, 3) := by decide +kernel
theorem dX0_init_36 : decode cX0_init 36 = .ok (.aload_n 0, 1) := by decide +kernel
theorem dX0_init_37 : decode cX0_init 37 = .ok (.bipush 40, 2) := by decide +kernel
theorem dX0_init_39 : decode cX0_init 39 = .ok (.newarray .int, 2) := by decide +kernel
theorem dX0_init_41 : decode cX0_init 41 = .ok (.putfield 24, 3) := by decide +kernel
theorem dX0_init_44 : decode cX0_init 44 = .ok (.aload_n 0, 1) := by decide +kernel
theorem dX0_init_45 : decode cX0_init 45 = .ok (.bipush 40, 2) := by decide +kernel
theorem dX0_init_47 : decode cX0_init 47 = .ok (.newarray .int, 2) := by decide +kernel
theorem dX0_init_49 : decode cX0_init 49 = .ok (.putfield 27, 3) := by decide +kernel
theorem dX0_init_52 : decode cX0_init 52 = .ok (.aload_n 0, 1) := by decide +kernel
theorem dX0_init_53 : decode cX0_init 53 = .ok (.iconst 0, 1) := by decide +kernel
theorem dX0_init_54 : decode cX0_init 54 = .ok (.putfield 30, 3) := by decide +kernel
theorem dX0_init_57 : decode cX0_init 57 = .ok (.aload_n 0, 1) := by decide +kernel
theorem dX0_init_58 : decode cX0_init 58 = .ok (.iconst 0, 1) := by decide +kernel
theorem dX0_init_59 : decode cX0_init 59 = .ok (.putfield 34, 3) := by decide +kernel
theorem dX0_init_62 : decode cX0_init 62 = .ok (.aload_n 0, 1) := by decide +kernel
theorem dX0_init_63 : decode cX0_init 63 = .ok (.new 37, 3) := by decide +kernel
theorem dX0_init_66 : decode cX0_init 66 = .ok (.dup, 1) := by decide +kernel
theorem dX0_init_67 : decode cX0_init 67 = .ok (.invokespecial 39, 3) := by decide +kernel
theorem dX0_init_70 : decode cX0_init 70 = .ok (.putfield 40, 3) := by decide +kernel
theorem dX0_init_73 : decode cX0_init 73 = .ok (.aload_n 0, 1) := by decide +kernel
theorem dX0_init_74 : decode cX0_init 74 = .ok (.new 37, 3) := by decide +kernel
theorem dX0_init_77 : decode cX0_init 77 = .ok (.dup, 1) := by decide +kernel
theorem dX0_init_78 : decode cX0_init 78 = .ok (.invokespecial 39, 3) := by decide +kernel
theorem dX0_init_81 : decode cX0_init 81 = .ok (.putfield 44, 3) := by decide +kernel
theorem dX0_init_84 : decode cX0_init 84 = .ok (.return_, 1) := by decide +kernel
set_option maxRecDepth 20000 in
theorem ggX0_clear_X3_clear : GoodIn wsX0_clear wsX3_clear := goodIn_r _ [9, 10, 21, 22] rfl (by decide +kernel)
set_option maxRecDepth 20000 in
theorem gX0_clear_X3_clear : GoodIn wsX0_clear (wsV RX0 47 RX3 yX3_clear wsX3_clear) := goodIn_app (goodIn_of _ (by decide +kernel)) ggX0_clear_X3_clear
theorem dX0_clear_0 : decode cX0_clear 0 = .ok (.aload_n 0, 1) := by decide +kernel
theorem dX0_clear_1 : decode cX0_clear 1 = .ok (.iconst 0, 1) := by decide +kernel
theorem dX0_clear_2 : decode cX0_clear 2 = .ok (.putfield 30, 3) := by decide +kernel
theorem dX0_clear_5 : decode cX0_clear 5 = .ok (.aload_n 0, 1) := by decide +kernel
theorem dX0_clear_6 : decode cX0_clear 6 = .ok (.iconst 0, 1) := by decide +kernel
theorem dX0_clear_7 : decode cX0_clear 7 = .ok (.putfield 34, 3) := by decide +kernel
theorem dX0_clear_10 : decode cX0_clear 10 = .ok (.aload_n 0, 1) := by decide +kernel
theorem dX0_clear_11 : decode cX0_clear 11 = .ok (.getfield 40, 3) := by decide +kernel
theorem dX0_clear_14 : decode cX0_clear 14 = .ok (.invokevirtual 47, 3) := by decide +kernel
theorem dX0_clear_17 : decode cX0_clear 17 = .ok (.aload_n 0, 1) := by decide +kernel
theorem dX0_clear_18 : decode cX0_clear 18 = .ok (.getfield 44, 3) := by decide +kernel
theorem dX0_clear_21 : decode cX0_clear 21 = .ok (.invokevirtual 47, 3) := by decide +kernel
theorem dX0_clear_24 : decode cX0_clear 24 = .ok (.return_, 1) := by decide +kernel
theorem dX0_leastDefinable_0 : decode cX0_leastDefinable 0 = .ok (.aload_n 0, 1) := by decide +kernel
theorem dX0_leastDefinable_1 : decode cX0_leastDefinable 1 = .ok (.getfield 34, 3) := by decide +kernel
theorem dX0_leastDefinable_4 : decode cX0_leastDefinable 4 = .ok (.ireturn, 1) := by decide +kernel
set_option maxRecDepth 20000 in
theorem ggX0_await_X3_push : GoodIn wsX0_await wsX3_push := goodIn_r _ [6, 7, 8, 19, 20] rfl (by decide +kernel)
set_option maxRecDepth 20000 in
theorem gX0_await_X3_push : GoodIn wsX0_await (wsV RX0 50 RX3 yX3_push wsX3_push) := goodIn_app (goodIn_of _ (by decide +kernel)) ggX0_await_X3_push
theorem dX0_await_0 : decode cX0_await 0 = .ok (.aload_n 0, 1) := by decide +kernel
theorem dX0_await_1 : decode cX0_await 1 = .ok (.getfield 44, 3) := by decide +kernel
theorem dX0_await_4 : decode cX0_await 4 = .ok (.iload_n 1, 1) := by decide +kernel
theorem dX0_await_5 : decode cX0_await 5 = .ok (.invokevirtual 50, 3) := by decide +kernel
theorem dX0_await_8 : decode cX0_await 8 = .ok (.return_, 1) := by decide +kernel
set_option maxRecDepth 20000 in
theorem ggX0_addX_X0_addNode : GoodIn wsX0_addX wsX0_addNode := goodIn_r _ [5, 6, 7, 8, 9, 10, 11, 12, 13, 14, 15, 16, 17, 18, 19, 20, 21, 22, 23, 24, 25, 26, 27, 28, 29, 30, 31, 49, 50, 51, 52, 53, 54, 55, 56, 57, 58, 59, 60] rfl (by decide +kernel)
set_option maxRecDepth 20000 in
theorem gX0_addX_X0_addNode : GoodIn wsX0_addX (wsV RX0 54 RX0 yX0_addNode wsX0_addNode) := goodIn_app (goodIn_of _ (by decide +kernel)) ggX0_addX_X0_addNode
set_option maxRecDepth 20000 in
theorem ggX0_addX_X0_finishAtom : GoodIn wsX0_addX wsX0_finishAtom := goodIn_r _ [35, 36, 16, 37, 38, 39, 28, 40, 30, 41, 42, 43, 44, 31, 45, 46, 47, 48, 1, 2, 3, 4, 5, 6, 7, 8, 9, 10, 11, 12, 13, 14, 15, 17, 18, 19, 20, 21, 22, 23, 24, 25, 26, 27, 29, 49, 50, 51, 52, 53, 54, 55, 56, 57, 58, 59, 60] rfl (by decide +kernel)
set_option maxRecDepth 20000 in
theorem gX0_addX_X0_finishAtom : GoodIn wsX0_addX (wsV RX0 58 RX0 yX0_finishAtom wsX0_finishAtom) := goodIn_app (goodIn_of _ (by decide +kernel)) ggX0_addX_X0_finishAtom
theorem dX0_addX_0 : decode cX0_addX 0 = .ok (.aload_n 0, 1) := by decide +kernel
theorem dX0_addX_1 : decode cX0_addX 1 = .ok (.bipush 120, 2) := by decide +kernel
theorem dX0_addX_3 : decode cX0_addX 3 = .ok (.iconst 0, 1) := by decide +kernel
theorem dX0_addX_4 : decode cX0_addX 4 = .ok (.iconst (-1), 1) := by decide +kernel
theorem dX0_addX_5 : decode cX0_addX 5 = .ok (.iconst (-1), 1) := by decide +kernel
theorem dX0_addX_6 : decode cX0_addX 6 = .ok (.invokevirtual 54, 3) := by decide +kernel
theorem dX0_addX_9 : decode cX0_addX 9 = .ok (.aload_n 0, 1) := by decide +kernel
theorem dX0_addX_10 : decode cX0_addX 10 = .ok (.invokevirtual 58, 3) := by decide +kernel
theorem dX0_addX_13 : decode cX0_addX 13 = .ok (.return_, 1) := by decide +kernel
set_option maxRecDepth 20000 in
theorem ggX0_addNumber_X0_addNode : GoodIn wsX0_addNumber wsX0_addNode := goodIn_r _ [6, 7, 1, 8, 9, 10, 11, 12, 13, 14, 15, 16, 17, 18, 19, 20, 21, 22, 23, 24, 25, 26, 27, 28, 29, 30, 31, 49, 50, 51, 52, 53, 54, 55, 56, 57, 58, 59, 60] rfl (by decide +kernel)
set_option maxRecDepth 20000 in
theorem gX0_addNumber_X0_addNode : GoodIn wsX0_addNumber (wsV RX0 54 RX0 yX0_addNode wsX0_addNode) := goodIn_app (goodIn_of _ (by decide +kernel)) ggX0_addNumber_X0_addNode
set_option maxRecDepth 20000 in
theorem ggX0_addNumber_X0_finishAtom : GoodIn wsX0_addNumber wsX0_finishAtom := goodIn_r _ [35, 36, 16, 37, 38, 39, 28, 40, 30, 41, 42, 43, 44, 31, 45, 46, 47, 48, 2, 3, 4, 5, 6, 7, 1, 8, 9, 10, 11, 12, 13, 14, 15, 17, 18, 19, 20, 21, 22, 23, 24, 25, 26, 27, 29, 49, 50, 51, 52, 53, 54, 55, 56, 57, 58, 59, 60] rfl (by decide +kernel)
set_option maxRecDepth 20000 in
theorem gX0_addNumber_X0_finishAtom : GoodIn wsX0_addNumber (wsV RX0 58 RX0 yX0_finishAtom wsX0_finishAtom) := goodIn_app (goodIn_of _ (by decide +kernel)) ggX0_addNumber_X0_finishAtom
theorem dX0_addNumber_0 : decode cX0_addNumber 0 = .ok (.aload_n 0, 1) := by decide +kernel
theorem dX0_addNumber_1 : decode cX0_addNumber 1 = .ok (.getfield 30, 3) := by decide +kernel
theorem dX0_addNumber_4 : decode cX0_addNumber 4 = .ok (.istore_n 2, 1) := by decide +kernel
theorem dX0_addNumber_5 : decode cX0_addNumber 5 = .ok (.aload_n 0, 1) := by decide +kernel
theorem dX0_addNumber_6 : decode cX0_addNumber 6 = .ok (.bipush 48, 2) := by decide +kernel
theorem dX0_addNumber_8 : decode cX0_addNumber 8 = .ok (.iload_n 1, 1) := by decide +kernel
theorem dX0_addNumber_9 : decode cX0_addNumber 9 = .ok (.iconst (-1), 1) := by decide +kernel
theorem dX0_addNumber_10 : decode cX0_addNumber 10 = .ok (.iconst (-1), 1) := by decide +kernel
theorem dX0_addNumber_11 : decode cX0_addNumber 11 = .ok (.invokevirtual 54, 3) := by decide +kernel
theorem dX0_addNumber_14 : decode cX0_addNumber 14 = .ok (.aload_n 0, 1) := by decide +kernel
theorem dX0_addNumber_15 : decode cX0_addNumber 15 = .ok (.invokevirtual 58, 3) := by decide +kernel
theorem dX0_addNumber_18 : decode cX0_addNumber 18 = .ok (.iload_n 2, 1) := by decide +kernel
theorem dX0_addNumber_19 : decode cX0_addNumber 19 = .ok (.ireturn, 1) := by decide +kernel
set_option maxRecDepth 20000 in
theorem ggX0_numberOf_X10_at : GoodIn wsX0_numberOf wsX10_at := goodIn_r _ [4] rfl (by decide +kernel)
set_option maxRecDepth 20000 in
theorem gX0_numberOf_X10_at_n61 : GoodIn wsX0_numberOf (wsX10_at) := ggX0_numberOf_X10_at
theorem dX0_numberOf_0 : decode cX0_numberOf 0 = .ok (.aload_n 0, 1) := by decide +kernel
theorem dX0_numberOf_1 : decode cX0_numberOf 1 = .ok (.getfield 15, 3) := by decide +kernel
theorem dX0_numberOf_4 : decode cX0_numberOf 4 = .ok (.iload_n 1, 1) := by decide +kernel
theorem dX0_numberOf_5 : decode cX0_numberOf 5 = .ok (.invokestatic 61, 3) := by decide +kernel
theorem dX0_numberOf_8 : decode cX0_numberOf 8 = .ok (.ireturn, 1) := by decide +kernel
set_option maxRecDepth 20000 in
theorem ggX0_addDigit_X10_at : GoodIn wsX0_addDigit wsX10_at := goodIn_r _ [4] rfl (by decide +kernel)
set_option maxRecDepth 20000 in
theorem gX0_addDigit_X10_at_n61 : GoodIn wsX0_addDigit (wsX10_at) := ggX0_addDigit_X10_at
set_option maxRecDepth 20000 in
theorem ggX0_addDigit_X10_put : GoodIn wsX0_addDigit wsX10_put := goodIn_r _ [6] rfl (by decide +kernel)
set_option maxRecDepth 20000 in
theorem gX0_addDigit_X10_put_n65 : GoodIn wsX0_addDigit (wsX10_put) := ggX0_addDigit_X10_put
theorem dX0_addDigit_0 : decode cX0_addDigit 0 = .ok (.aload_n 0, 1) := by decide +kernel
theorem dX0_addDigit_1 : decode cX0_addDigit 1 = .ok (.getfield 15, 3) := by decide +kernel
theorem dX0_addDigit_4 : decode cX0_addDigit 4 = .ok (.iload_n 1, 1) := by decide +kernel
theorem dX0_addDigit_5 : decode cX0_addDigit 5 = .ok (.aload_n 0, 1) := by decide +kernel
theorem dX0_addDigit_6 : decode cX0_addDigit 6 = .ok (.getfield 15, 3) := by decide +kernel
theorem dX0_addDigit_9 : decode cX0_addDigit 9 = .ok (.iload_n 1, 1) := by decide +kernel
theorem dX0_addDigit_10 : decode cX0_addDigit 10 = .ok (.invokestatic 61, 3) := by decide +kernel
theorem dX0_addDigit_13 : decode cX0_addDigit 13 = .ok (.bipush 10, 2) := by decide +kernel
theorem dX0_addDigit_15 : decode cX0_addDigit 15 = .ok (.imul, 1) := by decide +kernel
theorem dX0_addDigit_16 : decode cX0_addDigit 16 = .ok (.iload_n 2, 1) := by decide +kernel
theorem dX0_addDigit_17 : decode cX0_addDigit 17 = .ok (.iadd, 1) := by decide +kernel
theorem dX0_addDigit_18 : decode cX0_addDigit 18 = .ok (.invokestatic 65, 3) := by decide +kernel
theorem dX0_addDigit_21 : decode cX0_addDigit 21 = .ok (.return_, 1) := by decide +kernel
set_option maxRecDepth 20000 in
theorem ggX0_addPower_X3_pop : GoodIn wsX0_addPower wsX3_pop := goodIn_r _ [6, 7, 8, 46, 47] rfl (by decide +kernel)
set_option maxRecDepth 20000 in
theorem gX0_addPower_X3_pop : GoodIn wsX0_addPower (wsV RX0 69 RX3 yX3_pop wsX3_pop) := goodIn_app (goodIn_of _ (by decide +kernel)) ggX0_addPower_X3_pop
set_option maxRecDepth 20000 in
theorem ggX0_addPower_X0_addNode : GoodIn wsX0_addPower wsX0_addNode := goodIn_r _ [13, 14, 15, 16, 17, 18, 19, 20, 21, 22, 23, 1, 24, 25, 26, 27, 28, 29, 30, 31, 32, 33, 34, 5, 35, 7, 8, 36, 37, 38, 39, 40, 41, 42, 43, 44, 45, 46, 47] rfl (by decide +kernel)
set_option maxRecDepth 20000 in
theorem gX0_addPower_X0_addNode : GoodIn wsX0_addPower (wsV RX0 54 RX0 yX0_addNode wsX0_addNode) := goodIn_app (goodIn_of _ (by decide +kernel)) ggX0_addPower_X0_addNode
theorem dX0_addPower_0 : decode cX0_addPower 0 = .ok (.aload_n 0, 1) := by decide +kernel
theorem dX0_addPower_1 : decode cX0_addPower 1 = .ok (.bipush 94, 2) := by decide +kernel
theorem dX0_addPower_3 : decode cX0_addPower 3 = .ok (.iload_n 1, 1) := by decide +kernel
theorem dX0_addPower_4 : decode cX0_addPower 4 = .ok (.aload_n 0, 1) := by decide +kernel
theorem dX0_addPower_5 : decode cX0_addPower 5 = .ok (.getfield 40, 3) := by decide +kernel
theorem dX0_addPower_8 : decode cX0_addPower 8 = .ok (.invokevirtual 69, 3) := by decide +kernel
theorem dX0_addPower_11 : decode cX0_addPower 11 = .ok (.iconst (-1), 1) := by decide +kernel
theorem dX0_addPower_12 : decode cX0_addPower 12 = .ok (.invokevirtual 54, 3) := by decide +kernel
theorem dX0_addPower_15 : decode cX0_addPower 15 = .ok (.return_, 1) := by decide +kernel
set_option maxRecDepth 20000 in
theorem ggX0_addSign_X0_levelOf : GoodIn wsX0_addSign wsX0_levelOf := goodIn_r _ [5] rfl (by decide +kernel)
set_option maxRecDepth 20000 in
theorem gX0_addSign_X0_levelOf : GoodIn wsX0_addSign (va_wsS RX0 73 yX0_levelOf wsX0_levelOf) := goodIn_app (goodIn_of _ (by decide +kernel)) ggX0_addSign_X0_levelOf
set_option maxRecDepth 20000 in
theorem ggX0_addSign_X0_joinFrom : GoodIn wsX0_addSign wsX0_joinFrom := goodIn_r _ [9, 1, 10, 11, 12, 13, 14, 15, 16, 17, 18, 19, 20, 21, 2, 3, 4, 5, 22, 23, 24, 25, 26, 27, 28, 29, 30, 31, 32, 33, 34, 35, 36, 37, 38, 39, 40, 41, 42, 43, 44, 45, 46, 47, 48, 49, 50, 51, 52, 53, 54, 55, 56, 57, 58, 59, 60, 61, 62, 63] rfl (by decide +kernel)
set_option maxRecDepth 20000 in
theorem gX0_addSign_X0_joinFrom : GoodIn wsX0_addSign (wsV RX0 77 RX0 yX0_joinFrom wsX0_joinFrom) := goodIn_app (goodIn_of _ (by decide +kernel)) ggX0_addSign_X0_joinFrom
set_option maxRecDepth 20000 in
theorem ggX0_addSign_X3_push : GoodIn wsX0_addSign wsX3_push := goodIn_r _ [51, 16, 21, 62, 63] rfl (by decide +kernel)
set_option maxRecDepth 20000 in
theorem gX0_addSign_X3_push : GoodIn wsX0_addSign (wsV RX0 50 RX3 yX3_push wsX3_push) := goodIn_app (goodIn_of _ (by decide +kernel)) ggX0_addSign_X3_push
theorem dX0_addSign_0 : decode cX0_addSign 0 = .ok (.aload_n 0, 1) := by decide +kernel
theorem dX0_addSign_1 : decode cX0_addSign 1 = .ok (.iload_n 1, 1) := by decide +kernel
theorem dX0_addSign_2 : decode cX0_addSign 2 = .ok (.invokestatic 73, 3) := by decide +kernel
theorem dX0_addSign_5 : decode cX0_addSign 5 = .ok (.invokevirtual 77, 3) := by decide +kernel
theorem dX0_addSign_8 : decode cX0_addSign 8 = .ok (.aload_n 0, 1) := by decide +kernel
theorem dX0_addSign_9 : decode cX0_addSign 9 = .ok (.getfield 44, 3) := by decide +kernel
theorem dX0_addSign_12 : decode cX0_addSign 12 = .ok (.iload_n 1, 1) := by decide +kernel
theorem dX0_addSign_13 : decode cX0_addSign 13 = .ok (.invokevirtual 50, 3) := by decide +kernel
theorem dX0_addSign_16 : decode cX0_addSign 16 = .ok (.return_, 1) := by decide +kernel
set_option maxRecDepth 20000 in
theorem ggX0_close_X0_joinFrom : GoodIn wsX0_close wsX0_joinFrom := goodIn_r _ [12, 1, 2, 13, 14, 15, 16, 17, 18, 19, 20, 21, 22, 23, 24, 25, 11, 26, 27, 28, 29, 30, 31, 32, 33, 34, 35, 36, 37, 38, 39, 40, 4, 5, 6, 7, 41, 42, 43, 44, 45, 46, 47, 48, 49, 50, 51, 52, 59, 60, 61, 62, 63, 64, 65, 66, 67, 68, 69, 70] rfl (by decide +kernel)
set_option maxRecDepth 20000 in
theorem gX0_close_X0_joinFrom : GoodIn wsX0_close (wsV RX0 77 RX0 yX0_joinFrom wsX0_joinFrom) := goodIn_app (goodIn_of _ (by decide +kernel)) ggX0_close_X0_joinFrom
set_option maxRecDepth 20000 in
theorem ggX0_close_X3_pop : GoodIn wsX0_close wsX3_pop := goodIn_r _ [30, 18, 23, 69, 70] rfl (by decide +kernel)
set_option maxRecDepth 20000 in
theorem gX0_close_X3_pop : GoodIn wsX0_close (wsV RX0 69 RX3 yX3_pop wsX3_pop) := goodIn_app (goodIn_of _ (by decide +kernel)) ggX0_close_X3_pop
set_option maxRecDepth 20000 in
theorem ggX0_close_X10_functionOf : GoodIn wsX0_close wsX10_functionOf := goodIn_r _ [54] rfl (by decide +kernel)
set_option maxRecDepth 20000 in
theorem gX0_close_X10_functionOf_n80 : GoodIn wsX0_close (wsX10_functionOf) := ggX0_close_X10_functionOf
set_option maxRecDepth 20000 in
theorem ggX0_close_X0_addNode : GoodIn wsX0_close wsX0_addNode := goodIn_r _ [34, 35, 36, 37, 38, 39, 40, 4, 5, 6, 7, 2, 41, 42, 43, 44, 45, 46, 47, 48, 49, 50, 51, 16, 52, 18, 23, 59, 60, 61, 62, 63, 64, 65, 66, 67, 68, 69, 70] rfl (by decide +kernel)
set_option maxRecDepth 20000 in
theorem gX0_close_X0_addNode : GoodIn wsX0_close (wsV RX0 54 RX0 yX0_addNode wsX0_addNode) := goodIn_app (goodIn_of _ (by decide +kernel)) ggX0_close_X0_addNode
set_option maxRecDepth 20000 in
theorem ggX0_close_X0_finishAtom : GoodIn wsX0_close wsX0_finishAtom := goodIn_r _ [58, 1, 2, 13, 14, 15, 16, 17, 18, 19, 20, 21, 22, 23, 27, 28, 29, 30, 31, 32, 33, 11, 34, 35, 36, 37, 38, 39, 40, 4, 5, 6, 7, 41, 42, 43, 44, 45, 46, 47, 48, 49, 50, 51, 52, 59, 60, 61, 62, 63, 64, 65, 66, 67, 68, 69, 70] rfl (by decide +kernel)
set_option maxRecDepth 20000 in
theorem gX0_close_X0_finishAtom : GoodIn wsX0_close (wsV RX0 58 RX0 yX0_finishAtom wsX0_finishAtom) := goodIn_app (goodIn_of _ (by decide +kernel)) ggX0_close_X0_finishAtom
theorem dX0_close_0 : decode cX0_close 0 = .ok (.aload_n 0, 1) := by decide +kernel
theorem dX0_close_1 : decode cX0_close 1 = .ok (.iconst 1, 1) := by decide +kernel
theorem dX0_close_2 : decode cX0_close 2 = .ok (.invokevirtual 77, 3) := by decide +kernel
theorem dX0_close_5 : decode cX0_close 5 = .ok (.aload_n 0, 1) := by decide +kernel
theorem dX0_close_6 : decode cX0_close 6 = .ok (.getfield 44, 3) := by decide +kernel
theorem dX0_close_9 : decode cX0_close 9 = .ok (.invokevirtual 69, 3) := by decide +kernel
theorem dX0_close_12 : decode cX0_close 12 = .ok (.invokestatic 80, 3) := by decide +kernel
theorem dX0_close_15 : decode cX0_close 15 = .ok (.istore_n 1, 1) := by decide +kernel
theorem dX0_close_16 : decode cX0_close 16 = .ok (.iload_n 1, 1) := by decide +kernel
theorem dX0_close_17 : decode cX0_close 17 = .ok (.iconst (-1), 1) := by decide +kernel
theorem dX0_close_18 : decode cX0_close 18 = .ok (.if_icmp .eq 32, 3) := by decide +kernel
theorem dX0_close_21 : decode cX0_close 21 = .ok (.aload_n 0, 1) := by decide +kernel
theorem dX0_close_22 : decode cX0_close 22 = .ok (.bipush 99, 2) := by decide +kernel
theorem dX0_close_24 : decode cX0_close 24 = .ok (.iload_n 1, 1) := by decide +kernel
theorem dX0_close_25 : decode cX0_close 25 = .ok (.aload_n 0, 1) := by decide +kernel
theorem dX0_close_26 : decode cX0_close 26 = .ok (.getfield 40, 3) := by decide +kernel
theorem dX0_close_29 : decode cX0_close 29 = .ok (.invokevirtual 69, 3) := by decide +kernel
theorem dX0_close_32 : decode cX0_close 32 = .ok (.iconst (-1), 1) := by decide +kernel
theorem dX0_close_33 : decode cX0_close 33 = .ok (.invokevirtual 54, 3) := by decide +kernel
theorem dX0_close_36 : decode cX0_close 36 = .ok (.aload_n 0, 1) := by decide +kernel
theorem dX0_close_37 : decode cX0_close 37 = .ok (.aload_n 0, 1) := by decide +kernel
theorem dX0_close_38 : decode cX0_close 38 = .ok (.getfield 34, 3) := by decide +kernel
theorem dX0_close_41 : decode cX0_close 41 = .ok (.iload_n 1, 1) := by decide +kernel
theorem dX0_close_42 : decode cX0_close 42 = .ok (.iconst 1, 1) := by decide +kernel
theorem dX0_close_43 : decode cX0_close 43 = .ok (.iadd, 1) := by decide +kernel
theorem dX0_close_44 : decode cX0_close 44 = .ok (.invokestatic 83, 3) := by decide +kernel
theorem dX0_close_47 : decode cX0_close 47 = .ok (.putfield 34, 3) := by decide +kernel
theorem dX0_close_50 : decode cX0_close 50 = .ok (.aload_n 0, 1) := by decide +kernel
theorem dX0_close_51 : decode cX0_close 51 = .ok (.invokevirtual 58, 3) := by decide +kernel
theorem dX0_close_54 : decode cX0_close 54 = .ok (.return_, 1) := by decide +kernel
set_option maxRecDepth 20000 in
theorem ggX0_finish_X0_joinFrom : GoodIn wsX0_finish wsX0_joinFrom := goodIn_r _ [5, 6, 7, 8, 9, 10, 11, 12, 13, 14, 15, 16, 17, 18, 19, 20, 4, 21, 22, 23, 24, 25, 26, 27, 28, 29, 30, 31, 32, 33, 34, 35, 36, 37, 38, 39, 40, 41, 42, 43, 44, 45, 46, 47, 48, 49, 50, 51, 52, 53, 54, 55, 56, 57, 58, 59, 60, 61, 62, 63] rfl (by decide +kernel)
set_option maxRecDepth 20000 in
theorem gX0_finish_X0_joinFrom : GoodIn wsX0_finish (wsV RX0 77 RX0 yX0_joinFrom wsX0_joinFrom) := goodIn_app (goodIn_of _ (by decide +kernel)) ggX0_finish_X0_joinFrom
theorem dX0_finish_0 : decode cX0_finish 0 = .ok (.aload_n 0, 1) := by decide +kernel
theorem dX0_finish_1 : decode cX0_finish 1 = .ok (.iconst 1, 1) := by decide +kernel
theorem dX0_finish_2 : decode cX0_finish 2 = .ok (.invokevirtual 77, 3) := by decide +kernel
theorem dX0_finish_5 : decode cX0_finish 5 = .ok (.return_, 1) := by decide +kernel
set_option maxRecDepth 20000 in
theorem ggX0_toExpression_X0_filled : GoodIn wsX0_toExpression wsX0_filled := goodIn_r _ [15, 9, 16, 17, 18, 19, 20, 21, 22, 23, 24, 25, 26, 27, 28, 29, 30, 31, 32, 33, 34, 35, 36, 37, 76, 77, 78, 79, 80, 81, 82, 83, 84, 85] rfl (by decide +kernel)
set_option maxRecDepth 20000 in
theorem gX0_toExpression_X0_filled : GoodIn wsX0_toExpression (wsV RX0 91 RX0 yX0_filled wsX0_filled) := goodIn_app (goodIn_of _ (by decide +kernel)) ggX0_toExpression_X0_filled
set_option maxRecDepth 20000 in
theorem ggX0_toExpression_X10_at : GoodIn wsX0_toExpression wsX10_at := goodIn_r _ [40] rfl (by decide +kernel)
set_option maxRecDepth 20000 in
theorem gX0_toExpression_X10_at_n61 : GoodIn wsX0_toExpression (wsX10_at) := ggX0_toExpression_X10_at
set_option maxRecDepth 20000 in
theorem ggX0_toExpression_X0_countUnlike : GoodIn wsX0_toExpression wsX0_countUnlike := goodIn_r _ [44, 9, 45, 46, 47, 48, 14, 49, 50, 51, 52, 53, 4, 5, 6, 7, 38, 39, 40, 54, 55, 76, 77, 78, 79, 80, 81, 82, 83, 84, 85] rfl (by decide +kernel)
set_option maxRecDepth 20000 in
theorem gX0_toExpression_X0_countUnlike : GoodIn wsX0_toExpression (wsV RX0 95 RX0 yX0_countUnlike wsX0_countUnlike) := goodIn_app (goodIn_of _ (by decide +kernel)) ggX0_toExpression_X0_countUnlike
set_option maxRecDepth 20000 in
theorem ggX0_toExpression_X1_init : GoodIn wsX0_toExpression wsX1_init := goodIn_r _ [58, 59, 60, 61, 62, 63, 64, 65, 66, 67, 68, 69, 70, 71, 72, 73, 74, 75] rfl (by decide +kernel)
set_option maxRecDepth 20000 in
theorem gX0_toExpression_X1_init : GoodIn wsX0_toExpression (wsX1_init) := ggX0_toExpression_X1_init
theorem dX0_toExpression_0 : decode cX0_toExpression 0 = .ok (.new 89, 3) := by decide +kernel
theorem dX0_toExpression_3 : decode cX0_toExpression 3 = .ok (.dup, 1) := by decide +kernel
theorem dX0_toExpression_4 : decode cX0_toExpression 4 = .ok (.aload_n 0, 1) := by decide +kernel
theorem dX0_toExpression_5 : decode cX0_toExpression 5 = .ok (.aload_n 0, 1) := by decide +kernel
theorem dX0_toExpression_6 : decode cX0_toExpression 6 = .ok (.getfield 9, 3) := by decide +kernel
theorem dX0_toExpression_9 : decode cX0_toExpression 9 = .ok (.invokevirtual 91, 3) := by decide +kernel
theorem dX0_toExpression_12 : decode cX0_toExpression 12 = .ok (.aload_n 0, 1) := by decide +kernel
theorem dX0_toExpression_13 : decode cX0_toExpression 13 = .ok (.aload_n 0, 1) := by decide +kernel
theorem dX0_toExpression_14 : decode cX0_toExpression 14 = .ok (.getfield 15, 3) := by decide +kernel
theorem dX0_toExpression_17 : decode cX0_toExpression 17 = .ok (.invokevirtual 91, 3) := by decide +kernel
theorem dX0_toExpression_20 : decode cX0_toExpression 20 = .ok (.aload_n 0, 1) := by decide +kernel
theorem dX0_toExpression_21 : decode cX0_toExpression 21 = .ok (.aload_n 0, 1) := by decide +kernel
theorem dX0_toExpression_22 : decode cX0_toExpression 22 = .ok (.getfield 18, 3) := by decide +kernel
theorem dX0_toExpression_25 : decode cX0_toExpression 25 = .ok (.invokevirtual 91, 3) := by decide +kernel
theorem dX0_toExpression_28 : decode cX0_toExpression 28 = .ok (.aload_n 0, 1) := by decide +kernel
theorem dX0_toExpression_29 : decode cX0_toExpression 29 = .ok (.aload_n 0, 1) := by decide +kernel
theorem dX0_toExpression_30 : decode cX0_toExpression 30 = .ok (.getfield 21, 3) := by decide +kernel
theorem dX0_toExpression_33 : decode cX0_toExpression 33 = .ok (.invokevirtual 91, 3) := by decide +kernel
theorem dX0_toExpression_36 : decode cX0_toExpression 36 = .ok (.aload_n 0, 1) := by decide +kernel
theorem dX0_toExpression_37 : decode cX0_toExpression 37 = .ok (.getfield 24, 3) := by decide +kernel
theorem dX0_toExpression_40 : decode cX0_toExpression 40 = .ok (.aload_n 0, 1) := by decide +kernel
theorem dX0_toExpression_41 : decode cX0_toExpression 41 = .ok (.getfield 30, 3) := by decide +kernel
theorem dX0_toExpression_44 : decode cX0_toExpression 44 = .ok (.iconst 1, 1) := by decide +kernel
theorem dX0_toExpression_45 : decode cX0_toExpression 45 = .ok (.isub, 1) := by decide +kernel
theorem dX0_toExpression_46 : decode cX0_toExpression 46 = .ok (.invokestatic 61, 3) := by decide +kernel
theorem dX0_toExpression_49 : decode cX0_toExpression 49 = .ok (.aload_n 0, 1) := by decide +kernel
theorem dX0_toExpression_50 : decode cX0_toExpression 50 = .ok (.invokevirtual 95, 3) := by decide +kernel
theorem dX0_toExpression_53 : decode cX0_toExpression 53 = .ok (.aload_n 0, 1) := by decide +kernel
theorem dX0_toExpression_54 : decode cX0_toExpression 54 = .ok (.getfield 34, 3) := by decide +kernel
theorem dX0_toExpression_57 : decode cX0_toExpression 57 = .ok (.invokespecial 98, 3) := by decide +kernel
theorem dX0_toExpression_60 : decode cX0_toExpression 60 = .ok (.areturn, 1) := by decide +kernel
set_option maxRecDepth 20000 in
theorem ggX0_filled_J7_copyOf_59c91 : GoodIn wsX0_filled wsJ7_copyOf_59c91 := goodIn_r _ [9, 10, 11, 12, 13, 14, 15, 16, 17, 18, 4, 19, 20, 21, 22, 23] rfl (by decide +kernel)
set_option maxRecDepth 20000 in
theorem gX0_filled_J7_copyOf_59c91 : GoodIn wsX0_filled (va_wsS RX0 101 yJ7_copyOf_59c91 wsJ7_copyOf_59c91) := goodIn_app (goodIn_of _ (by decide +kernel)) ggX0_filled_J7_copyOf_59c91
theorem dX0_filled_0 : decode cX0_filled 0 = .ok (.aload_n 1, 1) := by decide +kernel
theorem dX0_filled_1 : decode cX0_filled 1 = .ok (.iconst 0, 1) := by decide +kernel
theorem dX0_filled_2 : decode cX0_filled 2 = .ok (.aload_n 0, 1) := by decide +kernel
theorem dX0_filled_3 : decode cX0_filled 3 = .ok (.getfield 30, 3) := by decide +kernel
theorem dX0_filled_6 : decode cX0_filled 6 = .ok (.invokestatic 83, 3) := by decide +kernel
theorem dX0_filled_9 : decode cX0_filled 9 = .ok (.invokestatic 101, 3) := by decide +kernel
theorem dX0_filled_12 : decode cX0_filled 12 = .ok (.areturn, 1) := by decide +kernel
set_option maxRecDepth 20000 in
theorem ggX0_finishAtom_X3_count : GoodIn wsX0_finishAtom wsX3_count := goodIn_r _ [7, 8, 55, 56] rfl (by decide +kernel)
set_option maxRecDepth 20000 in
theorem gX0_finishAtom_X3_count : GoodIn wsX0_finishAtom (wsV RX0 107 RX3 yX3_count wsX3_count) := goodIn_app (goodIn_of _ (by decide +kernel)) ggX0_finishAtom_X3_count
set_option maxRecDepth 20000 in
theorem ggX0_finishAtom_X3_top : GoodIn wsX0_finishAtom wsX3_top := goodIn_r _ [12, 8, 13, 55, 56] rfl (by decide +kernel)
set_option maxRecDepth 20000 in
theorem gX0_finishAtom_X3_top : GoodIn wsX0_finishAtom (wsV RX0 110 RX3 yX3_top wsX3_top) := goodIn_app (goodIn_of _ (by decide +kernel)) ggX0_finishAtom_X3_top
set_option maxRecDepth 20000 in
theorem ggX0_finishAtom_X3_pop : GoodIn wsX0_finishAtom wsX3_pop := goodIn_r _ [17, 8, 13, 55, 56] rfl (by decide +kernel)
set_option maxRecDepth 20000 in
theorem gX0_finishAtom_X3_pop : GoodIn wsX0_finishAtom (wsV RX0 69 RX3 yX3_pop wsX3_pop) := goodIn_app (goodIn_of _ (by decide +kernel)) ggX0_finishAtom_X3_pop
set_option maxRecDepth 20000 in
theorem ggX0_finishAtom_X0_addNode : GoodIn wsX0_finishAtom wsX0_addNode := goodIn_r _ [22, 23, 24, 25, 26, 27, 28, 29, 30, 31, 32, 2, 33, 34, 35, 36, 37, 38, 39, 40, 41, 42, 43, 6, 44, 8, 13, 45, 46, 47, 48, 49, 50, 51, 52, 53, 54, 55, 56] rfl (by decide +kernel)
set_option maxRecDepth 20000 in
theorem gX0_finishAtom_X0_addNode : GoodIn wsX0_finishAtom (wsV RX0 54 RX0 yX0_addNode wsX0_addNode) := goodIn_app (goodIn_of _ (by decide +kernel)) ggX0_finishAtom_X0_addNode
theorem dX0_finishAtom_0 : decode cX0_finishAtom 0 = .ok (.aload_n 0, 1) := by decide +kernel
theorem dX0_finishAtom_1 : decode cX0_finishAtom 1 = .ok (.getfield 44, 3) := by decide +kernel
theorem dX0_finishAtom_4 : decode cX0_finishAtom 4 = .ok (.invokevirtual 107, 3) := by decide +kernel
theorem dX0_finishAtom_7 : decode cX0_finishAtom 7 = .ok (.istore_n 1, 1) := by decide +kernel
theorem dX0_finishAtom_8 : decode cX0_finishAtom 8 = .ok (.iload_n 1, 1) := by decide +kernel
theorem dX0_finishAtom_9 : decode cX0_finishAtom 9 = .ok (.ifCond .le 41, 3) := by decide +kernel
theorem dX0_finishAtom_12 : decode cX0_finishAtom 12 = .ok (.aload_n 0, 1) := by decide +kernel
theorem dX0_finishAtom_13 : decode cX0_finishAtom 13 = .ok (.getfield 44, 3) := by decide +kernel
theorem dX0_finishAtom_16 : decode cX0_finishAtom 16 = .ok (.invokevirtual 110, 3) := by decide +kernel
theorem dX0_finishAtom_19 : decode cX0_finishAtom 19 = .ok (.bipush 110, 2) := by decide +kernel
theorem dX0_finishAtom_21 : decode cX0_finishAtom 21 = .ok (.if_icmp .ne 29, 3) := by decide +kernel
theorem dX0_finishAtom_24 : decode cX0_finishAtom 24 = .ok (.aload_n 0, 1) := by decide +kernel
theorem dX0_finishAtom_25 : decode cX0_finishAtom 25 = .ok (.aload_n 0, 1) := by decide +kernel
theorem dX0_finishAtom_26 : decode cX0_finishAtom 26 = .ok (.getfield 44, 3) := by decide +kernel
theorem dX0_finishAtom_29 : decode cX0_finishAtom 29 = .ok (.invokevirtual 69, 3) := by decide +kernel
theorem dX0_finishAtom_32 : decode cX0_finishAtom 32 = .ok (.iconst 0, 1) := by decide +kernel
theorem dX0_finishAtom_33 : decode cX0_finishAtom 33 = .ok (.aload_n 0, 1) := by decide +kernel
theorem dX0_finishAtom_34 : decode cX0_finishAtom 34 = .ok (.getfield 40, 3) := by decide +kernel
theorem dX0_finishAtom_37 : decode cX0_finishAtom 37 = .ok (.invokevirtual 69, 3) := by decide +kernel
theorem dX0_finishAtom_40 : decode cX0_finishAtom 40 = .ok (.iconst (-1), 1) := by decide +kernel
theorem dX0_finishAtom_41 : decode cX0_finishAtom 41 = .ok (.invokevirtual 54, 3) := by decide +kernel
theorem dX0_finishAtom_44 : decode cX0_finishAtom 44 = .ok (.iinc 1 (-1), 3) := by decide +kernel
theorem dX0_finishAtom_47 : decode cX0_finishAtom 47 = .ok (.goto (-39), 3) := by decide +kernel
theorem dX0_finishAtom_50 : decode cX0_finishAtom 50 = .ok (.return_, 1) := by decide +kernel
set_option maxRecDepth 20000 in
theorem ggX0_joinFrom_X3_count : GoodIn wsX0_joinFrom wsX3_count := goodIn_r _ [7, 8, 58, 59] rfl (by decide +kernel)
set_option maxRecDepth 20000 in
theorem gX0_joinFrom_X3_count : GoodIn wsX0_joinFrom (wsV RX0 107 RX3 yX3_count wsX3_count) := goodIn_app (goodIn_of _ (by decide +kernel)) ggX0_joinFrom_X3_count
set_option maxRecDepth 20000 in
theorem ggX0_joinFrom_X3_top : GoodIn wsX0_joinFrom wsX3_top := goodIn_r _ [12, 8, 13, 58, 59] rfl (by decide +kernel)
set_option maxRecDepth 20000 in
theorem gX0_joinFrom_X3_top : GoodIn wsX0_joinFrom (wsV RX0 110 RX3 yX3_top wsX3_top) := goodIn_app (goodIn_of _ (by decide +kernel)) ggX0_joinFrom_X3_top
set_option maxRecDepth 20000 in
theorem ggX0_joinFrom_X0_levelOf : GoodIn wsX0_joinFrom wsX0_levelOf := goodIn_r _ [17] rfl (by decide +kernel)
set_option maxRecDepth 20000 in
theorem gX0_joinFrom_X0_levelOf : GoodIn wsX0_joinFrom (va_wsS RX0 73 yX0_levelOf wsX0_levelOf) := goodIn_app (goodIn_of _ (by decide +kernel)) ggX0_joinFrom_X0_levelOf
set_option maxRecDepth 20000 in
theorem ggX0_joinFrom_X3_pop : GoodIn wsX0_joinFrom wsX3_pop := goodIn_r _ [21, 8, 13, 58, 59] rfl (by decide +kernel)
set_option maxRecDepth 20000 in
theorem gX0_joinFrom_X3_pop : GoodIn wsX0_joinFrom (wsV RX0 69 RX3 yX3_pop wsX3_pop) := goodIn_app (goodIn_of _ (by decide +kernel)) ggX0_joinFrom_X3_pop
set_option maxRecDepth 20000 in
theorem ggX0_joinFrom_X0_addNode : GoodIn wsX0_joinFrom wsX0_addNode := goodIn_r _ [25, 26, 27, 28, 29, 30, 31, 32, 33, 34, 35, 2, 36, 37, 38, 39, 40, 41, 42, 43, 44, 45, 46, 6, 47, 8, 13, 48, 49, 50, 51, 52, 53, 54, 55, 56, 57, 58, 59] rfl (by decide +kernel)
set_option maxRecDepth 20000 in
theorem gX0_joinFrom_X0_addNode : GoodIn wsX0_joinFrom (wsV RX0 54 RX0 yX0_addNode wsX0_addNode) := goodIn_app (goodIn_of _ (by decide +kernel)) ggX0_joinFrom_X0_addNode
theorem dX0_joinFrom_0 : decode cX0_joinFrom 0 = .ok (.aload_n 0, 1) := by decide +kernel
theorem dX0_joinFrom_1 : decode cX0_joinFrom 1 = .ok (.getfield 44, 3) := by decide +kernel
theorem dX0_joinFrom_4 : decode cX0_joinFrom 4 = .ok (.invokevirtual 107, 3) := by decide +kernel
theorem dX0_joinFrom_7 : decode cX0_joinFrom 7 = .ok (.istore_n 2, 1) := by decide +kernel
theorem dX0_joinFrom_8 : decode cX0_joinFrom 8 = .ok (.iload_n 2, 1) := by decide +kernel
theorem dX0_joinFrom_9 : decode cX0_joinFrom 9 = .ok (.ifCond .le 51, 3) := by decide +kernel
theorem dX0_joinFrom_12 : decode cX0_joinFrom 12 = .ok (.aload_n 0, 1) := by decide +kernel
theorem dX0_joinFrom_13 : decode cX0_joinFrom 13 = .ok (.getfield 44, 3) := by decide +kernel
theorem dX0_joinFrom_16 : decode cX0_joinFrom 16 = .ok (.invokevirtual 110, 3) := by decide +kernel
theorem dX0_joinFrom_19 : decode cX0_joinFrom 19 = .ok (.invokestatic 73, 3) := by decide +kernel
theorem dX0_joinFrom_22 : decode cX0_joinFrom 22 = .ok (.iload_n 1, 1) := by decide +kernel
theorem dX0_joinFrom_23 : decode cX0_joinFrom 23 = .ok (.if_icmp .lt 37, 3) := by decide +kernel
theorem dX0_joinFrom_26 : decode cX0_joinFrom 26 = .ok (.aload_n 0, 1) := by decide +kernel
theorem dX0_joinFrom_27 : decode cX0_joinFrom 27 = .ok (.getfield 40, 3) := by decide +kernel
theorem dX0_joinFrom_30 : decode cX0_joinFrom 30 = .ok (.invokevirtual 69, 3) := by decide +kernel
theorem dX0_joinFrom_33 : decode cX0_joinFrom 33 = .ok (.istore_n 3, 1) := by decide +kernel
theorem dX0_joinFrom_34 : decode cX0_joinFrom 34 = .ok (.aload_n 0, 1) := by decide +kernel
theorem dX0_joinFrom_35 : decode cX0_joinFrom 35 = .ok (.aload_n 0, 1) := by decide +kernel
theorem dX0_joinFrom_36 : decode cX0_joinFrom 36 = .ok (.getfield 44, 3) := by decide +kernel
theorem dX0_joinFrom_39 : decode cX0_joinFrom 39 = .ok (.invokevirtual 69, 3) := by decide +kernel
theorem dX0_joinFrom_42 : decode cX0_joinFrom 42 = .ok (.iconst 0, 1) := by decide +kernel
theorem dX0_joinFrom_43 : decode cX0_joinFrom 43 = .ok (.aload_n 0, 1) := by decide +kernel
theorem dX0_joinFrom_44 : decode cX0_joinFrom 44 = .ok (.getfield 40, 3) := by decide +kernel
theorem dX0_joinFrom_47 : decode cX0_joinFrom 47 = .ok (.invokevirtual 69, 3) := by decide +kernel
theorem dX0_joinFrom_50 : decode cX0_joinFrom 50 = .ok (.iload_n 3, 1) := by decide +kernel
theorem dX0_joinFrom_51 : decode cX0_joinFrom 51 = .ok (.invokevirtual 54, 3) := by decide +kernel
theorem dX0_joinFrom_54 : decode cX0_joinFrom 54 = .ok (.iinc 2 (-1), 3) := by decide +kernel
theorem dX0_joinFrom_57 : decode cX0_joinFrom 57 = .ok (.goto (-49), 3) := by decide +kernel
theorem dX0_joinFrom_60 : decode cX0_joinFrom 60 = .ok (.return_, 1) := by decide +kernel
theorem dX0_levelOf_0 : decode cX0_levelOf 0 = .ok (.iload_n 0, 1) := by decide +kernel
theorem dX0_levelOf_1 : decode cX0_levelOf 1 = .ok (.tableswitch 43 42 47 #[41, 39, 43, 39, 43, 41], 39) := by decide +kernel
theorem dX0_levelOf_40 : decode cX0_levelOf 40 = .ok (.iconst 1, 1) := by decide +kernel
theorem dX0_levelOf_41 : decode cX0_levelOf 41 = .ok (.ireturn, 1) := by decide +kernel
theorem dX0_levelOf_42 : decode cX0_levelOf 42 = .ok (.iconst 2, 1) := by decide +kernel
theorem dX0_levelOf_43 : decode cX0_levelOf 43 = .ok (.ireturn, 1) := by decide +kernel
theorem dX0_levelOf_44 : decode cX0_levelOf 44 = .ok (.iconst 0, 1) := by decide +kernel
theorem dX0_levelOf_45 : decode cX0_levelOf 45 = .ok (.ireturn, 1) := by decide +kernel
set_option maxRecDepth 20000 in
theorem ggX0_addNode_X10_put : GoodIn wsX0_addNode wsX10_put := goodIn_r _ [17] rfl (by decide +kernel)
set_option maxRecDepth 20000 in
theorem gX0_addNode_X10_put_n65 : GoodIn wsX0_addNode (wsX10_put) := ggX0_addNode_X10_put
set_option maxRecDepth 20000 in
theorem ggX0_addNode_X10_at : GoodIn wsX0_addNode wsX10_at := goodIn_r _ [19] rfl (by decide +kernel)
set_option maxRecDepth 20000 in
theorem gX0_addNode_X10_at_n61 : GoodIn wsX0_addNode (wsX10_at) := ggX0_addNode_X10_at
set_option maxRecDepth 20000 in
theorem ggX0_addNode_X3_push : GoodIn wsX0_addNode wsX3_push := goodIn_r _ [24, 25, 26, 37, 38] rfl (by decide +kernel)
set_option maxRecDepth 20000 in
theorem gX0_addNode_X3_push : GoodIn wsX0_addNode (wsV RX0 50 RX3 yX3_push wsX3_push) := goodIn_app (goodIn_of _ (by decide +kernel)) ggX0_addNode_X3_push
theorem dX0_addNode_0 : decode cX0_addNode 0 = .ok (.aload_n 0, 1) := by decide +kernel
theorem dX0_addNode_1 : decode cX0_addNode 1 = .ok (.getfield 9, 3) := by decide +kernel
theorem dX0_addNode_4 : decode cX0_addNode 4 = .ok (.aload_n 0, 1) := by decide +kernel
theorem dX0_addNode_5 : decode cX0_addNode 5 = .ok (.getfield 30, 3) := by decide +kernel
theorem dX0_addNode_8 : decode cX0_addNode 8 = .ok (.iload_n 1, 1) := by decide +kernel
theorem dX0_addNode_9 : decode cX0_addNode 9 = .ok (.invokestatic 65, 3) := by decide +kernel
theorem dX0_addNode_12 : decode cX0_addNode 12 = .ok (.aload_n 0, 1) := by decide +kernel
theorem dX0_addNode_13 : decode cX0_addNode 13 = .ok (.getfield 15, 3) := by decide +kernel
theorem dX0_addNode_16 : decode cX0_addNode 16 = .ok (.aload_n 0, 1) := by decide +kernel
theorem dX0_addNode_17 : decode cX0_addNode 17 = .ok (.getfield 30, 3) := by decide +kernel
theorem dX0_addNode_20 : decode cX0_addNode 20 = .ok (.iload_n 2, 1) := by decide +kernel
theorem dX0_addNode_21 : decode cX0_addNode 21 = .ok (.invokestatic 65, 3) := by decide +kernel
theorem dX0_addNode_24 : decode cX0_addNode 24 = .ok (.aload_n 0, 1) := by decide +kernel
theorem dX0_addNode_25 : decode cX0_addNode 25 = .ok (.getfield 18, 3) := by decide +kernel
theorem dX0_addNode_28 : decode cX0_addNode 28 = .ok (.aload_n 0, 1) := by decide +kernel
theorem dX0_addNode_29 : decode cX0_addNode 29 = .ok (.getfield 30, 3) := by decide +kernel
theorem dX0_addNode_32 : decode cX0_addNode 32 = .ok (.iload_n 3, 1) := by decide +kernel
theorem dX0_addNode_33 : decode cX0_addNode 33 = .ok (.invokestatic 65, 3) := by decide +kernel
theorem dX0_addNode_36 : decode cX0_addNode 36 = .ok (.aload_n 0, 1) := by decide +kernel
theorem dX0_addNode_37 : decode cX0_addNode 37 = .ok (.getfield 21, 3) := by decide +kernel
theorem dX0_addNode_40 : decode cX0_addNode 40 = .ok (.aload_n 0, 1) := by decide +kernel
theorem dX0_addNode_41 : decode cX0_addNode 41 = .ok (.getfield 30, 3) := by decide +kernel
theorem dX0_addNode_44 : decode cX0_addNode 44 = .ok (.iload 4, 2) := by decide +kernel
theorem dX0_addNode_46 : decode cX0_addNode 46 = .ok (.invokestatic 65, 3) := by decide +kernel
theorem dX0_addNode_49 : decode cX0_addNode 49 = .ok (.aload_n 0, 1) := by decide +kernel
theorem dX0_addNode_50 : decode cX0_addNode 50 = .ok (.getfield 24, 3) := by decide +kernel
theorem dX0_addNode_53 : decode cX0_addNode 53 = .ok (.aload_n 0, 1) := by decide +kernel
theorem dX0_addNode_54 : decode cX0_addNode 54 = .ok (.getfield 30, 3) := by decide +kernel
theorem dX0_addNode_57 : decode cX0_addNode 57 = .ok (.iconst 1, 1) := by decide +kernel
theorem dX0_addNode_58 : decode cX0_addNode 58 = .ok (.aload_n 0, 1) := by decide +kernel
theorem dX0_addNode_59 : decode cX0_addNode 59 = .ok (.getfield 24, 3) := by decide +kernel
theorem dX0_addNode_62 : decode cX0_addNode 62 = .ok (.iload_n 3, 1) := by decide +kernel
theorem dX0_addNode_63 : decode cX0_addNode 63 = .ok (.invokestatic 61, 3) := by decide +kernel
theorem dX0_addNode_66 : decode cX0_addNode 66 = .ok (.aload_n 0, 1) := by decide +kernel
theorem dX0_addNode_67 : decode cX0_addNode 67 = .ok (.getfield 24, 3) := by decide +kernel
theorem dX0_addNode_70 : decode cX0_addNode 70 = .ok (.iload 4, 2) := by decide +kernel
theorem dX0_addNode_72 : decode cX0_addNode 72 = .ok (.invokestatic 61, 3) := by decide +kernel
theorem dX0_addNode_75 : decode cX0_addNode 75 = .ok (.invokestatic 83, 3) := by decide +kernel
theorem dX0_addNode_78 : decode cX0_addNode 78 = .ok (.iadd, 1) := by decide +kernel
theorem dX0_addNode_79 : decode cX0_addNode 79 = .ok (.invokestatic 65, 3) := by decide +kernel
theorem dX0_addNode_82 : decode cX0_addNode 82 = .ok (.aload_n 0, 1) := by decide +kernel
theorem dX0_addNode_83 : decode cX0_addNode 83 = .ok (.getfield 40, 3) := by decide +kernel
theorem dX0_addNode_86 : decode cX0_addNode 86 = .ok (.aload_n 0, 1) := by decide +kernel
theorem dX0_addNode_87 : decode cX0_addNode 87 = .ok (.getfield 30, 3) := by decide +kernel
theorem dX0_addNode_90 : decode cX0_addNode 90 = .ok (.invokevirtual 50, 3) := by decide +kernel
theorem dX0_addNode_93 : decode cX0_addNode 93 = .ok (.aload_n 0, 1) := by decide +kernel
theorem dX0_addNode_94 : decode cX0_addNode 94 = .ok (.aload_n 0, 1) := by decide +kernel
theorem dX0_addNode_95 : decode cX0_addNode 95 = .ok (.getfield 30, 3) := by decide +kernel
theorem dX0_addNode_98 : decode cX0_addNode 98 = .ok (.iconst 1, 1) := by decide +kernel
theorem dX0_addNode_99 : decode cX0_addNode 99 = .ok (.iadd, 1) := by decide +kernel
theorem dX0_addNode_100 : decode cX0_addNode 100 = .ok (.aload_n 0, 1) := by decide +kernel
theorem dX0_addNode_101 : decode cX0_addNode 101 = .ok (.getfield 9, 3) := by decide +kernel
theorem dX0_addNode_104 : decode cX0_addNode 104 = .ok (.arraylength, 1) := by decide +kernel
theorem dX0_addNode_105 : decode cX0_addNode 105 = .ok (.invokestatic 113, 3) := by decide +kernel
theorem dX0_addNode_108 : decode cX0_addNode 108 = .ok (.putfield 30, 3) := by decide +kernel
theorem dX0_addNode_111 : decode cX0_addNode 111 = .ok (.return_, 1) := by decide +kernel
set_option maxRecDepth 20000 in
theorem ggX0_countUnlike_X0_firstLike : GoodIn wsX0_countUnlike wsX0_firstLike := goodIn_r _ [7, 8, 9, 10, 6, 11, 12, 13, 2, 14, 15, 16, 17, 18, 21, 22, 23, 24, 25, 26, 27, 28, 29, 30] rfl (by decide +kernel)
set_option maxRecDepth 20000 in
theorem gX0_countUnlike_X0_firstLike : GoodIn wsX0_countUnlike (wsV RX0 116 RX0 yX0_firstLike wsX0_firstLike) := goodIn_app (goodIn_of _ (by decide +kernel)) ggX0_countUnlike_X0_firstLike
set_option maxRecDepth 20000 in
theorem ggX0_countUnlike_X10_put : GoodIn wsX0_countUnlike wsX10_put := goodIn_r _ [20] rfl (by decide +kernel)
set_option maxRecDepth 20000 in
theorem gX0_countUnlike_X10_put_n65 : GoodIn wsX0_countUnlike (wsX10_put) := ggX0_countUnlike_X10_put
theorem dX0_countUnlike_0 : decode cX0_countUnlike 0 = .ok (.iconst 0, 1) := by decide +kernel
theorem dX0_countUnlike_1 : decode cX0_countUnlike 1 = .ok (.istore_n 1, 1) := by decide +kernel
theorem dX0_countUnlike_2 : decode cX0_countUnlike 2 = .ok (.iconst 0, 1) := by decide +kernel
theorem dX0_countUnlike_3 : decode cX0_countUnlike 3 = .ok (.istore_n 2, 1) := by decide +kernel
theorem dX0_countUnlike_4 : decode cX0_countUnlike 4 = .ok (.iload_n 2, 1) := by decide +kernel
theorem dX0_countUnlike_5 : decode cX0_countUnlike 5 = .ok (.aload_n 0, 1) := by decide +kernel
theorem dX0_countUnlike_6 : decode cX0_countUnlike 6 = .ok (.getfield 30, 3) := by decide +kernel
theorem dX0_countUnlike_9 : decode cX0_countUnlike 9 = .ok (.if_icmp .ge 32, 3) := by decide +kernel
theorem dX0_countUnlike_12 : decode cX0_countUnlike 12 = .ok (.aload_n 0, 1) := by decide +kernel
theorem dX0_countUnlike_13 : decode cX0_countUnlike 13 = .ok (.iload_n 2, 1) := by decide +kernel
theorem dX0_countUnlike_14 : decode cX0_countUnlike 14 = .ok (.invokevirtual 116, 3) := by decide +kernel
theorem dX0_countUnlike_17 : decode cX0_countUnlike 17 = .ok (.istore_n 3, 1) := by decide +kernel
theorem dX0_countUnlike_18 : decode cX0_countUnlike 18 = .ok (.aload_n 0, 1) := by decide +kernel
theorem dX0_countUnlike_19 : decode cX0_countUnlike 19 = .ok (.getfield 27, 3) := by decide +kernel
theorem dX0_countUnlike_22 : decode cX0_countUnlike 22 = .ok (.iload_n 2, 1) := by decide +kernel
theorem dX0_countUnlike_23 : decode cX0_countUnlike 23 = .ok (.iload_n 3, 1) := by decide +kernel
theorem dX0_countUnlike_24 : decode cX0_countUnlike 24 = .ok (.invokestatic 65, 3) := by decide +kernel
theorem dX0_countUnlike_27 : decode cX0_countUnlike 27 = .ok (.iload_n 3, 1) := by decide +kernel
theorem dX0_countUnlike_28 : decode cX0_countUnlike 28 = .ok (.iload_n 2, 1) := by decide +kernel
theorem dX0_countUnlike_29 : decode cX0_countUnlike 29 = .ok (.if_icmp .ne 6, 3) := by decide +kernel
theorem dX0_countUnlike_32 : decode cX0_countUnlike 32 = .ok (.iinc 1 1, 3) := by decide +kernel
theorem dX0_countUnlike_35 : decode cX0_countUnlike 35 = .ok (.iinc 2 1, 3) := by decide +kernel
theorem dX0_countUnlike_38 : decode cX0_countUnlike 38 = .ok (.goto (-34), 3) := by decide +kernel
theorem dX0_countUnlike_41 : decode cX0_countUnlike 41 = .ok (.iload_n 1, 1) := by decide +kernel
theorem dX0_countUnlike_42 : decode cX0_countUnlike 42 = .ok (.ireturn, 1) := by decide +kernel
set_option maxRecDepth 20000 in
theorem ggX0_firstLike_X0_areAlike : GoodIn wsX0_firstLike wsX0_areAlike := goodIn_r _ [5, 6, 7, 8, 9, 10, 11, 12, 13, 14, 15, 16, 17, 18, 19, 20, 21, 22, 23] rfl (by decide +kernel)
set_option maxRecDepth 20000 in
theorem gX0_firstLike_X0_areAlike : GoodIn wsX0_firstLike (wsV RX0 119 RX0 yX0_areAlike wsX0_areAlike) := goodIn_app (goodIn_of _ (by decide +kernel)) ggX0_firstLike_X0_areAlike
theorem dX0_firstLike_0 : decode cX0_firstLike 0 = .ok (.iconst 0, 1) := by decide +kernel
theorem dX0_firstLike_1 : decode cX0_firstLike 1 = .ok (.istore_n 2, 1) := by decide +kernel
theorem dX0_firstLike_2 : decode cX0_firstLike 2 = .ok (.iload_n 2, 1) := by decide +kernel
theorem dX0_firstLike_3 : decode cX0_firstLike 3 = .ok (.iload_n 1, 1) := by decide +kernel
theorem dX0_firstLike_4 : decode cX0_firstLike 4 = .ok (.if_icmp .ge 20, 3) := by decide +kernel
theorem dX0_firstLike_7 : decode cX0_firstLike 7 = .ok (.aload_n 0, 1) := by decide +kernel
theorem dX0_firstLike_8 : decode cX0_firstLike 8 = .ok (.iload_n 2, 1) := by decide +kernel
theorem dX0_firstLike_9 : decode cX0_firstLike 9 = .ok (.iload_n 1, 1) := by decide +kernel
theorem dX0_firstLike_10 : decode cX0_firstLike 10 = .ok (.invokevirtual 119, 3) := by decide +kernel
theorem dX0_firstLike_13 : decode cX0_firstLike 13 = .ok (.ifCond .eq 5, 3) := by decide +kernel
theorem dX0_firstLike_16 : decode cX0_firstLike 16 = .ok (.iload_n 2, 1) := by decide +kernel
theorem dX0_firstLike_17 : decode cX0_firstLike 17 = .ok (.ireturn, 1) := by decide +kernel
theorem dX0_firstLike_18 : decode cX0_firstLike 18 = .ok (.iinc 2 1, 3) := by decide +kernel
theorem dX0_firstLike_21 : decode cX0_firstLike 21 = .ok (.goto (-19), 3) := by decide +kernel
theorem dX0_firstLike_24 : decode cX0_firstLike 24 = .ok (.iload_n 1, 1) := by decide +kernel
theorem dX0_firstLike_25 : decode cX0_firstLike 25 = .ok (.ireturn, 1) := by decide +kernel
set_option maxRecDepth 20000 in
theorem ggX0_areAlike_X10_at : GoodIn wsX0_areAlike wsX10_at := goodIn_r _ [8] rfl (by decide +kernel)
set_option maxRecDepth 20000 in
theorem gX0_areAlike_X10_at_n61 : GoodIn wsX0_areAlike (wsX10_at) := ggX0_areAlike_X10_at
theorem dX0_areAlike_0 : decode cX0_areAlike 0 = .ok (.aload_n 0, 1) := by decide +kernel
theorem dX0_areAlike_1 : decode cX0_areAlike 1 = .ok (.getfield 9, 3) := by decide +kernel
theorem dX0_areAlike_4 : decode cX0_areAlike 4 = .ok (.iload_n 1, 1) := by decide +kernel
theorem dX0_areAlike_5 : decode cX0_areAlike 5 = .ok (.invokestatic 61, 3) := by decide +kernel
theorem dX0_areAlike_8 : decode cX0_areAlike 8 = .ok (.aload_n 0, 1) := by decide +kernel
theorem dX0_areAlike_9 : decode cX0_areAlike 9 = .ok (.getfield 9, 3) := by decide +kernel
theorem dX0_areAlike_12 : decode cX0_areAlike 12 = .ok (.iload_n 2, 1) := by decide +kernel
theorem dX0_areAlike_13 : decode cX0_areAlike 13 = .ok (.invokestatic 61, 3) := by decide +kernel
theorem dX0_areAlike_16 : decode cX0_areAlike 16 = .ok (.if_icmp .ne 92, 3) := by decide +kernel
theorem dX0_areAlike_19 : decode cX0_areAlike 19 = .ok (.aload_n 0, 1) := by decide +kernel
theorem dX0_areAlike_20 : decode cX0_areAlike 20 = .ok (.getfield 15, 3) := by decide +kernel
theorem dX0_areAlike_23 : decode cX0_areAlike 23 = .ok (.iload_n 1, 1) := by decide +kernel
theorem dX0_areAlike_24 : decode cX0_areAlike 24 = .ok (.invokestatic 61, 3) := by decide +kernel
theorem dX0_areAlike_27 : decode cX0_areAlike 27 = .ok (.aload_n 0, 1) := by decide +kernel
theorem dX0_areAlike_28 : decode cX0_areAlike 28 = .ok (.getfield 15, 3) := by decide +kernel
theorem dX0_areAlike_31 : decode cX0_areAlike 31 = .ok (.iload_n 2, 1) := by decide +kernel
theorem dX0_areAlike_32 : decode cX0_areAlike 32 = .ok (.invokestatic 61, 3) := by decide +kernel
theorem dX0_areAlike_35 : decode cX0_areAlike 35 = .ok (.if_icmp .ne 73, 3) := by decide +kernel
theorem dX0_areAlike_38 : decode cX0_areAlike 38 = .ok (.aload_n 0, 1) := by decide +kernel
theorem dX0_areAlike_39 : decode cX0_areAlike 39 = .ok (.getfield 27, 3) := by decide +kernel
theorem dX0_areAlike_42 : decode cX0_areAlike 42 = .ok (.aload_n 0, 1) := by decide +kernel
theorem dX0_areAlike_43 : decode cX0_areAlike 43 = .ok (.getfield 18, 3) := by decide +kernel
theorem dX0_areAlike_46 : decode cX0_areAlike 46 = .ok (.iload_n 1, 1) := by decide +kernel
theorem dX0_areAlike_47 : decode cX0_areAlike 47 = .ok (.invokestatic 61, 3) := by decide +kernel
theorem dX0_areAlike_50 : decode cX0_areAlike 50 = .ok (.invokestatic 61, 3) := by decide +kernel
theorem dX0_areAlike_53 : decode cX0_areAlike 53 = .ok (.aload_n 0, 1) := by decide +kernel
theorem dX0_areAlike_54 : decode cX0_areAlike 54 = .ok (.getfield 27, 3) := by decide +kernel
theorem dX0_areAlike_57 : decode cX0_areAlike 57 = .ok (.aload_n 0, 1) := by decide +kernel
theorem dX0_areAlike_58 : decode cX0_areAlike 58 = .ok (.getfield 18, 3) := by decide +kernel
theorem dX0_areAlike_61 : decode cX0_areAlike 61 = .ok (.iload_n 2, 1) := by decide +kernel
theorem dX0_areAlike_62 : decode cX0_areAlike 62 = .ok (.invokestatic 61, 3) := by decide +kernel
theorem dX0_areAlike_65 : decode cX0_areAlike 65 = .ok (.invokestatic 61, 3) := by decide +kernel
theorem dX0_areAlike_68 : decode cX0_areAlike 68 = .ok (.if_icmp .ne 40, 3) := by decide +kernel
theorem dX0_areAlike_71 : decode cX0_areAlike 71 = .ok (.aload_n 0, 1) := by decide +kernel
theorem dX0_areAlike_72 : decode cX0_areAlike 72 = .ok (.getfield 27, 3) := by decide +kernel
theorem dX0_areAlike_75 : decode cX0_areAlike 75 = .ok (.aload_n 0, 1) := by decide +kernel
theorem dX0_areAlike_76 : decode cX0_areAlike 76 = .ok (.getfield 21, 3) := by decide +kernel
theorem dX0_areAlike_79 : decode cX0_areAlike 79 = .ok (.iload_n 1, 1) := by decide +kernel
theorem dX0_areAlike_80 : decode cX0_areAlike 80 = .ok (.invokestatic 61, 3) := by decide +kernel
theorem dX0_areAlike_83 : decode cX0_areAlike 83 = .ok (.invokestatic 61, 3) := by decide +kernel
theorem dX0_areAlike_86 : decode cX0_areAlike 86 = .ok (.aload_n 0, 1) := by decide +kernel
theorem dX0_areAlike_87 : decode cX0_areAlike 87 = .ok (.getfield 27, 3) := by decide +kernel
theorem dX0_areAlike_90 : decode cX0_areAlike 90 = .ok (.aload_n 0, 1) := by decide +kernel
theorem dX0_areAlike_91 : decode cX0_areAlike 91 = .ok (.getfield 21, 3) := by decide +kernel
theorem dX0_areAlike_94 : decode cX0_areAlike 94 = .ok (.iload_n 2, 1) := by decide +kernel
theorem dX0_areAlike_95 : decode cX0_areAlike 95 = .ok (.invokestatic 61, 3) := by decide +kernel
theorem dX0_areAlike_98 : decode cX0_areAlike 98 = .ok (.invokestatic 61, 3) := by decide +kernel
theorem dX0_areAlike_101 : decode cX0_areAlike 101 = .ok (.if_icmp .ne 7, 3) := by decide +kernel
theorem dX0_areAlike_104 : decode cX0_areAlike 104 = .ok (.iconst 1, 1) := by decide +kernel
theorem dX0_areAlike_105 : decode cX0_areAlike 105 = .ok (.goto 4, 3) := by decide +kernel
theorem dX0_areAlike_108 : decode cX0_areAlike 108 = .ok (.iconst 0, 1) := by decide +kernel
theorem dX0_areAlike_109 : decode cX0_areAlike 109 = .ok (.ireturn, 1) := by decide +kernel
theorem dX1_init_0 : decode cX1_init 0 = .ok (.aload_n 0, 1) := by decide +kernel
theorem dX1_init_1 : decode cX1_init 1 = .ok (.invokespecial 3, 3) := by decide +kernel
theorem dX1_init_4 : decode cX1_init 4 = .ok (.aload_n 0, 1) := by decide +kernel
theorem dX1_init_5 : decode cX1_init 5 = .ok (.aload_n 1, 1) := by decide +kernel
theorem dX1_init_6 : decode cX1_init 6 = .ok (.putfield 9, 3) := by decide +kernel
theorem dX1_init_9 : decode cX1_init 9 = .ok (.aload_n 0, 1) := by decide +kernel
theorem dX1_init_10 : decode cX1_init 10 = .ok (.aload_n 2, 1) := by decide +kernel
theorem dX1_init_11 : decode cX1_init 11 = .ok (.putfield 15, 3) := by decide +kernel
theorem dX1_init_14 : decode cX1_init 14 = .ok (.aload_n 0, 1) := by decide +kernel
theorem dX1_init_15 : decode cX1_init 15 = .ok (.aload_n 3, 1) := by decide +kernel
theorem dX1_init_16 : decode cX1_init 16 = .ok (.putfield 18, 3) := by decide +kernel
theorem dX1_init_19 : decode cX1_init 19 = .ok (.aload_n 0, 1) := by decide +kernel
theorem dX1_init_20 : decode cX1_init 20 = .ok (.aload 4, 2) := by decide +kernel
theorem dX1_init_22 : decode cX1_init 22 = .ok (.putfield 21, 3) := by decide +kernel
theorem dX1_init_25 : decode cX1_init 25 = .ok (.aload_n 0, 1) := by decide +kernel
theorem dX1_init_26 : decode cX1_init 26 = .ok (.iload 5, 2) := by decide +kernel
theorem dX1_init_28 : decode cX1_init 28 = .ok (.putfield 24, 3) := by decide +kernel
theorem dX1_init_31 : decode cX1_init 31 = .ok (.aload_n 0, 1) := by decide +kernel
theorem dX1_init_32 : decode cX1_init 32 = .ok (.iload 6, 2) := by decide +kernel
theorem dX1_init_34 : decode cX1_init 34 = .ok (.putfield 28, 3) := by decide +kernel
theorem dX1_init_37 : decode cX1_init 37 = .ok (.aload_n 0, 1) := by decide +kernel
theorem dX1_init_38 : decode cX1_init 38 = .ok (.iload 7, 2) := by decide +kernel
theorem dX1_init_40 : decode cX1_init 40 = .ok (.putfield 31, 3) := by decide +kernel
theorem dX1_init_43 : decode cX1_init 43 = .ok (.return_, 1) := by decide +kernel
set_option maxRecDepth 20000 in
theorem ggX1_ofX_X1_init : GoodIn wsX1_ofX wsX1_init := goodIn_r _ [7, 8, 9, 10, 11, 12, 13, 14, 15, 16, 17, 18, 19, 20, 21, 22, 23, 24] rfl (by decide +kernel)
set_option maxRecDepth 20000 in
theorem gX1_ofX_X1_init : GoodIn wsX1_ofX (wsX1_init) := ggX1_ofX_X1_init
theorem dX1_ofX_0 : decode cX1_ofX 0 = .ok (.new 10, 3) := by decide +kernel
theorem dX1_ofX_3 : decode cX1_ofX 3 = .ok (.dup, 1) := by decide +kernel
theorem dX1_ofX_4 : decode cX1_ofX 4 = .ok (.iconst 1, 1) := by decide +kernel
theorem dX1_ofX_5 : decode cX1_ofX 5 = .ok (.newarray .int, 2) := by decide +kernel
theorem dX1_ofX_7 : decode cX1_ofX 7 = .ok (.dup, 1) := by decide +kernel
theorem dX1_ofX_8 : decode cX1_ofX 8 = .ok (.iconst 0, 1) := by decide +kernel
theorem dX1_ofX_9 : decode cX1_ofX 9 = .ok (.bipush 120, 2) := by decide +kernel
theorem dX1_ofX_11 : decode cX1_ofX 11 = .ok (.iastore, 1) := by decide +kernel
theorem dX1_ofX_12 : decode cX1_ofX 12 = .ok (.iconst 1, 1) := by decide +kernel
theorem dX1_ofX_13 : decode cX1_ofX 13 = .ok (.newarray .int, 2) := by decide +kernel
theorem dX1_ofX_15 : decode cX1_ofX 15 = .ok (.dup, 1) := by decide +kernel
theorem dX1_ofX_16 : decode cX1_ofX 16 = .ok (.iconst 0, 1) := by decide +kernel
theorem dX1_ofX_17 : decode cX1_ofX 17 = .ok (.iconst 0, 1) := by decide +kernel
theorem dX1_ofX_18 : decode cX1_ofX 18 = .ok (.iastore, 1) := by decide +kernel
theorem dX1_ofX_19 : decode cX1_ofX 19 = .ok (.iconst 1, 1) := by decide +kernel
theorem dX1_ofX_20 : decode cX1_ofX 20 = .ok (.newarray .int, 2) := by decide +kernel
theorem dX1_ofX_22 : decode cX1_ofX 22 = .ok (.dup, 1) := by decide +kernel
theorem dX1_ofX_23 : decode cX1_ofX 23 = .ok (.iconst 0, 1) := by decide +kernel
theorem dX1_ofX_24 : decode cX1_ofX 24 = .ok (.iconst (-1), 1) := by decide +kernel
theorem dX1_ofX_25 : decode cX1_ofX 25 = .ok (.iastore, 1) := by decide +kernel
theorem dX1_ofX_26 : decode cX1_ofX 26 = .ok (.iconst 1, 1) := by decide +kernel
theorem dX1_ofX_27 : decode cX1_ofX 27 = .ok (.newarray .int, 2) := by decide +kernel
theorem dX1_ofX_29 : decode cX1_ofX 29 = .ok (.dup, 1) := by decide +kernel
theorem dX1_ofX_30 : decode cX1_ofX 30 = .ok (.iconst 0, 1) := by decide +kernel
theorem dX1_ofX_31 : decode cX1_ofX 31 = .ok (.iconst (-1), 1) := by decide +kernel
theorem dX1_ofX_32 : decode cX1_ofX 32 = .ok (.iastore, 1) := by decide +kernel
theorem dX1_ofX_33 : decode cX1_ofX 33 = .ok (.iconst 1, 1) := by decide +kernel
theorem dX1_ofX_34 : decode cX1_ofX 34 = .ok (.iconst 1, 1) := by decide +kernel
theorem dX1_ofX_35 : decode cX1_ofX 35 = .ok (.iconst 0, 1) := by decide +kernel
theorem dX1_ofX_36 : decode cX1_ofX 36 = .ok (.invokespecial 34, 3) := by decide +kernel
theorem dX1_ofX_39 : decode cX1_ofX 39 = .ok (.areturn, 1) := by decide +kernel
theorem dX1_size_0 : decode cX1_size 0 = .ok (.aload_n 0, 1) := by decide +kernel
theorem dX1_size_1 : decode cX1_size 1 = .ok (.getfield 9, 3) := by decide +kernel
theorem dX1_size_4 : decode cX1_size 4 = .ok (.arraylength, 1) := by decide +kernel
theorem dX1_size_5 : decode cX1_size 5 = .ok (.ireturn, 1) := by decide +kernel
theorem dX1_unlike_0 : decode cX1_unlike 0 = .ok (.aload_n 0, 1) := by decide +kernel
theorem dX1_unlike_1 : decode cX1_unlike 1 = .ok (.getfield 28, 3) := by decide +kernel
theorem dX1_unlike_4 : decode cX1_unlike 4 = .ok (.ireturn, 1) := by decide +kernel
set_option maxRecDepth 20000 in
theorem ggX1_kind_X10_at : GoodIn wsX1_kind wsX10_at := goodIn_r _ [4] rfl (by decide +kernel)
set_option maxRecDepth 20000 in
theorem gX1_kind_X10_at_n37 : GoodIn wsX1_kind (wsX10_at) := ggX1_kind_X10_at
theorem dX1_kind_0 : decode cX1_kind 0 = .ok (.aload_n 0, 1) := by decide +kernel
theorem dX1_kind_1 : decode cX1_kind 1 = .ok (.getfield 9, 3) := by decide +kernel
theorem dX1_kind_4 : decode cX1_kind 4 = .ok (.iload_n 1, 1) := by decide +kernel
theorem dX1_kind_5 : decode cX1_kind 5 = .ok (.invokestatic 37, 3) := by decide +kernel
theorem dX1_kind_8 : decode cX1_kind 8 = .ok (.ireturn, 1) := by decide +kernel
set_option maxRecDepth 20000 in
theorem ggX1_number_X10_at : GoodIn wsX1_number wsX10_at := goodIn_r _ [4] rfl (by decide +kernel)
set_option maxRecDepth 20000 in
theorem gX1_number_X10_at_n37 : GoodIn wsX1_number (wsX10_at) := ggX1_number_X10_at
theorem dX1_number_0 : decode cX1_number 0 = .ok (.aload_n 0, 1) := by decide +kernel
theorem dX1_number_1 : decode cX1_number 1 = .ok (.getfield 15, 3) := by decide +kernel
theorem dX1_number_4 : decode cX1_number 4 = .ok (.iload_n 1, 1) := by decide +kernel
theorem dX1_number_5 : decode cX1_number 5 = .ok (.invokestatic 37, 3) := by decide +kernel
theorem dX1_number_8 : decode cX1_number 8 = .ok (.ireturn, 1) := by decide +kernel
theorem dX1_left_0 : decode cX1_left 0 = .ok (.iload_n 1, 1) := by decide +kernel
theorem dX1_left_1 : decode cX1_left 1 = .ok (.ifCond .lt 21, 3) := by decide +kernel
theorem dX1_left_4 : decode cX1_left 4 = .ok (.iload_n 1, 1) := by decide +kernel
theorem dX1_left_5 : decode cX1_left 5 = .ok (.aload_n 0, 1) := by decide +kernel
theorem dX1_left_6 : decode cX1_left 6 = .ok (.getfield 18, 3) := by decide +kernel
theorem dX1_left_9 : decode cX1_left 9 = .ok (.arraylength, 1) := by decide +kernel
theorem dX1_left_10 : decode cX1_left 10 = .ok (.if_icmp .ge 12, 3) := by decide +kernel
theorem dX1_left_13 : decode cX1_left 13 = .ok (.aload_n 0, 1) := by decide +kernel
theorem dX1_left_14 : decode cX1_left 14 = .ok (.getfield 18, 3) := by decide +kernel
theorem dX1_left_17 : decode cX1_left 17 = .ok (.iload_n 1, 1) := by decide +kernel
theorem dX1_left_18 : decode cX1_left 18 = .ok (.iaload, 1) := by decide +kernel
theorem dX1_left_19 : decode cX1_left 19 = .ok (.goto 4, 3) := by decide +kernel
theorem dX1_left_22 : decode cX1_left 22 = .ok (.iconst (-1), 1) := by decide +kernel
theorem dX1_left_23 : decode cX1_left 23 = .ok (.ireturn, 1) := by decide +kernel
theorem dX1_right_0 : decode cX1_right 0 = .ok (.iload_n 1, 1) := by decide +kernel
theorem dX1_right_1 : decode cX1_right 1 = .ok (.ifCond .lt 21, 3) := by decide +kernel
theorem dX1_right_4 : decode cX1_right 4 = .ok (.iload_n 1, 1) := by decide +kernel
theorem dX1_right_5 : decode cX1_right 5 = .ok (.aload_n 0, 1) := by decide +kernel
theorem dX1_right_6 : decode cX1_right 6 = .ok (.getfield 21, 3) := by decide +kernel
theorem dX1_right_9 : decode cX1_right 9 = .ok (.arraylength, 1) := by decide +kernel
theorem dX1_right_10 : decode cX1_right 10 = .ok (.if_icmp .ge 12, 3) := by decide +kernel
theorem dX1_right_13 : decode cX1_right 13 = .ok (.aload_n 0, 1) := by decide +kernel
theorem dX1_right_14 : decode cX1_right 14 = .ok (.getfield 21, 3) := by decide +kernel
theorem dX1_right_17 : decode cX1_right 17 = .ok (.iload_n 1, 1) := by decide +kernel
theorem dX1_right_18 : decode cX1_right 18 = .ok (.iaload, 1) := by decide +kernel
theorem dX1_right_19 : decode cX1_right 19 = .ok (.goto 4, 3) := by decide +kernel
theorem dX1_right_22 : decode cX1_right 22 = .ok (.iconst (-1), 1) := by decide +kernel
theorem dX1_right_23 : decode cX1_right 23 = .ok (.ireturn, 1) := by decide +kernel
theorem dX2_init_0 : decode cX2_init 0 = .ok (.aload_n 0, 1) := by decide +kernel
theorem dX2_init_1 : decode cX2_init 1 = .ok (.invokespecial 3, 3) := by decide +kernel
theorem dX2_init_4 : decode cX2_init 4 = .ok (.aload_n 0, 1) := by decide +kernel
theorem dX2_init_5 : decode cX2_init 5 = .ok (.iconst 4, 1) := by decide +kernel
theorem dX2_init_6 : decode cX2_init 6 = .ok (.anewarray 9, 3) := by decide +kernel
theorem dX2_init_9 : decode cX2_init 9 = .ok (.putfield 11, 3) := by decide +kernel
theorem dX2_init_12 : decode cX2_init 12 = .ok (.aload_n 0, 1) := by decide +kernel
theorem dX2_init_13 : decode cX2_init 13 = .ok (.iconst 0, 1) := by decide +kernel
theorem dX2_init_14 : decode cX2_init 14 = .ok (.putfield 17, 3) := by decide +kernel
theorem dX2_init_17 : decode cX2_init 17 = .ok (.return_, 1) := by decide +kernel
set_option maxRecDepth 20000 in
theorem ggX2_record_X2_forgetOldest : GoodIn wsX2_record wsX2_forgetOldest := goodIn_r _ [7, 2, 1, 8, 9] rfl (by decide +kernel)
set_option maxRecDepth 20000 in
theorem gX2_record_X2_forgetOldest : GoodIn wsX2_record (wsV RX2 21 RX2 yX2_forgetOldest wsX2_forgetOldest) := goodIn_app (goodIn_of _ (by decide +kernel)) ggX2_record_X2_forgetOldest
theorem dX2_record_0 : decode cX2_record 0 = .ok (.aload_n 0, 1) := by decide +kernel
theorem dX2_record_1 : decode cX2_record 1 = .ok (.getfield 17, 3) := by decide +kernel
theorem dX2_record_4 : decode cX2_record 4 = .ok (.aload_n 0, 1) := by decide +kernel
theorem dX2_record_5 : decode cX2_record 5 = .ok (.getfield 11, 3) := by decide +kernel
theorem dX2_record_8 : decode cX2_record 8 = .ok (.arraylength, 1) := by decide +kernel
theorem dX2_record_9 : decode cX2_record 9 = .ok (.if_icmp .lt 7, 3) := by decide +kernel
theorem dX2_record_12 : decode cX2_record 12 = .ok (.aload_n 0, 1) := by decide +kernel
theorem dX2_record_13 : decode cX2_record 13 = .ok (.invokevirtual 21, 3) := by decide +kernel
theorem dX2_record_16 : decode cX2_record 16 = .ok (.aload_n 0, 1) := by decide +kernel
theorem dX2_record_17 : decode cX2_record 17 = .ok (.getfield 17, 3) := by decide +kernel
theorem dX2_record_20 : decode cX2_record 20 = .ok (.ifCond .lt 35, 3) := by decide +kernel
theorem dX2_record_23 : decode cX2_record 23 = .ok (.aload_n 0, 1) := by decide +kernel
theorem dX2_record_24 : decode cX2_record 24 = .ok (.getfield 17, 3) := by decide +kernel
theorem dX2_record_27 : decode cX2_record 27 = .ok (.aload_n 0, 1) := by decide +kernel
theorem dX2_record_28 : decode cX2_record 28 = .ok (.getfield 11, 3) := by decide +kernel
theorem dX2_record_31 : decode cX2_record 31 = .ok (.arraylength, 1) := by decide +kernel
theorem dX2_record_32 : decode cX2_record 32 = .ok (.if_icmp .ge 23, 3) := by decide +kernel
theorem dX2_record_35 : decode cX2_record 35 = .ok (.aload_n 0, 1) := by decide +kernel
theorem dX2_record_36 : decode cX2_record 36 = .ok (.getfield 11, 3) := by decide +kernel
theorem dX2_record_39 : decode cX2_record 39 = .ok (.aload_n 0, 1) := by decide +kernel
theorem dX2_record_40 : decode cX2_record 40 = .ok (.getfield 17, 3) := by decide +kernel
theorem dX2_record_43 : decode cX2_record 43 = .ok (.aload_n 1, 1) := by decide +kernel
theorem dX2_record_44 : decode cX2_record 44 = .ok (.aastore, 1) := by decide +kernel
theorem dX2_record_45 : decode cX2_record 45 = .ok (.aload_n 0, 1) := by decide +kernel
theorem dX2_record_46 : decode cX2_record 46 = .ok (.dup, 1) := by decide +kernel
theorem dX2_record_47 : decode cX2_record 47 = .ok (.getfield 17, 3) := by decide +kernel
theorem dX2_record_50 : decode cX2_record 50 = .ok (.iconst 1, 1) := by decide +kernel
theorem dX2_record_51 : decode cX2_record 51 = .ok (.iadd, 1) := by decide +kernel
theorem dX2_record_52 : decode cX2_record 52 = .ok (.putfield 17, 3) := by decide +kernel
theorem dX2_record_55 : decode cX2_record 55 = .ok (.return_, 1) := by decide +kernel
theorem dX2_forgetOldest_0 : decode cX2_forgetOldest 0 = .ok (.iconst 1, 1) := by decide +kernel
theorem dX2_forgetOldest_1 : decode cX2_forgetOldest 1 = .ok (.istore_n 1, 1) := by decide +kernel
theorem dX2_forgetOldest_2 : decode cX2_forgetOldest 2 = .ok (.iload_n 1, 1) := by decide +kernel
theorem dX2_forgetOldest_3 : decode cX2_forgetOldest 3 = .ok (.aload_n 0, 1) := by decide +kernel
theorem dX2_forgetOldest_4 : decode cX2_forgetOldest 4 = .ok (.getfield 11, 3) := by decide +kernel
theorem dX2_forgetOldest_7 : decode cX2_forgetOldest 7 = .ok (.arraylength, 1) := by decide +kernel
theorem dX2_forgetOldest_8 : decode cX2_forgetOldest 8 = .ok (.if_icmp .ge 23, 3) := by decide +kernel
theorem dX2_forgetOldest_11 : decode cX2_forgetOldest 11 = .ok (.aload_n 0, 1) := by decide +kernel
theorem dX2_forgetOldest_12 : decode cX2_forgetOldest 12 = .ok (.getfield 11, 3) := by decide +kernel
theorem dX2_forgetOldest_15 : decode cX2_forgetOldest 15 = .ok (.iload_n 1, 1) := by decide +kernel
theorem dX2_forgetOldest_16 : decode cX2_forgetOldest 16 = .ok (.iconst 1, 1) := by decide +kernel
theorem dX2_forgetOldest_17 : decode cX2_forgetOldest 17 = .ok (.isub, 1) := by decide +kernel
theorem dX2_forgetOldest_18 : decode cX2_forgetOldest 18 = .ok (.aload_n 0, 1) := by decide +kernel
theorem dX2_forgetOldest_19 : decode cX2_forgetOldest 19 = .ok (.getfield 11, 3) := by decide +kernel
theorem dX2_forgetOldest_22 : decode cX2_forgetOldest 22 = .ok (.iload_n 1, 1) := by decide +kernel
theorem dX2_forgetOldest_23 : decode cX2_forgetOldest 23 = .ok (.aaload, 1) := by decide +kernel
theorem dX2_forgetOldest_24 : decode cX2_forgetOldest 24 = .ok (.aastore, 1) := by decide +kernel
theorem dX2_forgetOldest_25 : decode cX2_forgetOldest 25 = .ok (.iinc 1 1, 3) := by decide +kernel
theorem dX2_forgetOldest_28 : decode cX2_forgetOldest 28 = .ok (.goto (-26), 3) := by decide +kernel
theorem dX2_forgetOldest_31 : decode cX2_forgetOldest 31 = .ok (.aload_n 0, 1) := by decide +kernel
theorem dX2_forgetOldest_32 : decode cX2_forgetOldest 32 = .ok (.aload_n 0, 1) := by decide +kernel
theorem dX2_forgetOldest_33 : decode cX2_forgetOldest 33 = .ok (.getfield 11, 3) := by decide +kernel
theorem dX2_forgetOldest_36 : decode cX2_forgetOldest 36 = .ok (.arraylength, 1) := by decide +kernel
theorem dX2_forgetOldest_37 : decode cX2_forgetOldest 37 = .ok (.iconst 1, 1) := by decide +kernel
theorem dX2_forgetOldest_38 : decode cX2_forgetOldest 38 = .ok (.isub, 1) := by decide +kernel
theorem dX2_forgetOldest_39 : decode cX2_forgetOldest 39 = .ok (.putfield 17, 3) := by decide +kernel
theorem dX2_forgetOldest_42 : decode cX2_forgetOldest 42 = .ok (.return_, 1) := by decide +kernel
theorem dX3_init_0 : decode cX3_init 0 = .ok (.aload_n 0, 1) := by decide +kernel
theorem dX3_init_1 : decode cX3_init 1 = .ok (.invokespecial 3, 3) := by decide +kernel
theorem dX3_init_4 : decode cX3_init 4 = .ok (.aload_n 0, 1) := by decide +kernel
theorem dX3_init_5 : decode cX3_init 5 = .ok (.bipush 40, 2) := by decide +kernel
theorem dX3_init_7 : decode cX3_init 7 = .ok (.newarray .int, 2) := by decide +kernel
theorem dX3_init_9 : decode cX3_init 9 = .ok (.putfield 9, 3) := by decide +kernel
theorem dX3_init_12 : decode cX3_init 12 = .ok (.aload_n 0, 1) := by decide +kernel
theorem dX3_init_13 : decode cX3_init 13 = .ok (.iconst 0, 1) := by decide +kernel
theorem dX3_init_14 : decode cX3_init 14 = .ok (.putfield 15, 3) := by decide +kernel
theorem dX3_init_17 : decode cX3_init 17 = .ok (.return_, 1) := by decide +kernel
theorem dX3_count_0 : decode cX3_count 0 = .ok (.aload_n 0, 1) := by decide +kernel
theorem dX3_count_1 : decode cX3_count 1 = .ok (.getfield 15, 3) := by decide +kernel
theorem dX3_count_4 : decode cX3_count 4 = .ok (.ireturn, 1) := by decide +kernel
theorem dX3_clear_0 : decode cX3_clear 0 = .ok (.aload_n 0, 1) := by decide +kernel
theorem dX3_clear_1 : decode cX3_clear 1 = .ok (.iconst 0, 1) := by decide +kernel
theorem dX3_clear_2 : decode cX3_clear 2 = .ok (.putfield 15, 3) := by decide +kernel
theorem dX3_clear_5 : decode cX3_clear 5 = .ok (.return_, 1) := by decide +kernel
theorem dX3_push_0 : decode cX3_push 0 = .ok (.aload_n 0, 1) := by decide +kernel
theorem dX3_push_1 : decode cX3_push 1 = .ok (.getfield 15, 3) := by decide +kernel
theorem dX3_push_4 : decode cX3_push 4 = .ok (.ifCond .lt 35, 3) := by decide +kernel
theorem dX3_push_7 : decode cX3_push 7 = .ok (.aload_n 0, 1) := by decide +kernel
theorem dX3_push_8 : decode cX3_push 8 = .ok (.getfield 15, 3) := by decide +kernel
theorem dX3_push_11 : decode cX3_push 11 = .ok (.aload_n 0, 1) := by decide +kernel
theorem dX3_push_12 : decode cX3_push 12 = .ok (.getfield 9, 3) := by decide +kernel
theorem dX3_push_15 : decode cX3_push 15 = .ok (.arraylength, 1) := by decide +kernel
theorem dX3_push_16 : decode cX3_push 16 = .ok (.if_icmp .ge 23, 3) := by decide +kernel
theorem dX3_push_19 : decode cX3_push 19 = .ok (.aload_n 0, 1) := by decide +kernel
theorem dX3_push_20 : decode cX3_push 20 = .ok (.getfield 9, 3) := by decide +kernel
theorem dX3_push_23 : decode cX3_push 23 = .ok (.aload_n 0, 1) := by decide +kernel
theorem dX3_push_24 : decode cX3_push 24 = .ok (.getfield 15, 3) := by decide +kernel
theorem dX3_push_27 : decode cX3_push 27 = .ok (.iload_n 1, 1) := by decide +kernel
theorem dX3_push_28 : decode cX3_push 28 = .ok (.iastore, 1) := by decide +kernel
theorem dX3_push_29 : decode cX3_push 29 = .ok (.aload_n 0, 1) := by decide +kernel
theorem dX3_push_30 : decode cX3_push 30 = .ok (.dup, 1) := by decide +kernel
theorem dX3_push_31 : decode cX3_push 31 = .ok (.getfield 15, 3) := by decide +kernel
theorem dX3_push_34 : decode cX3_push 34 = .ok (.iconst 1, 1) := by decide +kernel
theorem dX3_push_35 : decode cX3_push 35 = .ok (.iadd, 1) := by decide +kernel
theorem dX3_push_36 : decode cX3_push 36 = .ok (.putfield 15, 3) := by decide +kernel
theorem dX3_push_39 : decode cX3_push 39 = .ok (.return_, 1) := by decide +kernel
theorem dX3_top_0 : decode cX3_top 0 = .ok (.aload_n 0, 1) := by decide +kernel
theorem dX3_top_1 : decode cX3_top 1 = .ok (.getfield 15, 3) := by decide +kernel
theorem dX3_top_4 : decode cX3_top 4 = .ok (.ifCond .le 29, 3) := by decide +kernel
theorem dX3_top_7 : decode cX3_top 7 = .ok (.aload_n 0, 1) := by decide +kernel
theorem dX3_top_8 : decode cX3_top 8 = .ok (.getfield 15, 3) := by decide +kernel
theorem dX3_top_11 : decode cX3_top 11 = .ok (.aload_n 0, 1) := by decide +kernel
theorem dX3_top_12 : decode cX3_top 12 = .ok (.getfield 9, 3) := by decide +kernel
theorem dX3_top_15 : decode cX3_top 15 = .ok (.arraylength, 1) := by decide +kernel
theorem dX3_top_16 : decode cX3_top 16 = .ok (.if_icmp .gt 17, 3) := by decide +kernel
theorem dX3_top_19 : decode cX3_top 19 = .ok (.aload_n 0, 1) := by decide +kernel
theorem dX3_top_20 : decode cX3_top 20 = .ok (.getfield 9, 3) := by decide +kernel
theorem dX3_top_23 : decode cX3_top 23 = .ok (.aload_n 0, 1) := by decide +kernel
theorem dX3_top_24 : decode cX3_top 24 = .ok (.getfield 15, 3) := by decide +kernel
theorem dX3_top_27 : decode cX3_top 27 = .ok (.iconst 1, 1) := by decide +kernel
theorem dX3_top_28 : decode cX3_top 28 = .ok (.isub, 1) := by decide +kernel
theorem dX3_top_29 : decode cX3_top 29 = .ok (.iaload, 1) := by decide +kernel
theorem dX3_top_30 : decode cX3_top 30 = .ok (.goto 4, 3) := by decide +kernel
theorem dX3_top_33 : decode cX3_top 33 = .ok (.iconst (-1), 1) := by decide +kernel
theorem dX3_top_34 : decode cX3_top 34 = .ok (.ireturn, 1) := by decide +kernel
theorem dX3_pop_0 : decode cX3_pop 0 = .ok (.aload_n 0, 1) := by decide +kernel
theorem dX3_pop_1 : decode cX3_pop 1 = .ok (.getfield 15, 3) := by decide +kernel
theorem dX3_pop_4 : decode cX3_pop 4 = .ok (.ifCond .le 15, 3) := by decide +kernel
theorem dX3_pop_7 : decode cX3_pop 7 = .ok (.aload_n 0, 1) := by decide +kernel
theorem dX3_pop_8 : decode cX3_pop 8 = .ok (.getfield 15, 3) := by decide +kernel
theorem dX3_pop_11 : decode cX3_pop 11 = .ok (.aload_n 0, 1) := by decide +kernel
theorem dX3_pop_12 : decode cX3_pop 12 = .ok (.getfield 9, 3) := by decide +kernel
theorem dX3_pop_15 : decode cX3_pop 15 = .ok (.arraylength, 1) := by decide +kernel
theorem dX3_pop_16 : decode cX3_pop 16 = .ok (.if_icmp .le 5, 3) := by decide +kernel
theorem dX3_pop_19 : decode cX3_pop 19 = .ok (.iconst (-1), 1) := by decide +kernel
theorem dX3_pop_20 : decode cX3_pop 20 = .ok (.ireturn, 1) := by decide +kernel
theorem dX3_pop_21 : decode cX3_pop 21 = .ok (.aload_n 0, 1) := by decide +kernel
theorem dX3_pop_22 : decode cX3_pop 22 = .ok (.dup, 1) := by decide +kernel
theorem dX3_pop_23 : decode cX3_pop 23 = .ok (.getfield 15, 3) := by decide +kernel
theorem dX3_pop_26 : decode cX3_pop 26 = .ok (.iconst 1, 1) := by decide +kernel
theorem dX3_pop_27 : decode cX3_pop 27 = .ok (.isub, 1) := by decide +kernel
theorem dX3_pop_28 : decode cX3_pop 28 = .ok (.putfield 15, 3) := by decide +kernel
theorem dX3_pop_31 : decode cX3_pop 31 = .ok (.aload_n 0, 1) := by decide +kernel
theorem dX3_pop_32 : decode cX3_pop 32 = .ok (.getfield 9, 3) := by decide +kernel
theorem dX3_pop_35 : decode cX3_pop 35 = .ok (.aload_n 0, 1) := by decide +kernel
theorem dX3_pop_36 : decode cX3_pop 36 = .ok (.getfield 15, 3) := by decide +kernel
theorem dX3_pop_39 : decode cX3_pop 39 = .ok (.iaload, 1) := by decide +kernel
theorem dX3_pop_40 : decode cX3_pop 40 = .ok (.ireturn, 1) := by decide +kernel
set_option maxRecDepth 20000 in
theorem ggX4_init_X0_init : GoodIn wsX4_init wsX0_init := goodIn_r _ [12, 13, 2, 3, 14, 15, 16, 17, 18, 19, 20, 21, 22, 23, 24, 25, 26, 27, 28, 29, 30, 31, 32, 33, 34, 35, 36, 37, 38, 39, 40, 41, 42, 47, 48] rfl (by decide +kernel)
set_option maxRecDepth 20000 in
theorem gX4_init_X0_init_n11 : GoodIn wsX4_init (wsX0_init) := ggX4_init_X0_init
theorem dX4_init_0 : decode cX4_init 0 = .ok (.aload_n 0, 1) := by decide +kernel
theorem dX4_init_1 : decode cX4_init 1 = .ok (.invokespecial 3, 3) := by decide +kernel
theorem dX4_init_4 : decode cX4_init 4 = .ok (.aload_n 0, 1) := by decide +kernel
theorem dX4_init_5 : decode cX4_init 5 = .ok (.new 9, 3) := by decide +kernel
theorem dX4_init_8 : decode cX4_init 8 = .ok (.dup, 1) := by decide +kernel
theorem dX4_init_9 : decode cX4_init 9 = .ok (.invokespecial 11, 3) := by decide +kernel
theorem dX4_init_12 : decode cX4_init 12 = .ok (.putfield 12, 3) := by decide +kernel
theorem dX4_init_15 : decode cX4_init 15 = .ok (.aload_n 0, 1) := by decide +kernel
theorem dX4_init_16 : decode cX4_init 16 = .ok (.iconst 0, 1) := by decide +kernel
theorem dX4_init_17 : decode cX4_init 17 = .ok (.putfield 18, 3) := by decide +kernel
theorem dX4_init_20 : decode cX4_init 20 = .ok (.aload_n 0, 1) := by decide +kernel
theorem dX4_init_21 : decode cX4_init 21 = .ok (.iconst 0, 1) := by decide +kernel
theorem dX4_init_22 : decode cX4_init 22 = .ok (.putfield 22, 3) := by decide +kernel
theorem dX4_init_25 : decode cX4_init 25 = .ok (.aload_n 0, 1) := by decide +kernel
theorem dX4_init_26 : decode cX4_init 26 = .ok (.iconst (-1), 1) := by decide +kernel
theorem dX4_init_27 : decode cX4_init 27 = .ok (.putfield 25, 3) := by decide +kernel
theorem dX4_init_30 : decode cX4_init 30 = .ok (.return_, 1) := by decide +kernel
set_option maxRecDepth 20000 in
theorem ggX4_firstError_X0_clear : GoodIn wsX4_firstError wsX0_clear := goodIn_r _ [9, 10, 11, 12, 13, 14, 15, 16, 17, 18, 19, 150, 151, 152, 153, 154, 155, 156, 157, 158, 159, 160, 161] rfl (by decide +kernel)
set_option maxRecDepth 20000 in
theorem gX4_firstError_X0_clear : GoodIn wsX4_firstError (wsV RX4 28 RX0 yX0_clear wsX0_clear) := goodIn_app (goodIn_of _ (by decide +kernel)) ggX4_firstError_X0_clear
set_option maxRecDepth 20000 in
theorem ggX4_firstError_X9_length : GoodIn wsX4_firstError wsX9_length := goodIn_r _ [24, 25, 162, 163] rfl (by decide +kernel)
set_option maxRecDepth 20000 in
theorem gX4_firstError_X9_length : GoodIn wsX4_firstError (wsV RX4 31 RX9 yX9_length wsX9_length) := goodIn_app (goodIn_of _ (by decide +kernel)) ggX4_firstError_X9_length
set_option maxRecDepth 20000 in
theorem ggX4_firstError_X9_characterAt : GoodIn wsX4_firstError wsX9_characterAt := goodIn_r _ [29, 30, 162, 163] rfl (by decide +kernel)
set_option maxRecDepth 20000 in
theorem gX4_firstError_X9_characterAt : GoodIn wsX4_firstError (wsV RX4 37 RX9 yX9_characterAt wsX9_characterAt) := goodIn_app (goodIn_of _ (by decide +kernel)) ggX4_firstError_X9_characterAt
set_option maxRecDepth 20000 in
theorem ggX4_firstError_X4_takes : GoodIn wsX4_firstError wsX4_takes := goodIn_r _ [35, 2, 36, 37, 38, 34, 39, 1, 4, 3, 40, 41, 42, 43, 44, 45, 8, 46, 10, 47, 48, 49, 50, 51, 52, 53, 54, 55, 56, 57, 58, 59, 12, 60, 61, 62, 63, 64, 65, 66, 67, 68, 69, 70, 17, 71, 19, 72, 73, 74, 75, 76, 13, 77, 78, 79, 80, 81, 82, 83, 84, 85, 86, 87, 88, 89, 90, 91, 92, 93, 94, 95, 96, 97, 98, 99, 100, 101, 102, 103, 104, 105, 106, 107, 108, 109, 110, 111, 112, 113, 114, 115, 116, 117, 118, 119, 120, 121, 122, 123, 124, 125, 126, 127, 128, 129, 130, 11, 131, 132, 133, 134, 135, 136, 137, 138, 139, 140, 141, 146, 147, 148, 149, 150, 151, 152, 153, 154, 155, 156, 157, 158, 159, 160, 161] rfl (by decide +kernel)
set_option maxRecDepth 20000 in
theorem gX4_firstError_X4_takes : GoodIn wsX4_firstError (wsV RX4 41 RX4 yX4_takes wsX4_takes) := goodIn_app (goodIn_of _ (by decide +kernel)) ggX4_firstError_X4_takes
set_option maxRecDepth 20000 in
theorem ggX4_firstError_X0_finish : GoodIn wsX4_firstError wsX0_finish := goodIn_r _ [145, 131, 132, 133, 8, 134, 13, 12, 77, 78, 79, 17, 80, 19, 81, 82, 83, 84, 72, 135, 136, 137, 85, 86, 87, 88, 47, 48, 49, 50, 51, 10, 52, 53, 54, 55, 56, 57, 58, 59, 60, 61, 62, 63, 64, 65, 66, 67, 68, 69, 70, 71, 150, 151, 152, 153, 154, 155, 156, 157, 158, 159, 160, 161] rfl (by decide +kernel)
set_option maxRecDepth 20000 in
theorem gX4_firstError_X0_finish : GoodIn wsX4_firstError (wsV RX4 45 RX0 yX0_finish wsX0_finish) := goodIn_app (goodIn_of _ (by decide +kernel)) ggX4_firstError_X0_finish
theorem dX4_firstError_0 : decode cX4_firstError 0 = .ok (.aload_n 0, 1) := by decide +kernel
theorem dX4_firstError_1 : decode cX4_firstError 1 = .ok (.getfield 12, 3) := by decide +kernel
theorem dX4_firstError_4 : decode cX4_firstError 4 = .ok (.invokevirtual 28, 3) := by decide +kernel
theorem dX4_firstError_7 : decode cX4_firstError 7 = .ok (.aload_n 0, 1) := by decide +kernel
theorem dX4_firstError_8 : decode cX4_firstError 8 = .ok (.iconst 0, 1) := by decide +kernel
theorem dX4_firstError_9 : decode cX4_firstError 9 = .ok (.putfield 18, 3) := by decide +kernel
theorem dX4_firstError_12 : decode cX4_firstError 12 = .ok (.aload_n 0, 1) := by decide +kernel
theorem dX4_firstError_13 : decode cX4_firstError 13 = .ok (.iconst 0, 1) := by decide +kernel
theorem dX4_firstError_14 : decode cX4_firstError 14 = .ok (.putfield 22, 3) := by decide +kernel
theorem dX4_firstError_17 : decode cX4_firstError 17 = .ok (.aload_n 0, 1) := by decide +kernel
theorem dX4_firstError_18 : decode cX4_firstError 18 = .ok (.iconst (-1), 1) := by decide +kernel
theorem dX4_firstError_19 : decode cX4_firstError 19 = .ok (.putfield 25, 3) := by decide +kernel
theorem dX4_firstError_22 : decode cX4_firstError 22 = .ok (.iconst 0, 1) := by decide +kernel
theorem dX4_firstError_23 : decode cX4_firstError 23 = .ok (.istore_n 2, 1) := by decide +kernel
theorem dX4_firstError_24 : decode cX4_firstError 24 = .ok (.iload_n 2, 1) := by decide +kernel
theorem dX4_firstError_25 : decode cX4_firstError 25 = .ok (.aload_n 1, 1) := by decide +kernel
theorem dX4_firstError_26 : decode cX4_firstError 26 = .ok (.invokevirtual 31, 3) := by decide +kernel
theorem dX4_firstError_29 : decode cX4_firstError 29 = .ok (.if_icmp .ge 23, 3) := by decide +kernel
theorem dX4_firstError_32 : decode cX4_firstError 32 = .ok (.aload_n 0, 1) := by decide +kernel
theorem dX4_firstError_33 : decode cX4_firstError 33 = .ok (.aload_n 1, 1) := by decide +kernel
theorem dX4_firstError_34 : decode cX4_firstError 34 = .ok (.iload_n 2, 1) := by decide +kernel
theorem dX4_firstError_35 : decode cX4_firstError 35 = .ok (.invokevirtual 37, 3) := by decide +kernel
theorem dX4_firstError_38 : decode cX4_firstError 38 = .ok (.invokevirtual 41, 3) := by decide +kernel
theorem dX4_firstError_41 : decode cX4_firstError 41 = .ok (.ifCond .ne 5, 3) := by decide +kernel
theorem dX4_firstError_44 : decode cX4_firstError 44 = .ok (.iload_n 2, 1) := by decide +kernel
theorem dX4_firstError_45 : decode cX4_firstError 45 = .ok (.ireturn, 1) := by decide +kernel
theorem dX4_firstError_46 : decode cX4_firstError 46 = .ok (.iinc 2 1, 3) := by decide +kernel
theorem dX4_firstError_49 : decode cX4_firstError 49 = .ok (.goto (-25), 3) := by decide +kernel
theorem dX4_firstError_52 : decode cX4_firstError 52 = .ok (.aload_n 0, 1) := by decide +kernel
theorem dX4_firstError_53 : decode cX4_firstError 53 = .ok (.getfield 22, 3) := by decide +kernel
theorem dX4_firstError_56 : decode cX4_firstError 56 = .ok (.ifCond .gt 19, 3) := by decide +kernel
theorem dX4_firstError_59 : decode cX4_firstError 59 = .ok (.aload_n 0, 1) := by decide +kernel
theorem dX4_firstError_60 : decode cX4_firstError 60 = .ok (.getfield 18, 3) := by decide +kernel
theorem dX4_firstError_63 : decode cX4_firstError 63 = .ok (.iconst 3, 1) := by decide +kernel
theorem dX4_firstError_64 : decode cX4_firstError 64 = .ok (.if_icmp .eq 16, 3) := by decide +kernel
theorem dX4_firstError_67 : decode cX4_firstError 67 = .ok (.aload_n 0, 1) := by decide +kernel
theorem dX4_firstError_68 : decode cX4_firstError 68 = .ok (.getfield 18, 3) := by decide +kernel
theorem dX4_firstError_71 : decode cX4_firstError 71 = .ok (.iconst 4, 1) := by decide +kernel
theorem dX4_firstError_72 : decode cX4_firstError 72 = .ok (.if_icmp .eq 8, 3) := by decide +kernel
theorem dX4_firstError_75 : decode cX4_firstError 75 = .ok (.aload_n 1, 1) := by decide +kernel
theorem dX4_firstError_76 : decode cX4_firstError 76 = .ok (.invokevirtual 31, 3) := by decide +kernel
theorem dX4_firstError_79 : decode cX4_firstError 79 = .ok (.ireturn, 1) := by decide +kernel
theorem dX4_firstError_80 : decode cX4_firstError 80 = .ok (.aload_n 0, 1) := by decide +kernel
theorem dX4_firstError_81 : decode cX4_firstError 81 = .ok (.getfield 12, 3) := by decide +kernel
theorem dX4_firstError_84 : decode cX4_firstError 84 = .ok (.invokevirtual 45, 3) := by decide +kernel
theorem dX4_firstError_87 : decode cX4_firstError 87 = .ok (.iconst (-1), 1) := by decide +kernel
theorem dX4_firstError_88 : decode cX4_firstError 88 = .ok (.ireturn, 1) := by decide +kernel
set_option maxRecDepth 20000 in
theorem ggX4_leastDefinable_X0_leastDefinable : GoodIn wsX4_leastDefinable wsX0_leastDefinable := goodIn_r _ [6, 7, 12, 13, 14, 15, 16, 17, 18, 19, 20, 21] rfl (by decide +kernel)
set_option maxRecDepth 20000 in
theorem gX4_leastDefinable_X0_leastDefinable : GoodIn wsX4_leastDefinable (wsV RX4 48 RX0 yX0_leastDefinable wsX0_leastDefinable) := goodIn_app (goodIn_of _ (by decide +kernel)) ggX4_leastDefinable_X0_leastDefinable
theorem dX4_leastDefinable_0 : decode cX4_leastDefinable 0 = .ok (.aload_n 0, 1) := by decide +kernel
theorem dX4_leastDefinable_1 : decode cX4_leastDefinable 1 = .ok (.getfield 12, 3) := by decide +kernel
theorem dX4_leastDefinable_4 : decode cX4_leastDefinable 4 = .ok (.invokevirtual 48, 3) := by decide +kernel
theorem dX4_leastDefinable_7 : decode cX4_leastDefinable 7 = .ok (.ireturn, 1) := by decide +kernel
set_option maxRecDepth 20000 in
theorem ggX4_toExpression_X0_toExpression : GoodIn wsX4_toExpression wsX0_toExpression := goodIn_r _ [6, 7, 8, 9, 10, 11, 12, 13, 14, 15, 16, 17, 18, 19, 5, 20, 21, 22, 23, 24, 25, 26, 27, 28, 29, 30, 31, 32, 33, 34, 35, 36, 37, 38, 39, 40, 41, 42, 43, 44, 45, 46, 47, 48, 49, 50, 51, 52, 53, 54, 55, 56, 57, 58, 59, 60, 61, 62, 63, 64, 65, 66, 67, 68, 69, 70, 71, 72, 73, 78, 79, 80, 81, 82, 83, 84, 85, 86, 87, 88, 89, 90, 91, 92, 93, 94] rfl (by decide +kernel)
set_option maxRecDepth 20000 in
theorem gX4_toExpression_X0_toExpression : GoodIn wsX4_toExpression (wsV RX4 51 RX0 yX0_toExpression wsX0_toExpression) := goodIn_app (goodIn_of _ (by decide +kernel)) ggX4_toExpression_X0_toExpression
theorem dX4_toExpression_0 : decode cX4_toExpression 0 = .ok (.aload_n 0, 1) := by decide +kernel
theorem dX4_toExpression_1 : decode cX4_toExpression 1 = .ok (.getfield 12, 3) := by decide +kernel
theorem dX4_toExpression_4 : decode cX4_toExpression 4 = .ok (.invokevirtual 51, 3) := by decide +kernel
theorem dX4_toExpression_7 : decode cX4_toExpression 7 = .ok (.areturn, 1) := by decide +kernel
set_option maxRecDepth 20000 in
theorem ggX4_takes_X4_takesAtom : GoodIn wsX4_takes wsX4_takesAtom := goodIn_r _ [6, 7, 8, 1, 9, 10, 11, 5, 12, 13, 14, 15, 16, 17, 18, 19, 20, 21, 22, 23, 24, 25, 26, 27, 28, 29, 30, 31, 32, 33, 34, 35, 36, 37, 38, 39, 40, 41, 42, 43, 44, 45, 46, 47, 48, 49, 50, 51, 52, 53, 54, 55, 56, 57, 58, 59, 60, 61, 62, 63, 64, 65, 66, 67, 68, 69, 70, 71, 72, 73, 74, 119, 120, 121, 122, 123, 124, 125, 126, 127, 128, 129, 130, 131, 132, 133, 134] rfl (by decide +kernel)
set_option maxRecDepth 20000 in
theorem gX4_takes_X4_takesAtom : GoodIn wsX4_takes (wsV RX4 55 RX4 yX4_takesAtom wsX4_takesAtom) := goodIn_app (goodIn_of _ (by decide +kernel)) ggX4_takes_X4_takesAtom
set_option maxRecDepth 20000 in
theorem ggX4_takes_X4_takesOpening : GoodIn wsX4_takes wsX4_takesOpening := goodIn_r _ [78, 9, 1, 119, 120, 121, 122] rfl (by decide +kernel)
set_option maxRecDepth 20000 in
theorem gX4_takes_X4_takesOpening : GoodIn wsX4_takes (wsV RX4 58 RX4 yX4_takesOpening wsX4_takesOpening) := goodIn_app (goodIn_of _ (by decide +kernel)) ggX4_takes_X4_takesOpening
set_option maxRecDepth 20000 in
theorem ggX4_takes_X4_takesExponent : GoodIn wsX4_takes wsX4_takesExponent := goodIn_r _ [82, 7, 1, 10, 11, 5, 12, 83, 84, 85, 16, 86, 32, 61, 62, 63, 44, 64, 46, 47, 19, 20, 21, 22, 23, 18, 24, 25, 26, 27, 28, 29, 30, 31, 33, 34, 35, 36, 37, 38, 39, 40, 41, 42, 43, 45, 119, 120, 121, 122, 123, 124, 125, 126, 127, 128, 129, 130, 131, 132, 133, 134] rfl (by decide +kernel)
set_option maxRecDepth 20000 in
theorem gX4_takes_X4_takesExponent : GoodIn wsX4_takes (wsV RX4 61 RX4 yX4_takesExponent wsX4_takesExponent) := goodIn_app (goodIn_of _ (by decide +kernel)) ggX4_takes_X4_takesExponent
set_option maxRecDepth 20000 in
theorem ggX4_takes_X4_takesBehind : GoodIn wsX4_takes wsX4_takesBehind := goodIn_r _ [90, 8, 1, 9, 7, 10, 11, 5, 12, 91, 92, 93, 94, 95, 96, 97, 16, 98, 24, 39, 37, 40, 99, 100, 101, 102, 36, 38, 103, 104, 105, 106, 52, 32, 107, 28, 29, 30, 31, 108, 109, 110, 111, 53, 54, 55, 44, 56, 46, 57, 58, 59, 60, 47, 112, 113, 114, 61, 62, 63, 64, 19, 20, 21, 22, 23, 18, 25, 26, 27, 33, 34, 35, 41, 42, 43, 45, 73, 74, 48, 49, 50, 51, 115, 116, 117, 118, 119, 120, 121, 122, 123, 124, 125, 126, 127, 128, 129, 130, 131, 132, 133, 134] rfl (by decide +kernel)
set_option maxRecDepth 20000 in
theorem gX4_takes_X4_takesBehind : GoodIn wsX4_takes (wsV RX4 64 RX4 yX4_takesBehind wsX4_takesBehind) := goodIn_app (goodIn_of _ (by decide +kernel)) ggX4_takes_X4_takesBehind
theorem dX4_takes_0 : decode cX4_takes 0 = .ok (.aload_n 0, 1) := by decide +kernel
theorem dX4_takes_1 : decode cX4_takes 1 = .ok (.getfield 18, 3) := by decide +kernel
theorem dX4_takes_4 : decode cX4_takes 4 = .ok (.tableswitch 46 0 2 #[28, 34, 40], 28) := by decide +kernel
theorem dX4_takes_32 : decode cX4_takes 32 = .ok (.aload_n 0, 1) := by decide +kernel
theorem dX4_takes_33 : decode cX4_takes 33 = .ok (.iload_n 1, 1) := by decide +kernel
theorem dX4_takes_34 : decode cX4_takes 34 = .ok (.invokevirtual 55, 3) := by decide +kernel
theorem dX4_takes_37 : decode cX4_takes 37 = .ok (.ireturn, 1) := by decide +kernel
theorem dX4_takes_38 : decode cX4_takes 38 = .ok (.aload_n 0, 1) := by decide +kernel
theorem dX4_takes_39 : decode cX4_takes 39 = .ok (.iload_n 1, 1) := by decide +kernel
theorem dX4_takes_40 : decode cX4_takes 40 = .ok (.invokevirtual 58, 3) := by decide +kernel
theorem dX4_takes_43 : decode cX4_takes 43 = .ok (.ireturn, 1) := by decide +kernel
theorem dX4_takes_44 : decode cX4_takes 44 = .ok (.aload_n 0, 1) := by decide +kernel
theorem dX4_takes_45 : decode cX4_takes 45 = .ok (.iload_n 1, 1) := by decide +kernel
theorem dX4_takes_46 : decode cX4_takes 46 = .ok (.invokevirtual 61, 3) := by decide +kernel
theorem dX4_takes_49 : decode cX4_takes 49 = .ok (.ireturn, 1) := by decide +kernel
theorem dX4_takes_50 : decode cX4_takes 50 = .ok (.aload_n 0, 1) := by decide +kernel
theorem dX4_takes_51 : decode cX4_takes 51 = .ok (.iload_n 1, 1) := by decide +kernel
theorem dX4_takes_52 : decode cX4_takes 52 = .ok (.invokevirtual 64, 3) := by decide +kernel
theorem dX4_takes_55 : decode cX4_takes 55 = .ok (.ireturn, 1) := by decide +kernel
set_option maxRecDepth 20000 in
theorem ggX4_takesAtom_X4_isDigit : GoodIn wsX4_takesAtom wsX4_isDigit := goodIn_r _ [8] rfl (by decide +kernel)
set_option maxRecDepth 20000 in
theorem gX4_takesAtom_X4_isDigit : GoodIn wsX4_takesAtom (va_wsS RX4 67 yX4_isDigit wsX4_isDigit) := goodIn_app (goodIn_of _ (by decide +kernel)) ggX4_takesAtom_X4_isDigit
set_option maxRecDepth 20000 in
theorem ggX4_takesAtom_X0_addNumber : GoodIn wsX4_takesAtom wsX0_addNumber := goodIn_r _ [13, 14, 15, 16, 17, 12, 18, 19, 20, 21, 22, 23, 24, 25, 26, 27, 28, 29, 30, 31, 32, 33, 34, 35, 36, 37, 38, 39, 40, 41, 42, 43, 44, 45, 46, 47, 48, 49, 50, 51, 52, 53, 54, 55, 56, 57, 58, 59, 60, 75, 76, 77, 78, 79, 80, 81, 82, 83, 84, 85, 86] rfl (by decide +kernel)
set_option maxRecDepth 20000 in
theorem gX4_takesAtom_X0_addNumber : GoodIn wsX4_takesAtom (wsV RX4 70 RX0 yX0_addNumber wsX0_addNumber) := goodIn_app (goodIn_of _ (by decide +kernel)) ggX4_takesAtom_X0_addNumber
set_option maxRecDepth 20000 in
theorem ggX4_takesAtom_X0_addX : GoodIn wsX4_takesAtom wsX0_addX := goodIn_r _ [64, 15, 16, 17, 12, 18, 19, 14, 20, 21, 22, 23, 24, 25, 26, 27, 28, 29, 30, 31, 32, 33, 34, 35, 36, 37, 38, 39, 40, 41, 42, 43, 44, 45, 46, 47, 48, 49, 50, 51, 52, 53, 54, 55, 56, 57, 58, 59, 60, 75, 76, 77, 78, 79, 80, 81, 82, 83, 84, 85, 86] rfl (by decide +kernel)
set_option maxRecDepth 20000 in
theorem gX4_takesAtom_X0_addX : GoodIn wsX4_takesAtom (wsV RX4 74 RX0 yX0_addX wsX0_addX) := goodIn_app (goodIn_of _ (by decide +kernel)) ggX4_takesAtom_X0_addX
set_option maxRecDepth 20000 in
theorem ggX4_takesAtom_X0_await : GoodIn wsX4_takesAtom wsX0_await := goodIn_r _ [68, 48, 37, 38, 39, 40, 41, 42, 43, 75, 76, 77, 78, 79, 80, 81, 82, 83, 84, 85, 86] rfl (by decide +kernel)
set_option maxRecDepth 20000 in
theorem gX4_takesAtom_X0_await : GoodIn wsX4_takesAtom (wsV RX4 77 RX0 yX0_await wsX0_await) := goodIn_app (goodIn_of _ (by decide +kernel)) ggX4_takesAtom_X0_await
set_option maxRecDepth 20000 in
theorem ggX4_takesAtom_X10_functionOf : GoodIn wsX4_takesAtom wsX10_functionOf := goodIn_r _ [70] rfl (by decide +kernel)
set_option maxRecDepth 20000 in
theorem gX4_takesAtom_X10_functionOf_n81 : GoodIn wsX4_takesAtom (wsX10_functionOf) := ggX4_takesAtom_X10_functionOf
theorem dX4_takesAtom_0 : decode cX4_takesAtom 0 = .ok (.iload_n 1, 1) := by decide +kernel
theorem dX4_takesAtom_1 : decode cX4_takesAtom 1 = .ok (.invokestatic 67, 3) := by decide +kernel
theorem dX4_takesAtom_4 : decode cX4_takesAtom 4 = .ok (.ifCond .eq 26, 3) := by decide +kernel
theorem dX4_takesAtom_7 : decode cX4_takesAtom 7 = .ok (.aload_n 0, 1) := by decide +kernel
theorem dX4_takesAtom_8 : decode cX4_takesAtom 8 = .ok (.aload_n 0, 1) := by decide +kernel
theorem dX4_takesAtom_9 : decode cX4_takesAtom 9 = .ok (.getfield 12, 3) := by decide +kernel
theorem dX4_takesAtom_12 : decode cX4_takesAtom 12 = .ok (.iload_n 1, 1) := by decide +kernel
theorem dX4_takesAtom_13 : decode cX4_takesAtom 13 = .ok (.bipush 48, 2) := by decide +kernel
theorem dX4_takesAtom_15 : decode cX4_takesAtom 15 = .ok (.isub, 1) := by decide +kernel
theorem dX4_takesAtom_16 : decode cX4_takesAtom 16 = .ok (.invokevirtual 70, 3) := by decide +kernel
theorem dX4_takesAtom_19 : decode cX4_takesAtom 19 = .ok (.putfield 25, 3) := by decide +kernel
theorem dX4_takesAtom_22 : decode cX4_takesAtom 22 = .ok (.aload_n 0, 1) := by decide +kernel
theorem dX4_takesAtom_23 : decode cX4_takesAtom 23 = .ok (.iconst 3, 1) := by decide +kernel
theorem dX4_takesAtom_24 : decode cX4_takesAtom 24 = .ok (.putfield 18, 3) := by decide +kernel
theorem dX4_takesAtom_27 : decode cX4_takesAtom 27 = .ok (.goto 95, 3) := by decide +kernel
theorem dX4_takesAtom_30 : decode cX4_takesAtom 30 = .ok (.iload_n 1, 1) := by decide +kernel
theorem dX4_takesAtom_31 : decode cX4_takesAtom 31 = .ok (.bipush 120, 2) := by decide +kernel
theorem dX4_takesAtom_33 : decode cX4_takesAtom 33 = .ok (.if_icmp .ne 18, 3) := by decide +kernel
theorem dX4_takesAtom_36 : decode cX4_takesAtom 36 = .ok (.aload_n 0, 1) := by decide +kernel
theorem dX4_takesAtom_37 : decode cX4_takesAtom 37 = .ok (.getfield 12, 3) := by decide +kernel
theorem dX4_takesAtom_40 : decode cX4_takesAtom 40 = .ok (.invokevirtual 74, 3) := by decide +kernel
theorem dX4_takesAtom_43 : decode cX4_takesAtom 43 = .ok (.aload_n 0, 1) := by decide +kernel
theorem dX4_takesAtom_44 : decode cX4_takesAtom 44 = .ok (.iconst 3, 1) := by decide +kernel
theorem dX4_takesAtom_45 : decode cX4_takesAtom 45 = .ok (.putfield 18, 3) := by decide +kernel
theorem dX4_takesAtom_48 : decode cX4_takesAtom 48 = .ok (.goto 74, 3) := by decide +kernel
theorem dX4_takesAtom_51 : decode cX4_takesAtom 51 = .ok (.iload_n 1, 1) := by decide +kernel
theorem dX4_takesAtom_52 : decode cX4_takesAtom 52 = .ok (.bipush 45, 2) := by decide +kernel
theorem dX4_takesAtom_54 : decode cX4_takesAtom 54 = .ok (.if_icmp .ne 15, 3) := by decide +kernel
theorem dX4_takesAtom_57 : decode cX4_takesAtom 57 = .ok (.aload_n 0, 1) := by decide +kernel
theorem dX4_takesAtom_58 : decode cX4_takesAtom 58 = .ok (.getfield 12, 3) := by decide +kernel
theorem dX4_takesAtom_61 : decode cX4_takesAtom 61 = .ok (.bipush 110, 2) := by decide +kernel
theorem dX4_takesAtom_63 : decode cX4_takesAtom 63 = .ok (.invokevirtual 77, 3) := by decide +kernel
theorem dX4_takesAtom_66 : decode cX4_takesAtom 66 = .ok (.goto 56, 3) := by decide +kernel
theorem dX4_takesAtom_69 : decode cX4_takesAtom 69 = .ok (.iload_n 1, 1) := by decide +kernel
theorem dX4_takesAtom_70 : decode cX4_takesAtom 70 = .ok (.bipush 40, 2) := by decide +kernel
theorem dX4_takesAtom_72 : decode cX4_takesAtom 72 = .ok (.if_icmp .ne 24, 3) := by decide +kernel
theorem dX4_takesAtom_75 : decode cX4_takesAtom 75 = .ok (.aload_n 0, 1) := by decide +kernel
theorem dX4_takesAtom_76 : decode cX4_takesAtom 76 = .ok (.getfield 12, 3) := by decide +kernel
theorem dX4_takesAtom_79 : decode cX4_takesAtom 79 = .ok (.iload_n 1, 1) := by decide +kernel
theorem dX4_takesAtom_80 : decode cX4_takesAtom 80 = .ok (.invokevirtual 77, 3) := by decide +kernel
theorem dX4_takesAtom_83 : decode cX4_takesAtom 83 = .ok (.aload_n 0, 1) := by decide +kernel
theorem dX4_takesAtom_84 : decode cX4_takesAtom 84 = .ok (.dup, 1) := by decide +kernel
theorem dX4_takesAtom_85 : decode cX4_takesAtom 85 = .ok (.getfield 22, 3) := by decide +kernel
theorem dX4_takesAtom_88 : decode cX4_takesAtom 88 = .ok (.iconst 1, 1) := by decide +kernel
theorem dX4_takesAtom_89 : decode cX4_takesAtom 89 = .ok (.iadd, 1) := by decide +kernel
theorem dX4_takesAtom_90 : decode cX4_takesAtom 90 = .ok (.putfield 22, 3) := by decide +kernel
theorem dX4_takesAtom_93 : decode cX4_takesAtom 93 = .ok (.goto 29, 3) := by decide +kernel
theorem dX4_takesAtom_96 : decode cX4_takesAtom 96 = .ok (.iload_n 1, 1) := by decide +kernel
theorem dX4_takesAtom_97 : decode cX4_takesAtom 97 = .ok (.invokestatic 81, 3) := by decide +kernel
theorem dX4_takesAtom_100 : decode cX4_takesAtom 100 = .ok (.iconst (-1), 1) := by decide +kernel
theorem dX4_takesAtom_101 : decode cX4_takesAtom 101 = .ok (.if_icmp .eq 19, 3) := by decide +kernel
theorem dX4_takesAtom_104 : decode cX4_takesAtom 104 = .ok (.aload_n 0, 1) := by decide +kernel
theorem dX4_takesAtom_105 : decode cX4_takesAtom 105 = .ok (.getfield 12, 3) := by decide +kernel
theorem dX4_takesAtom_108 : decode cX4_takesAtom 108 = .ok (.iload_n 1, 1) := by decide +kernel
theorem dX4_takesAtom_109 : decode cX4_takesAtom 109 = .ok (.invokevirtual 77, 3) := by decide +kernel
theorem dX4_takesAtom_112 : decode cX4_takesAtom 112 = .ok (.aload_n 0, 1) := by decide +kernel
theorem dX4_takesAtom_113 : decode cX4_takesAtom 113 = .ok (.iconst 1, 1) := by decide +kernel
theorem dX4_takesAtom_114 : decode cX4_takesAtom 114 = .ok (.putfield 18, 3) := by decide +kernel
theorem dX4_takesAtom_117 : decode cX4_takesAtom 117 = .ok (.goto 5, 3) := by decide +kernel
theorem dX4_takesAtom_120 : decode cX4_takesAtom 120 = .ok (.iconst 0, 1) := by decide +kernel
theorem dX4_takesAtom_121 : decode cX4_takesAtom 121 = .ok (.ireturn, 1) := by decide +kernel
theorem dX4_takesAtom_122 : decode cX4_takesAtom 122 = .ok (.iconst 1, 1) := by decide +kernel
theorem dX4_takesAtom_123 : decode cX4_takesAtom 123 = .ok (.ireturn, 1) := by decide +kernel
theorem dX4_takesOpening_0 : decode cX4_takesOpening 0 = .ok (.iload_n 1, 1) := by decide +kernel
theorem dX4_takesOpening_1 : decode cX4_takesOpening 1 = .ok (.bipush 40, 2) := by decide +kernel
theorem dX4_takesOpening_3 : decode cX4_takesOpening 3 = .ok (.if_icmp .eq 5, 3) := by decide +kernel
theorem dX4_takesOpening_6 : decode cX4_takesOpening 6 = .ok (.iconst 0, 1) := by decide +kernel
theorem dX4_takesOpening_7 : decode cX4_takesOpening 7 = .ok (.ireturn, 1) := by decide +kernel
theorem dX4_takesOpening_8 : decode cX4_takesOpening 8 = .ok (.aload_n 0, 1) := by decide +kernel
theorem dX4_takesOpening_9 : decode cX4_takesOpening 9 = .ok (.dup, 1) := by decide +kernel
theorem dX4_takesOpening_10 : decode cX4_takesOpening 10 = .ok (.getfield 22, 3) := by decide +kernel
theorem dX4_takesOpening_13 : decode cX4_takesOpening 13 = .ok (.iconst 1, 1) := by decide +kernel
theorem dX4_takesOpening_14 : decode cX4_takesOpening 14 = .ok (.iadd, 1) := by decide +kernel
theorem dX4_takesOpening_15 : decode cX4_takesOpening 15 = .ok (.putfield 22, 3) := by decide +kernel
theorem dX4_takesOpening_18 : decode cX4_takesOpening 18 = .ok (.aload_n 0, 1) := by decide +kernel
theorem dX4_takesOpening_19 : decode cX4_takesOpening 19 = .ok (.iconst 0, 1) := by decide +kernel
theorem dX4_takesOpening_20 : decode cX4_takesOpening 20 = .ok (.putfield 18, 3) := by decide +kernel
theorem dX4_takesOpening_23 : decode cX4_takesOpening 23 = .ok (.iconst 1, 1) := by decide +kernel
theorem dX4_takesOpening_24 : decode cX4_takesOpening 24 = .ok (.ireturn, 1) := by decide +kernel
set_option maxRecDepth 20000 in
theorem ggX4_takesExponent_X4_isDigit : GoodIn wsX4_takesExponent wsX4_isDigit := goodIn_r _ [6] rfl (by decide +kernel)
set_option maxRecDepth 20000 in
theorem gX4_takesExponent_X4_isDigit : GoodIn wsX4_takesExponent (va_wsS RX4 67 yX4_isDigit wsX4_isDigit) := goodIn_app (goodIn_of _ (by decide +kernel)) ggX4_takesExponent_X4_isDigit
set_option maxRecDepth 20000 in
theorem ggX4_takesExponent_X0_addPower : GoodIn wsX4_takesExponent wsX0_addPower := goodIn_r _ [11, 12, 13, 14, 15, 16, 17, 18, 19, 20, 21, 22, 10, 23, 24, 25, 26, 27, 28, 29, 30, 31, 32, 33, 34, 35, 36, 37, 38, 39, 40, 41, 42, 43, 44, 45, 50, 51, 52, 53, 54, 55, 56, 57, 58, 59, 60, 61] rfl (by decide +kernel)
set_option maxRecDepth 20000 in
theorem gX4_takesExponent_X0_addPower : GoodIn wsX4_takesExponent (wsV RX4 84 RX0 yX0_addPower wsX0_addPower) := goodIn_app (goodIn_of _ (by decide +kernel)) ggX4_takesExponent_X0_addPower
theorem dX4_takesExponent_0 : decode cX4_takesExponent 0 = .ok (.iload_n 1, 1) := by decide +kernel
theorem dX4_takesExponent_1 : decode cX4_takesExponent 1 = .ok (.invokestatic 67, 3) := by decide +kernel
theorem dX4_takesExponent_4 : decode cX4_takesExponent 4 = .ok (.ifCond .ne 5, 3) := by decide +kernel
theorem dX4_takesExponent_7 : decode cX4_takesExponent 7 = .ok (.iconst 0, 1) := by decide +kernel
theorem dX4_takesExponent_8 : decode cX4_takesExponent 8 = .ok (.ireturn, 1) := by decide +kernel
theorem dX4_takesExponent_9 : decode cX4_takesExponent 9 = .ok (.aload_n 0, 1) := by decide +kernel
theorem dX4_takesExponent_10 : decode cX4_takesExponent 10 = .ok (.getfield 12, 3) := by decide +kernel
theorem dX4_takesExponent_13 : decode cX4_takesExponent 13 = .ok (.iload_n 1, 1) := by decide +kernel
theorem dX4_takesExponent_14 : decode cX4_takesExponent 14 = .ok (.bipush 48, 2) := by decide +kernel
theorem dX4_takesExponent_16 : decode cX4_takesExponent 16 = .ok (.isub, 1) := by decide +kernel
theorem dX4_takesExponent_17 : decode cX4_takesExponent 17 = .ok (.invokevirtual 84, 3) := by decide +kernel
theorem dX4_takesExponent_20 : decode cX4_takesExponent 20 = .ok (.aload_n 0, 1) := by decide +kernel
theorem dX4_takesExponent_21 : decode cX4_takesExponent 21 = .ok (.iconst 4, 1) := by decide +kernel
theorem dX4_takesExponent_22 : decode cX4_takesExponent 22 = .ok (.putfield 18, 3) := by decide +kernel
theorem dX4_takesExponent_25 : decode cX4_takesExponent 25 = .ok (.iconst 1, 1) := by decide +kernel
theorem dX4_takesExponent_26 : decode cX4_takesExponent 26 = .ok (.ireturn, 1) := by decide +kernel
set_option maxRecDepth 20000 in
theorem ggX4_takesBehind_X4_isDigit : GoodIn wsX4_takesBehind wsX4_isDigit := goodIn_r _ [8] rfl (by decide +kernel)
set_option maxRecDepth 20000 in
theorem gX4_takesBehind_X4_isDigit : GoodIn wsX4_takesBehind (va_wsS RX4 67 yX4_isDigit wsX4_isDigit) := goodIn_app (goodIn_of _ (by decide +kernel)) ggX4_takesBehind_X4_isDigit
set_option maxRecDepth 20000 in
theorem ggX4_takesBehind_X4_takesFurtherDigit : GoodIn wsX4_takesBehind wsX4_takesFurtherDigit := goodIn_r _ [12, 1, 4, 13, 14, 15, 16, 17, 18, 19, 20, 21, 22, 23, 24, 25, 26, 27, 87, 88, 89, 90, 91, 92, 93, 94, 95, 96, 97, 98, 99, 100] rfl (by decide +kernel)
set_option maxRecDepth 20000 in
theorem gX4_takesBehind_X4_takesFurtherDigit : GoodIn wsX4_takesBehind (wsV RX4 87 RX4 yX4_takesFurtherDigit wsX4_takesFurtherDigit) := goodIn_app (goodIn_of _ (by decide +kernel)) ggX4_takesBehind_X4_takesFurtherDigit
set_option maxRecDepth 20000 in
theorem ggX4_takesBehind_X0_close : GoodIn wsX4_takesBehind wsX0_close := goodIn_r _ [31, 32, 33, 34, 35, 36, 37, 38, 39, 40, 41, 16, 42, 43, 44, 45, 46, 47, 48, 49, 50, 51, 52, 53, 54, 55, 56, 57, 58, 59, 60, 61, 62, 63, 64, 65, 66, 18, 67, 68, 69, 70, 71, 72, 26, 20, 27, 19, 21, 73, 74, 75, 76, 77, 78, 79, 80, 81, 82, 91, 92, 93, 94, 95, 96, 97, 98, 99, 100, 101, 102] rfl (by decide +kernel)
set_option maxRecDepth 20000 in
theorem gX4_takesBehind_X0_close : GoodIn wsX4_takesBehind (wsV RX4 90 RX0 yX0_close wsX0_close) := goodIn_app (goodIn_of _ (by decide +kernel)) ggX4_takesBehind_X0_close
set_option maxRecDepth 20000 in
theorem ggX4_takesBehind_X0_addSign : GoodIn wsX4_takesBehind wsX0_addSign := goodIn_r _ [86, 32, 54, 55, 16, 56, 39, 40, 41, 42, 33, 43, 44, 45, 46, 47, 48, 49, 50, 51, 52, 53, 57, 58, 59, 60, 61, 62, 63, 64, 65, 66, 18, 67, 68, 69, 35, 36, 37, 38, 70, 71, 72, 26, 20, 27, 19, 21, 73, 74, 75, 76, 91, 92, 93, 94, 95, 96, 97, 98, 99, 100, 101, 102] rfl (by decide +kernel)
set_option maxRecDepth 20000 in
theorem gX4_takesBehind_X0_addSign : GoodIn wsX4_takesBehind (wsV RX4 93 RX0 yX0_addSign wsX0_addSign) := goodIn_app (goodIn_of _ (by decide +kernel)) ggX4_takesBehind_X0_addSign
theorem dX4_takesBehind_0 : decode cX4_takesBehind 0 = .ok (.iload_n 1, 1) := by decide +kernel
theorem dX4_takesBehind_1 : decode cX4_takesBehind 1 = .ok (.invokestatic 67, 3) := by decide +kernel
theorem dX4_takesBehind_4 : decode cX4_takesBehind 4 = .ok (.ifCond .eq 9, 3) := by decide +kernel
theorem dX4_takesBehind_7 : decode cX4_takesBehind 7 = .ok (.aload_n 0, 1) := by decide +kernel
theorem dX4_takesBehind_8 : decode cX4_takesBehind 8 = .ok (.iload_n 1, 1) := by decide +kernel
theorem dX4_takesBehind_9 : decode cX4_takesBehind 9 = .ok (.invokevirtual 87, 3) := by decide +kernel
theorem dX4_takesBehind_12 : decode cX4_takesBehind 12 = .ok (.ireturn, 1) := by decide +kernel
theorem dX4_takesBehind_13 : decode cX4_takesBehind 13 = .ok (.aload_n 0, 1) := by decide +kernel
theorem dX4_takesBehind_14 : decode cX4_takesBehind 14 = .ok (.iconst (-1), 1) := by decide +kernel
theorem dX4_takesBehind_15 : decode cX4_takesBehind 15 = .ok (.putfield 25, 3) := by decide +kernel
theorem dX4_takesBehind_18 : decode cX4_takesBehind 18 = .ok (.iload_n 1, 1) := by decide +kernel
theorem dX4_takesBehind_19 : decode cX4_takesBehind 19 = .ok (.bipush 94, 2) := by decide +kernel
theorem dX4_takesBehind_21 : decode cX4_takesBehind 21 = .ok (.if_icmp .ne 19, 3) := by decide +kernel
theorem dX4_takesBehind_24 : decode cX4_takesBehind 24 = .ok (.aload_n 0, 1) := by decide +kernel
theorem dX4_takesBehind_25 : decode cX4_takesBehind 25 = .ok (.getfield 18, 3) := by decide +kernel
theorem dX4_takesBehind_28 : decode cX4_takesBehind 28 = .ok (.iconst 3, 1) := by decide +kernel
theorem dX4_takesBehind_29 : decode cX4_takesBehind 29 = .ok (.if_icmp .ne 11, 3) := by decide +kernel
theorem dX4_takesBehind_32 : decode cX4_takesBehind 32 = .ok (.aload_n 0, 1) := by decide +kernel
theorem dX4_takesBehind_33 : decode cX4_takesBehind 33 = .ok (.iconst 2, 1) := by decide +kernel
theorem dX4_takesBehind_34 : decode cX4_takesBehind 34 = .ok (.putfield 18, 3) := by decide +kernel
theorem dX4_takesBehind_37 : decode cX4_takesBehind 37 = .ok (.goto 83, 3) := by decide +kernel
theorem dX4_takesBehind_40 : decode cX4_takesBehind 40 = .ok (.iload_n 1, 1) := by decide +kernel
theorem dX4_takesBehind_41 : decode cX4_takesBehind 41 = .ok (.bipush 41, 2) := by decide +kernel
theorem dX4_takesBehind_43 : decode cX4_takesBehind 43 = .ok (.if_icmp .ne 35, 3) := by decide +kernel
theorem dX4_takesBehind_46 : decode cX4_takesBehind 46 = .ok (.aload_n 0, 1) := by decide +kernel
theorem dX4_takesBehind_47 : decode cX4_takesBehind 47 = .ok (.getfield 22, 3) := by decide +kernel
theorem dX4_takesBehind_50 : decode cX4_takesBehind 50 = .ok (.ifCond .le 28, 3) := by decide +kernel
theorem dX4_takesBehind_53 : decode cX4_takesBehind 53 = .ok (.aload_n 0, 1) := by decide +kernel
theorem dX4_takesBehind_54 : decode cX4_takesBehind 54 = .ok (.getfield 12, 3) := by decide +kernel
theorem dX4_takesBehind_57 : decode cX4_takesBehind 57 = .ok (.invokevirtual 90, 3) := by decide +kernel
theorem dX4_takesBehind_60 : decode cX4_takesBehind 60 = .ok (.aload_n 0, 1) := by decide +kernel
theorem dX4_takesBehind_61 : decode cX4_takesBehind 61 = .ok (.dup, 1) := by decide +kernel
theorem dX4_takesBehind_62 : decode cX4_takesBehind 62 = .ok (.getfield 22, 3) := by decide +kernel
theorem dX4_takesBehind_65 : decode cX4_takesBehind 65 = .ok (.iconst 1, 1) := by decide +kernel
theorem dX4_takesBehind_66 : decode cX4_takesBehind 66 = .ok (.isub, 1) := by decide +kernel
theorem dX4_takesBehind_67 : decode cX4_takesBehind 67 = .ok (.putfield 22, 3) := by decide +kernel
theorem dX4_takesBehind_70 : decode cX4_takesBehind 70 = .ok (.aload_n 0, 1) := by decide +kernel
theorem dX4_takesBehind_71 : decode cX4_takesBehind 71 = .ok (.iconst 3, 1) := by decide +kernel
theorem dX4_takesBehind_72 : decode cX4_takesBehind 72 = .ok (.putfield 18, 3) := by decide +kernel
theorem dX4_takesBehind_75 : decode cX4_takesBehind 75 = .ok (.goto 45, 3) := by decide +kernel
theorem dX4_takesBehind_78 : decode cX4_takesBehind 78 = .ok (.iload_n 1, 1) := by decide +kernel
theorem dX4_takesBehind_79 : decode cX4_takesBehind 79 = .ok (.bipush 43, 2) := by decide +kernel
theorem dX4_takesBehind_81 : decode cX4_takesBehind 81 = .ok (.if_icmp .eq 21, 3) := by decide +kernel
theorem dX4_takesBehind_84 : decode cX4_takesBehind 84 = .ok (.iload_n 1, 1) := by decide +kernel
theorem dX4_takesBehind_85 : decode cX4_takesBehind 85 = .ok (.bipush 45, 2) := by decide +kernel
theorem dX4_takesBehind_87 : decode cX4_takesBehind 87 = .ok (.if_icmp .eq 15, 3) := by decide +kernel
theorem dX4_takesBehind_90 : decode cX4_takesBehind 90 = .ok (.iload_n 1, 1) := by decide +kernel
theorem dX4_takesBehind_91 : decode cX4_takesBehind 91 = .ok (.bipush 42, 2) := by decide +kernel
theorem dX4_takesBehind_93 : decode cX4_takesBehind 93 = .ok (.if_icmp .eq 9, 3) := by decide +kernel
theorem dX4_takesBehind_96 : decode cX4_takesBehind 96 = .ok (.iload_n 1, 1) := by decide +kernel
theorem dX4_takesBehind_97 : decode cX4_takesBehind 97 = .ok (.bipush 47, 2) := by decide +kernel
theorem dX4_takesBehind_99 : decode cX4_takesBehind 99 = .ok (.if_icmp .ne 19, 3) := by decide +kernel
theorem dX4_takesBehind_102 : decode cX4_takesBehind 102 = .ok (.aload_n 0, 1) := by decide +kernel
theorem dX4_takesBehind_103 : decode cX4_takesBehind 103 = .ok (.getfield 12, 3) := by decide +kernel
theorem dX4_takesBehind_106 : decode cX4_takesBehind 106 = .ok (.iload_n 1, 1) := by decide +kernel
theorem dX4_takesBehind_107 : decode cX4_takesBehind 107 = .ok (.invokevirtual 93, 3) := by decide +kernel
theorem dX4_takesBehind_110 : decode cX4_takesBehind 110 = .ok (.aload_n 0, 1) := by decide +kernel
theorem dX4_takesBehind_111 : decode cX4_takesBehind 111 = .ok (.iconst 0, 1) := by decide +kernel
theorem dX4_takesBehind_112 : decode cX4_takesBehind 112 = .ok (.putfield 18, 3) := by decide +kernel
theorem dX4_takesBehind_115 : decode cX4_takesBehind 115 = .ok (.goto 5, 3) := by decide +kernel
theorem dX4_takesBehind_118 : decode cX4_takesBehind 118 = .ok (.iconst 0, 1) := by decide +kernel
theorem dX4_takesBehind_119 : decode cX4_takesBehind 119 = .ok (.ireturn, 1) := by decide +kernel
theorem dX4_takesBehind_120 : decode cX4_takesBehind 120 = .ok (.iconst 1, 1) := by decide +kernel
theorem dX4_takesBehind_121 : decode cX4_takesBehind 121 = .ok (.ireturn, 1) := by decide +kernel
set_option maxRecDepth 20000 in
theorem ggX4_takesFurtherDigit_X0_numberOf : GoodIn wsX4_takesFurtherDigit wsX0_numberOf := goodIn_r _ [7, 8, 9, 10, 11, 22, 23, 24, 25, 26, 27, 28, 29, 30, 31] rfl (by decide +kernel)
set_option maxRecDepth 20000 in
theorem gX4_takesFurtherDigit_X0_numberOf : GoodIn wsX4_takesFurtherDigit (wsV RX4 96 RX0 yX0_numberOf wsX0_numberOf) := goodIn_app (goodIn_of _ (by decide +kernel)) ggX4_takesFurtherDigit_X0_numberOf
set_option maxRecDepth 20000 in
theorem ggX4_takesFurtherDigit_X0_addDigit : GoodIn wsX4_takesFurtherDigit wsX0_addDigit := goodIn_r _ [15, 8, 9, 10, 11, 16, 17, 22, 23, 24, 25, 26, 27, 28, 29, 30, 31] rfl (by decide +kernel)
set_option maxRecDepth 20000 in
theorem gX4_takesFurtherDigit_X0_addDigit : GoodIn wsX4_takesFurtherDigit (wsV RX4 99 RX0 yX0_addDigit wsX0_addDigit) := goodIn_app (goodIn_of _ (by decide +kernel)) ggX4_takesFurtherDigit_X0_addDigit
theorem dX4_takesFurtherDigit_0 : decode cX4_takesFurtherDigit 0 = .ok (.aload_n 0, 1) := by decide +kernel
theorem dX4_takesFurtherDigit_1 : decode cX4_takesFurtherDigit 1 = .ok (.getfield 25, 3) := by decide +kernel
theorem dX4_takesFurtherDigit_4 : decode cX4_takesFurtherDigit 4 = .ok (.iconst (-1), 1) := by decide +kernel
theorem dX4_takesFurtherDigit_5 : decode cX4_takesFurtherDigit 5 = .ok (.if_icmp .ne 7, 3) := by decide +kernel
theorem dX4_takesFurtherDigit_8 : decode cX4_takesFurtherDigit 8 = .ok (.iconst 0, 1) := by decide +kernel
theorem dX4_takesFurtherDigit_9 : decode cX4_takesFurtherDigit 9 = .ok (.goto 14, 3) := by decide +kernel
theorem dX4_takesFurtherDigit_12 : decode cX4_takesFurtherDigit 12 = .ok (.aload_n 0, 1) := by decide +kernel
theorem dX4_takesFurtherDigit_13 : decode cX4_takesFurtherDigit 13 = .ok (.getfield 12, 3) := by decide +kernel
theorem dX4_takesFurtherDigit_16 : decode cX4_takesFurtherDigit 16 = .ok (.aload_n 0, 1) := by decide +kernel
theorem dX4_takesFurtherDigit_17 : decode cX4_takesFurtherDigit 17 = .ok (.getfield 25, 3) := by decide +kernel
theorem dX4_takesFurtherDigit_20 : decode cX4_takesFurtherDigit 20 = .ok (.invokevirtual 96, 3) := by decide +kernel
theorem dX4_takesFurtherDigit_23 : decode cX4_takesFurtherDigit 23 = .ok (.istore_n 2, 1) := by decide +kernel
theorem dX4_takesFurtherDigit_24 : decode cX4_takesFurtherDigit 24 = .ok (.iload_n 2, 1) := by decide +kernel
theorem dX4_takesFurtherDigit_25 : decode cX4_takesFurtherDigit 25 = .ok (.iconst 1, 1) := by decide +kernel
theorem dX4_takesFurtherDigit_26 : decode cX4_takesFurtherDigit 26 = .ok (.if_icmp .lt 9, 3) := by decide +kernel
theorem dX4_takesFurtherDigit_29 : decode cX4_takesFurtherDigit 29 = .ok (.iload_n 2, 1) := by decide +kernel
theorem dX4_takesFurtherDigit_30 : decode cX4_takesFurtherDigit 30 = .ok (.bipush 99, 2) := by decide +kernel
theorem dX4_takesFurtherDigit_32 : decode cX4_takesFurtherDigit 32 = .ok (.if_icmp .le 5, 3) := by decide +kernel
theorem dX4_takesFurtherDigit_35 : decode cX4_takesFurtherDigit 35 = .ok (.iconst 0, 1) := by decide +kernel
theorem dX4_takesFurtherDigit_36 : decode cX4_takesFurtherDigit 36 = .ok (.ireturn, 1) := by decide +kernel
theorem dX4_takesFurtherDigit_37 : decode cX4_takesFurtherDigit 37 = .ok (.aload_n 0, 1) := by decide +kernel
theorem dX4_takesFurtherDigit_38 : decode cX4_takesFurtherDigit 38 = .ok (.getfield 12, 3) := by decide +kernel
theorem dX4_takesFurtherDigit_41 : decode cX4_takesFurtherDigit 41 = .ok (.aload_n 0, 1) := by decide +kernel
theorem dX4_takesFurtherDigit_42 : decode cX4_takesFurtherDigit 42 = .ok (.getfield 25, 3) := by decide +kernel
theorem dX4_takesFurtherDigit_45 : decode cX4_takesFurtherDigit 45 = .ok (.iload_n 1, 1) := by decide +kernel
theorem dX4_takesFurtherDigit_46 : decode cX4_takesFurtherDigit 46 = .ok (.bipush 48, 2) := by decide +kernel
theorem dX4_takesFurtherDigit_48 : decode cX4_takesFurtherDigit 48 = .ok (.isub, 1) := by decide +kernel
theorem dX4_takesFurtherDigit_49 : decode cX4_takesFurtherDigit 49 = .ok (.invokevirtual 99, 3) := by decide +kernel
theorem dX4_takesFurtherDigit_52 : decode cX4_takesFurtherDigit 52 = .ok (.iconst 1, 1) := by decide +kernel
theorem dX4_takesFurtherDigit_53 : decode cX4_takesFurtherDigit 53 = .ok (.ireturn, 1) := by decide +kernel
theorem dX4_isDigit_0 : decode cX4_isDigit 0 = .ok (.iload_n 0, 1) := by decide +kernel
theorem dX4_isDigit_1 : decode cX4_isDigit 1 = .ok (.bipush 48, 2) := by decide +kernel
theorem dX4_isDigit_3 : decode cX4_isDigit 3 = .ok (.if_icmp .lt 13, 3) := by decide +kernel
theorem dX4_isDigit_6 : decode cX4_isDigit 6 = .ok (.iload_n 0, 1) := by decide +kernel
theorem dX4_isDigit_7 : decode cX4_isDigit 7 = .ok (.bipush 57, 2) := by decide +kernel
theorem dX4_isDigit_9 : decode cX4_isDigit 9 = .ok (.if_icmp .gt 7, 3) := by decide +kernel
theorem dX4_isDigit_12 : decode cX4_isDigit 12 = .ok (.iconst 1, 1) := by decide +kernel
theorem dX4_isDigit_13 : decode cX4_isDigit 13 = .ok (.goto 4, 3) := by decide +kernel
theorem dX4_isDigit_16 : decode cX4_isDigit 16 = .ok (.iconst 0, 1) := by decide +kernel
theorem dX4_isDigit_17 : decode cX4_isDigit 17 = .ok (.ireturn, 1) := by decide +kernel
set_option maxRecDepth 20000 in
theorem ggX5_init_X8_init : GoodIn wsX5_init wsX8_init := goodIn_r _ [16, 17, 2, 3, 18, 19, 20, 21, 22, 23, 24, 25, 26, 27, 81, 82] rfl (by decide +kernel)
set_option maxRecDepth 20000 in
theorem gX5_init_X8_init : GoodIn wsX5_init (wsX8_init) := ggX5_init_X8_init
set_option maxRecDepth 20000 in
theorem ggX5_init_X7_first : GoodIn wsX5_init wsX7_first := goodIn_r _ [31, 32, 33, 30, 34, 35, 36, 37, 38, 39, 40, 41, 42, 26, 43, 44, 45, 46, 2, 3, 47, 48, 49, 50, 51, 52, 53, 54, 55, 56, 57, 58, 59, 60, 61, 62, 63, 64, 65, 66, 67, 90, 91, 92, 93, 94, 95, 96, 97, 98, 99, 100, 101, 102] rfl (by decide +kernel)
set_option maxRecDepth 20000 in
theorem gX5_init_X7_first : GoodIn wsX5_init (va_wsS RX5 35 yX7_first wsX7_first) := goodIn_app (goodIn_of _ (by decide +kernel)) ggX5_init_X7_first
set_option maxRecDepth 20000 in
theorem ggX5_init_X5_forget : GoodIn wsX5_init wsX5_forget := goodIn_r _ [72, 7, 8, 9, 73, 74, 75, 6, 76, 27, 77, 78, 79, 80, 83, 84, 85, 86, 87, 88, 89, 81, 82] rfl (by decide +kernel)
set_option maxRecDepth 20000 in
theorem gX5_init_X5_forget : GoodIn wsX5_init (wsV RX5 45 RX5 yX5_forget wsX5_forget) := goodIn_app (goodIn_of _ (by decide +kernel)) ggX5_init_X5_forget
theorem dX5_init_0 : decode cX5_init 0 = .ok (.aload_n 0, 1) := by decide +kernel
theorem dX5_init_1 : decode cX5_init 1 = .ok (.invokespecial 3, 3) := by decide +kernel
theorem dX5_init_4 : decode cX5_init 4 = .ok (.aload_n 0, 1) := by decide +kernel
theorem dX5_init_5 : decode cX5_init 5 = .ok (.new 9, 3) := by decide +kernel
theorem dX5_init_8 : decode cX5_init 8 = .ok (.dup, 1) := by decide +kernel
theorem dX5_init_9 : decode cX5_init 9 = .ok (.sipush 199, 3) := by decide +kernel
theorem dX5_init_12 : decode cX5_init 12 = .ok (.invokespecial 11, 3) := by decide +kernel
theorem dX5_init_15 : decode cX5_init 15 = .ok (.putfield 14, 3) := by decide +kernel
theorem dX5_init_18 : decode cX5_init 18 = .ok (.aload_n 0, 1) := by decide +kernel
theorem dX5_init_19 : decode cX5_init 19 = .ok (.new 9, 3) := by decide +kernel
theorem dX5_init_22 : decode cX5_init 22 = .ok (.dup, 1) := by decide +kernel
theorem dX5_init_23 : decode cX5_init 23 = .ok (.sipush 199, 3) := by decide +kernel
theorem dX5_init_26 : decode cX5_init 26 = .ok (.invokespecial 11, 3) := by decide +kernel
theorem dX5_init_29 : decode cX5_init 29 = .ok (.putfield 20, 3) := by decide +kernel
theorem dX5_init_32 : decode cX5_init 32 = .ok (.aload_n 0, 1) := by decide +kernel
theorem dX5_init_33 : decode cX5_init 33 = .ok (.new 9, 3) := by decide +kernel
theorem dX5_init_36 : decode cX5_init 36 = .ok (.dup, 1) := by decide +kernel
theorem dX5_init_37 : decode cX5_init 37 = .ok (.sipush 199, 3) := by decide +kernel
theorem dX5_init_40 : decode cX5_init 40 = .ok (.invokespecial 11, 3) := by decide +kernel
theorem dX5_init_43 : decode cX5_init 43 = .ok (.putfield 23, 3) := by decide +kernel
theorem dX5_init_46 : decode cX5_init 46 = .ok (.aload_n 0, 1) := by decide +kernel
theorem dX5_init_47 : decode cX5_init 47 = .ok (.new 9, 3) := by decide +kernel
theorem dX5_init_50 : decode cX5_init 50 = .ok (.dup, 1) := by decide +kernel
theorem dX5_init_51 : decode cX5_init 51 = .ok (.bipush 40, 2) := by decide +kernel
theorem dX5_init_53 : decode cX5_init 53 = .ok (.invokespecial 11, 3) := by decide +kernel
theorem dX5_init_56 : decode cX5_init 56 = .ok (.putfield 26, 3) := by decide +kernel
theorem dX5_init_59 : decode cX5_init 59 = .ok (.aload_n 0, 1) := by decide +kernel
theorem dX5_init_60 : decode cX5_init 60 = .ok (.new 9, 3) := by decide +kernel
theorem dX5_init_63 : decode cX5_init 63 = .ok (.dup, 1) := by decide +kernel
theorem dX5_init_64 : decode cX5_init 64 = .ok (.bipush 40, 2) := by decide +kernel
theorem dX5_init_66 : decode cX5_init 66 = .ok (.invokespecial 11, 3) := by decide +kernel
theorem dX5_init_69 : decode cX5_init 69 = .ok (.putfield 29, 3) := by decide +kernel
theorem dX5_init_72 : decode cX5_init 72 = .ok (.aload_n 0, 1) := by decide +kernel
theorem dX5_init_73 : decode cX5_init 73 = .ok (.new 9, 3) := by decide +kernel
theorem dX5_init_76 : decode cX5_init 76 = .ok (.dup, 1) := by decide +kernel
theorem dX5_init_77 : decode cX5_init 77 = .ok (.bipush 40, 2) := by decide +kernel
theorem dX5_init_79 : decode cX5_init 79 = .ok (.invokespecial 11, 3) := by decide +kernel
theorem dX5_init_82 : decode cX5_init 82 = .ok (.putfield 32, 3) := by decide +kernel
theorem dX5_init_85 : decode cX5_init 85 = .ok (.aload_n 0, 1) := by decide +kernel
theorem dX5_init_86 : decode cX5_init 86 = .ok (.invokestatic 35, 3) := by decide +kernel
theorem dX5_init_89 : decode cX5_init 89 = .ok (.putfield 41, 3) := by decide +kernel
theorem dX5_init_92 : decode cX5_init 92 = .ok (.aload_n 0, 1) := by decide +kernel
theorem dX5_init_93 : decode cX5_init 93 = .ok (.invokevirtual 45, 3) := by decide +kernel
theorem dX5_init_96 : decode cX5_init 96 = .ok (.return_, 1) := by decide +kernel
theorem dX5_state_0 : decode cX5_state 0 = .ok (.aload_n 0, 1) := by decide +kernel
theorem dX5_state_1 : decode cX5_state 1 = .ok (.getfield 41, 3) := by decide +kernel
theorem dX5_state_4 : decode cX5_state 4 = .ok (.areturn, 1) := by decide +kernel
set_option maxRecDepth 20000 in
theorem ggX5_moveTo_X5_forget : GoodIn wsX5_moveTo wsX5_forget := goodIn_r _ [6, 7, 8, 9, 10, 11, 12, 13, 14, 15, 16, 17, 18, 19, 20, 21, 22, 23, 24, 25, 26, 27, 28] rfl (by decide +kernel)
set_option maxRecDepth 20000 in
theorem gX5_moveTo_X5_forget : GoodIn wsX5_moveTo (wsV RX5 45 RX5 yX5_forget wsX5_forget) := goodIn_app (goodIn_of _ (by decide +kernel)) ggX5_moveTo_X5_forget
theorem dX5_moveTo_0 : decode cX5_moveTo 0 = .ok (.aload_n 0, 1) := by decide +kernel
theorem dX5_moveTo_1 : decode cX5_moveTo 1 = .ok (.aload_n 1, 1) := by decide +kernel
theorem dX5_moveTo_2 : decode cX5_moveTo 2 = .ok (.putfield 41, 3) := by decide +kernel
theorem dX5_moveTo_5 : decode cX5_moveTo 5 = .ok (.aload_n 0, 1) := by decide +kernel
theorem dX5_moveTo_6 : decode cX5_moveTo 6 = .ok (.invokevirtual 45, 3) := by decide +kernel
theorem dX5_moveTo_9 : decode cX5_moveTo 9 = .ok (.return_, 1) := by decide +kernel
set_option maxRecDepth 20000 in
theorem ggX5_forget_X8_fill : GoodIn wsX5_forget wsX8_fill := goodIn_r _ [8, 9, 10, 11, 12, 13, 21, 22] rfl (by decide +kernel)
set_option maxRecDepth 20000 in
theorem gX5_forget_X8_fill : GoodIn wsX5_forget (wsV RX5 48 RX8 yX8_fill wsX8_fill) := goodIn_app (goodIn_of _ (by decide +kernel)) ggX5_forget_X8_fill
theorem dX5_forget_0 : decode cX5_forget 0 = .ok (.aload_n 0, 1) := by decide +kernel
theorem dX5_forget_1 : decode cX5_forget 1 = .ok (.getfield 14, 3) := by decide +kernel
theorem dX5_forget_4 : decode cX5_forget 4 = .ok (.bipush (-2), 2) := by decide +kernel
theorem dX5_forget_6 : decode cX5_forget 6 = .ok (.invokevirtual 48, 3) := by decide +kernel
theorem dX5_forget_9 : decode cX5_forget 9 = .ok (.aload_n 0, 1) := by decide +kernel
theorem dX5_forget_10 : decode cX5_forget 10 = .ok (.getfield 20, 3) := by decide +kernel
theorem dX5_forget_13 : decode cX5_forget 13 = .ok (.bipush (-2), 2) := by decide +kernel
theorem dX5_forget_15 : decode cX5_forget 15 = .ok (.invokevirtual 48, 3) := by decide +kernel
theorem dX5_forget_18 : decode cX5_forget 18 = .ok (.aload_n 0, 1) := by decide +kernel
theorem dX5_forget_19 : decode cX5_forget 19 = .ok (.getfield 23, 3) := by decide +kernel
theorem dX5_forget_22 : decode cX5_forget 22 = .ok (.bipush (-2), 2) := by decide +kernel
theorem dX5_forget_24 : decode cX5_forget 24 = .ok (.invokevirtual 48, 3) := by decide +kernel
theorem dX5_forget_27 : decode cX5_forget 27 = .ok (.return_, 1) := by decide +kernel
theorem dX5_mayUse_0 : decode cX5_mayUse 0 = .ok (.iload_n 1, 1) := by decide +kernel
theorem dX5_mayUse_1 : decode cX5_mayUse 1 = .ok (.ifCond .lt 12, 3) := by decide +kernel
theorem dX5_mayUse_4 : decode cX5_mayUse 4 = .ok (.iload_n 1, 1) := by decide +kernel
theorem dX5_mayUse_5 : decode cX5_mayUse 5 = .ok (.iload_n 0, 1) := by decide +kernel
theorem dX5_mayUse_6 : decode cX5_mayUse 6 = .ok (.if_icmp .ge 7, 3) := by decide +kernel
theorem dX5_mayUse_9 : decode cX5_mayUse 9 = .ok (.iconst 1, 1) := by decide +kernel
theorem dX5_mayUse_10 : decode cX5_mayUse 10 = .ok (.goto 4, 3) := by decide +kernel
theorem dX5_mayUse_13 : decode cX5_mayUse 13 = .ok (.iconst 0, 1) := by decide +kernel
theorem dX5_mayUse_14 : decode cX5_mayUse 14 = .ok (.ireturn, 1) := by decide +kernel
set_option maxRecDepth 20000 in
theorem ggX5_value_X8_get : GoodIn wsX5_value wsX8_get := goodIn_r _ [6, 7, 8, 9, 10, 11, 125, 126] rfl (by decide +kernel)
set_option maxRecDepth 20000 in
theorem gX5_value_X8_get : GoodIn wsX5_value (wsV RX5 51 RX8 yX8_get wsX8_get) := goodIn_app (goodIn_of _ (by decide +kernel)) ggX5_value_X8_get
set_option maxRecDepth 20000 in
theorem ggX5_value_X5_reckonValues : GoodIn wsX5_value wsX5_reckonValues := goodIn_r _ [22, 23, 24, 25, 26, 27, 28, 29, 30, 31, 32, 33, 34, 35, 36, 37, 38, 39, 40, 41, 42, 43, 9, 10, 11, 44, 45, 46, 15, 47, 48, 49, 50, 51, 52, 53, 54, 55, 56, 57, 58, 59, 60, 2, 3, 4, 5, 6, 7, 8, 61, 62, 63, 64, 65, 66, 67, 68, 69, 70, 71, 72, 73, 74, 75, 76, 77, 78, 79, 80, 81, 82, 83, 84, 85, 86, 87, 88, 89, 90, 91, 92, 93, 94, 95, 96, 97, 98, 16, 17, 18, 19, 20, 21, 0, 1, 12, 13, 14, 99, 100, 101, 102, 103, 104, 105, 106, 107, 108, 109, 110, 111, 112, 113, 114, 115, 116, 117, 118, 119, 120, 121, 122, 123, 124, 125, 126, 127] rfl (by decide +kernel)
set_option maxRecDepth 20000 in
theorem gX5_value_X5_reckonValues : GoodIn wsX5_value (wsV RX5 55 RX5 yX5_reckonValues wsX5_reckonValues) := goodIn_app (goodIn_of _ (by decide +kernel)) ggX5_value_X5_reckonValues
set_option maxRecDepth 20000 in
theorem ggX5_value_X8_set : GoodIn wsX5_value wsX8_set := goodIn_r _ [19, 7, 8, 20, 10, 21, 125, 126] rfl (by decide +kernel)
set_option maxRecDepth 20000 in
theorem gX5_value_X8_set : GoodIn wsX5_value (wsV RX5 58 RX8 yX8_set wsX8_set) := goodIn_app (goodIn_of _ (by decide +kernel)) ggX5_value_X8_set
theorem dX5_value_0 : decode cX5_value 0 = .ok (.aload_n 0, 1) := by decide +kernel
theorem dX5_value_1 : decode cX5_value 1 = .ok (.getfield 14, 3) := by decide +kernel
theorem dX5_value_4 : decode cX5_value 4 = .ok (.iload_n 1, 1) := by decide +kernel
theorem dX5_value_5 : decode cX5_value 5 = .ok (.iload_n 2, 1) := by decide +kernel
theorem dX5_value_6 : decode cX5_value 6 = .ok (.invokevirtual 51, 3) := by decide +kernel
theorem dX5_value_9 : decode cX5_value 9 = .ok (.istore_n 3, 1) := by decide +kernel
theorem dX5_value_10 : decode cX5_value 10 = .ok (.iload_n 3, 1) := by decide +kernel
theorem dX5_value_11 : decode cX5_value 11 = .ok (.bipush (-2), 2) := by decide +kernel
theorem dX5_value_13 : decode cX5_value 13 = .ok (.if_icmp .eq 5, 3) := by decide +kernel
theorem dX5_value_16 : decode cX5_value 16 = .ok (.iload_n 3, 1) := by decide +kernel
theorem dX5_value_17 : decode cX5_value 17 = .ok (.ireturn, 1) := by decide +kernel
theorem dX5_value_18 : decode cX5_value 18 = .ok (.aload_n 0, 1) := by decide +kernel
theorem dX5_value_19 : decode cX5_value 19 = .ok (.iload_n 1, 1) := by decide +kernel
theorem dX5_value_20 : decode cX5_value 20 = .ok (.iload_n 2, 1) := by decide +kernel
theorem dX5_value_21 : decode cX5_value 21 = .ok (.invokevirtual 55, 3) := by decide +kernel
theorem dX5_value_24 : decode cX5_value 24 = .ok (.istore 4, 2) := by decide +kernel
theorem dX5_value_26 : decode cX5_value 26 = .ok (.aload_n 0, 1) := by decide +kernel
theorem dX5_value_27 : decode cX5_value 27 = .ok (.getfield 14, 3) := by decide +kernel
theorem dX5_value_30 : decode cX5_value 30 = .ok (.iload_n 1, 1) := by decide +kernel
theorem dX5_value_31 : decode cX5_value 31 = .ok (.iload_n 2, 1) := by decide +kernel
theorem dX5_value_32 : decode cX5_value 32 = .ok (.iload 4, 2) := by decide +kernel
theorem dX5_value_34 : decode cX5_value 34 = .ok (.invokevirtual 58, 3) := by decide +kernel
theorem dX5_value_37 : decode cX5_value 37 = .ok (.iload 4, 2) := by decide +kernel
theorem dX5_value_39 : decode cX5_value 39 = .ok (.ireturn, 1) := by decide +kernel
set_option maxRecDepth 20000 in
theorem ggX5_reckonValues_X7_expressionOf : GoodIn wsX5_reckonValues wsX7_expressionOf := goodIn_r _ [7, 8, 9, 10, 11, 113, 114, 115, 116, 117] rfl (by decide +kernel)
set_option maxRecDepth 20000 in
theorem gX5_reckonValues_X7_expressionOf : GoodIn wsX5_reckonValues (wsV RX5 62 RX7 yX7_expressionOf wsX7_expressionOf) := goodIn_app (goodIn_of _ (by decide +kernel)) ggX5_reckonValues_X7_expressionOf
set_option maxRecDepth 20000 in
theorem ggX5_reckonValues_X1_size : GoodIn wsX5_reckonValues wsX1_size := goodIn_r _ [16, 17, 118, 119, 120, 121, 122, 123, 124] rfl (by decide +kernel)
set_option maxRecDepth 20000 in
theorem gX5_reckonValues_X1_size : GoodIn wsX5_reckonValues (wsV RX5 66 RX1 yX1_size wsX1_size) := goodIn_app (goodIn_of _ (by decide +kernel)) ggX5_reckonValues_X1_size
set_option maxRecDepth 20000 in
theorem ggX5_reckonValues_X1_kind : GoodIn wsX5_reckonValues wsX1_kind := goodIn_r _ [21, 17, 22, 23, 24, 118, 119, 120, 121, 122, 123, 124] rfl (by decide +kernel)
set_option maxRecDepth 20000 in
theorem gX5_reckonValues_X1_kind : GoodIn wsX5_reckonValues (wsV RX5 72 RX1 yX1_kind wsX1_kind) := goodIn_app (goodIn_of _ (by decide +kernel)) ggX5_reckonValues_X1_kind
set_option maxRecDepth 20000 in
theorem ggX5_reckonValues_X5_valueOfCall : GoodIn wsX5_reckonValues wsX5_valueOfCall := goodIn_r _ [99, 1, 2, 3, 4, 5, 6, 7, 8, 9, 10, 11, 55, 56, 57, 15, 58, 59, 22, 23, 24, 38, 39, 40, 41, 42, 43, 44, 45, 46, 47, 48, 49, 100, 101, 28, 102, 103, 104, 105, 0, 12, 13, 14, 16, 17, 18, 19, 20, 21, 25, 26, 27, 29, 30, 31, 32, 33, 34, 35, 36, 37, 50, 51, 52, 53, 54, 60, 61, 62, 63, 64, 65, 66, 67, 68, 69, 70, 71, 72, 73, 74, 75, 76, 77, 78, 79, 80, 81, 82, 83, 84, 85, 86, 87, 88, 89, 90, 91, 92, 93, 94, 95, 96, 97, 98, 106, 107, 108, 109, 110, 111, 112, 113, 114, 115, 116, 117, 118, 119, 120, 121, 122, 123, 124, 125, 126, 127] rfl (by decide +kernel)
set_option maxRecDepth 20000 in
theorem gX5_reckonValues_X5_valueOfCall : GoodIn wsX5_reckonValues (wsV RX5 76 RX5 yX5_valueOfCall wsX5_valueOfCall) := goodIn_app (goodIn_of _ (by decide +kernel)) ggX5_reckonValues_X5_valueOfCall
set_option maxRecDepth 20000 in
theorem ggX5_reckonValues_X5_valueOfNode : GoodIn wsX5_reckonValues wsX5_valueOfNode := goodIn_r _ [32, 1, 2, 3, 4, 5, 6, 7, 8, 9, 10, 11, 33, 34, 35, 36, 37, 38, 39, 40, 15, 41, 42, 43, 44, 45, 46, 47, 48, 49, 22, 23, 24, 50, 51, 52, 53, 54, 18, 19, 20, 21, 17, 55, 56, 57, 58, 59, 60, 61, 62, 63, 64, 65, 66, 67, 68, 69, 70, 71, 72, 73, 74, 75, 76, 77, 78, 79, 80, 81, 82, 83, 84, 85, 86, 87, 106, 107, 108, 109, 110, 111, 112, 113, 114, 115, 116, 117, 118, 119, 120, 121, 122, 123, 124, 125, 126, 127] rfl (by decide +kernel)
set_option maxRecDepth 20000 in
theorem gX5_reckonValues_X5_valueOfNode : GoodIn wsX5_reckonValues (wsV RX5 79 RX5 yX5_valueOfNode wsX5_valueOfNode) := goodIn_app (goodIn_of _ (by decide +kernel)) ggX5_reckonValues_X5_valueOfNode
set_option maxRecDepth 20000 in
theorem ggX5_reckonValues_X8_set : GoodIn wsX5_reckonValues wsX8_set := goodIn_r _ [91, 48, 49, 92, 23, 93, 125, 126] rfl (by decide +kernel)
set_option maxRecDepth 20000 in
theorem gX5_reckonValues_X8_set : GoodIn wsX5_reckonValues (wsV RX5 58 RX8 yX8_set wsX8_set) := goodIn_app (goodIn_of _ (by decide +kernel)) ggX5_reckonValues_X8_set
theorem dX5_reckonValues_0 : decode cX5_reckonValues 0 = .ok (.aload_n 0, 1) := by decide +kernel
theorem dX5_reckonValues_1 : decode cX5_reckonValues 1 = .ok (.getfield 41, 3) := by decide +kernel
theorem dX5_reckonValues_4 : decode cX5_reckonValues 4 = .ok (.iload_n 1, 1) := by decide +kernel
theorem dX5_reckonValues_5 : decode cX5_reckonValues 5 = .ok (.invokevirtual 62, 3) := by decide +kernel
theorem dX5_reckonValues_8 : decode cX5_reckonValues 8 = .ok (.astore_n 3, 1) := by decide +kernel
theorem dX5_reckonValues_9 : decode cX5_reckonValues 9 = .ok (.iconst (-1), 1) := by decide +kernel
theorem dX5_reckonValues_10 : decode cX5_reckonValues 10 = .ok (.istore 4, 2) := by decide +kernel
theorem dX5_reckonValues_12 : decode cX5_reckonValues 12 = .ok (.iconst 0, 1) := by decide +kernel
theorem dX5_reckonValues_13 : decode cX5_reckonValues 13 = .ok (.istore 5, 2) := by decide +kernel
theorem dX5_reckonValues_15 : decode cX5_reckonValues 15 = .ok (.iload 5, 2) := by decide +kernel
theorem dX5_reckonValues_17 : decode cX5_reckonValues 17 = .ok (.aload_n 3, 1) := by decide +kernel
theorem dX5_reckonValues_18 : decode cX5_reckonValues 18 = .ok (.invokevirtual 66, 3) := by decide +kernel
theorem dX5_reckonValues_21 : decode cX5_reckonValues 21 = .ok (.if_icmp .ge 60, 3) := by decide +kernel
theorem dX5_reckonValues_24 : decode cX5_reckonValues 24 = .ok (.aload_n 3, 1) := by decide +kernel
theorem dX5_reckonValues_25 : decode cX5_reckonValues 25 = .ok (.iload 5, 2) := by decide +kernel
theorem dX5_reckonValues_27 : decode cX5_reckonValues 27 = .ok (.invokevirtual 72, 3) := by decide +kernel
theorem dX5_reckonValues_30 : decode cX5_reckonValues 30 = .ok (.bipush 99, 2) := by decide +kernel
theorem dX5_reckonValues_32 : decode cX5_reckonValues 32 = .ok (.if_icmp .ne 13, 3) := by decide +kernel
theorem dX5_reckonValues_35 : decode cX5_reckonValues 35 = .ok (.aload_n 0, 1) := by decide +kernel
theorem dX5_reckonValues_36 : decode cX5_reckonValues 36 = .ok (.iload_n 1, 1) := by decide +kernel
theorem dX5_reckonValues_37 : decode cX5_reckonValues 37 = .ok (.iload 5, 2) := by decide +kernel
theorem dX5_reckonValues_39 : decode cX5_reckonValues 39 = .ok (.invokevirtual 76, 3) := by decide +kernel
theorem dX5_reckonValues_42 : decode cX5_reckonValues 42 = .ok (.goto 11, 3) := by decide +kernel
theorem dX5_reckonValues_45 : decode cX5_reckonValues 45 = .ok (.aload_n 0, 1) := by decide +kernel
theorem dX5_reckonValues_46 : decode cX5_reckonValues 46 = .ok (.iload_n 1, 1) := by decide +kernel
theorem dX5_reckonValues_47 : decode cX5_reckonValues 47 = .ok (.iload 5, 2) := by decide +kernel
theorem dX5_reckonValues_49 : decode cX5_reckonValues 49 = .ok (.iload_n 2, 1) := by decide +kernel
theorem dX5_reckonValues_50 : decode cX5_reckonValues 50 = .ok (.invokevirtual 79, 3) := by decide +kernel
theorem dX5_reckonValues_53 : decode cX5_reckonValues 53 = .ok (.istore 4, 2) := by decide +kernel
theorem dX5_reckonValues_55 : decode cX5_reckonValues 55 = .ok (.iload 4, 2) := by decide +kernel
theorem dX5_reckonValues_57 : decode cX5_reckonValues 57 = .ok (.iconst (-1), 1) := by decide +kernel
theorem dX5_reckonValues_58 : decode cX5_reckonValues 58 = .ok (.if_icmp .ne 5, 3) := by decide +kernel
theorem dX5_reckonValues_61 : decode cX5_reckonValues 61 = .ok (.iconst (-1), 1) := by decide +kernel
theorem dX5_reckonValues_62 : decode cX5_reckonValues 62 = .ok (.ireturn, 1) := by decide +kernel
theorem dX5_reckonValues_63 : decode cX5_reckonValues 63 = .ok (.aload_n 0, 1) := by decide +kernel
theorem dX5_reckonValues_64 : decode cX5_reckonValues 64 = .ok (.getfield 26, 3) := by decide +kernel
theorem dX5_reckonValues_67 : decode cX5_reckonValues 67 = .ok (.iload_n 1, 1) := by decide +kernel
theorem dX5_reckonValues_68 : decode cX5_reckonValues 68 = .ok (.iload 5, 2) := by decide +kernel
theorem dX5_reckonValues_70 : decode cX5_reckonValues 70 = .ok (.iload 4, 2) := by decide +kernel
theorem dX5_reckonValues_72 : decode cX5_reckonValues 72 = .ok (.invokevirtual 58, 3) := by decide +kernel
theorem dX5_reckonValues_75 : decode cX5_reckonValues 75 = .ok (.iinc 5 1, 3) := by decide +kernel
theorem dX5_reckonValues_78 : decode cX5_reckonValues 78 = .ok (.goto (-63), 3) := by decide +kernel
theorem dX5_reckonValues_81 : decode cX5_reckonValues 81 = .ok (.iload 4, 2) := by decide +kernel
theorem dX5_reckonValues_83 : decode cX5_reckonValues 83 = .ok (.ireturn, 1) := by decide +kernel
set_option maxRecDepth 20000 in
theorem ggX5_valueOfCall_X7_expressionOf : GoodIn wsX5_valueOfCall wsX7_expressionOf := goodIn_r _ [7, 8, 9, 10, 11, 113, 114, 115, 116, 117] rfl (by decide +kernel)
set_option maxRecDepth 20000 in
theorem gX5_valueOfCall_X7_expressionOf : GoodIn wsX5_valueOfCall (wsV RX5 62 RX7 yX7_expressionOf wsX7_expressionOf) := goodIn_app (goodIn_of _ (by decide +kernel)) ggX5_valueOfCall_X7_expressionOf
set_option maxRecDepth 20000 in
theorem ggX5_valueOfCall_X1_number : GoodIn wsX5_valueOfCall wsX1_number := goodIn_r _ [16, 17, 18, 19, 20, 118, 119, 120, 121, 122, 123, 124] rfl (by decide +kernel)
set_option maxRecDepth 20000 in
theorem gX5_valueOfCall_X1_number : GoodIn wsX5_valueOfCall (wsV RX5 83 RX1 yX1_number wsX1_number) := goodIn_app (goodIn_of _ (by decide +kernel)) ggX5_valueOfCall_X1_number
set_option maxRecDepth 20000 in
theorem ggX5_valueOfCall_X1_left : GoodIn wsX5_valueOfCall wsX1_left := goodIn_r _ [24, 25, 118, 119, 120, 121, 122, 123, 124] rfl (by decide +kernel)
set_option maxRecDepth 20000 in
theorem gX5_valueOfCall_X1_left : GoodIn wsX5_valueOfCall (wsV RX5 86 RX1 yX1_left wsX1_left) := goodIn_app (goodIn_of _ (by decide +kernel)) ggX5_valueOfCall_X1_left
set_option maxRecDepth 20000 in
theorem ggX5_valueOfCall_X8_get : GoodIn wsX5_valueOfCall wsX8_get := goodIn_r _ [30, 31, 32, 18, 19, 20, 125, 126] rfl (by decide +kernel)
set_option maxRecDepth 20000 in
theorem gX5_valueOfCall_X8_get : GoodIn wsX5_valueOfCall (wsV RX5 51 RX8 yX8_get wsX8_get) := goodIn_app (goodIn_of _ (by decide +kernel)) ggX5_valueOfCall_X8_get
set_option maxRecDepth 20000 in
theorem ggX5_valueOfCall_X5_mayUse : GoodIn wsX5_valueOfCall wsX5_mayUse := goodIn_r _ [36] rfl (by decide +kernel)
set_option maxRecDepth 20000 in
theorem gX5_valueOfCall_X5_mayUse : GoodIn wsX5_valueOfCall (va_wsS RX5 89 yX5_mayUse wsX5_mayUse) := goodIn_app (goodIn_of _ (by decide +kernel)) ggX5_valueOfCall_X5_mayUse
set_option maxRecDepth 20000 in
theorem ggX5_valueOfCall_X5_value : GoodIn wsX5_valueOfCall wsX5_value := goodIn_r _ [101, 102, 26, 27, 28, 29, 30, 31, 32, 18, 19, 20, 103, 104, 105, 35, 95, 96, 97, 98, 99, 100, 40, 1, 2, 3, 4, 5, 6, 7, 8, 9, 10, 11, 41, 42, 43, 15, 44, 45, 46, 47, 48, 49, 50, 51, 52, 53, 54, 55, 56, 57, 58, 59, 60, 61, 21, 22, 23, 24, 25, 62, 63, 64, 65, 66, 12, 13, 14, 16, 17, 67, 68, 69, 70, 71, 72, 73, 74, 75, 76, 77, 78, 79, 80, 81, 82, 83, 84, 85, 86, 87, 88, 89, 90, 91, 92, 93, 94, 0, 33, 34, 36, 37, 38, 39, 106, 107, 108, 109, 110, 111, 112, 113, 114, 115, 116, 117, 118, 119, 120, 121, 122, 123, 124, 125, 126, 127] rfl (by decide +kernel)
set_option maxRecDepth 20000 in
theorem gX5_valueOfCall_X5_value : GoodIn wsX5_valueOfCall (wsV RX5 93 RX5 yX5_value wsX5_value) := goodIn_app (goodIn_of _ (by decide +kernel)) ggX5_valueOfCall_X5_value
theorem dX5_valueOfCall_0 : decode cX5_valueOfCall 0 = .ok (.aload_n 0, 1) := by decide +kernel
theorem dX5_valueOfCall_1 : decode cX5_valueOfCall 1 = .ok (.getfield 41, 3) := by decide +kernel
theorem dX5_valueOfCall_4 : decode cX5_valueOfCall 4 = .ok (.iload_n 1, 1) := by decide +kernel
theorem dX5_valueOfCall_5 : decode cX5_valueOfCall 5 = .ok (.invokevirtual 62, 3) := by decide +kernel
theorem dX5_valueOfCall_8 : decode cX5_valueOfCall 8 = .ok (.astore_n 3, 1) := by decide +kernel
theorem dX5_valueOfCall_9 : decode cX5_valueOfCall 9 = .ok (.aload_n 3, 1) := by decide +kernel
theorem dX5_valueOfCall_10 : decode cX5_valueOfCall 10 = .ok (.iload_n 2, 1) := by decide +kernel
theorem dX5_valueOfCall_11 : decode cX5_valueOfCall 11 = .ok (.invokevirtual 83, 3) := by decide +kernel
theorem dX5_valueOfCall_14 : decode cX5_valueOfCall 14 = .ok (.istore 4, 2) := by decide +kernel
theorem dX5_valueOfCall_16 : decode cX5_valueOfCall 16 = .ok (.aload_n 0, 1) := by decide +kernel
theorem dX5_valueOfCall_17 : decode cX5_valueOfCall 17 = .ok (.getfield 26, 3) := by decide +kernel
theorem dX5_valueOfCall_20 : decode cX5_valueOfCall 20 = .ok (.iload_n 1, 1) := by decide +kernel
theorem dX5_valueOfCall_21 : decode cX5_valueOfCall 21 = .ok (.aload_n 3, 1) := by decide +kernel
theorem dX5_valueOfCall_22 : decode cX5_valueOfCall 22 = .ok (.iload_n 2, 1) := by decide +kernel
theorem dX5_valueOfCall_23 : decode cX5_valueOfCall 23 = .ok (.invokevirtual 86, 3) := by decide +kernel
theorem dX5_valueOfCall_26 : decode cX5_valueOfCall 26 = .ok (.invokevirtual 51, 3) := by decide +kernel
theorem dX5_valueOfCall_29 : decode cX5_valueOfCall 29 = .ok (.istore 5, 2) := by decide +kernel
theorem dX5_valueOfCall_31 : decode cX5_valueOfCall 31 = .ok (.iload_n 1, 1) := by decide +kernel
theorem dX5_valueOfCall_32 : decode cX5_valueOfCall 32 = .ok (.iload 4, 2) := by decide +kernel
theorem dX5_valueOfCall_34 : decode cX5_valueOfCall 34 = .ok (.invokestatic 89, 3) := by decide +kernel
theorem dX5_valueOfCall_37 : decode cX5_valueOfCall 37 = .ok (.ifCond .eq 14, 3) := by decide +kernel
theorem dX5_valueOfCall_40 : decode cX5_valueOfCall 40 = .ok (.aload_n 0, 1) := by decide +kernel
theorem dX5_valueOfCall_41 : decode cX5_valueOfCall 41 = .ok (.iload 4, 2) := by decide +kernel
theorem dX5_valueOfCall_43 : decode cX5_valueOfCall 43 = .ok (.iload 5, 2) := by decide +kernel
theorem dX5_valueOfCall_45 : decode cX5_valueOfCall 45 = .ok (.invokevirtual 93, 3) := by decide +kernel
theorem dX5_valueOfCall_48 : decode cX5_valueOfCall 48 = .ok (.goto 4, 3) := by decide +kernel
theorem dX5_valueOfCall_51 : decode cX5_valueOfCall 51 = .ok (.iconst (-1), 1) := by decide +kernel
theorem dX5_valueOfCall_52 : decode cX5_valueOfCall 52 = .ok (.ireturn, 1) := by decide +kernel
set_option maxRecDepth 20000 in
theorem ggX5_valueOfNode_X7_expressionOf : GoodIn wsX5_valueOfNode wsX7_expressionOf := goodIn_r _ [7, 8, 9, 10, 11, 83, 84, 85, 86, 87] rfl (by decide +kernel)
set_option maxRecDepth 20000 in
theorem gX5_valueOfNode_X7_expressionOf : GoodIn wsX5_valueOfNode (wsV RX5 62 RX7 yX7_expressionOf wsX7_expressionOf) := goodIn_app (goodIn_of _ (by decide +kernel)) ggX5_valueOfNode_X7_expressionOf
set_option maxRecDepth 20000 in
theorem ggX5_valueOfNode_X7_numbers : GoodIn wsX5_valueOfNode wsX7_numbers := goodIn_r _ [15, 16, 83, 84, 85, 86, 87] rfl (by decide +kernel)
set_option maxRecDepth 20000 in
theorem gX5_valueOfNode_X7_numbers : GoodIn wsX5_valueOfNode (wsV RX5 96 RX7 yX7_numbers wsX7_numbers) := goodIn_app (goodIn_of _ (by decide +kernel)) ggX5_valueOfNode_X7_numbers
set_option maxRecDepth 20000 in
theorem ggX5_valueOfNode_X1_left : GoodIn wsX5_valueOfNode wsX1_left := goodIn_r _ [21, 22, 88, 89, 90, 91, 92, 93, 94] rfl (by decide +kernel)
set_option maxRecDepth 20000 in
theorem gX5_valueOfNode_X1_left : GoodIn wsX5_valueOfNode (wsV RX5 86 RX1 yX1_left wsX1_left) := goodIn_app (goodIn_of _ (by decide +kernel)) ggX5_valueOfNode_X1_left
set_option maxRecDepth 20000 in
theorem ggX5_valueOfNode_X8_get : GoodIn wsX5_valueOfNode wsX8_get := goodIn_r _ [27, 28, 29, 30, 31, 32, 95, 96] rfl (by decide +kernel)
set_option maxRecDepth 20000 in
theorem gX5_valueOfNode_X8_get : GoodIn wsX5_valueOfNode (wsV RX5 51 RX8 yX8_get wsX8_get) := goodIn_app (goodIn_of _ (by decide +kernel)) ggX5_valueOfNode_X8_get
set_option maxRecDepth 20000 in
theorem ggX5_valueOfNode_X1_right : GoodIn wsX5_valueOfNode wsX1_right := goodIn_r _ [36, 37, 88, 89, 90, 91, 92, 93, 94] rfl (by decide +kernel)
set_option maxRecDepth 20000 in
theorem gX5_valueOfNode_X1_right : GoodIn wsX5_valueOfNode (wsV RX5 100 RX1 yX1_right wsX1_right) := goodIn_app (goodIn_of _ (by decide +kernel)) ggX5_valueOfNode_X1_right
set_option maxRecDepth 20000 in
theorem ggX5_valueOfNode_X1_kind : GoodIn wsX5_valueOfNode wsX1_kind := goodIn_r _ [41, 42, 30, 31, 32, 88, 89, 90, 91, 92, 93, 94] rfl (by decide +kernel)
set_option maxRecDepth 20000 in
theorem gX5_valueOfNode_X1_kind : GoodIn wsX5_valueOfNode (wsV RX5 72 RX1 yX1_kind wsX1_kind) := goodIn_app (goodIn_of _ (by decide +kernel)) ggX5_valueOfNode_X1_kind
set_option maxRecDepth 20000 in
theorem ggX5_valueOfNode_X1_number : GoodIn wsX5_valueOfNode wsX1_number := goodIn_r _ [46, 47, 30, 31, 32, 88, 89, 90, 91, 92, 93, 94] rfl (by decide +kernel)
set_option maxRecDepth 20000 in
theorem gX5_valueOfNode_X1_number : GoodIn wsX5_valueOfNode (wsV RX5 83 RX1 yX1_number wsX1_number) := goodIn_app (goodIn_of _ (by decide +kernel)) ggX5_valueOfNode_X1_number
set_option maxRecDepth 20000 in
theorem ggX5_valueOfNode_X6_of : GoodIn wsX5_valueOfNode wsX6_of := goodIn_r _ [52, 53, 97] rfl (by decide +kernel)
set_option maxRecDepth 20000 in
theorem gX5_valueOfNode_X6_of : GoodIn wsX5_valueOfNode (wsV RX5 103 RX6 yX6_of wsX6_of) := goodIn_app (goodIn_of _ (by decide +kernel)) ggX5_valueOfNode_X6_of
set_option maxRecDepth 20000 in
theorem ggX5_valueOfNode_X6_subtract : GoodIn wsX5_valueOfNode wsX6_subtract := goodIn_r _ [57, 58, 49, 50, 51, 52, 53, 97] rfl (by decide +kernel)
set_option maxRecDepth 20000 in
theorem gX5_valueOfNode_X6_subtract : GoodIn wsX5_valueOfNode (wsV RX5 108 RX6 yX6_subtract wsX6_subtract) := goodIn_app (goodIn_of _ (by decide +kernel)) ggX5_valueOfNode_X6_subtract
set_option maxRecDepth 20000 in
theorem ggX5_valueOfNode_X6_add : GoodIn wsX5_valueOfNode wsX6_add := goodIn_r _ [62, 58, 49, 50, 51, 52, 53, 97] rfl (by decide +kernel)
set_option maxRecDepth 20000 in
theorem gX5_valueOfNode_X6_add : GoodIn wsX5_valueOfNode (wsV RX5 111 RX6 yX6_add wsX6_add) := goodIn_app (goodIn_of _ (by decide +kernel)) ggX5_valueOfNode_X6_add
set_option maxRecDepth 20000 in
theorem ggX5_valueOfNode_X6_multiply : GoodIn wsX5_valueOfNode wsX6_multiply := goodIn_r _ [66, 58, 49, 50, 51, 52, 53, 97] rfl (by decide +kernel)
set_option maxRecDepth 20000 in
theorem gX5_valueOfNode_X6_multiply : GoodIn wsX5_valueOfNode (wsV RX5 114 RX6 yX6_multiply wsX6_multiply) := goodIn_app (goodIn_of _ (by decide +kernel)) ggX5_valueOfNode_X6_multiply
set_option maxRecDepth 20000 in
theorem ggX5_valueOfNode_X6_divide : GoodIn wsX5_valueOfNode wsX6_divide := goodIn_r _ [70, 53, 71, 72, 73, 51, 74, 58, 49, 50, 52, 97] rfl (by decide +kernel)
set_option maxRecDepth 20000 in
theorem gX5_valueOfNode_X6_divide : GoodIn wsX5_valueOfNode (wsV RX5 117 RX6 yX6_divide wsX6_divide) := goodIn_app (goodIn_of _ (by decide +kernel)) ggX5_valueOfNode_X6_divide
set_option maxRecDepth 20000 in
theorem ggX5_valueOfNode_X6_power : GoodIn wsX5_valueOfNode wsX6_power := goodIn_r _ [74, 53, 97] rfl (by decide +kernel)
set_option maxRecDepth 20000 in
theorem gX5_valueOfNode_X6_power : GoodIn wsX5_valueOfNode (wsV RX5 120 RX6 yX6_power wsX6_power) := goodIn_app (goodIn_of _ (by decide +kernel)) ggX5_valueOfNode_X6_power
theorem dX5_valueOfNode_0 : decode cX5_valueOfNode 0 = .ok (.aload_n 0, 1) := by decide +kernel
theorem dX5_valueOfNode_1 : decode cX5_valueOfNode 1 = .ok (.getfield 41, 3) := by decide +kernel
theorem dX5_valueOfNode_4 : decode cX5_valueOfNode 4 = .ok (.iload_n 1, 1) := by decide +kernel
theorem dX5_valueOfNode_5 : decode cX5_valueOfNode 5 = .ok (.invokevirtual 62, 3) := by decide +kernel
theorem dX5_valueOfNode_8 : decode cX5_valueOfNode 8 = .ok (.astore 4, 2) := by decide +kernel
theorem dX5_valueOfNode_10 : decode cX5_valueOfNode 10 = .ok (.aload_n 0, 1) := by decide +kernel
theorem dX5_valueOfNode_11 : decode cX5_valueOfNode 11 = .ok (.getfield 41, 3) := by decide +kernel
theorem dX5_valueOfNode_14 : decode cX5_valueOfNode 14 = .ok (.invokevirtual 96, 3) := by decide +kernel
theorem dX5_valueOfNode_17 : decode cX5_valueOfNode 17 = .ok (.astore 5, 2) := by decide +kernel
theorem dX5_valueOfNode_19 : decode cX5_valueOfNode 19 = .ok (.aload_n 0, 1) := by decide +kernel
theorem dX5_valueOfNode_20 : decode cX5_valueOfNode 20 = .ok (.getfield 26, 3) := by decide +kernel
theorem dX5_valueOfNode_23 : decode cX5_valueOfNode 23 = .ok (.iload_n 1, 1) := by decide +kernel
theorem dX5_valueOfNode_24 : decode cX5_valueOfNode 24 = .ok (.aload 4, 2) := by decide +kernel
theorem dX5_valueOfNode_26 : decode cX5_valueOfNode 26 = .ok (.iload_n 2, 1) := by decide +kernel
theorem dX5_valueOfNode_27 : decode cX5_valueOfNode 27 = .ok (.invokevirtual 86, 3) := by decide +kernel
theorem dX5_valueOfNode_30 : decode cX5_valueOfNode 30 = .ok (.invokevirtual 51, 3) := by decide +kernel
theorem dX5_valueOfNode_33 : decode cX5_valueOfNode 33 = .ok (.istore 6, 2) := by decide +kernel
theorem dX5_valueOfNode_35 : decode cX5_valueOfNode 35 = .ok (.aload_n 0, 1) := by decide +kernel
theorem dX5_valueOfNode_36 : decode cX5_valueOfNode 36 = .ok (.getfield 26, 3) := by decide +kernel
theorem dX5_valueOfNode_39 : decode cX5_valueOfNode 39 = .ok (.iload_n 1, 1) := by decide +kernel
theorem dX5_valueOfNode_40 : decode cX5_valueOfNode 40 = .ok (.aload 4, 2) := by decide +kernel
theorem dX5_valueOfNode_42 : decode cX5_valueOfNode 42 = .ok (.iload_n 2, 1) := by decide +kernel
theorem dX5_valueOfNode_43 : decode cX5_valueOfNode 43 = .ok (.invokevirtual 100, 3) := by decide +kernel
theorem dX5_valueOfNode_46 : decode cX5_valueOfNode 46 = .ok (.invokevirtual 51, 3) := by decide +kernel
theorem dX5_valueOfNode_49 : decode cX5_valueOfNode 49 = .ok (.istore 7, 2) := by decide +kernel
theorem dX5_valueOfNode_51 : decode cX5_valueOfNode 51 = .ok (.aload 4, 2) := by decide +kernel
theorem dX5_valueOfNode_53 : decode cX5_valueOfNode 53 = .ok (.iload_n 2, 1) := by decide +kernel
theorem dX5_valueOfNode_54 : decode cX5_valueOfNode 54 = .ok (.invokevirtual 72, 3) := by decide +kernel
theorem dX5_valueOfNode_57 : decode cX5_valueOfNode 57 = .ok (.lookupswitch 161 #[(42, 118), (43, 98), (45, 108), (47, 128), (48, 75), (94, 147), (110, 89), (120, 87)], 75) := by decide +kernel
theorem dX5_valueOfNode_132 : decode cX5_valueOfNode 132 = .ok (.aload 5, 2) := by decide +kernel
theorem dX5_valueOfNode_134 : decode cX5_valueOfNode 134 = .ok (.aload 4, 2) := by decide +kernel
theorem dX5_valueOfNode_136 : decode cX5_valueOfNode 136 = .ok (.iload_n 2, 1) := by decide +kernel
theorem dX5_valueOfNode_137 : decode cX5_valueOfNode 137 = .ok (.invokevirtual 83, 3) := by decide +kernel
theorem dX5_valueOfNode_140 : decode cX5_valueOfNode 140 = .ok (.invokevirtual 103, 3) := by decide +kernel
theorem dX5_valueOfNode_143 : decode cX5_valueOfNode 143 = .ok (.ireturn, 1) := by decide +kernel
theorem dX5_valueOfNode_144 : decode cX5_valueOfNode 144 = .ok (.iload_n 3, 1) := by decide +kernel
theorem dX5_valueOfNode_145 : decode cX5_valueOfNode 145 = .ok (.ireturn, 1) := by decide +kernel
theorem dX5_valueOfNode_146 : decode cX5_valueOfNode 146 = .ok (.aload 5, 2) := by decide +kernel
theorem dX5_valueOfNode_148 : decode cX5_valueOfNode 148 = .ok (.iconst 0, 1) := by decide +kernel
theorem dX5_valueOfNode_149 : decode cX5_valueOfNode 149 = .ok (.iload 6, 2) := by decide +kernel
theorem dX5_valueOfNode_151 : decode cX5_valueOfNode 151 = .ok (.invokevirtual 108, 3) := by decide +kernel
theorem dX5_valueOfNode_154 : decode cX5_valueOfNode 154 = .ok (.ireturn, 1) := by decide +kernel
theorem dX5_valueOfNode_155 : decode cX5_valueOfNode 155 = .ok (.aload 5, 2) := by decide +kernel
theorem dX5_valueOfNode_157 : decode cX5_valueOfNode 157 = .ok (.iload 6, 2) := by decide +kernel
theorem dX5_valueOfNode_159 : decode cX5_valueOfNode 159 = .ok (.iload 7, 2) := by decide +kernel
theorem dX5_valueOfNode_161 : decode cX5_valueOfNode 161 = .ok (.invokevirtual 111, 3) := by decide +kernel
theorem dX5_valueOfNode_164 : decode cX5_valueOfNode 164 = .ok (.ireturn, 1) := by decide +kernel
theorem dX5_valueOfNode_165 : decode cX5_valueOfNode 165 = .ok (.aload 5, 2) := by decide +kernel
theorem dX5_valueOfNode_167 : decode cX5_valueOfNode 167 = .ok (.iload 6, 2) := by decide +kernel
theorem dX5_valueOfNode_169 : decode cX5_valueOfNode 169 = .ok (.iload 7, 2) := by decide +kernel
theorem dX5_valueOfNode_171 : decode cX5_valueOfNode 171 = .ok (.invokevirtual 108, 3) := by decide +kernel
theorem dX5_valueOfNode_174 : decode cX5_valueOfNode 174 = .ok (.ireturn, 1) := by decide +kernel
theorem dX5_valueOfNode_175 : decode cX5_valueOfNode 175 = .ok (.aload 5, 2) := by decide +kernel
theorem dX5_valueOfNode_177 : decode cX5_valueOfNode 177 = .ok (.iload 6, 2) := by decide +kernel
theorem dX5_valueOfNode_179 : decode cX5_valueOfNode 179 = .ok (.iload 7, 2) := by decide +kernel
theorem dX5_valueOfNode_181 : decode cX5_valueOfNode 181 = .ok (.invokevirtual 114, 3) := by decide +kernel
theorem dX5_valueOfNode_184 : decode cX5_valueOfNode 184 = .ok (.ireturn, 1) := by decide +kernel
theorem dX5_valueOfNode_185 : decode cX5_valueOfNode 185 = .ok (.iload 7, 2) := by decide +kernel
theorem dX5_valueOfNode_187 : decode cX5_valueOfNode 187 = .ok (.ifCond .ne 7, 3) := by decide +kernel
theorem dX5_valueOfNode_190 : decode cX5_valueOfNode 190 = .ok (.iconst (-1), 1) := by decide +kernel
theorem dX5_valueOfNode_191 : decode cX5_valueOfNode 191 = .ok (.goto 12, 3) := by decide +kernel
theorem dX5_valueOfNode_194 : decode cX5_valueOfNode 194 = .ok (.aload 5, 2) := by decide +kernel
theorem dX5_valueOfNode_196 : decode cX5_valueOfNode 196 = .ok (.iload 6, 2) := by decide +kernel
theorem dX5_valueOfNode_198 : decode cX5_valueOfNode 198 = .ok (.iload 7, 2) := by decide +kernel
theorem dX5_valueOfNode_200 : decode cX5_valueOfNode 200 = .ok (.invokevirtual 117, 3) := by decide +kernel
theorem dX5_valueOfNode_203 : decode cX5_valueOfNode 203 = .ok (.ireturn, 1) := by decide +kernel
theorem dX5_valueOfNode_204 : decode cX5_valueOfNode 204 = .ok (.aload 5, 2) := by decide +kernel
theorem dX5_valueOfNode_206 : decode cX5_valueOfNode 206 = .ok (.iload 6, 2) := by decide +kernel
theorem dX5_valueOfNode_208 : decode cX5_valueOfNode 208 = .ok (.aload 4, 2) := by decide +kernel
theorem dX5_valueOfNode_210 : decode cX5_valueOfNode 210 = .ok (.iload_n 2, 1) := by decide +kernel
theorem dX5_valueOfNode_211 : decode cX5_valueOfNode 211 = .ok (.invokevirtual 83, 3) := by decide +kernel
theorem dX5_valueOfNode_214 : decode cX5_valueOfNode 214 = .ok (.invokevirtual 120, 3) := by decide +kernel
theorem dX5_valueOfNode_217 : decode cX5_valueOfNode 217 = .ok (.ireturn, 1) := by decide +kernel
theorem dX5_valueOfNode_218 : decode cX5_valueOfNode 218 = .ok (.iconst (-1), 1) := by decide +kernel
theorem dX5_valueOfNode_219 : decode cX5_valueOfNode 219 = .ok (.ireturn, 1) := by decide +kernel
set_option maxRecDepth 20000 in
theorem ggX5_hingeSlope_X8_get : GoodIn wsX5_hingeSlope wsX8_get := goodIn_r _ [9, 10, 11, 12, 13, 14, 139, 140] rfl (by decide +kernel)
set_option maxRecDepth 20000 in
theorem gX5_hingeSlope_X8_get : GoodIn wsX5_hingeSlope (wsV RX5 51 RX8 yX8_get wsX8_get) := goodIn_app (goodIn_of _ (by decide +kernel)) ggX5_hingeSlope_X8_get
set_option maxRecDepth 20000 in
theorem ggX5_hingeSlope_X5_feed : GoodIn wsX5_hingeSlope wsX5_feed := goodIn_r _ [40, 2, 41, 19, 20, 21, 22, 23, 24, 25, 26, 27, 28, 29, 30, 31, 32, 33, 42, 43, 44, 45, 12, 13, 14, 46, 47, 48, 18, 49, 50, 51, 52, 4, 53, 54, 55, 56, 57, 58, 59, 60, 61, 62, 63, 64, 65, 66, 5, 6, 7, 8, 9, 10, 11, 67, 68, 69, 70, 71, 72, 73, 74, 75, 76, 77, 78, 79, 80, 81, 82, 83, 84, 85, 86, 87, 88, 89, 90, 91, 92, 93, 94, 95, 96, 97, 98, 99, 100, 101, 102, 103, 104, 34, 35, 36, 37, 38, 39, 105, 106, 107, 108, 109, 110, 111, 112, 113, 3, 114, 115, 116, 117, 118, 119, 0, 1, 15, 16, 17, 120, 121, 122, 123, 124, 125, 126, 127, 128, 129, 130, 131, 132, 133, 134, 135, 136, 137, 138, 139, 140, 141] rfl (by decide +kernel)
set_option maxRecDepth 20000 in
theorem gX5_hingeSlope_X5_feed : GoodIn wsX5_hingeSlope (wsV RX5 123 RX5 yX5_feed wsX5_feed) := goodIn_app (goodIn_of _ (by decide +kernel)) ggX5_hingeSlope_X5_feed
set_option maxRecDepth 20000 in
theorem ggX5_hingeSlope_X7_expressionOf : GoodIn wsX5_hingeSlope wsX7_expressionOf := goodIn_r _ [23, 24, 25, 26, 27, 127, 128, 129, 130, 131] rfl (by decide +kernel)
set_option maxRecDepth 20000 in
theorem gX5_hingeSlope_X7_expressionOf : GoodIn wsX5_hingeSlope (wsV RX5 62 RX7 yX7_expressionOf wsX7_expressionOf) := goodIn_app (goodIn_of _ (by decide +kernel)) ggX5_hingeSlope_X7_expressionOf
set_option maxRecDepth 20000 in
theorem ggX5_hingeSlope_X1_size : GoodIn wsX5_hingeSlope wsX1_size := goodIn_r _ [32, 33, 132, 133, 134, 135, 136, 137, 138] rfl (by decide +kernel)
set_option maxRecDepth 20000 in
theorem gX5_hingeSlope_X1_size : GoodIn wsX5_hingeSlope (wsV RX5 66 RX1 yX1_size wsX1_size) := goodIn_app (goodIn_of _ (by decide +kernel)) ggX5_hingeSlope_X1_size
set_option maxRecDepth 20000 in
theorem ggX5_hingeSlope_X8_set : GoodIn wsX5_hingeSlope wsX8_set := goodIn_r _ [37, 10, 11, 38, 13, 39, 139, 140] rfl (by decide +kernel)
set_option maxRecDepth 20000 in
theorem gX5_hingeSlope_X8_set : GoodIn wsX5_hingeSlope (wsV RX5 58 RX8 yX8_set wsX8_set) := goodIn_app (goodIn_of _ (by decide +kernel)) ggX5_hingeSlope_X8_set
theorem dX5_hingeSlope_0 : decode cX5_hingeSlope 0 = .ok (.aload_n 0, 1) := by decide +kernel
theorem dX5_hingeSlope_1 : decode cX5_hingeSlope 1 = .ok (.getfield 20, 3) := by decide +kernel
theorem dX5_hingeSlope_4 : decode cX5_hingeSlope 4 = .ok (.iload_n 1, 1) := by decide +kernel
theorem dX5_hingeSlope_5 : decode cX5_hingeSlope 5 = .ok (.iload_n 2, 1) := by decide +kernel
theorem dX5_hingeSlope_6 : decode cX5_hingeSlope 6 = .ok (.invokevirtual 51, 3) := by decide +kernel
theorem dX5_hingeSlope_9 : decode cX5_hingeSlope 9 = .ok (.istore_n 3, 1) := by decide +kernel
theorem dX5_hingeSlope_10 : decode cX5_hingeSlope 10 = .ok (.iload_n 3, 1) := by decide +kernel
theorem dX5_hingeSlope_11 : decode cX5_hingeSlope 11 = .ok (.bipush (-2), 2) := by decide +kernel
theorem dX5_hingeSlope_13 : decode cX5_hingeSlope 13 = .ok (.if_icmp .eq 5, 3) := by decide +kernel
theorem dX5_hingeSlope_16 : decode cX5_hingeSlope 16 = .ok (.iload_n 3, 1) := by decide +kernel
theorem dX5_hingeSlope_17 : decode cX5_hingeSlope 17 = .ok (.ireturn, 1) := by decide +kernel
theorem dX5_hingeSlope_18 : decode cX5_hingeSlope 18 = .ok (.aload_n 0, 1) := by decide +kernel
theorem dX5_hingeSlope_19 : decode cX5_hingeSlope 19 = .ok (.iload_n 1, 1) := by decide +kernel
theorem dX5_hingeSlope_20 : decode cX5_hingeSlope 20 = .ok (.iload_n 2, 1) := by decide +kernel
theorem dX5_hingeSlope_21 : decode cX5_hingeSlope 21 = .ok (.iconst 1, 1) := by decide +kernel
theorem dX5_hingeSlope_22 : decode cX5_hingeSlope 22 = .ok (.invokevirtual 123, 3) := by decide +kernel
theorem dX5_hingeSlope_25 : decode cX5_hingeSlope 25 = .ok (.istore 4, 2) := by decide +kernel
theorem dX5_hingeSlope_27 : decode cX5_hingeSlope 27 = .ok (.aload_n 0, 1) := by decide +kernel
theorem dX5_hingeSlope_28 : decode cX5_hingeSlope 28 = .ok (.getfield 41, 3) := by decide +kernel
theorem dX5_hingeSlope_31 : decode cX5_hingeSlope 31 = .ok (.iload_n 1, 1) := by decide +kernel
theorem dX5_hingeSlope_32 : decode cX5_hingeSlope 32 = .ok (.invokevirtual 62, 3) := by decide +kernel
theorem dX5_hingeSlope_35 : decode cX5_hingeSlope 35 = .ok (.invokevirtual 66, 3) := by decide +kernel
theorem dX5_hingeSlope_38 : decode cX5_hingeSlope 38 = .ok (.iconst 1, 1) := by decide +kernel
theorem dX5_hingeSlope_39 : decode cX5_hingeSlope 39 = .ok (.isub, 1) := by decide +kernel
theorem dX5_hingeSlope_40 : decode cX5_hingeSlope 40 = .ok (.istore 5, 2) := by decide +kernel
theorem dX5_hingeSlope_42 : decode cX5_hingeSlope 42 = .ok (.aload_n 0, 1) := by decide +kernel
theorem dX5_hingeSlope_43 : decode cX5_hingeSlope 43 = .ok (.getfield 14, 3) := by decide +kernel
theorem dX5_hingeSlope_46 : decode cX5_hingeSlope 46 = .ok (.iload_n 1, 1) := by decide +kernel
theorem dX5_hingeSlope_47 : decode cX5_hingeSlope 47 = .ok (.iload_n 2, 1) := by decide +kernel
theorem dX5_hingeSlope_48 : decode cX5_hingeSlope 48 = .ok (.iload 4, 2) := by decide +kernel
theorem dX5_hingeSlope_50 : decode cX5_hingeSlope 50 = .ok (.iconst (-1), 1) := by decide +kernel
theorem dX5_hingeSlope_51 : decode cX5_hingeSlope 51 = .ok (.if_icmp .ne 7, 3) := by decide +kernel
theorem dX5_hingeSlope_54 : decode cX5_hingeSlope 54 = .ok (.iconst (-1), 1) := by decide +kernel
theorem dX5_hingeSlope_55 : decode cX5_hingeSlope 55 = .ok (.goto 13, 3) := by decide +kernel
theorem dX5_hingeSlope_58 : decode cX5_hingeSlope 58 = .ok (.aload_n 0, 1) := by decide +kernel
theorem dX5_hingeSlope_59 : decode cX5_hingeSlope 59 = .ok (.getfield 26, 3) := by decide +kernel
theorem dX5_hingeSlope_62 : decode cX5_hingeSlope 62 = .ok (.iload_n 1, 1) := by decide +kernel
theorem dX5_hingeSlope_63 : decode cX5_hingeSlope 63 = .ok (.iload 5, 2) := by decide +kernel
theorem dX5_hingeSlope_65 : decode cX5_hingeSlope 65 = .ok (.invokevirtual 51, 3) := by decide +kernel
theorem dX5_hingeSlope_68 : decode cX5_hingeSlope 68 = .ok (.invokevirtual 58, 3) := by decide +kernel
theorem dX5_hingeSlope_71 : decode cX5_hingeSlope 71 = .ok (.aload_n 0, 1) := by decide +kernel
theorem dX5_hingeSlope_72 : decode cX5_hingeSlope 72 = .ok (.getfield 20, 3) := by decide +kernel
theorem dX5_hingeSlope_75 : decode cX5_hingeSlope 75 = .ok (.iload_n 1, 1) := by decide +kernel
theorem dX5_hingeSlope_76 : decode cX5_hingeSlope 76 = .ok (.iload_n 2, 1) := by decide +kernel
theorem dX5_hingeSlope_77 : decode cX5_hingeSlope 77 = .ok (.iload 4, 2) := by decide +kernel
theorem dX5_hingeSlope_79 : decode cX5_hingeSlope 79 = .ok (.invokevirtual 58, 3) := by decide +kernel
theorem dX5_hingeSlope_82 : decode cX5_hingeSlope 82 = .ok (.iload 4, 2) := by decide +kernel
theorem dX5_hingeSlope_84 : decode cX5_hingeSlope 84 = .ok (.ireturn, 1) := by decide +kernel
set_option maxRecDepth 20000 in
theorem ggX5_feed_X7_expressionOf : GoodIn wsX5_feed wsX7_expressionOf := goodIn_r _ [7, 8, 9, 10, 11, 127, 128, 129, 130, 131] rfl (by decide +kernel)
set_option maxRecDepth 20000 in
theorem gX5_feed_X7_expressionOf : GoodIn wsX5_feed (wsV RX5 62 RX7 yX7_expressionOf wsX7_expressionOf) := goodIn_app (goodIn_of _ (by decide +kernel)) ggX5_feed_X7_expressionOf
set_option maxRecDepth 20000 in
theorem ggX5_feed_X1_size : GoodIn wsX5_feed wsX1_size := goodIn_r _ [16, 17, 132, 133, 134, 135, 136, 137, 138] rfl (by decide +kernel)
set_option maxRecDepth 20000 in
theorem gX5_feed_X1_size : GoodIn wsX5_feed (wsV RX5 66 RX1 yX1_size wsX1_size) := goodIn_app (goodIn_of _ (by decide +kernel)) ggX5_feed_X1_size
set_option maxRecDepth 20000 in
theorem ggX5_feed_X1_kind : GoodIn wsX5_feed wsX1_kind := goodIn_r _ [21, 17, 22, 23, 24, 132, 133, 134, 135, 136, 137, 138] rfl (by decide +kernel)
set_option maxRecDepth 20000 in
theorem gX5_feed_X1_kind : GoodIn wsX5_feed (wsV RX5 72 RX1 yX1_kind wsX1_kind) := goodIn_app (goodIn_of _ (by decide +kernel)) ggX5_feed_X1_kind
set_option maxRecDepth 20000 in
theorem ggX5_feed_X5_hingeOfCall : GoodIn wsX5_feed wsX5_hingeOfCall := goodIn_r _ [107, 1, 33, 108, 2, 3, 4, 5, 6, 7, 8, 9, 10, 11, 60, 61, 62, 15, 63, 64, 22, 23, 24, 43, 44, 45, 46, 47, 48, 49, 50, 51, 52, 53, 54, 109, 110, 28, 111, 112, 113, 114, 93, 94, 95, 96, 97, 98, 38, 39, 40, 41, 42, 80, 81, 82, 68, 83, 75, 66, 67, 69, 70, 0, 12, 13, 14, 16, 17, 18, 19, 20, 21, 25, 26, 27, 29, 30, 31, 32, 34, 35, 36, 37, 55, 56, 57, 58, 59, 65, 71, 72, 73, 74, 76, 77, 78, 79, 84, 85, 86, 87, 88, 89, 90, 91, 92, 99, 100, 101, 102, 103, 104, 105, 106, 115, 116, 117, 118, 119, 120, 121, 122, 123, 124, 125, 126, 127, 128, 129, 130, 131, 132, 133, 134, 135, 136, 137, 138, 139, 140, 141] rfl (by decide +kernel)
set_option maxRecDepth 20000 in
theorem gX5_feed_X5_hingeOfCall : GoodIn wsX5_feed (wsV RX5 126 RX5 yX5_hingeOfCall wsX5_hingeOfCall) := goodIn_app (goodIn_of _ (by decide +kernel)) ggX5_feed_X5_hingeOfCall
set_option maxRecDepth 20000 in
theorem ggX5_feed_X5_hingeOfNode : GoodIn wsX5_feed wsX5_hingeOfNode := goodIn_r _ [32, 33, 34, 35, 36, 28, 37, 1, 3, 4, 5, 6, 7, 8, 9, 10, 11, 38, 39, 40, 41, 42, 43, 44, 45, 15, 46, 47, 48, 49, 50, 51, 52, 53, 54, 22, 23, 24, 55, 56, 57, 58, 59, 18, 19, 20, 21, 17, 60, 61, 62, 63, 64, 65, 66, 67, 68, 69, 70, 71, 72, 73, 74, 75, 76, 77, 78, 79, 80, 81, 82, 83, 84, 85, 86, 87, 88, 89, 90, 91, 92, 93, 94, 95, 96, 97, 98, 99, 100, 101, 102, 2, 103, 104, 105, 106, 120, 121, 122, 123, 124, 125, 126, 127, 128, 129, 130, 131, 132, 133, 134, 135, 136, 137, 138, 139, 140, 141] rfl (by decide +kernel)
set_option maxRecDepth 20000 in
theorem gX5_feed_X5_hingeOfNode : GoodIn wsX5_feed (wsV RX5 129 RX5 yX5_hingeOfNode wsX5_hingeOfNode) := goodIn_app (goodIn_of _ (by decide +kernel)) ggX5_feed_X5_hingeOfNode
set_option maxRecDepth 20000 in
theorem ggX5_feed_X8_set : GoodIn wsX5_feed wsX8_set := goodIn_r _ [96, 53, 54, 97, 23, 98, 139, 140] rfl (by decide +kernel)
set_option maxRecDepth 20000 in
theorem gX5_feed_X8_set : GoodIn wsX5_feed (wsV RX5 58 RX8 yX8_set wsX8_set) := goodIn_app (goodIn_of _ (by decide +kernel)) ggX5_feed_X8_set
theorem dX5_feed_0 : decode cX5_feed 0 = .ok (.aload_n 0, 1) := by decide +kernel
theorem dX5_feed_1 : decode cX5_feed 1 = .ok (.getfield 41, 3) := by decide +kernel
theorem dX5_feed_4 : decode cX5_feed 4 = .ok (.iload_n 1, 1) := by decide +kernel
theorem dX5_feed_5 : decode cX5_feed 5 = .ok (.invokevirtual 62, 3) := by decide +kernel
theorem dX5_feed_8 : decode cX5_feed 8 = .ok (.astore 4, 2) := by decide +kernel
theorem dX5_feed_10 : decode cX5_feed 10 = .ok (.iconst (-1), 1) := by decide +kernel
theorem dX5_feed_11 : decode cX5_feed 11 = .ok (.istore 5, 2) := by decide +kernel
theorem dX5_feed_13 : decode cX5_feed 13 = .ok (.iconst 0, 1) := by decide +kernel
theorem dX5_feed_14 : decode cX5_feed 14 = .ok (.istore 6, 2) := by decide +kernel
theorem dX5_feed_16 : decode cX5_feed 16 = .ok (.iload 6, 2) := by decide +kernel
theorem dX5_feed_18 : decode cX5_feed 18 = .ok (.aload 4, 2) := by decide +kernel
theorem dX5_feed_20 : decode cX5_feed 20 = .ok (.invokevirtual 66, 3) := by decide +kernel
theorem dX5_feed_23 : decode cX5_feed 23 = .ok (.if_icmp .ge 62, 3) := by decide +kernel
theorem dX5_feed_26 : decode cX5_feed 26 = .ok (.aload 4, 2) := by decide +kernel
theorem dX5_feed_28 : decode cX5_feed 28 = .ok (.iload 6, 2) := by decide +kernel
theorem dX5_feed_30 : decode cX5_feed 30 = .ok (.invokevirtual 72, 3) := by decide +kernel
theorem dX5_feed_33 : decode cX5_feed 33 = .ok (.bipush 99, 2) := by decide +kernel
theorem dX5_feed_35 : decode cX5_feed 35 = .ok (.if_icmp .ne 13, 3) := by decide +kernel
theorem dX5_feed_38 : decode cX5_feed 38 = .ok (.aload_n 0, 1) := by decide +kernel
theorem dX5_feed_39 : decode cX5_feed 39 = .ok (.iload_n 1, 1) := by decide +kernel
theorem dX5_feed_40 : decode cX5_feed 40 = .ok (.iload 6, 2) := by decide +kernel
theorem dX5_feed_42 : decode cX5_feed 42 = .ok (.invokevirtual 126, 3) := by decide +kernel
theorem dX5_feed_45 : decode cX5_feed 45 = .ok (.goto 12, 3) := by decide +kernel
theorem dX5_feed_48 : decode cX5_feed 48 = .ok (.aload_n 0, 1) := by decide +kernel
theorem dX5_feed_49 : decode cX5_feed 49 = .ok (.iload_n 1, 1) := by decide +kernel
theorem dX5_feed_50 : decode cX5_feed 50 = .ok (.iload 6, 2) := by decide +kernel
theorem dX5_feed_52 : decode cX5_feed 52 = .ok (.iload_n 2, 1) := by decide +kernel
theorem dX5_feed_53 : decode cX5_feed 53 = .ok (.iload_n 3, 1) := by decide +kernel
theorem dX5_feed_54 : decode cX5_feed 54 = .ok (.invokevirtual 129, 3) := by decide +kernel
theorem dX5_feed_57 : decode cX5_feed 57 = .ok (.istore 5, 2) := by decide +kernel
theorem dX5_feed_59 : decode cX5_feed 59 = .ok (.iload 5, 2) := by decide +kernel
theorem dX5_feed_61 : decode cX5_feed 61 = .ok (.iconst (-1), 1) := by decide +kernel
theorem dX5_feed_62 : decode cX5_feed 62 = .ok (.if_icmp .ne 5, 3) := by decide +kernel
theorem dX5_feed_65 : decode cX5_feed 65 = .ok (.iconst (-1), 1) := by decide +kernel
theorem dX5_feed_66 : decode cX5_feed 66 = .ok (.ireturn, 1) := by decide +kernel
theorem dX5_feed_67 : decode cX5_feed 67 = .ok (.aload_n 0, 1) := by decide +kernel
theorem dX5_feed_68 : decode cX5_feed 68 = .ok (.getfield 29, 3) := by decide +kernel
theorem dX5_feed_71 : decode cX5_feed 71 = .ok (.iload_n 1, 1) := by decide +kernel
theorem dX5_feed_72 : decode cX5_feed 72 = .ok (.iload 6, 2) := by decide +kernel
theorem dX5_feed_74 : decode cX5_feed 74 = .ok (.iload 5, 2) := by decide +kernel
theorem dX5_feed_76 : decode cX5_feed 76 = .ok (.invokevirtual 58, 3) := by decide +kernel
theorem dX5_feed_79 : decode cX5_feed 79 = .ok (.iinc 6 1, 3) := by decide +kernel
theorem dX5_feed_82 : decode cX5_feed 82 = .ok (.goto (-66), 3) := by decide +kernel
theorem dX5_feed_85 : decode cX5_feed 85 = .ok (.iload 5, 2) := by decide +kernel
theorem dX5_feed_87 : decode cX5_feed 87 = .ok (.ireturn, 1) := by decide +kernel
set_option maxRecDepth 20000 in
theorem ggX5_hingeOfCall_X7_expressionOf : GoodIn wsX5_hingeOfCall wsX7_expressionOf := goodIn_r _ [9, 10, 11, 12, 13, 127, 128, 129, 130, 131] rfl (by decide +kernel)
set_option maxRecDepth 20000 in
theorem gX5_hingeOfCall_X7_expressionOf : GoodIn wsX5_hingeOfCall (wsV RX5 62 RX7 yX7_expressionOf wsX7_expressionOf) := goodIn_app (goodIn_of _ (by decide +kernel)) ggX5_hingeOfCall_X7_expressionOf
set_option maxRecDepth 20000 in
theorem ggX5_hingeOfCall_X1_number : GoodIn wsX5_hingeOfCall wsX1_number := goodIn_r _ [18, 19, 20, 21, 22, 132, 133, 134, 135, 136, 137, 138] rfl (by decide +kernel)
set_option maxRecDepth 20000 in
theorem gX5_hingeOfCall_X1_number : GoodIn wsX5_hingeOfCall (wsV RX5 83 RX1 yX1_number wsX1_number) := goodIn_app (goodIn_of _ (by decide +kernel)) ggX5_hingeOfCall_X1_number
set_option maxRecDepth 20000 in
theorem ggX5_hingeOfCall_X1_left : GoodIn wsX5_hingeOfCall wsX1_left := goodIn_r _ [26, 27, 132, 133, 134, 135, 136, 137, 138] rfl (by decide +kernel)
set_option maxRecDepth 20000 in
theorem gX5_hingeOfCall_X1_left : GoodIn wsX5_hingeOfCall (wsV RX5 86 RX1 yX1_left wsX1_left) := goodIn_app (goodIn_of _ (by decide +kernel)) ggX5_hingeOfCall_X1_left
set_option maxRecDepth 20000 in
theorem ggX5_hingeOfCall_X8_get : GoodIn wsX5_hingeOfCall wsX8_get := goodIn_r _ [32, 33, 34, 20, 21, 22, 139, 140] rfl (by decide +kernel)
set_option maxRecDepth 20000 in
theorem gX5_hingeOfCall_X8_get : GoodIn wsX5_hingeOfCall (wsV RX5 51 RX8 yX8_get wsX8_get) := goodIn_app (goodIn_of _ (by decide +kernel)) ggX5_hingeOfCall_X8_get
set_option maxRecDepth 20000 in
theorem ggX5_hingeOfCall_X5_mayUse : GoodIn wsX5_hingeOfCall wsX5_mayUse := goodIn_r _ [38] rfl (by decide +kernel)
set_option maxRecDepth 20000 in
theorem gX5_hingeOfCall_X5_mayUse : GoodIn wsX5_hingeOfCall (va_wsS RX5 89 yX5_mayUse wsX5_mayUse) := goodIn_app (goodIn_of _ (by decide +kernel)) ggX5_hingeOfCall_X5_mayUse
set_option maxRecDepth 20000 in
theorem ggX5_hingeOfCall_X5_hingeSlope : GoodIn wsX5_hingeOfCall wsX5_hingeSlope := goodIn_r _ [115, 116, 1, 3, 2, 28, 29, 30, 31, 32, 33, 34, 20, 21, 22, 117, 118, 119, 37, 5, 6, 7, 8, 9, 10, 11, 12, 13, 64, 65, 66, 17, 67, 68, 42, 43, 44, 45, 46, 47, 63, 4, 69, 70, 71, 72, 73, 74, 75, 76, 77, 78, 79, 80, 81, 82, 83, 48, 49, 50, 51, 52, 23, 24, 25, 26, 27, 84, 85, 86, 87, 88, 14, 15, 16, 18, 19, 89, 59, 60, 56, 61, 62, 90, 91, 92, 93, 58, 94, 95, 96, 97, 53, 54, 55, 57, 98, 99, 100, 101, 102, 103, 104, 105, 106, 107, 108, 109, 110, 111, 112, 113, 114, 0, 35, 36, 38, 39, 40, 41, 120, 121, 122, 123, 124, 125, 126, 127, 128, 129, 130, 131, 132, 133, 134, 135, 136, 137, 138, 139, 140, 141] rfl (by decide +kernel)
set_option maxRecDepth 20000 in
theorem gX5_hingeOfCall_X5_hingeSlope : GoodIn wsX5_hingeOfCall (wsV RX5 133 RX5 yX5_hingeSlope wsX5_hingeSlope) := goodIn_app (goodIn_of _ (by decide +kernel)) ggX5_hingeOfCall_X5_hingeSlope
set_option maxRecDepth 20000 in
theorem ggX5_hingeOfCall_X8_set : GoodIn wsX5_hingeOfCall wsX8_set := goodIn_r _ [45, 33, 34, 46, 21, 47, 139, 140] rfl (by decide +kernel)
set_option maxRecDepth 20000 in
theorem gX5_hingeOfCall_X8_set : GoodIn wsX5_hingeOfCall (wsV RX5 58 RX8 yX8_set wsX8_set) := goodIn_app (goodIn_of _ (by decide +kernel)) ggX5_hingeOfCall_X8_set
set_option maxRecDepth 20000 in
theorem ggX5_hingeOfCall_X7_numbers : GoodIn wsX5_hingeOfCall wsX7_numbers := goodIn_r _ [51, 52, 127, 128, 129, 130, 131] rfl (by decide +kernel)
set_option maxRecDepth 20000 in
theorem gX5_hingeOfCall_X7_numbers : GoodIn wsX5_hingeOfCall (wsV RX5 96 RX7 yX7_numbers wsX7_numbers) := goodIn_app (goodIn_of _ (by decide +kernel)) ggX5_hingeOfCall_X7_numbers
set_option maxRecDepth 20000 in
theorem ggX5_hingeOfCall_X6_multiply : GoodIn wsX5_hingeOfCall wsX6_multiply := goodIn_r _ [57, 58, 59, 60, 56, 61, 62, 141] rfl (by decide +kernel)
set_option maxRecDepth 20000 in
theorem gX5_hingeOfCall_X6_multiply : GoodIn wsX5_hingeOfCall (wsV RX5 114 RX6 yX6_multiply wsX6_multiply) := goodIn_app (goodIn_of _ (by decide +kernel)) ggX5_hingeOfCall_X6_multiply
theorem dX5_hingeOfCall_0 : decode cX5_hingeOfCall 0 = .ok (.aload_n 0, 1) := by decide +kernel
theorem dX5_hingeOfCall_1 : decode cX5_hingeOfCall 1 = .ok (.getfield 41, 3) := by decide +kernel
theorem dX5_hingeOfCall_4 : decode cX5_hingeOfCall 4 = .ok (.iload_n 1, 1) := by decide +kernel
theorem dX5_hingeOfCall_5 : decode cX5_hingeOfCall 5 = .ok (.invokevirtual 62, 3) := by decide +kernel
theorem dX5_hingeOfCall_8 : decode cX5_hingeOfCall 8 = .ok (.astore_n 3, 1) := by decide +kernel
theorem dX5_hingeOfCall_9 : decode cX5_hingeOfCall 9 = .ok (.aload_n 3, 1) := by decide +kernel
theorem dX5_hingeOfCall_10 : decode cX5_hingeOfCall 10 = .ok (.iload_n 2, 1) := by decide +kernel
theorem dX5_hingeOfCall_11 : decode cX5_hingeOfCall 11 = .ok (.invokevirtual 83, 3) := by decide +kernel
theorem dX5_hingeOfCall_14 : decode cX5_hingeOfCall 14 = .ok (.istore 4, 2) := by decide +kernel
theorem dX5_hingeOfCall_16 : decode cX5_hingeOfCall 16 = .ok (.aload_n 0, 1) := by decide +kernel
theorem dX5_hingeOfCall_17 : decode cX5_hingeOfCall 17 = .ok (.getfield 26, 3) := by decide +kernel
theorem dX5_hingeOfCall_20 : decode cX5_hingeOfCall 20 = .ok (.iload_n 1, 1) := by decide +kernel
theorem dX5_hingeOfCall_21 : decode cX5_hingeOfCall 21 = .ok (.aload_n 3, 1) := by decide +kernel
theorem dX5_hingeOfCall_22 : decode cX5_hingeOfCall 22 = .ok (.iload_n 2, 1) := by decide +kernel
theorem dX5_hingeOfCall_23 : decode cX5_hingeOfCall 23 = .ok (.invokevirtual 86, 3) := by decide +kernel
theorem dX5_hingeOfCall_26 : decode cX5_hingeOfCall 26 = .ok (.invokevirtual 51, 3) := by decide +kernel
theorem dX5_hingeOfCall_29 : decode cX5_hingeOfCall 29 = .ok (.istore 5, 2) := by decide +kernel
theorem dX5_hingeOfCall_31 : decode cX5_hingeOfCall 31 = .ok (.iload_n 1, 1) := by decide +kernel
theorem dX5_hingeOfCall_32 : decode cX5_hingeOfCall 32 = .ok (.iload 4, 2) := by decide +kernel
theorem dX5_hingeOfCall_34 : decode cX5_hingeOfCall 34 = .ok (.invokestatic 89, 3) := by decide +kernel
theorem dX5_hingeOfCall_37 : decode cX5_hingeOfCall 37 = .ok (.ifCond .eq 14, 3) := by decide +kernel
theorem dX5_hingeOfCall_40 : decode cX5_hingeOfCall 40 = .ok (.aload_n 0, 1) := by decide +kernel
theorem dX5_hingeOfCall_41 : decode cX5_hingeOfCall 41 = .ok (.iload 4, 2) := by decide +kernel
theorem dX5_hingeOfCall_43 : decode cX5_hingeOfCall 43 = .ok (.iload 5, 2) := by decide +kernel
theorem dX5_hingeOfCall_45 : decode cX5_hingeOfCall 45 = .ok (.invokevirtual 133, 3) := by decide +kernel
theorem dX5_hingeOfCall_48 : decode cX5_hingeOfCall 48 = .ok (.goto 4, 3) := by decide +kernel
theorem dX5_hingeOfCall_51 : decode cX5_hingeOfCall 51 = .ok (.iconst (-1), 1) := by decide +kernel
theorem dX5_hingeOfCall_52 : decode cX5_hingeOfCall 52 = .ok (.istore 6, 2) := by decide +kernel
theorem dX5_hingeOfCall_54 : decode cX5_hingeOfCall 54 = .ok (.iload 6, 2) := by decide +kernel
theorem dX5_hingeOfCall_56 : decode cX5_hingeOfCall 56 = .ok (.iconst (-1), 1) := by decide +kernel
theorem dX5_hingeOfCall_57 : decode cX5_hingeOfCall 57 = .ok (.if_icmp .ne 5, 3) := by decide +kernel
theorem dX5_hingeOfCall_60 : decode cX5_hingeOfCall 60 = .ok (.iconst (-1), 1) := by decide +kernel
theorem dX5_hingeOfCall_61 : decode cX5_hingeOfCall 61 = .ok (.ireturn, 1) := by decide +kernel
theorem dX5_hingeOfCall_62 : decode cX5_hingeOfCall 62 = .ok (.aload_n 0, 1) := by decide +kernel
theorem dX5_hingeOfCall_63 : decode cX5_hingeOfCall 63 = .ok (.getfield 26, 3) := by decide +kernel
theorem dX5_hingeOfCall_66 : decode cX5_hingeOfCall 66 = .ok (.iload_n 1, 1) := by decide +kernel
theorem dX5_hingeOfCall_67 : decode cX5_hingeOfCall 67 = .ok (.iload_n 2, 1) := by decide +kernel
theorem dX5_hingeOfCall_68 : decode cX5_hingeOfCall 68 = .ok (.aload_n 0, 1) := by decide +kernel
theorem dX5_hingeOfCall_69 : decode cX5_hingeOfCall 69 = .ok (.getfield 14, 3) := by decide +kernel
theorem dX5_hingeOfCall_72 : decode cX5_hingeOfCall 72 = .ok (.iload 4, 2) := by decide +kernel
theorem dX5_hingeOfCall_74 : decode cX5_hingeOfCall 74 = .ok (.iload 5, 2) := by decide +kernel
theorem dX5_hingeOfCall_76 : decode cX5_hingeOfCall 76 = .ok (.invokevirtual 51, 3) := by decide +kernel
theorem dX5_hingeOfCall_79 : decode cX5_hingeOfCall 79 = .ok (.invokevirtual 58, 3) := by decide +kernel
theorem dX5_hingeOfCall_82 : decode cX5_hingeOfCall 82 = .ok (.aload_n 0, 1) := by decide +kernel
theorem dX5_hingeOfCall_83 : decode cX5_hingeOfCall 83 = .ok (.getfield 41, 3) := by decide +kernel
theorem dX5_hingeOfCall_86 : decode cX5_hingeOfCall 86 = .ok (.invokevirtual 96, 3) := by decide +kernel
theorem dX5_hingeOfCall_89 : decode cX5_hingeOfCall 89 = .ok (.iload 6, 2) := by decide +kernel
theorem dX5_hingeOfCall_91 : decode cX5_hingeOfCall 91 = .ok (.aload_n 0, 1) := by decide +kernel
theorem dX5_hingeOfCall_92 : decode cX5_hingeOfCall 92 = .ok (.getfield 29, 3) := by decide +kernel
theorem dX5_hingeOfCall_95 : decode cX5_hingeOfCall 95 = .ok (.iload_n 1, 1) := by decide +kernel
theorem dX5_hingeOfCall_96 : decode cX5_hingeOfCall 96 = .ok (.aload_n 3, 1) := by decide +kernel
theorem dX5_hingeOfCall_97 : decode cX5_hingeOfCall 97 = .ok (.iload_n 2, 1) := by decide +kernel
theorem dX5_hingeOfCall_98 : decode cX5_hingeOfCall 98 = .ok (.invokevirtual 86, 3) := by decide +kernel
theorem dX5_hingeOfCall_101 : decode cX5_hingeOfCall 101 = .ok (.invokevirtual 51, 3) := by decide +kernel
theorem dX5_hingeOfCall_104 : decode cX5_hingeOfCall 104 = .ok (.invokevirtual 114, 3) := by decide +kernel
theorem dX5_hingeOfCall_107 : decode cX5_hingeOfCall 107 = .ok (.ireturn, 1) := by decide +kernel
set_option maxRecDepth 20000 in
theorem ggX5_hingeOfNode_X5_valueOfNode : GoodIn wsX5_hingeOfNode wsX5_valueOfNode := goodIn_r _ [6, 7, 1, 8, 9, 10, 11, 12, 13, 14, 15, 16, 17, 18, 19, 20, 21, 22, 23, 24, 25, 26, 27, 28, 29, 30, 31, 32, 33, 34, 35, 36, 37, 38, 39, 40, 41, 42, 43, 44, 45, 46, 47, 48, 49, 50, 51, 52, 53, 54, 55, 56, 57, 58, 59, 60, 61, 62, 63, 64, 65, 66, 67, 68, 69, 70, 71, 72, 73, 74, 75, 76, 77, 78, 79, 80, 96, 97, 98, 99, 100, 101, 102, 103, 104, 105, 106, 107, 108, 109, 110, 111, 112, 113, 114, 115, 116, 117] rfl (by decide +kernel)
set_option maxRecDepth 20000 in
theorem gX5_hingeOfNode_X5_valueOfNode : GoodIn wsX5_hingeOfNode (wsV RX5 79 RX5 yX5_valueOfNode wsX5_valueOfNode) := goodIn_app (goodIn_of _ (by decide +kernel)) ggX5_hingeOfNode_X5_valueOfNode
set_option maxRecDepth 20000 in
theorem ggX5_hingeOfNode_X8_set : GoodIn wsX5_hingeOfNode wsX8_set := goodIn_r _ [84, 33, 34, 85, 36, 86, 115, 116] rfl (by decide +kernel)
set_option maxRecDepth 20000 in
theorem gX5_hingeOfNode_X8_set : GoodIn wsX5_hingeOfNode (wsV RX5 58 RX8 yX8_set wsX8_set) := goodIn_app (goodIn_of _ (by decide +kernel)) ggX5_hingeOfNode_X8_set
set_option maxRecDepth 20000 in
theorem ggX5_hingeOfNode_X5_slopeOfNode : GoodIn wsX5_hingeOfNode wsX5_slopeOfNode := goodIn_r _ [90, 7, 1, 91, 8, 9, 10, 11, 12, 13, 14, 15, 16, 17, 18, 19, 20, 21, 22, 23, 24, 25, 26, 27, 28, 29, 30, 31, 32, 33, 34, 35, 36, 37, 38, 39, 40, 41, 42, 43, 44, 45, 46, 47, 59, 60, 61, 56, 62, 63, 54, 55, 57, 58, 64, 65, 66, 67, 53, 68, 69, 70, 71, 72, 73, 74, 75, 76, 77, 78, 79, 48, 49, 50, 51, 52, 92, 93, 94, 95, 96, 97, 98, 99, 100, 101, 102, 103, 104, 105, 106, 107, 108, 109, 110, 111, 112, 113, 114, 115, 116, 117] rfl (by decide +kernel)
set_option maxRecDepth 20000 in
theorem gX5_hingeOfNode_X5_slopeOfNode : GoodIn wsX5_hingeOfNode (wsV RX5 136 RX5 yX5_slopeOfNode wsX5_slopeOfNode) := goodIn_app (goodIn_of _ (by decide +kernel)) ggX5_hingeOfNode_X5_slopeOfNode
theorem dX5_hingeOfNode_0 : decode cX5_hingeOfNode 0 = .ok (.aload_n 0, 1) := by decide +kernel
theorem dX5_hingeOfNode_1 : decode cX5_hingeOfNode 1 = .ok (.iload_n 1, 1) := by decide +kernel
theorem dX5_hingeOfNode_2 : decode cX5_hingeOfNode 2 = .ok (.iload_n 2, 1) := by decide +kernel
theorem dX5_hingeOfNode_3 : decode cX5_hingeOfNode 3 = .ok (.iload_n 3, 1) := by decide +kernel
theorem dX5_hingeOfNode_4 : decode cX5_hingeOfNode 4 = .ok (.invokevirtual 79, 3) := by decide +kernel
theorem dX5_hingeOfNode_7 : decode cX5_hingeOfNode 7 = .ok (.istore 5, 2) := by decide +kernel
theorem dX5_hingeOfNode_9 : decode cX5_hingeOfNode 9 = .ok (.iload 5, 2) := by decide +kernel
theorem dX5_hingeOfNode_11 : decode cX5_hingeOfNode 11 = .ok (.iconst (-1), 1) := by decide +kernel
theorem dX5_hingeOfNode_12 : decode cX5_hingeOfNode 12 = .ok (.if_icmp .ne 5, 3) := by decide +kernel
theorem dX5_hingeOfNode_15 : decode cX5_hingeOfNode 15 = .ok (.iconst (-1), 1) := by decide +kernel
theorem dX5_hingeOfNode_16 : decode cX5_hingeOfNode 16 = .ok (.ireturn, 1) := by decide +kernel
theorem dX5_hingeOfNode_17 : decode cX5_hingeOfNode 17 = .ok (.aload_n 0, 1) := by decide +kernel
theorem dX5_hingeOfNode_18 : decode cX5_hingeOfNode 18 = .ok (.getfield 26, 3) := by decide +kernel
theorem dX5_hingeOfNode_21 : decode cX5_hingeOfNode 21 = .ok (.iload_n 1, 1) := by decide +kernel
theorem dX5_hingeOfNode_22 : decode cX5_hingeOfNode 22 = .ok (.iload_n 2, 1) := by decide +kernel
theorem dX5_hingeOfNode_23 : decode cX5_hingeOfNode 23 = .ok (.iload 5, 2) := by decide +kernel
theorem dX5_hingeOfNode_25 : decode cX5_hingeOfNode 25 = .ok (.invokevirtual 58, 3) := by decide +kernel
theorem dX5_hingeOfNode_28 : decode cX5_hingeOfNode 28 = .ok (.aload_n 0, 1) := by decide +kernel
theorem dX5_hingeOfNode_29 : decode cX5_hingeOfNode 29 = .ok (.iload_n 1, 1) := by decide +kernel
theorem dX5_hingeOfNode_30 : decode cX5_hingeOfNode 30 = .ok (.iload_n 2, 1) := by decide +kernel
theorem dX5_hingeOfNode_31 : decode cX5_hingeOfNode 31 = .ok (.iload 4, 2) := by decide +kernel
theorem dX5_hingeOfNode_33 : decode cX5_hingeOfNode 33 = .ok (.invokevirtual 136, 3) := by decide +kernel
theorem dX5_hingeOfNode_36 : decode cX5_hingeOfNode 36 = .ok (.ireturn, 1) := by decide +kernel
set_option maxRecDepth 20000 in
theorem ggX5_slopeOfNode_X7_expressionOf : GoodIn wsX5_slopeOfNode wsX7_expressionOf := goodIn_r _ [8, 9, 10, 11, 12, 87, 88, 89, 90, 91] rfl (by decide +kernel)
set_option maxRecDepth 20000 in
theorem gX5_slopeOfNode_X7_expressionOf : GoodIn wsX5_slopeOfNode (wsV RX5 62 RX7 yX7_expressionOf wsX7_expressionOf) := goodIn_app (goodIn_of _ (by decide +kernel)) ggX5_slopeOfNode_X7_expressionOf
set_option maxRecDepth 20000 in
theorem ggX5_slopeOfNode_X7_numbers : GoodIn wsX5_slopeOfNode wsX7_numbers := goodIn_r _ [16, 17, 87, 88, 89, 90, 91] rfl (by decide +kernel)
set_option maxRecDepth 20000 in
theorem gX5_slopeOfNode_X7_numbers : GoodIn wsX5_slopeOfNode (wsV RX5 96 RX7 yX7_numbers wsX7_numbers) := goodIn_app (goodIn_of _ (by decide +kernel)) ggX5_slopeOfNode_X7_numbers
set_option maxRecDepth 20000 in
theorem ggX5_slopeOfNode_X1_left : GoodIn wsX5_slopeOfNode wsX1_left := goodIn_r _ [22, 23, 92, 93, 94, 95, 96, 97, 98] rfl (by decide +kernel)
set_option maxRecDepth 20000 in
theorem gX5_slopeOfNode_X1_left : GoodIn wsX5_slopeOfNode (wsV RX5 86 RX1 yX1_left wsX1_left) := goodIn_app (goodIn_of _ (by decide +kernel)) ggX5_slopeOfNode_X1_left
set_option maxRecDepth 20000 in
theorem ggX5_slopeOfNode_X8_get : GoodIn wsX5_slopeOfNode wsX8_get := goodIn_r _ [28, 29, 30, 31, 32, 33, 99, 100] rfl (by decide +kernel)
set_option maxRecDepth 20000 in
theorem gX5_slopeOfNode_X8_get : GoodIn wsX5_slopeOfNode (wsV RX5 51 RX8 yX8_get wsX8_get) := goodIn_app (goodIn_of _ (by decide +kernel)) ggX5_slopeOfNode_X8_get
set_option maxRecDepth 20000 in
theorem ggX5_slopeOfNode_X1_right : GoodIn wsX5_slopeOfNode wsX1_right := goodIn_r _ [37, 38, 92, 93, 94, 95, 96, 97, 98] rfl (by decide +kernel)
set_option maxRecDepth 20000 in
theorem gX5_slopeOfNode_X1_right : GoodIn wsX5_slopeOfNode (wsV RX5 100 RX1 yX1_right wsX1_right) := goodIn_app (goodIn_of _ (by decide +kernel)) ggX5_slopeOfNode_X1_right
set_option maxRecDepth 20000 in
theorem ggX5_slopeOfNode_X1_kind : GoodIn wsX5_slopeOfNode wsX1_kind := goodIn_r _ [42, 43, 31, 32, 33, 92, 93, 94, 95, 96, 97, 98] rfl (by decide +kernel)
set_option maxRecDepth 20000 in
theorem gX5_slopeOfNode_X1_kind : GoodIn wsX5_slopeOfNode (wsV RX5 72 RX1 yX1_kind wsX1_kind) := goodIn_app (goodIn_of _ (by decide +kernel)) ggX5_slopeOfNode_X1_kind
set_option maxRecDepth 20000 in
theorem ggX5_slopeOfNode_X6_subtract : GoodIn wsX5_slopeOfNode wsX6_subtract := goodIn_r _ [48, 49, 50, 51, 47, 52, 53, 101] rfl (by decide +kernel)
set_option maxRecDepth 20000 in
theorem gX5_slopeOfNode_X6_subtract : GoodIn wsX5_slopeOfNode (wsV RX5 108 RX6 yX6_subtract wsX6_subtract) := goodIn_app (goodIn_of _ (by decide +kernel)) ggX5_slopeOfNode_X6_subtract
set_option maxRecDepth 20000 in
theorem ggX5_slopeOfNode_X6_add : GoodIn wsX5_slopeOfNode wsX6_add := goodIn_r _ [57, 49, 50, 51, 47, 52, 53, 101] rfl (by decide +kernel)
set_option maxRecDepth 20000 in
theorem gX5_slopeOfNode_X6_add : GoodIn wsX5_slopeOfNode (wsV RX5 111 RX6 yX6_add wsX6_add) := goodIn_app (goodIn_of _ (by decide +kernel)) ggX5_slopeOfNode_X6_add
set_option maxRecDepth 20000 in
theorem ggX5_slopeOfNode_X6_of : GoodIn wsX5_slopeOfNode wsX6_of := goodIn_r _ [52, 53, 101] rfl (by decide +kernel)
set_option maxRecDepth 20000 in
theorem gX5_slopeOfNode_X6_of : GoodIn wsX5_slopeOfNode (wsV RX5 103 RX6 yX6_of wsX6_of) := goodIn_app (goodIn_of _ (by decide +kernel)) ggX5_slopeOfNode_X6_of
set_option maxRecDepth 20000 in
theorem ggX5_slopeOfNode_X6_multiply : GoodIn wsX5_slopeOfNode wsX6_multiply := goodIn_r _ [62, 49, 50, 51, 47, 52, 53, 101] rfl (by decide +kernel)
set_option maxRecDepth 20000 in
theorem gX5_slopeOfNode_X6_multiply : GoodIn wsX5_slopeOfNode (wsV RX5 114 RX6 yX6_multiply wsX6_multiply) := goodIn_app (goodIn_of _ (by decide +kernel)) ggX5_slopeOfNode_X6_multiply
set_option maxRecDepth 20000 in
theorem ggX5_slopeOfNode_X6_divide : GoodIn wsX5_slopeOfNode wsX6_divide := goodIn_r _ [66, 53, 67, 68, 69, 47, 70, 49, 50, 51, 52, 101] rfl (by decide +kernel)
set_option maxRecDepth 20000 in
theorem gX5_slopeOfNode_X6_divide : GoodIn wsX5_slopeOfNode (wsV RX5 117 RX6 yX6_divide wsX6_divide) := goodIn_app (goodIn_of _ (by decide +kernel)) ggX5_slopeOfNode_X6_divide
set_option maxRecDepth 20000 in
theorem ggX5_slopeOfNode_X1_number : GoodIn wsX5_slopeOfNode wsX1_number := goodIn_r _ [74, 75, 31, 32, 33, 92, 93, 94, 95, 96, 97, 98] rfl (by decide +kernel)
set_option maxRecDepth 20000 in
theorem gX5_slopeOfNode_X1_number : GoodIn wsX5_slopeOfNode (wsV RX5 83 RX1 yX1_number wsX1_number) := goodIn_app (goodIn_of _ (by decide +kernel)) ggX5_slopeOfNode_X1_number
set_option maxRecDepth 20000 in
theorem ggX5_slopeOfNode_X6_powerSlope : GoodIn wsX5_slopeOfNode wsX6_powerSlope := goodIn_r _ [79, 67, 68, 69, 47, 70, 53, 49, 50, 51, 52, 101] rfl (by decide +kernel)
set_option maxRecDepth 20000 in
theorem gX5_slopeOfNode_X6_powerSlope : GoodIn wsX5_slopeOfNode (wsV RX5 139 RX6 yX6_powerSlope wsX6_powerSlope) := goodIn_app (goodIn_of _ (by decide +kernel)) ggX5_slopeOfNode_X6_powerSlope
theorem dX5_slopeOfNode_0 : decode cX5_slopeOfNode 0 = .ok (.aload_n 0, 1) := by decide +kernel
theorem dX5_slopeOfNode_1 : decode cX5_slopeOfNode 1 = .ok (.getfield 41, 3) := by decide +kernel
theorem dX5_slopeOfNode_4 : decode cX5_slopeOfNode 4 = .ok (.iload_n 1, 1) := by decide +kernel
theorem dX5_slopeOfNode_5 : decode cX5_slopeOfNode 5 = .ok (.invokevirtual 62, 3) := by decide +kernel
theorem dX5_slopeOfNode_8 : decode cX5_slopeOfNode 8 = .ok (.astore 4, 2) := by decide +kernel
theorem dX5_slopeOfNode_10 : decode cX5_slopeOfNode 10 = .ok (.aload_n 0, 1) := by decide +kernel
theorem dX5_slopeOfNode_11 : decode cX5_slopeOfNode 11 = .ok (.getfield 41, 3) := by decide +kernel
theorem dX5_slopeOfNode_14 : decode cX5_slopeOfNode 14 = .ok (.invokevirtual 96, 3) := by decide +kernel
theorem dX5_slopeOfNode_17 : decode cX5_slopeOfNode 17 = .ok (.astore 5, 2) := by decide +kernel
theorem dX5_slopeOfNode_19 : decode cX5_slopeOfNode 19 = .ok (.aload_n 0, 1) := by decide +kernel
theorem dX5_slopeOfNode_20 : decode cX5_slopeOfNode 20 = .ok (.getfield 26, 3) := by decide +kernel
theorem dX5_slopeOfNode_23 : decode cX5_slopeOfNode 23 = .ok (.iload_n 1, 1) := by decide +kernel
theorem dX5_slopeOfNode_24 : decode cX5_slopeOfNode 24 = .ok (.aload 4, 2) := by decide +kernel
theorem dX5_slopeOfNode_26 : decode cX5_slopeOfNode 26 = .ok (.iload_n 2, 1) := by decide +kernel
theorem dX5_slopeOfNode_27 : decode cX5_slopeOfNode 27 = .ok (.invokevirtual 86, 3) := by decide +kernel
theorem dX5_slopeOfNode_30 : decode cX5_slopeOfNode 30 = .ok (.invokevirtual 51, 3) := by decide +kernel
theorem dX5_slopeOfNode_33 : decode cX5_slopeOfNode 33 = .ok (.istore 6, 2) := by decide +kernel
theorem dX5_slopeOfNode_35 : decode cX5_slopeOfNode 35 = .ok (.aload_n 0, 1) := by decide +kernel
theorem dX5_slopeOfNode_36 : decode cX5_slopeOfNode 36 = .ok (.getfield 26, 3) := by decide +kernel
theorem dX5_slopeOfNode_39 : decode cX5_slopeOfNode 39 = .ok (.iload_n 1, 1) := by decide +kernel
theorem dX5_slopeOfNode_40 : decode cX5_slopeOfNode 40 = .ok (.aload 4, 2) := by decide +kernel
theorem dX5_slopeOfNode_42 : decode cX5_slopeOfNode 42 = .ok (.iload_n 2, 1) := by decide +kernel
theorem dX5_slopeOfNode_43 : decode cX5_slopeOfNode 43 = .ok (.invokevirtual 100, 3) := by decide +kernel
theorem dX5_slopeOfNode_46 : decode cX5_slopeOfNode 46 = .ok (.invokevirtual 51, 3) := by decide +kernel
theorem dX5_slopeOfNode_49 : decode cX5_slopeOfNode 49 = .ok (.istore 7, 2) := by decide +kernel
theorem dX5_slopeOfNode_51 : decode cX5_slopeOfNode 51 = .ok (.aload_n 0, 1) := by decide +kernel
theorem dX5_slopeOfNode_52 : decode cX5_slopeOfNode 52 = .ok (.getfield 29, 3) := by decide +kernel
theorem dX5_slopeOfNode_55 : decode cX5_slopeOfNode 55 = .ok (.iload_n 1, 1) := by decide +kernel
theorem dX5_slopeOfNode_56 : decode cX5_slopeOfNode 56 = .ok (.aload 4, 2) := by decide +kernel
theorem dX5_slopeOfNode_58 : decode cX5_slopeOfNode 58 = .ok (.iload_n 2, 1) := by decide +kernel
theorem dX5_slopeOfNode_59 : decode cX5_slopeOfNode 59 = .ok (.invokevirtual 86, 3) := by decide +kernel
theorem dX5_slopeOfNode_62 : decode cX5_slopeOfNode 62 = .ok (.invokevirtual 51, 3) := by decide +kernel
theorem dX5_slopeOfNode_65 : decode cX5_slopeOfNode 65 = .ok (.istore 8, 2) := by decide +kernel
theorem dX5_slopeOfNode_67 : decode cX5_slopeOfNode 67 = .ok (.aload_n 0, 1) := by decide +kernel
theorem dX5_slopeOfNode_68 : decode cX5_slopeOfNode 68 = .ok (.getfield 29, 3) := by decide +kernel
theorem dX5_slopeOfNode_71 : decode cX5_slopeOfNode 71 = .ok (.iload_n 1, 1) := by decide +kernel
theorem dX5_slopeOfNode_72 : decode cX5_slopeOfNode 72 = .ok (.aload 4, 2) := by decide +kernel
theorem dX5_slopeOfNode_74 : decode cX5_slopeOfNode 74 = .ok (.iload_n 2, 1) := by decide +kernel
theorem dX5_slopeOfNode_75 : decode cX5_slopeOfNode 75 = .ok (.invokevirtual 100, 3) := by decide +kernel
theorem dX5_slopeOfNode_78 : decode cX5_slopeOfNode 78 = .ok (.invokevirtual 51, 3) := by decide +kernel
theorem dX5_slopeOfNode_81 : decode cX5_slopeOfNode 81 = .ok (.istore 9, 2) := by decide +kernel
theorem dX5_slopeOfNode_83 : decode cX5_slopeOfNode 83 = .ok (.aload 4, 2) := by decide +kernel
theorem dX5_slopeOfNode_85 : decode cX5_slopeOfNode 85 = .ok (.iload_n 2, 1) := by decide +kernel
theorem dX5_slopeOfNode_86 : decode cX5_slopeOfNode 86 = .ok (.invokevirtual 72, 3) := by decide +kernel
theorem dX5_slopeOfNode_89 : decode cX5_slopeOfNode 89 = .ok (.lookupswitch 167 #[(42, 98), (43, 78), (45, 88), (47, 115), (94, 146), (110, 69), (120, 67)], 67) := by decide +kernel
theorem dX5_slopeOfNode_156 : decode cX5_slopeOfNode 156 = .ok (.iload_n 3, 1) := by decide +kernel
theorem dX5_slopeOfNode_157 : decode cX5_slopeOfNode 157 = .ok (.ireturn, 1) := by decide +kernel
theorem dX5_slopeOfNode_158 : decode cX5_slopeOfNode 158 = .ok (.aload 5, 2) := by decide +kernel
theorem dX5_slopeOfNode_160 : decode cX5_slopeOfNode 160 = .ok (.iconst 0, 1) := by decide +kernel
theorem dX5_slopeOfNode_161 : decode cX5_slopeOfNode 161 = .ok (.iload 8, 2) := by decide +kernel
theorem dX5_slopeOfNode_163 : decode cX5_slopeOfNode 163 = .ok (.invokevirtual 108, 3) := by decide +kernel
theorem dX5_slopeOfNode_166 : decode cX5_slopeOfNode 166 = .ok (.ireturn, 1) := by decide +kernel
theorem dX5_slopeOfNode_167 : decode cX5_slopeOfNode 167 = .ok (.aload 5, 2) := by decide +kernel
theorem dX5_slopeOfNode_169 : decode cX5_slopeOfNode 169 = .ok (.iload 8, 2) := by decide +kernel
theorem dX5_slopeOfNode_171 : decode cX5_slopeOfNode 171 = .ok (.iload 9, 2) := by decide +kernel
theorem dX5_slopeOfNode_173 : decode cX5_slopeOfNode 173 = .ok (.invokevirtual 111, 3) := by decide +kernel
theorem dX5_slopeOfNode_176 : decode cX5_slopeOfNode 176 = .ok (.ireturn, 1) := by decide +kernel
theorem dX5_slopeOfNode_177 : decode cX5_slopeOfNode 177 = .ok (.aload 5, 2) := by decide +kernel
theorem dX5_slopeOfNode_179 : decode cX5_slopeOfNode 179 = .ok (.iload 8, 2) := by decide +kernel
theorem dX5_slopeOfNode_181 : decode cX5_slopeOfNode 181 = .ok (.iload 9, 2) := by decide +kernel
theorem dX5_slopeOfNode_183 : decode cX5_slopeOfNode 183 = .ok (.invokevirtual 108, 3) := by decide +kernel
theorem dX5_slopeOfNode_186 : decode cX5_slopeOfNode 186 = .ok (.ireturn, 1) := by decide +kernel
theorem dX5_slopeOfNode_187 : decode cX5_slopeOfNode 187 = .ok (.aload 5, 2) := by decide +kernel
theorem dX5_slopeOfNode_189 : decode cX5_slopeOfNode 189 = .ok (.iload 8, 2) := by decide +kernel
theorem dX5_slopeOfNode_191 : decode cX5_slopeOfNode 191 = .ok (.iload 7, 2) := by decide +kernel
theorem dX5_slopeOfNode_193 : decode cX5_slopeOfNode 193 = .ok (.imul, 1) := by decide +kernel
theorem dX5_slopeOfNode_194 : decode cX5_slopeOfNode 194 = .ok (.iload 6, 2) := by decide +kernel
theorem dX5_slopeOfNode_196 : decode cX5_slopeOfNode 196 = .ok (.iload 9, 2) := by decide +kernel
theorem dX5_slopeOfNode_198 : decode cX5_slopeOfNode 198 = .ok (.imul, 1) := by decide +kernel
theorem dX5_slopeOfNode_199 : decode cX5_slopeOfNode 199 = .ok (.iadd, 1) := by decide +kernel
theorem dX5_slopeOfNode_200 : decode cX5_slopeOfNode 200 = .ok (.invokevirtual 103, 3) := by decide +kernel
theorem dX5_slopeOfNode_203 : decode cX5_slopeOfNode 203 = .ok (.ireturn, 1) := by decide +kernel
theorem dX5_slopeOfNode_204 : decode cX5_slopeOfNode 204 = .ok (.aload 5, 2) := by decide +kernel
theorem dX5_slopeOfNode_206 : decode cX5_slopeOfNode 206 = .ok (.aload 5, 2) := by decide +kernel
theorem dX5_slopeOfNode_208 : decode cX5_slopeOfNode 208 = .ok (.iload 8, 2) := by decide +kernel
theorem dX5_slopeOfNode_210 : decode cX5_slopeOfNode 210 = .ok (.iload 7, 2) := by decide +kernel
theorem dX5_slopeOfNode_212 : decode cX5_slopeOfNode 212 = .ok (.imul, 1) := by decide +kernel
theorem dX5_slopeOfNode_213 : decode cX5_slopeOfNode 213 = .ok (.iload 6, 2) := by decide +kernel
theorem dX5_slopeOfNode_215 : decode cX5_slopeOfNode 215 = .ok (.iload 9, 2) := by decide +kernel
theorem dX5_slopeOfNode_217 : decode cX5_slopeOfNode 217 = .ok (.imul, 1) := by decide +kernel
theorem dX5_slopeOfNode_218 : decode cX5_slopeOfNode 218 = .ok (.isub, 1) := by decide +kernel
theorem dX5_slopeOfNode_219 : decode cX5_slopeOfNode 219 = .ok (.invokevirtual 103, 3) := by decide +kernel
theorem dX5_slopeOfNode_222 : decode cX5_slopeOfNode 222 = .ok (.aload 5, 2) := by decide +kernel
theorem dX5_slopeOfNode_224 : decode cX5_slopeOfNode 224 = .ok (.iload 7, 2) := by decide +kernel
theorem dX5_slopeOfNode_226 : decode cX5_slopeOfNode 226 = .ok (.iload 7, 2) := by decide +kernel
theorem dX5_slopeOfNode_228 : decode cX5_slopeOfNode 228 = .ok (.invokevirtual 114, 3) := by decide +kernel
theorem dX5_slopeOfNode_231 : decode cX5_slopeOfNode 231 = .ok (.invokevirtual 117, 3) := by decide +kernel
theorem dX5_slopeOfNode_234 : decode cX5_slopeOfNode 234 = .ok (.ireturn, 1) := by decide +kernel
theorem dX5_slopeOfNode_235 : decode cX5_slopeOfNode 235 = .ok (.aload 5, 2) := by decide +kernel
theorem dX5_slopeOfNode_237 : decode cX5_slopeOfNode 237 = .ok (.aload 5, 2) := by decide +kernel
theorem dX5_slopeOfNode_239 : decode cX5_slopeOfNode 239 = .ok (.iload 6, 2) := by decide +kernel
theorem dX5_slopeOfNode_241 : decode cX5_slopeOfNode 241 = .ok (.aload 4, 2) := by decide +kernel
theorem dX5_slopeOfNode_243 : decode cX5_slopeOfNode 243 = .ok (.iload_n 2, 1) := by decide +kernel
theorem dX5_slopeOfNode_244 : decode cX5_slopeOfNode 244 = .ok (.invokevirtual 83, 3) := by decide +kernel
theorem dX5_slopeOfNode_247 : decode cX5_slopeOfNode 247 = .ok (.invokevirtual 139, 3) := by decide +kernel
theorem dX5_slopeOfNode_250 : decode cX5_slopeOfNode 250 = .ok (.iload 8, 2) := by decide +kernel
theorem dX5_slopeOfNode_252 : decode cX5_slopeOfNode 252 = .ok (.invokevirtual 114, 3) := by decide +kernel
theorem dX5_slopeOfNode_255 : decode cX5_slopeOfNode 255 = .ok (.ireturn, 1) := by decide +kernel
theorem dX5_slopeOfNode_256 : decode cX5_slopeOfNode 256 = .ok (.iconst 0, 1) := by decide +kernel
theorem dX5_slopeOfNode_257 : decode cX5_slopeOfNode 257 = .ok (.ireturn, 1) := by decide +kernel
set_option maxRecDepth 20000 in
theorem ggX5_ruleSlope_X8_get : GoodIn wsX5_ruleSlope wsX8_get := goodIn_r _ [6, 7, 8, 9, 10, 11, 151, 152] rfl (by decide +kernel)
set_option maxRecDepth 20000 in
theorem gX5_ruleSlope_X8_get : GoodIn wsX5_ruleSlope (wsV RX5 51 RX8 yX8_get wsX8_get) := goodIn_app (goodIn_of _ (by decide +kernel)) ggX5_ruleSlope_X8_get
set_option maxRecDepth 20000 in
theorem ggX5_ruleSlope_X5_reckonValues : GoodIn wsX5_ruleSlope wsX5_reckonValues := goodIn_r _ [16, 17, 18, 19, 20, 21, 22, 23, 24, 25, 26, 27, 28, 29, 30, 31, 32, 33, 34, 35, 36, 37, 9, 10, 11, 38, 39, 40, 15, 41, 42, 43, 44, 45, 46, 47, 48, 49, 50, 51, 52, 53, 54, 2, 3, 4, 5, 6, 7, 8, 55, 56, 57, 58, 59, 60, 61, 62, 63, 64, 65, 66, 67, 68, 69, 70, 71, 72, 73, 74, 75, 76, 77, 78, 79, 80, 81, 82, 83, 84, 85, 86, 87, 88, 89, 90, 91, 92, 93, 94, 95, 96, 97, 98, 99, 100, 12, 13, 14, 101, 102, 103, 104, 105, 106, 107, 132, 133, 134, 135, 136, 137, 138, 139, 140, 141, 142, 143, 144, 145, 146, 147, 148, 149, 150, 151, 152, 153] rfl (by decide +kernel)
set_option maxRecDepth 20000 in
theorem gX5_ruleSlope_X5_reckonValues : GoodIn wsX5_ruleSlope (wsV RX5 55 RX5 yX5_reckonValues wsX5_reckonValues) := goodIn_app (goodIn_of _ (by decide +kernel)) ggX5_ruleSlope_X5_reckonValues
set_option maxRecDepth 20000 in
theorem ggX5_ruleSlope_X5_sumOfWeights : GoodIn wsX5_ruleSlope wsX5_sumOfWeights := goodIn_r _ [128, 17, 120, 19, 20, 21, 22, 23, 24, 25, 26, 27, 28, 29, 30, 31, 32, 33, 93, 94, 95, 5, 96, 7, 8, 97, 10, 98, 34, 35, 36, 37, 9, 11, 45, 46, 47, 48, 49, 2, 3, 4, 6, 76, 77, 78, 68, 79, 75, 66, 67, 69, 70, 129, 130, 131, 15, 111, 18, 60, 61, 62, 63, 64, 50, 51, 52, 53, 54, 55, 56, 57, 58, 59, 71, 72, 73, 74, 80, 81, 82, 83, 84, 85, 86, 87, 88, 89, 90, 91, 112, 113, 114, 115, 102, 103, 104, 116, 117, 118, 119, 121, 122, 123, 124, 125, 126, 127, 0, 1, 12, 13, 14, 16, 38, 39, 40, 41, 42, 43, 44, 65, 92, 99, 100, 101, 105, 106, 107, 108, 109, 110, 132, 133, 134, 135, 136, 137, 138, 139, 140, 141, 142, 143, 144, 145, 146, 147, 148, 149, 150, 151, 152, 153] rfl (by decide +kernel)
set_option maxRecDepth 20000 in
theorem gX5_ruleSlope_X5_sumOfWeights : GoodIn wsX5_ruleSlope (wsV RX5 142 RX5 yX5_sumOfWeights wsX5_sumOfWeights) := goodIn_app (goodIn_of _ (by decide +kernel)) ggX5_ruleSlope_X5_sumOfWeights
set_option maxRecDepth 20000 in
theorem ggX5_ruleSlope_X8_set : GoodIn wsX5_ruleSlope wsX8_set := goodIn_r _ [96, 7, 8, 97, 10, 98, 151, 152] rfl (by decide +kernel)
set_option maxRecDepth 20000 in
theorem gX5_ruleSlope_X8_set : GoodIn wsX5_ruleSlope (wsV RX5 58 RX8 yX8_set wsX8_set) := goodIn_app (goodIn_of _ (by decide +kernel)) ggX5_ruleSlope_X8_set
theorem dX5_ruleSlope_0 : decode cX5_ruleSlope 0 = .ok (.aload_n 0, 1) := by decide +kernel
theorem dX5_ruleSlope_1 : decode cX5_ruleSlope 1 = .ok (.getfield 23, 3) := by decide +kernel
theorem dX5_ruleSlope_4 : decode cX5_ruleSlope 4 = .ok (.iload_n 1, 1) := by decide +kernel
theorem dX5_ruleSlope_5 : decode cX5_ruleSlope 5 = .ok (.iload_n 2, 1) := by decide +kernel
theorem dX5_ruleSlope_6 : decode cX5_ruleSlope 6 = .ok (.invokevirtual 51, 3) := by decide +kernel
theorem dX5_ruleSlope_9 : decode cX5_ruleSlope 9 = .ok (.istore_n 3, 1) := by decide +kernel
theorem dX5_ruleSlope_10 : decode cX5_ruleSlope 10 = .ok (.iload_n 3, 1) := by decide +kernel
theorem dX5_ruleSlope_11 : decode cX5_ruleSlope 11 = .ok (.bipush (-2), 2) := by decide +kernel
theorem dX5_ruleSlope_13 : decode cX5_ruleSlope 13 = .ok (.if_icmp .eq 5, 3) := by decide +kernel
theorem dX5_ruleSlope_16 : decode cX5_ruleSlope 16 = .ok (.iload_n 3, 1) := by decide +kernel
theorem dX5_ruleSlope_17 : decode cX5_ruleSlope 17 = .ok (.ireturn, 1) := by decide +kernel
theorem dX5_ruleSlope_18 : decode cX5_ruleSlope 18 = .ok (.aload_n 0, 1) := by decide +kernel
theorem dX5_ruleSlope_19 : decode cX5_ruleSlope 19 = .ok (.iload_n 1, 1) := by decide +kernel
theorem dX5_ruleSlope_20 : decode cX5_ruleSlope 20 = .ok (.iload_n 2, 1) := by decide +kernel
theorem dX5_ruleSlope_21 : decode cX5_ruleSlope 21 = .ok (.invokevirtual 55, 3) := by decide +kernel
theorem dX5_ruleSlope_24 : decode cX5_ruleSlope 24 = .ok (.iconst (-1), 1) := by decide +kernel
theorem dX5_ruleSlope_25 : decode cX5_ruleSlope 25 = .ok (.if_icmp .ne 7, 3) := by decide +kernel
theorem dX5_ruleSlope_28 : decode cX5_ruleSlope 28 = .ok (.iconst (-1), 1) := by decide +kernel
theorem dX5_ruleSlope_29 : decode cX5_ruleSlope 29 = .ok (.goto 8, 3) := by decide +kernel
theorem dX5_ruleSlope_32 : decode cX5_ruleSlope 32 = .ok (.aload_n 0, 1) := by decide +kernel
theorem dX5_ruleSlope_33 : decode cX5_ruleSlope 33 = .ok (.iload_n 1, 1) := by decide +kernel
theorem dX5_ruleSlope_34 : decode cX5_ruleSlope 34 = .ok (.invokevirtual 142, 3) := by decide +kernel
theorem dX5_ruleSlope_37 : decode cX5_ruleSlope 37 = .ok (.istore 4, 2) := by decide +kernel
theorem dX5_ruleSlope_39 : decode cX5_ruleSlope 39 = .ok (.aload_n 0, 1) := by decide +kernel
theorem dX5_ruleSlope_40 : decode cX5_ruleSlope 40 = .ok (.getfield 23, 3) := by decide +kernel
theorem dX5_ruleSlope_43 : decode cX5_ruleSlope 43 = .ok (.iload_n 1, 1) := by decide +kernel
theorem dX5_ruleSlope_44 : decode cX5_ruleSlope 44 = .ok (.iload_n 2, 1) := by decide +kernel
theorem dX5_ruleSlope_45 : decode cX5_ruleSlope 45 = .ok (.iload 4, 2) := by decide +kernel
theorem dX5_ruleSlope_47 : decode cX5_ruleSlope 47 = .ok (.invokevirtual 58, 3) := by decide +kernel
theorem dX5_ruleSlope_50 : decode cX5_ruleSlope 50 = .ok (.iload 4, 2) := by decide +kernel
theorem dX5_ruleSlope_52 : decode cX5_ruleSlope 52 = .ok (.ireturn, 1) := by decide +kernel
set_option maxRecDepth 20000 in
theorem ggX5_sumOfWeights_X7_expressionOf : GoodIn wsX5_sumOfWeights wsX7_expressionOf := goodIn_r _ [7, 8, 9, 10, 11, 139, 140, 141, 142, 143] rfl (by decide +kernel)
set_option maxRecDepth 20000 in
theorem gX5_sumOfWeights_X7_expressionOf : GoodIn wsX5_sumOfWeights (wsV RX5 62 RX7 yX7_expressionOf wsX7_expressionOf) := goodIn_app (goodIn_of _ (by decide +kernel)) ggX5_sumOfWeights_X7_expressionOf
set_option maxRecDepth 20000 in
theorem ggX5_sumOfWeights_X1_size : GoodIn wsX5_sumOfWeights wsX1_size := goodIn_r _ [16, 17, 144, 145, 146, 147, 148, 149, 150] rfl (by decide +kernel)
set_option maxRecDepth 20000 in
theorem gX5_sumOfWeights_X1_size : GoodIn wsX5_sumOfWeights (wsV RX5 66 RX1 yX1_size wsX1_size) := goodIn_app (goodIn_of _ (by decide +kernel)) ggX5_sumOfWeights_X1_size
set_option maxRecDepth 20000 in
theorem ggX5_sumOfWeights_X8_set : GoodIn wsX5_sumOfWeights wsX8_set := goodIn_r _ [22, 23, 24, 25, 26, 27, 151, 152] rfl (by decide +kernel)
set_option maxRecDepth 20000 in
theorem gX5_sumOfWeights_X8_set : GoodIn wsX5_sumOfWeights (wsV RX5 58 RX8 yX8_set wsX8_set) := goodIn_app (goodIn_of _ (by decide +kernel)) ggX5_sumOfWeights_X8_set
set_option maxRecDepth 20000 in
theorem ggX5_sumOfWeights_X1_kind : GoodIn wsX5_sumOfWeights wsX1_kind := goodIn_r _ [31, 17, 32, 26, 33, 144, 145, 146, 147, 148, 149, 150] rfl (by decide +kernel)
set_option maxRecDepth 20000 in
theorem gX5_sumOfWeights_X1_kind : GoodIn wsX5_sumOfWeights (wsV RX5 72 RX1 yX1_kind wsX1_kind) := goodIn_app (goodIn_of _ (by decide +kernel)) ggX5_sumOfWeights_X1_kind
set_option maxRecDepth 20000 in
theorem ggX5_sumOfWeights_X7_numbers : GoodIn wsX5_sumOfWeights wsX7_numbers := goodIn_r _ [37, 38, 139, 140, 141, 142, 143] rfl (by decide +kernel)
set_option maxRecDepth 20000 in
theorem gX5_sumOfWeights_X7_numbers : GoodIn wsX5_sumOfWeights (wsV RX5 96 RX7 yX7_numbers wsX7_numbers) := goodIn_app (goodIn_of _ (by decide +kernel)) ggX5_sumOfWeights_X7_numbers
set_option maxRecDepth 20000 in
theorem ggX5_sumOfWeights_X8_get : GoodIn wsX5_sumOfWeights wsX8_get := goodIn_r _ [42, 23, 24, 32, 26, 33, 151, 152] rfl (by decide +kernel)
set_option maxRecDepth 20000 in
theorem gX5_sumOfWeights_X8_get : GoodIn wsX5_sumOfWeights (wsV RX5 51 RX8 yX8_get wsX8_get) := goodIn_app (goodIn_of _ (by decide +kernel)) ggX5_sumOfWeights_X8_get
set_option maxRecDepth 20000 in
theorem ggX5_sumOfWeights_X6_add : GoodIn wsX5_sumOfWeights wsX6_add := goodIn_r _ [47, 48, 49, 50, 46, 51, 52, 153] rfl (by decide +kernel)
set_option maxRecDepth 20000 in
theorem gX5_sumOfWeights_X6_add : GoodIn wsX5_sumOfWeights (wsV RX5 111 RX6 yX6_add wsX6_add) := goodIn_app (goodIn_of _ (by decide +kernel)) ggX5_sumOfWeights_X6_add
set_option maxRecDepth 20000 in
theorem ggX5_sumOfWeights_X5_passWeightOn : GoodIn wsX5_sumOfWeights wsX5_passWeightOn := goodIn_r _ [100, 1, 2, 3, 4, 5, 6, 7, 8, 9, 10, 11, 34, 35, 36, 37, 38, 64, 65, 66, 15, 67, 68, 69, 70, 71, 72, 73, 39, 40, 41, 21, 42, 23, 24, 32, 26, 33, 101, 102, 103, 56, 78, 79, 80, 46, 81, 48, 49, 50, 51, 52, 18, 19, 20, 22, 25, 27, 104, 105, 106, 107, 58, 28, 29, 30, 31, 17, 74, 75, 76, 77, 82, 83, 84, 85, 86, 87, 88, 89, 57, 59, 60, 61, 62, 63, 90, 91, 92, 93, 94, 95, 96, 97, 98, 99, 108, 109, 110, 111, 112, 113, 12, 13, 14, 16, 114, 115, 116, 117, 118, 119, 120, 121, 43, 44, 45, 47, 122, 123, 124, 125, 126, 127, 128, 129, 130, 131, 0, 53, 54, 55, 132, 133, 134, 135, 136, 137, 138, 139, 140, 141, 142, 143, 144, 145, 146, 147, 148, 149, 150, 151, 152, 153] rfl (by decide +kernel)
set_option maxRecDepth 20000 in
theorem gX5_sumOfWeights_X5_passWeightOn : GoodIn wsX5_sumOfWeights (wsV RX5 145 RX5 yX5_passWeightOn wsX5_passWeightOn) := goodIn_app (goodIn_of _ (by decide +kernel)) ggX5_sumOfWeights_X5_passWeightOn
theorem dX5_sumOfWeights_0 : decode cX5_sumOfWeights 0 = .ok (.aload_n 0, 1) := by decide +kernel
theorem dX5_sumOfWeights_1 : decode cX5_sumOfWeights 1 = .ok (.getfield 41, 3) := by decide +kernel
theorem dX5_sumOfWeights_4 : decode cX5_sumOfWeights 4 = .ok (.iload_n 1, 1) := by decide +kernel
theorem dX5_sumOfWeights_5 : decode cX5_sumOfWeights 5 = .ok (.invokevirtual 62, 3) := by decide +kernel
theorem dX5_sumOfWeights_8 : decode cX5_sumOfWeights 8 = .ok (.astore_n 2, 1) := by decide +kernel
theorem dX5_sumOfWeights_9 : decode cX5_sumOfWeights 9 = .ok (.aload_n 2, 1) := by decide +kernel
theorem dX5_sumOfWeights_10 : decode cX5_sumOfWeights 10 = .ok (.invokevirtual 66, 3) := by decide +kernel
theorem dX5_sumOfWeights_13 : decode cX5_sumOfWeights 13 = .ok (.iconst 1, 1) := by decide +kernel
theorem dX5_sumOfWeights_14 : decode cX5_sumOfWeights 14 = .ok (.isub, 1) := by decide +kernel
theorem dX5_sumOfWeights_15 : decode cX5_sumOfWeights 15 = .ok (.istore_n 3, 1) := by decide +kernel
theorem dX5_sumOfWeights_16 : decode cX5_sumOfWeights 16 = .ok (.iconst 0, 1) := by decide +kernel
theorem dX5_sumOfWeights_17 : decode cX5_sumOfWeights 17 = .ok (.istore 4, 2) := by decide +kernel
theorem dX5_sumOfWeights_19 : decode cX5_sumOfWeights 19 = .ok (.aload_n 0, 1) := by decide +kernel
theorem dX5_sumOfWeights_20 : decode cX5_sumOfWeights 20 = .ok (.getfield 32, 3) := by decide +kernel
theorem dX5_sumOfWeights_23 : decode cX5_sumOfWeights 23 = .ok (.iload_n 1, 1) := by decide +kernel
theorem dX5_sumOfWeights_24 : decode cX5_sumOfWeights 24 = .ok (.iload_n 3, 1) := by decide +kernel
theorem dX5_sumOfWeights_25 : decode cX5_sumOfWeights 25 = .ok (.iconst 1, 1) := by decide +kernel
theorem dX5_sumOfWeights_26 : decode cX5_sumOfWeights 26 = .ok (.invokevirtual 58, 3) := by decide +kernel
theorem dX5_sumOfWeights_29 : decode cX5_sumOfWeights 29 = .ok (.iload_n 3, 1) := by decide +kernel
theorem dX5_sumOfWeights_30 : decode cX5_sumOfWeights 30 = .ok (.istore 5, 2) := by decide +kernel
theorem dX5_sumOfWeights_32 : decode cX5_sumOfWeights 32 = .ok (.iload 5, 2) := by decide +kernel
theorem dX5_sumOfWeights_34 : decode cX5_sumOfWeights 34 = .ok (.ifCond .lt 54, 3) := by decide +kernel
theorem dX5_sumOfWeights_37 : decode cX5_sumOfWeights 37 = .ok (.aload_n 2, 1) := by decide +kernel
theorem dX5_sumOfWeights_38 : decode cX5_sumOfWeights 38 = .ok (.iload 5, 2) := by decide +kernel
theorem dX5_sumOfWeights_40 : decode cX5_sumOfWeights 40 = .ok (.invokevirtual 72, 3) := by decide +kernel
theorem dX5_sumOfWeights_43 : decode cX5_sumOfWeights 43 = .ok (.bipush 120, 2) := by decide +kernel
theorem dX5_sumOfWeights_45 : decode cX5_sumOfWeights 45 = .ok (.if_icmp .ne 30, 3) := by decide +kernel
theorem dX5_sumOfWeights_48 : decode cX5_sumOfWeights 48 = .ok (.aload_n 0, 1) := by decide +kernel
theorem dX5_sumOfWeights_49 : decode cX5_sumOfWeights 49 = .ok (.getfield 41, 3) := by decide +kernel
theorem dX5_sumOfWeights_52 : decode cX5_sumOfWeights 52 = .ok (.invokevirtual 96, 3) := by decide +kernel
theorem dX5_sumOfWeights_55 : decode cX5_sumOfWeights 55 = .ok (.iload 4, 2) := by decide +kernel
theorem dX5_sumOfWeights_57 : decode cX5_sumOfWeights 57 = .ok (.aload_n 0, 1) := by decide +kernel
theorem dX5_sumOfWeights_58 : decode cX5_sumOfWeights 58 = .ok (.getfield 32, 3) := by decide +kernel
theorem dX5_sumOfWeights_61 : decode cX5_sumOfWeights 61 = .ok (.iload_n 1, 1) := by decide +kernel
theorem dX5_sumOfWeights_62 : decode cX5_sumOfWeights 62 = .ok (.iload 5, 2) := by decide +kernel
theorem dX5_sumOfWeights_64 : decode cX5_sumOfWeights 64 = .ok (.invokevirtual 51, 3) := by decide +kernel
theorem dX5_sumOfWeights_67 : decode cX5_sumOfWeights 67 = .ok (.invokevirtual 111, 3) := by decide +kernel
theorem dX5_sumOfWeights_70 : decode cX5_sumOfWeights 70 = .ok (.istore 4, 2) := by decide +kernel
theorem dX5_sumOfWeights_72 : decode cX5_sumOfWeights 72 = .ok (.goto 10, 3) := by decide +kernel
theorem dX5_sumOfWeights_75 : decode cX5_sumOfWeights 75 = .ok (.aload_n 0, 1) := by decide +kernel
theorem dX5_sumOfWeights_76 : decode cX5_sumOfWeights 76 = .ok (.iload_n 1, 1) := by decide +kernel
theorem dX5_sumOfWeights_77 : decode cX5_sumOfWeights 77 = .ok (.iload 5, 2) := by decide +kernel
theorem dX5_sumOfWeights_79 : decode cX5_sumOfWeights 79 = .ok (.invokevirtual 145, 3) := by decide +kernel
theorem dX5_sumOfWeights_82 : decode cX5_sumOfWeights 82 = .ok (.iinc 5 (-1), 3) := by decide +kernel
theorem dX5_sumOfWeights_85 : decode cX5_sumOfWeights 85 = .ok (.goto (-53), 3) := by decide +kernel
theorem dX5_sumOfWeights_88 : decode cX5_sumOfWeights 88 = .ok (.iload 4, 2) := by decide +kernel
theorem dX5_sumOfWeights_90 : decode cX5_sumOfWeights 90 = .ok (.ireturn, 1) := by decide +kernel
set_option maxRecDepth 20000 in
theorem ggX5_passWeightOn_X7_expressionOf : GoodIn wsX5_passWeightOn wsX7_expressionOf := goodIn_r _ [7, 8, 9, 10, 11, 139, 140, 141, 142, 143] rfl (by decide +kernel)
set_option maxRecDepth 20000 in
theorem gX5_passWeightOn_X7_expressionOf : GoodIn wsX5_passWeightOn (wsV RX5 62 RX7 yX7_expressionOf wsX7_expressionOf) := goodIn_app (goodIn_of _ (by decide +kernel)) ggX5_passWeightOn_X7_expressionOf
set_option maxRecDepth 20000 in
theorem ggX5_passWeightOn_X7_numbers : GoodIn wsX5_passWeightOn wsX7_numbers := goodIn_r _ [15, 16, 139, 140, 141, 142, 143] rfl (by decide +kernel)
set_option maxRecDepth 20000 in
theorem gX5_passWeightOn_X7_numbers : GoodIn wsX5_passWeightOn (wsV RX5 96 RX7 yX7_numbers wsX7_numbers) := goodIn_app (goodIn_of _ (by decide +kernel)) ggX5_passWeightOn_X7_numbers
set_option maxRecDepth 20000 in
theorem ggX5_passWeightOn_X1_left : GoodIn wsX5_passWeightOn wsX1_left := goodIn_r _ [21, 22, 144, 145, 146, 147, 148, 149, 150] rfl (by decide +kernel)
set_option maxRecDepth 20000 in
theorem gX5_passWeightOn_X1_left : GoodIn wsX5_passWeightOn (wsV RX5 86 RX1 yX1_left wsX1_left) := goodIn_app (goodIn_of _ (by decide +kernel)) ggX5_passWeightOn_X1_left
set_option maxRecDepth 20000 in
theorem ggX5_passWeightOn_X1_right : GoodIn wsX5_passWeightOn wsX1_right := goodIn_r _ [26, 27, 144, 145, 146, 147, 148, 149, 150] rfl (by decide +kernel)
set_option maxRecDepth 20000 in
theorem gX5_passWeightOn_X1_right : GoodIn wsX5_passWeightOn (wsV RX5 100 RX1 yX1_right wsX1_right) := goodIn_app (goodIn_of _ (by decide +kernel)) ggX5_passWeightOn_X1_right
set_option maxRecDepth 20000 in
theorem ggX5_passWeightOn_X8_get : GoodIn wsX5_passWeightOn wsX8_get := goodIn_r _ [32, 33, 34, 35, 36, 37, 151, 152] rfl (by decide +kernel)
set_option maxRecDepth 20000 in
theorem gX5_passWeightOn_X8_get : GoodIn wsX5_passWeightOn (wsV RX5 51 RX8 yX8_get wsX8_get) := goodIn_app (goodIn_of _ (by decide +kernel)) ggX5_passWeightOn_X8_get
set_option maxRecDepth 20000 in
theorem ggX5_passWeightOn_X5_leftShare : GoodIn wsX5_passWeightOn wsX5_leftShare := goodIn_r _ [80, 1, 62, 3, 4, 5, 6, 7, 8, 9, 10, 11, 12, 13, 14, 15, 16, 81, 82, 83, 20, 84, 85, 35, 36, 37, 17, 18, 19, 21, 22, 28, 29, 30, 31, 32, 33, 34, 23, 24, 25, 26, 27, 63, 64, 65, 66, 67, 68, 69, 70, 45, 71, 47, 48, 49, 50, 51, 42, 43, 44, 46, 72, 73, 74, 75, 76, 77, 78, 79, 86, 87, 88, 89, 90, 91, 41, 92, 93, 94, 95, 0, 2, 38, 39, 40, 52, 53, 54, 55, 56, 57, 58, 59, 60, 61, 96, 97, 98, 99, 100, 101, 102, 103, 104, 105, 106, 107, 108, 109, 110, 111, 112, 113, 114, 115, 116, 117, 118, 119, 120, 121, 122, 123, 124, 125, 126, 127, 128, 129, 130, 131, 132, 133, 134, 135, 136, 137, 138, 139, 140, 141, 142, 143, 144, 145, 146, 147, 148, 149, 150, 151, 152, 153] rfl (by decide +kernel)
set_option maxRecDepth 20000 in
theorem gX5_passWeightOn_X5_leftShare : GoodIn wsX5_passWeightOn (wsV RX5 149 RX5 yX5_leftShare wsX5_leftShare) := goodIn_app (goodIn_of _ (by decide +kernel)) ggX5_passWeightOn_X5_leftShare
set_option maxRecDepth 20000 in
theorem ggX5_passWeightOn_X6_multiply : GoodIn wsX5_passWeightOn wsX6_multiply := goodIn_r _ [46, 47, 48, 49, 45, 50, 51, 153] rfl (by decide +kernel)
set_option maxRecDepth 20000 in
theorem gX5_passWeightOn_X6_multiply : GoodIn wsX5_passWeightOn (wsV RX5 114 RX6 yX6_multiply wsX6_multiply) := goodIn_app (goodIn_of _ (by decide +kernel)) ggX5_passWeightOn_X6_multiply
set_option maxRecDepth 20000 in
theorem ggX5_passWeightOn_X8_set : GoodIn wsX5_passWeightOn wsX8_set := goodIn_r _ [55, 33, 34, 56, 36, 57, 151, 152] rfl (by decide +kernel)
set_option maxRecDepth 20000 in
theorem gX5_passWeightOn_X8_set : GoodIn wsX5_passWeightOn (wsV RX5 58 RX8 yX8_set wsX8_set) := goodIn_app (goodIn_of _ (by decide +kernel)) ggX5_passWeightOn_X8_set
set_option maxRecDepth 20000 in
theorem ggX5_passWeightOn_X5_rightShare : GoodIn wsX5_passWeightOn wsX5_rightShare := goodIn_r _ [61, 1, 62, 3, 4, 5, 6, 7, 8, 9, 10, 11, 12, 13, 14, 15, 16, 17, 18, 19, 20, 21, 22, 28, 29, 30, 31, 32, 33, 34, 35, 36, 37, 23, 24, 25, 26, 27, 63, 64, 65, 66, 67, 68, 69, 70, 45, 71, 47, 48, 49, 50, 51, 42, 43, 44, 46, 72, 73, 74, 75, 76, 77, 78, 79, 132, 133, 134, 135, 136, 137, 138, 139, 140, 141, 142, 143, 144, 145, 146, 147, 148, 149, 150, 151, 152, 153] rfl (by decide +kernel)
set_option maxRecDepth 20000 in
theorem gX5_passWeightOn_X5_rightShare : GoodIn wsX5_passWeightOn (wsV RX5 152 RX5 yX5_rightShare wsX5_rightShare) := goodIn_app (goodIn_of _ (by decide +kernel)) ggX5_passWeightOn_X5_rightShare
theorem dX5_passWeightOn_0 : decode cX5_passWeightOn 0 = .ok (.aload_n 0, 1) := by decide +kernel
theorem dX5_passWeightOn_1 : decode cX5_passWeightOn 1 = .ok (.getfield 41, 3) := by decide +kernel
theorem dX5_passWeightOn_4 : decode cX5_passWeightOn 4 = .ok (.iload_n 1, 1) := by decide +kernel
theorem dX5_passWeightOn_5 : decode cX5_passWeightOn 5 = .ok (.invokevirtual 62, 3) := by decide +kernel
theorem dX5_passWeightOn_8 : decode cX5_passWeightOn 8 = .ok (.astore_n 3, 1) := by decide +kernel
theorem dX5_passWeightOn_9 : decode cX5_passWeightOn 9 = .ok (.aload_n 0, 1) := by decide +kernel
theorem dX5_passWeightOn_10 : decode cX5_passWeightOn 10 = .ok (.getfield 41, 3) := by decide +kernel
theorem dX5_passWeightOn_13 : decode cX5_passWeightOn 13 = .ok (.invokevirtual 96, 3) := by decide +kernel
theorem dX5_passWeightOn_16 : decode cX5_passWeightOn 16 = .ok (.astore 4, 2) := by decide +kernel
theorem dX5_passWeightOn_18 : decode cX5_passWeightOn 18 = .ok (.aload_n 3, 1) := by decide +kernel
theorem dX5_passWeightOn_19 : decode cX5_passWeightOn 19 = .ok (.iload_n 2, 1) := by decide +kernel
theorem dX5_passWeightOn_20 : decode cX5_passWeightOn 20 = .ok (.invokevirtual 86, 3) := by decide +kernel
theorem dX5_passWeightOn_23 : decode cX5_passWeightOn 23 = .ok (.istore 5, 2) := by decide +kernel
theorem dX5_passWeightOn_25 : decode cX5_passWeightOn 25 = .ok (.aload_n 3, 1) := by decide +kernel
theorem dX5_passWeightOn_26 : decode cX5_passWeightOn 26 = .ok (.iload_n 2, 1) := by decide +kernel
theorem dX5_passWeightOn_27 : decode cX5_passWeightOn 27 = .ok (.invokevirtual 100, 3) := by decide +kernel
theorem dX5_passWeightOn_30 : decode cX5_passWeightOn 30 = .ok (.istore 6, 2) := by decide +kernel
theorem dX5_passWeightOn_32 : decode cX5_passWeightOn 32 = .ok (.aload_n 0, 1) := by decide +kernel
theorem dX5_passWeightOn_33 : decode cX5_passWeightOn 33 = .ok (.getfield 32, 3) := by decide +kernel
theorem dX5_passWeightOn_36 : decode cX5_passWeightOn 36 = .ok (.iload_n 1, 1) := by decide +kernel
theorem dX5_passWeightOn_37 : decode cX5_passWeightOn 37 = .ok (.iload_n 2, 1) := by decide +kernel
theorem dX5_passWeightOn_38 : decode cX5_passWeightOn 38 = .ok (.invokevirtual 51, 3) := by decide +kernel
theorem dX5_passWeightOn_41 : decode cX5_passWeightOn 41 = .ok (.istore 7, 2) := by decide +kernel
theorem dX5_passWeightOn_43 : decode cX5_passWeightOn 43 = .ok (.aload_n 0, 1) := by decide +kernel
theorem dX5_passWeightOn_44 : decode cX5_passWeightOn 44 = .ok (.getfield 32, 3) := by decide +kernel
theorem dX5_passWeightOn_47 : decode cX5_passWeightOn 47 = .ok (.iload_n 1, 1) := by decide +kernel
theorem dX5_passWeightOn_48 : decode cX5_passWeightOn 48 = .ok (.iload 5, 2) := by decide +kernel
theorem dX5_passWeightOn_50 : decode cX5_passWeightOn 50 = .ok (.aload 4, 2) := by decide +kernel
theorem dX5_passWeightOn_52 : decode cX5_passWeightOn 52 = .ok (.iload 7, 2) := by decide +kernel
theorem dX5_passWeightOn_54 : decode cX5_passWeightOn 54 = .ok (.aload_n 0, 1) := by decide +kernel
theorem dX5_passWeightOn_55 : decode cX5_passWeightOn 55 = .ok (.iload_n 1, 1) := by decide +kernel
theorem dX5_passWeightOn_56 : decode cX5_passWeightOn 56 = .ok (.iload_n 2, 1) := by decide +kernel
theorem dX5_passWeightOn_57 : decode cX5_passWeightOn 57 = .ok (.invokevirtual 149, 3) := by decide +kernel
theorem dX5_passWeightOn_60 : decode cX5_passWeightOn 60 = .ok (.invokevirtual 114, 3) := by decide +kernel
theorem dX5_passWeightOn_63 : decode cX5_passWeightOn 63 = .ok (.invokevirtual 58, 3) := by decide +kernel
theorem dX5_passWeightOn_66 : decode cX5_passWeightOn 66 = .ok (.aload_n 0, 1) := by decide +kernel
theorem dX5_passWeightOn_67 : decode cX5_passWeightOn 67 = .ok (.getfield 32, 3) := by decide +kernel
theorem dX5_passWeightOn_70 : decode cX5_passWeightOn 70 = .ok (.iload_n 1, 1) := by decide +kernel
theorem dX5_passWeightOn_71 : decode cX5_passWeightOn 71 = .ok (.iload 6, 2) := by decide +kernel
theorem dX5_passWeightOn_73 : decode cX5_passWeightOn 73 = .ok (.aload 4, 2) := by decide +kernel
theorem dX5_passWeightOn_75 : decode cX5_passWeightOn 75 = .ok (.iload 7, 2) := by decide +kernel
theorem dX5_passWeightOn_77 : decode cX5_passWeightOn 77 = .ok (.aload_n 0, 1) := by decide +kernel
theorem dX5_passWeightOn_78 : decode cX5_passWeightOn 78 = .ok (.iload_n 1, 1) := by decide +kernel
theorem dX5_passWeightOn_79 : decode cX5_passWeightOn 79 = .ok (.iload_n 2, 1) := by decide +kernel
theorem dX5_passWeightOn_80 : decode cX5_passWeightOn 80 = .ok (.invokevirtual 152, 3) := by decide +kernel
theorem dX5_passWeightOn_83 : decode cX5_passWeightOn 83 = .ok (.invokevirtual 114, 3) := by decide +kernel
theorem dX5_passWeightOn_86 : decode cX5_passWeightOn 86 = .ok (.invokevirtual 58, 3) := by decide +kernel
theorem dX5_passWeightOn_89 : decode cX5_passWeightOn 89 = .ok (.return_, 1) := by decide +kernel
set_option maxRecDepth 20000 in
theorem ggX5_leftShare_X7_expressionOf : GoodIn wsX5_leftShare wsX7_expressionOf := goodIn_r _ [7, 8, 9, 10, 11, 139, 140, 141, 142, 143] rfl (by decide +kernel)
set_option maxRecDepth 20000 in
theorem gX5_leftShare_X7_expressionOf : GoodIn wsX5_leftShare (wsV RX5 62 RX7 yX7_expressionOf wsX7_expressionOf) := goodIn_app (goodIn_of _ (by decide +kernel)) ggX5_leftShare_X7_expressionOf
set_option maxRecDepth 20000 in
theorem ggX5_leftShare_X7_numbers : GoodIn wsX5_leftShare wsX7_numbers := goodIn_r _ [15, 16, 139, 140, 141, 142, 143] rfl (by decide +kernel)
set_option maxRecDepth 20000 in
theorem gX5_leftShare_X7_numbers : GoodIn wsX5_leftShare (wsV RX5 96 RX7 yX7_numbers wsX7_numbers) := goodIn_app (goodIn_of _ (by decide +kernel)) ggX5_leftShare_X7_numbers
set_option maxRecDepth 20000 in
theorem ggX5_leftShare_X1_number : GoodIn wsX5_leftShare wsX1_number := goodIn_r _ [21, 22, 23, 24, 25, 144, 145, 146, 147, 148, 149, 150] rfl (by decide +kernel)
set_option maxRecDepth 20000 in
theorem gX5_leftShare_X1_number : GoodIn wsX5_leftShare (wsV RX5 83 RX1 yX1_number wsX1_number) := goodIn_app (goodIn_of _ (by decide +kernel)) ggX5_leftShare_X1_number
set_option maxRecDepth 20000 in
theorem ggX5_leftShare_X1_left : GoodIn wsX5_leftShare wsX1_left := goodIn_r _ [29, 30, 144, 145, 146, 147, 148, 149, 150] rfl (by decide +kernel)
set_option maxRecDepth 20000 in
theorem gX5_leftShare_X1_left : GoodIn wsX5_leftShare (wsV RX5 86 RX1 yX1_left wsX1_left) := goodIn_app (goodIn_of _ (by decide +kernel)) ggX5_leftShare_X1_left
set_option maxRecDepth 20000 in
theorem ggX5_leftShare_X8_get : GoodIn wsX5_leftShare wsX8_get := goodIn_r _ [35, 36, 37, 23, 24, 25, 151, 152] rfl (by decide +kernel)
set_option maxRecDepth 20000 in
theorem gX5_leftShare_X8_get : GoodIn wsX5_leftShare (wsV RX5 51 RX8 yX8_get wsX8_get) := goodIn_app (goodIn_of _ (by decide +kernel)) ggX5_leftShare_X8_get
set_option maxRecDepth 20000 in
theorem ggX5_leftShare_X1_right : GoodIn wsX5_leftShare wsX1_right := goodIn_r _ [41, 42, 144, 145, 146, 147, 148, 149, 150] rfl (by decide +kernel)
set_option maxRecDepth 20000 in
theorem gX5_leftShare_X1_right : GoodIn wsX5_leftShare (wsV RX5 100 RX1 yX1_right wsX1_right) := goodIn_app (goodIn_of _ (by decide +kernel)) ggX5_leftShare_X1_right
set_option maxRecDepth 20000 in
theorem ggX5_leftShare_X1_kind : GoodIn wsX5_leftShare wsX1_kind := goodIn_r _ [46, 47, 23, 24, 25, 144, 145, 146, 147, 148, 149, 150] rfl (by decide +kernel)
set_option maxRecDepth 20000 in
theorem gX5_leftShare_X1_kind : GoodIn wsX5_leftShare (wsV RX5 72 RX1 yX1_kind wsX1_kind) := goodIn_app (goodIn_of _ (by decide +kernel)) ggX5_leftShare_X1_kind
set_option maxRecDepth 20000 in
theorem ggX5_leftShare_X6_subtract : GoodIn wsX5_leftShare wsX6_subtract := goodIn_r _ [52, 53, 54, 55, 51, 56, 57, 153] rfl (by decide +kernel)
set_option maxRecDepth 20000 in
theorem gX5_leftShare_X6_subtract : GoodIn wsX5_leftShare (wsV RX5 108 RX6 yX6_subtract wsX6_subtract) := goodIn_app (goodIn_of _ (by decide +kernel)) ggX5_leftShare_X6_subtract
set_option maxRecDepth 20000 in
theorem ggX5_leftShare_X6_multiply : GoodIn wsX5_leftShare wsX6_multiply := goodIn_r _ [61, 53, 54, 55, 51, 56, 57, 153] rfl (by decide +kernel)
set_option maxRecDepth 20000 in
theorem gX5_leftShare_X6_multiply : GoodIn wsX5_leftShare (wsV RX5 114 RX6 yX6_multiply wsX6_multiply) := goodIn_app (goodIn_of _ (by decide +kernel)) ggX5_leftShare_X6_multiply
set_option maxRecDepth 20000 in
theorem ggX5_leftShare_X6_divide : GoodIn wsX5_leftShare wsX6_divide := goodIn_r _ [65, 57, 66, 67, 68, 51, 69, 53, 54, 55, 56, 153] rfl (by decide +kernel)
set_option maxRecDepth 20000 in
theorem gX5_leftShare_X6_divide : GoodIn wsX5_leftShare (wsV RX5 117 RX6 yX6_divide wsX6_divide) := goodIn_app (goodIn_of _ (by decide +kernel)) ggX5_leftShare_X6_divide
set_option maxRecDepth 20000 in
theorem ggX5_leftShare_X6_powerSlope : GoodIn wsX5_leftShare wsX6_powerSlope := goodIn_r _ [73, 66, 67, 68, 51, 69, 57, 53, 54, 55, 56, 153] rfl (by decide +kernel)
set_option maxRecDepth 20000 in
theorem gX5_leftShare_X6_powerSlope : GoodIn wsX5_leftShare (wsV RX5 139 RX6 yX6_powerSlope wsX6_powerSlope) := goodIn_app (goodIn_of _ (by decide +kernel)) ggX5_leftShare_X6_powerSlope
set_option maxRecDepth 20000 in
theorem ggX5_leftShare_X5_mayUse : GoodIn wsX5_leftShare wsX5_mayUse := goodIn_r _ [77] rfl (by decide +kernel)
set_option maxRecDepth 20000 in
theorem gX5_leftShare_X5_mayUse : GoodIn wsX5_leftShare (va_wsS RX5 89 yX5_mayUse wsX5_mayUse) := goodIn_app (goodIn_of _ (by decide +kernel)) ggX5_leftShare_X5_mayUse
set_option maxRecDepth 20000 in
theorem ggX5_leftShare_X5_ruleSlope : GoodIn wsX5_leftShare wsX5_ruleSlope := goodIn_r _ [96, 97, 31, 32, 33, 34, 35, 36, 37, 23, 24, 25, 98, 99, 100, 76, 101, 1, 2, 3, 4, 5, 6, 7, 8, 9, 10, 11, 102, 103, 104, 20, 105, 47, 43, 44, 45, 46, 106, 107, 108, 109, 110, 111, 112, 12, 13, 14, 15, 16, 26, 27, 28, 29, 30, 38, 39, 40, 41, 42, 17, 18, 19, 21, 22, 113, 54, 55, 51, 56, 57, 48, 49, 50, 52, 53, 114, 115, 116, 117, 58, 59, 60, 61, 62, 63, 64, 65, 66, 67, 68, 69, 118, 86, 87, 88, 89, 90, 91, 119, 120, 121, 74, 75, 77, 122, 123, 124, 125, 126, 127, 0, 70, 71, 72, 73, 78, 79, 80, 81, 82, 83, 84, 85, 92, 93, 94, 95, 128, 129, 130, 131, 132, 133, 134, 135, 136, 137, 138, 139, 140, 141, 142, 143, 144, 145, 146, 147, 148, 149, 150, 151, 152, 153] rfl (by decide +kernel)
set_option maxRecDepth 20000 in
theorem gX5_leftShare_X5_ruleSlope : GoodIn wsX5_leftShare (wsV RX5 155 RX5 yX5_ruleSlope wsX5_ruleSlope) := goodIn_app (goodIn_of _ (by decide +kernel)) ggX5_leftShare_X5_ruleSlope
theorem dX5_leftShare_0 : decode cX5_leftShare 0 = .ok (.aload_n 0, 1) := by decide +kernel
theorem dX5_leftShare_1 : decode cX5_leftShare 1 = .ok (.getfield 41, 3) := by decide +kernel
theorem dX5_leftShare_4 : decode cX5_leftShare 4 = .ok (.iload_n 1, 1) := by decide +kernel
theorem dX5_leftShare_5 : decode cX5_leftShare 5 = .ok (.invokevirtual 62, 3) := by decide +kernel
theorem dX5_leftShare_8 : decode cX5_leftShare 8 = .ok (.astore_n 3, 1) := by decide +kernel
theorem dX5_leftShare_9 : decode cX5_leftShare 9 = .ok (.aload_n 0, 1) := by decide +kernel
theorem dX5_leftShare_10 : decode cX5_leftShare 10 = .ok (.getfield 41, 3) := by decide +kernel
theorem dX5_leftShare_13 : decode cX5_leftShare 13 = .ok (.invokevirtual 96, 3) := by decide +kernel
theorem dX5_leftShare_16 : decode cX5_leftShare 16 = .ok (.astore 4, 2) := by decide +kernel
theorem dX5_leftShare_18 : decode cX5_leftShare 18 = .ok (.aload_n 3, 1) := by decide +kernel
theorem dX5_leftShare_19 : decode cX5_leftShare 19 = .ok (.iload_n 2, 1) := by decide +kernel
theorem dX5_leftShare_20 : decode cX5_leftShare 20 = .ok (.invokevirtual 83, 3) := by decide +kernel
theorem dX5_leftShare_23 : decode cX5_leftShare 23 = .ok (.istore 5, 2) := by decide +kernel
theorem dX5_leftShare_25 : decode cX5_leftShare 25 = .ok (.aload_n 0, 1) := by decide +kernel
theorem dX5_leftShare_26 : decode cX5_leftShare 26 = .ok (.getfield 26, 3) := by decide +kernel
theorem dX5_leftShare_29 : decode cX5_leftShare 29 = .ok (.iload_n 1, 1) := by decide +kernel
theorem dX5_leftShare_30 : decode cX5_leftShare 30 = .ok (.aload_n 3, 1) := by decide +kernel
theorem dX5_leftShare_31 : decode cX5_leftShare 31 = .ok (.iload_n 2, 1) := by decide +kernel
theorem dX5_leftShare_32 : decode cX5_leftShare 32 = .ok (.invokevirtual 86, 3) := by decide +kernel
theorem dX5_leftShare_35 : decode cX5_leftShare 35 = .ok (.invokevirtual 51, 3) := by decide +kernel
theorem dX5_leftShare_38 : decode cX5_leftShare 38 = .ok (.istore 6, 2) := by decide +kernel
theorem dX5_leftShare_40 : decode cX5_leftShare 40 = .ok (.aload_n 0, 1) := by decide +kernel
theorem dX5_leftShare_41 : decode cX5_leftShare 41 = .ok (.getfield 26, 3) := by decide +kernel
theorem dX5_leftShare_44 : decode cX5_leftShare 44 = .ok (.iload_n 1, 1) := by decide +kernel
theorem dX5_leftShare_45 : decode cX5_leftShare 45 = .ok (.aload_n 3, 1) := by decide +kernel
theorem dX5_leftShare_46 : decode cX5_leftShare 46 = .ok (.iload_n 2, 1) := by decide +kernel
theorem dX5_leftShare_47 : decode cX5_leftShare 47 = .ok (.invokevirtual 100, 3) := by decide +kernel
theorem dX5_leftShare_50 : decode cX5_leftShare 50 = .ok (.invokevirtual 51, 3) := by decide +kernel
theorem dX5_leftShare_53 : decode cX5_leftShare 53 = .ok (.istore 7, 2) := by decide +kernel
theorem dX5_leftShare_55 : decode cX5_leftShare 55 = .ok (.aload_n 3, 1) := by decide +kernel
theorem dX5_leftShare_56 : decode cX5_leftShare 56 = .ok (.iload_n 2, 1) := by decide +kernel
theorem dX5_leftShare_57 : decode cX5_leftShare 57 = .ok (.invokevirtual 72, 3) := by decide +kernel
theorem dX5_leftShare_60 : decode cX5_leftShare 60 = .ok (.lookupswitch 130 #[(42, 78), (43, 76), (45, 76), (47, 81), (94, 98), (99, 108), (110, 68)], 68) := by decide +kernel
theorem dX5_leftShare_128 : decode cX5_leftShare 128 = .ok (.aload 4, 2) := by decide +kernel
theorem dX5_leftShare_130 : decode cX5_leftShare 130 = .ok (.iconst 0, 1) := by decide +kernel
theorem dX5_leftShare_131 : decode cX5_leftShare 131 = .ok (.iconst 1, 1) := by decide +kernel
theorem dX5_leftShare_132 : decode cX5_leftShare 132 = .ok (.invokevirtual 108, 3) := by decide +kernel
theorem dX5_leftShare_135 : decode cX5_leftShare 135 = .ok (.ireturn, 1) := by decide +kernel
theorem dX5_leftShare_136 : decode cX5_leftShare 136 = .ok (.iconst 1, 1) := by decide +kernel
theorem dX5_leftShare_137 : decode cX5_leftShare 137 = .ok (.ireturn, 1) := by decide +kernel
theorem dX5_leftShare_138 : decode cX5_leftShare 138 = .ok (.iload 7, 2) := by decide +kernel
theorem dX5_leftShare_140 : decode cX5_leftShare 140 = .ok (.ireturn, 1) := by decide +kernel
theorem dX5_leftShare_141 : decode cX5_leftShare 141 = .ok (.aload 4, 2) := by decide +kernel
theorem dX5_leftShare_143 : decode cX5_leftShare 143 = .ok (.iload 7, 2) := by decide +kernel
theorem dX5_leftShare_145 : decode cX5_leftShare 145 = .ok (.aload 4, 2) := by decide +kernel
theorem dX5_leftShare_147 : decode cX5_leftShare 147 = .ok (.iload 7, 2) := by decide +kernel
theorem dX5_leftShare_149 : decode cX5_leftShare 149 = .ok (.iload 7, 2) := by decide +kernel
theorem dX5_leftShare_151 : decode cX5_leftShare 151 = .ok (.invokevirtual 114, 3) := by decide +kernel
theorem dX5_leftShare_154 : decode cX5_leftShare 154 = .ok (.invokevirtual 117, 3) := by decide +kernel
theorem dX5_leftShare_157 : decode cX5_leftShare 157 = .ok (.ireturn, 1) := by decide +kernel
theorem dX5_leftShare_158 : decode cX5_leftShare 158 = .ok (.aload 4, 2) := by decide +kernel
theorem dX5_leftShare_160 : decode cX5_leftShare 160 = .ok (.iload 6, 2) := by decide +kernel
theorem dX5_leftShare_162 : decode cX5_leftShare 162 = .ok (.iload 5, 2) := by decide +kernel
theorem dX5_leftShare_164 : decode cX5_leftShare 164 = .ok (.invokevirtual 139, 3) := by decide +kernel
theorem dX5_leftShare_167 : decode cX5_leftShare 167 = .ok (.ireturn, 1) := by decide +kernel
theorem dX5_leftShare_168 : decode cX5_leftShare 168 = .ok (.iload_n 1, 1) := by decide +kernel
theorem dX5_leftShare_169 : decode cX5_leftShare 169 = .ok (.iload 5, 2) := by decide +kernel
theorem dX5_leftShare_171 : decode cX5_leftShare 171 = .ok (.invokestatic 89, 3) := by decide +kernel
theorem dX5_leftShare_174 : decode cX5_leftShare 174 = .ok (.ifCond .eq 14, 3) := by decide +kernel
theorem dX5_leftShare_177 : decode cX5_leftShare 177 = .ok (.aload_n 0, 1) := by decide +kernel
theorem dX5_leftShare_178 : decode cX5_leftShare 178 = .ok (.iload 5, 2) := by decide +kernel
theorem dX5_leftShare_180 : decode cX5_leftShare 180 = .ok (.iload 6, 2) := by decide +kernel
theorem dX5_leftShare_182 : decode cX5_leftShare 182 = .ok (.invokevirtual 155, 3) := by decide +kernel
theorem dX5_leftShare_185 : decode cX5_leftShare 185 = .ok (.goto 4, 3) := by decide +kernel
theorem dX5_leftShare_188 : decode cX5_leftShare 188 = .ok (.iconst 0, 1) := by decide +kernel
theorem dX5_leftShare_189 : decode cX5_leftShare 189 = .ok (.ireturn, 1) := by decide +kernel
theorem dX5_leftShare_190 : decode cX5_leftShare 190 = .ok (.iconst 0, 1) := by decide +kernel
theorem dX5_leftShare_191 : decode cX5_leftShare 191 = .ok (.ireturn, 1) := by decide +kernel
set_option maxRecDepth 20000 in
theorem ggX5_rightShare_X7_expressionOf : GoodIn wsX5_rightShare wsX7_expressionOf := goodIn_r _ [7, 8, 9, 10, 11, 72, 73, 74, 75, 76] rfl (by decide +kernel)
set_option maxRecDepth 20000 in
theorem gX5_rightShare_X7_expressionOf : GoodIn wsX5_rightShare (wsV RX5 62 RX7 yX7_expressionOf wsX7_expressionOf) := goodIn_app (goodIn_of _ (by decide +kernel)) ggX5_rightShare_X7_expressionOf
set_option maxRecDepth 20000 in
theorem ggX5_rightShare_X7_numbers : GoodIn wsX5_rightShare wsX7_numbers := goodIn_r _ [15, 16, 72, 73, 74, 75, 76] rfl (by decide +kernel)
set_option maxRecDepth 20000 in
theorem gX5_rightShare_X7_numbers : GoodIn wsX5_rightShare (wsV RX5 96 RX7 yX7_numbers wsX7_numbers) := goodIn_app (goodIn_of _ (by decide +kernel)) ggX5_rightShare_X7_numbers
set_option maxRecDepth 20000 in
theorem ggX5_rightShare_X1_left : GoodIn wsX5_rightShare wsX1_left := goodIn_r _ [21, 22, 77, 78, 79, 80, 81, 82, 83] rfl (by decide +kernel)
set_option maxRecDepth 20000 in
theorem gX5_rightShare_X1_left : GoodIn wsX5_rightShare (wsV RX5 86 RX1 yX1_left wsX1_left) := goodIn_app (goodIn_of _ (by decide +kernel)) ggX5_rightShare_X1_left
set_option maxRecDepth 20000 in
theorem ggX5_rightShare_X8_get : GoodIn wsX5_rightShare wsX8_get := goodIn_r _ [27, 28, 29, 30, 31, 32, 84, 85] rfl (by decide +kernel)
set_option maxRecDepth 20000 in
theorem gX5_rightShare_X8_get : GoodIn wsX5_rightShare (wsV RX5 51 RX8 yX8_get wsX8_get) := goodIn_app (goodIn_of _ (by decide +kernel)) ggX5_rightShare_X8_get
set_option maxRecDepth 20000 in
theorem ggX5_rightShare_X1_right : GoodIn wsX5_rightShare wsX1_right := goodIn_r _ [36, 37, 77, 78, 79, 80, 81, 82, 83] rfl (by decide +kernel)
set_option maxRecDepth 20000 in
theorem gX5_rightShare_X1_right : GoodIn wsX5_rightShare (wsV RX5 100 RX1 yX1_right wsX1_right) := goodIn_app (goodIn_of _ (by decide +kernel)) ggX5_rightShare_X1_right
set_option maxRecDepth 20000 in
theorem ggX5_rightShare_X1_kind : GoodIn wsX5_rightShare wsX1_kind := goodIn_r _ [41, 42, 30, 31, 32, 77, 78, 79, 80, 81, 82, 83] rfl (by decide +kernel)
set_option maxRecDepth 20000 in
theorem gX5_rightShare_X1_kind : GoodIn wsX5_rightShare (wsV RX5 72 RX1 yX1_kind wsX1_kind) := goodIn_app (goodIn_of _ (by decide +kernel)) ggX5_rightShare_X1_kind
set_option maxRecDepth 20000 in
theorem ggX5_rightShare_X6_subtract : GoodIn wsX5_rightShare wsX6_subtract := goodIn_r _ [47, 48, 49, 50, 46, 51, 52, 86] rfl (by decide +kernel)
set_option maxRecDepth 20000 in
theorem gX5_rightShare_X6_subtract : GoodIn wsX5_rightShare (wsV RX5 108 RX6 yX6_subtract wsX6_subtract) := goodIn_app (goodIn_of _ (by decide +kernel)) ggX5_rightShare_X6_subtract
set_option maxRecDepth 20000 in
theorem ggX5_rightShare_X6_multiply : GoodIn wsX5_rightShare wsX6_multiply := goodIn_r _ [56, 48, 49, 50, 46, 51, 52, 86] rfl (by decide +kernel)
set_option maxRecDepth 20000 in
theorem gX5_rightShare_X6_multiply : GoodIn wsX5_rightShare (wsV RX5 114 RX6 yX6_multiply wsX6_multiply) := goodIn_app (goodIn_of _ (by decide +kernel)) ggX5_rightShare_X6_multiply
set_option maxRecDepth 20000 in
theorem ggX5_rightShare_X6_divide : GoodIn wsX5_rightShare wsX6_divide := goodIn_r _ [60, 52, 61, 62, 63, 46, 64, 48, 49, 50, 51, 86] rfl (by decide +kernel)
set_option maxRecDepth 20000 in
theorem gX5_rightShare_X6_divide : GoodIn wsX5_rightShare (wsV RX5 117 RX6 yX6_divide wsX6_divide) := goodIn_app (goodIn_of _ (by decide +kernel)) ggX5_rightShare_X6_divide
theorem dX5_rightShare_0 : decode cX5_rightShare 0 = .ok (.aload_n 0, 1) := by decide +kernel
theorem dX5_rightShare_1 : decode cX5_rightShare 1 = .ok (.getfield 41, 3) := by decide +kernel
theorem dX5_rightShare_4 : decode cX5_rightShare 4 = .ok (.iload_n 1, 1) := by decide +kernel
theorem dX5_rightShare_5 : decode cX5_rightShare 5 = .ok (.invokevirtual 62, 3) := by decide +kernel
theorem dX5_rightShare_8 : decode cX5_rightShare 8 = .ok (.astore_n 3, 1) := by decide +kernel
theorem dX5_rightShare_9 : decode cX5_rightShare 9 = .ok (.aload_n 0, 1) := by decide +kernel
theorem dX5_rightShare_10 : decode cX5_rightShare 10 = .ok (.getfield 41, 3) := by decide +kernel
theorem dX5_rightShare_13 : decode cX5_rightShare 13 = .ok (.invokevirtual 96, 3) := by decide +kernel
theorem dX5_rightShare_16 : decode cX5_rightShare 16 = .ok (.astore 4, 2) := by decide +kernel
theorem dX5_rightShare_18 : decode cX5_rightShare 18 = .ok (.aload_n 0, 1) := by decide +kernel
theorem dX5_rightShare_19 : decode cX5_rightShare 19 = .ok (.getfield 26, 3) := by decide +kernel
theorem dX5_rightShare_22 : decode cX5_rightShare 22 = .ok (.iload_n 1, 1) := by decide +kernel
theorem dX5_rightShare_23 : decode cX5_rightShare 23 = .ok (.aload_n 3, 1) := by decide +kernel
theorem dX5_rightShare_24 : decode cX5_rightShare 24 = .ok (.iload_n 2, 1) := by decide +kernel
theorem dX5_rightShare_25 : decode cX5_rightShare 25 = .ok (.invokevirtual 86, 3) := by decide +kernel
theorem dX5_rightShare_28 : decode cX5_rightShare 28 = .ok (.invokevirtual 51, 3) := by decide +kernel
theorem dX5_rightShare_31 : decode cX5_rightShare 31 = .ok (.istore 5, 2) := by decide +kernel
theorem dX5_rightShare_33 : decode cX5_rightShare 33 = .ok (.aload_n 0, 1) := by decide +kernel
theorem dX5_rightShare_34 : decode cX5_rightShare 34 = .ok (.getfield 26, 3) := by decide +kernel
theorem dX5_rightShare_37 : decode cX5_rightShare 37 = .ok (.iload_n 1, 1) := by decide +kernel
theorem dX5_rightShare_38 : decode cX5_rightShare 38 = .ok (.aload_n 3, 1) := by decide +kernel
theorem dX5_rightShare_39 : decode cX5_rightShare 39 = .ok (.iload_n 2, 1) := by decide +kernel
theorem dX5_rightShare_40 : decode cX5_rightShare 40 = .ok (.invokevirtual 100, 3) := by decide +kernel
theorem dX5_rightShare_43 : decode cX5_rightShare 43 = .ok (.invokevirtual 51, 3) := by decide +kernel
theorem dX5_rightShare_46 : decode cX5_rightShare 46 = .ok (.istore 6, 2) := by decide +kernel
theorem dX5_rightShare_48 : decode cX5_rightShare 48 = .ok (.aload_n 3, 1) := by decide +kernel
theorem dX5_rightShare_49 : decode cX5_rightShare 49 = .ok (.iload_n 2, 1) := by decide +kernel
theorem dX5_rightShare_50 : decode cX5_rightShare 50 = .ok (.invokevirtual 72, 3) := by decide +kernel
theorem dX5_rightShare_53 : decode cX5_rightShare 53 = .ok (.tableswitch 75 42 47 #[49, 39, 75, 41, 75, 52], 39) := by decide +kernel
theorem dX5_rightShare_92 : decode cX5_rightShare 92 = .ok (.iconst 1, 1) := by decide +kernel
theorem dX5_rightShare_93 : decode cX5_rightShare 93 = .ok (.ireturn, 1) := by decide +kernel
theorem dX5_rightShare_94 : decode cX5_rightShare 94 = .ok (.aload 4, 2) := by decide +kernel
theorem dX5_rightShare_96 : decode cX5_rightShare 96 = .ok (.iconst 0, 1) := by decide +kernel
theorem dX5_rightShare_97 : decode cX5_rightShare 97 = .ok (.iconst 1, 1) := by decide +kernel
theorem dX5_rightShare_98 : decode cX5_rightShare 98 = .ok (.invokevirtual 108, 3) := by decide +kernel
theorem dX5_rightShare_101 : decode cX5_rightShare 101 = .ok (.ireturn, 1) := by decide +kernel
theorem dX5_rightShare_102 : decode cX5_rightShare 102 = .ok (.iload 5, 2) := by decide +kernel
theorem dX5_rightShare_104 : decode cX5_rightShare 104 = .ok (.ireturn, 1) := by decide +kernel
theorem dX5_rightShare_105 : decode cX5_rightShare 105 = .ok (.aload 4, 2) := by decide +kernel
theorem dX5_rightShare_107 : decode cX5_rightShare 107 = .ok (.aload 4, 2) := by decide +kernel
theorem dX5_rightShare_109 : decode cX5_rightShare 109 = .ok (.iconst 0, 1) := by decide +kernel
theorem dX5_rightShare_110 : decode cX5_rightShare 110 = .ok (.iload 5, 2) := by decide +kernel
theorem dX5_rightShare_112 : decode cX5_rightShare 112 = .ok (.invokevirtual 108, 3) := by decide +kernel
theorem dX5_rightShare_115 : decode cX5_rightShare 115 = .ok (.aload 4, 2) := by decide +kernel
theorem dX5_rightShare_117 : decode cX5_rightShare 117 = .ok (.iload 6, 2) := by decide +kernel
theorem dX5_rightShare_119 : decode cX5_rightShare 119 = .ok (.iload 6, 2) := by decide +kernel
theorem dX5_rightShare_121 : decode cX5_rightShare 121 = .ok (.invokevirtual 114, 3) := by decide +kernel
theorem dX5_rightShare_124 : decode cX5_rightShare 124 = .ok (.invokevirtual 117, 3) := by decide +kernel
theorem dX5_rightShare_127 : decode cX5_rightShare 127 = .ok (.ireturn, 1) := by decide +kernel
theorem dX5_rightShare_128 : decode cX5_rightShare 128 = .ok (.iconst 0, 1) := by decide +kernel
theorem dX5_rightShare_129 : decode cX5_rightShare 129 = .ok (.ireturn, 1) := by decide +kernel
theorem dX6_init_0 : decode cX6_init 0 = .ok (.aload_n 0, 1) := by decide +kernel
theorem dX6_init_1 : decode cX6_init 1 = .ok (.invokespecial 1, 3) := by decide +kernel
theorem dX6_init_4 : decode cX6_init 4 = .ok (.aload_n 0, 1) := by decide +kernel
theorem dX6_init_5 : decode cX6_init 5 = .ok (.iload_n 1, 1) := by decide +kernel
theorem dX6_init_6 : decode cX6_init 6 = .ok (.putfield 7, 3) := by decide +kernel
theorem dX6_init_9 : decode cX6_init 9 = .ok (.return_, 1) := by decide +kernel
theorem dX6_prime_0 : decode cX6_prime 0 = .ok (.aload_n 0, 1) := by decide +kernel
theorem dX6_prime_1 : decode cX6_prime 1 = .ok (.getfield 7, 3) := by decide +kernel
theorem dX6_prime_4 : decode cX6_prime 4 = .ok (.ireturn, 1) := by decide +kernel
theorem dX6_of_0 : decode cX6_of 0 = .ok (.aload_n 0, 1) := by decide +kernel
theorem dX6_of_1 : decode cX6_of 1 = .ok (.getfield 7, 3) := by decide +kernel
theorem dX6_of_4 : decode cX6_of 4 = .ok (.ifCond .gt 5, 3) := by decide +kernel
theorem dX6_of_7 : decode cX6_of 7 = .ok (.iconst 0, 1) := by decide +kernel
theorem dX6_of_8 : decode cX6_of 8 = .ok (.ireturn, 1) := by decide +kernel
theorem dX6_of_9 : decode cX6_of 9 = .ok (.iload_n 1, 1) := by decide +kernel
theorem dX6_of_10 : decode cX6_of 10 = .ok (.aload_n 0, 1) := by decide +kernel
theorem dX6_of_11 : decode cX6_of 11 = .ok (.getfield 7, 3) := by decide +kernel
theorem dX6_of_14 : decode cX6_of 14 = .ok (.irem, 1) := by decide +kernel
theorem dX6_of_15 : decode cX6_of 15 = .ok (.istore_n 2, 1) := by decide +kernel
theorem dX6_of_16 : decode cX6_of 16 = .ok (.iload_n 2, 1) := by decide +kernel
theorem dX6_of_17 : decode cX6_of 17 = .ok (.ifCond .ge 12, 3) := by decide +kernel
theorem dX6_of_20 : decode cX6_of 20 = .ok (.iload_n 2, 1) := by decide +kernel
theorem dX6_of_21 : decode cX6_of 21 = .ok (.aload_n 0, 1) := by decide +kernel
theorem dX6_of_22 : decode cX6_of 22 = .ok (.getfield 7, 3) := by decide +kernel
theorem dX6_of_25 : decode cX6_of 25 = .ok (.iadd, 1) := by decide +kernel
theorem dX6_of_26 : decode cX6_of 26 = .ok (.goto 4, 3) := by decide +kernel
theorem dX6_of_29 : decode cX6_of 29 = .ok (.iload_n 2, 1) := by decide +kernel
theorem dX6_of_30 : decode cX6_of 30 = .ok (.ireturn, 1) := by decide +kernel
set_option maxRecDepth 20000 in
theorem ggX6_add_X6_of : GoodIn wsX6_add wsX6_of := goodIn_r _ [5, 6, 7] rfl (by decide +kernel)
set_option maxRecDepth 20000 in
theorem gX6_add_X6_of : GoodIn wsX6_add (wsV RX6 13 RX6 yX6_of wsX6_of) := goodIn_app (goodIn_of _ (by decide +kernel)) ggX6_add_X6_of
theorem dX6_add_0 : decode cX6_add 0 = .ok (.aload_n 0, 1) := by decide +kernel
theorem dX6_add_1 : decode cX6_add 1 = .ok (.iload_n 1, 1) := by decide +kernel
theorem dX6_add_2 : decode cX6_add 2 = .ok (.iload_n 2, 1) := by decide +kernel
theorem dX6_add_3 : decode cX6_add 3 = .ok (.iadd, 1) := by decide +kernel
theorem dX6_add_4 : decode cX6_add 4 = .ok (.invokevirtual 13, 3) := by decide +kernel
theorem dX6_add_7 : decode cX6_add 7 = .ok (.ireturn, 1) := by decide +kernel
set_option maxRecDepth 20000 in
theorem ggX6_subtract_X6_of : GoodIn wsX6_subtract wsX6_of := goodIn_r _ [5, 6, 7] rfl (by decide +kernel)
set_option maxRecDepth 20000 in
theorem gX6_subtract_X6_of : GoodIn wsX6_subtract (wsV RX6 13 RX6 yX6_of wsX6_of) := goodIn_app (goodIn_of _ (by decide +kernel)) ggX6_subtract_X6_of
theorem dX6_subtract_0 : decode cX6_subtract 0 = .ok (.aload_n 0, 1) := by decide +kernel
theorem dX6_subtract_1 : decode cX6_subtract 1 = .ok (.iload_n 1, 1) := by decide +kernel
theorem dX6_subtract_2 : decode cX6_subtract 2 = .ok (.iload_n 2, 1) := by decide +kernel
theorem dX6_subtract_3 : decode cX6_subtract 3 = .ok (.isub, 1) := by decide +kernel
theorem dX6_subtract_4 : decode cX6_subtract 4 = .ok (.invokevirtual 13, 3) := by decide +kernel
theorem dX6_subtract_7 : decode cX6_subtract 7 = .ok (.ireturn, 1) := by decide +kernel
set_option maxRecDepth 20000 in
theorem ggX6_multiply_X6_of : GoodIn wsX6_multiply wsX6_of := goodIn_r _ [5, 6, 7] rfl (by decide +kernel)
set_option maxRecDepth 20000 in
theorem gX6_multiply_X6_of : GoodIn wsX6_multiply (wsV RX6 13 RX6 yX6_of wsX6_of) := goodIn_app (goodIn_of _ (by decide +kernel)) ggX6_multiply_X6_of
theorem dX6_multiply_0 : decode cX6_multiply 0 = .ok (.aload_n 0, 1) := by decide +kernel
theorem dX6_multiply_1 : decode cX6_multiply 1 = .ok (.iload_n 1, 1) := by decide +kernel
theorem dX6_multiply_2 : decode cX6_multiply 2 = .ok (.iload_n 2, 1) := by decide +kernel
theorem dX6_multiply_3 : decode cX6_multiply 3 = .ok (.imul, 1) := by decide +kernel
theorem dX6_multiply_4 : decode cX6_multiply 4 = .ok (.invokevirtual 13, 3) := by decide +kernel
theorem dX6_multiply_7 : decode cX6_multiply 7 = .ok (.ireturn, 1) := by decide +kernel
set_option maxRecDepth 20000 in
theorem ggX6_divide_X6_power : GoodIn wsX6_divide wsX6_power := goodIn_r _ [6, 1, 11] rfl (by decide +kernel)
set_option maxRecDepth 20000 in
theorem gX6_divide_X6_power : GoodIn wsX6_divide (wsV RX6 17 RX6 yX6_power wsX6_power) := goodIn_app (goodIn_of _ (by decide +kernel)) ggX6_divide_X6_power
set_option maxRecDepth 20000 in
theorem ggX6_divide_X6_of : GoodIn wsX6_divide wsX6_of := goodIn_r _ [10, 1, 11] rfl (by decide +kernel)
set_option maxRecDepth 20000 in
theorem gX6_divide_X6_of : GoodIn wsX6_divide (wsV RX6 13 RX6 yX6_of wsX6_of) := goodIn_app (goodIn_of _ (by decide +kernel)) ggX6_divide_X6_of
theorem dX6_divide_0 : decode cX6_divide 0 = .ok (.aload_n 0, 1) := by decide +kernel
theorem dX6_divide_1 : decode cX6_divide 1 = .ok (.iload_n 1, 1) := by decide +kernel
theorem dX6_divide_2 : decode cX6_divide 2 = .ok (.aload_n 0, 1) := by decide +kernel
theorem dX6_divide_3 : decode cX6_divide 3 = .ok (.iload_n 2, 1) := by decide +kernel
theorem dX6_divide_4 : decode cX6_divide 4 = .ok (.aload_n 0, 1) := by decide +kernel
theorem dX6_divide_5 : decode cX6_divide 5 = .ok (.getfield 7, 3) := by decide +kernel
theorem dX6_divide_8 : decode cX6_divide 8 = .ok (.iconst 2, 1) := by decide +kernel
theorem dX6_divide_9 : decode cX6_divide 9 = .ok (.isub, 1) := by decide +kernel
theorem dX6_divide_10 : decode cX6_divide 10 = .ok (.invokevirtual 17, 3) := by decide +kernel
theorem dX6_divide_13 : decode cX6_divide 13 = .ok (.imul, 1) := by decide +kernel
theorem dX6_divide_14 : decode cX6_divide 14 = .ok (.invokevirtual 13, 3) := by decide +kernel
theorem dX6_divide_17 : decode cX6_divide 17 = .ok (.ireturn, 1) := by decide +kernel
theorem dX6_power_0 : decode cX6_power 0 = .ok (.aload_n 0, 1) := by decide +kernel
theorem dX6_power_1 : decode cX6_power 1 = .ok (.getfield 7, 3) := by decide +kernel
theorem dX6_power_4 : decode cX6_power 4 = .ok (.ifCond .gt 5, 3) := by decide +kernel
theorem dX6_power_7 : decode cX6_power 7 = .ok (.iconst 0, 1) := by decide +kernel
theorem dX6_power_8 : decode cX6_power 8 = .ok (.ireturn, 1) := by decide +kernel
theorem dX6_power_9 : decode cX6_power 9 = .ok (.iconst 1, 1) := by decide +kernel
theorem dX6_power_10 : decode cX6_power 10 = .ok (.istore_n 3, 1) := by decide +kernel
theorem dX6_power_11 : decode cX6_power 11 = .ok (.iload_n 1, 1) := by decide +kernel
theorem dX6_power_12 : decode cX6_power 12 = .ok (.istore 4, 2) := by decide +kernel
theorem dX6_power_14 : decode cX6_power 14 = .ok (.iload_n 2, 1) := by decide +kernel
theorem dX6_power_15 : decode cX6_power 15 = .ok (.istore 5, 2) := by decide +kernel
theorem dX6_power_17 : decode cX6_power 17 = .ok (.iload 5, 2) := by decide +kernel
theorem dX6_power_19 : decode cX6_power 19 = .ok (.ifCond .le 42, 3) := by decide +kernel
theorem dX6_power_22 : decode cX6_power 22 = .ok (.iload 5, 2) := by decide +kernel
theorem dX6_power_24 : decode cX6_power 24 = .ok (.iconst 1, 1) := by decide +kernel
theorem dX6_power_25 : decode cX6_power 25 = .ok (.iand, 1) := by decide +kernel
theorem dX6_power_26 : decode cX6_power 26 = .ok (.iconst 1, 1) := by decide +kernel
theorem dX6_power_27 : decode cX6_power 27 = .ok (.if_icmp .ne 13, 3) := by decide +kernel
theorem dX6_power_30 : decode cX6_power 30 = .ok (.iload_n 3, 1) := by decide +kernel
theorem dX6_power_31 : decode cX6_power 31 = .ok (.iload 4, 2) := by decide +kernel
theorem dX6_power_33 : decode cX6_power 33 = .ok (.imul, 1) := by decide +kernel
theorem dX6_power_34 : decode cX6_power 34 = .ok (.aload_n 0, 1) := by decide +kernel
theorem dX6_power_35 : decode cX6_power 35 = .ok (.getfield 7, 3) := by decide +kernel
theorem dX6_power_38 : decode cX6_power 38 = .ok (.irem, 1) := by decide +kernel
theorem dX6_power_39 : decode cX6_power 39 = .ok (.istore_n 3, 1) := by decide +kernel
theorem dX6_power_40 : decode cX6_power 40 = .ok (.iload 4, 2) := by decide +kernel
theorem dX6_power_42 : decode cX6_power 42 = .ok (.iload 4, 2) := by decide +kernel
theorem dX6_power_44 : decode cX6_power 44 = .ok (.imul, 1) := by decide +kernel
theorem dX6_power_45 : decode cX6_power 45 = .ok (.aload_n 0, 1) := by decide +kernel
theorem dX6_power_46 : decode cX6_power 46 = .ok (.getfield 7, 3) := by decide +kernel
theorem dX6_power_49 : decode cX6_power 49 = .ok (.irem, 1) := by decide +kernel
theorem dX6_power_50 : decode cX6_power 50 = .ok (.istore 4, 2) := by decide +kernel
theorem dX6_power_52 : decode cX6_power 52 = .ok (.iload 5, 2) := by decide +kernel
theorem dX6_power_54 : decode cX6_power 54 = .ok (.iconst 2, 1) := by decide +kernel
theorem dX6_power_55 : decode cX6_power 55 = .ok (.idiv, 1) := by decide +kernel
theorem dX6_power_56 : decode cX6_power 56 = .ok (.istore 5, 2) := by decide +kernel
theorem dX6_power_58 : decode cX6_power 58 = .ok (.goto (-41), 3) := by decide +kernel
theorem dX6_power_61 : decode cX6_power 61 = .ok (.iload_n 3, 1) := by decide +kernel
theorem dX6_power_62 : decode cX6_power 62 = .ok (.ireturn, 1) := by decide +kernel
set_option maxRecDepth 20000 in
theorem ggX6_powerSlope_X6_power : GoodIn wsX6_powerSlope wsX6_power := goodIn_r _ [5, 6, 11] rfl (by decide +kernel)
set_option maxRecDepth 20000 in
theorem gX6_powerSlope_X6_power : GoodIn wsX6_powerSlope (wsV RX6 17 RX6 yX6_power wsX6_power) := goodIn_app (goodIn_of _ (by decide +kernel)) ggX6_powerSlope_X6_power
set_option maxRecDepth 20000 in
theorem ggX6_powerSlope_X6_of : GoodIn wsX6_powerSlope wsX6_of := goodIn_r _ [10, 6, 11] rfl (by decide +kernel)
set_option maxRecDepth 20000 in
theorem gX6_powerSlope_X6_of : GoodIn wsX6_powerSlope (wsV RX6 13 RX6 yX6_of wsX6_of) := goodIn_app (goodIn_of _ (by decide +kernel)) ggX6_powerSlope_X6_of
theorem dX6_powerSlope_0 : decode cX6_powerSlope 0 = .ok (.aload_n 0, 1) := by decide +kernel
theorem dX6_powerSlope_1 : decode cX6_powerSlope 1 = .ok (.iload_n 2, 1) := by decide +kernel
theorem dX6_powerSlope_2 : decode cX6_powerSlope 2 = .ok (.aload_n 0, 1) := by decide +kernel
theorem dX6_powerSlope_3 : decode cX6_powerSlope 3 = .ok (.iload_n 1, 1) := by decide +kernel
theorem dX6_powerSlope_4 : decode cX6_powerSlope 4 = .ok (.iload_n 2, 1) := by decide +kernel
theorem dX6_powerSlope_5 : decode cX6_powerSlope 5 = .ok (.iconst 1, 1) := by decide +kernel
theorem dX6_powerSlope_6 : decode cX6_powerSlope 6 = .ok (.isub, 1) := by decide +kernel
theorem dX6_powerSlope_7 : decode cX6_powerSlope 7 = .ok (.invokevirtual 17, 3) := by decide +kernel
theorem dX6_powerSlope_10 : decode cX6_powerSlope 10 = .ok (.imul, 1) := by decide +kernel
theorem dX6_powerSlope_11 : decode cX6_powerSlope 11 = .ok (.invokevirtual 13, 3) := by decide +kernel
theorem dX6_powerSlope_14 : decode cX6_powerSlope 14 = .ok (.ireturn, 1) := by decide +kernel
theorem dX7_init_0 : decode cX7_init 0 = .ok (.aload_n 0, 1) := by decide +kernel
theorem dX7_init_1 : decode cX7_init 1 = .ok (.invokespecial 3, 3) := by decide +kernel
theorem dX7_init_4 : decode cX7_init 4 = .ok (.aload_n 0, 1) := by decide +kernel
theorem dX7_init_5 : decode cX7_init 5 = .ok (.aload_n 1, 1) := by decide +kernel
theorem dX7_init_6 : decode cX7_init 6 = .ok (.putfield 9, 3) := by decide +kernel
theorem dX7_init_9 : decode cX7_init 9 = .ok (.aload_n 0, 1) := by decide +kernel
theorem dX7_init_10 : decode cX7_init 10 = .ok (.aload_n 2, 1) := by decide +kernel
theorem dX7_init_11 : decode cX7_init 11 = .ok (.putfield 15, 3) := by decide +kernel
theorem dX7_init_14 : decode cX7_init 14 = .ok (.aload_n 0, 1) := by decide +kernel
theorem dX7_init_15 : decode cX7_init 15 = .ok (.aload_n 3, 1) := by decide +kernel
theorem dX7_init_16 : decode cX7_init 16 = .ok (.putfield 19, 3) := by decide +kernel
theorem dX7_init_19 : decode cX7_init 19 = .ok (.aload_n 0, 1) := by decide +kernel
theorem dX7_init_20 : decode cX7_init 20 = .ok (.aload 4, 2) := by decide +kernel
theorem dX7_init_22 : decode cX7_init 22 = .ok (.putfield 22, 3) := by decide +kernel
theorem dX7_init_25 : decode cX7_init 25 = .ok (.aload_n 0, 1) := by decide +kernel
theorem dX7_init_26 : decode cX7_init 26 = .ok (.aload 5, 2) := by decide +kernel
theorem dX7_init_28 : decode cX7_init 28 = .ok (.putfield 25, 3) := by decide +kernel
theorem dX7_init_31 : decode cX7_init 31 = .ok (.return_, 1) := by decide +kernel
set_option maxRecDepth 20000 in
theorem ggX7_first_X1_ofX : GoodIn wsX7_first wsX1_ofX := goodIn_r _ [10, 11, 12, 9, 13, 14, 15, 16, 17, 18, 19, 20, 21, 22, 23, 24, 25, 26, 47, 48, 49, 50, 51, 52, 53] rfl (by decide +kernel)
set_option maxRecDepth 20000 in
theorem gX7_first_X1_ofX : GoodIn wsX7_first (va_wsS RX7 28 yX1_ofX wsX1_ofX) := goodIn_app (goodIn_of _ (by decide +kernel)) ggX7_first_X1_ofX
set_option maxRecDepth 20000 in
theorem ggX7_first_X6_init : GoodIn wsX7_first wsX6_init := goodIn_r _ [29, 30, 18, 19, 31, 46] rfl (by decide +kernel)
set_option maxRecDepth 20000 in
theorem gX7_first_X6_init : GoodIn wsX7_first (wsX6_init) := ggX7_first_X6_init
set_option maxRecDepth 20000 in
theorem ggX7_first_X7_init : GoodIn wsX7_first wsX7_init := goodIn_r _ [34, 35, 18, 19, 36, 37, 38, 39, 40, 41, 42, 43, 44, 45] rfl (by decide +kernel)
set_option maxRecDepth 20000 in
theorem gX7_first_X7_init : GoodIn wsX7_first (wsX7_init) := ggX7_first_X7_init
theorem dX7_first_0 : decode cX7_first 0 = .ok (.invokestatic 28, 3) := by decide +kernel
theorem dX7_first_3 : decode cX7_first 3 = .ok (.astore_n 0, 1) := by decide +kernel
theorem dX7_first_4 : decode cX7_first 4 = .ok (.new 10, 3) := by decide +kernel
theorem dX7_first_7 : decode cX7_first 7 = .ok (.dup, 1) := by decide +kernel
theorem dX7_first_8 : decode cX7_first 8 = .ok (.new 34, 3) := by decide +kernel
theorem dX7_first_11 : decode cX7_first 11 = .ok (.dup, 1) := by decide +kernel
theorem dX7_first_12 : decode cX7_first 12 = .ok (.bipush 97, 2) := by decide +kernel
theorem dX7_first_14 : decode cX7_first 14 = .ok (.invokespecial 36, 3) := by decide +kernel
theorem dX7_first_17 : decode cX7_first 17 = .ok (.aload_n 0, 1) := by decide +kernel
theorem dX7_first_18 : decode cX7_first 18 = .ok (.aload_n 0, 1) := by decide +kernel
theorem dX7_first_19 : decode cX7_first 19 = .ok (.aload_n 0, 1) := by decide +kernel
theorem dX7_first_20 : decode cX7_first 20 = .ok (.aload_n 0, 1) := by decide +kernel
theorem dX7_first_21 : decode cX7_first 21 = .ok (.invokespecial 39, 3) := by decide +kernel
theorem dX7_first_24 : decode cX7_first 24 = .ok (.areturn, 1) := by decide +kernel
theorem dX7_numbers_0 : decode cX7_numbers 0 = .ok (.aload_n 0, 1) := by decide +kernel
theorem dX7_numbers_1 : decode cX7_numbers 1 = .ok (.getfield 9, 3) := by decide +kernel
theorem dX7_numbers_4 : decode cX7_numbers 4 = .ok (.areturn, 1) := by decide +kernel
theorem dX7_expressionOf_0 : decode cX7_expressionOf 0 = .ok (.iload_n 1, 1) := by decide +kernel
theorem dX7_expressionOf_1 : decode cX7_expressionOf 1 = .ok (.tableswitch 42 0 2 #[27, 32, 37], 27) := by decide +kernel
theorem dX7_expressionOf_28 : decode cX7_expressionOf 28 = .ok (.aload_n 0, 1) := by decide +kernel
theorem dX7_expressionOf_29 : decode cX7_expressionOf 29 = .ok (.getfield 15, 3) := by decide +kernel
theorem dX7_expressionOf_32 : decode cX7_expressionOf 32 = .ok (.areturn, 1) := by decide +kernel
theorem dX7_expressionOf_33 : decode cX7_expressionOf 33 = .ok (.aload_n 0, 1) := by decide +kernel
theorem dX7_expressionOf_34 : decode cX7_expressionOf 34 = .ok (.getfield 19, 3) := by decide +kernel
theorem dX7_expressionOf_37 : decode cX7_expressionOf 37 = .ok (.areturn, 1) := by decide +kernel
theorem dX7_expressionOf_38 : decode cX7_expressionOf 38 = .ok (.aload_n 0, 1) := by decide +kernel
theorem dX7_expressionOf_39 : decode cX7_expressionOf 39 = .ok (.getfield 22, 3) := by decide +kernel
theorem dX7_expressionOf_42 : decode cX7_expressionOf 42 = .ok (.areturn, 1) := by decide +kernel
theorem dX7_expressionOf_43 : decode cX7_expressionOf 43 = .ok (.aload_n 0, 1) := by decide +kernel
theorem dX7_expressionOf_44 : decode cX7_expressionOf 44 = .ok (.getfield 25, 3) := by decide +kernel
theorem dX7_expressionOf_47 : decode cX7_expressionOf 47 = .ok (.areturn, 1) := by decide +kernel
set_option maxRecDepth 20000 in
theorem ggX7_withExpression_X7_init : GoodIn wsX7_withExpression wsX7_init := goodIn_r _ [11, 12, 13, 14, 4, 5, 6, 7, 8, 15, 16, 17, 18, 19] rfl (by decide +kernel)
set_option maxRecDepth 20000 in
theorem gX7_withExpression_X7_init : GoodIn wsX7_withExpression (wsX7_init) := ggX7_withExpression_X7_init
theorem dX7_withExpression_0 : decode cX7_withExpression 0 = .ok (.new 10, 3) := by decide +kernel
theorem dX7_withExpression_3 : decode cX7_withExpression 3 = .ok (.dup, 1) := by decide +kernel
theorem dX7_withExpression_4 : decode cX7_withExpression 4 = .ok (.aload_n 0, 1) := by decide +kernel
theorem dX7_withExpression_5 : decode cX7_withExpression 5 = .ok (.getfield 9, 3) := by decide +kernel
theorem dX7_withExpression_8 : decode cX7_withExpression 8 = .ok (.iload_n 1, 1) := by decide +kernel
theorem dX7_withExpression_9 : decode cX7_withExpression 9 = .ok (.ifCond .ne 7, 3) := by decide +kernel
theorem dX7_withExpression_12 : decode cX7_withExpression 12 = .ok (.aload_n 2, 1) := by decide +kernel
theorem dX7_withExpression_13 : decode cX7_withExpression 13 = .ok (.goto 7, 3) := by decide +kernel
theorem dX7_withExpression_16 : decode cX7_withExpression 16 = .ok (.aload_n 0, 1) := by decide +kernel
theorem dX7_withExpression_17 : decode cX7_withExpression 17 = .ok (.getfield 15, 3) := by decide +kernel
theorem dX7_withExpression_20 : decode cX7_withExpression 20 = .ok (.iload_n 1, 1) := by decide +kernel
theorem dX7_withExpression_21 : decode cX7_withExpression 21 = .ok (.iconst 1, 1) := by decide +kernel
theorem dX7_withExpression_22 : decode cX7_withExpression 22 = .ok (.if_icmp .ne 7, 3) := by decide +kernel
theorem dX7_withExpression_25 : decode cX7_withExpression 25 = .ok (.aload_n 2, 1) := by decide +kernel
theorem dX7_withExpression_26 : decode cX7_withExpression 26 = .ok (.goto 7, 3) := by decide +kernel
theorem dX7_withExpression_29 : decode cX7_withExpression 29 = .ok (.aload_n 0, 1) := by decide +kernel
theorem dX7_withExpression_30 : decode cX7_withExpression 30 = .ok (.getfield 19, 3) := by decide +kernel
theorem dX7_withExpression_33 : decode cX7_withExpression 33 = .ok (.iload_n 1, 1) := by decide +kernel
theorem dX7_withExpression_34 : decode cX7_withExpression 34 = .ok (.iconst 2, 1) := by decide +kernel
theorem dX7_withExpression_35 : decode cX7_withExpression 35 = .ok (.if_icmp .ne 7, 3) := by decide +kernel
theorem dX7_withExpression_38 : decode cX7_withExpression 38 = .ok (.aload_n 2, 1) := by decide +kernel
theorem dX7_withExpression_39 : decode cX7_withExpression 39 = .ok (.goto 7, 3) := by decide +kernel
theorem dX7_withExpression_42 : decode cX7_withExpression 42 = .ok (.aload_n 0, 1) := by decide +kernel
theorem dX7_withExpression_43 : decode cX7_withExpression 43 = .ok (.getfield 22, 3) := by decide +kernel
theorem dX7_withExpression_46 : decode cX7_withExpression 46 = .ok (.iload_n 1, 1) := by decide +kernel
theorem dX7_withExpression_47 : decode cX7_withExpression 47 = .ok (.iconst 3, 1) := by decide +kernel
theorem dX7_withExpression_48 : decode cX7_withExpression 48 = .ok (.if_icmp .ne 7, 3) := by decide +kernel
theorem dX7_withExpression_51 : decode cX7_withExpression 51 = .ok (.aload_n 2, 1) := by decide +kernel
theorem dX7_withExpression_52 : decode cX7_withExpression 52 = .ok (.goto 7, 3) := by decide +kernel
theorem dX7_withExpression_55 : decode cX7_withExpression 55 = .ok (.aload_n 0, 1) := by decide +kernel
theorem dX7_withExpression_56 : decode cX7_withExpression 56 = .ok (.getfield 25, 3) := by decide +kernel
theorem dX7_withExpression_59 : decode cX7_withExpression 59 = .ok (.invokespecial 39, 3) := by decide +kernel
theorem dX7_withExpression_62 : decode cX7_withExpression 62 = .ok (.areturn, 1) := by decide +kernel
set_option maxRecDepth 20000 in
theorem ggX7_withPrime_X6_init : GoodIn wsX7_withPrime wsX6_init := goodIn_r _ [13, 14, 15, 16, 17, 28] rfl (by decide +kernel)
set_option maxRecDepth 20000 in
theorem gX7_withPrime_X6_init : GoodIn wsX7_withPrime (wsX6_init) := ggX7_withPrime_X6_init
set_option maxRecDepth 20000 in
theorem ggX7_withPrime_X7_init : GoodIn wsX7_withPrime wsX7_init := goodIn_r _ [20, 21, 15, 16, 22, 7, 8, 9, 10, 23, 24, 25, 26, 27] rfl (by decide +kernel)
set_option maxRecDepth 20000 in
theorem gX7_withPrime_X7_init : GoodIn wsX7_withPrime (wsX7_init) := ggX7_withPrime_X7_init
theorem dX7_withPrime_0 : decode cX7_withPrime 0 = .ok (.new 10, 3) := by decide +kernel
theorem dX7_withPrime_3 : decode cX7_withPrime 3 = .ok (.dup, 1) := by decide +kernel
theorem dX7_withPrime_4 : decode cX7_withPrime 4 = .ok (.new 34, 3) := by decide +kernel
theorem dX7_withPrime_7 : decode cX7_withPrime 7 = .ok (.dup, 1) := by decide +kernel
theorem dX7_withPrime_8 : decode cX7_withPrime 8 = .ok (.iload_n 1, 1) := by decide +kernel
theorem dX7_withPrime_9 : decode cX7_withPrime 9 = .ok (.invokespecial 36, 3) := by decide +kernel
theorem dX7_withPrime_12 : decode cX7_withPrime 12 = .ok (.aload_n 0, 1) := by decide +kernel
theorem dX7_withPrime_13 : decode cX7_withPrime 13 = .ok (.getfield 15, 3) := by decide +kernel
theorem dX7_withPrime_16 : decode cX7_withPrime 16 = .ok (.aload_n 0, 1) := by decide +kernel
theorem dX7_withPrime_17 : decode cX7_withPrime 17 = .ok (.getfield 19, 3) := by decide +kernel
theorem dX7_withPrime_20 : decode cX7_withPrime 20 = .ok (.aload_n 0, 1) := by decide +kernel
theorem dX7_withPrime_21 : decode cX7_withPrime 21 = .ok (.getfield 22, 3) := by decide +kernel
theorem dX7_withPrime_24 : decode cX7_withPrime 24 = .ok (.aload_n 0, 1) := by decide +kernel
theorem dX7_withPrime_25 : decode cX7_withPrime 25 = .ok (.getfield 25, 3) := by decide +kernel
theorem dX7_withPrime_28 : decode cX7_withPrime 28 = .ok (.invokespecial 39, 3) := by decide +kernel
theorem dX7_withPrime_31 : decode cX7_withPrime 31 = .ok (.areturn, 1) := by decide +kernel
theorem dX8_init_0 : decode cX8_init 0 = .ok (.aload_n 0, 1) := by decide +kernel
theorem dX8_init_1 : decode cX8_init 1 = .ok (.invokespecial 3, 3) := by decide +kernel
theorem dX8_init_4 : decode cX8_init 4 = .ok (.aload_n 0, 1) := by decide +kernel
theorem dX8_init_5 : decode cX8_init 5 = .ok (.iconst 0, 1) := by decide +kernel
theorem dX8_init_6 : decode cX8_init 6 = .ok (.iload_n 1, 1) := by decide +kernel
theorem dX8_init_7 : decode cX8_init 7 = .ok (.invokestatic 9, 3) := by decide +kernel
theorem dX8_init_10 : decode cX8_init 10 = .ok (.sipush 199, 3) := by decide +kernel
theorem dX8_init_13 : decode cX8_init 13 = .ok (.invokestatic 15, 3) := by decide +kernel
theorem dX8_init_16 : decode cX8_init 16 = .ok (.putfield 18, 3) := by decide +kernel
theorem dX8_init_19 : decode cX8_init 19 = .ok (.aload_n 0, 1) := by decide +kernel
theorem dX8_init_20 : decode cX8_init 20 = .ok (.iconst 4, 1) := by decide +kernel
theorem dX8_init_21 : decode cX8_init 21 = .ok (.aload_n 0, 1) := by decide +kernel
theorem dX8_init_22 : decode cX8_init 22 = .ok (.getfield 18, 3) := by decide +kernel
theorem dX8_init_25 : decode cX8_init 25 = .ok (.imul, 1) := by decide +kernel
theorem dX8_init_26 : decode cX8_init 26 = .ok (.newarray .int, 2) := by decide +kernel
theorem dX8_init_28 : decode cX8_init 28 = .ok (.putfield 24, 3) := by decide +kernel
theorem dX8_init_31 : decode cX8_init 31 = .ok (.return_, 1) := by decide +kernel
set_option maxRecDepth 20000 in
theorem ggX8_fill_J7_fill_53178 : GoodIn wsX8_fill wsJ7_fill_53178 := goodIn_r _ [5] rfl (by decide +kernel)
set_option maxRecDepth 20000 in
theorem gX8_fill_J7_fill_53178 : GoodIn wsX8_fill (va_wsS RX8 28 yJ7_fill_53178 wsJ7_fill_53178) := goodIn_app (goodIn_of _ (by decide +kernel)) ggX8_fill_J7_fill_53178
theorem dX8_fill_0 : decode cX8_fill 0 = .ok (.aload_n 0, 1) := by decide +kernel
theorem dX8_fill_1 : decode cX8_fill 1 = .ok (.getfield 24, 3) := by decide +kernel
theorem dX8_fill_4 : decode cX8_fill 4 = .ok (.iload_n 1, 1) := by decide +kernel
theorem dX8_fill_5 : decode cX8_fill 5 = .ok (.invokestatic 28, 3) := by decide +kernel
theorem dX8_fill_8 : decode cX8_fill 8 = .ok (.return_, 1) := by decide +kernel
set_option maxRecDepth 20000 in
theorem ggX8_get_X10_at : GoodIn wsX8_get wsX10_at := goodIn_r _ [5] rfl (by decide +kernel)
set_option maxRecDepth 20000 in
theorem gX8_get_X10_at_n34 : GoodIn wsX8_get (wsX10_at) := ggX8_get_X10_at
theorem dX8_get_0 : decode cX8_get 0 = .ok (.iload_n 2, 1) := by decide +kernel
theorem dX8_get_1 : decode cX8_get 1 = .ok (.ifCond .lt 29, 3) := by decide +kernel
theorem dX8_get_4 : decode cX8_get 4 = .ok (.iload_n 2, 1) := by decide +kernel
theorem dX8_get_5 : decode cX8_get 5 = .ok (.aload_n 0, 1) := by decide +kernel
theorem dX8_get_6 : decode cX8_get 6 = .ok (.getfield 18, 3) := by decide +kernel
theorem dX8_get_9 : decode cX8_get 9 = .ok (.if_icmp .ge 21, 3) := by decide +kernel
theorem dX8_get_12 : decode cX8_get 12 = .ok (.aload_n 0, 1) := by decide +kernel
theorem dX8_get_13 : decode cX8_get 13 = .ok (.getfield 24, 3) := by decide +kernel
theorem dX8_get_16 : decode cX8_get 16 = .ok (.iload_n 1, 1) := by decide +kernel
theorem dX8_get_17 : decode cX8_get 17 = .ok (.aload_n 0, 1) := by decide +kernel
theorem dX8_get_18 : decode cX8_get 18 = .ok (.getfield 18, 3) := by decide +kernel
theorem dX8_get_21 : decode cX8_get 21 = .ok (.imul, 1) := by decide +kernel
theorem dX8_get_22 : decode cX8_get 22 = .ok (.iload_n 2, 1) := by decide +kernel
theorem dX8_get_23 : decode cX8_get 23 = .ok (.iadd, 1) := by decide +kernel
theorem dX8_get_24 : decode cX8_get 24 = .ok (.invokestatic 34, 3) := by decide +kernel
theorem dX8_get_27 : decode cX8_get 27 = .ok (.goto 4, 3) := by decide +kernel
theorem dX8_get_30 : decode cX8_get 30 = .ok (.iconst 0, 1) := by decide +kernel
theorem dX8_get_31 : decode cX8_get 31 = .ok (.ireturn, 1) := by decide +kernel
set_option maxRecDepth 20000 in
theorem ggX8_set_X10_put : GoodIn wsX8_set wsX10_put := goodIn_r _ [5] rfl (by decide +kernel)
set_option maxRecDepth 20000 in
theorem gX8_set_X10_put_n38 : GoodIn wsX8_set (wsX10_put) := ggX8_set_X10_put
theorem dX8_set_0 : decode cX8_set 0 = .ok (.iload_n 2, 1) := by decide +kernel
theorem dX8_set_1 : decode cX8_set 1 = .ok (.ifCond .lt 27, 3) := by decide +kernel
theorem dX8_set_4 : decode cX8_set 4 = .ok (.iload_n 2, 1) := by decide +kernel
theorem dX8_set_5 : decode cX8_set 5 = .ok (.aload_n 0, 1) := by decide +kernel
theorem dX8_set_6 : decode cX8_set 6 = .ok (.getfield 18, 3) := by decide +kernel
theorem dX8_set_9 : decode cX8_set 9 = .ok (.if_icmp .ge 19, 3) := by decide +kernel
theorem dX8_set_12 : decode cX8_set 12 = .ok (.aload_n 0, 1) := by decide +kernel
theorem dX8_set_13 : decode cX8_set 13 = .ok (.getfield 24, 3) := by decide +kernel
theorem dX8_set_16 : decode cX8_set 16 = .ok (.iload_n 1, 1) := by decide +kernel
theorem dX8_set_17 : decode cX8_set 17 = .ok (.aload_n 0, 1) := by decide +kernel
theorem dX8_set_18 : decode cX8_set 18 = .ok (.getfield 18, 3) := by decide +kernel
theorem dX8_set_21 : decode cX8_set 21 = .ok (.imul, 1) := by decide +kernel
theorem dX8_set_22 : decode cX8_set 22 = .ok (.iload_n 2, 1) := by decide +kernel
theorem dX8_set_23 : decode cX8_set 23 = .ok (.iadd, 1) := by decide +kernel
theorem dX8_set_24 : decode cX8_set 24 = .ok (.iload_n 3, 1) := by decide +kernel
theorem dX8_set_25 : decode cX8_set 25 = .ok (.invokestatic 38, 3) := by decide +kernel
theorem dX8_set_28 : decode cX8_set 28 = .ok (.return_, 1) := by decide +kernel
theorem dX9_init_0 : decode cX9_init 0 = .ok (.aload_n 0, 1) := by decide +kernel
theorem dX9_init_1 : decode cX9_init 1 = .ok (.invokespecial 3, 3) := by decide +kernel
theorem dX9_init_4 : decode cX9_init 4 = .ok (.aload_n 0, 1) := by decide +kernel
theorem dX9_init_5 : decode cX9_init 5 = .ok (.bipush 40, 2) := by decide +kernel
theorem dX9_init_7 : decode cX9_init 7 = .ok (.newarray .char, 2) := by decide +kernel
theorem dX9_init_9 : decode cX9_init 9 = .ok (.putfield 9, 3) := by decide +kernel
theorem dX9_init_12 : decode cX9_init 12 = .ok (.aload_n 0, 1) := by decide +kernel
theorem dX9_init_13 : decode cX9_init 13 = .ok (.iconst 0, 1) := by decide +kernel
theorem dX9_init_14 : decode cX9_init 14 = .ok (.putfield 15, 3) := by decide +kernel
theorem dX9_init_17 : decode cX9_init 17 = .ok (.return_, 1) := by decide +kernel
theorem dX9_length_0 : decode cX9_length 0 = .ok (.aload_n 0, 1) := by decide +kernel
theorem dX9_length_1 : decode cX9_length 1 = .ok (.getfield 15, 3) := by decide +kernel
theorem dX9_length_4 : decode cX9_length 4 = .ok (.ireturn, 1) := by decide +kernel
theorem dX9_characterAt_0 : decode cX9_characterAt 0 = .ok (.iload_n 1, 1) := by decide +kernel
theorem dX9_characterAt_1 : decode cX9_characterAt 1 = .ok (.ifCond .lt 21, 3) := by decide +kernel
theorem dX9_characterAt_4 : decode cX9_characterAt 4 = .ok (.iload_n 1, 1) := by decide +kernel
theorem dX9_characterAt_5 : decode cX9_characterAt 5 = .ok (.aload_n 0, 1) := by decide +kernel
theorem dX9_characterAt_6 : decode cX9_characterAt 6 = .ok (.getfield 9, 3) := by decide +kernel
theorem dX9_characterAt_9 : decode cX9_characterAt 9 = .ok (.arraylength, 1) := by decide +kernel
theorem dX9_characterAt_10 : decode cX9_characterAt 10 = .ok (.if_icmp .ge 12, 3) := by decide +kernel
theorem dX9_characterAt_13 : decode cX9_characterAt 13 = .ok (.aload_n 0, 1) := by decide +kernel
theorem dX9_characterAt_14 : decode cX9_characterAt 14 = .ok (.getfield 9, 3) := by decide +kernel
theorem dX9_characterAt_17 : decode cX9_characterAt 17 = .ok (.iload_n 1, 1) := by decide +kernel
theorem dX9_characterAt_18 : decode cX9_characterAt 18 = .ok (.caload, 1) := by decide +kernel
theorem dX9_characterAt_19 : decode cX9_characterAt 19 = .ok (.goto 4, 3) := by decide +kernel
theorem dX9_characterAt_22 : decode cX9_characterAt 22 = .ok (.iconst 0, 1) := by decide +kernel
theorem dX9_characterAt_23 : decode cX9_characterAt 23 = .ok (.ireturn, 1) := by decide +kernel
theorem dX9_isFull_0 : decode cX9_isFull 0 = .ok (.aload_n 0, 1) := by decide +kernel
theorem dX9_isFull_1 : decode cX9_isFull 1 = .ok (.getfield 15, 3) := by decide +kernel
theorem dX9_isFull_4 : decode cX9_isFull 4 = .ok (.aload_n 0, 1) := by decide +kernel
theorem dX9_isFull_5 : decode cX9_isFull 5 = .ok (.getfield 9, 3) := by decide +kernel
theorem dX9_isFull_8 : decode cX9_isFull 8 = .ok (.arraylength, 1) := by decide +kernel
theorem dX9_isFull_9 : decode cX9_isFull 9 = .ok (.if_icmp .lt 7, 3) := by decide +kernel
theorem dX9_isFull_12 : decode cX9_isFull 12 = .ok (.iconst 1, 1) := by decide +kernel
theorem dX9_isFull_13 : decode cX9_isFull 13 = .ok (.goto 4, 3) := by decide +kernel
theorem dX9_isFull_16 : decode cX9_isFull 16 = .ok (.iconst 0, 1) := by decide +kernel
theorem dX9_isFull_17 : decode cX9_isFull 17 = .ok (.ireturn, 1) := by decide +kernel
theorem dX9_append_0 : decode cX9_append 0 = .ok (.aload_n 0, 1) := by decide +kernel
theorem dX9_append_1 : decode cX9_append 1 = .ok (.getfield 15, 3) := by decide +kernel
theorem dX9_append_4 : decode cX9_append 4 = .ok (.ifCond .lt 35, 3) := by decide +kernel
theorem dX9_append_7 : decode cX9_append 7 = .ok (.aload_n 0, 1) := by decide +kernel
theorem dX9_append_8 : decode cX9_append 8 = .ok (.getfield 15, 3) := by decide +kernel
theorem dX9_append_11 : decode cX9_append 11 = .ok (.aload_n 0, 1) := by decide +kernel
theorem dX9_append_12 : decode cX9_append 12 = .ok (.getfield 9, 3) := by decide +kernel
theorem dX9_append_15 : decode cX9_append 15 = .ok (.arraylength, 1) := by decide +kernel
theorem dX9_append_16 : decode cX9_append 16 = .ok (.if_icmp .ge 23, 3) := by decide +kernel
theorem dX9_append_19 : decode cX9_append 19 = .ok (.aload_n 0, 1) := by decide +kernel
theorem dX9_append_20 : decode cX9_append 20 = .ok (.getfield 9, 3) := by decide +kernel
theorem dX9_append_23 : decode cX9_append 23 = .ok (.aload_n 0, 1) := by decide +kernel
theorem dX9_append_24 : decode cX9_append 24 = .ok (.getfield 15, 3) := by decide +kernel
theorem dX9_append_27 : decode cX9_append 27 = .ok (.iload_n 1, 1) := by decide +kernel
theorem dX9_append_28 : decode cX9_append 28 = .ok (.castore, 1) := by decide +kernel
theorem dX9_append_29 : decode cX9_append 29 = .ok (.aload_n 0, 1) := by decide +kernel
theorem dX9_append_30 : decode cX9_append 30 = .ok (.dup, 1) := by decide +kernel
theorem dX9_append_31 : decode cX9_append 31 = .ok (.getfield 15, 3) := by decide +kernel
theorem dX9_append_34 : decode cX9_append 34 = .ok (.iconst 1, 1) := by decide +kernel
theorem dX9_append_35 : decode cX9_append 35 = .ok (.iadd, 1) := by decide +kernel
theorem dX9_append_36 : decode cX9_append 36 = .ok (.putfield 15, 3) := by decide +kernel
theorem dX9_append_39 : decode cX9_append 39 = .ok (.aload_n 0, 1) := by decide +kernel
theorem dX9_append_40 : decode cX9_append 40 = .ok (.getfield 15, 3) := by decide +kernel
theorem dX9_append_43 : decode cX9_append 43 = .ok (.ireturn, 1) := by decide +kernel
theorem dX9_empty_0 : decode cX9_empty 0 = .ok (.aload_n 0, 1) := by decide +kernel
theorem dX9_empty_1 : decode cX9_empty 1 = .ok (.getfield 15, 3) := by decide +kernel
theorem dX9_empty_4 : decode cX9_empty 4 = .ok (.istore_n 1, 1) := by decide +kernel
theorem dX9_empty_5 : decode cX9_empty 5 = .ok (.aload_n 0, 1) := by decide +kernel
theorem dX9_empty_6 : decode cX9_empty 6 = .ok (.iconst 0, 1) := by decide +kernel
theorem dX9_empty_7 : decode cX9_empty 7 = .ok (.putfield 15, 3) := by decide +kernel
theorem dX9_empty_10 : decode cX9_empty 10 = .ok (.iload_n 1, 1) := by decide +kernel
theorem dX9_empty_11 : decode cX9_empty 11 = .ok (.ireturn, 1) := by decide +kernel
set_option maxRecDepth 20000 in
theorem ggX10_init_X9_init : GoodIn wsX10_init wsX9_init := goodIn_r _ [22, 23, 2, 3, 24, 25, 26, 144, 145] rfl (by decide +kernel)
set_option maxRecDepth 20000 in
theorem gX10_init_X9_init_n9 : GoodIn wsX10_init (wsX9_init) := ggX10_init_X9_init
set_option maxRecDepth 20000 in
theorem ggX10_init_X4_init : GoodIn wsX10_init wsX4_init := goodIn_r _ [28, 29, 2, 3, 30, 31, 32, 33, 34, 35, 36, 37, 38, 39, 40, 41, 42, 43, 44, 45, 46, 47, 48, 49, 50, 51, 52, 53, 54, 55, 56, 57, 58, 164, 165, 166, 167, 168, 169, 170, 171, 172, 173, 151, 152, 153, 154, 174, 175] rfl (by decide +kernel)
set_option maxRecDepth 20000 in
theorem gX10_init_X4_init_n18 : GoodIn wsX10_init (wsX4_init) := ggX10_init_X4_init
set_option maxRecDepth 20000 in
theorem ggX10_init_X2_init : GoodIn wsX10_init wsX2_init := goodIn_r _ [60, 61, 2, 3, 62, 63, 64, 155, 156] rfl (by decide +kernel)
set_option maxRecDepth 20000 in
theorem gX10_init_X2_init_n25 : GoodIn wsX10_init (wsX2_init) := ggX10_init_X2_init
set_option maxRecDepth 20000 in
theorem ggX10_init_X5_init : GoodIn wsX10_init wsX5_init := goodIn_r _ [67, 68, 2, 3, 69, 70, 71, 72, 73, 74, 75, 76, 77, 78, 79, 80, 81, 82, 83, 84, 85, 86, 87, 88, 89, 90, 40, 91, 92, 93, 94, 95, 96, 97, 98, 99, 100, 101, 102, 103, 104, 105, 106, 107, 108, 109, 110, 111, 112, 113, 114, 115, 116, 117, 118, 119, 120, 121, 122, 123, 124, 125, 126, 127, 128, 129, 130, 131, 132, 133, 134, 18, 135, 136, 137, 138, 139, 140, 141, 142, 143, 176, 177, 157, 158, 159, 160, 161, 162, 163, 178, 179, 180, 181, 182, 183, 184, 185, 186, 187, 188, 189, 190] rfl (by decide +kernel)
set_option maxRecDepth 20000 in
theorem gX10_init_X5_init : GoodIn wsX10_init (wsX5_init) := ggX10_init_X5_init
theorem dX10_init_0 : decode cX10_init 0 = .ok (.aload_n 0, 1) := by decide +kernel
theorem dX10_init_1 : decode cX10_init 1 = .ok (.invokespecial 1, 3) := by decide +kernel
theorem dX10_init_4 : decode cX10_init 4 = .ok (.aload_n 0, 1) := by decide +kernel
theorem dX10_init_5 : decode cX10_init 5 = .ok (.new 7, 3) := by decide +kernel
theorem dX10_init_8 : decode cX10_init 8 = .ok (.dup, 1) := by decide +kernel
theorem dX10_init_9 : decode cX10_init 9 = .ok (.invokespecial 9, 3) := by decide +kernel
theorem dX10_init_12 : decode cX10_init 12 = .ok (.putfield 10, 3) := by decide +kernel
theorem dX10_init_15 : decode cX10_init 15 = .ok (.aload_n 0, 1) := by decide +kernel
theorem dX10_init_16 : decode cX10_init 16 = .ok (.new 16, 3) := by decide +kernel
theorem dX10_init_19 : decode cX10_init 19 = .ok (.dup, 1) := by decide +kernel
theorem dX10_init_20 : decode cX10_init 20 = .ok (.invokespecial 18, 3) := by decide +kernel
theorem dX10_init_23 : decode cX10_init 23 = .ok (.putfield 19, 3) := by decide +kernel
theorem dX10_init_26 : decode cX10_init 26 = .ok (.aload_n 0, 1) := by decide +kernel
theorem dX10_init_27 : decode cX10_init 27 = .ok (.new 23, 3) := by decide +kernel
theorem dX10_init_30 : decode cX10_init 30 = .ok (.dup, 1) := by decide +kernel
theorem dX10_init_31 : decode cX10_init 31 = .ok (.invokespecial 25, 3) := by decide +kernel
theorem dX10_init_34 : decode cX10_init 34 = .ok (.putfield 26, 3) := by decide +kernel
theorem dX10_init_37 : decode cX10_init 37 = .ok (.aload_n 0, 1) := by decide +kernel
theorem dX10_init_38 : decode cX10_init 38 = .ok (.new 30, 3) := by decide +kernel
theorem dX10_init_41 : decode cX10_init 41 = .ok (.dup, 1) := by decide +kernel
theorem dX10_init_42 : decode cX10_init 42 = .ok (.invokespecial 32, 3) := by decide +kernel
theorem dX10_init_45 : decode cX10_init 45 = .ok (.putfield 33, 3) := by decide +kernel
theorem dX10_init_48 : decode cX10_init 48 = .ok (.aload_n 0, 1) := by decide +kernel
theorem dX10_init_49 : decode cX10_init 49 = .ok (.aconst_null, 1) := by decide +kernel
theorem dX10_init_50 : decode cX10_init 50 = .ok (.putfield 37, 3) := by decide +kernel
theorem dX10_init_53 : decode cX10_init 53 = .ok (.return_, 1) := by decide +kernel
set_option maxRecDepth 20000 in
theorem ggX10_define_X10_requireFunction : GoodIn wsX10_define wsX10_requireFunction := goodIn_ca (goodIn_r _ [10, 11, 12] rfl (by decide +kernel)) (goodIn_sub (fun _ h => List.mem_cons_of_mem _ (List.mem_append_right _ h)) (by decide +kernel))
set_option maxRecDepth 20000 in
theorem gX10_define_X10_requireFunction : GoodIn wsX10_define (wsV RX10 41 RX10 yX10_requireFunction wsX10_requireFunction) := goodIn_app (goodIn_of _ (by decide +kernel)) ggX10_define_X10_requireFunction
set_option maxRecDepth 20000 in
theorem ggX10_define_X4_firstError : GoodIn wsX10_define wsX4_firstError := goodIn_r _ [17, 18, 19, 20, 21, 22, 23, 24, 25, 26, 27, 28, 29, 30, 31, 32, 33, 34, 35, 36, 37, 38, 39, 40, 41, 42, 43, 44, 45, 46, 47, 48, 49, 50, 16, 51, 52, 53, 54, 55, 56, 57, 58, 59, 60, 61, 62, 63, 64, 65, 66, 67, 68, 69, 70, 71, 72, 73, 74, 75, 76, 77, 78, 79, 9, 80, 81, 82, 83, 84, 85, 86, 87, 88, 89, 90, 91, 92, 93, 94, 95, 96, 97, 98, 99, 100, 101, 102, 103, 104, 105, 106, 107, 108, 109, 110, 111, 112, 113, 114, 115, 116, 117, 118, 119, 120, 121, 122, 123, 124, 125, 126, 127, 128, 129, 130, 131, 132, 133, 134, 135, 136, 137, 138, 139, 140, 141, 142, 143, 144, 145, 146, 147, 148, 149, 150, 151, 152, 153, 154, 155, 156, 157, 158, 159, 160, 293, 294, 295, 296, 297, 298, 299, 300, 301, 302, 303, 304, 305, 306, 307, 308, 309, 310] rfl (by decide +kernel)
set_option maxRecDepth 20000 in
theorem gX10_define_X4_firstError : GoodIn wsX10_define (wsV RX10 45 RX4 yX4_firstError wsX4_firstError) := goodIn_app (goodIn_of _ (by decide +kernel)) ggX10_define_X4_firstError
set_option maxRecDepth 20000 in
theorem ggX10_define_X4_leastDefinable : GoodIn wsX10_define wsX4_leastDefinable := goodIn_r _ [164, 18, 165, 166, 167, 25, 168, 28, 293, 294, 295, 296, 297, 298, 299, 300, 301, 302, 303, 304, 305, 306] rfl (by decide +kernel)
set_option maxRecDepth 20000 in
theorem gX10_define_X4_leastDefinable : GoodIn wsX10_define (wsV RX10 56 RX4 yX4_leastDefinable wsX4_leastDefinable) := goodIn_app (goodIn_of _ (by decide +kernel)) ggX10_define_X4_leastDefinable
set_option maxRecDepth 20000 in
theorem ggX10_define_X4_toExpression : GoodIn wsX10_define wsX4_toExpression := goodIn_r _ [172, 18, 173, 174, 175, 25, 176, 177, 178, 179, 67, 68, 69, 70, 71, 27, 28, 180, 181, 182, 183, 72, 73, 74, 75, 184, 185, 186, 187, 188, 189, 190, 191, 192, 193, 194, 195, 77, 78, 196, 197, 198, 199, 81, 9, 82, 200, 201, 202, 203, 204, 205, 206, 207, 208, 209, 210, 211, 212, 79, 80, 213, 214, 215, 216, 217, 218, 219, 220, 221, 222, 223, 224, 225, 293, 294, 295, 296, 311, 312, 313, 314, 315, 316, 317, 297, 298, 299, 300, 301, 302, 303, 304, 305, 306] rfl (by decide +kernel)
set_option maxRecDepth 20000 in
theorem gX10_define_X4_toExpression : GoodIn wsX10_define (wsV RX10 62 RX4 yX4_toExpression wsX4_toExpression) := goodIn_app (goodIn_of _ (by decide +kernel)) ggX10_define_X4_toExpression
set_option maxRecDepth 20000 in
theorem ggX10_define_X5_state : GoodIn wsX10_define wsX5_state := goodIn_r _ [230, 231, 318, 319, 320, 321, 322, 323, 324] rfl (by decide +kernel)
set_option maxRecDepth 20000 in
theorem gX10_define_X5_state : GoodIn wsX10_define (wsV RX10 66 RX5 yX5_state wsX5_state) := goodIn_app (goodIn_of _ (by decide +kernel)) ggX10_define_X5_state
set_option maxRecDepth 20000 in
theorem ggX10_define_X7_withExpression : GoodIn wsX10_define wsX7_withExpression := goodIn_r _ [236, 237, 238, 235, 239, 240, 241, 242, 243, 244, 245, 246, 247, 217, 218, 325, 326, 327, 328, 329] rfl (by decide +kernel)
set_option maxRecDepth 20000 in
theorem gX10_define_X7_withExpression : GoodIn wsX10_define (wsV RX10 70 RX7 yX7_withExpression wsX7_withExpression) := goodIn_app (goodIn_of _ (by decide +kernel)) ggX10_define_X7_withExpression
set_option maxRecDepth 20000 in
theorem ggX10_define_X10_act : GoodIn wsX10_define wsX10_act := goodIn_r _ [251, 252, 5, 226, 227, 228, 229, 230, 231, 253, 254, 255, 256, 257, 258, 259, 260, 261, 262, 263, 264, 265, 266, 267, 268, 269, 270, 271, 272, 273, 274, 275, 276, 277, 278, 279, 280, 281, 282, 186, 283, 288, 289, 290, 291, 292, 318, 319, 320, 321, 322, 323, 324, 330, 331, 332, 333] rfl (by decide +kernel)
set_option maxRecDepth 20000 in
theorem gX10_define_X10_act : GoodIn wsX10_define (wsV RX10 76 RX10 yX10_act wsX10_act) := goodIn_app (goodIn_of _ (by decide +kernel)) ggX10_define_X10_act
set_option maxRecDepth 20000 in
theorem ggX10_define_X1_size : GoodIn wsX10_define wsX1_size := goodIn_r _ [287, 219, 311, 312, 313, 314, 315, 316, 317] rfl (by decide +kernel)
set_option maxRecDepth 20000 in
theorem gX10_define_X1_size : GoodIn wsX10_define (wsV RX10 80 RX1 yX1_size wsX1_size) := goodIn_app (goodIn_of _ (by decide +kernel)) ggX10_define_X1_size
theorem dX10_define_0 : decode cX10_define 0 = .ok (.aload_n 0, 1) := by decide +kernel
theorem dX10_define_1 : decode cX10_define 1 = .ok (.iload_n 1, 1) := by decide +kernel
theorem dX10_define_2 : decode cX10_define 2 = .ok (.invokevirtual 41, 3) := by decide +kernel
theorem dX10_define_5 : decode cX10_define 5 = .ok (.aload_n 0, 1) := by decide +kernel
theorem dX10_define_6 : decode cX10_define 6 = .ok (.getfield 19, 3) := by decide +kernel
theorem dX10_define_9 : decode cX10_define 9 = .ok (.aload_n 0, 1) := by decide +kernel
theorem dX10_define_10 : decode cX10_define 10 = .ok (.getfield 10, 3) := by decide +kernel
theorem dX10_define_13 : decode cX10_define 13 = .ok (.invokevirtual 45, 3) := by decide +kernel
theorem dX10_define_16 : decode cX10_define 16 = .ok (.iconst (-1), 1) := by decide +kernel
theorem dX10_define_17 : decode cX10_define 17 = .ok (.if_icmp .eq 13, 3) := by decide +kernel
theorem dX10_define_20 : decode cX10_define 20 = .ok (.new 49, 3) := by decide +kernel
theorem dX10_define_23 : decode cX10_define 23 = .ok (.dup, 1) := by decide +kernel
theorem dX10_define_24 : decode cX10_define 24 = .ok (.ldc 51, 2) := by decide +kernel
theorem dX10_define_26 : decode cX10_define 26 = .ok (.invokespecial 53, 3) := by decide +kernel
theorem dX10_define_29 : decode cX10_define 29 = .ok (.athrow, 1) := by decide +kernel
theorem dX10_define_30 : decode cX10_define 30 = .ok (.aload_n 0, 1) := by decide +kernel
theorem dX10_define_31 : decode cX10_define 31 = .ok (.getfield 19, 3) := by decide +kernel
theorem dX10_define_34 : decode cX10_define 34 = .ok (.invokevirtual 56, 3) := by decide +kernel
theorem dX10_define_37 : decode cX10_define 37 = .ok (.iload_n 1, 1) := by decide +kernel
theorem dX10_define_38 : decode cX10_define 38 = .ok (.if_icmp .le 13, 3) := by decide +kernel
theorem dX10_define_41 : decode cX10_define 41 = .ok (.new 49, 3) := by decide +kernel
theorem dX10_define_44 : decode cX10_define 44 = .ok (.dup, 1) := by decide +kernel
theorem dX10_define_45 : decode cX10_define 45 = .ok (.ldc 60, 2) := by decide +kernel
theorem dX10_define_47 : decode cX10_define 47 = .ok (.invokespecial 53, 3) := by decide +kernel
theorem dX10_define_50 : decode cX10_define 50 = .ok (.athrow, 1) := by decide +kernel
theorem dX10_define_51 : decode cX10_define 51 = .ok (.aload_n 0, 1) := by decide +kernel
theorem dX10_define_52 : decode cX10_define 52 = .ok (.getfield 19, 3) := by decide +kernel
theorem dX10_define_55 : decode cX10_define 55 = .ok (.invokevirtual 62, 3) := by decide +kernel
theorem dX10_define_58 : decode cX10_define 58 = .ok (.astore_n 2, 1) := by decide +kernel
theorem dX10_define_59 : decode cX10_define 59 = .ok (.aload_n 0, 1) := by decide +kernel
theorem dX10_define_60 : decode cX10_define 60 = .ok (.aload_n 0, 1) := by decide +kernel
theorem dX10_define_61 : decode cX10_define 61 = .ok (.getfield 33, 3) := by decide +kernel
theorem dX10_define_64 : decode cX10_define 64 = .ok (.invokevirtual 66, 3) := by decide +kernel
theorem dX10_define_67 : decode cX10_define 67 = .ok (.iload_n 1, 1) := by decide +kernel
theorem dX10_define_68 : decode cX10_define 68 = .ok (.aload_n 2, 1) := by decide +kernel
theorem dX10_define_69 : decode cX10_define 69 = .ok (.invokevirtual 70, 3) := by decide +kernel
theorem dX10_define_72 : decode cX10_define 72 = .ok (.invokevirtual 76, 3) := by decide +kernel
theorem dX10_define_75 : decode cX10_define 75 = .ok (.aload_n 2, 1) := by decide +kernel
theorem dX10_define_76 : decode cX10_define 76 = .ok (.invokevirtual 80, 3) := by decide +kernel
theorem dX10_define_79 : decode cX10_define 79 = .ok (.ireturn, 1) := by decide +kernel
set_option maxRecDepth 20000 in
theorem ggX10_setModulus_X10_isPrime : GoodIn wsX10_setModulus wsX10_isPrime := goodIn_r _ [7] rfl (by decide +kernel)
set_option maxRecDepth 20000 in
theorem gX10_setModulus_X10_isPrime : GoodIn wsX10_setModulus (va_wsS RX10 92 yX10_isPrime wsX10_isPrime) := goodIn_app (goodIn_of _ (by decide +kernel)) ggX10_setModulus_X10_isPrime
set_option maxRecDepth 20000 in
theorem ggX10_setModulus_X10_prime : GoodIn wsX10_setModulus wsX10_prime := goodIn_r _ [11, 3, 12, 13, 14, 15, 16, 17, 18, 19, 20, 21, 22, 23, 24, 25, 26, 27, 28, 29, 89, 90, 91, 92, 93, 94, 95, 96, 97, 98, 99, 100, 101, 102, 103, 104, 105, 106] rfl (by decide +kernel)
set_option maxRecDepth 20000 in
theorem gX10_setModulus_X10_prime : GoodIn wsX10_setModulus (wsV RX10 101 RX10 yX10_prime wsX10_prime) := goodIn_app (goodIn_of _ (by decide +kernel)) ggX10_setModulus_X10_prime
set_option maxRecDepth 20000 in
theorem ggX10_setModulus_X5_state : GoodIn wsX10_setModulus wsX5_state := goodIn_r _ [16, 17, 94, 95, 96, 97, 98, 99, 100] rfl (by decide +kernel)
set_option maxRecDepth 20000 in
theorem gX10_setModulus_X5_state : GoodIn wsX10_setModulus (wsV RX10 66 RX5 yX5_state wsX5_state) := goodIn_app (goodIn_of _ (by decide +kernel)) ggX10_setModulus_X5_state
set_option maxRecDepth 20000 in
theorem ggX10_setModulus_X7_withPrime : GoodIn wsX10_setModulus wsX7_withPrime := goodIn_r _ [33, 34, 35, 21, 36, 37, 27, 38, 39, 40, 41, 42, 43, 44, 45, 46, 47, 29, 48, 49, 50, 51, 23, 101, 102, 103, 104, 105, 106] rfl (by decide +kernel)
set_option maxRecDepth 20000 in
theorem gX10_setModulus_X7_withPrime : GoodIn wsX10_setModulus (wsV RX10 104 RX7 yX7_withPrime wsX7_withPrime) := goodIn_app (goodIn_of _ (by decide +kernel)) ggX10_setModulus_X7_withPrime
set_option maxRecDepth 20000 in
theorem ggX10_setModulus_X10_act : GoodIn wsX10_setModulus wsX10_act := goodIn_r _ [55, 56, 3, 12, 13, 14, 15, 16, 17, 57, 58, 59, 60, 61, 62, 63, 64, 65, 66, 67, 68, 69, 70, 71, 72, 73, 74, 75, 76, 77, 78, 79, 80, 81, 82, 83, 84, 85, 86, 87, 88, 89, 90, 91, 92, 93, 94, 95, 96, 97, 98, 99, 100, 107, 108, 109, 110] rfl (by decide +kernel)
set_option maxRecDepth 20000 in
theorem gX10_setModulus_X10_act : GoodIn wsX10_setModulus (wsV RX10 76 RX10 yX10_act wsX10_act) := goodIn_app (goodIn_of _ (by decide +kernel)) ggX10_setModulus_X10_act
theorem dX10_setModulus_0 : decode cX10_setModulus 0 = .ok (.iload_n 1, 1) := by decide +kernel
theorem dX10_setModulus_1 : decode cX10_setModulus 1 = .ok (.sipush 199, 3) := by decide +kernel
theorem dX10_setModulus_4 : decode cX10_setModulus 4 = .ok (.if_icmp .gt 10, 3) := by decide +kernel
theorem dX10_setModulus_7 : decode cX10_setModulus 7 = .ok (.iload_n 1, 1) := by decide +kernel
theorem dX10_setModulus_8 : decode cX10_setModulus 8 = .ok (.invokestatic 92, 3) := by decide +kernel
theorem dX10_setModulus_11 : decode cX10_setModulus 11 = .ok (.ifCond .ne 13, 3) := by decide +kernel
theorem dX10_setModulus_14 : decode cX10_setModulus 14 = .ok (.new 96, 3) := by decide +kernel
theorem dX10_setModulus_17 : decode cX10_setModulus 17 = .ok (.dup, 1) := by decide +kernel
theorem dX10_setModulus_18 : decode cX10_setModulus 18 = .ok (.ldc 98, 2) := by decide +kernel
theorem dX10_setModulus_20 : decode cX10_setModulus 20 = .ok (.invokespecial 100, 3) := by decide +kernel
theorem dX10_setModulus_23 : decode cX10_setModulus 23 = .ok (.athrow, 1) := by decide +kernel
theorem dX10_setModulus_24 : decode cX10_setModulus 24 = .ok (.aload_n 0, 1) := by decide +kernel
theorem dX10_setModulus_25 : decode cX10_setModulus 25 = .ok (.invokevirtual 101, 3) := by decide +kernel
theorem dX10_setModulus_28 : decode cX10_setModulus 28 = .ok (.istore_n 2, 1) := by decide +kernel
theorem dX10_setModulus_29 : decode cX10_setModulus 29 = .ok (.aload_n 0, 1) := by decide +kernel
theorem dX10_setModulus_30 : decode cX10_setModulus 30 = .ok (.aload_n 0, 1) := by decide +kernel
theorem dX10_setModulus_31 : decode cX10_setModulus 31 = .ok (.getfield 33, 3) := by decide +kernel
theorem dX10_setModulus_34 : decode cX10_setModulus 34 = .ok (.invokevirtual 66, 3) := by decide +kernel
theorem dX10_setModulus_37 : decode cX10_setModulus 37 = .ok (.iload_n 1, 1) := by decide +kernel
theorem dX10_setModulus_38 : decode cX10_setModulus 38 = .ok (.invokevirtual 104, 3) := by decide +kernel
theorem dX10_setModulus_41 : decode cX10_setModulus 41 = .ok (.invokevirtual 76, 3) := by decide +kernel
theorem dX10_setModulus_44 : decode cX10_setModulus 44 = .ok (.iload_n 2, 1) := by decide +kernel
theorem dX10_setModulus_45 : decode cX10_setModulus 45 = .ok (.ireturn, 1) := by decide +kernel
set_option maxRecDepth 20000 in
theorem ggX10_type_X9_isFull : GoodIn wsX10_type wsX9_isFull := goodIn_r _ [8, 9, 10, 20, 21] rfl (by decide +kernel)
set_option maxRecDepth 20000 in
theorem gX10_type_X9_isFull : GoodIn wsX10_type (wsV RX10 108 RX9 yX9_isFull wsX9_isFull) := goodIn_app (goodIn_of _ (by decide +kernel)) ggX10_type_X9_isFull
set_option maxRecDepth 20000 in
theorem ggX10_type_X9_append : GoodIn wsX10_type wsX9_append := goodIn_r _ [14, 9, 10, 20, 21] rfl (by decide +kernel)
set_option maxRecDepth 20000 in
theorem gX10_type_X9_append : GoodIn wsX10_type (wsV RX10 114 RX9 yX9_append wsX9_append) := goodIn_app (goodIn_of _ (by decide +kernel)) ggX10_type_X9_append
theorem dX10_type_0 : decode cX10_type 0 = .ok (.aload_n 0, 1) := by decide +kernel
theorem dX10_type_1 : decode cX10_type 1 = .ok (.getfield 10, 3) := by decide +kernel
theorem dX10_type_4 : decode cX10_type 4 = .ok (.invokevirtual 108, 3) := by decide +kernel
theorem dX10_type_7 : decode cX10_type 7 = .ok (.ifCond .eq 13, 3) := by decide +kernel
theorem dX10_type_10 : decode cX10_type 10 = .ok (.new 49, 3) := by decide +kernel
theorem dX10_type_13 : decode cX10_type 13 = .ok (.dup, 1) := by decide +kernel
theorem dX10_type_14 : decode cX10_type 14 = .ok (.ldc 112, 2) := by decide +kernel
theorem dX10_type_16 : decode cX10_type 16 = .ok (.invokespecial 53, 3) := by decide +kernel
theorem dX10_type_19 : decode cX10_type 19 = .ok (.athrow, 1) := by decide +kernel
theorem dX10_type_20 : decode cX10_type 20 = .ok (.aload_n 0, 1) := by decide +kernel
theorem dX10_type_21 : decode cX10_type 21 = .ok (.getfield 10, 3) := by decide +kernel
theorem dX10_type_24 : decode cX10_type 24 = .ok (.iload_n 1, 1) := by decide +kernel
theorem dX10_type_25 : decode cX10_type 25 = .ok (.invokevirtual 114, 3) := by decide +kernel
theorem dX10_type_28 : decode cX10_type 28 = .ok (.ireturn, 1) := by decide +kernel
set_option maxRecDepth 20000 in
theorem ggX10_clearText_X9_empty : GoodIn wsX10_clearText wsX9_empty := goodIn_r _ [6, 7, 13, 14] rfl (by decide +kernel)
set_option maxRecDepth 20000 in
theorem gX10_clearText_X9_empty : GoodIn wsX10_clearText (wsV RX10 118 RX9 yX9_empty wsX9_empty) := goodIn_app (goodIn_of _ (by decide +kernel)) ggX10_clearText_X9_empty
theorem dX10_clearText_0 : decode cX10_clearText 0 = .ok (.aload_n 0, 1) := by decide +kernel
theorem dX10_clearText_1 : decode cX10_clearText 1 = .ok (.getfield 10, 3) := by decide +kernel
theorem dX10_clearText_4 : decode cX10_clearText 4 = .ok (.invokevirtual 118, 3) := by decide +kernel
theorem dX10_clearText_7 : decode cX10_clearText 7 = .ok (.ireturn, 1) := by decide +kernel
set_option maxRecDepth 20000 in
theorem ggX10_textError_X4_firstError : GoodIn wsX10_textError wsX4_firstError := goodIn_r _ [7, 8, 9, 10, 11, 12, 13, 14, 15, 16, 17, 18, 19, 20, 21, 22, 23, 24, 25, 26, 27, 28, 29, 30, 31, 32, 33, 34, 35, 36, 37, 38, 39, 40, 6, 41, 42, 43, 44, 45, 46, 47, 48, 49, 50, 51, 52, 53, 54, 55, 56, 57, 58, 59, 60, 61, 62, 63, 64, 65, 66, 67, 68, 69, 70, 71, 72, 73, 74, 75, 76, 77, 78, 79, 80, 81, 82, 83, 84, 85, 86, 87, 88, 89, 90, 91, 92, 93, 94, 95, 96, 97, 98, 99, 100, 101, 102, 103, 104, 105, 106, 107, 108, 109, 110, 111, 112, 113, 114, 115, 116, 117, 118, 119, 120, 121, 122, 123, 124, 125, 126, 127, 128, 129, 130, 131, 132, 133, 134, 135, 136, 137, 138, 139, 140, 141, 142, 143, 144, 145, 146, 147, 148, 149, 150, 151, 157, 158, 159, 160, 161, 162, 163, 164, 165, 166, 167, 168, 169, 170, 171, 172, 173, 174] rfl (by decide +kernel)
set_option maxRecDepth 20000 in
theorem gX10_textError_X4_firstError : GoodIn wsX10_textError (wsV RX10 45 RX4 yX4_firstError wsX4_firstError) := goodIn_app (goodIn_of _ (by decide +kernel)) ggX10_textError_X4_firstError
theorem dX10_textError_0 : decode cX10_textError 0 = .ok (.aload_n 0, 1) := by decide +kernel
theorem dX10_textError_1 : decode cX10_textError 1 = .ok (.getfield 19, 3) := by decide +kernel
theorem dX10_textError_4 : decode cX10_textError 4 = .ok (.aload_n 0, 1) := by decide +kernel
theorem dX10_textError_5 : decode cX10_textError 5 = .ok (.getfield 10, 3) := by decide +kernel
theorem dX10_textError_8 : decode cX10_textError 8 = .ok (.invokevirtual 45, 3) := by decide +kernel
theorem dX10_textError_11 : decode cX10_textError 11 = .ok (.ireturn, 1) := by decide +kernel
set_option maxRecDepth 20000 in
theorem ggX10_nodesOf_X10_requireFunction : GoodIn wsX10_nodesOf wsX10_requireFunction := goodIn_ca (goodIn_r _ [6, 7, 8] rfl (by decide +kernel)) (goodIn_sub (fun _ h => List.mem_cons_of_mem _ (List.mem_append_right _ h)) (by decide +kernel))
set_option maxRecDepth 20000 in
theorem gX10_nodesOf_X10_requireFunction : GoodIn wsX10_nodesOf (wsV RX10 41 RX10 yX10_requireFunction wsX10_requireFunction) := goodIn_app (goodIn_of _ (by decide +kernel)) ggX10_nodesOf_X10_requireFunction
set_option maxRecDepth 20000 in
theorem ggX10_nodesOf_X5_state : GoodIn wsX10_nodesOf wsX5_state := goodIn_r _ [13, 14, 35, 36, 37, 38, 39, 40, 41] rfl (by decide +kernel)
set_option maxRecDepth 20000 in
theorem gX10_nodesOf_X5_state : GoodIn wsX10_nodesOf (wsV RX10 66 RX5 yX5_state wsX5_state) := goodIn_app (goodIn_of _ (by decide +kernel)) ggX10_nodesOf_X5_state
set_option maxRecDepth 20000 in
theorem ggX10_nodesOf_X7_expressionOf : GoodIn wsX10_nodesOf wsX7_expressionOf := goodIn_r _ [19, 20, 21, 22, 23, 42, 43, 44, 45, 46] rfl (by decide +kernel)
set_option maxRecDepth 20000 in
theorem gX10_nodesOf_X7_expressionOf : GoodIn wsX10_nodesOf (wsV RX10 85 RX7 yX7_expressionOf wsX7_expressionOf) := goodIn_app (goodIn_of _ (by decide +kernel)) ggX10_nodesOf_X7_expressionOf
set_option maxRecDepth 20000 in
theorem ggX10_nodesOf_X1_size : GoodIn wsX10_nodesOf wsX1_size := goodIn_r _ [28, 29, 47, 48, 49, 50, 51, 52, 53] rfl (by decide +kernel)
set_option maxRecDepth 20000 in
theorem gX10_nodesOf_X1_size : GoodIn wsX10_nodesOf (wsV RX10 80 RX1 yX1_size wsX1_size) := goodIn_app (goodIn_of _ (by decide +kernel)) ggX10_nodesOf_X1_size
theorem dX10_nodesOf_0 : decode cX10_nodesOf 0 = .ok (.aload_n 0, 1) := by decide +kernel
theorem dX10_nodesOf_1 : decode cX10_nodesOf 1 = .ok (.iload_n 1, 1) := by decide +kernel
theorem dX10_nodesOf_2 : decode cX10_nodesOf 2 = .ok (.invokevirtual 41, 3) := by decide +kernel
theorem dX10_nodesOf_5 : decode cX10_nodesOf 5 = .ok (.aload_n 0, 1) := by decide +kernel
theorem dX10_nodesOf_6 : decode cX10_nodesOf 6 = .ok (.getfield 33, 3) := by decide +kernel
theorem dX10_nodesOf_9 : decode cX10_nodesOf 9 = .ok (.invokevirtual 66, 3) := by decide +kernel
theorem dX10_nodesOf_12 : decode cX10_nodesOf 12 = .ok (.iload_n 1, 1) := by decide +kernel
theorem dX10_nodesOf_13 : decode cX10_nodesOf 13 = .ok (.invokevirtual 85, 3) := by decide +kernel
theorem dX10_nodesOf_16 : decode cX10_nodesOf 16 = .ok (.invokevirtual 80, 3) := by decide +kernel
theorem dX10_nodesOf_19 : decode cX10_nodesOf 19 = .ok (.ireturn, 1) := by decide +kernel
set_option maxRecDepth 20000 in
theorem ggX10_unlikeNodesOf_X10_requireFunction : GoodIn wsX10_unlikeNodesOf wsX10_requireFunction := goodIn_ca (goodIn_r _ [6, 7, 8] rfl (by decide +kernel)) (goodIn_sub (fun _ h => List.mem_cons_of_mem _ (List.mem_append_right _ h)) (by decide +kernel))
set_option maxRecDepth 20000 in
theorem gX10_unlikeNodesOf_X10_requireFunction : GoodIn wsX10_unlikeNodesOf (wsV RX10 41 RX10 yX10_requireFunction wsX10_requireFunction) := goodIn_app (goodIn_of _ (by decide +kernel)) ggX10_unlikeNodesOf_X10_requireFunction
set_option maxRecDepth 20000 in
theorem ggX10_unlikeNodesOf_X5_state : GoodIn wsX10_unlikeNodesOf wsX5_state := goodIn_r _ [13, 14, 35, 36, 37, 38, 39, 40, 41] rfl (by decide +kernel)
set_option maxRecDepth 20000 in
theorem gX10_unlikeNodesOf_X5_state : GoodIn wsX10_unlikeNodesOf (wsV RX10 66 RX5 yX5_state wsX5_state) := goodIn_app (goodIn_of _ (by decide +kernel)) ggX10_unlikeNodesOf_X5_state
set_option maxRecDepth 20000 in
theorem ggX10_unlikeNodesOf_X7_expressionOf : GoodIn wsX10_unlikeNodesOf wsX7_expressionOf := goodIn_r _ [19, 20, 21, 22, 23, 42, 43, 44, 45, 46] rfl (by decide +kernel)
set_option maxRecDepth 20000 in
theorem gX10_unlikeNodesOf_X7_expressionOf : GoodIn wsX10_unlikeNodesOf (wsV RX10 85 RX7 yX7_expressionOf wsX7_expressionOf) := goodIn_app (goodIn_of _ (by decide +kernel)) ggX10_unlikeNodesOf_X7_expressionOf
set_option maxRecDepth 20000 in
theorem ggX10_unlikeNodesOf_X1_unlike : GoodIn wsX10_unlikeNodesOf wsX1_unlike := goodIn_r _ [28, 29, 47, 48, 49, 50, 51, 52, 53] rfl (by decide +kernel)
set_option maxRecDepth 20000 in
theorem gX10_unlikeNodesOf_X1_unlike : GoodIn wsX10_unlikeNodesOf (wsV RX10 134 RX1 yX1_unlike wsX1_unlike) := goodIn_app (goodIn_of _ (by decide +kernel)) ggX10_unlikeNodesOf_X1_unlike
theorem dX10_unlikeNodesOf_0 : decode cX10_unlikeNodesOf 0 = .ok (.aload_n 0, 1) := by decide +kernel
theorem dX10_unlikeNodesOf_1 : decode cX10_unlikeNodesOf 1 = .ok (.iload_n 1, 1) := by decide +kernel
theorem dX10_unlikeNodesOf_2 : decode cX10_unlikeNodesOf 2 = .ok (.invokevirtual 41, 3) := by decide +kernel
theorem dX10_unlikeNodesOf_5 : decode cX10_unlikeNodesOf 5 = .ok (.aload_n 0, 1) := by decide +kernel
theorem dX10_unlikeNodesOf_6 : decode cX10_unlikeNodesOf 6 = .ok (.getfield 33, 3) := by decide +kernel
theorem dX10_unlikeNodesOf_9 : decode cX10_unlikeNodesOf 9 = .ok (.invokevirtual 66, 3) := by decide +kernel
theorem dX10_unlikeNodesOf_12 : decode cX10_unlikeNodesOf 12 = .ok (.iload_n 1, 1) := by decide +kernel
theorem dX10_unlikeNodesOf_13 : decode cX10_unlikeNodesOf 13 = .ok (.invokevirtual 85, 3) := by decide +kernel
theorem dX10_unlikeNodesOf_16 : decode cX10_unlikeNodesOf 16 = .ok (.invokevirtual 134, 3) := by decide +kernel
theorem dX10_unlikeNodesOf_19 : decode cX10_unlikeNodesOf 19 = .ok (.ireturn, 1) := by decide +kernel
set_option maxRecDepth 20000 in
theorem ggX10_valueAt_X10_requireFunction : GoodIn wsX10_valueAt wsX10_requireFunction := goodIn_ca (goodIn_r _ [6, 7, 8] rfl (by decide +kernel)) (goodIn_sub (fun _ h => List.mem_cons_of_mem _ (List.mem_append_left _ (List.mem_append_right _ h))) (by decide +kernel))
set_option maxRecDepth 20000 in
theorem gX10_valueAt_X10_requireFunction : GoodIn wsX10_valueAt (wsV RX10 41 RX10 yX10_requireFunction wsX10_requireFunction) := goodIn_app (goodIn_of _ (by decide +kernel)) ggX10_valueAt_X10_requireFunction
set_option maxRecDepth 20000 in
theorem ggX10_valueAt_X10_requireNumber : GoodIn wsX10_valueAt wsX10_requireNumber := goodIn_ca (goodIn_r _ [12, 13, 14, 15, 16, 17, 5, 18, 1, 19, 20, 21, 22, 23, 24, 25, 26, 27, 28, 29, 30, 31, 32, 33, 34, 35, 36, 133, 134, 135, 136, 137, 138, 139, 140, 141, 142, 143, 144, 145, 146, 147, 148, 149, 150] rfl (by decide +kernel)) (goodIn_sub (fun _ h => List.mem_cons_of_mem _ (List.mem_append_right _ h)) (by decide +kernel))
set_option maxRecDepth 20000 in
theorem gX10_valueAt_X10_requireNumber : GoodIn wsX10_valueAt (wsV RX10 140 RX10 yX10_requireNumber wsX10_requireNumber) := goodIn_app (goodIn_of _ (by decide +kernel)) ggX10_valueAt_X10_requireNumber
set_option maxRecDepth 20000 in
theorem ggX10_valueAt_X5_value : GoodIn wsX10_valueAt wsX5_value := goodIn_r _ [39, 40, 41, 42, 43, 44, 45, 46, 47, 48, 5, 49, 50, 51, 52, 22, 53, 54, 55, 56, 57, 58, 59, 24, 60, 61, 62, 63, 28, 64, 65, 66, 67, 68, 69, 70, 71, 72, 73, 74, 75, 76, 77, 78, 79, 80, 81, 82, 83, 84, 85, 86, 26, 27, 29, 30, 87, 88, 89, 90, 91, 92, 93, 94, 95, 96, 97, 98, 99, 100, 101, 102, 103, 104, 34, 105, 36, 106, 107, 108, 109, 110, 111, 112, 113, 114, 115, 116, 117, 118, 119, 120, 121, 122, 123, 124, 125, 126, 127, 128, 129, 130, 131, 132, 37, 38, 138, 139, 140, 141, 142, 143, 144, 145, 146, 147, 148, 149, 151, 152, 153, 154, 155, 156, 157, 158, 159, 150] rfl (by decide +kernel)
set_option maxRecDepth 20000 in
theorem gX10_valueAt_X5_value_n143 : GoodIn wsX10_valueAt (wsX5_value) := ggX10_valueAt_X5_value
theorem dX10_valueAt_0 : decode cX10_valueAt 0 = .ok (.aload_n 0, 1) := by decide +kernel
theorem dX10_valueAt_1 : decode cX10_valueAt 1 = .ok (.iload_n 1, 1) := by decide +kernel
theorem dX10_valueAt_2 : decode cX10_valueAt 2 = .ok (.invokevirtual 41, 3) := by decide +kernel
theorem dX10_valueAt_5 : decode cX10_valueAt 5 = .ok (.aload_n 0, 1) := by decide +kernel
theorem dX10_valueAt_6 : decode cX10_valueAt 6 = .ok (.iload_n 2, 1) := by decide +kernel
theorem dX10_valueAt_7 : decode cX10_valueAt 7 = .ok (.invokevirtual 140, 3) := by decide +kernel
theorem dX10_valueAt_10 : decode cX10_valueAt 10 = .ok (.aload_n 0, 1) := by decide +kernel
theorem dX10_valueAt_11 : decode cX10_valueAt 11 = .ok (.getfield 33, 3) := by decide +kernel
theorem dX10_valueAt_14 : decode cX10_valueAt 14 = .ok (.iload_n 1, 1) := by decide +kernel
theorem dX10_valueAt_15 : decode cX10_valueAt 15 = .ok (.iload_n 2, 1) := by decide +kernel
theorem dX10_valueAt_16 : decode cX10_valueAt 16 = .ok (.invokevirtual 143, 3) := by decide +kernel
theorem dX10_valueAt_19 : decode cX10_valueAt 19 = .ok (.ireturn, 1) := by decide +kernel
set_option maxRecDepth 20000 in
theorem ggX10_slopeByHinges_X10_requireFunction : GoodIn wsX10_slopeByHinges wsX10_requireFunction := goodIn_ca (goodIn_r _ [6, 7, 8] rfl (by decide +kernel)) (goodIn_sub (fun _ h => List.mem_cons_of_mem _ (List.mem_append_left _ (List.mem_append_right _ h))) (by decide +kernel))
set_option maxRecDepth 20000 in
theorem gX10_slopeByHinges_X10_requireFunction : GoodIn wsX10_slopeByHinges (wsV RX10 41 RX10 yX10_requireFunction wsX10_requireFunction) := goodIn_app (goodIn_of _ (by decide +kernel)) ggX10_slopeByHinges_X10_requireFunction
set_option maxRecDepth 20000 in
theorem ggX10_slopeByHinges_X10_requireNumber : GoodIn wsX10_slopeByHinges wsX10_requireNumber := goodIn_ca (goodIn_r _ [12, 13, 14, 15, 16, 17, 5, 18, 1, 19, 20, 21, 22, 23, 24, 25, 26, 27, 28, 29, 30, 31, 32, 33, 34, 35, 36, 147, 148, 149, 150, 151, 152, 153, 154, 155, 156, 157, 158, 159, 160, 161, 162, 163, 164] rfl (by decide +kernel)) (goodIn_sub (fun _ h => List.mem_cons_of_mem _ (List.mem_append_right _ h)) (by decide +kernel))
set_option maxRecDepth 20000 in
theorem gX10_slopeByHinges_X10_requireNumber : GoodIn wsX10_slopeByHinges (wsV RX10 140 RX10 yX10_requireNumber wsX10_requireNumber) := goodIn_app (goodIn_of _ (by decide +kernel)) ggX10_slopeByHinges_X10_requireNumber
set_option maxRecDepth 20000 in
theorem ggX10_slopeByHinges_X5_hingeSlope : GoodIn wsX10_slopeByHinges wsX5_hingeSlope := goodIn_r _ [39, 40, 24, 41, 42, 43, 44, 45, 46, 47, 48, 49, 50, 5, 51, 52, 53, 54, 22, 55, 56, 57, 28, 58, 59, 60, 61, 62, 63, 64, 65, 66, 67, 68, 69, 70, 71, 72, 73, 74, 75, 76, 77, 78, 79, 80, 81, 82, 83, 84, 85, 86, 87, 88, 89, 90, 91, 92, 26, 27, 29, 30, 93, 94, 95, 96, 97, 98, 99, 100, 101, 102, 103, 104, 105, 106, 107, 108, 109, 110, 34, 111, 36, 112, 113, 114, 115, 116, 117, 118, 119, 120, 121, 122, 123, 124, 125, 126, 127, 128, 129, 130, 131, 132, 133, 134, 135, 136, 137, 138, 139, 140, 141, 142, 143, 144, 145, 146, 37, 38, 152, 153, 154, 155, 156, 157, 158, 159, 160, 161, 162, 163, 165, 166, 167, 168, 169, 170, 171, 172, 173, 164] rfl (by decide +kernel)
set_option maxRecDepth 20000 in
theorem gX10_slopeByHinges_X5_hingeSlope_n147 : GoodIn wsX10_slopeByHinges (wsX5_hingeSlope) := ggX10_slopeByHinges_X5_hingeSlope
theorem dX10_slopeByHinges_0 : decode cX10_slopeByHinges 0 = .ok (.aload_n 0, 1) := by decide +kernel
theorem dX10_slopeByHinges_1 : decode cX10_slopeByHinges 1 = .ok (.iload_n 1, 1) := by decide +kernel
theorem dX10_slopeByHinges_2 : decode cX10_slopeByHinges 2 = .ok (.invokevirtual 41, 3) := by decide +kernel
theorem dX10_slopeByHinges_5 : decode cX10_slopeByHinges 5 = .ok (.aload_n 0, 1) := by decide +kernel
theorem dX10_slopeByHinges_6 : decode cX10_slopeByHinges 6 = .ok (.iload_n 2, 1) := by decide +kernel
theorem dX10_slopeByHinges_7 : decode cX10_slopeByHinges 7 = .ok (.invokevirtual 140, 3) := by decide +kernel
theorem dX10_slopeByHinges_10 : decode cX10_slopeByHinges 10 = .ok (.aload_n 0, 1) := by decide +kernel
theorem dX10_slopeByHinges_11 : decode cX10_slopeByHinges 11 = .ok (.getfield 33, 3) := by decide +kernel
theorem dX10_slopeByHinges_14 : decode cX10_slopeByHinges 14 = .ok (.iload_n 1, 1) := by decide +kernel
theorem dX10_slopeByHinges_15 : decode cX10_slopeByHinges 15 = .ok (.iload_n 2, 1) := by decide +kernel
theorem dX10_slopeByHinges_16 : decode cX10_slopeByHinges 16 = .ok (.invokevirtual 147, 3) := by decide +kernel
theorem dX10_slopeByHinges_19 : decode cX10_slopeByHinges 19 = .ok (.ireturn, 1) := by decide +kernel
set_option maxRecDepth 20000 in
theorem ggX10_slopeByRules_X10_requireFunction : GoodIn wsX10_slopeByRules wsX10_requireFunction := goodIn_ca (goodIn_r _ [6, 7, 8] rfl (by decide +kernel)) (goodIn_sub (fun _ h => List.mem_cons_of_mem _ (List.mem_append_left _ (List.mem_append_right _ h))) (by decide +kernel))
set_option maxRecDepth 20000 in
theorem gX10_slopeByRules_X10_requireFunction : GoodIn wsX10_slopeByRules (wsV RX10 41 RX10 yX10_requireFunction wsX10_requireFunction) := goodIn_app (goodIn_of _ (by decide +kernel)) ggX10_slopeByRules_X10_requireFunction
set_option maxRecDepth 20000 in
theorem ggX10_slopeByRules_X10_requireNumber : GoodIn wsX10_slopeByRules wsX10_requireNumber := goodIn_ca (goodIn_r _ [12, 13, 14, 15, 16, 17, 5, 18, 1, 19, 20, 21, 22, 23, 24, 25, 26, 27, 28, 29, 30, 31, 32, 33, 34, 35, 36, 159, 160, 161, 162, 163, 164, 165, 166, 167, 168, 169, 170, 171, 172, 173, 174, 175, 176] rfl (by decide +kernel)) (goodIn_sub (fun _ h => List.mem_cons_of_mem _ (List.mem_append_right _ h)) (by decide +kernel))
set_option maxRecDepth 20000 in
theorem gX10_slopeByRules_X10_requireNumber : GoodIn wsX10_slopeByRules (wsV RX10 140 RX10 yX10_requireNumber wsX10_requireNumber) := goodIn_app (goodIn_of _ (by decide +kernel)) ggX10_slopeByRules_X10_requireNumber
set_option maxRecDepth 20000 in
theorem ggX10_slopeByRules_X5_ruleSlope : GoodIn wsX10_slopeByRules wsX5_ruleSlope := goodIn_r _ [39, 40, 41, 42, 43, 44, 45, 46, 47, 48, 5, 49, 50, 51, 52, 22, 53, 24, 54, 55, 56, 57, 28, 58, 59, 60, 61, 62, 63, 64, 65, 66, 67, 68, 69, 70, 71, 72, 73, 74, 75, 76, 77, 78, 79, 80, 26, 27, 29, 30, 81, 82, 83, 84, 85, 86, 87, 88, 89, 90, 91, 92, 93, 94, 95, 96, 97, 98, 34, 99, 36, 100, 101, 102, 103, 104, 105, 106, 107, 108, 109, 110, 111, 112, 113, 114, 115, 116, 117, 118, 119, 120, 121, 122, 123, 124, 125, 126, 127, 128, 129, 130, 131, 132, 133, 134, 135, 136, 137, 138, 139, 140, 141, 142, 143, 144, 145, 37, 38, 146, 147, 148, 149, 150, 151, 152, 153, 154, 155, 156, 157, 158, 164, 165, 166, 167, 168, 169, 170, 171, 172, 173, 174, 175, 177, 178, 179, 180, 181, 182, 183, 184, 185, 176] rfl (by decide +kernel)
set_option maxRecDepth 20000 in
theorem gX10_slopeByRules_X5_ruleSlope_n150 : GoodIn wsX10_slopeByRules (wsX5_ruleSlope) := ggX10_slopeByRules_X5_ruleSlope
theorem dX10_slopeByRules_0 : decode cX10_slopeByRules 0 = .ok (.aload_n 0, 1) := by decide +kernel
theorem dX10_slopeByRules_1 : decode cX10_slopeByRules 1 = .ok (.iload_n 1, 1) := by decide +kernel
theorem dX10_slopeByRules_2 : decode cX10_slopeByRules 2 = .ok (.invokevirtual 41, 3) := by decide +kernel
theorem dX10_slopeByRules_5 : decode cX10_slopeByRules 5 = .ok (.aload_n 0, 1) := by decide +kernel
theorem dX10_slopeByRules_6 : decode cX10_slopeByRules 6 = .ok (.iload_n 2, 1) := by decide +kernel
theorem dX10_slopeByRules_7 : decode cX10_slopeByRules 7 = .ok (.invokevirtual 140, 3) := by decide +kernel
theorem dX10_slopeByRules_10 : decode cX10_slopeByRules 10 = .ok (.aload_n 0, 1) := by decide +kernel
theorem dX10_slopeByRules_11 : decode cX10_slopeByRules 11 = .ok (.getfield 33, 3) := by decide +kernel
theorem dX10_slopeByRules_14 : decode cX10_slopeByRules 14 = .ok (.iload_n 1, 1) := by decide +kernel
theorem dX10_slopeByRules_15 : decode cX10_slopeByRules 15 = .ok (.iload_n 2, 1) := by decide +kernel
theorem dX10_slopeByRules_16 : decode cX10_slopeByRules 16 = .ok (.invokevirtual 150, 3) := by decide +kernel
theorem dX10_slopeByRules_19 : decode cX10_slopeByRules 19 = .ok (.ireturn, 1) := by decide +kernel
set_option maxRecDepth 20000 in
theorem ggX10_bansOf_X10_requireFunction : GoodIn wsX10_bansOf wsX10_requireFunction := goodIn_ca (goodIn_r _ [5, 6, 7] rfl (by decide +kernel)) (goodIn_sub (fun _ h => List.mem_cons_of_mem _ (List.mem_append_right _ h)) (by decide +kernel))
set_option maxRecDepth 20000 in
theorem gX10_bansOf_X10_requireFunction : GoodIn wsX10_bansOf (wsV RX10 41 RX10 yX10_requireFunction wsX10_requireFunction) := goodIn_app (goodIn_of _ (by decide +kernel)) ggX10_bansOf_X10_requireFunction
set_option maxRecDepth 20000 in
theorem ggX10_bansOf_X10_countValues : GoodIn wsX10_bansOf wsX10_countValues := goodIn_r _ [11, 12, 13, 14, 15, 4, 16, 17, 18, 19, 20, 21, 22, 23, 24, 25, 26, 27, 28, 29, 30, 31, 32, 33, 34, 35, 36, 37, 38, 39, 40, 41, 42, 43, 44, 45, 46, 47, 48, 49, 50, 51, 52, 53, 54, 55, 56, 57, 58, 59, 60, 61, 62, 63, 64, 65, 66, 67, 68, 69, 70, 71, 72, 73, 74, 75, 76, 77, 78, 79, 80, 81, 82, 83, 84, 85, 86, 87, 88, 89, 90, 91, 92, 93, 94, 95, 96, 97, 98, 99, 100, 101, 102, 103, 104, 105, 106, 107, 108, 109, 110, 111, 112, 113, 114, 115, 116, 117, 118, 119, 120, 121, 122, 123, 124, 125, 126, 127, 128, 129, 130, 131, 132, 133, 134, 135, 136, 137, 138, 139, 140, 141, 142, 143, 144, 145, 146, 147, 148, 149, 150, 151, 152, 153, 154, 155, 156, 157] rfl (by decide +kernel)
set_option maxRecDepth 20000 in
theorem gX10_bansOf_X10_countValues : GoodIn wsX10_bansOf (wsV RX10 166 RX10 yX10_countValues wsX10_countValues) := goodIn_app (goodIn_of _ (by decide +kernel)) ggX10_bansOf_X10_countValues
theorem dX10_bansOf_0 : decode cX10_bansOf 0 = .ok (.aload_n 0, 1) := by decide +kernel
theorem dX10_bansOf_1 : decode cX10_bansOf 1 = .ok (.iload_n 1, 1) := by decide +kernel
theorem dX10_bansOf_2 : decode cX10_bansOf 2 = .ok (.invokevirtual 41, 3) := by decide +kernel
theorem dX10_bansOf_5 : decode cX10_bansOf 5 = .ok (.aload_n 0, 1) := by decide +kernel
theorem dX10_bansOf_6 : decode cX10_bansOf 6 = .ok (.iload_n 1, 1) := by decide +kernel
theorem dX10_bansOf_7 : decode cX10_bansOf 7 = .ok (.iconst (-1), 1) := by decide +kernel
theorem dX10_bansOf_8 : decode cX10_bansOf 8 = .ok (.invokevirtual 166, 3) := by decide +kernel
theorem dX10_bansOf_11 : decode cX10_bansOf 11 = .ok (.ireturn, 1) := by decide +kernel
set_option maxRecDepth 20000 in
theorem ggX10_flatsOf_X10_requireFunction : GoodIn wsX10_flatsOf wsX10_requireFunction := goodIn_ca (goodIn_r _ [6, 7, 8] rfl (by decide +kernel)) (goodIn_sub (fun _ h => List.mem_cons_of_mem _ (List.mem_append_right _ h)) (by decide +kernel))
set_option maxRecDepth 20000 in
theorem gX10_flatsOf_X10_requireFunction : GoodIn wsX10_flatsOf (wsV RX10 41 RX10 yX10_requireFunction wsX10_requireFunction) := goodIn_app (goodIn_of _ (by decide +kernel)) ggX10_flatsOf_X10_requireFunction
set_option maxRecDepth 20000 in
theorem ggX10_flatsOf_X10_prime : GoodIn wsX10_flatsOf wsX10_prime := goodIn_r _ [12, 1, 13, 14, 15, 16, 17, 18, 19, 20, 21, 22, 23, 24, 25, 26, 27, 28, 29, 30, 141, 142, 143, 144, 145, 146, 147, 148, 149, 150, 151, 152, 153, 154, 155, 156, 157, 158] rfl (by decide +kernel)
set_option maxRecDepth 20000 in
theorem gX10_flatsOf_X10_prime : GoodIn wsX10_flatsOf (wsV RX10 101 RX10 yX10_prime wsX10_prime) := goodIn_app (goodIn_of _ (by decide +kernel)) ggX10_flatsOf_X10_prime
set_option maxRecDepth 20000 in
theorem ggX10_flatsOf_X5_hingeSlope : GoodIn wsX10_flatsOf wsX5_hingeSlope := goodIn_r _ [33, 34, 18, 35, 36, 37, 38, 39, 40, 41, 42, 43, 44, 5, 45, 46, 47, 48, 16, 49, 50, 51, 22, 52, 53, 54, 55, 56, 57, 58, 59, 60, 61, 62, 63, 64, 65, 66, 67, 68, 69, 70, 71, 72, 73, 74, 75, 76, 77, 78, 79, 80, 81, 82, 83, 84, 85, 86, 20, 21, 23, 24, 87, 88, 89, 90, 91, 92, 93, 94, 95, 96, 97, 98, 99, 100, 101, 102, 103, 104, 28, 105, 30, 106, 107, 108, 109, 110, 111, 112, 113, 114, 115, 116, 117, 118, 119, 120, 121, 122, 123, 124, 125, 126, 127, 128, 129, 130, 131, 132, 133, 134, 135, 136, 137, 138, 139, 140, 31, 32, 146, 147, 148, 149, 150, 151, 152, 153, 154, 155, 156, 157, 159, 160, 161, 162, 163, 164, 165, 166, 167, 158] rfl (by decide +kernel)
set_option maxRecDepth 20000 in
theorem gX10_flatsOf_X5_hingeSlope_n147 : GoodIn wsX10_flatsOf (wsX5_hingeSlope) := ggX10_flatsOf_X5_hingeSlope
theorem dX10_flatsOf_0 : decode cX10_flatsOf 0 = .ok (.aload_n 0, 1) := by decide +kernel
theorem dX10_flatsOf_1 : decode cX10_flatsOf 1 = .ok (.iload_n 1, 1) := by decide +kernel
theorem dX10_flatsOf_2 : decode cX10_flatsOf 2 = .ok (.invokevirtual 41, 3) := by decide +kernel
theorem dX10_flatsOf_5 : decode cX10_flatsOf 5 = .ok (.iconst 0, 1) := by decide +kernel
theorem dX10_flatsOf_6 : decode cX10_flatsOf 6 = .ok (.istore_n 2, 1) := by decide +kernel
theorem dX10_flatsOf_7 : decode cX10_flatsOf 7 = .ok (.iconst 0, 1) := by decide +kernel
theorem dX10_flatsOf_8 : decode cX10_flatsOf 8 = .ok (.istore_n 3, 1) := by decide +kernel
theorem dX10_flatsOf_9 : decode cX10_flatsOf 9 = .ok (.iload_n 3, 1) := by decide +kernel
theorem dX10_flatsOf_10 : decode cX10_flatsOf 10 = .ok (.aload_n 0, 1) := by decide +kernel
theorem dX10_flatsOf_11 : decode cX10_flatsOf 11 = .ok (.invokevirtual 101, 3) := by decide +kernel
theorem dX10_flatsOf_14 : decode cX10_flatsOf 14 = .ok (.if_icmp .ge 24, 3) := by decide +kernel
theorem dX10_flatsOf_17 : decode cX10_flatsOf 17 = .ok (.aload_n 0, 1) := by decide +kernel
theorem dX10_flatsOf_18 : decode cX10_flatsOf 18 = .ok (.getfield 33, 3) := by decide +kernel
theorem dX10_flatsOf_21 : decode cX10_flatsOf 21 = .ok (.iload_n 1, 1) := by decide +kernel
theorem dX10_flatsOf_22 : decode cX10_flatsOf 22 = .ok (.iload_n 3, 1) := by decide +kernel
theorem dX10_flatsOf_23 : decode cX10_flatsOf 23 = .ok (.invokevirtual 147, 3) := by decide +kernel
theorem dX10_flatsOf_26 : decode cX10_flatsOf 26 = .ok (.ifCond .ne 6, 3) := by decide +kernel
theorem dX10_flatsOf_29 : decode cX10_flatsOf 29 = .ok (.iinc 2 1, 3) := by decide +kernel
theorem dX10_flatsOf_32 : decode cX10_flatsOf 32 = .ok (.iinc 3 1, 3) := by decide +kernel
theorem dX10_flatsOf_35 : decode cX10_flatsOf 35 = .ok (.goto (-26), 3) := by decide +kernel
theorem dX10_flatsOf_38 : decode cX10_flatsOf 38 = .ok (.iload_n 2, 1) := by decide +kernel
theorem dX10_flatsOf_39 : decode cX10_flatsOf 39 = .ok (.ireturn, 1) := by decide +kernel
set_option maxRecDepth 20000 in
theorem ggX10_firstFlat_X10_requireFunction : GoodIn wsX10_firstFlat wsX10_requireFunction := goodIn_ca (goodIn_r _ [6, 7, 8] rfl (by decide +kernel)) (goodIn_sub (fun _ h => List.mem_cons_of_mem _ (List.mem_append_right _ h)) (by decide +kernel))
set_option maxRecDepth 20000 in
theorem gX10_firstFlat_X10_requireFunction : GoodIn wsX10_firstFlat (wsV RX10 41 RX10 yX10_requireFunction wsX10_requireFunction) := goodIn_app (goodIn_of _ (by decide +kernel)) ggX10_firstFlat_X10_requireFunction
set_option maxRecDepth 20000 in
theorem ggX10_firstFlat_X10_prime : GoodIn wsX10_firstFlat wsX10_prime := goodIn_r _ [12, 1, 13, 14, 15, 16, 17, 18, 19, 20, 21, 22, 23, 24, 25, 26, 27, 28, 29, 30, 141, 142, 143, 144, 145, 146, 147, 148, 149, 150, 151, 152, 153, 154, 155, 156, 157, 158] rfl (by decide +kernel)
set_option maxRecDepth 20000 in
theorem gX10_firstFlat_X10_prime : GoodIn wsX10_firstFlat (wsV RX10 101 RX10 yX10_prime wsX10_prime) := goodIn_app (goodIn_of _ (by decide +kernel)) ggX10_firstFlat_X10_prime
set_option maxRecDepth 20000 in
theorem ggX10_firstFlat_X5_hingeSlope : GoodIn wsX10_firstFlat wsX5_hingeSlope := goodIn_r _ [33, 34, 18, 35, 36, 37, 38, 39, 40, 41, 42, 43, 44, 5, 45, 46, 47, 48, 16, 49, 50, 51, 22, 52, 53, 54, 55, 56, 57, 58, 59, 60, 61, 62, 63, 64, 65, 66, 67, 68, 69, 70, 71, 72, 73, 74, 75, 76, 77, 78, 79, 80, 81, 82, 83, 84, 85, 86, 20, 21, 23, 24, 87, 88, 89, 90, 91, 92, 93, 94, 95, 96, 97, 98, 99, 100, 101, 102, 103, 104, 28, 105, 30, 106, 107, 108, 109, 110, 111, 112, 113, 114, 115, 116, 117, 118, 119, 120, 121, 122, 123, 124, 125, 126, 127, 128, 129, 130, 131, 132, 133, 134, 135, 136, 137, 138, 139, 140, 31, 32, 146, 147, 148, 149, 150, 151, 152, 153, 154, 155, 156, 157, 159, 160, 161, 162, 163, 164, 165, 166, 167, 158] rfl (by decide +kernel)
set_option maxRecDepth 20000 in
theorem gX10_firstFlat_X5_hingeSlope_n147 : GoodIn wsX10_firstFlat (wsX5_hingeSlope) := ggX10_firstFlat_X5_hingeSlope
theorem dX10_firstFlat_0 : decode cX10_firstFlat 0 = .ok (.aload_n 0, 1) := by decide +kernel
theorem dX10_firstFlat_1 : decode cX10_firstFlat 1 = .ok (.iload_n 1, 1) := by decide +kernel
theorem dX10_firstFlat_2 : decode cX10_firstFlat 2 = .ok (.invokevirtual 41, 3) := by decide +kernel
theorem dX10_firstFlat_5 : decode cX10_firstFlat 5 = .ok (.iconst 0, 1) := by decide +kernel
theorem dX10_firstFlat_6 : decode cX10_firstFlat 6 = .ok (.istore_n 2, 1) := by decide +kernel
theorem dX10_firstFlat_7 : decode cX10_firstFlat 7 = .ok (.iload_n 2, 1) := by decide +kernel
theorem dX10_firstFlat_8 : decode cX10_firstFlat 8 = .ok (.aload_n 0, 1) := by decide +kernel
theorem dX10_firstFlat_9 : decode cX10_firstFlat 9 = .ok (.invokevirtual 101, 3) := by decide +kernel
theorem dX10_firstFlat_12 : decode cX10_firstFlat 12 = .ok (.if_icmp .ge 23, 3) := by decide +kernel
theorem dX10_firstFlat_15 : decode cX10_firstFlat 15 = .ok (.aload_n 0, 1) := by decide +kernel
theorem dX10_firstFlat_16 : decode cX10_firstFlat 16 = .ok (.getfield 33, 3) := by decide +kernel
theorem dX10_firstFlat_19 : decode cX10_firstFlat 19 = .ok (.iload_n 1, 1) := by decide +kernel
theorem dX10_firstFlat_20 : decode cX10_firstFlat 20 = .ok (.iload_n 2, 1) := by decide +kernel
theorem dX10_firstFlat_21 : decode cX10_firstFlat 21 = .ok (.invokevirtual 147, 3) := by decide +kernel
theorem dX10_firstFlat_24 : decode cX10_firstFlat 24 = .ok (.ifCond .ne 5, 3) := by decide +kernel
theorem dX10_firstFlat_27 : decode cX10_firstFlat 27 = .ok (.iload_n 2, 1) := by decide +kernel
theorem dX10_firstFlat_28 : decode cX10_firstFlat 28 = .ok (.ireturn, 1) := by decide +kernel
theorem dX10_firstFlat_29 : decode cX10_firstFlat 29 = .ok (.iinc 2 1, 3) := by decide +kernel
theorem dX10_firstFlat_32 : decode cX10_firstFlat 32 = .ok (.goto (-25), 3) := by decide +kernel
theorem dX10_firstFlat_35 : decode cX10_firstFlat 35 = .ok (.iconst (-1), 1) := by decide +kernel
theorem dX10_firstFlat_36 : decode cX10_firstFlat 36 = .ok (.ireturn, 1) := by decide +kernel
set_option maxRecDepth 20000 in
theorem ggX10_rootsOf_X10_requireFunction : GoodIn wsX10_rootsOf wsX10_requireFunction := goodIn_ca (goodIn_r _ [5, 6, 7] rfl (by decide +kernel)) (goodIn_sub (fun _ h => List.mem_cons_of_mem _ (List.mem_append_right _ h)) (by decide +kernel))
set_option maxRecDepth 20000 in
theorem gX10_rootsOf_X10_requireFunction : GoodIn wsX10_rootsOf (wsV RX10 41 RX10 yX10_requireFunction wsX10_requireFunction) := goodIn_app (goodIn_of _ (by decide +kernel)) ggX10_rootsOf_X10_requireFunction
set_option maxRecDepth 20000 in
theorem ggX10_rootsOf_X10_countValues : GoodIn wsX10_rootsOf wsX10_countValues := goodIn_r _ [11, 12, 13, 14, 15, 4, 16, 17, 18, 19, 20, 21, 22, 23, 24, 25, 26, 27, 28, 29, 30, 31, 32, 33, 34, 35, 36, 37, 38, 39, 40, 41, 42, 43, 44, 45, 46, 47, 48, 49, 50, 51, 52, 53, 54, 55, 56, 57, 58, 59, 60, 61, 62, 63, 64, 65, 66, 67, 68, 69, 70, 71, 72, 73, 74, 75, 76, 77, 78, 79, 80, 81, 82, 83, 84, 85, 86, 87, 88, 89, 90, 91, 92, 93, 94, 95, 96, 97, 98, 99, 100, 101, 102, 103, 104, 105, 106, 107, 108, 109, 110, 111, 112, 113, 114, 115, 116, 117, 118, 119, 120, 121, 122, 123, 124, 125, 126, 127, 128, 129, 130, 131, 132, 133, 134, 135, 136, 137, 138, 139, 140, 141, 142, 143, 144, 145, 146, 147, 148, 149, 150, 151, 152, 153, 154, 155, 156, 157] rfl (by decide +kernel)
set_option maxRecDepth 20000 in
theorem gX10_rootsOf_X10_countValues : GoodIn wsX10_rootsOf (wsV RX10 166 RX10 yX10_countValues wsX10_countValues) := goodIn_app (goodIn_of _ (by decide +kernel)) ggX10_rootsOf_X10_countValues
theorem dX10_rootsOf_0 : decode cX10_rootsOf 0 = .ok (.aload_n 0, 1) := by decide +kernel
theorem dX10_rootsOf_1 : decode cX10_rootsOf 1 = .ok (.iload_n 1, 1) := by decide +kernel
theorem dX10_rootsOf_2 : decode cX10_rootsOf 2 = .ok (.invokevirtual 41, 3) := by decide +kernel
theorem dX10_rootsOf_5 : decode cX10_rootsOf 5 = .ok (.aload_n 0, 1) := by decide +kernel
theorem dX10_rootsOf_6 : decode cX10_rootsOf 6 = .ok (.iload_n 1, 1) := by decide +kernel
theorem dX10_rootsOf_7 : decode cX10_rootsOf 7 = .ok (.iconst 0, 1) := by decide +kernel
theorem dX10_rootsOf_8 : decode cX10_rootsOf 8 = .ok (.invokevirtual 166, 3) := by decide +kernel
theorem dX10_rootsOf_11 : decode cX10_rootsOf 11 = .ok (.ireturn, 1) := by decide +kernel
set_option maxRecDepth 20000 in
theorem ggX10_step_X10_requireFunction : GoodIn wsX10_step wsX10_requireFunction := goodIn_ca (goodIn_r _ [5, 6, 7] rfl (by decide +kernel)) (goodIn_sub (fun _ h => List.mem_cons_of_mem _ (List.mem_append_left _ (List.mem_append_right _ h))) (by decide +kernel))
set_option maxRecDepth 20000 in
theorem gX10_step_X10_requireFunction : GoodIn wsX10_step (wsV RX10 41 RX10 yX10_requireFunction wsX10_requireFunction) := goodIn_app (goodIn_of _ (by decide +kernel)) ggX10_step_X10_requireFunction
set_option maxRecDepth 20000 in
theorem ggX10_step_X10_requireNumber : GoodIn wsX10_step wsX10_requireNumber := goodIn_ca (goodIn_r _ [11, 12, 13, 14, 15, 16, 4, 17, 18, 19, 20, 21, 22, 23, 24, 25, 26, 27, 28, 29, 30, 31, 32, 33, 34, 35, 36, 165, 166, 167, 168, 169, 170, 171, 172, 173, 174, 175, 176, 177, 178, 179, 180, 181, 182] rfl (by decide +kernel)) (goodIn_sub (fun _ h => List.mem_cons_of_mem _ (List.mem_append_right _ h)) (by decide +kernel))
set_option maxRecDepth 20000 in
theorem gX10_step_X10_requireNumber : GoodIn wsX10_step (wsV RX10 140 RX10 yX10_requireNumber wsX10_requireNumber) := goodIn_app (goodIn_of _ (by decide +kernel)) ggX10_step_X10_requireNumber
set_option maxRecDepth 20000 in
theorem ggX10_step_X10_nextOf : GoodIn wsX10_step wsX10_nextOf := goodIn_r _ [40, 18, 41, 22, 42, 43, 44, 45, 46, 47, 48, 49, 50, 51, 52, 4, 53, 54, 55, 56, 57, 58, 59, 60, 61, 62, 63, 24, 64, 65, 66, 67, 28, 68, 69, 70, 71, 72, 73, 74, 75, 76, 77, 78, 79, 80, 81, 82, 83, 84, 85, 86, 87, 88, 89, 90, 26, 27, 29, 30, 91, 92, 93, 94, 95, 96, 97, 98, 99, 100, 101, 102, 103, 104, 105, 106, 107, 108, 34, 109, 36, 110, 111, 112, 113, 114, 115, 116, 117, 118, 119, 120, 121, 122, 123, 124, 125, 126, 127, 128, 129, 130, 131, 132, 133, 134, 135, 136, 137, 138, 139, 140, 141, 142, 143, 144, 145, 146, 147, 148, 149, 150, 151, 152, 153, 154, 155, 156, 157, 158, 159, 160, 161, 162, 19, 20, 21, 23, 25, 163, 164, 165, 166, 167, 168, 169, 170, 171, 172, 173, 174, 175, 176, 177, 178, 179, 180, 181, 183, 184, 185, 186, 187, 188, 189, 190, 191, 182] rfl (by decide +kernel)
set_option maxRecDepth 20000 in
theorem gX10_step_X10_nextOf : GoodIn wsX10_step (wsV RX10 169 RX10 yX10_nextOf wsX10_nextOf) := goodIn_app (goodIn_of _ (by decide +kernel)) ggX10_step_X10_nextOf
theorem dX10_step_0 : decode cX10_step 0 = .ok (.aload_n 0, 1) := by decide +kernel
theorem dX10_step_1 : decode cX10_step 1 = .ok (.iload_n 1, 1) := by decide +kernel
theorem dX10_step_2 : decode cX10_step 2 = .ok (.invokevirtual 41, 3) := by decide +kernel
theorem dX10_step_5 : decode cX10_step 5 = .ok (.aload_n 0, 1) := by decide +kernel
theorem dX10_step_6 : decode cX10_step 6 = .ok (.iload_n 2, 1) := by decide +kernel
theorem dX10_step_7 : decode cX10_step 7 = .ok (.invokevirtual 140, 3) := by decide +kernel
theorem dX10_step_10 : decode cX10_step 10 = .ok (.aload_n 0, 1) := by decide +kernel
theorem dX10_step_11 : decode cX10_step 11 = .ok (.iload_n 1, 1) := by decide +kernel
theorem dX10_step_12 : decode cX10_step 12 = .ok (.iload_n 2, 1) := by decide +kernel
theorem dX10_step_13 : decode cX10_step 13 = .ok (.invokevirtual 169, 3) := by decide +kernel
theorem dX10_step_16 : decode cX10_step 16 = .ok (.ireturn, 1) := by decide +kernel
set_option maxRecDepth 20000 in
theorem ggX10_stepsToRoot_X10_requireFunction : GoodIn wsX10_stepsToRoot wsX10_requireFunction := goodIn_ca (goodIn_r _ [6, 7, 8] rfl (by decide +kernel)) (goodIn_sub (fun _ h => List.mem_cons_of_mem _ (List.mem_append_left _ (List.mem_append_right _ h))) (by decide +kernel))
set_option maxRecDepth 20000 in
theorem gX10_stepsToRoot_X10_requireFunction : GoodIn wsX10_stepsToRoot (wsV RX10 41 RX10 yX10_requireFunction wsX10_requireFunction) := goodIn_app (goodIn_of _ (by decide +kernel)) ggX10_stepsToRoot_X10_requireFunction
set_option maxRecDepth 20000 in
theorem ggX10_stepsToRoot_X10_requireNumber : GoodIn wsX10_stepsToRoot wsX10_requireNumber := goodIn_ca (goodIn_r _ [12, 13, 14, 15, 16, 17, 5, 18, 1, 19, 20, 21, 22, 23, 24, 25, 26, 27, 28, 29, 30, 31, 32, 33, 34, 35, 36, 165, 166, 167, 168, 169, 170, 171, 172, 173, 174, 175, 176, 177, 178, 179, 180, 181, 182] rfl (by decide +kernel)) (goodIn_sub (fun _ h => List.mem_cons_of_mem _ (List.mem_append_right _ h)) (by decide +kernel))
set_option maxRecDepth 20000 in
theorem gX10_stepsToRoot_X10_requireNumber : GoodIn wsX10_stepsToRoot (wsV RX10 140 RX10 yX10_requireNumber wsX10_requireNumber) := goodIn_app (goodIn_of _ (by decide +kernel)) ggX10_stepsToRoot_X10_requireNumber
set_option maxRecDepth 20000 in
theorem ggX10_stepsToRoot_X10_prime : GoodIn wsX10_stepsToRoot wsX10_prime := goodIn_r _ [18, 1, 19, 20, 21, 22, 23, 24, 25, 26, 27, 28, 29, 30, 31, 32, 33, 34, 35, 36, 165, 166, 167, 168, 169, 170, 171, 172, 173, 174, 175, 176, 177, 178, 179, 180, 181, 182] rfl (by decide +kernel)
set_option maxRecDepth 20000 in
theorem gX10_stepsToRoot_X10_prime : GoodIn wsX10_stepsToRoot (wsV RX10 101 RX10 yX10_prime wsX10_prime) := goodIn_app (goodIn_of _ (by decide +kernel)) ggX10_stepsToRoot_X10_prime
set_option maxRecDepth 20000 in
theorem ggX10_stepsToRoot_X5_value : GoodIn wsX10_stepsToRoot wsX5_value := goodIn_r _ [39, 40, 41, 42, 43, 44, 45, 46, 47, 48, 5, 49, 50, 51, 52, 22, 53, 54, 55, 56, 57, 58, 59, 24, 60, 61, 62, 63, 28, 64, 65, 66, 67, 68, 69, 70, 71, 72, 73, 74, 75, 76, 77, 78, 79, 80, 81, 82, 83, 84, 85, 86, 26, 27, 29, 30, 87, 88, 89, 90, 91, 92, 93, 94, 95, 96, 97, 98, 99, 100, 101, 102, 103, 104, 34, 105, 36, 106, 107, 108, 109, 110, 111, 112, 113, 114, 115, 116, 117, 118, 119, 120, 121, 122, 123, 124, 125, 126, 127, 128, 129, 130, 131, 132, 37, 38, 170, 171, 172, 173, 174, 175, 176, 177, 178, 179, 180, 181, 183, 184, 185, 186, 187, 188, 189, 190, 191, 182] rfl (by decide +kernel)
set_option maxRecDepth 20000 in
theorem gX10_stepsToRoot_X5_value_n143 : GoodIn wsX10_stepsToRoot (wsX5_value) := ggX10_stepsToRoot_X5_value
set_option maxRecDepth 20000 in
theorem ggX10_stepsToRoot_X10_nextOf : GoodIn wsX10_stepsToRoot wsX10_nextOf := goodIn_r _ [136, 1, 37, 22, 38, 39, 40, 41, 42, 43, 44, 45, 46, 47, 48, 5, 49, 50, 51, 52, 53, 54, 55, 56, 57, 58, 59, 24, 60, 61, 62, 63, 28, 64, 65, 66, 67, 68, 69, 70, 71, 72, 73, 74, 75, 76, 77, 78, 79, 80, 81, 82, 83, 84, 85, 86, 26, 27, 29, 30, 87, 88, 89, 90, 91, 92, 93, 94, 95, 96, 97, 98, 99, 100, 101, 102, 103, 104, 34, 105, 36, 106, 107, 108, 109, 110, 111, 112, 113, 114, 115, 116, 117, 118, 119, 120, 121, 122, 123, 124, 125, 126, 127, 128, 129, 130, 131, 132, 137, 138, 139, 140, 141, 142, 143, 144, 145, 146, 147, 148, 149, 150, 151, 152, 153, 154, 155, 156, 157, 158, 159, 160, 161, 162, 19, 20, 21, 23, 25, 163, 164, 165, 166, 167, 168, 169, 170, 171, 172, 173, 174, 175, 176, 177, 178, 179, 180, 181, 183, 184, 185, 186, 187, 188, 189, 190, 191, 182] rfl (by decide +kernel)
set_option maxRecDepth 20000 in
theorem gX10_stepsToRoot_X10_nextOf : GoodIn wsX10_stepsToRoot (wsV RX10 169 RX10 yX10_nextOf wsX10_nextOf) := goodIn_app (goodIn_of _ (by decide +kernel)) ggX10_stepsToRoot_X10_nextOf
theorem dX10_stepsToRoot_0 : decode cX10_stepsToRoot 0 = .ok (.aload_n 0, 1) := by decide +kernel
theorem dX10_stepsToRoot_1 : decode cX10_stepsToRoot 1 = .ok (.iload_n 1, 1) := by decide +kernel
theorem dX10_stepsToRoot_2 : decode cX10_stepsToRoot 2 = .ok (.invokevirtual 41, 3) := by decide +kernel
theorem dX10_stepsToRoot_5 : decode cX10_stepsToRoot 5 = .ok (.aload_n 0, 1) := by decide +kernel
theorem dX10_stepsToRoot_6 : decode cX10_stepsToRoot 6 = .ok (.iload_n 2, 1) := by decide +kernel
theorem dX10_stepsToRoot_7 : decode cX10_stepsToRoot 7 = .ok (.invokevirtual 140, 3) := by decide +kernel
theorem dX10_stepsToRoot_10 : decode cX10_stepsToRoot 10 = .ok (.iload_n 2, 1) := by decide +kernel
theorem dX10_stepsToRoot_11 : decode cX10_stepsToRoot 11 = .ok (.istore_n 3, 1) := by decide +kernel
theorem dX10_stepsToRoot_12 : decode cX10_stepsToRoot 12 = .ok (.iconst 0, 1) := by decide +kernel
theorem dX10_stepsToRoot_13 : decode cX10_stepsToRoot 13 = .ok (.istore 4, 2) := by decide +kernel
theorem dX10_stepsToRoot_15 : decode cX10_stepsToRoot 15 = .ok (.iload 4, 2) := by decide +kernel
theorem dX10_stepsToRoot_17 : decode cX10_stepsToRoot 17 = .ok (.aload_n 0, 1) := by decide +kernel
theorem dX10_stepsToRoot_18 : decode cX10_stepsToRoot 18 = .ok (.invokevirtual 101, 3) := by decide +kernel
theorem dX10_stepsToRoot_21 : decode cX10_stepsToRoot 21 = .ok (.if_icmp .ge 36, 3) := by decide +kernel
theorem dX10_stepsToRoot_24 : decode cX10_stepsToRoot 24 = .ok (.iload_n 3, 1) := by decide +kernel
theorem dX10_stepsToRoot_25 : decode cX10_stepsToRoot 25 = .ok (.iconst (-1), 1) := by decide +kernel
theorem dX10_stepsToRoot_26 : decode cX10_stepsToRoot 26 = .ok (.if_icmp .eq 31, 3) := by decide +kernel
theorem dX10_stepsToRoot_29 : decode cX10_stepsToRoot 29 = .ok (.aload_n 0, 1) := by decide +kernel
theorem dX10_stepsToRoot_30 : decode cX10_stepsToRoot 30 = .ok (.getfield 33, 3) := by decide +kernel
theorem dX10_stepsToRoot_33 : decode cX10_stepsToRoot 33 = .ok (.iload_n 1, 1) := by decide +kernel
theorem dX10_stepsToRoot_34 : decode cX10_stepsToRoot 34 = .ok (.iload_n 3, 1) := by decide +kernel
theorem dX10_stepsToRoot_35 : decode cX10_stepsToRoot 35 = .ok (.invokevirtual 143, 3) := by decide +kernel
theorem dX10_stepsToRoot_38 : decode cX10_stepsToRoot 38 = .ok (.ifCond .ne 6, 3) := by decide +kernel
theorem dX10_stepsToRoot_41 : decode cX10_stepsToRoot 41 = .ok (.iload 4, 2) := by decide +kernel
theorem dX10_stepsToRoot_43 : decode cX10_stepsToRoot 43 = .ok (.ireturn, 1) := by decide +kernel
theorem dX10_stepsToRoot_44 : decode cX10_stepsToRoot 44 = .ok (.aload_n 0, 1) := by decide +kernel
theorem dX10_stepsToRoot_45 : decode cX10_stepsToRoot 45 = .ok (.iload_n 1, 1) := by decide +kernel
theorem dX10_stepsToRoot_46 : decode cX10_stepsToRoot 46 = .ok (.iload_n 3, 1) := by decide +kernel
theorem dX10_stepsToRoot_47 : decode cX10_stepsToRoot 47 = .ok (.invokevirtual 169, 3) := by decide +kernel
theorem dX10_stepsToRoot_50 : decode cX10_stepsToRoot 50 = .ok (.istore_n 3, 1) := by decide +kernel
theorem dX10_stepsToRoot_51 : decode cX10_stepsToRoot 51 = .ok (.iinc 4 1, 3) := by decide +kernel
theorem dX10_stepsToRoot_54 : decode cX10_stepsToRoot 54 = .ok (.goto (-39), 3) := by decide +kernel
theorem dX10_stepsToRoot_57 : decode cX10_stepsToRoot 57 = .ok (.iconst (-1), 1) := by decide +kernel
theorem dX10_stepsToRoot_58 : decode cX10_stepsToRoot 58 = .ok (.ireturn, 1) := by decide +kernel
set_option maxRecDepth 20000 in
theorem ggX10_prime_X5_state : GoodIn wsX10_prime wsX5_state := goodIn_r _ [6, 7, 25, 26, 27, 28, 29, 30, 31] rfl (by decide +kernel)
set_option maxRecDepth 20000 in
theorem gX10_prime_X5_state : GoodIn wsX10_prime (wsV RX10 66 RX5 yX5_state wsX5_state) := goodIn_app (goodIn_of _ (by decide +kernel)) ggX10_prime_X5_state
set_option maxRecDepth 20000 in
theorem ggX10_prime_X7_numbers : GoodIn wsX10_prime wsX7_numbers := goodIn_r _ [12, 13, 32, 33, 34, 35, 36] rfl (by decide +kernel)
set_option maxRecDepth 20000 in
theorem gX10_prime_X7_numbers : GoodIn wsX10_prime (wsV RX10 153 RX7 yX7_numbers wsX7_numbers) := goodIn_app (goodIn_of _ (by decide +kernel)) ggX10_prime_X7_numbers
set_option maxRecDepth 20000 in
theorem ggX10_prime_X6_prime : GoodIn wsX10_prime wsX6_prime := goodIn_r _ [18, 19, 37] rfl (by decide +kernel)
set_option maxRecDepth 20000 in
theorem gX10_prime_X6_prime : GoodIn wsX10_prime (wsV RX10 172 RX6 yX6_prime wsX6_prime) := goodIn_app (goodIn_of _ (by decide +kernel)) ggX10_prime_X6_prime
theorem dX10_prime_0 : decode cX10_prime 0 = .ok (.aload_n 0, 1) := by decide +kernel
theorem dX10_prime_1 : decode cX10_prime 1 = .ok (.getfield 33, 3) := by decide +kernel
theorem dX10_prime_4 : decode cX10_prime 4 = .ok (.invokevirtual 66, 3) := by decide +kernel
theorem dX10_prime_7 : decode cX10_prime 7 = .ok (.invokevirtual 153, 3) := by decide +kernel
theorem dX10_prime_10 : decode cX10_prime 10 = .ok (.invokevirtual 172, 3) := by decide +kernel
theorem dX10_prime_13 : decode cX10_prime 13 = .ok (.ireturn, 1) := by decide +kernel
set_option maxRecDepth 20000 in
theorem ggX10_act_X5_state : GoodIn wsX10_act wsX5_state := goodIn_r _ [7, 8, 46, 47, 48, 49, 50, 51, 52] rfl (by decide +kernel)
set_option maxRecDepth 20000 in
theorem gX10_act_X5_state : GoodIn wsX10_act (wsV RX10 66 RX5 yX5_state wsX5_state) := goodIn_app (goodIn_of _ (by decide +kernel)) ggX10_act_X5_state
set_option maxRecDepth 20000 in
theorem ggX10_act_X2_record : GoodIn wsX10_act wsX2_record := goodIn_r _ [13, 14, 15, 16, 17, 18, 12, 19, 53, 54] rfl (by decide +kernel)
set_option maxRecDepth 20000 in
theorem gX10_act_X2_record : GoodIn wsX10_act (wsV RX10 173 RX2 yX2_record wsX2_record) := goodIn_app (goodIn_of _ (by decide +kernel)) ggX10_act_X2_record
set_option maxRecDepth 20000 in
theorem ggX10_act_X5_moveTo : GoodIn wsX10_act wsX5_moveTo := goodIn_r _ [23, 8, 24, 25, 26, 6, 27, 28, 29, 30, 31, 32, 33, 34, 35, 36, 37, 38, 39, 40, 46, 47, 48, 49, 50, 51, 52, 55, 56] rfl (by decide +kernel)
set_option maxRecDepth 20000 in
theorem gX10_act_X5_moveTo : GoodIn wsX10_act (wsV RX10 126 RX5 yX5_moveTo wsX5_moveTo) := goodIn_app (goodIn_of _ (by decide +kernel)) ggX10_act_X5_moveTo
theorem dX10_act_0 : decode cX10_act 0 = .ok (.aload_n 0, 1) := by decide +kernel
theorem dX10_act_1 : decode cX10_act 1 = .ok (.getfield 26, 3) := by decide +kernel
theorem dX10_act_4 : decode cX10_act 4 = .ok (.aload_n 0, 1) := by decide +kernel
theorem dX10_act_5 : decode cX10_act 5 = .ok (.getfield 33, 3) := by decide +kernel
theorem dX10_act_8 : decode cX10_act 8 = .ok (.invokevirtual 66, 3) := by decide +kernel
theorem dX10_act_11 : decode cX10_act 11 = .ok (.invokevirtual 173, 3) := by decide +kernel
theorem dX10_act_14 : decode cX10_act 14 = .ok (.aload_n 0, 1) := by decide +kernel
theorem dX10_act_15 : decode cX10_act 15 = .ok (.getfield 33, 3) := by decide +kernel
theorem dX10_act_18 : decode cX10_act 18 = .ok (.aload_n 1, 1) := by decide +kernel
theorem dX10_act_19 : decode cX10_act 19 = .ok (.invokevirtual 126, 3) := by decide +kernel
theorem dX10_act_22 : decode cX10_act 22 = .ok (.return_, 1) := by decide +kernel
set_option maxRecDepth 20000 in
theorem ggX10_countValues_X10_prime : GoodIn wsX10_countValues wsX10_prime := goodIn_r _ [6, 1, 7, 8, 9, 10, 11, 12, 13, 14, 15, 16, 17, 18, 19, 20, 21, 22, 23, 24, 121, 122, 123, 124, 125, 126, 127, 128, 129, 130, 131, 132, 133, 134, 135, 136, 137, 138] rfl (by decide +kernel)
set_option maxRecDepth 20000 in
theorem gX10_countValues_X10_prime : GoodIn wsX10_countValues (wsV RX10 101 RX10 yX10_prime wsX10_prime) := goodIn_app (goodIn_of _ (by decide +kernel)) ggX10_countValues_X10_prime
set_option maxRecDepth 20000 in
theorem ggX10_countValues_X5_value : GoodIn wsX10_countValues wsX5_value := goodIn_r _ [27, 28, 29, 30, 31, 32, 33, 34, 35, 36, 5, 37, 38, 39, 40, 10, 41, 42, 43, 44, 45, 46, 47, 12, 48, 49, 50, 51, 16, 52, 53, 54, 55, 56, 57, 58, 59, 60, 61, 62, 63, 64, 65, 66, 67, 68, 69, 70, 71, 72, 73, 74, 14, 15, 17, 18, 75, 76, 77, 78, 79, 80, 81, 82, 83, 84, 85, 86, 87, 88, 89, 90, 91, 92, 22, 93, 24, 94, 95, 96, 97, 98, 99, 100, 101, 102, 103, 104, 105, 106, 107, 108, 109, 110, 111, 112, 113, 114, 115, 116, 117, 118, 119, 120, 25, 26, 126, 127, 128, 129, 130, 131, 132, 133, 134, 135, 136, 137, 139, 140, 141, 142, 143, 144, 145, 146, 147, 138] rfl (by decide +kernel)
set_option maxRecDepth 20000 in
theorem gX10_countValues_X5_value_n143 : GoodIn wsX10_countValues (wsX5_value) := ggX10_countValues_X5_value
theorem dX10_countValues_0 : decode cX10_countValues 0 = .ok (.iconst 0, 1) := by decide +kernel
theorem dX10_countValues_1 : decode cX10_countValues 1 = .ok (.istore_n 3, 1) := by decide +kernel
theorem dX10_countValues_2 : decode cX10_countValues 2 = .ok (.iconst 0, 1) := by decide +kernel
theorem dX10_countValues_3 : decode cX10_countValues 3 = .ok (.istore 4, 2) := by decide +kernel
theorem dX10_countValues_5 : decode cX10_countValues 5 = .ok (.iload 4, 2) := by decide +kernel
theorem dX10_countValues_7 : decode cX10_countValues 7 = .ok (.aload_n 0, 1) := by decide +kernel
theorem dX10_countValues_8 : decode cX10_countValues 8 = .ok (.invokevirtual 101, 3) := by decide +kernel
theorem dX10_countValues_11 : decode cX10_countValues 11 = .ok (.if_icmp .ge 26, 3) := by decide +kernel
theorem dX10_countValues_14 : decode cX10_countValues 14 = .ok (.aload_n 0, 1) := by decide +kernel
theorem dX10_countValues_15 : decode cX10_countValues 15 = .ok (.getfield 33, 3) := by decide +kernel
theorem dX10_countValues_18 : decode cX10_countValues 18 = .ok (.iload_n 1, 1) := by decide +kernel
theorem dX10_countValues_19 : decode cX10_countValues 19 = .ok (.iload 4, 2) := by decide +kernel
theorem dX10_countValues_21 : decode cX10_countValues 21 = .ok (.invokevirtual 143, 3) := by decide +kernel
theorem dX10_countValues_24 : decode cX10_countValues 24 = .ok (.iload_n 2, 1) := by decide +kernel
theorem dX10_countValues_25 : decode cX10_countValues 25 = .ok (.if_icmp .ne 6, 3) := by decide +kernel
theorem dX10_countValues_28 : decode cX10_countValues 28 = .ok (.iinc 3 1, 3) := by decide +kernel
theorem dX10_countValues_31 : decode cX10_countValues 31 = .ok (.iinc 4 1, 3) := by decide +kernel
theorem dX10_countValues_34 : decode cX10_countValues 34 = .ok (.goto (-29), 3) := by decide +kernel
theorem dX10_countValues_37 : decode cX10_countValues 37 = .ok (.iload_n 3, 1) := by decide +kernel
theorem dX10_countValues_38 : decode cX10_countValues 38 = .ok (.ireturn, 1) := by decide +kernel
set_option maxRecDepth 20000 in
theorem ggX10_nextOf_X5_value : GoodIn wsX10_nextOf wsX5_value := goodIn_r _ [5, 6, 7, 8, 9, 10, 11, 12, 13, 14, 15, 16, 17, 18, 19, 3, 20, 21, 22, 23, 24, 25, 26, 27, 28, 29, 30, 31, 32, 33, 34, 35, 36, 37, 38, 39, 40, 41, 42, 43, 44, 45, 46, 47, 48, 49, 50, 51, 52, 53, 54, 55, 56, 57, 58, 59, 60, 61, 62, 63, 64, 65, 66, 67, 68, 69, 70, 71, 72, 73, 74, 75, 76, 77, 78, 79, 80, 81, 82, 83, 84, 85, 86, 87, 88, 89, 90, 91, 92, 93, 94, 95, 96, 97, 98, 99, 100, 101, 102, 103, 104, 105, 106, 107, 2, 4, 146, 147, 148, 149, 150, 151, 152, 153, 154, 155, 156, 157, 158, 159, 160, 161, 162, 163, 164, 165, 166, 167] rfl (by decide +kernel)
set_option maxRecDepth 20000 in
theorem gX10_nextOf_X5_value_n143 : GoodIn wsX10_nextOf (wsX5_value) := ggX10_nextOf_X5_value
set_option maxRecDepth 20000 in
theorem ggX10_nextOf_X5_hingeSlope : GoodIn wsX10_nextOf wsX5_hingeSlope := goodIn_r _ [110, 111, 27, 6, 28, 7, 8, 9, 10, 11, 12, 13, 14, 15, 16, 112, 113, 114, 3, 29, 30, 31, 32, 33, 34, 35, 36, 37, 38, 39, 40, 41, 42, 43, 20, 21, 22, 23, 24, 25, 115, 116, 44, 45, 46, 47, 117, 118, 119, 120, 121, 122, 123, 51, 52, 53, 54, 55, 56, 57, 58, 59, 60, 61, 62, 63, 64, 65, 66, 67, 68, 69, 70, 71, 72, 73, 74, 75, 76, 77, 78, 79, 80, 81, 82, 83, 84, 85, 86, 87, 88, 89, 90, 91, 92, 93, 94, 95, 96, 97, 98, 99, 100, 101, 102, 124, 125, 126, 127, 128, 129, 130, 131, 132, 104, 105, 106, 133, 108, 109, 146, 147, 148, 149, 150, 151, 152, 153, 154, 155, 156, 157, 158, 159, 160, 161, 162, 163, 164, 165, 166, 167] rfl (by decide +kernel)
set_option maxRecDepth 20000 in
theorem gX10_nextOf_X5_hingeSlope_n147 : GoodIn wsX10_nextOf (wsX5_hingeSlope) := ggX10_nextOf_X5_hingeSlope
set_option maxRecDepth 20000 in
theorem ggX10_nextOf_X5_state : GoodIn wsX10_nextOf wsX5_state := goodIn_r _ [137, 27, 146, 147, 148, 149, 150, 151, 152] rfl (by decide +kernel)
set_option maxRecDepth 20000 in
theorem gX10_nextOf_X5_state : GoodIn wsX10_nextOf (wsV RX10 66 RX5 yX5_state wsX5_state) := goodIn_app (goodIn_of _ (by decide +kernel)) ggX10_nextOf_X5_state
set_option maxRecDepth 20000 in
theorem ggX10_nextOf_X7_numbers : GoodIn wsX10_nextOf wsX7_numbers := goodIn_r _ [58, 59, 153, 154, 155, 156, 157] rfl (by decide +kernel)
set_option maxRecDepth 20000 in
theorem gX10_nextOf_X7_numbers : GoodIn wsX10_nextOf (wsV RX10 153 RX7 yX7_numbers wsX7_numbers) := goodIn_app (goodIn_of _ (by decide +kernel)) ggX10_nextOf_X7_numbers
set_option maxRecDepth 20000 in
theorem ggX10_nextOf_X6_divide : GoodIn wsX10_nextOf wsX6_divide := goodIn_r _ [97, 80, 98, 99, 100, 78, 101, 85, 76, 77, 79, 167] rfl (by decide +kernel)
set_option maxRecDepth 20000 in
theorem gX10_nextOf_X6_divide : GoodIn wsX10_nextOf (wsV RX10 176 RX6 yX6_divide wsX6_divide) := goodIn_app (goodIn_of _ (by decide +kernel)) ggX10_nextOf_X6_divide
set_option maxRecDepth 20000 in
theorem ggX10_nextOf_X6_subtract : GoodIn wsX10_nextOf wsX6_subtract := goodIn_r _ [84, 85, 76, 77, 78, 79, 80, 167] rfl (by decide +kernel)
set_option maxRecDepth 20000 in
theorem gX10_nextOf_X6_subtract : GoodIn wsX10_nextOf (wsV RX10 179 RX6 yX6_subtract wsX6_subtract) := goodIn_app (goodIn_of _ (by decide +kernel)) ggX10_nextOf_X6_subtract
theorem dX10_nextOf_0 : decode cX10_nextOf 0 = .ok (.aload_n 0, 1) := by decide +kernel
theorem dX10_nextOf_1 : decode cX10_nextOf 1 = .ok (.getfield 33, 3) := by decide +kernel
theorem dX10_nextOf_4 : decode cX10_nextOf 4 = .ok (.iload_n 1, 1) := by decide +kernel
theorem dX10_nextOf_5 : decode cX10_nextOf 5 = .ok (.iload_n 2, 1) := by decide +kernel
theorem dX10_nextOf_6 : decode cX10_nextOf 6 = .ok (.invokevirtual 143, 3) := by decide +kernel
theorem dX10_nextOf_9 : decode cX10_nextOf 9 = .ok (.istore_n 3, 1) := by decide +kernel
theorem dX10_nextOf_10 : decode cX10_nextOf 10 = .ok (.aload_n 0, 1) := by decide +kernel
theorem dX10_nextOf_11 : decode cX10_nextOf 11 = .ok (.getfield 33, 3) := by decide +kernel
theorem dX10_nextOf_14 : decode cX10_nextOf 14 = .ok (.iload_n 1, 1) := by decide +kernel
theorem dX10_nextOf_15 : decode cX10_nextOf 15 = .ok (.iload_n 2, 1) := by decide +kernel
theorem dX10_nextOf_16 : decode cX10_nextOf 16 = .ok (.invokevirtual 147, 3) := by decide +kernel
theorem dX10_nextOf_19 : decode cX10_nextOf 19 = .ok (.istore 4, 2) := by decide +kernel
theorem dX10_nextOf_21 : decode cX10_nextOf 21 = .ok (.iload_n 3, 1) := by decide +kernel
theorem dX10_nextOf_22 : decode cX10_nextOf 22 = .ok (.iconst (-1), 1) := by decide +kernel
theorem dX10_nextOf_23 : decode cX10_nextOf 23 = .ok (.if_icmp .eq 8, 3) := by decide +kernel
theorem dX10_nextOf_26 : decode cX10_nextOf 26 = .ok (.iload 4, 2) := by decide +kernel
theorem dX10_nextOf_28 : decode cX10_nextOf 28 = .ok (.ifCond .ne 5, 3) := by decide +kernel
theorem dX10_nextOf_31 : decode cX10_nextOf 31 = .ok (.iconst (-1), 1) := by decide +kernel
theorem dX10_nextOf_32 : decode cX10_nextOf 32 = .ok (.ireturn, 1) := by decide +kernel
theorem dX10_nextOf_33 : decode cX10_nextOf 33 = .ok (.aload_n 0, 1) := by decide +kernel
theorem dX10_nextOf_34 : decode cX10_nextOf 34 = .ok (.getfield 33, 3) := by decide +kernel
theorem dX10_nextOf_37 : decode cX10_nextOf 37 = .ok (.invokevirtual 66, 3) := by decide +kernel
theorem dX10_nextOf_40 : decode cX10_nextOf 40 = .ok (.invokevirtual 153, 3) := by decide +kernel
theorem dX10_nextOf_43 : decode cX10_nextOf 43 = .ok (.astore 5, 2) := by decide +kernel
theorem dX10_nextOf_45 : decode cX10_nextOf 45 = .ok (.aload 5, 2) := by decide +kernel
theorem dX10_nextOf_47 : decode cX10_nextOf 47 = .ok (.iload_n 2, 1) := by decide +kernel
theorem dX10_nextOf_48 : decode cX10_nextOf 48 = .ok (.aload 5, 2) := by decide +kernel
theorem dX10_nextOf_50 : decode cX10_nextOf 50 = .ok (.iload_n 3, 1) := by decide +kernel
theorem dX10_nextOf_51 : decode cX10_nextOf 51 = .ok (.iload 4, 2) := by decide +kernel
theorem dX10_nextOf_53 : decode cX10_nextOf 53 = .ok (.invokevirtual 176, 3) := by decide +kernel
theorem dX10_nextOf_56 : decode cX10_nextOf 56 = .ok (.invokevirtual 179, 3) := by decide +kernel
theorem dX10_nextOf_59 : decode cX10_nextOf 59 = .ok (.ireturn, 1) := by decide +kernel
theorem dX10_requireFunction_0 : decode cX10_requireFunction 0 = .ok (.iload_n 1, 1) := by decide +kernel
theorem dX10_requireFunction_1 : decode cX10_requireFunction 1 = .ok (.ifCond .lt 8, 3) := by decide +kernel
theorem dX10_requireFunction_4 : decode cX10_requireFunction 4 = .ok (.iload_n 1, 1) := by decide +kernel
theorem dX10_requireFunction_5 : decode cX10_requireFunction 5 = .ok (.iconst 4, 1) := by decide +kernel
theorem dX10_requireFunction_6 : decode cX10_requireFunction 6 = .ok (.if_icmp .lt 13, 3) := by decide +kernel
theorem dX10_requireFunction_9 : decode cX10_requireFunction 9 = .ok (.new 182, 3) := by decide +kernel
theorem dX10_requireFunction_12 : decode cX10_requireFunction 12 = .ok (.dup, 1) := by decide +kernel
theorem dX10_requireFunction_13 : decode cX10_requireFunction 13 = .ok (.ldc 184, 2) := by decide +kernel
theorem dX10_requireFunction_15 : decode cX10_requireFunction 15 = .ok (.invokespecial 186, 3) := by decide +kernel
theorem dX10_requireFunction_18 : decode cX10_requireFunction 18 = .ok (.athrow, 1) := by decide +kernel
theorem dX10_requireFunction_19 : decode cX10_requireFunction 19 = .ok (.return_, 1) := by decide +kernel
set_option maxRecDepth 20000 in
theorem ggX10_requireNumber_X10_prime : GoodIn wsX10_requireNumber wsX10_prime := goodIn_r _ [7, 8, 9, 10, 11, 12, 13, 14, 15, 16, 17, 18, 19, 20, 21, 22, 23, 24, 25, 26, 27, 28, 29, 30, 31, 32, 33, 34, 35, 36, 37, 38, 39, 40, 41, 42, 43, 44] rfl (by decide +kernel)
set_option maxRecDepth 20000 in
theorem gX10_requireNumber_X10_prime : GoodIn wsX10_requireNumber (wsV RX10 101 RX10 yX10_prime wsX10_prime) := goodIn_app (goodIn_of _ (by decide +kernel)) ggX10_requireNumber_X10_prime
theorem dX10_requireNumber_0 : decode cX10_requireNumber 0 = .ok (.iload_n 1, 1) := by decide +kernel
theorem dX10_requireNumber_1 : decode cX10_requireNumber 1 = .ok (.ifCond .lt 11, 3) := by decide +kernel
theorem dX10_requireNumber_4 : decode cX10_requireNumber 4 = .ok (.iload_n 1, 1) := by decide +kernel
theorem dX10_requireNumber_5 : decode cX10_requireNumber 5 = .ok (.aload_n 0, 1) := by decide +kernel
theorem dX10_requireNumber_6 : decode cX10_requireNumber 6 = .ok (.invokevirtual 101, 3) := by decide +kernel
theorem dX10_requireNumber_9 : decode cX10_requireNumber 9 = .ok (.if_icmp .lt 13, 3) := by decide +kernel
theorem dX10_requireNumber_12 : decode cX10_requireNumber 12 = .ok (.new 96, 3) := by decide +kernel
theorem dX10_requireNumber_15 : decode cX10_requireNumber 15 = .ok (.dup, 1) := by decide +kernel
theorem dX10_requireNumber_16 : decode cX10_requireNumber 16 = .ok (.ldc 187, 2) := by decide +kernel
theorem dX10_requireNumber_18 : decode cX10_requireNumber 18 = .ok (.invokespecial 100, 3) := by decide +kernel
theorem dX10_requireNumber_21 : decode cX10_requireNumber 21 = .ok (.athrow, 1) := by decide +kernel
theorem dX10_requireNumber_22 : decode cX10_requireNumber 22 = .ok (.return_, 1) := by decide +kernel
theorem dX10_isPrime_0 : decode cX10_isPrime 0 = .ok (.iconst 2, 1) := by decide +kernel
theorem dX10_isPrime_1 : decode cX10_isPrime 1 = .ok (.istore_n 1, 1) := by decide +kernel
theorem dX10_isPrime_2 : decode cX10_isPrime 2 = .ok (.iload_n 1, 1) := by decide +kernel
theorem dX10_isPrime_3 : decode cX10_isPrime 3 = .ok (.sipush 199, 3) := by decide +kernel
theorem dX10_isPrime_6 : decode cX10_isPrime 6 = .ok (.if_icmp .gt 22, 3) := by decide +kernel
theorem dX10_isPrime_9 : decode cX10_isPrime 9 = .ok (.iload_n 1, 1) := by decide +kernel
theorem dX10_isPrime_10 : decode cX10_isPrime 10 = .ok (.iload_n 0, 1) := by decide +kernel
theorem dX10_isPrime_11 : decode cX10_isPrime 11 = .ok (.if_icmp .ge 17, 3) := by decide +kernel
theorem dX10_isPrime_14 : decode cX10_isPrime 14 = .ok (.iload_n 0, 1) := by decide +kernel
theorem dX10_isPrime_15 : decode cX10_isPrime 15 = .ok (.iload_n 1, 1) := by decide +kernel
theorem dX10_isPrime_16 : decode cX10_isPrime 16 = .ok (.irem, 1) := by decide +kernel
theorem dX10_isPrime_17 : decode cX10_isPrime 17 = .ok (.ifCond .ne 5, 3) := by decide +kernel
theorem dX10_isPrime_20 : decode cX10_isPrime 20 = .ok (.iconst 0, 1) := by decide +kernel
theorem dX10_isPrime_21 : decode cX10_isPrime 21 = .ok (.ireturn, 1) := by decide +kernel
theorem dX10_isPrime_22 : decode cX10_isPrime 22 = .ok (.iinc 1 1, 3) := by decide +kernel
theorem dX10_isPrime_25 : decode cX10_isPrime 25 = .ok (.goto (-23), 3) := by decide +kernel
theorem dX10_isPrime_28 : decode cX10_isPrime 28 = .ok (.iload_n 0, 1) := by decide +kernel
theorem dX10_isPrime_29 : decode cX10_isPrime 29 = .ok (.iconst 2, 1) := by decide +kernel
theorem dX10_isPrime_30 : decode cX10_isPrime 30 = .ok (.if_icmp .lt 7, 3) := by decide +kernel
theorem dX10_isPrime_33 : decode cX10_isPrime 33 = .ok (.iconst 1, 1) := by decide +kernel
theorem dX10_isPrime_34 : decode cX10_isPrime 34 = .ok (.goto 4, 3) := by decide +kernel
theorem dX10_isPrime_37 : decode cX10_isPrime 37 = .ok (.iconst 0, 1) := by decide +kernel
theorem dX10_isPrime_38 : decode cX10_isPrime 38 = .ok (.ireturn, 1) := by decide +kernel
theorem dX10_functionOf_0 : decode cX10_functionOf 0 = .ok (.iload_n 0, 1) := by decide +kernel
theorem dX10_functionOf_1 : decode cX10_functionOf 1 = .ok (.tableswitch 47 102 107 #[39, 41, 43, 47, 47, 45], 39) := by decide +kernel
theorem dX10_functionOf_40 : decode cX10_functionOf 40 = .ok (.iconst 0, 1) := by decide +kernel
theorem dX10_functionOf_41 : decode cX10_functionOf 41 = .ok (.ireturn, 1) := by decide +kernel
theorem dX10_functionOf_42 : decode cX10_functionOf 42 = .ok (.iconst 1, 1) := by decide +kernel
theorem dX10_functionOf_43 : decode cX10_functionOf 43 = .ok (.ireturn, 1) := by decide +kernel
theorem dX10_functionOf_44 : decode cX10_functionOf 44 = .ok (.iconst 2, 1) := by decide +kernel
theorem dX10_functionOf_45 : decode cX10_functionOf 45 = .ok (.ireturn, 1) := by decide +kernel
theorem dX10_functionOf_46 : decode cX10_functionOf 46 = .ok (.iconst 3, 1) := by decide +kernel
theorem dX10_functionOf_47 : decode cX10_functionOf 47 = .ok (.ireturn, 1) := by decide +kernel
theorem dX10_functionOf_48 : decode cX10_functionOf 48 = .ok (.iconst (-1), 1) := by decide +kernel
theorem dX10_functionOf_49 : decode cX10_functionOf 49 = .ok (.ireturn, 1) := by decide +kernel
theorem dX10_at_0 : decode cX10_at 0 = .ok (.iload_n 1, 1) := by decide +kernel
theorem dX10_at_1 : decode cX10_at 1 = .ok (.ifCond .lt 15, 3) := by decide +kernel
theorem dX10_at_4 : decode cX10_at 4 = .ok (.iload_n 1, 1) := by decide +kernel
theorem dX10_at_5 : decode cX10_at 5 = .ok (.aload_n 0, 1) := by decide +kernel
theorem dX10_at_6 : decode cX10_at 6 = .ok (.arraylength, 1) := by decide +kernel
theorem dX10_at_7 : decode cX10_at 7 = .ok (.if_icmp .ge 9, 3) := by decide +kernel
theorem dX10_at_10 : decode cX10_at 10 = .ok (.aload_n 0, 1) := by decide +kernel
theorem dX10_at_11 : decode cX10_at 11 = .ok (.iload_n 1, 1) := by decide +kernel
theorem dX10_at_12 : decode cX10_at 12 = .ok (.iaload, 1) := by decide +kernel
theorem dX10_at_13 : decode cX10_at 13 = .ok (.goto 4, 3) := by decide +kernel
theorem dX10_at_16 : decode cX10_at 16 = .ok (.iconst 0, 1) := by decide +kernel
theorem dX10_at_17 : decode cX10_at 17 = .ok (.ireturn, 1) := by decide +kernel
theorem dX10_put_0 : decode cX10_put 0 = .ok (.iload_n 1, 1) := by decide +kernel
theorem dX10_put_1 : decode cX10_put 1 = .ok (.ifCond .lt 13, 3) := by decide +kernel
theorem dX10_put_4 : decode cX10_put 4 = .ok (.iload_n 1, 1) := by decide +kernel
theorem dX10_put_5 : decode cX10_put 5 = .ok (.aload_n 0, 1) := by decide +kernel
theorem dX10_put_6 : decode cX10_put 6 = .ok (.arraylength, 1) := by decide +kernel
theorem dX10_put_7 : decode cX10_put 7 = .ok (.if_icmp .ge 7, 3) := by decide +kernel
theorem dX10_put_10 : decode cX10_put 10 = .ok (.aload_n 0, 1) := by decide +kernel
theorem dX10_put_11 : decode cX10_put 11 = .ok (.iload_n 1, 1) := by decide +kernel
theorem dX10_put_12 : decode cX10_put 12 = .ok (.iload_n 2, 1) := by decide +kernel
theorem dX10_put_13 : decode cX10_put 13 = .ok (.iastore, 1) := by decide +kernel
theorem dX10_put_14 : decode cX10_put 14 = .ok (.return_, 1) := by decide +kernel
