theorem dX7_init_0 : decode cX7_init 0 = .ok (.aload_n 0, 1) := by decide +kernel
theorem dX7_init_1 : decode cX7_init 1 = .ok (.invokespecial 3, 3) := by decide +kernel
theorem dX7_init_4 : decode cX7_init 4 = .ok (.aload_n 0, 1) := by decide +kernel
theorem dX7_init_5 : decode cX7_init 5 = .ok (.new 1, 3) := by decide +kernel
theorem dX7_init_8 : decode cX7_init 8 = .ok (.dup, 1) := by decide +kernel
theorem dX7_init_9 : decode cX7_init 9 = .ok (.invokespecial 9, 3) := by decide +kernel
theorem dX7_init_12 : decode cX7_init 12 = .ok (.putfield 10, 3) := by decide +kernel
theorem dX7_init_15 : decode cX7_init 15 = .ok (.aload_n 0, 1) := by decide +kernel
theorem dX7_init_16 : decode cX7_init 16 = .ok (.new 16, 3) := by decide +kernel
theorem dX7_init_19 : decode cX7_init 19 = .ok (.dup, 1) := by decide +kernel
theorem dX7_init_20 : decode cX7_init 20 = .ok (.invokespecial 18, 3) := by decide +kernel
theorem dX7_init_23 : decode cX7_init 23 = .ok (.putfield 19, 3) := by decide +kernel
theorem dX7_init_26 : decode cX7_init 26 = .ok (.aload_n 0, 1) := by decide +kernel
theorem dX7_init_27 : decode cX7_init 27 = .ok (.new 23, 3) := by decide +kernel
theorem dX7_init_30 : decode cX7_init 30 = .ok (.dup, 1) := by decide +kernel
theorem dX7_init_31 : decode cX7_init 31 = .ok (.invokespecial 25, 3) := by decide +kernel
theorem dX7_init_34 : decode cX7_init 34 = .ok (.putfield 26, 3) := by decide +kernel
theorem dX7_init_37 : decode cX7_init 37 = .ok (.aload_n 0, 1) := by decide +kernel
theorem dX7_init_38 : decode cX7_init 38 = .ok (.new 30, 3) := by decide +kernel
theorem dX7_init_41 : decode cX7_init 41 = .ok (.dup, 1) := by decide +kernel
theorem dX7_init_42 : decode cX7_init 42 = .ok (.invokespecial 32, 3) := by decide +kernel
theorem dX7_init_45 : decode cX7_init 45 = .ok (.putfield 33, 3) := by decide +kernel
theorem dX7_init_48 : decode cX7_init 48 = .ok (.aload_n 0, 1) := by decide +kernel
theorem dX7_init_49 : decode cX7_init 49 = .ok (.new 37, 3) := by decide +kernel
theorem dX7_init_52 : decode cX7_init 52 = .ok (.dup, 1) := by decide +kernel
theorem dX7_init_53 : decode cX7_init 53 = .ok (.invokespecial 39, 3) := by decide +kernel
theorem dX7_init_56 : decode cX7_init 56 = .ok (.putfield 40, 3) := by decide +kernel
theorem dX7_init_59 : decode cX7_init 59 = .ok (.aload_n 0, 1) := by decide +kernel
theorem dX7_init_60 : decode cX7_init 60 = .ok (.new 44, 3) := by decide +kernel
theorem dX7_init_63 : decode cX7_init 63 = .ok (.dup, 1) := by decide +kernel
theorem dX7_init_64 : decode cX7_init 64 = .ok (.invokespecial 46, 3) := by decide +kernel
theorem dX7_init_67 : decode cX7_init 67 = .ok (.putfield 47, 3) := by decide +kernel
theorem dX7_init_70 : decode cX7_init 70 = .ok (.aload_n 0, 1) := by decide +kernel
theorem dX7_init_71 : decode cX7_init 71 = .ok (.new 44, 3) := by decide +kernel
theorem dX7_init_74 : decode cX7_init 74 = .ok (.dup, 1) := by decide +kernel
theorem dX7_init_75 : decode cX7_init 75 = .ok (.invokespecial 46, 3) := by decide +kernel
theorem dX7_init_78 : decode cX7_init 78 = .ok (.putfield 51, 3) := by decide +kernel
theorem dX7_init_81 : decode cX7_init 81 = .ok (.aload_n 0, 1) := by decide +kernel
theorem dX7_init_82 : decode cX7_init 82 = .ok (.new 54, 3) := by decide +kernel
theorem dX7_init_85 : decode cX7_init 85 = .ok (.dup, 1) := by decide +kernel
theorem dX7_init_86 : decode cX7_init 86 = .ok (.invokespecial 56, 3) := by decide +kernel
theorem dX7_init_89 : decode cX7_init 89 = .ok (.putfield 57, 3) := by decide +kernel
theorem dX7_init_92 : decode cX7_init 92 = .ok (.aload_n 0, 1) := by decide +kernel
theorem dX7_init_93 : decode cX7_init 93 = .ok (.new 54, 3) := by decide +kernel
theorem dX7_init_96 : decode cX7_init 96 = .ok (.dup, 1) := by decide +kernel
theorem dX7_init_97 : decode cX7_init 97 = .ok (.invokespecial 56, 3) := by decide +kernel
theorem dX7_init_100 : decode cX7_init 100 = .ok (.putfield 61, 3) := by decide +kernel
theorem dX7_init_103 : decode cX7_init 103 = .ok (.aload_n 0, 1) := by decide +kernel
theorem dX7_init_104 : decode cX7_init 104 = .ok (.bipush 12, 2) := by decide +kernel
theorem dX7_init_106 : decode cX7_init 106 = .ok (.newarray .int, 2) := by decide +kernel
theorem dX7_init_108 : decode cX7_init 108 = .ok (.putfield 64, 3) := by decide +kernel
theorem dX7_init_111 : decode cX7_init 111 = .ok (.return_, 1) := by decide +kernel
set_option maxRecDepth 20000 in
theorem ggX7_pay_X7_isAction : GoodIn wsX7_pay wsX7_isAction := goodIn_r _ [5, 6, 7, 4, 8] (by decide +kernel) (by decide +kernel)
set_option maxRecDepth 20000 in
theorem gX7_pay_X7_isAction : GoodIn wsX7_pay (va_wsS RX7 68 yX7_isAction wsX7_isAction) := goodIn_app (goodIn_of _ (by decide +kernel)) ggX7_pay_X7_isAction
set_option maxRecDepth 20000 in
theorem ggX7_pay_X7_within : GoodIn wsX7_pay wsX7_within := goodIn_r _ [8] (by decide +kernel) (by decide +kernel)
set_option maxRecDepth 20000 in
theorem gX7_pay_X7_within : GoodIn wsX7_pay (va_wsS RX7 72 yX7_within wsX7_within) := goodIn_app (goodIn_of _ (by decide +kernel)) ggX7_pay_X7_within
set_option maxRecDepth 20000 in
theorem ggX7_pay_X0_setGain : GoodIn wsX7_pay wsX0_setGain := goodIn_r _ [13, 14, 25, 26, 27] (by decide +kernel) (by decide +kernel)
set_option maxRecDepth 20000 in
theorem gX7_pay_X0_setGain : GoodIn wsX7_pay (wsV RX7 76 RX0 yX0_setGain wsX0_setGain) := goodIn_app (goodIn_of _ (by decide +kernel)) ggX7_pay_X0_setGain
theorem dX7_pay_0 : decode cX7_pay 0 = .ok (.iload_n 1, 1) := by decide +kernel
theorem dX7_pay_1 : decode cX7_pay 1 = .ok (.invokestatic 68, 3) := by decide +kernel
theorem dX7_pay_4 : decode cX7_pay 4 = .ok (.ifCond .eq 21, 3) := by decide +kernel
theorem dX7_pay_7 : decode cX7_pay 7 = .ok (.iload_n 2, 1) := by decide +kernel
theorem dX7_pay_8 : decode cX7_pay 8 = .ok (.invokestatic 68, 3) := by decide +kernel
theorem dX7_pay_11 : decode cX7_pay 11 = .ok (.ifCond .eq 14, 3) := by decide +kernel
theorem dX7_pay_14 : decode cX7_pay 14 = .ok (.iload_n 3, 1) := by decide +kernel
theorem dX7_pay_15 : decode cX7_pay 15 = .ok (.bipush (-50), 2) := by decide +kernel
theorem dX7_pay_17 : decode cX7_pay 17 = .ok (.bipush 50, 2) := by decide +kernel
theorem dX7_pay_19 : decode cX7_pay 19 = .ok (.invokestatic 72, 3) := by decide +kernel
theorem dX7_pay_22 : decode cX7_pay 22 = .ok (.ifCond .ne 5, 3) := by decide +kernel
theorem dX7_pay_25 : decode cX7_pay 25 = .ok (.iconst (-1), 1) := by decide +kernel
theorem dX7_pay_26 : decode cX7_pay 26 = .ok (.ireturn, 1) := by decide +kernel
theorem dX7_pay_27 : decode cX7_pay 27 = .ok (.aload_n 0, 1) := by decide +kernel
theorem dX7_pay_28 : decode cX7_pay 28 = .ok (.getfield 10, 3) := by decide +kernel
theorem dX7_pay_31 : decode cX7_pay 31 = .ok (.iload_n 1, 1) := by decide +kernel
theorem dX7_pay_32 : decode cX7_pay 32 = .ok (.iload_n 2, 1) := by decide +kernel
theorem dX7_pay_33 : decode cX7_pay 33 = .ok (.iload_n 3, 1) := by decide +kernel
theorem dX7_pay_34 : decode cX7_pay 34 = .ok (.invokevirtual 76, 3) := by decide +kernel
theorem dX7_pay_37 : decode cX7_pay 37 = .ok (.iconst 1, 1) := by decide +kernel
theorem dX7_pay_38 : decode cX7_pay 38 = .ok (.ireturn, 1) := by decide +kernel
set_option maxRecDepth 20000 in
theorem ggX7_discount_X7_within : GoodIn wsX7_discount wsX7_within := goodIn_r _ [5] (by decide +kernel) (by decide +kernel)
set_option maxRecDepth 20000 in
theorem gX7_discount_X7_within : GoodIn wsX7_discount (va_wsS RX7 72 yX7_within wsX7_within) := goodIn_app (goodIn_of _ (by decide +kernel)) ggX7_discount_X7_within
set_option maxRecDepth 20000 in
theorem ggX7_discount_X0_setRate : GoodIn wsX7_discount wsX0_setRate := goodIn_r _ [10, 11, 12, 23, 24, 25] (by decide +kernel) (by decide +kernel)
set_option maxRecDepth 20000 in
theorem gX7_discount_X0_setRate : GoodIn wsX7_discount (wsV RX7 80 RX0 yX0_setRate wsX0_setRate) := goodIn_app (goodIn_of _ (by decide +kernel)) ggX7_discount_X0_setRate
theorem dX7_discount_0 : decode cX7_discount 0 = .ok (.iload_n 2, 1) := by decide +kernel
theorem dX7_discount_1 : decode cX7_discount 1 = .ok (.iconst 2, 1) := by decide +kernel
theorem dX7_discount_2 : decode cX7_discount 2 = .ok (.iconst 4, 1) := by decide +kernel
theorem dX7_discount_3 : decode cX7_discount 3 = .ok (.invokestatic 72, 3) := by decide +kernel
theorem dX7_discount_6 : decode cX7_discount 6 = .ok (.ifCond .eq 14, 3) := by decide +kernel
theorem dX7_discount_9 : decode cX7_discount 9 = .ok (.iload_n 1, 1) := by decide +kernel
theorem dX7_discount_10 : decode cX7_discount 10 = .ok (.iconst 1, 1) := by decide +kernel
theorem dX7_discount_11 : decode cX7_discount 11 = .ok (.iload_n 2, 1) := by decide +kernel
theorem dX7_discount_12 : decode cX7_discount 12 = .ok (.iconst 1, 1) := by decide +kernel
theorem dX7_discount_13 : decode cX7_discount 13 = .ok (.isub, 1) := by decide +kernel
theorem dX7_discount_14 : decode cX7_discount 14 = .ok (.invokestatic 72, 3) := by decide +kernel
theorem dX7_discount_17 : decode cX7_discount 17 = .ok (.ifCond .ne 5, 3) := by decide +kernel
theorem dX7_discount_20 : decode cX7_discount 20 = .ok (.iconst (-1), 1) := by decide +kernel
theorem dX7_discount_21 : decode cX7_discount 21 = .ok (.ireturn, 1) := by decide +kernel
theorem dX7_discount_22 : decode cX7_discount 22 = .ok (.aload_n 0, 1) := by decide +kernel
theorem dX7_discount_23 : decode cX7_discount 23 = .ok (.getfield 10, 3) := by decide +kernel
theorem dX7_discount_26 : decode cX7_discount 26 = .ok (.iload_n 1, 1) := by decide +kernel
theorem dX7_discount_27 : decode cX7_discount 27 = .ok (.iload_n 2, 1) := by decide +kernel
theorem dX7_discount_28 : decode cX7_discount 28 = .ok (.invokevirtual 80, 3) := by decide +kernel
theorem dX7_discount_31 : decode cX7_discount 31 = .ok (.iconst 1, 1) := by decide +kernel
theorem dX7_discount_32 : decode cX7_discount 32 = .ok (.ireturn, 1) := by decide +kernel
set_option maxRecDepth 20000 in
theorem ggX7_machine_X7_within : GoodIn wsX7_machine wsX7_within := goodIn_r _ [5] (by decide +kernel) (by decide +kernel)
set_option maxRecDepth 20000 in
theorem gX7_machine_X7_within : GoodIn wsX7_machine (va_wsS RX7 72 yX7_within wsX7_within) := goodIn_app (goodIn_of _ (by decide +kernel)) ggX7_machine_X7_within
set_option maxRecDepth 20000 in
theorem ggX7_machine_X2_isFull : GoodIn wsX7_machine wsX2_isFull := goodIn_r _ [10, 11, 37, 38, 39, 40] (by decide +kernel) (by decide +kernel)
set_option maxRecDepth 20000 in
theorem gX7_machine_X2_isFull : GoodIn wsX7_machine (wsV RX7 84 RX2 yX2_isFull wsX2_isFull) := goodIn_app (goodIn_of _ (by decide +kernel)) ggX7_machine_X2_isFull
set_option maxRecDepth 20000 in
theorem ggX7_machine_X2_add : GoodIn wsX7_machine wsX2_add := goodIn_r _ [15, 11, 16, 17, 18, 19, 9, 20, 21, 22, 23, 24, 25, 26, 37, 38, 39, 40] (by decide +kernel) (by decide +kernel)
set_option maxRecDepth 20000 in
theorem gX7_machine_X2_add : GoodIn wsX7_machine (wsV RX7 88 RX2 yX2_add wsX2_add) := goodIn_app (goodIn_of _ (by decide +kernel)) ggX7_machine_X2_add
theorem dX7_machine_0 : decode cX7_machine 0 = .ok (.iload_n 1, 1) := by decide +kernel
theorem dX7_machine_1 : decode cX7_machine 1 = .ok (.iconst 1, 1) := by decide +kernel
theorem dX7_machine_2 : decode cX7_machine 2 = .ok (.iconst 4, 1) := by decide +kernel
theorem dX7_machine_3 : decode cX7_machine 3 = .ok (.invokestatic 72, 3) := by decide +kernel
theorem dX7_machine_6 : decode cX7_machine 6 = .ok (.ifCond .ne 5, 3) := by decide +kernel
theorem dX7_machine_9 : decode cX7_machine 9 = .ok (.iconst (-1), 1) := by decide +kernel
theorem dX7_machine_10 : decode cX7_machine 10 = .ok (.ireturn, 1) := by decide +kernel
theorem dX7_machine_11 : decode cX7_machine 11 = .ok (.aload_n 0, 1) := by decide +kernel
theorem dX7_machine_12 : decode cX7_machine 12 = .ok (.getfield 19, 3) := by decide +kernel
theorem dX7_machine_15 : decode cX7_machine 15 = .ok (.invokevirtual 84, 3) := by decide +kernel
theorem dX7_machine_18 : decode cX7_machine 18 = .ok (.ifCond .eq 8, 3) := by decide +kernel
theorem dX7_machine_21 : decode cX7_machine 21 = .ok (.bipush (-3), 2) := by decide +kernel
theorem dX7_machine_23 : decode cX7_machine 23 = .ok (.goto 11, 3) := by decide +kernel
theorem dX7_machine_26 : decode cX7_machine 26 = .ok (.aload_n 0, 1) := by decide +kernel
theorem dX7_machine_27 : decode cX7_machine 27 = .ok (.getfield 19, 3) := by decide +kernel
theorem dX7_machine_30 : decode cX7_machine 30 = .ok (.iload_n 1, 1) := by decide +kernel
theorem dX7_machine_31 : decode cX7_machine 31 = .ok (.invokevirtual 88, 3) := by decide +kernel
theorem dX7_machine_34 : decode cX7_machine 34 = .ok (.ireturn, 1) := by decide +kernel
set_option maxRecDepth 20000 in
theorem ggX7_does_X2_hasState : GoodIn wsX7_does wsX2_hasState := goodIn_r _ [6, 7, 8, 9, 10, 5, 11, 12, 35, 36, 37, 38] (by decide +kernel) (by decide +kernel)
set_option maxRecDepth 20000 in
theorem gX7_does_X2_hasState : GoodIn wsX7_does (wsV RX7 92 RX2 yX2_hasState wsX2_hasState) := goodIn_app (goodIn_of _ (by decide +kernel)) ggX7_does_X2_hasState
set_option maxRecDepth 20000 in
theorem ggX7_does_X7_isAction : GoodIn wsX7_does wsX7_isAction := goodIn_r _ [16, 17, 18, 15, 19] (by decide +kernel) (by decide +kernel)
set_option maxRecDepth 20000 in
theorem gX7_does_X7_isAction : GoodIn wsX7_does (va_wsS RX7 68 yX7_isAction wsX7_isAction) := goodIn_app (goodIn_of _ (by decide +kernel)) ggX7_does_X7_isAction
set_option maxRecDepth 20000 in
theorem ggX7_does_X2_setAction : GoodIn wsX7_does wsX2_setAction := goodIn_r _ [23, 24, 35, 36, 37, 38] (by decide +kernel) (by decide +kernel)
set_option maxRecDepth 20000 in
theorem gX7_does_X2_setAction : GoodIn wsX7_does (wsV RX7 96 RX2 yX2_setAction wsX2_setAction) := goodIn_app (goodIn_of _ (by decide +kernel)) ggX7_does_X2_setAction
theorem dX7_does_0 : decode cX7_does 0 = .ok (.aload_n 0, 1) := by decide +kernel
theorem dX7_does_1 : decode cX7_does 1 = .ok (.getfield 19, 3) := by decide +kernel
theorem dX7_does_4 : decode cX7_does 4 = .ok (.iload_n 1, 1) := by decide +kernel
theorem dX7_does_5 : decode cX7_does 5 = .ok (.iload_n 2, 1) := by decide +kernel
theorem dX7_does_6 : decode cX7_does 6 = .ok (.invokevirtual 92, 3) := by decide +kernel
theorem dX7_does_9 : decode cX7_does 9 = .ok (.ifCond .eq 10, 3) := by decide +kernel
theorem dX7_does_12 : decode cX7_does 12 = .ok (.iload_n 3, 1) := by decide +kernel
theorem dX7_does_13 : decode cX7_does 13 = .ok (.invokestatic 68, 3) := by decide +kernel
theorem dX7_does_16 : decode cX7_does 16 = .ok (.ifCond .ne 5, 3) := by decide +kernel
theorem dX7_does_19 : decode cX7_does 19 = .ok (.iconst (-1), 1) := by decide +kernel
theorem dX7_does_20 : decode cX7_does 20 = .ok (.ireturn, 1) := by decide +kernel
theorem dX7_does_21 : decode cX7_does 21 = .ok (.aload_n 0, 1) := by decide +kernel
theorem dX7_does_22 : decode cX7_does 22 = .ok (.getfield 19, 3) := by decide +kernel
theorem dX7_does_25 : decode cX7_does 25 = .ok (.iload_n 1, 1) := by decide +kernel
theorem dX7_does_26 : decode cX7_does 26 = .ok (.iload_n 2, 1) := by decide +kernel
theorem dX7_does_27 : decode cX7_does 27 = .ok (.iload_n 3, 1) := by decide +kernel
theorem dX7_does_28 : decode cX7_does 28 = .ok (.invokevirtual 96, 3) := by decide +kernel
theorem dX7_does_31 : decode cX7_does 31 = .ok (.iconst 1, 1) := by decide +kernel
theorem dX7_does_32 : decode cX7_does 32 = .ok (.ireturn, 1) := by decide +kernel
set_option maxRecDepth 20000 in
theorem ggX7_goes_X2_hasState : GoodIn wsX7_goes wsX2_hasState := goodIn_r _ [6, 7, 8, 9, 10, 5, 11, 12, 35, 36, 37, 38] (by decide +kernel) (by decide +kernel)
set_option maxRecDepth 20000 in
theorem gX7_goes_X2_hasState : GoodIn wsX7_goes (wsV RX7 92 RX2 yX2_hasState wsX2_hasState) := goodIn_app (goodIn_of _ (by decide +kernel)) ggX7_goes_X2_hasState
set_option maxRecDepth 20000 in
theorem ggX7_goes_X7_isAction : GoodIn wsX7_goes wsX7_isAction := goodIn_r _ [16, 17, 18, 15, 19] (by decide +kernel) (by decide +kernel)
set_option maxRecDepth 20000 in
theorem gX7_goes_X7_isAction : GoodIn wsX7_goes (va_wsS RX7 68 yX7_isAction wsX7_isAction) := goodIn_app (goodIn_of _ (by decide +kernel)) ggX7_goes_X7_isAction
set_option maxRecDepth 20000 in
theorem ggX7_goes_X2_setNext : GoodIn wsX7_goes wsX2_setNext := goodIn_r _ [23, 24, 35, 36, 37, 38] (by decide +kernel) (by decide +kernel)
set_option maxRecDepth 20000 in
theorem gX7_goes_X2_setNext : GoodIn wsX7_goes (wsV RX7 99 RX2 yX2_setNext wsX2_setNext) := goodIn_app (goodIn_of _ (by decide +kernel)) ggX7_goes_X2_setNext
theorem dX7_goes_0 : decode cX7_goes 0 = .ok (.aload_n 0, 1) := by decide +kernel
theorem dX7_goes_1 : decode cX7_goes 1 = .ok (.getfield 19, 3) := by decide +kernel
theorem dX7_goes_4 : decode cX7_goes 4 = .ok (.iload_n 1, 1) := by decide +kernel
theorem dX7_goes_5 : decode cX7_goes 5 = .ok (.iload_n 2, 1) := by decide +kernel
theorem dX7_goes_6 : decode cX7_goes 6 = .ok (.invokevirtual 92, 3) := by decide +kernel
theorem dX7_goes_9 : decode cX7_goes 9 = .ok (.ifCond .eq 23, 3) := by decide +kernel
theorem dX7_goes_12 : decode cX7_goes 12 = .ok (.iload_n 3, 1) := by decide +kernel
theorem dX7_goes_13 : decode cX7_goes 13 = .ok (.invokestatic 68, 3) := by decide +kernel
theorem dX7_goes_16 : decode cX7_goes 16 = .ok (.ifCond .eq 16, 3) := by decide +kernel
theorem dX7_goes_19 : decode cX7_goes 19 = .ok (.aload_n 0, 1) := by decide +kernel
theorem dX7_goes_20 : decode cX7_goes 20 = .ok (.getfield 19, 3) := by decide +kernel
theorem dX7_goes_23 : decode cX7_goes 23 = .ok (.iload_n 1, 1) := by decide +kernel
theorem dX7_goes_24 : decode cX7_goes 24 = .ok (.iload 4, 2) := by decide +kernel
theorem dX7_goes_26 : decode cX7_goes 26 = .ok (.invokevirtual 92, 3) := by decide +kernel
theorem dX7_goes_29 : decode cX7_goes 29 = .ok (.ifCond .ne 5, 3) := by decide +kernel
theorem dX7_goes_32 : decode cX7_goes 32 = .ok (.iconst (-1), 1) := by decide +kernel
theorem dX7_goes_33 : decode cX7_goes 33 = .ok (.ireturn, 1) := by decide +kernel
theorem dX7_goes_34 : decode cX7_goes 34 = .ok (.aload_n 0, 1) := by decide +kernel
theorem dX7_goes_35 : decode cX7_goes 35 = .ok (.getfield 19, 3) := by decide +kernel
theorem dX7_goes_38 : decode cX7_goes 38 = .ok (.iload_n 1, 1) := by decide +kernel
theorem dX7_goes_39 : decode cX7_goes 39 = .ok (.iload_n 2, 1) := by decide +kernel
theorem dX7_goes_40 : decode cX7_goes 40 = .ok (.iload_n 3, 1) := by decide +kernel
theorem dX7_goes_41 : decode cX7_goes 41 = .ok (.iload 4, 2) := by decide +kernel
theorem dX7_goes_43 : decode cX7_goes 43 = .ok (.invokevirtual 99, 3) := by decide +kernel
theorem dX7_goes_46 : decode cX7_goes 46 = .ok (.iconst 1, 1) := by decide +kernel
theorem dX7_goes_47 : decode cX7_goes 47 = .ok (.ireturn, 1) := by decide +kernel
set_option maxRecDepth 20000 in
theorem ggX7_told_X2_hasState : GoodIn wsX7_told wsX2_hasState := goodIn_r _ [6, 7, 8, 9, 10, 5, 11, 12, 37, 38, 39, 40] (by decide +kernel) (by decide +kernel)
set_option maxRecDepth 20000 in
theorem gX7_told_X2_hasState : GoodIn wsX7_told (wsV RX7 92 RX2 yX2_hasState wsX2_hasState) := goodIn_app (goodIn_of _ (by decide +kernel)) ggX7_told_X2_hasState
set_option maxRecDepth 20000 in
theorem ggX7_told_X7_within : GoodIn wsX7_told wsX7_within := goodIn_r _ [16] (by decide +kernel) (by decide +kernel)
set_option maxRecDepth 20000 in
theorem gX7_told_X7_within : GoodIn wsX7_told (va_wsS RX7 72 yX7_within wsX7_within) := goodIn_app (goodIn_of _ (by decide +kernel)) ggX7_told_X7_within
set_option maxRecDepth 20000 in
theorem ggX7_told_X2_actionOf : GoodIn wsX7_told wsX2_actionOf := goodIn_r _ [20, 21, 37, 38, 39, 40] (by decide +kernel) (by decide +kernel)
set_option maxRecDepth 20000 in
theorem gX7_told_X2_actionOf : GoodIn wsX7_told (wsV RX7 103 RX2 yX2_actionOf wsX2_actionOf) := goodIn_app (goodIn_of _ (by decide +kernel)) ggX7_told_X2_actionOf
set_option maxRecDepth 20000 in
theorem ggX7_told_X2_nextOf : GoodIn wsX7_told wsX2_nextOf := goodIn_r _ [25, 26, 37, 38, 39, 40] (by decide +kernel) (by decide +kernel)
set_option maxRecDepth 20000 in
theorem gX7_told_X2_nextOf : GoodIn wsX7_told (wsV RX7 107 RX2 yX2_nextOf wsX2_nextOf) := goodIn_app (goodIn_of _ (by decide +kernel)) ggX7_told_X2_nextOf
theorem dX7_told_0 : decode cX7_told 0 = .ok (.aload_n 0, 1) := by decide +kernel
theorem dX7_told_1 : decode cX7_told 1 = .ok (.getfield 19, 3) := by decide +kernel
theorem dX7_told_4 : decode cX7_told 4 = .ok (.iload_n 1, 1) := by decide +kernel
theorem dX7_told_5 : decode cX7_told 5 = .ok (.iload_n 2, 1) := by decide +kernel
theorem dX7_told_6 : decode cX7_told 6 = .ok (.invokevirtual 92, 3) := by decide +kernel
theorem dX7_told_9 : decode cX7_told 9 = .ok (.ifCond .eq 12, 3) := by decide +kernel
theorem dX7_told_12 : decode cX7_told 12 = .ok (.iload_n 3, 1) := by decide +kernel
theorem dX7_told_13 : decode cX7_told 13 = .ok (.iconst 0, 1) := by decide +kernel
theorem dX7_told_14 : decode cX7_told 14 = .ok (.iconst 3, 1) := by decide +kernel
theorem dX7_told_15 : decode cX7_told 15 = .ok (.invokestatic 72, 3) := by decide +kernel
theorem dX7_told_18 : decode cX7_told 18 = .ok (.ifCond .ne 5, 3) := by decide +kernel
theorem dX7_told_21 : decode cX7_told 21 = .ok (.iconst (-1), 1) := by decide +kernel
theorem dX7_told_22 : decode cX7_told 22 = .ok (.ireturn, 1) := by decide +kernel
theorem dX7_told_23 : decode cX7_told 23 = .ok (.iload_n 3, 1) := by decide +kernel
theorem dX7_told_24 : decode cX7_told 24 = .ok (.ifCond .ne 15, 3) := by decide +kernel
theorem dX7_told_27 : decode cX7_told 27 = .ok (.aload_n 0, 1) := by decide +kernel
theorem dX7_told_28 : decode cX7_told 28 = .ok (.getfield 19, 3) := by decide +kernel
theorem dX7_told_31 : decode cX7_told 31 = .ok (.iload_n 1, 1) := by decide +kernel
theorem dX7_told_32 : decode cX7_told 32 = .ok (.iload_n 2, 1) := by decide +kernel
theorem dX7_told_33 : decode cX7_told 33 = .ok (.invokevirtual 103, 3) := by decide +kernel
theorem dX7_told_36 : decode cX7_told 36 = .ok (.goto 15, 3) := by decide +kernel
theorem dX7_told_39 : decode cX7_told 39 = .ok (.aload_n 0, 1) := by decide +kernel
theorem dX7_told_40 : decode cX7_told 40 = .ok (.getfield 19, 3) := by decide +kernel
theorem dX7_told_43 : decode cX7_told 43 = .ok (.iload_n 1, 1) := by decide +kernel
theorem dX7_told_44 : decode cX7_told 44 = .ok (.iload_n 2, 1) := by decide +kernel
theorem dX7_told_45 : decode cX7_told 45 = .ok (.iload_n 3, 1) := by decide +kernel
theorem dX7_told_46 : decode cX7_told 46 = .ok (.iconst 1, 1) := by decide +kernel
theorem dX7_told_47 : decode cX7_told 47 = .ok (.isub, 1) := by decide +kernel
theorem dX7_told_48 : decode cX7_told 48 = .ok (.invokevirtual 107, 3) := by decide +kernel
theorem dX7_told_51 : decode cX7_told 51 = .ok (.ireturn, 1) := by decide +kernel
set_option maxRecDepth 20000 in
theorem ggX7_drop_X2_many : GoodIn wsX7_drop wsX2_many := goodIn_r _ [6, 7, 22, 23, 24, 25] (by decide +kernel) (by decide +kernel)
set_option maxRecDepth 20000 in
theorem gX7_drop_X2_many : GoodIn wsX7_drop (wsV RX7 111 RX2 yX2_many wsX2_many) := goodIn_app (goodIn_of _ (by decide +kernel)) ggX7_drop_X2_many
set_option maxRecDepth 20000 in
theorem ggX7_drop_X2_removeLatest : GoodIn wsX7_drop wsX2_removeLatest := goodIn_r _ [11, 7, 22, 23, 24, 25] (by decide +kernel) (by decide +kernel)
set_option maxRecDepth 20000 in
theorem gX7_drop_X2_removeLatest : GoodIn wsX7_drop (wsV RX7 115 RX2 yX2_removeLatest wsX2_removeLatest) := goodIn_app (goodIn_of _ (by decide +kernel)) ggX7_drop_X2_removeLatest
theorem dX7_drop_0 : decode cX7_drop 0 = .ok (.aload_n 0, 1) := by decide +kernel
theorem dX7_drop_1 : decode cX7_drop 1 = .ok (.getfield 19, 3) := by decide +kernel
theorem dX7_drop_4 : decode cX7_drop 4 = .ok (.invokevirtual 111, 3) := by decide +kernel
theorem dX7_drop_7 : decode cX7_drop 7 = .ok (.ifCond .ne 8, 3) := by decide +kernel
theorem dX7_drop_10 : decode cX7_drop 10 = .ok (.bipush (-4), 2) := by decide +kernel
theorem dX7_drop_12 : decode cX7_drop 12 = .ok (.goto 10, 3) := by decide +kernel
theorem dX7_drop_15 : decode cX7_drop 15 = .ok (.aload_n 0, 1) := by decide +kernel
theorem dX7_drop_16 : decode cX7_drop 16 = .ok (.getfield 19, 3) := by decide +kernel
theorem dX7_drop_19 : decode cX7_drop 19 = .ok (.invokevirtual 115, 3) := by decide +kernel
theorem dX7_drop_22 : decode cX7_drop 22 = .ok (.ireturn, 1) := by decide +kernel
set_option maxRecDepth 20000 in
theorem ggX7_sheet_X5_isSheet : GoodIn wsX7_sheet wsX5_isSheet := goodIn_r _ [5] (by decide +kernel) (by decide +kernel)
set_option maxRecDepth 20000 in
theorem gX7_sheet_X5_isSheet : GoodIn wsX7_sheet (va_wsS RX7 118 yX5_isSheet wsX5_isSheet) := goodIn_app (goodIn_of _ (by decide +kernel)) ggX7_sheet_X5_isSheet
set_option maxRecDepth 20000 in
theorem ggX7_sheet_X5_isLane : GoodIn wsX7_sheet wsX5_isLane := goodIn_r _ [8] (by decide +kernel) (by decide +kernel)
set_option maxRecDepth 20000 in
theorem gX7_sheet_X5_isLane : GoodIn wsX7_sheet (va_wsS RX7 121 yX5_isLane wsX5_isLane) := goodIn_app (goodIn_of _ (by decide +kernel)) ggX7_sheet_X5_isLane
set_option maxRecDepth 20000 in
theorem ggX7_sheet_X5_layOut : GoodIn wsX7_sheet wsX5_layOut := goodIn_r _ [12, 13, 14, 15, 16, 17, 18, 19, 20, 21, 22, 33, 34, 35] (by decide +kernel) (by decide +kernel)
set_option maxRecDepth 20000 in
theorem gX7_sheet_X5_layOut : GoodIn wsX7_sheet (wsV RX7 124 RX5 yX5_layOut wsX5_layOut) := goodIn_app (goodIn_of _ (by decide +kernel)) ggX7_sheet_X5_layOut
theorem dX7_sheet_0 : decode cX7_sheet 0 = .ok (.iload_n 1, 1) := by decide +kernel
theorem dX7_sheet_1 : decode cX7_sheet 1 = .ok (.invokestatic 118, 3) := by decide +kernel
theorem dX7_sheet_4 : decode cX7_sheet 4 = .ok (.ifCond .eq 16, 3) := by decide +kernel
theorem dX7_sheet_7 : decode cX7_sheet 7 = .ok (.iload_n 2, 1) := by decide +kernel
theorem dX7_sheet_8 : decode cX7_sheet 8 = .ok (.invokestatic 121, 3) := by decide +kernel
theorem dX7_sheet_11 : decode cX7_sheet 11 = .ok (.ifCond .eq 9, 3) := by decide +kernel
theorem dX7_sheet_14 : decode cX7_sheet 14 = .ok (.iload_n 3, 1) := by decide +kernel
theorem dX7_sheet_15 : decode cX7_sheet 15 = .ok (.bipush 60, 2) := by decide +kernel
theorem dX7_sheet_17 : decode cX7_sheet 17 = .ok (.if_icmp .le 5, 3) := by decide +kernel
theorem dX7_sheet_20 : decode cX7_sheet 20 = .ok (.iconst (-1), 1) := by decide +kernel
theorem dX7_sheet_21 : decode cX7_sheet 21 = .ok (.ireturn, 1) := by decide +kernel
theorem dX7_sheet_22 : decode cX7_sheet 22 = .ok (.iload_n 3, 1) := by decide +kernel
theorem dX7_sheet_23 : decode cX7_sheet 23 = .ok (.ifCond .ge 6, 3) := by decide +kernel
theorem dX7_sheet_26 : decode cX7_sheet 26 = .ok (.bipush (-14), 2) := by decide +kernel
theorem dX7_sheet_28 : decode cX7_sheet 28 = .ok (.ireturn, 1) := by decide +kernel
theorem dX7_sheet_29 : decode cX7_sheet 29 = .ok (.aload_n 0, 1) := by decide +kernel
theorem dX7_sheet_30 : decode cX7_sheet 30 = .ok (.getfield 26, 3) := by decide +kernel
theorem dX7_sheet_33 : decode cX7_sheet 33 = .ok (.iload_n 1, 1) := by decide +kernel
theorem dX7_sheet_34 : decode cX7_sheet 34 = .ok (.iload_n 2, 1) := by decide +kernel
theorem dX7_sheet_35 : decode cX7_sheet 35 = .ok (.iload_n 3, 1) := by decide +kernel
theorem dX7_sheet_36 : decode cX7_sheet 36 = .ok (.invokevirtual 124, 3) := by decide +kernel
theorem dX7_sheet_39 : decode cX7_sheet 39 = .ok (.iconst 1, 1) := by decide +kernel
theorem dX7_sheet_40 : decode cX7_sheet 40 = .ok (.ireturn, 1) := by decide +kernel
set_option maxRecDepth 20000 in
theorem ggX7_lay_X5_isSheet : GoodIn wsX7_lay wsX5_isSheet := goodIn_r _ [5] (by decide +kernel) (by decide +kernel)
set_option maxRecDepth 20000 in
theorem gX7_lay_X5_isSheet : GoodIn wsX7_lay (va_wsS RX7 118 yX5_isSheet wsX5_isSheet) := goodIn_app (goodIn_of _ (by decide +kernel)) ggX7_lay_X5_isSheet
set_option maxRecDepth 20000 in
theorem ggX7_lay_X5_isThere : GoodIn wsX7_lay wsX5_isThere := goodIn_r _ [9, 10, 34, 35, 36] (by decide +kernel) (by decide +kernel)
set_option maxRecDepth 20000 in
theorem gX7_lay_X5_isThere : GoodIn wsX7_lay (wsV RX7 127 RX5 yX5_isThere wsX5_isThere) := goodIn_app (goodIn_of _ (by decide +kernel)) ggX7_lay_X5_isThere
set_option maxRecDepth 20000 in
theorem ggX7_lay_X5_hasCell : GoodIn wsX7_lay wsX5_hasCell := goodIn_r _ [14, 15, 34, 35, 36] (by decide +kernel) (by decide +kernel)
set_option maxRecDepth 20000 in
theorem gX7_lay_X5_hasCell : GoodIn wsX7_lay (wsV RX7 130 RX5 yX5_hasCell wsX5_hasCell) := goodIn_app (goodIn_of _ (by decide +kernel)) ggX7_lay_X5_hasCell
set_option maxRecDepth 20000 in
theorem ggX7_lay_X5_setCell : GoodIn wsX7_lay wsX5_setCell := goodIn_r _ [19, 20, 10, 21, 22, 4, 23, 34, 35, 36] (by decide +kernel) (by decide +kernel)
set_option maxRecDepth 20000 in
theorem gX7_lay_X5_setCell : GoodIn wsX7_lay (wsV RX7 133 RX5 yX5_setCell wsX5_setCell) := goodIn_app (goodIn_of _ (by decide +kernel)) ggX7_lay_X5_setCell
theorem dX7_lay_0 : decode cX7_lay 0 = .ok (.iload_n 1, 1) := by decide +kernel
theorem dX7_lay_1 : decode cX7_lay 1 = .ok (.invokestatic 118, 3) := by decide +kernel
theorem dX7_lay_4 : decode cX7_lay 4 = .ok (.ifCond .ne 5, 3) := by decide +kernel
theorem dX7_lay_7 : decode cX7_lay 7 = .ok (.iconst (-1), 1) := by decide +kernel
theorem dX7_lay_8 : decode cX7_lay 8 = .ok (.ireturn, 1) := by decide +kernel
theorem dX7_lay_9 : decode cX7_lay 9 = .ok (.aload_n 0, 1) := by decide +kernel
theorem dX7_lay_10 : decode cX7_lay 10 = .ok (.getfield 26, 3) := by decide +kernel
theorem dX7_lay_13 : decode cX7_lay 13 = .ok (.iload_n 1, 1) := by decide +kernel
theorem dX7_lay_14 : decode cX7_lay 14 = .ok (.invokevirtual 127, 3) := by decide +kernel
theorem dX7_lay_17 : decode cX7_lay 17 = .ok (.ifCond .ne 6, 3) := by decide +kernel
theorem dX7_lay_20 : decode cX7_lay 20 = .ok (.bipush (-11), 2) := by decide +kernel
theorem dX7_lay_22 : decode cX7_lay 22 = .ok (.ireturn, 1) := by decide +kernel
theorem dX7_lay_23 : decode cX7_lay 23 = .ok (.aload_n 0, 1) := by decide +kernel
theorem dX7_lay_24 : decode cX7_lay 24 = .ok (.getfield 26, 3) := by decide +kernel
theorem dX7_lay_27 : decode cX7_lay 27 = .ok (.iload_n 1, 1) := by decide +kernel
theorem dX7_lay_28 : decode cX7_lay 28 = .ok (.iload_n 2, 1) := by decide +kernel
theorem dX7_lay_29 : decode cX7_lay 29 = .ok (.invokevirtual 130, 3) := by decide +kernel
theorem dX7_lay_32 : decode cX7_lay 32 = .ok (.ifCond .ne 6, 3) := by decide +kernel
theorem dX7_lay_35 : decode cX7_lay 35 = .ok (.bipush (-12), 2) := by decide +kernel
theorem dX7_lay_37 : decode cX7_lay 37 = .ok (.ireturn, 1) := by decide +kernel
theorem dX7_lay_38 : decode cX7_lay 38 = .ok (.aload_n 0, 1) := by decide +kernel
theorem dX7_lay_39 : decode cX7_lay 39 = .ok (.getfield 26, 3) := by decide +kernel
theorem dX7_lay_42 : decode cX7_lay 42 = .ok (.iload_n 1, 1) := by decide +kernel
theorem dX7_lay_43 : decode cX7_lay 43 = .ok (.iload_n 2, 1) := by decide +kernel
theorem dX7_lay_44 : decode cX7_lay 44 = .ok (.iload_n 3, 1) := by decide +kernel
theorem dX7_lay_45 : decode cX7_lay 45 = .ok (.invokevirtual 133, 3) := by decide +kernel
theorem dX7_lay_48 : decode cX7_lay 48 = .ok (.iconst 1, 1) := by decide +kernel
theorem dX7_lay_49 : decode cX7_lay 49 = .ok (.ireturn, 1) := by decide +kernel
set_option maxRecDepth 20000 in
theorem ggX7_draw_X5_isSheet : GoodIn wsX7_draw wsX5_isSheet := goodIn_r _ [6] (by decide +kernel) (by decide +kernel)
set_option maxRecDepth 20000 in
theorem gX7_draw_X5_isSheet : GoodIn wsX7_draw (va_wsS RX7 118 yX5_isSheet wsX5_isSheet) := goodIn_app (goodIn_of _ (by decide +kernel)) ggX7_draw_X5_isSheet
set_option maxRecDepth 20000 in
theorem ggX7_draw_X5_isLane : GoodIn wsX7_draw wsX5_isLane := goodIn_r _ [9] (by decide +kernel) (by decide +kernel)
set_option maxRecDepth 20000 in
theorem gX7_draw_X5_isLane : GoodIn wsX7_draw (va_wsS RX7 121 yX5_isLane wsX5_isLane) := goodIn_app (goodIn_of _ (by decide +kernel)) ggX7_draw_X5_isLane
set_option maxRecDepth 20000 in
theorem ggX7_draw_X7_within : GoodIn wsX7_draw wsX7_within := goodIn_r _ [13] (by decide +kernel) (by decide +kernel)
set_option maxRecDepth 20000 in
theorem gX7_draw_X7_within : GoodIn wsX7_draw (va_wsS RX7 72 yX7_within wsX7_within) := goodIn_app (goodIn_of _ (by decide +kernel)) ggX7_draw_X7_within
set_option maxRecDepth 20000 in
theorem ggX7_draw_X5_isThere : GoodIn wsX7_draw wsX5_isThere := goodIn_r _ [17, 18, 74, 75, 76] (by decide +kernel) (by decide +kernel)
set_option maxRecDepth 20000 in
theorem gX7_draw_X5_isThere : GoodIn wsX7_draw (wsV RX7 127 RX5 yX5_isThere wsX5_isThere) := goodIn_app (goodIn_of _ (by decide +kernel)) ggX7_draw_X5_isThere
set_option maxRecDepth 20000 in
theorem ggX7_draw_X5_laneOf : GoodIn wsX7_draw wsX5_laneOf := goodIn_r _ [22, 18, 74, 75, 76] (by decide +kernel) (by decide +kernel)
set_option maxRecDepth 20000 in
theorem gX7_draw_X5_laneOf : GoodIn wsX7_draw (wsV RX7 136 RX5 yX5_laneOf wsX5_laneOf) := goodIn_app (goodIn_of _ (by decide +kernel)) ggX7_draw_X5_laneOf
set_option maxRecDepth 20000 in
theorem ggX7_draw_X7_cellFault : GoodIn wsX7_draw wsX7_cellFault := goodIn_r _ [26, 1, 27, 28, 29, 5, 30, 31, 32, 33, 34, 35, 36, 10, 11, 12, 13, 64, 65, 66, 67, 68, 69, 70, 71, 72, 73, 74, 75, 76] (by decide +kernel) (by decide +kernel)
set_option maxRecDepth 20000 in
theorem gX7_draw_X7_cellFault : GoodIn wsX7_draw (wsV RX7 139 RX7 yX7_cellFault wsX7_cellFault) := goodIn_app (goodIn_of _ (by decide +kernel)) ggX7_draw_X7_cellFault
set_option maxRecDepth 20000 in
theorem ggX7_draw_X2_isFull : GoodIn wsX7_draw wsX2_isFull := goodIn_r _ [41, 42, 77, 78, 79, 80] (by decide +kernel) (by decide +kernel)
set_option maxRecDepth 20000 in
theorem gX7_draw_X2_isFull : GoodIn wsX7_draw (wsV RX7 84 RX2 yX2_isFull wsX2_isFull) := goodIn_app (goodIn_of _ (by decide +kernel)) ggX7_draw_X2_isFull
set_option maxRecDepth 20000 in
theorem ggX7_draw_X7_readMachine : GoodIn wsX7_draw wsX7_readMachine := goodIn_r _ [46, 2, 1, 47, 48, 49, 40, 50, 42, 51, 52, 53, 54, 55, 56, 57, 58, 59, 60, 61, 32, 33, 34, 5, 35, 36, 62, 63, 64, 65, 66, 67, 68, 69, 70, 71, 72, 73, 77, 78, 79, 80, 74, 75, 76] (by decide +kernel) (by decide +kernel)
set_option maxRecDepth 20000 in
theorem gX7_draw_X7_readMachine : GoodIn wsX7_draw (wsV RX7 142 RX7 yX7_readMachine wsX7_readMachine) := goodIn_app (goodIn_of _ (by decide +kernel)) ggX7_draw_X7_readMachine
theorem dX7_draw_0 : decode cX7_draw 0 = .ok (.iload_n 1, 1) := by decide +kernel
theorem dX7_draw_1 : decode cX7_draw 1 = .ok (.invokestatic 118, 3) := by decide +kernel
theorem dX7_draw_4 : decode cX7_draw 4 = .ok (.ifCond .eq 20, 3) := by decide +kernel
theorem dX7_draw_7 : decode cX7_draw 7 = .ok (.iload_n 2, 1) := by decide +kernel
theorem dX7_draw_8 : decode cX7_draw 8 = .ok (.invokestatic 121, 3) := by decide +kernel
theorem dX7_draw_11 : decode cX7_draw 11 = .ok (.ifCond .eq 13, 3) := by decide +kernel
theorem dX7_draw_14 : decode cX7_draw 14 = .ok (.iload 4, 2) := by decide +kernel
theorem dX7_draw_16 : decode cX7_draw 16 = .ok (.iconst 1, 1) := by decide +kernel
theorem dX7_draw_17 : decode cX7_draw 17 = .ok (.iconst 4, 1) := by decide +kernel
theorem dX7_draw_18 : decode cX7_draw 18 = .ok (.invokestatic 72, 3) := by decide +kernel
theorem dX7_draw_21 : decode cX7_draw 21 = .ok (.ifCond .ne 5, 3) := by decide +kernel
theorem dX7_draw_24 : decode cX7_draw 24 = .ok (.iconst (-1), 1) := by decide +kernel
theorem dX7_draw_25 : decode cX7_draw 25 = .ok (.ireturn, 1) := by decide +kernel
theorem dX7_draw_26 : decode cX7_draw 26 = .ok (.aload_n 0, 1) := by decide +kernel
theorem dX7_draw_27 : decode cX7_draw 27 = .ok (.getfield 26, 3) := by decide +kernel
theorem dX7_draw_30 : decode cX7_draw 30 = .ok (.iload_n 1, 1) := by decide +kernel
theorem dX7_draw_31 : decode cX7_draw 31 = .ok (.invokevirtual 127, 3) := by decide +kernel
theorem dX7_draw_34 : decode cX7_draw 34 = .ok (.ifCond .ne 6, 3) := by decide +kernel
theorem dX7_draw_37 : decode cX7_draw 37 = .ok (.bipush (-11), 2) := by decide +kernel
theorem dX7_draw_39 : decode cX7_draw 39 = .ok (.ireturn, 1) := by decide +kernel
theorem dX7_draw_40 : decode cX7_draw 40 = .ok (.aload_n 0, 1) := by decide +kernel
theorem dX7_draw_41 : decode cX7_draw 41 = .ok (.getfield 26, 3) := by decide +kernel
theorem dX7_draw_44 : decode cX7_draw 44 = .ok (.iload_n 1, 1) := by decide +kernel
theorem dX7_draw_45 : decode cX7_draw 45 = .ok (.invokevirtual 136, 3) := by decide +kernel
theorem dX7_draw_48 : decode cX7_draw 48 = .ok (.iload_n 2, 1) := by decide +kernel
theorem dX7_draw_49 : decode cX7_draw 49 = .ok (.if_icmp .eq 6, 3) := by decide +kernel
theorem dX7_draw_52 : decode cX7_draw 52 = .ok (.bipush (-13), 2) := by decide +kernel
theorem dX7_draw_54 : decode cX7_draw 54 = .ok (.ireturn, 1) := by decide +kernel
theorem dX7_draw_55 : decode cX7_draw 55 = .ok (.aload_n 0, 1) := by decide +kernel
theorem dX7_draw_56 : decode cX7_draw 56 = .ok (.iload_n 1, 1) := by decide +kernel
theorem dX7_draw_57 : decode cX7_draw 57 = .ok (.iload_n 3, 1) := by decide +kernel
theorem dX7_draw_58 : decode cX7_draw 58 = .ok (.iload 4, 2) := by decide +kernel
theorem dX7_draw_60 : decode cX7_draw 60 = .ok (.invokevirtual 139, 3) := by decide +kernel
theorem dX7_draw_63 : decode cX7_draw 63 = .ok (.istore 5, 2) := by decide +kernel
theorem dX7_draw_65 : decode cX7_draw 65 = .ok (.iload 5, 2) := by decide +kernel
theorem dX7_draw_67 : decode cX7_draw 67 = .ok (.ifCond .eq 6, 3) := by decide +kernel
theorem dX7_draw_70 : decode cX7_draw 70 = .ok (.iload 5, 2) := by decide +kernel
theorem dX7_draw_72 : decode cX7_draw 72 = .ok (.ireturn, 1) := by decide +kernel
theorem dX7_draw_73 : decode cX7_draw 73 = .ok (.aload_n 0, 1) := by decide +kernel
theorem dX7_draw_74 : decode cX7_draw 74 = .ok (.getfield 19, 3) := by decide +kernel
theorem dX7_draw_77 : decode cX7_draw 77 = .ok (.invokevirtual 84, 3) := by decide +kernel
theorem dX7_draw_80 : decode cX7_draw 80 = .ok (.ifCond .eq 8, 3) := by decide +kernel
theorem dX7_draw_83 : decode cX7_draw 83 = .ok (.bipush (-3), 2) := by decide +kernel
theorem dX7_draw_85 : decode cX7_draw 85 = .ok (.goto 11, 3) := by decide +kernel
theorem dX7_draw_88 : decode cX7_draw 88 = .ok (.aload_n 0, 1) := by decide +kernel
theorem dX7_draw_89 : decode cX7_draw 89 = .ok (.iload_n 1, 1) := by decide +kernel
theorem dX7_draw_90 : decode cX7_draw 90 = .ok (.iload_n 3, 1) := by decide +kernel
theorem dX7_draw_91 : decode cX7_draw 91 = .ok (.iload 4, 2) := by decide +kernel
theorem dX7_draw_93 : decode cX7_draw 93 = .ok (.invokevirtual 142, 3) := by decide +kernel
theorem dX7_draw_96 : decode cX7_draw 96 = .ok (.ireturn, 1) := by decide +kernel
set_option maxRecDepth 20000 in
theorem ggX7_action_X7_areMachines : GoodIn wsX7_action wsX7_areMachines := goodIn_r _ [7, 1, 8, 9, 10, 11, 12, 13, 73, 74, 75, 76, 77, 78, 79, 80, 81, 82, 83, 84, 85, 86] (by decide +kernel) (by decide +kernel)
set_option maxRecDepth 20000 in
theorem gX7_action_X7_areMachines : GoodIn wsX7_action (wsV RX7 145 RX7 yX7_areMachines wsX7_areMachines) := goodIn_app (goodIn_of _ (by decide +kernel)) ggX7_action_X7_areMachines
set_option maxRecDepth 20000 in
theorem ggX7_action_X7_within : GoodIn wsX7_action wsX7_within := goodIn_r _ [16] (by decide +kernel) (by decide +kernel)
set_option maxRecDepth 20000 in
theorem gX7_action_X7_within : GoodIn wsX7_action (va_wsS RX7 72 yX7_within wsX7_within) := goodIn_app (goodIn_of _ (by decide +kernel)) ggX7_action_X7_within
set_option maxRecDepth 20000 in
theorem ggX7_action_X7_playOut : GoodIn wsX7_action wsX7_playOut := goodIn_r _ [20, 2, 21, 1, 22, 23, 24, 25, 26, 27, 28, 29, 30, 31, 11, 32, 33, 34, 35, 36, 37, 38, 39, 40, 41, 42, 43, 44, 45, 46, 47, 48, 49, 50, 51, 52, 53, 54, 55, 56, 57, 58, 59, 60, 61, 62, 63, 64, 73, 74, 75, 76, 77, 78, 79, 80, 81, 82, 87, 88, 89, 90, 91, 92, 83, 84, 85, 86, 93, 94, 95] (by decide +kernel) (by decide +kernel)
set_option maxRecDepth 20000 in
theorem gX7_action_X7_playOut : GoodIn wsX7_action (wsV RX7 148 RX7 yX7_playOut wsX7_playOut) := goodIn_app (goodIn_of _ (by decide +kernel)) ggX7_action_X7_playOut
set_option maxRecDepth 20000 in
theorem ggX7_action_X6_placeIn : GoodIn wsX7_action wsX6_placeIn := goodIn_r _ [68, 58, 59, 60, 87, 88, 89, 90, 91, 92] (by decide +kernel) (by decide +kernel)
set_option maxRecDepth 20000 in
theorem gX7_action_X6_placeIn : GoodIn wsX7_action (wsV RX7 151 RX6 yX6_placeIn wsX6_placeIn) := goodIn_app (goodIn_of _ (by decide +kernel)) ggX7_action_X6_placeIn
set_option maxRecDepth 20000 in
theorem ggX7_action_X6_mine : GoodIn wsX7_action wsX6_mine := goodIn_r _ [71] (by decide +kernel) (by decide +kernel)
set_option maxRecDepth 20000 in
theorem gX7_action_X6_mine : GoodIn wsX7_action (va_wsS RX7 154 yX6_mine wsX6_mine) := goodIn_app (goodIn_of _ (by decide +kernel)) ggX7_action_X6_mine
set_option maxRecDepth 20000 in
theorem ggX7_action_X2_actionOf : GoodIn wsX7_action wsX2_actionOf := goodIn_r _ [37, 38, 83, 84, 85, 86] (by decide +kernel) (by decide +kernel)
set_option maxRecDepth 20000 in
theorem gX7_action_X2_actionOf : GoodIn wsX7_action (wsV RX7 103 RX2 yX2_actionOf wsX2_actionOf) := goodIn_app (goodIn_of _ (by decide +kernel)) ggX7_action_X2_actionOf
theorem dX7_action_0 : decode cX7_action 0 = .ok (.aload_n 0, 1) := by decide +kernel
theorem dX7_action_1 : decode cX7_action 1 = .ok (.iload_n 1, 1) := by decide +kernel
theorem dX7_action_2 : decode cX7_action 2 = .ok (.iload_n 2, 1) := by decide +kernel
theorem dX7_action_3 : decode cX7_action 3 = .ok (.invokevirtual 145, 3) := by decide +kernel
theorem dX7_action_6 : decode cX7_action 6 = .ok (.ifCond .eq 14, 3) := by decide +kernel
theorem dX7_action_9 : decode cX7_action 9 = .ok (.iload_n 3, 1) := by decide +kernel
theorem dX7_action_10 : decode cX7_action 10 = .ok (.iconst 0, 1) := by decide +kernel
theorem dX7_action_11 : decode cX7_action 11 = .ok (.sipush 1000, 3) := by decide +kernel
theorem dX7_action_14 : decode cX7_action 14 = .ok (.invokestatic 72, 3) := by decide +kernel
theorem dX7_action_17 : decode cX7_action 17 = .ok (.ifCond .ne 5, 3) := by decide +kernel
theorem dX7_action_20 : decode cX7_action 20 = .ok (.iconst (-1), 1) := by decide +kernel
theorem dX7_action_21 : decode cX7_action 21 = .ok (.ireturn, 1) := by decide +kernel
theorem dX7_action_22 : decode cX7_action 22 = .ok (.aload_n 0, 1) := by decide +kernel
theorem dX7_action_23 : decode cX7_action 23 = .ok (.iload_n 1, 1) := by decide +kernel
theorem dX7_action_24 : decode cX7_action 24 = .ok (.iload_n 2, 1) := by decide +kernel
theorem dX7_action_25 : decode cX7_action 25 = .ok (.invokevirtual 148, 3) := by decide +kernel
theorem dX7_action_28 : decode cX7_action 28 = .ok (.aload_n 0, 1) := by decide +kernel
theorem dX7_action_29 : decode cX7_action 29 = .ok (.getfield 19, 3) := by decide +kernel
theorem dX7_action_32 : decode cX7_action 32 = .ok (.iload_n 1, 1) := by decide +kernel
theorem dX7_action_33 : decode cX7_action 33 = .ok (.aload_n 0, 1) := by decide +kernel
theorem dX7_action_34 : decode cX7_action 34 = .ok (.getfield 47, 3) := by decide +kernel
theorem dX7_action_37 : decode cX7_action 37 = .ok (.iload_n 3, 1) := by decide +kernel
theorem dX7_action_38 : decode cX7_action 38 = .ok (.invokevirtual 151, 3) := by decide +kernel
theorem dX7_action_41 : decode cX7_action 41 = .ok (.invokestatic 154, 3) := by decide +kernel
theorem dX7_action_44 : decode cX7_action 44 = .ok (.invokevirtual 103, 3) := by decide +kernel
theorem dX7_action_47 : decode cX7_action 47 = .ok (.ireturn, 1) := by decide +kernel
set_option maxRecDepth 20000 in
theorem ggX7_match_X7_areMachines : GoodIn wsX7_match wsX7_areMachines := goodIn_r _ [7, 8, 9, 10, 11, 12, 13, 14, 86, 87, 88, 89, 90, 91, 92, 93, 94, 95, 96, 97, 98, 99] (by decide +kernel) (by decide +kernel)
set_option maxRecDepth 20000 in
theorem gX7_match_X7_areMachines : GoodIn wsX7_match (wsV RX7 145 RX7 yX7_areMachines wsX7_areMachines) := goodIn_app (goodIn_of _ (by decide +kernel)) ggX7_match_X7_areMachines
set_option maxRecDepth 20000 in
theorem ggX7_match_X7_within : GoodIn wsX7_match wsX7_within := goodIn_r _ [17] (by decide +kernel) (by decide +kernel)
set_option maxRecDepth 20000 in
theorem gX7_match_X7_within : GoodIn wsX7_match (va_wsS RX7 72 yX7_within wsX7_within) := goodIn_app (goodIn_of _ (by decide +kernel)) ggX7_match_X7_within
set_option maxRecDepth 20000 in
theorem ggX7_match_X7_playOut : GoodIn wsX7_match wsX7_playOut := goodIn_r _ [21, 2, 22, 8, 23, 24, 25, 26, 27, 28, 29, 30, 31, 32, 12, 33, 34, 35, 36, 37, 38, 39, 40, 41, 42, 43, 44, 45, 46, 47, 48, 49, 50, 51, 52, 53, 54, 55, 56, 57, 58, 59, 60, 61, 62, 63, 64, 65, 86, 87, 88, 89, 90, 91, 92, 93, 94, 95, 100, 101, 102, 103, 104, 105, 96, 97, 98, 99, 106, 107, 108] (by decide +kernel) (by decide +kernel)
set_option maxRecDepth 20000 in
theorem gX7_match_X7_playOut : GoodIn wsX7_match (wsV RX7 148 RX7 yX7_playOut wsX7_playOut) := goodIn_app (goodIn_of _ (by decide +kernel)) ggX7_match_X7_playOut
set_option maxRecDepth 20000 in
theorem ggX7_match_X6_tail : GoodIn wsX7_match wsX6_tail := goodIn_r _ [69, 60, 100, 101, 102, 103, 104, 105] (by decide +kernel) (by decide +kernel)
set_option maxRecDepth 20000 in
theorem gX7_match_X6_tail : GoodIn wsX7_match (wsV RX7 158 RX6 yX6_tail wsX6_tail) := goodIn_app (goodIn_of _ (by decide +kernel)) ggX7_match_X6_tail
set_option maxRecDepth 20000 in
theorem ggX7_match_X6_ring : GoodIn wsX7_match wsX6_ring := goodIn_r _ [73, 61, 100, 101, 102, 103, 104, 105] (by decide +kernel) (by decide +kernel)
set_option maxRecDepth 20000 in
theorem gX7_match_X6_ring : GoodIn wsX7_match (wsV RX7 161 RX6 yX6_ring wsX6_ring) := goodIn_app (goodIn_of _ (by decide +kernel)) ggX7_match_X6_ring
set_option maxRecDepth 20000 in
theorem ggX7_match_X6_tailGains : GoodIn wsX7_match wsX6_tailGains := goodIn_r _ [77, 60, 78, 79, 80, 26, 81, 29, 59, 100, 101, 102, 103, 104, 105] (by decide +kernel) (by decide +kernel)
set_option maxRecDepth 20000 in
theorem gX7_match_X6_tailGains : GoodIn wsX7_match (wsV RX7 164 RX6 yX6_tailGains wsX6_tailGains) := goodIn_app (goodIn_of _ (by decide +kernel)) ggX7_match_X6_tailGains
set_option maxRecDepth 20000 in
theorem ggX7_match_X6_ringGains : GoodIn wsX7_match wsX6_ringGains := goodIn_r _ [85, 60, 61, 78, 79, 80, 26, 81, 29, 59, 100, 101, 102, 103, 104, 105] (by decide +kernel) (by decide +kernel)
set_option maxRecDepth 20000 in
theorem gX7_match_X6_ringGains : GoodIn wsX7_match (wsV RX7 167 RX6 yX6_ringGains wsX6_ringGains) := goodIn_app (goodIn_of _ (by decide +kernel)) ggX7_match_X6_ringGains
theorem dX7_match_0 : decode cX7_match 0 = .ok (.aload_n 0, 1) := by decide +kernel
theorem dX7_match_1 : decode cX7_match 1 = .ok (.iload_n 1, 1) := by decide +kernel
theorem dX7_match_2 : decode cX7_match 2 = .ok (.iload_n 2, 1) := by decide +kernel
theorem dX7_match_3 : decode cX7_match 3 = .ok (.invokevirtual 145, 3) := by decide +kernel
theorem dX7_match_6 : decode cX7_match 6 = .ok (.ifCond .eq 12, 3) := by decide +kernel
theorem dX7_match_9 : decode cX7_match 9 = .ok (.iload_n 3, 1) := by decide +kernel
theorem dX7_match_10 : decode cX7_match 10 = .ok (.iconst 0, 1) := by decide +kernel
theorem dX7_match_11 : decode cX7_match 11 = .ok (.iconst 3, 1) := by decide +kernel
theorem dX7_match_12 : decode cX7_match 12 = .ok (.invokestatic 72, 3) := by decide +kernel
theorem dX7_match_15 : decode cX7_match 15 = .ok (.ifCond .ne 6, 3) := by decide +kernel
theorem dX7_match_18 : decode cX7_match 18 = .ok (.ldc 157, 2) := by decide +kernel
theorem dX7_match_20 : decode cX7_match 20 = .ok (.ireturn, 1) := by decide +kernel
theorem dX7_match_21 : decode cX7_match 21 = .ok (.aload_n 0, 1) := by decide +kernel
theorem dX7_match_22 : decode cX7_match 22 = .ok (.iload_n 1, 1) := by decide +kernel
theorem dX7_match_23 : decode cX7_match 23 = .ok (.iload_n 2, 1) := by decide +kernel
theorem dX7_match_24 : decode cX7_match 24 = .ok (.invokevirtual 148, 3) := by decide +kernel
theorem dX7_match_27 : decode cX7_match 27 = .ok (.iload_n 3, 1) := by decide +kernel
theorem dX7_match_28 : decode cX7_match 28 = .ok (.tableswitch 52 0 2 #[28, 36, 44], 28) := by decide +kernel
theorem dX7_match_56 : decode cX7_match 56 = .ok (.aload_n 0, 1) := by decide +kernel
theorem dX7_match_57 : decode cX7_match 57 = .ok (.getfield 47, 3) := by decide +kernel
theorem dX7_match_60 : decode cX7_match 60 = .ok (.invokevirtual 158, 3) := by decide +kernel
theorem dX7_match_63 : decode cX7_match 63 = .ok (.ireturn, 1) := by decide +kernel
theorem dX7_match_64 : decode cX7_match 64 = .ok (.aload_n 0, 1) := by decide +kernel
theorem dX7_match_65 : decode cX7_match 65 = .ok (.getfield 47, 3) := by decide +kernel
theorem dX7_match_68 : decode cX7_match 68 = .ok (.invokevirtual 161, 3) := by decide +kernel
theorem dX7_match_71 : decode cX7_match 71 = .ok (.ireturn, 1) := by decide +kernel
theorem dX7_match_72 : decode cX7_match 72 = .ok (.aload_n 0, 1) := by decide +kernel
theorem dX7_match_73 : decode cX7_match 73 = .ok (.getfield 47, 3) := by decide +kernel
theorem dX7_match_76 : decode cX7_match 76 = .ok (.invokevirtual 164, 3) := by decide +kernel
theorem dX7_match_79 : decode cX7_match 79 = .ok (.ireturn, 1) := by decide +kernel
theorem dX7_match_80 : decode cX7_match 80 = .ok (.aload_n 0, 1) := by decide +kernel
theorem dX7_match_81 : decode cX7_match 81 = .ok (.getfield 47, 3) := by decide +kernel
theorem dX7_match_84 : decode cX7_match 84 = .ok (.invokevirtual 167, 3) := by decide +kernel
theorem dX7_match_87 : decode cX7_match 87 = .ok (.ireturn, 1) := by decide +kernel
set_option maxRecDepth 20000 in
theorem ggX7_sum_X7_areMachines : GoodIn wsX7_sum wsX7_areMachines := goodIn_r _ [6, 7, 8, 9, 10, 11, 12, 13, 86, 87, 88, 89, 90, 91, 92, 93, 94, 95, 96, 97, 98, 99] (by decide +kernel) (by decide +kernel)
set_option maxRecDepth 20000 in
theorem gX7_sum_X7_areMachines : GoodIn wsX7_sum (wsV RX7 145 RX7 yX7_areMachines wsX7_areMachines) := goodIn_app (goodIn_of _ (by decide +kernel)) ggX7_sum_X7_areMachines
set_option maxRecDepth 20000 in
theorem ggX7_sum_X7_within : GoodIn wsX7_sum wsX7_within := goodIn_r _ [16] (by decide +kernel) (by decide +kernel)
set_option maxRecDepth 20000 in
theorem gX7_sum_X7_within : GoodIn wsX7_sum (va_wsS RX7 72 yX7_within wsX7_within) := goodIn_app (goodIn_of _ (by decide +kernel)) ggX7_sum_X7_within
set_option maxRecDepth 20000 in
theorem ggX7_sum_X7_gainsOf : GoodIn wsX7_sum wsX7_gainsOf := goodIn_r _ [20, 21, 22, 23, 24, 5, 25, 26, 7, 27, 28, 29, 30, 31, 32, 33, 34, 35, 36, 11, 37, 38, 39, 40, 41, 42, 43, 44, 45, 46, 47, 48, 49, 50, 51, 52, 53, 54, 55, 56, 57, 58, 59, 60, 61, 62, 63, 64, 65, 66, 67, 68, 69, 70, 71, 72, 73, 74, 75, 76, 77, 78, 79, 80, 81, 82, 83, 84, 85, 86, 87, 88, 89, 90, 91, 92, 93, 94, 95, 100, 101, 102, 103, 104, 105, 96, 97, 98, 99, 106, 107, 108] (by decide +kernel) (by decide +kernel)
set_option maxRecDepth 20000 in
theorem gX7_sum_X7_gainsOf : GoodIn wsX7_sum (wsV RX7 170 RX7 yX7_gainsOf wsX7_gainsOf) := goodIn_app (goodIn_of _ (by decide +kernel)) ggX7_sum_X7_gainsOf
theorem dX7_sum_0 : decode cX7_sum 0 = .ok (.aload_n 0, 1) := by decide +kernel
theorem dX7_sum_1 : decode cX7_sum 1 = .ok (.iload_n 1, 1) := by decide +kernel
theorem dX7_sum_2 : decode cX7_sum 2 = .ok (.iload_n 2, 1) := by decide +kernel
theorem dX7_sum_3 : decode cX7_sum 3 = .ok (.invokevirtual 145, 3) := by decide +kernel
theorem dX7_sum_6 : decode cX7_sum 6 = .ok (.ifCond .eq 14, 3) := by decide +kernel
theorem dX7_sum_9 : decode cX7_sum 9 = .ok (.iload_n 3, 1) := by decide +kernel
theorem dX7_sum_10 : decode cX7_sum 10 = .ok (.iconst 0, 1) := by decide +kernel
theorem dX7_sum_11 : decode cX7_sum 11 = .ok (.sipush 1000, 3) := by decide +kernel
theorem dX7_sum_14 : decode cX7_sum 14 = .ok (.invokestatic 72, 3) := by decide +kernel
theorem dX7_sum_17 : decode cX7_sum 17 = .ok (.ifCond .ne 6, 3) := by decide +kernel
theorem dX7_sum_20 : decode cX7_sum 20 = .ok (.ldc 157, 2) := by decide +kernel
theorem dX7_sum_22 : decode cX7_sum 22 = .ok (.ireturn, 1) := by decide +kernel
theorem dX7_sum_23 : decode cX7_sum 23 = .ok (.aload_n 0, 1) := by decide +kernel
theorem dX7_sum_24 : decode cX7_sum 24 = .ok (.iload_n 1, 1) := by decide +kernel
theorem dX7_sum_25 : decode cX7_sum 25 = .ok (.iload_n 2, 1) := by decide +kernel
theorem dX7_sum_26 : decode cX7_sum 26 = .ok (.iload_n 3, 1) := by decide +kernel
theorem dX7_sum_27 : decode cX7_sum 27 = .ok (.invokevirtual 170, 3) := by decide +kernel
theorem dX7_sum_30 : decode cX7_sum 30 = .ok (.ireturn, 1) := by decide +kernel
set_option maxRecDepth 20000 in
theorem ggX7_mean_X7_areMachines : GoodIn wsX7_mean wsX7_areMachines := goodIn_r _ [8, 9, 10, 11, 12, 13, 14, 15, 97, 98, 99, 100, 101, 102, 103, 104, 105, 106, 107, 108, 109, 110] (by decide +kernel) (by decide +kernel)
set_option maxRecDepth 20000 in
theorem gX7_mean_X7_areMachines : GoodIn wsX7_mean (wsV RX7 145 RX7 yX7_areMachines wsX7_areMachines) := goodIn_app (goodIn_of _ (by decide +kernel)) ggX7_mean_X7_areMachines
set_option maxRecDepth 20000 in
theorem ggX7_mean_X7_within : GoodIn wsX7_mean wsX7_within := goodIn_r _ [18] (by decide +kernel) (by decide +kernel)
set_option maxRecDepth 20000 in
theorem gX7_mean_X7_within : GoodIn wsX7_mean (va_wsS RX7 72 yX7_within wsX7_within) := goodIn_app (goodIn_of _ (by decide +kernel)) ggX7_mean_X7_within
set_option maxRecDepth 20000 in
theorem ggX7_mean_X7_playOut : GoodIn wsX7_mean wsX7_playOut := goodIn_r _ [22, 3, 23, 9, 24, 25, 26, 27, 28, 29, 30, 31, 32, 33, 13, 34, 35, 36, 37, 38, 39, 40, 41, 42, 43, 44, 45, 46, 47, 48, 49, 50, 51, 52, 53, 54, 55, 56, 57, 58, 59, 60, 61, 62, 63, 64, 65, 66, 97, 98, 99, 100, 101, 102, 103, 104, 105, 106, 111, 112, 113, 114, 115, 116, 107, 108, 109, 110, 117, 118, 119] (by decide +kernel) (by decide +kernel)
set_option maxRecDepth 20000 in
theorem gX7_mean_X7_playOut : GoodIn wsX7_mean (wsV RX7 148 RX7 yX7_playOut wsX7_playOut) := goodIn_app (goodIn_of _ (by decide +kernel)) ggX7_mean_X7_playOut
set_option maxRecDepth 20000 in
theorem ggX7_mean_X6_ringGains : GoodIn wsX7_mean wsX6_ringGains := goodIn_r _ [70, 61, 62, 71, 72, 73, 27, 74, 30, 60, 111, 112, 113, 114, 115, 116] (by decide +kernel) (by decide +kernel)
set_option maxRecDepth 20000 in
theorem gX7_mean_X6_ringGains : GoodIn wsX7_mean (wsV RX7 167 RX6 yX6_ringGains wsX6_ringGains) := goodIn_app (goodIn_of _ (by decide +kernel)) ggX7_mean_X6_ringGains
set_option maxRecDepth 20000 in
theorem ggX7_mean_X6_ring : GoodIn wsX7_mean wsX6_ring := goodIn_r _ [78, 62, 111, 112, 113, 114, 115, 116] (by decide +kernel) (by decide +kernel)
set_option maxRecDepth 20000 in
theorem gX7_mean_X6_ring : GoodIn wsX7_mean (wsV RX7 161 RX6 yX6_ring wsX6_ring) := goodIn_app (goodIn_of _ (by decide +kernel)) ggX7_mean_X6_ring
set_option maxRecDepth 20000 in
theorem ggX7_mean_X4_become : GoodIn wsX7_mean wsX4_become := goodIn_r _ [83, 84, 85, 86, 87, 88, 89, 90, 91, 82, 92, 120, 121] (by decide +kernel) (by decide +kernel)
set_option maxRecDepth 20000 in
theorem gX7_mean_X4_become : GoodIn wsX7_mean (wsV RX7 175 RX4 yX4_become wsX4_become) := goodIn_app (goodIn_of _ (by decide +kernel)) ggX7_mean_X4_become
set_option maxRecDepth 20000 in
theorem ggX7_mean_X4_part : GoodIn wsX7_mean wsX4_part := goodIn_r _ [96, 88, 89, 120, 121] (by decide +kernel) (by decide +kernel)
set_option maxRecDepth 20000 in
theorem gX7_mean_X4_part : GoodIn wsX7_mean (wsV RX7 179 RX4 yX4_part wsX4_part) := goodIn_app (goodIn_of _ (by decide +kernel)) ggX7_mean_X4_part
theorem dX7_mean_0 : decode cX7_mean 0 = .ok (.aload_n 0, 1) := by decide +kernel
theorem dX7_mean_1 : decode cX7_mean 1 = .ok (.iload_n 1, 1) := by decide +kernel
theorem dX7_mean_2 : decode cX7_mean 2 = .ok (.iload_n 2, 1) := by decide +kernel
theorem dX7_mean_3 : decode cX7_mean 3 = .ok (.invokevirtual 145, 3) := by decide +kernel
theorem dX7_mean_6 : decode cX7_mean 6 = .ok (.ifCond .eq 12, 3) := by decide +kernel
theorem dX7_mean_9 : decode cX7_mean 9 = .ok (.iload_n 3, 1) := by decide +kernel
theorem dX7_mean_10 : decode cX7_mean 10 = .ok (.iconst 0, 1) := by decide +kernel
theorem dX7_mean_11 : decode cX7_mean 11 = .ok (.iconst 1, 1) := by decide +kernel
theorem dX7_mean_12 : decode cX7_mean 12 = .ok (.invokestatic 72, 3) := by decide +kernel
theorem dX7_mean_15 : decode cX7_mean 15 = .ok (.ifCond .ne 7, 3) := by decide +kernel
theorem dX7_mean_18 : decode cX7_mean 18 = .ok (.ldc2_w 173, 3) := by decide +kernel
theorem dX7_mean_21 : decode cX7_mean 21 = .ok (.lreturn, 1) := by decide +kernel
theorem dX7_mean_22 : decode cX7_mean 22 = .ok (.aload_n 0, 1) := by decide +kernel
theorem dX7_mean_23 : decode cX7_mean 23 = .ok (.iload_n 1, 1) := by decide +kernel
theorem dX7_mean_24 : decode cX7_mean 24 = .ok (.iload_n 2, 1) := by decide +kernel
theorem dX7_mean_25 : decode cX7_mean 25 = .ok (.invokevirtual 148, 3) := by decide +kernel
theorem dX7_mean_28 : decode cX7_mean 28 = .ok (.aload_n 0, 1) := by decide +kernel
theorem dX7_mean_29 : decode cX7_mean 29 = .ok (.getfield 57, 3) := by decide +kernel
theorem dX7_mean_32 : decode cX7_mean 32 = .ok (.aload_n 0, 1) := by decide +kernel
theorem dX7_mean_33 : decode cX7_mean 33 = .ok (.getfield 47, 3) := by decide +kernel
theorem dX7_mean_36 : decode cX7_mean 36 = .ok (.invokevirtual 167, 3) := by decide +kernel
theorem dX7_mean_39 : decode cX7_mean 39 = .ok (.i2l, 1) := by decide +kernel
theorem dX7_mean_40 : decode cX7_mean 40 = .ok (.aload_n 0, 1) := by decide +kernel
theorem dX7_mean_41 : decode cX7_mean 41 = .ok (.getfield 47, 3) := by decide +kernel
theorem dX7_mean_44 : decode cX7_mean 44 = .ok (.invokevirtual 161, 3) := by decide +kernel
theorem dX7_mean_47 : decode cX7_mean 47 = .ok (.i2l, 1) := by decide +kernel
theorem dX7_mean_48 : decode cX7_mean 48 = .ok (.invokevirtual 175, 3) := by decide +kernel
theorem dX7_mean_51 : decode cX7_mean 51 = .ok (.aload_n 0, 1) := by decide +kernel
theorem dX7_mean_52 : decode cX7_mean 52 = .ok (.getfield 57, 3) := by decide +kernel
theorem dX7_mean_55 : decode cX7_mean 55 = .ok (.iload_n 3, 1) := by decide +kernel
theorem dX7_mean_56 : decode cX7_mean 56 = .ok (.invokevirtual 179, 3) := by decide +kernel
theorem dX7_mean_59 : decode cX7_mean 59 = .ok (.lreturn, 1) := by decide +kernel
set_option maxRecDepth 20000 in
theorem ggX7_worth_X7_areMachines : GoodIn wsX7_worth wsX7_areMachines := goodIn_r _ [7, 8, 9, 10, 11, 12, 13, 14, 110, 111, 112, 113, 114, 115, 116, 117, 118, 119, 120, 121, 122, 123] (by decide +kernel) (by decide +kernel)
set_option maxRecDepth 20000 in
theorem gX7_worth_X7_areMachines : GoodIn wsX7_worth (wsV RX7 145 RX7 yX7_areMachines wsX7_areMachines) := goodIn_app (goodIn_of _ (by decide +kernel)) ggX7_worth_X7_areMachines
set_option maxRecDepth 20000 in
theorem ggX7_worth_X7_within : GoodIn wsX7_worth wsX7_within := goodIn_r _ [17] (by decide +kernel) (by decide +kernel)
set_option maxRecDepth 20000 in
theorem gX7_worth_X7_within : GoodIn wsX7_worth (va_wsS RX7 72 yX7_within wsX7_within) := goodIn_app (goodIn_of _ (by decide +kernel)) ggX7_worth_X7_within
set_option maxRecDepth 20000 in
theorem ggX7_worth_X7_matchWorth : GoodIn wsX7_worth wsX7_matchWorth := goodIn_r _ [21, 22, 23, 24, 25, 26, 6, 27, 8, 28, 29, 30, 31, 32, 33, 34, 35, 36, 37, 12, 38, 39, 40, 41, 42, 43, 44, 45, 46, 47, 48, 49, 50, 51, 52, 53, 54, 55, 56, 57, 58, 59, 60, 61, 62, 63, 64, 65, 66, 67, 68, 69, 70, 71, 72, 73, 74, 75, 76, 77, 78, 79, 80, 81, 82, 83, 84, 85, 86, 87, 88, 89, 90, 91, 92, 93, 94, 95, 96, 97, 98, 99, 100, 101, 102, 103, 104, 105, 110, 111, 112, 113, 114, 115, 116, 117, 118, 119, 124, 125, 126, 127, 128, 129, 120, 121, 122, 123, 130, 131, 132, 133, 134] (by decide +kernel) (by decide +kernel)
set_option maxRecDepth 20000 in
theorem gX7_worth_X7_matchWorth : GoodIn wsX7_worth (wsV RX7 183 RX7 yX7_matchWorth wsX7_matchWorth) := goodIn_app (goodIn_of _ (by decide +kernel)) ggX7_worth_X7_matchWorth
set_option maxRecDepth 20000 in
theorem ggX7_worth_X4_part : GoodIn wsX7_worth wsX4_part := goodIn_r _ [109, 101, 102, 133, 134] (by decide +kernel) (by decide +kernel)
set_option maxRecDepth 20000 in
theorem gX7_worth_X4_part : GoodIn wsX7_worth (wsV RX7 179 RX4 yX4_part wsX4_part) := goodIn_app (goodIn_of _ (by decide +kernel)) ggX7_worth_X4_part
theorem dX7_worth_0 : decode cX7_worth 0 = .ok (.aload_n 0, 1) := by decide +kernel
theorem dX7_worth_1 : decode cX7_worth 1 = .ok (.iload_n 1, 1) := by decide +kernel
theorem dX7_worth_2 : decode cX7_worth 2 = .ok (.iload_n 2, 1) := by decide +kernel
theorem dX7_worth_3 : decode cX7_worth 3 = .ok (.invokevirtual 145, 3) := by decide +kernel
theorem dX7_worth_6 : decode cX7_worth 6 = .ok (.ifCond .eq 12, 3) := by decide +kernel
theorem dX7_worth_9 : decode cX7_worth 9 = .ok (.iload_n 3, 1) := by decide +kernel
theorem dX7_worth_10 : decode cX7_worth 10 = .ok (.iconst 0, 1) := by decide +kernel
theorem dX7_worth_11 : decode cX7_worth 11 = .ok (.iconst 1, 1) := by decide +kernel
theorem dX7_worth_12 : decode cX7_worth 12 = .ok (.invokestatic 72, 3) := by decide +kernel
theorem dX7_worth_15 : decode cX7_worth 15 = .ok (.ifCond .ne 7, 3) := by decide +kernel
theorem dX7_worth_18 : decode cX7_worth 18 = .ok (.ldc2_w 173, 3) := by decide +kernel
theorem dX7_worth_21 : decode cX7_worth 21 = .ok (.lreturn, 1) := by decide +kernel
theorem dX7_worth_22 : decode cX7_worth 22 = .ok (.aload_n 0, 1) := by decide +kernel
theorem dX7_worth_23 : decode cX7_worth 23 = .ok (.iload_n 1, 1) := by decide +kernel
theorem dX7_worth_24 : decode cX7_worth 24 = .ok (.iload_n 2, 1) := by decide +kernel
theorem dX7_worth_25 : decode cX7_worth 25 = .ok (.aload_n 0, 1) := by decide +kernel
theorem dX7_worth_26 : decode cX7_worth 26 = .ok (.getfield 57, 3) := by decide +kernel
theorem dX7_worth_29 : decode cX7_worth 29 = .ok (.invokevirtual 183, 3) := by decide +kernel
theorem dX7_worth_32 : decode cX7_worth 32 = .ok (.aload_n 0, 1) := by decide +kernel
theorem dX7_worth_33 : decode cX7_worth 33 = .ok (.getfield 57, 3) := by decide +kernel
theorem dX7_worth_36 : decode cX7_worth 36 = .ok (.iload_n 3, 1) := by decide +kernel
theorem dX7_worth_37 : decode cX7_worth 37 = .ok (.invokevirtual 179, 3) := by decide +kernel
theorem dX7_worth_40 : decode cX7_worth 40 = .ok (.lreturn, 1) := by decide +kernel
set_option maxRecDepth 20000 in
theorem ggX7_slip_X7_areMachines : GoodIn wsX7_slip wsX7_areMachines := goodIn_r _ [6, 7, 8, 9, 10, 11, 12, 13, 86, 87, 88, 89, 90, 91, 92, 93, 94, 95, 96, 97, 98, 99] (by decide +kernel) (by decide +kernel)
set_option maxRecDepth 20000 in
theorem gX7_slip_X7_areMachines : GoodIn wsX7_slip (wsV RX7 145 RX7 yX7_areMachines wsX7_areMachines) := goodIn_app (goodIn_of _ (by decide +kernel)) ggX7_slip_X7_areMachines
set_option maxRecDepth 20000 in
theorem ggX7_slip_X7_within : GoodIn wsX7_slip wsX7_within := goodIn_r _ [16] (by decide +kernel) (by decide +kernel)
set_option maxRecDepth 20000 in
theorem gX7_slip_X7_within : GoodIn wsX7_slip (va_wsS RX7 72 yX7_within wsX7_within) := goodIn_app (goodIn_of _ (by decide +kernel)) ggX7_slip_X7_within
set_option maxRecDepth 20000 in
theorem ggX7_slip_X7_playOut : GoodIn wsX7_slip wsX7_playOut := goodIn_r _ [20, 1, 21, 7, 22, 23, 24, 25, 26, 27, 28, 29, 30, 31, 11, 32, 33, 34, 35, 36, 37, 38, 39, 40, 41, 42, 43, 44, 45, 46, 47, 48, 49, 50, 51, 52, 53, 54, 55, 56, 57, 58, 59, 60, 61, 62, 63, 64, 86, 87, 88, 89, 90, 91, 92, 93, 94, 95, 100, 101, 102, 103, 104, 105, 96, 97, 98, 99, 106, 107, 108] (by decide +kernel) (by decide +kernel)
set_option maxRecDepth 20000 in
theorem gX7_slip_X7_playOut : GoodIn wsX7_slip (wsV RX7 148 RX7 yX7_playOut wsX7_playOut) := goodIn_app (goodIn_of _ (by decide +kernel)) ggX7_slip_X7_playOut
set_option maxRecDepth 20000 in
theorem ggX7_slip_X6_placeIn : GoodIn wsX7_slip wsX6_placeIn := goodIn_r _ [68, 58, 59, 60, 100, 101, 102, 103, 104, 105] (by decide +kernel) (by decide +kernel)
set_option maxRecDepth 20000 in
theorem gX7_slip_X6_placeIn : GoodIn wsX7_slip (wsV RX7 151 RX6 yX6_placeIn wsX6_placeIn) := goodIn_app (goodIn_of _ (by decide +kernel)) ggX7_slip_X6_placeIn
set_option maxRecDepth 20000 in
theorem ggX7_slip_X7_placeBehindSlip : GoodIn wsX7_slip wsX7_placeBehindSlip := goodIn_r _ [72, 7, 73, 74, 25, 75, 76, 77, 78, 79, 35, 36, 11, 37, 38, 80, 43, 44, 45, 46, 81, 40, 41, 86, 87, 88, 89, 90, 91, 92, 93, 94, 95, 96, 97, 98, 99] (by decide +kernel) (by decide +kernel)
set_option maxRecDepth 20000 in
theorem gX7_slip_X7_placeBehindSlip : GoodIn wsX7_slip (wsV RX7 187 RX7 yX7_placeBehindSlip wsX7_placeBehindSlip) := goodIn_app (goodIn_of _ (by decide +kernel)) ggX7_slip_X7_placeBehindSlip
set_option maxRecDepth 20000 in
theorem ggX7_slip_X6_meeting : GoodIn wsX7_slip wsX6_meeting := goodIn_r _ [85, 27, 100, 101, 102, 103, 104, 105] (by decide +kernel) (by decide +kernel)
set_option maxRecDepth 20000 in
theorem gX7_slip_X6_meeting : GoodIn wsX7_slip (wsV RX7 190 RX6 yX6_meeting wsX6_meeting) := goodIn_app (goodIn_of _ (by decide +kernel)) ggX7_slip_X6_meeting
theorem dX7_slip_0 : decode cX7_slip 0 = .ok (.aload_n 0, 1) := by decide +kernel
theorem dX7_slip_1 : decode cX7_slip 1 = .ok (.iload_n 1, 1) := by decide +kernel
theorem dX7_slip_2 : decode cX7_slip 2 = .ok (.iload_n 2, 1) := by decide +kernel
theorem dX7_slip_3 : decode cX7_slip 3 = .ok (.invokevirtual 145, 3) := by decide +kernel
theorem dX7_slip_6 : decode cX7_slip 6 = .ok (.ifCond .eq 13, 3) := by decide +kernel
theorem dX7_slip_9 : decode cX7_slip 9 = .ok (.iload_n 3, 1) := by decide +kernel
theorem dX7_slip_10 : decode cX7_slip 10 = .ok (.iconst 0, 1) := by decide +kernel
theorem dX7_slip_11 : decode cX7_slip 11 = .ok (.bipush 100, 2) := by decide +kernel
theorem dX7_slip_13 : decode cX7_slip 13 = .ok (.invokestatic 72, 3) := by decide +kernel
theorem dX7_slip_16 : decode cX7_slip 16 = .ok (.ifCond .ne 5, 3) := by decide +kernel
theorem dX7_slip_19 : decode cX7_slip 19 = .ok (.iconst (-1), 1) := by decide +kernel
theorem dX7_slip_20 : decode cX7_slip 20 = .ok (.ireturn, 1) := by decide +kernel
theorem dX7_slip_21 : decode cX7_slip 21 = .ok (.aload_n 0, 1) := by decide +kernel
theorem dX7_slip_22 : decode cX7_slip 22 = .ok (.iload_n 1, 1) := by decide +kernel
theorem dX7_slip_23 : decode cX7_slip 23 = .ok (.iload_n 2, 1) := by decide +kernel
theorem dX7_slip_24 : decode cX7_slip 24 = .ok (.invokevirtual 148, 3) := by decide +kernel
theorem dX7_slip_27 : decode cX7_slip 27 = .ok (.aload_n 0, 1) := by decide +kernel
theorem dX7_slip_28 : decode cX7_slip 28 = .ok (.getfield 47, 3) := by decide +kernel
theorem dX7_slip_31 : decode cX7_slip 31 = .ok (.aload_n 0, 1) := by decide +kernel
theorem dX7_slip_32 : decode cX7_slip 32 = .ok (.getfield 47, 3) := by decide +kernel
theorem dX7_slip_35 : decode cX7_slip 35 = .ok (.iload_n 3, 1) := by decide +kernel
theorem dX7_slip_36 : decode cX7_slip 36 = .ok (.iconst 1, 1) := by decide +kernel
theorem dX7_slip_37 : decode cX7_slip 37 = .ok (.iadd, 1) := by decide +kernel
theorem dX7_slip_38 : decode cX7_slip 38 = .ok (.invokevirtual 151, 3) := by decide +kernel
theorem dX7_slip_41 : decode cX7_slip 41 = .ok (.aload_n 0, 1) := by decide +kernel
theorem dX7_slip_42 : decode cX7_slip 42 = .ok (.iload_n 1, 1) := by decide +kernel
theorem dX7_slip_43 : decode cX7_slip 43 = .ok (.iload_n 2, 1) := by decide +kernel
theorem dX7_slip_44 : decode cX7_slip 44 = .ok (.aload_n 0, 1) := by decide +kernel
theorem dX7_slip_45 : decode cX7_slip 45 = .ok (.getfield 47, 3) := by decide +kernel
theorem dX7_slip_48 : decode cX7_slip 48 = .ok (.iload_n 3, 1) := by decide +kernel
theorem dX7_slip_49 : decode cX7_slip 49 = .ok (.invokevirtual 151, 3) := by decide +kernel
theorem dX7_slip_52 : decode cX7_slip 52 = .ok (.invokevirtual 187, 3) := by decide +kernel
theorem dX7_slip_55 : decode cX7_slip 55 = .ok (.invokevirtual 190, 3) := by decide +kernel
theorem dX7_slip_58 : decode cX7_slip 58 = .ok (.istore 4, 2) := by decide +kernel
theorem dX7_slip_60 : decode cX7_slip 60 = .ok (.iload 4, 2) := by decide +kernel
theorem dX7_slip_62 : decode cX7_slip 62 = .ok (.ifCond .ge 8, 3) := by decide +kernel
theorem dX7_slip_65 : decode cX7_slip 65 = .ok (.bipush (-4), 2) := by decide +kernel
theorem dX7_slip_67 : decode cX7_slip 67 = .ok (.goto 7, 3) := by decide +kernel
theorem dX7_slip_70 : decode cX7_slip 70 = .ok (.iload 4, 2) := by decide +kernel
theorem dX7_slip_72 : decode cX7_slip 72 = .ok (.iconst 1, 1) := by decide +kernel
theorem dX7_slip_73 : decode cX7_slip 73 = .ok (.iadd, 1) := by decide +kernel
theorem dX7_slip_74 : decode cX7_slip 74 = .ok (.ireturn, 1) := by decide +kernel
set_option maxRecDepth 20000 in
theorem ggX7_like_X7_areMachines : GoodIn wsX7_like wsX7_areMachines := goodIn_r _ [7, 2, 8, 9, 10, 11, 12, 13, 50, 51, 52, 53, 54, 55, 56, 57, 58, 59, 60, 61, 62, 63] (by decide +kernel) (by decide +kernel)
set_option maxRecDepth 20000 in
theorem gX7_like_X7_areMachines : GoodIn wsX7_like (wsV RX7 145 RX7 yX7_areMachines wsX7_areMachines) := goodIn_app (goodIn_of _ (by decide +kernel)) ggX7_like_X7_areMachines
set_option maxRecDepth 20000 in
theorem ggX7_like_X1_areLike : GoodIn wsX7_like wsX1_areLike := goodIn_r _ [18, 19, 20, 21, 17, 22, 23, 24, 25, 26, 27, 28, 29, 30, 31, 32, 33, 34, 35, 36, 11, 37, 38, 39, 40, 41, 42, 43, 44, 45, 46, 64, 60, 61, 62, 63] (by decide +kernel) (by decide +kernel)
set_option maxRecDepth 20000 in
theorem gX7_like_X1_areLike : GoodIn wsX7_like (wsV RX7 193 RX1 yX1_areLike wsX1_areLike) := goodIn_app (goodIn_of _ (by decide +kernel)) ggX7_like_X1_areLike
set_option maxRecDepth 20000 in
theorem ggX7_like_X7_oneIf : GoodIn wsX7_like wsX7_oneIf := goodIn_r _ [49] (by decide +kernel) (by decide +kernel)
set_option maxRecDepth 20000 in
theorem gX7_like_X7_oneIf : GoodIn wsX7_like (va_wsS RX7 197 yX7_oneIf wsX7_oneIf) := goodIn_app (goodIn_of _ (by decide +kernel)) ggX7_like_X7_oneIf
theorem dX7_like_0 : decode cX7_like 0 = .ok (.aload_n 0, 1) := by decide +kernel
theorem dX7_like_1 : decode cX7_like 1 = .ok (.iload_n 1, 1) := by decide +kernel
theorem dX7_like_2 : decode cX7_like 2 = .ok (.iload_n 2, 1) := by decide +kernel
theorem dX7_like_3 : decode cX7_like 3 = .ok (.invokevirtual 145, 3) := by decide +kernel
theorem dX7_like_6 : decode cX7_like 6 = .ok (.ifCond .ne 5, 3) := by decide +kernel
theorem dX7_like_9 : decode cX7_like 9 = .ok (.iconst (-1), 1) := by decide +kernel
theorem dX7_like_10 : decode cX7_like 10 = .ok (.ireturn, 1) := by decide +kernel
theorem dX7_like_11 : decode cX7_like 11 = .ok (.aload_n 0, 1) := by decide +kernel
theorem dX7_like_12 : decode cX7_like 12 = .ok (.getfield 33, 3) := by decide +kernel
theorem dX7_like_15 : decode cX7_like 15 = .ok (.aload_n 0, 1) := by decide +kernel
theorem dX7_like_16 : decode cX7_like 16 = .ok (.getfield 19, 3) := by decide +kernel
theorem dX7_like_19 : decode cX7_like 19 = .ok (.iload_n 1, 1) := by decide +kernel
theorem dX7_like_20 : decode cX7_like 20 = .ok (.iload_n 2, 1) := by decide +kernel
theorem dX7_like_21 : decode cX7_like 21 = .ok (.invokevirtual 193, 3) := by decide +kernel
theorem dX7_like_24 : decode cX7_like 24 = .ok (.invokestatic 197, 3) := by decide +kernel
theorem dX7_like_27 : decode cX7_like 27 = .ok (.ireturn, 1) := by decide +kernel
set_option maxRecDepth 20000 in
theorem ggX7_smallest_X2_has : GoodIn wsX7_smallest wsX2_has := goodIn_r _ [7, 8, 64, 65, 66, 67] (by decide +kernel) (by decide +kernel)
set_option maxRecDepth 20000 in
theorem gX7_smallest_X2_has : GoodIn wsX7_smallest (wsV RX7 201 RX2 yX2_has wsX2_has) := goodIn_app (goodIn_of _ (by decide +kernel)) ggX7_smallest_X2_has
set_option maxRecDepth 20000 in
theorem ggX7_smallest_X1_unlikeStates : GoodIn wsX7_smallest wsX1_unlikeStates := goodIn_r _ [13, 14, 15, 12, 16, 17, 18, 19, 6, 20, 21, 22, 23, 24, 25, 26, 27, 28, 29, 30, 31, 32, 33, 34, 35, 36, 37, 38, 39, 40, 41, 42, 43, 44, 45, 46, 47, 48, 49, 50, 51, 52, 53, 64, 65, 66, 67, 68] (by decide +kernel) (by decide +kernel)
set_option maxRecDepth 20000 in
theorem gX7_smallest_X1_unlikeStates : GoodIn wsX7_smallest (wsV RX7 204 RX1 yX1_unlikeStates wsX1_unlikeStates) := goodIn_app (goodIn_of _ (by decide +kernel)) ggX7_smallest_X1_unlikeStates
theorem dX7_smallest_0 : decode cX7_smallest 0 = .ok (.aload_n 0, 1) := by decide +kernel
theorem dX7_smallest_1 : decode cX7_smallest 1 = .ok (.getfield 19, 3) := by decide +kernel
theorem dX7_smallest_4 : decode cX7_smallest 4 = .ok (.iload_n 1, 1) := by decide +kernel
theorem dX7_smallest_5 : decode cX7_smallest 5 = .ok (.invokevirtual 201, 3) := by decide +kernel
theorem dX7_smallest_8 : decode cX7_smallest 8 = .ok (.ifCond .ne 5, 3) := by decide +kernel
theorem dX7_smallest_11 : decode cX7_smallest 11 = .ok (.iconst (-1), 1) := by decide +kernel
theorem dX7_smallest_12 : decode cX7_smallest 12 = .ok (.ireturn, 1) := by decide +kernel
theorem dX7_smallest_13 : decode cX7_smallest 13 = .ok (.aload_n 0, 1) := by decide +kernel
theorem dX7_smallest_14 : decode cX7_smallest 14 = .ok (.getfield 33, 3) := by decide +kernel
theorem dX7_smallest_17 : decode cX7_smallest 17 = .ok (.aload_n 0, 1) := by decide +kernel
theorem dX7_smallest_18 : decode cX7_smallest 18 = .ok (.getfield 19, 3) := by decide +kernel
theorem dX7_smallest_21 : decode cX7_smallest 21 = .ok (.iload_n 1, 1) := by decide +kernel
theorem dX7_smallest_22 : decode cX7_smallest 22 = .ok (.invokevirtual 204, 3) := by decide +kernel
theorem dX7_smallest_25 : decode cX7_smallest 25 = .ok (.ireturn, 1) := by decide +kernel
set_option maxRecDepth 20000 in
theorem ggX7_best_X2_hasState : GoodIn wsX7_best wsX2_hasState := goodIn_r _ [8, 9, 10, 11, 12, 7, 13, 14, 144, 145, 146, 147] (by decide +kernel) (by decide +kernel)
set_option maxRecDepth 20000 in
theorem gX7_best_X2_hasState : GoodIn wsX7_best (wsV RX7 92 RX2 yX2_hasState wsX2_hasState) := goodIn_app (goodIn_of _ (by decide +kernel)) ggX7_best_X2_hasState
set_option maxRecDepth 20000 in
theorem ggX7_best_X3_learn : GoodIn wsX7_best wsX3_learn := goodIn_r _ [19, 20, 21, 22, 23, 18, 24, 25, 26, 27, 28, 29, 30, 31, 32, 33, 34, 35, 7, 36, 9, 37, 38, 39, 40, 41, 42, 43, 44, 45, 46, 47, 48, 49, 50, 51, 52, 53, 54, 55, 56, 57, 58, 59, 60, 61, 62, 63, 64, 65, 66, 67, 68, 69, 70, 71, 72, 73, 74, 75, 76, 77, 78, 79, 80, 81, 82, 83, 84, 85, 86, 87, 88, 89, 90, 91, 92, 93, 94, 95, 96, 97, 98, 99, 100, 101, 102, 103, 104, 105, 106, 107, 108, 109, 110, 111, 112, 113, 114, 115, 116, 117, 118, 119, 120, 121, 122, 123, 124, 125, 126, 127, 128, 129, 148, 149, 150, 151, 152, 153, 154, 155, 156, 157, 158, 144, 145, 146, 147, 159, 160, 161, 162, 163] (by decide +kernel) (by decide +kernel)
set_option maxRecDepth 20000 in
theorem gX7_best_X3_learn : GoodIn wsX7_best (wsV RX7 208 RX3 yX3_learn wsX3_learn) := goodIn_app (goodIn_of _ (by decide +kernel)) ggX7_best_X3_learn
set_option maxRecDepth 20000 in
theorem ggX7_best_X3_bestPlan : GoodIn wsX7_best wsX3_bestPlan := goodIn_r _ [133, 107, 100, 101, 18, 102, 148, 149, 150, 151, 152] (by decide +kernel) (by decide +kernel)
set_option maxRecDepth 20000 in
theorem gX7_best_X3_bestPlan : GoodIn wsX7_best (wsV RX7 212 RX3 yX3_bestPlan wsX3_bestPlan) := goodIn_app (goodIn_of _ (by decide +kernel)) ggX7_best_X3_bestPlan
theorem dX7_best_0 : decode cX7_best 0 = .ok (.aload_n 0, 1) := by decide +kernel
theorem dX7_best_1 : decode cX7_best 1 = .ok (.getfield 19, 3) := by decide +kernel
theorem dX7_best_4 : decode cX7_best 4 = .ok (.iload_n 1, 1) := by decide +kernel
theorem dX7_best_5 : decode cX7_best 5 = .ok (.iload_n 2, 1) := by decide +kernel
theorem dX7_best_6 : decode cX7_best 6 = .ok (.invokevirtual 92, 3) := by decide +kernel
theorem dX7_best_9 : decode cX7_best 9 = .ok (.ifCond .ne 5, 3) := by decide +kernel
theorem dX7_best_12 : decode cX7_best 12 = .ok (.iconst (-1), 1) := by decide +kernel
theorem dX7_best_13 : decode cX7_best 13 = .ok (.ireturn, 1) := by decide +kernel
theorem dX7_best_14 : decode cX7_best 14 = .ok (.aload_n 0, 1) := by decide +kernel
theorem dX7_best_15 : decode cX7_best 15 = .ok (.getfield 40, 3) := by decide +kernel
theorem dX7_best_18 : decode cX7_best 18 = .ok (.aload_n 0, 1) := by decide +kernel
theorem dX7_best_19 : decode cX7_best 19 = .ok (.getfield 10, 3) := by decide +kernel
theorem dX7_best_22 : decode cX7_best 22 = .ok (.aload_n 0, 1) := by decide +kernel
theorem dX7_best_23 : decode cX7_best 23 = .ok (.getfield 19, 3) := by decide +kernel
theorem dX7_best_26 : decode cX7_best 26 = .ok (.iload_n 1, 1) := by decide +kernel
theorem dX7_best_27 : decode cX7_best 27 = .ok (.iload_n 2, 1) := by decide +kernel
theorem dX7_best_28 : decode cX7_best 28 = .ok (.invokevirtual 208, 3) := by decide +kernel
theorem dX7_best_31 : decode cX7_best 31 = .ok (.aload_n 0, 1) := by decide +kernel
theorem dX7_best_32 : decode cX7_best 32 = .ok (.getfield 40, 3) := by decide +kernel
theorem dX7_best_35 : decode cX7_best 35 = .ok (.iload_n 1, 1) := by decide +kernel
theorem dX7_best_36 : decode cX7_best 36 = .ok (.iload_n 2, 1) := by decide +kernel
theorem dX7_best_37 : decode cX7_best 37 = .ok (.invokevirtual 212, 3) := by decide +kernel
theorem dX7_best_40 : decode cX7_best 40 = .ok (.ireturn, 1) := by decide +kernel
set_option maxRecDepth 20000 in
theorem ggX7_bestWorth_X2_hasState : GoodIn wsX7_bestWorth wsX2_hasState := goodIn_r _ [9, 10, 11, 12, 13, 8, 14, 15, 149, 150, 151, 152] (by decide +kernel) (by decide +kernel)
set_option maxRecDepth 20000 in
theorem gX7_bestWorth_X2_hasState : GoodIn wsX7_bestWorth (wsV RX7 92 RX2 yX2_hasState wsX2_hasState) := goodIn_app (goodIn_of _ (by decide +kernel)) ggX7_bestWorth_X2_hasState
set_option maxRecDepth 20000 in
theorem ggX7_bestWorth_X7_within : GoodIn wsX7_bestWorth wsX7_within := goodIn_r _ [19] (by decide +kernel) (by decide +kernel)
set_option maxRecDepth 20000 in
theorem gX7_bestWorth_X7_within : GoodIn wsX7_bestWorth (va_wsS RX7 72 yX7_within wsX7_within) := goodIn_app (goodIn_of _ (by decide +kernel)) ggX7_bestWorth_X7_within
set_option maxRecDepth 20000 in
theorem ggX7_bestWorth_X3_learn : GoodIn wsX7_bestWorth wsX3_learn := goodIn_r _ [24, 25, 26, 27, 28, 23, 29, 30, 31, 32, 33, 34, 35, 36, 37, 38, 39, 40, 8, 41, 10, 42, 43, 44, 45, 46, 47, 48, 49, 50, 51, 52, 53, 54, 55, 56, 57, 58, 59, 60, 61, 62, 63, 64, 65, 66, 67, 68, 69, 70, 71, 72, 73, 74, 75, 76, 77, 78, 79, 80, 81, 82, 83, 84, 85, 86, 87, 88, 89, 90, 91, 92, 93, 94, 95, 96, 97, 98, 99, 100, 101, 102, 103, 104, 105, 106, 107, 108, 109, 110, 111, 112, 113, 114, 115, 116, 117, 118, 119, 120, 121, 122, 123, 124, 125, 126, 127, 128, 129, 130, 131, 132, 133, 134, 153, 154, 155, 156, 157, 158, 159, 160, 161, 162, 163, 149, 150, 151, 152, 164, 165, 166, 167, 168] (by decide +kernel) (by decide +kernel)
set_option maxRecDepth 20000 in
theorem gX7_bestWorth_X3_learn : GoodIn wsX7_bestWorth (wsV RX7 208 RX3 yX3_learn wsX3_learn) := goodIn_app (goodIn_of _ (by decide +kernel)) ggX7_bestWorth_X3_learn
set_option maxRecDepth 20000 in
theorem ggX7_bestWorth_X3_bestPart : GoodIn wsX7_bestWorth wsX3_bestPart := goodIn_r _ [138, 113, 114, 105, 106, 23, 107, 153, 154, 155, 156, 157] (by decide +kernel) (by decide +kernel)
set_option maxRecDepth 20000 in
theorem gX7_bestWorth_X3_bestPart : GoodIn wsX7_bestWorth (wsV RX7 215 RX3 yX3_bestPart wsX3_bestPart) := goodIn_app (goodIn_of _ (by decide +kernel)) ggX7_bestWorth_X3_bestPart
theorem dX7_bestWorth_0 : decode cX7_bestWorth 0 = .ok (.aload_n 0, 1) := by decide +kernel
theorem dX7_bestWorth_1 : decode cX7_bestWorth 1 = .ok (.getfield 19, 3) := by decide +kernel
theorem dX7_bestWorth_4 : decode cX7_bestWorth 4 = .ok (.iload_n 1, 1) := by decide +kernel
theorem dX7_bestWorth_5 : decode cX7_bestWorth 5 = .ok (.iload_n 2, 1) := by decide +kernel
theorem dX7_bestWorth_6 : decode cX7_bestWorth 6 = .ok (.invokevirtual 92, 3) := by decide +kernel
theorem dX7_bestWorth_9 : decode cX7_bestWorth 9 = .ok (.ifCond .eq 12, 3) := by decide +kernel
theorem dX7_bestWorth_12 : decode cX7_bestWorth 12 = .ok (.iload_n 3, 1) := by decide +kernel
theorem dX7_bestWorth_13 : decode cX7_bestWorth 13 = .ok (.iconst 0, 1) := by decide +kernel
theorem dX7_bestWorth_14 : decode cX7_bestWorth 14 = .ok (.iconst 1, 1) := by decide +kernel
theorem dX7_bestWorth_15 : decode cX7_bestWorth 15 = .ok (.invokestatic 72, 3) := by decide +kernel
theorem dX7_bestWorth_18 : decode cX7_bestWorth 18 = .ok (.ifCond .ne 7, 3) := by decide +kernel
theorem dX7_bestWorth_21 : decode cX7_bestWorth 21 = .ok (.ldc2_w 173, 3) := by decide +kernel
theorem dX7_bestWorth_24 : decode cX7_bestWorth 24 = .ok (.lreturn, 1) := by decide +kernel
theorem dX7_bestWorth_25 : decode cX7_bestWorth 25 = .ok (.aload_n 0, 1) := by decide +kernel
theorem dX7_bestWorth_26 : decode cX7_bestWorth 26 = .ok (.getfield 40, 3) := by decide +kernel
theorem dX7_bestWorth_29 : decode cX7_bestWorth 29 = .ok (.aload_n 0, 1) := by decide +kernel
theorem dX7_bestWorth_30 : decode cX7_bestWorth 30 = .ok (.getfield 10, 3) := by decide +kernel
theorem dX7_bestWorth_33 : decode cX7_bestWorth 33 = .ok (.aload_n 0, 1) := by decide +kernel
theorem dX7_bestWorth_34 : decode cX7_bestWorth 34 = .ok (.getfield 19, 3) := by decide +kernel
theorem dX7_bestWorth_37 : decode cX7_bestWorth 37 = .ok (.iload_n 1, 1) := by decide +kernel
theorem dX7_bestWorth_38 : decode cX7_bestWorth 38 = .ok (.iload_n 2, 1) := by decide +kernel
theorem dX7_bestWorth_39 : decode cX7_bestWorth 39 = .ok (.invokevirtual 208, 3) := by decide +kernel
theorem dX7_bestWorth_42 : decode cX7_bestWorth 42 = .ok (.aload_n 0, 1) := by decide +kernel
theorem dX7_bestWorth_43 : decode cX7_bestWorth 43 = .ok (.getfield 40, 3) := by decide +kernel
theorem dX7_bestWorth_46 : decode cX7_bestWorth 46 = .ok (.iload_n 1, 1) := by decide +kernel
theorem dX7_bestWorth_47 : decode cX7_bestWorth 47 = .ok (.iload_n 2, 1) := by decide +kernel
theorem dX7_bestWorth_48 : decode cX7_bestWorth 48 = .ok (.iload_n 3, 1) := by decide +kernel
theorem dX7_bestWorth_49 : decode cX7_bestWorth 49 = .ok (.invokevirtual 215, 3) := by decide +kernel
theorem dX7_bestWorth_52 : decode cX7_bestWorth 52 = .ok (.lreturn, 1) := by decide +kernel
set_option maxRecDepth 20000 in
theorem ggX7_planWorth_X2_hasState : GoodIn wsX7_planWorth wsX2_hasState := goodIn_r _ [10, 11, 12, 13, 14, 9, 15, 16, 119, 120, 121, 122] (by decide +kernel) (by decide +kernel)
set_option maxRecDepth 20000 in
theorem gX7_planWorth_X2_hasState : GoodIn wsX7_planWorth (wsV RX7 92 RX2 yX2_hasState wsX2_hasState) := goodIn_app (goodIn_of _ (by decide +kernel)) ggX7_planWorth_X2_hasState
set_option maxRecDepth 20000 in
theorem ggX7_planWorth_X7_within : GoodIn wsX7_planWorth wsX7_within := goodIn_r _ [20] (by decide +kernel) (by decide +kernel)
set_option maxRecDepth 20000 in
theorem gX7_planWorth_X7_within : GoodIn wsX7_planWorth (va_wsS RX7 72 yX7_within wsX7_within) := goodIn_app (goodIn_of _ (by decide +kernel)) ggX7_planWorth_X7_within
set_option maxRecDepth 20000 in
theorem ggX7_planWorth_X2_statesOf : GoodIn wsX7_planWorth wsX2_statesOf := goodIn_r _ [24, 11, 119, 120, 121, 122] (by decide +kernel) (by decide +kernel)
set_option maxRecDepth 20000 in
theorem gX7_planWorth_X2_statesOf : GoodIn wsX7_planWorth (wsV RX7 219 RX2 yX2_statesOf wsX2_statesOf) := goodIn_app (goodIn_of _ (by decide +kernel)) ggX7_planWorth_X2_statesOf
set_option maxRecDepth 20000 in
theorem ggX7_planWorth_X3_plansAgainst : GoodIn wsX7_planWorth wsX3_plansAgainst := goodIn_r _ [28] (by decide +kernel) (by decide +kernel)
set_option maxRecDepth 20000 in
theorem gX7_planWorth_X3_plansAgainst : GoodIn wsX7_planWorth (va_wsS RX7 222 yX3_plansAgainst wsX3_plansAgainst) := goodIn_app (goodIn_of _ (by decide +kernel)) ggX7_planWorth_X3_plansAgainst
set_option maxRecDepth 20000 in
theorem ggX7_planWorth_X3_weigh : GoodIn wsX7_planWorth wsX3_weigh := goodIn_r _ [32, 33, 34, 35, 36, 37, 38, 39, 40, 41, 22, 23, 9, 24, 11, 42, 43, 44, 45, 46, 47, 48, 49, 50, 51, 52, 53, 54, 55, 56, 57, 58, 59, 60, 61, 62, 63, 64, 65, 66, 67, 68, 69, 70, 71, 72, 73, 74, 75, 76, 77, 78, 79, 80, 81, 82, 83, 84, 85, 86, 87, 88, 89, 90, 91, 92, 93, 94, 95, 96, 97, 98, 99, 100, 101, 102, 103, 104, 123, 124, 125, 126, 127, 128, 129, 130, 131, 132, 133, 119, 120, 121, 122, 134, 135, 136, 137, 138] (by decide +kernel) (by decide +kernel)
set_option maxRecDepth 20000 in
theorem gX7_planWorth_X3_weigh : GoodIn wsX7_planWorth (wsV RX7 225 RX3 yX3_weigh wsX3_weigh) := goodIn_app (goodIn_of _ (by decide +kernel)) ggX7_planWorth_X3_weigh
set_option maxRecDepth 20000 in
theorem ggX7_planWorth_X4_part : GoodIn wsX7_planWorth wsX4_part := goodIn_r _ [108, 100, 101, 137, 138] (by decide +kernel) (by decide +kernel)
set_option maxRecDepth 20000 in
theorem gX7_planWorth_X4_part : GoodIn wsX7_planWorth (wsV RX7 179 RX4 yX4_part wsX4_part) := goodIn_app (goodIn_of _ (by decide +kernel)) ggX7_planWorth_X4_part
theorem dX7_planWorth_0 : decode cX7_planWorth 0 = .ok (.aload_n 0, 1) := by decide +kernel
theorem dX7_planWorth_1 : decode cX7_planWorth 1 = .ok (.getfield 19, 3) := by decide +kernel
theorem dX7_planWorth_4 : decode cX7_planWorth 4 = .ok (.iload_n 1, 1) := by decide +kernel
theorem dX7_planWorth_5 : decode cX7_planWorth 5 = .ok (.iload_n 2, 1) := by decide +kernel
theorem dX7_planWorth_6 : decode cX7_planWorth 6 = .ok (.invokevirtual 92, 3) := by decide +kernel
theorem dX7_planWorth_9 : decode cX7_planWorth 9 = .ok (.ifCond .eq 13, 3) := by decide +kernel
theorem dX7_planWorth_12 : decode cX7_planWorth 12 = .ok (.iload 4, 2) := by decide +kernel
theorem dX7_planWorth_14 : decode cX7_planWorth 14 = .ok (.iconst 0, 1) := by decide +kernel
theorem dX7_planWorth_15 : decode cX7_planWorth 15 = .ok (.iconst 1, 1) := by decide +kernel
theorem dX7_planWorth_16 : decode cX7_planWorth 16 = .ok (.invokestatic 72, 3) := by decide +kernel
theorem dX7_planWorth_19 : decode cX7_planWorth 19 = .ok (.ifCond .ne 7, 3) := by decide +kernel
theorem dX7_planWorth_22 : decode cX7_planWorth 22 = .ok (.ldc2_w 173, 3) := by decide +kernel
theorem dX7_planWorth_25 : decode cX7_planWorth 25 = .ok (.lreturn, 1) := by decide +kernel
theorem dX7_planWorth_26 : decode cX7_planWorth 26 = .ok (.iload_n 3, 1) := by decide +kernel
theorem dX7_planWorth_27 : decode cX7_planWorth 27 = .ok (.iconst 0, 1) := by decide +kernel
theorem dX7_planWorth_28 : decode cX7_planWorth 28 = .ok (.aload_n 0, 1) := by decide +kernel
theorem dX7_planWorth_29 : decode cX7_planWorth 29 = .ok (.getfield 19, 3) := by decide +kernel
theorem dX7_planWorth_32 : decode cX7_planWorth 32 = .ok (.iload_n 1, 1) := by decide +kernel
theorem dX7_planWorth_33 : decode cX7_planWorth 33 = .ok (.invokevirtual 219, 3) := by decide +kernel
theorem dX7_planWorth_36 : decode cX7_planWorth 36 = .ok (.invokestatic 222, 3) := by decide +kernel
theorem dX7_planWorth_39 : decode cX7_planWorth 39 = .ok (.iconst 1, 1) := by decide +kernel
theorem dX7_planWorth_40 : decode cX7_planWorth 40 = .ok (.isub, 1) := by decide +kernel
theorem dX7_planWorth_41 : decode cX7_planWorth 41 = .ok (.invokestatic 72, 3) := by decide +kernel
theorem dX7_planWorth_44 : decode cX7_planWorth 44 = .ok (.ifCond .ne 7, 3) := by decide +kernel
theorem dX7_planWorth_47 : decode cX7_planWorth 47 = .ok (.ldc2_w 173, 3) := by decide +kernel
theorem dX7_planWorth_50 : decode cX7_planWorth 50 = .ok (.lreturn, 1) := by decide +kernel
theorem dX7_planWorth_51 : decode cX7_planWorth 51 = .ok (.aload_n 0, 1) := by decide +kernel
theorem dX7_planWorth_52 : decode cX7_planWorth 52 = .ok (.getfield 40, 3) := by decide +kernel
theorem dX7_planWorth_55 : decode cX7_planWorth 55 = .ok (.aload_n 0, 1) := by decide +kernel
theorem dX7_planWorth_56 : decode cX7_planWorth 56 = .ok (.getfield 10, 3) := by decide +kernel
theorem dX7_planWorth_59 : decode cX7_planWorth 59 = .ok (.aload_n 0, 1) := by decide +kernel
theorem dX7_planWorth_60 : decode cX7_planWorth 60 = .ok (.getfield 19, 3) := by decide +kernel
theorem dX7_planWorth_63 : decode cX7_planWorth 63 = .ok (.iload_n 1, 1) := by decide +kernel
theorem dX7_planWorth_64 : decode cX7_planWorth 64 = .ok (.iload_n 2, 1) := by decide +kernel
theorem dX7_planWorth_65 : decode cX7_planWorth 65 = .ok (.iload_n 3, 1) := by decide +kernel
theorem dX7_planWorth_66 : decode cX7_planWorth 66 = .ok (.aload_n 0, 1) := by decide +kernel
theorem dX7_planWorth_67 : decode cX7_planWorth 67 = .ok (.getfield 57, 3) := by decide +kernel
theorem dX7_planWorth_70 : decode cX7_planWorth 70 = .ok (.invokevirtual 225, 3) := by decide +kernel
theorem dX7_planWorth_73 : decode cX7_planWorth 73 = .ok (.aload_n 0, 1) := by decide +kernel
theorem dX7_planWorth_74 : decode cX7_planWorth 74 = .ok (.getfield 57, 3) := by decide +kernel
theorem dX7_planWorth_77 : decode cX7_planWorth 77 = .ok (.iload 4, 2) := by decide +kernel
theorem dX7_planWorth_79 : decode cX7_planWorth 79 = .ok (.invokevirtual 179, 3) := by decide +kernel
theorem dX7_planWorth_82 : decode cX7_planWorth 82 = .ok (.lreturn, 1) := by decide +kernel
set_option maxRecDepth 20000 in
theorem ggX7_rest_X7_areMachines : GoodIn wsX7_rest wsX7_areMachines := goodIn_r _ [8, 3, 9, 10, 11, 12, 13, 14, 160, 161, 162, 163, 164, 165, 166, 167, 168, 169, 170, 171, 172, 173] (by decide +kernel) (by decide +kernel)
set_option maxRecDepth 20000 in
theorem gX7_rest_X7_areMachines : GoodIn wsX7_rest (wsV RX7 145 RX7 yX7_areMachines wsX7_areMachines) := goodIn_app (goodIn_of _ (by decide +kernel)) ggX7_rest_X7_areMachines
set_option maxRecDepth 20000 in
theorem ggX7_rest_X3_learn : GoodIn wsX7_rest wsX3_learn := goodIn_r _ [19, 20, 21, 22, 23, 18, 24, 25, 26, 27, 28, 29, 30, 31, 32, 33, 34, 35, 12, 36, 37, 38, 39, 40, 41, 42, 43, 44, 45, 46, 47, 48, 49, 50, 51, 52, 53, 54, 55, 56, 57, 58, 59, 60, 61, 62, 63, 64, 65, 66, 67, 68, 69, 70, 71, 72, 73, 74, 75, 76, 77, 78, 79, 80, 81, 82, 83, 84, 85, 86, 87, 88, 89, 90, 91, 92, 93, 94, 95, 96, 97, 98, 99, 100, 101, 102, 103, 104, 105, 106, 107, 108, 109, 110, 111, 112, 113, 114, 115, 116, 117, 118, 119, 120, 121, 122, 123, 124, 125, 126, 127, 128, 129, 130, 174, 175, 176, 177, 178, 179, 180, 181, 182, 183, 184, 170, 171, 172, 173, 185, 186, 187, 188, 189] (by decide +kernel) (by decide +kernel)
set_option maxRecDepth 20000 in
theorem gX7_rest_X3_learn : GoodIn wsX7_rest (wsV RX7 208 RX3 yX3_learn wsX3_learn) := goodIn_app (goodIn_of _ (by decide +kernel)) ggX7_rest_X3_learn
set_option maxRecDepth 20000 in
theorem ggX7_rest_X7_takeBothSides : GoodIn wsX7_rest wsX7_takeBothSides := goodIn_r _ [134, 135, 2, 3, 136, 137, 138, 139, 29, 140, 31, 32, 33, 34, 35, 12, 36, 37, 43, 44, 45, 46, 47, 141, 142, 143, 38, 39, 40, 41, 42, 48, 49, 50, 51, 52, 53, 160, 161, 162, 163, 164, 165, 166, 167, 168, 169, 179, 180, 181, 182, 183, 184, 170, 171, 172, 173, 185, 186, 187] (by decide +kernel) (by decide +kernel)
set_option maxRecDepth 20000 in
theorem gX7_rest_X7_takeBothSides : GoodIn wsX7_rest (wsV RX7 229 RX7 yX7_takeBothSides wsX7_takeBothSides) := goodIn_app (goodIn_of _ (by decide +kernel)) ggX7_rest_X7_takeBothSides
set_option maxRecDepth 20000 in
theorem ggX7_rest_X7_restFrom : GoodIn wsX7_rest wsX7_restFrom := goodIn_r _ [147, 135, 136, 148, 142, 29, 143, 149, 150, 151, 7, 152, 2, 153, 1, 154, 55, 56, 57, 58, 59, 31, 60, 61, 62, 63, 64, 65, 155, 67, 68, 69, 70, 71, 72, 51, 73, 74, 75, 76, 77, 78, 79, 80, 81, 82, 83, 84, 85, 86, 32, 87, 88, 89, 90, 91, 92, 93, 94, 95, 96, 97, 98, 99, 100, 156, 120, 121, 18, 122, 109, 110, 101, 102, 103, 123, 124, 125, 126, 127, 128, 129, 130, 160, 161, 162, 163, 164, 165, 166, 167, 168, 169, 179, 180, 181, 182, 183, 184, 185, 186, 187, 188, 189, 174, 175, 176, 177, 178] (by decide +kernel) (by decide +kernel)
set_option maxRecDepth 20000 in
theorem gX7_rest_X7_restFrom : GoodIn wsX7_rest (wsV RX7 232 RX7 yX7_restFrom wsX7_restFrom) := goodIn_app (goodIn_of _ (by decide +kernel)) ggX7_rest_X7_restFrom
set_option maxRecDepth 20000 in
theorem ggX7_rest_X7_oneIf : GoodIn wsX7_rest wsX7_oneIf := goodIn_r _ [159] (by decide +kernel) (by decide +kernel)
set_option maxRecDepth 20000 in
theorem gX7_rest_X7_oneIf : GoodIn wsX7_rest (va_wsS RX7 197 yX7_oneIf wsX7_oneIf) := goodIn_app (goodIn_of _ (by decide +kernel)) ggX7_rest_X7_oneIf
theorem dX7_rest_0 : decode cX7_rest 0 = .ok (.aload_n 0, 1) := by decide +kernel
theorem dX7_rest_1 : decode cX7_rest 1 = .ok (.iload_n 1, 1) := by decide +kernel
theorem dX7_rest_2 : decode cX7_rest 2 = .ok (.iload_n 2, 1) := by decide +kernel
theorem dX7_rest_3 : decode cX7_rest 3 = .ok (.invokevirtual 145, 3) := by decide +kernel
theorem dX7_rest_6 : decode cX7_rest 6 = .ok (.ifCond .ne 5, 3) := by decide +kernel
theorem dX7_rest_9 : decode cX7_rest 9 = .ok (.iconst (-1), 1) := by decide +kernel
theorem dX7_rest_10 : decode cX7_rest 10 = .ok (.ireturn, 1) := by decide +kernel
theorem dX7_rest_11 : decode cX7_rest 11 = .ok (.aload_n 0, 1) := by decide +kernel
theorem dX7_rest_12 : decode cX7_rest 12 = .ok (.getfield 40, 3) := by decide +kernel
theorem dX7_rest_15 : decode cX7_rest 15 = .ok (.aload_n 0, 1) := by decide +kernel
theorem dX7_rest_16 : decode cX7_rest 16 = .ok (.getfield 10, 3) := by decide +kernel
theorem dX7_rest_19 : decode cX7_rest 19 = .ok (.aload_n 0, 1) := by decide +kernel
theorem dX7_rest_20 : decode cX7_rest 20 = .ok (.getfield 19, 3) := by decide +kernel
theorem dX7_rest_23 : decode cX7_rest 23 = .ok (.iload_n 1, 1) := by decide +kernel
theorem dX7_rest_24 : decode cX7_rest 24 = .ok (.iconst 0, 1) := by decide +kernel
theorem dX7_rest_25 : decode cX7_rest 25 = .ok (.invokevirtual 208, 3) := by decide +kernel
theorem dX7_rest_28 : decode cX7_rest 28 = .ok (.aload_n 0, 1) := by decide +kernel
theorem dX7_rest_29 : decode cX7_rest 29 = .ok (.getfield 40, 3) := by decide +kernel
theorem dX7_rest_32 : decode cX7_rest 32 = .ok (.aload_n 0, 1) := by decide +kernel
theorem dX7_rest_33 : decode cX7_rest 33 = .ok (.getfield 10, 3) := by decide +kernel
theorem dX7_rest_36 : decode cX7_rest 36 = .ok (.aload_n 0, 1) := by decide +kernel
theorem dX7_rest_37 : decode cX7_rest 37 = .ok (.getfield 19, 3) := by decide +kernel
theorem dX7_rest_40 : decode cX7_rest 40 = .ok (.iload_n 2, 1) := by decide +kernel
theorem dX7_rest_41 : decode cX7_rest 41 = .ok (.iconst 0, 1) := by decide +kernel
theorem dX7_rest_42 : decode cX7_rest 42 = .ok (.invokevirtual 208, 3) := by decide +kernel
theorem dX7_rest_45 : decode cX7_rest 45 = .ok (.aload_n 0, 1) := by decide +kernel
theorem dX7_rest_46 : decode cX7_rest 46 = .ok (.iload_n 1, 1) := by decide +kernel
theorem dX7_rest_47 : decode cX7_rest 47 = .ok (.iload_n 2, 1) := by decide +kernel
theorem dX7_rest_48 : decode cX7_rest 48 = .ok (.invokevirtual 229, 3) := by decide +kernel
theorem dX7_rest_51 : decode cX7_rest 51 = .ok (.aload_n 0, 1) := by decide +kernel
theorem dX7_rest_52 : decode cX7_rest 52 = .ok (.iload_n 1, 1) := by decide +kernel
theorem dX7_rest_53 : decode cX7_rest 53 = .ok (.iconst 0, 1) := by decide +kernel
theorem dX7_rest_54 : decode cX7_rest 54 = .ok (.iload_n 2, 1) := by decide +kernel
theorem dX7_rest_55 : decode cX7_rest 55 = .ok (.iconst 0, 1) := by decide +kernel
theorem dX7_rest_56 : decode cX7_rest 56 = .ok (.invokevirtual 232, 3) := by decide +kernel
theorem dX7_rest_59 : decode cX7_rest 59 = .ok (.invokestatic 197, 3) := by decide +kernel
theorem dX7_rest_62 : decode cX7_rest 62 = .ok (.ireturn, 1) := by decide +kernel
set_option maxRecDepth 20000 in
theorem ggX7_everywhere_X7_areMachines : GoodIn wsX7_everywhere wsX7_areMachines := goodIn_r _ [8, 3, 9, 10, 11, 12, 13, 14, 169, 170, 171, 172, 173, 174, 175, 176, 177, 178, 179, 180, 181, 182] (by decide +kernel) (by decide +kernel)
set_option maxRecDepth 20000 in
theorem gX7_everywhere_X7_areMachines : GoodIn wsX7_everywhere (wsV RX7 145 RX7 yX7_areMachines wsX7_areMachines) := goodIn_app (goodIn_of _ (by decide +kernel)) ggX7_everywhere_X7_areMachines
set_option maxRecDepth 20000 in
theorem ggX7_everywhere_X3_learnAll : GoodIn wsX7_everywhere wsX3_learnAll := goodIn_r _ [19, 20, 21, 22, 12, 23, 24, 25, 26, 27, 18, 28, 29, 30, 31, 32, 33, 34, 35, 36, 37, 38, 39, 40, 41, 42, 43, 44, 45, 46, 47, 48, 49, 50, 51, 52, 53, 54, 55, 56, 57, 58, 59, 60, 61, 62, 63, 64, 65, 66, 67, 68, 69, 70, 71, 72, 73, 74, 75, 76, 77, 78, 79, 80, 81, 82, 83, 84, 85, 86, 87, 88, 89, 90, 91, 92, 93, 94, 95, 96, 97, 98, 99, 100, 101, 102, 103, 104, 105, 106, 107, 108, 109, 110, 111, 112, 113, 114, 115, 116, 117, 118, 119, 120, 121, 122, 123, 124, 125, 126, 127, 128, 129, 130, 131, 132, 133, 134, 179, 180, 181, 182, 183, 184, 185, 186, 187, 188, 189, 190, 191, 192, 193, 194, 195, 196, 197, 198] (by decide +kernel) (by decide +kernel)
set_option maxRecDepth 20000 in
theorem gX7_everywhere_X3_learnAll : GoodIn wsX7_everywhere (wsV RX7 236 RX3 yX3_learnAll wsX3_learnAll) := goodIn_app (goodIn_of _ (by decide +kernel)) ggX7_everywhere_X3_learnAll
set_option maxRecDepth 20000 in
theorem ggX7_everywhere_X7_takeBothSides : GoodIn wsX7_everywhere wsX7_takeBothSides := goodIn_r _ [138, 139, 2, 3, 140, 141, 142, 143, 38, 144, 40, 41, 42, 21, 22, 12, 23, 24, 48, 49, 50, 51, 52, 145, 146, 147, 43, 44, 45, 46, 47, 53, 54, 55, 56, 57, 58, 169, 170, 171, 172, 173, 174, 175, 176, 177, 178, 188, 189, 190, 191, 192, 193, 179, 180, 181, 182, 194, 195, 196] (by decide +kernel) (by decide +kernel)
set_option maxRecDepth 20000 in
theorem gX7_everywhere_X7_takeBothSides : GoodIn wsX7_everywhere (wsV RX7 229 RX7 yX7_takeBothSides wsX7_takeBothSides) := goodIn_app (goodIn_of _ (by decide +kernel)) ggX7_everywhere_X7_takeBothSides
set_option maxRecDepth 20000 in
theorem ggX7_everywhere_X7_firstUnrest : GoodIn wsX7_everywhere wsX7_firstUnrest := goodIn_r _ [151, 3, 152, 21, 22, 12, 23, 24, 153, 154, 155, 7, 156, 139, 140, 157, 146, 38, 147, 158, 159, 160, 161, 2, 162, 1, 163, 60, 61, 62, 63, 64, 40, 65, 66, 67, 68, 69, 70, 164, 72, 73, 74, 75, 76, 77, 56, 78, 79, 80, 81, 82, 83, 84, 85, 86, 87, 88, 89, 90, 91, 41, 92, 93, 94, 95, 96, 97, 98, 99, 100, 101, 102, 103, 104, 105, 165, 124, 125, 18, 126, 114, 115, 106, 107, 108, 127, 128, 129, 130, 131, 132, 133, 134, 169, 170, 171, 172, 173, 174, 175, 176, 177, 178, 179, 180, 181, 182, 188, 189, 190, 191, 192, 193, 194, 195, 196, 197, 198, 183, 184, 185, 186, 187] (by decide +kernel) (by decide +kernel)
set_option maxRecDepth 20000 in
theorem gX7_everywhere_X7_firstUnrest : GoodIn wsX7_everywhere (wsV RX7 240 RX7 yX7_firstUnrest wsX7_firstUnrest) := goodIn_app (goodIn_of _ (by decide +kernel)) ggX7_everywhere_X7_firstUnrest
set_option maxRecDepth 20000 in
theorem ggX7_everywhere_X7_oneIf : GoodIn wsX7_everywhere wsX7_oneIf := goodIn_r _ [168] (by decide +kernel) (by decide +kernel)
set_option maxRecDepth 20000 in
theorem gX7_everywhere_X7_oneIf : GoodIn wsX7_everywhere (va_wsS RX7 197 yX7_oneIf wsX7_oneIf) := goodIn_app (goodIn_of _ (by decide +kernel)) ggX7_everywhere_X7_oneIf
theorem dX7_everywhere_0 : decode cX7_everywhere 0 = .ok (.aload_n 0, 1) := by decide +kernel
theorem dX7_everywhere_1 : decode cX7_everywhere 1 = .ok (.iload_n 1, 1) := by decide +kernel
theorem dX7_everywhere_2 : decode cX7_everywhere 2 = .ok (.iload_n 2, 1) := by decide +kernel
theorem dX7_everywhere_3 : decode cX7_everywhere 3 = .ok (.invokevirtual 145, 3) := by decide +kernel
theorem dX7_everywhere_6 : decode cX7_everywhere 6 = .ok (.ifCond .ne 5, 3) := by decide +kernel
theorem dX7_everywhere_9 : decode cX7_everywhere 9 = .ok (.iconst (-1), 1) := by decide +kernel
theorem dX7_everywhere_10 : decode cX7_everywhere 10 = .ok (.ireturn, 1) := by decide +kernel
theorem dX7_everywhere_11 : decode cX7_everywhere 11 = .ok (.aload_n 0, 1) := by decide +kernel
theorem dX7_everywhere_12 : decode cX7_everywhere 12 = .ok (.getfield 40, 3) := by decide +kernel
theorem dX7_everywhere_15 : decode cX7_everywhere 15 = .ok (.aload_n 0, 1) := by decide +kernel
theorem dX7_everywhere_16 : decode cX7_everywhere 16 = .ok (.getfield 10, 3) := by decide +kernel
theorem dX7_everywhere_19 : decode cX7_everywhere 19 = .ok (.aload_n 0, 1) := by decide +kernel
theorem dX7_everywhere_20 : decode cX7_everywhere 20 = .ok (.getfield 19, 3) := by decide +kernel
theorem dX7_everywhere_23 : decode cX7_everywhere 23 = .ok (.iload_n 1, 1) := by decide +kernel
theorem dX7_everywhere_24 : decode cX7_everywhere 24 = .ok (.invokevirtual 236, 3) := by decide +kernel
theorem dX7_everywhere_27 : decode cX7_everywhere 27 = .ok (.aload_n 0, 1) := by decide +kernel
theorem dX7_everywhere_28 : decode cX7_everywhere 28 = .ok (.getfield 40, 3) := by decide +kernel
theorem dX7_everywhere_31 : decode cX7_everywhere 31 = .ok (.aload_n 0, 1) := by decide +kernel
theorem dX7_everywhere_32 : decode cX7_everywhere 32 = .ok (.getfield 10, 3) := by decide +kernel
theorem dX7_everywhere_35 : decode cX7_everywhere 35 = .ok (.aload_n 0, 1) := by decide +kernel
theorem dX7_everywhere_36 : decode cX7_everywhere 36 = .ok (.getfield 19, 3) := by decide +kernel
theorem dX7_everywhere_39 : decode cX7_everywhere 39 = .ok (.iload_n 2, 1) := by decide +kernel
theorem dX7_everywhere_40 : decode cX7_everywhere 40 = .ok (.invokevirtual 236, 3) := by decide +kernel
theorem dX7_everywhere_43 : decode cX7_everywhere 43 = .ok (.aload_n 0, 1) := by decide +kernel
theorem dX7_everywhere_44 : decode cX7_everywhere 44 = .ok (.iload_n 1, 1) := by decide +kernel
theorem dX7_everywhere_45 : decode cX7_everywhere 45 = .ok (.iload_n 2, 1) := by decide +kernel
theorem dX7_everywhere_46 : decode cX7_everywhere 46 = .ok (.invokevirtual 229, 3) := by decide +kernel
theorem dX7_everywhere_49 : decode cX7_everywhere 49 = .ok (.aload_n 0, 1) := by decide +kernel
theorem dX7_everywhere_50 : decode cX7_everywhere 50 = .ok (.iload_n 1, 1) := by decide +kernel
theorem dX7_everywhere_51 : decode cX7_everywhere 51 = .ok (.iload_n 2, 1) := by decide +kernel
theorem dX7_everywhere_52 : decode cX7_everywhere 52 = .ok (.invokevirtual 240, 3) := by decide +kernel
theorem dX7_everywhere_55 : decode cX7_everywhere 55 = .ok (.ifCond .ge 7, 3) := by decide +kernel
theorem dX7_everywhere_58 : decode cX7_everywhere 58 = .ok (.iconst 1, 1) := by decide +kernel
theorem dX7_everywhere_59 : decode cX7_everywhere 59 = .ok (.goto 4, 3) := by decide +kernel
theorem dX7_everywhere_62 : decode cX7_everywhere 62 = .ok (.iconst 0, 1) := by decide +kernel
theorem dX7_everywhere_63 : decode cX7_everywhere 63 = .ok (.invokestatic 197, 3) := by decide +kernel
theorem dX7_everywhere_66 : decode cX7_everywhere 66 = .ok (.ireturn, 1) := by decide +kernel
set_option maxRecDepth 20000 in
theorem ggX7_deviation_X7_areMachines : GoodIn wsX7_deviation wsX7_areMachines := goodIn_r _ [8, 3, 9, 10, 11, 12, 13, 14, 183, 184, 185, 186, 187, 188, 189, 190, 191, 192, 193, 194, 195, 196] (by decide +kernel) (by decide +kernel)
set_option maxRecDepth 20000 in
theorem gX7_deviation_X7_areMachines : GoodIn wsX7_deviation (wsV RX7 145 RX7 yX7_areMachines wsX7_areMachines) := goodIn_app (goodIn_of _ (by decide +kernel)) ggX7_deviation_X7_areMachines
set_option maxRecDepth 20000 in
theorem ggX7_deviation_X7_within : GoodIn wsX7_deviation wsX7_within := goodIn_r _ [17] (by decide +kernel) (by decide +kernel)
set_option maxRecDepth 20000 in
theorem gX7_deviation_X7_within : GoodIn wsX7_deviation (va_wsS RX7 72 yX7_within wsX7_within) := goodIn_app (goodIn_of _ (by decide +kernel)) ggX7_deviation_X7_within
set_option maxRecDepth 20000 in
theorem ggX7_deviation_X3_learnAll : GoodIn wsX7_deviation wsX3_learnAll := goodIn_r _ [22, 23, 24, 25, 12, 26, 27, 28, 29, 30, 21, 31, 32, 33, 34, 35, 36, 37, 38, 39, 40, 41, 42, 43, 44, 45, 46, 47, 48, 49, 50, 51, 52, 53, 54, 55, 56, 57, 58, 59, 60, 61, 62, 63, 64, 65, 66, 67, 68, 69, 70, 71, 72, 73, 74, 75, 76, 77, 78, 79, 80, 81, 82, 83, 84, 85, 86, 87, 88, 89, 90, 91, 92, 93, 94, 95, 96, 97, 98, 99, 100, 101, 102, 103, 104, 105, 106, 107, 108, 109, 110, 111, 112, 113, 114, 115, 116, 117, 118, 119, 120, 121, 122, 123, 124, 125, 126, 127, 128, 129, 130, 131, 132, 133, 134, 135, 136, 137, 193, 194, 195, 196, 197, 198, 199, 200, 201, 202, 203, 204, 205, 206, 207, 208, 209, 210, 211, 212] (by decide +kernel) (by decide +kernel)
set_option maxRecDepth 20000 in
theorem gX7_deviation_X3_learnAll : GoodIn wsX7_deviation (wsV RX7 236 RX3 yX3_learnAll wsX3_learnAll) := goodIn_app (goodIn_of _ (by decide +kernel)) ggX7_deviation_X3_learnAll
set_option maxRecDepth 20000 in
theorem ggX7_deviation_X7_takeBothSides : GoodIn wsX7_deviation wsX7_takeBothSides := goodIn_r _ [141, 142, 2, 3, 143, 144, 145, 146, 41, 147, 43, 44, 45, 24, 25, 12, 26, 27, 51, 52, 53, 54, 55, 148, 149, 150, 46, 47, 48, 49, 50, 56, 57, 58, 59, 60, 61, 183, 184, 185, 186, 187, 188, 189, 190, 191, 192, 202, 203, 204, 205, 206, 207, 193, 194, 195, 196, 208, 209, 210] (by decide +kernel) (by decide +kernel)
set_option maxRecDepth 20000 in
theorem gX7_deviation_X7_takeBothSides : GoodIn wsX7_deviation (wsV RX7 229 RX7 yX7_takeBothSides wsX7_takeBothSides) := goodIn_app (goodIn_of _ (by decide +kernel)) ggX7_deviation_X7_takeBothSides
set_option maxRecDepth 20000 in
theorem ggX7_deviation_X7_firstUnrest : GoodIn wsX7_deviation wsX7_firstUnrest := goodIn_r _ [154, 3, 155, 24, 25, 12, 26, 27, 156, 157, 158, 7, 159, 142, 143, 160, 149, 41, 150, 161, 162, 163, 164, 2, 165, 1, 166, 63, 64, 65, 66, 67, 43, 68, 69, 70, 71, 72, 73, 167, 75, 76, 77, 78, 79, 80, 59, 81, 82, 83, 84, 85, 86, 87, 88, 89, 90, 91, 92, 93, 94, 44, 95, 96, 97, 98, 99, 100, 101, 102, 103, 104, 105, 106, 107, 108, 168, 127, 128, 21, 129, 117, 118, 109, 110, 111, 130, 131, 132, 133, 134, 135, 136, 137, 183, 184, 185, 186, 187, 188, 189, 190, 191, 192, 193, 194, 195, 196, 202, 203, 204, 205, 206, 207, 208, 209, 210, 211, 212, 197, 198, 199, 200, 201] (by decide +kernel) (by decide +kernel)
set_option maxRecDepth 20000 in
theorem gX7_deviation_X7_firstUnrest : GoodIn wsX7_deviation (wsV RX7 240 RX7 yX7_firstUnrest wsX7_firstUnrest) := goodIn_app (goodIn_of _ (by decide +kernel)) ggX7_deviation_X7_firstUnrest
set_option maxRecDepth 20000 in
theorem ggX7_deviation_X6_mine : GoodIn wsX7_deviation wsX6_mine := goodIn_r _ [171] (by decide +kernel) (by decide +kernel)
set_option maxRecDepth 20000 in
theorem gX7_deviation_X6_mine : GoodIn wsX7_deviation (va_wsS RX7 154 yX6_mine wsX6_mine) := goodIn_app (goodIn_of _ (by decide +kernel)) ggX7_deviation_X6_mine
set_option maxRecDepth 20000 in
theorem ggX7_deviation_X6_theirs : GoodIn wsX7_deviation wsX6_theirs := goodIn_r _ [174] (by decide +kernel) (by decide +kernel)
set_option maxRecDepth 20000 in
theorem gX7_deviation_X6_theirs : GoodIn wsX7_deviation (va_wsS RX7 243 yX6_theirs wsX6_theirs) := goodIn_app (goodIn_of _ (by decide +kernel)) ggX7_deviation_X6_theirs
set_option maxRecDepth 20000 in
theorem ggX7_deviation_X7_deviationFrom : GoodIn wsX7_deviation wsX7_deviationFrom := goodIn_r _ [178, 142, 1, 160, 149, 41, 150, 161, 162, 163, 7, 164, 2, 165, 166, 63, 64, 65, 66, 67, 43, 68, 69, 70, 71, 72, 73, 167, 75, 76, 77, 78, 79, 80, 59, 81, 82, 83, 84, 85, 86, 87, 88, 89, 90, 91, 92, 93, 94, 44, 95, 96, 97, 98, 99, 100, 101, 102, 103, 104, 105, 106, 107, 108, 168, 127, 128, 21, 129, 117, 118, 109, 110, 111, 130, 131, 132, 133, 134, 135, 136, 137, 179, 180, 181, 182, 116, 183, 184, 185, 186, 187, 188, 189, 190, 191, 192, 202, 203, 204, 205, 206, 207, 208, 209, 210, 211, 212, 197, 198, 199, 200, 201] (by decide +kernel) (by decide +kernel)
set_option maxRecDepth 20000 in
theorem gX7_deviation_X7_deviationFrom : GoodIn wsX7_deviation (wsV RX7 246 RX7 yX7_deviationFrom wsX7_deviationFrom) := goodIn_app (goodIn_of _ (by decide +kernel)) ggX7_deviation_X7_deviationFrom
theorem dX7_deviation_0 : decode cX7_deviation 0 = .ok (.aload_n 0, 1) := by decide +kernel
theorem dX7_deviation_1 : decode cX7_deviation 1 = .ok (.iload_n 1, 1) := by decide +kernel
theorem dX7_deviation_2 : decode cX7_deviation 2 = .ok (.iload_n 2, 1) := by decide +kernel
theorem dX7_deviation_3 : decode cX7_deviation 3 = .ok (.invokevirtual 145, 3) := by decide +kernel
theorem dX7_deviation_6 : decode cX7_deviation 6 = .ok (.ifCond .eq 12, 3) := by decide +kernel
theorem dX7_deviation_9 : decode cX7_deviation 9 = .ok (.iload_n 3, 1) := by decide +kernel
theorem dX7_deviation_10 : decode cX7_deviation 10 = .ok (.iconst 0, 1) := by decide +kernel
theorem dX7_deviation_11 : decode cX7_deviation 11 = .ok (.iconst 2, 1) := by decide +kernel
theorem dX7_deviation_12 : decode cX7_deviation 12 = .ok (.invokestatic 72, 3) := by decide +kernel
theorem dX7_deviation_15 : decode cX7_deviation 15 = .ok (.ifCond .ne 5, 3) := by decide +kernel
theorem dX7_deviation_18 : decode cX7_deviation 18 = .ok (.iconst (-1), 1) := by decide +kernel
theorem dX7_deviation_19 : decode cX7_deviation 19 = .ok (.ireturn, 1) := by decide +kernel
theorem dX7_deviation_20 : decode cX7_deviation 20 = .ok (.aload_n 0, 1) := by decide +kernel
theorem dX7_deviation_21 : decode cX7_deviation 21 = .ok (.getfield 40, 3) := by decide +kernel
theorem dX7_deviation_24 : decode cX7_deviation 24 = .ok (.aload_n 0, 1) := by decide +kernel
theorem dX7_deviation_25 : decode cX7_deviation 25 = .ok (.getfield 10, 3) := by decide +kernel
theorem dX7_deviation_28 : decode cX7_deviation 28 = .ok (.aload_n 0, 1) := by decide +kernel
theorem dX7_deviation_29 : decode cX7_deviation 29 = .ok (.getfield 19, 3) := by decide +kernel
theorem dX7_deviation_32 : decode cX7_deviation 32 = .ok (.iload_n 1, 1) := by decide +kernel
theorem dX7_deviation_33 : decode cX7_deviation 33 = .ok (.invokevirtual 236, 3) := by decide +kernel
theorem dX7_deviation_36 : decode cX7_deviation 36 = .ok (.aload_n 0, 1) := by decide +kernel
theorem dX7_deviation_37 : decode cX7_deviation 37 = .ok (.getfield 40, 3) := by decide +kernel
theorem dX7_deviation_40 : decode cX7_deviation 40 = .ok (.aload_n 0, 1) := by decide +kernel
theorem dX7_deviation_41 : decode cX7_deviation 41 = .ok (.getfield 10, 3) := by decide +kernel
theorem dX7_deviation_44 : decode cX7_deviation 44 = .ok (.aload_n 0, 1) := by decide +kernel
theorem dX7_deviation_45 : decode cX7_deviation 45 = .ok (.getfield 19, 3) := by decide +kernel
theorem dX7_deviation_48 : decode cX7_deviation 48 = .ok (.iload_n 2, 1) := by decide +kernel
theorem dX7_deviation_49 : decode cX7_deviation 49 = .ok (.invokevirtual 236, 3) := by decide +kernel
theorem dX7_deviation_52 : decode cX7_deviation 52 = .ok (.aload_n 0, 1) := by decide +kernel
theorem dX7_deviation_53 : decode cX7_deviation 53 = .ok (.iload_n 1, 1) := by decide +kernel
theorem dX7_deviation_54 : decode cX7_deviation 54 = .ok (.iload_n 2, 1) := by decide +kernel
theorem dX7_deviation_55 : decode cX7_deviation 55 = .ok (.invokevirtual 229, 3) := by decide +kernel
theorem dX7_deviation_58 : decode cX7_deviation 58 = .ok (.aload_n 0, 1) := by decide +kernel
theorem dX7_deviation_59 : decode cX7_deviation 59 = .ok (.iload_n 1, 1) := by decide +kernel
theorem dX7_deviation_60 : decode cX7_deviation 60 = .ok (.iload_n 2, 1) := by decide +kernel
theorem dX7_deviation_61 : decode cX7_deviation 61 = .ok (.invokevirtual 240, 3) := by decide +kernel
theorem dX7_deviation_64 : decode cX7_deviation 64 = .ok (.istore 4, 2) := by decide +kernel
theorem dX7_deviation_66 : decode cX7_deviation 66 = .ok (.iload 4, 2) := by decide +kernel
theorem dX7_deviation_68 : decode cX7_deviation 68 = .ok (.ifCond .ge 6, 3) := by decide +kernel
theorem dX7_deviation_71 : decode cX7_deviation 71 = .ok (.bipush (-4), 2) := by decide +kernel
theorem dX7_deviation_73 : decode cX7_deviation 73 = .ok (.ireturn, 1) := by decide +kernel
theorem dX7_deviation_74 : decode cX7_deviation 74 = .ok (.iload_n 3, 1) := by decide +kernel
theorem dX7_deviation_75 : decode cX7_deviation 75 = .ok (.ifCond .ne 8, 3) := by decide +kernel
theorem dX7_deviation_78 : decode cX7_deviation 78 = .ok (.iload 4, 2) := by decide +kernel
theorem dX7_deviation_80 : decode cX7_deviation 80 = .ok (.goto 20, 3) := by decide +kernel
theorem dX7_deviation_83 : decode cX7_deviation 83 = .ok (.aload_n 0, 1) := by decide +kernel
theorem dX7_deviation_84 : decode cX7_deviation 84 = .ok (.iload_n 1, 1) := by decide +kernel
theorem dX7_deviation_85 : decode cX7_deviation 85 = .ok (.iload 4, 2) := by decide +kernel
theorem dX7_deviation_87 : decode cX7_deviation 87 = .ok (.invokestatic 154, 3) := by decide +kernel
theorem dX7_deviation_90 : decode cX7_deviation 90 = .ok (.iload_n 2, 1) := by decide +kernel
theorem dX7_deviation_91 : decode cX7_deviation 91 = .ok (.iload 4, 2) := by decide +kernel
theorem dX7_deviation_93 : decode cX7_deviation 93 = .ok (.invokestatic 243, 3) := by decide +kernel
theorem dX7_deviation_96 : decode cX7_deviation 96 = .ok (.iload_n 3, 1) := by decide +kernel
theorem dX7_deviation_97 : decode cX7_deviation 97 = .ok (.invokevirtual 246, 3) := by decide +kernel
theorem dX7_deviation_100 : decode cX7_deviation 100 = .ok (.ireturn, 1) := by decide +kernel
set_option maxRecDepth 20000 in
theorem ggX7_resists_X7_areMachines : GoodIn wsX7_resists wsX7_areMachines := goodIn_r _ [5, 6, 7, 8, 9, 10, 11, 12, 126, 127, 128, 129, 130, 131, 132, 133, 134, 135, 136, 137, 138, 139] (by decide +kernel) (by decide +kernel)
set_option maxRecDepth 20000 in
theorem gX7_resists_X7_areMachines : GoodIn wsX7_resists (wsV RX7 145 RX7 yX7_areMachines wsX7_areMachines) := goodIn_app (goodIn_of _ (by decide +kernel)) ggX7_resists_X7_areMachines
set_option maxRecDepth 20000 in
theorem ggX7_resists_X7_withstands : GoodIn wsX7_resists wsX7_withstands := goodIn_r _ [16, 17, 18, 19, 4, 20, 21, 22, 23, 24, 25, 26, 27, 28, 29, 30, 31, 32, 6, 33, 34, 35, 36, 37, 38, 39, 40, 41, 42, 10, 43, 44, 45, 46, 47, 48, 49, 50, 51, 52, 53, 54, 55, 56, 57, 58, 59, 60, 61, 62, 63, 64, 65, 66, 67, 68, 69, 70, 71, 72, 73, 74, 75, 76, 77, 78, 79, 80, 81, 82, 83, 84, 85, 86, 87, 88, 89, 90, 91, 92, 93, 94, 95, 96, 97, 98, 99, 100, 101, 102, 103, 104, 105, 106, 107, 108, 109, 110, 111, 112, 113, 114, 115, 116, 117, 118, 119, 120, 121, 122, 126, 127, 128, 129, 130, 131, 132, 133, 134, 135, 140, 141, 142, 143, 144, 145, 136, 137, 138, 139, 146, 147, 148, 149, 150] (by decide +kernel) (by decide +kernel)
set_option maxRecDepth 20000 in
theorem gX7_resists_X7_withstands : GoodIn wsX7_resists (wsV RX7 250 RX7 yX7_withstands wsX7_withstands) := goodIn_app (goodIn_of _ (by decide +kernel)) ggX7_resists_X7_withstands
set_option maxRecDepth 20000 in
theorem ggX7_resists_X7_oneIf : GoodIn wsX7_resists wsX7_oneIf := goodIn_r _ [125] (by decide +kernel) (by decide +kernel)
set_option maxRecDepth 20000 in
theorem gX7_resists_X7_oneIf : GoodIn wsX7_resists (va_wsS RX7 197 yX7_oneIf wsX7_oneIf) := goodIn_app (goodIn_of _ (by decide +kernel)) ggX7_resists_X7_oneIf
theorem dX7_resists_0 : decode cX7_resists 0 = .ok (.aload_n 0, 1) := by decide +kernel
theorem dX7_resists_1 : decode cX7_resists 1 = .ok (.iload_n 2, 1) := by decide +kernel
theorem dX7_resists_2 : decode cX7_resists 2 = .ok (.iload_n 1, 1) := by decide +kernel
theorem dX7_resists_3 : decode cX7_resists 3 = .ok (.invokevirtual 145, 3) := by decide +kernel
theorem dX7_resists_6 : decode cX7_resists 6 = .ok (.ifCond .eq 8, 3) := by decide +kernel
theorem dX7_resists_9 : decode cX7_resists 9 = .ok (.iload_n 2, 1) := by decide +kernel
theorem dX7_resists_10 : decode cX7_resists 10 = .ok (.iload_n 1, 1) := by decide +kernel
theorem dX7_resists_11 : decode cX7_resists 11 = .ok (.if_icmp .ne 5, 3) := by decide +kernel
theorem dX7_resists_14 : decode cX7_resists 14 = .ok (.iconst (-1), 1) := by decide +kernel
theorem dX7_resists_15 : decode cX7_resists 15 = .ok (.ireturn, 1) := by decide +kernel
theorem dX7_resists_16 : decode cX7_resists 16 = .ok (.aload_n 0, 1) := by decide +kernel
theorem dX7_resists_17 : decode cX7_resists 17 = .ok (.iload_n 1, 1) := by decide +kernel
theorem dX7_resists_18 : decode cX7_resists 18 = .ok (.iload_n 2, 1) := by decide +kernel
theorem dX7_resists_19 : decode cX7_resists 19 = .ok (.invokevirtual 250, 3) := by decide +kernel
theorem dX7_resists_22 : decode cX7_resists 22 = .ok (.invokestatic 197, 3) := by decide +kernel
theorem dX7_resists_25 : decode cX7_resists 25 = .ok (.ireturn, 1) := by decide +kernel
set_option maxRecDepth 20000 in
theorem ggX7_invaders_X2_has : GoodIn wsX7_invaders wsX2_has := goodIn_r _ [6, 7, 133, 134, 135, 136] (by decide +kernel) (by decide +kernel)
set_option maxRecDepth 20000 in
theorem gX7_invaders_X2_has : GoodIn wsX7_invaders (wsV RX7 201 RX2 yX2_has wsX2_has) := goodIn_app (goodIn_of _ (by decide +kernel)) ggX7_invaders_X2_has
set_option maxRecDepth 20000 in
theorem ggX7_invaders_X2_many : GoodIn wsX7_invaders wsX2_many := goodIn_r _ [11, 7, 133, 134, 135, 136] (by decide +kernel) (by decide +kernel)
set_option maxRecDepth 20000 in
theorem gX7_invaders_X2_many : GoodIn wsX7_invaders (wsV RX7 111 RX2 yX2_many wsX2_many) := goodIn_app (goodIn_of _ (by decide +kernel)) ggX7_invaders_X2_many
set_option maxRecDepth 20000 in
theorem ggX7_invaders_X7_withstands : GoodIn wsX7_invaders wsX7_withstands := goodIn_r _ [16, 17, 18, 19, 15, 20, 21, 22, 23, 24, 25, 26, 27, 28, 29, 30, 31, 32, 1, 33, 34, 35, 36, 37, 38, 39, 40, 41, 42, 5, 43, 44, 45, 46, 47, 48, 49, 50, 51, 52, 53, 54, 55, 56, 57, 58, 59, 60, 61, 62, 63, 64, 65, 66, 67, 68, 69, 70, 71, 72, 73, 74, 75, 76, 77, 78, 79, 80, 81, 82, 83, 84, 85, 86, 87, 88, 89, 90, 91, 92, 93, 94, 95, 96, 97, 98, 99, 100, 101, 102, 103, 104, 105, 106, 107, 108, 109, 110, 111, 112, 113, 114, 115, 116, 117, 118, 119, 120, 121, 122, 123, 124, 125, 126, 127, 128, 129, 130, 131, 132, 137, 138, 139, 140, 141, 142, 133, 134, 135, 136, 143, 144, 145, 146, 147] (by decide +kernel) (by decide +kernel)
set_option maxRecDepth 20000 in
theorem gX7_invaders_X7_withstands : GoodIn wsX7_invaders (wsV RX7 250 RX7 yX7_withstands wsX7_withstands) := goodIn_app (goodIn_of _ (by decide +kernel)) ggX7_invaders_X7_withstands
theorem dX7_invaders_0 : decode cX7_invaders 0 = .ok (.aload_n 0, 1) := by decide +kernel
theorem dX7_invaders_1 : decode cX7_invaders 1 = .ok (.getfield 19, 3) := by decide +kernel
theorem dX7_invaders_4 : decode cX7_invaders 4 = .ok (.iload_n 1, 1) := by decide +kernel
theorem dX7_invaders_5 : decode cX7_invaders 5 = .ok (.invokevirtual 201, 3) := by decide +kernel
theorem dX7_invaders_8 : decode cX7_invaders 8 = .ok (.ifCond .ne 5, 3) := by decide +kernel
theorem dX7_invaders_11 : decode cX7_invaders 11 = .ok (.iconst (-1), 1) := by decide +kernel
theorem dX7_invaders_12 : decode cX7_invaders 12 = .ok (.ireturn, 1) := by decide +kernel
theorem dX7_invaders_13 : decode cX7_invaders 13 = .ok (.iconst 0, 1) := by decide +kernel
theorem dX7_invaders_14 : decode cX7_invaders 14 = .ok (.istore_n 2, 1) := by decide +kernel
theorem dX7_invaders_15 : decode cX7_invaders 15 = .ok (.iconst 0, 1) := by decide +kernel
theorem dX7_invaders_16 : decode cX7_invaders 16 = .ok (.istore_n 3, 1) := by decide +kernel
theorem dX7_invaders_17 : decode cX7_invaders 17 = .ok (.iload_n 3, 1) := by decide +kernel
theorem dX7_invaders_18 : decode cX7_invaders 18 = .ok (.aload_n 0, 1) := by decide +kernel
theorem dX7_invaders_19 : decode cX7_invaders 19 = .ok (.getfield 19, 3) := by decide +kernel
theorem dX7_invaders_22 : decode cX7_invaders 22 = .ok (.invokevirtual 111, 3) := by decide +kernel
theorem dX7_invaders_25 : decode cX7_invaders 25 = .ok (.if_icmp .ge 29, 3) := by decide +kernel
theorem dX7_invaders_28 : decode cX7_invaders 28 = .ok (.iload_n 3, 1) := by decide +kernel
theorem dX7_invaders_29 : decode cX7_invaders 29 = .ok (.iload_n 1, 1) := by decide +kernel
theorem dX7_invaders_30 : decode cX7_invaders 30 = .ok (.if_icmp .eq 18, 3) := by decide +kernel
theorem dX7_invaders_33 : decode cX7_invaders 33 = .ok (.aload_n 0, 1) := by decide +kernel
theorem dX7_invaders_34 : decode cX7_invaders 34 = .ok (.iload_n 1, 1) := by decide +kernel
theorem dX7_invaders_35 : decode cX7_invaders 35 = .ok (.iload_n 3, 1) := by decide +kernel
theorem dX7_invaders_36 : decode cX7_invaders 36 = .ok (.invokevirtual 250, 3) := by decide +kernel
theorem dX7_invaders_39 : decode cX7_invaders 39 = .ok (.ifCond .ne 9, 3) := by decide +kernel
theorem dX7_invaders_42 : decode cX7_invaders 42 = .ok (.iload_n 2, 1) := by decide +kernel
theorem dX7_invaders_43 : decode cX7_invaders 43 = .ok (.iconst 1, 1) := by decide +kernel
theorem dX7_invaders_44 : decode cX7_invaders 44 = .ok (.iload_n 3, 1) := by decide +kernel
theorem dX7_invaders_45 : decode cX7_invaders 45 = .ok (.ishl, 1) := by decide +kernel
theorem dX7_invaders_46 : decode cX7_invaders 46 = .ok (.iadd, 1) := by decide +kernel
theorem dX7_invaders_47 : decode cX7_invaders 47 = .ok (.istore_n 2, 1) := by decide +kernel
theorem dX7_invaders_48 : decode cX7_invaders 48 = .ok (.iinc 3 1, 3) := by decide +kernel
theorem dX7_invaders_51 : decode cX7_invaders 51 = .ok (.goto (-34), 3) := by decide +kernel
theorem dX7_invaders_54 : decode cX7_invaders 54 = .ok (.iload_n 2, 1) := by decide +kernel
theorem dX7_invaders_55 : decode cX7_invaders 55 = .ok (.ireturn, 1) := by decide +kernel
set_option maxRecDepth 20000 in
theorem ggX7_score_X2_has : GoodIn wsX7_score wsX2_has := goodIn_r _ [7, 8, 100, 101, 102, 103] (by decide +kernel) (by decide +kernel)
set_option maxRecDepth 20000 in
theorem gX7_score_X2_has : GoodIn wsX7_score (wsV RX7 201 RX2 yX2_has wsX2_has) := goodIn_app (goodIn_of _ (by decide +kernel)) ggX7_score_X2_has
set_option maxRecDepth 20000 in
theorem ggX7_score_X7_within : GoodIn wsX7_score wsX7_within := goodIn_r _ [12] (by decide +kernel) (by decide +kernel)
set_option maxRecDepth 20000 in
theorem gX7_score_X7_within : GoodIn wsX7_score (va_wsS RX7 72 yX7_within wsX7_within) := goodIn_app (goodIn_of _ (by decide +kernel)) ggX7_score_X7_within
set_option maxRecDepth 20000 in
theorem ggX7_score_X7_gainsAgainstAll : GoodIn wsX7_score wsX7_gainsAgainstAll := goodIn_r _ [16, 1, 17, 18, 19, 6, 20, 8, 21, 22, 23, 11, 24, 25, 26, 27, 28, 29, 30, 31, 32, 33, 34, 35, 36, 37, 38, 39, 40, 41, 42, 43, 44, 45, 46, 47, 48, 49, 50, 51, 52, 53, 54, 55, 56, 57, 58, 59, 60, 61, 62, 63, 64, 65, 66, 67, 68, 69, 70, 71, 72, 73, 74, 75, 76, 77, 78, 79, 80, 81, 82, 83, 84, 85, 86, 87, 88, 89, 90, 91, 92, 93, 94, 95, 96, 97, 98, 99, 100, 101, 102, 103, 104, 105, 106, 107, 108, 109, 110, 111, 112] (by decide +kernel) (by decide +kernel)
set_option maxRecDepth 20000 in
theorem gX7_score_X7_gainsAgainstAll : GoodIn wsX7_score (wsV RX7 253 RX7 yX7_gainsAgainstAll wsX7_gainsAgainstAll) := goodIn_app (goodIn_of _ (by decide +kernel)) ggX7_score_X7_gainsAgainstAll
theorem dX7_score_0 : decode cX7_score 0 = .ok (.aload_n 0, 1) := by decide +kernel
theorem dX7_score_1 : decode cX7_score 1 = .ok (.getfield 19, 3) := by decide +kernel
theorem dX7_score_4 : decode cX7_score 4 = .ok (.iload_n 1, 1) := by decide +kernel
theorem dX7_score_5 : decode cX7_score 5 = .ok (.invokevirtual 201, 3) := by decide +kernel
theorem dX7_score_8 : decode cX7_score 8 = .ok (.ifCond .eq 14, 3) := by decide +kernel
theorem dX7_score_11 : decode cX7_score 11 = .ok (.iload_n 2, 1) := by decide +kernel
theorem dX7_score_12 : decode cX7_score 12 = .ok (.iconst 0, 1) := by decide +kernel
theorem dX7_score_13 : decode cX7_score 13 = .ok (.sipush 1000, 3) := by decide +kernel
theorem dX7_score_16 : decode cX7_score 16 = .ok (.invokestatic 72, 3) := by decide +kernel
theorem dX7_score_19 : decode cX7_score 19 = .ok (.ifCond .ne 6, 3) := by decide +kernel
theorem dX7_score_22 : decode cX7_score 22 = .ok (.ldc 157, 2) := by decide +kernel
theorem dX7_score_24 : decode cX7_score 24 = .ok (.ireturn, 1) := by decide +kernel
theorem dX7_score_25 : decode cX7_score 25 = .ok (.aload_n 0, 1) := by decide +kernel
theorem dX7_score_26 : decode cX7_score 26 = .ok (.iload_n 1, 1) := by decide +kernel
theorem dX7_score_27 : decode cX7_score 27 = .ok (.iload_n 2, 1) := by decide +kernel
theorem dX7_score_28 : decode cX7_score 28 = .ok (.invokevirtual 253, 3) := by decide +kernel
theorem dX7_score_31 : decode cX7_score 31 = .ok (.ireturn, 1) := by decide +kernel
set_option maxRecDepth 20000 in
theorem ggX7_place_X7_within : GoodIn wsX7_place wsX7_within := goodIn_r _ [6] (by decide +kernel) (by decide +kernel)
set_option maxRecDepth 20000 in
theorem gX7_place_X7_within : GoodIn wsX7_place (va_wsS RX7 72 yX7_within wsX7_within) := goodIn_app (goodIn_of _ (by decide +kernel)) ggX7_place_X7_within
set_option maxRecDepth 20000 in
theorem ggX7_place_X2_many : GoodIn wsX7_place wsX2_many := goodIn_r _ [11, 12, 100, 101, 102, 103] (by decide +kernel) (by decide +kernel)
set_option maxRecDepth 20000 in
theorem gX7_place_X2_many : GoodIn wsX7_place (wsV RX7 111 RX2 yX2_many wsX2_many) := goodIn_app (goodIn_of _ (by decide +kernel)) ggX7_place_X2_many
set_option maxRecDepth 20000 in
theorem ggX7_place_X7_gainsAgainstAll : GoodIn wsX7_place wsX7_gainsAgainstAll := goodIn_r _ [16, 1, 7, 8, 9, 10, 11, 12, 17, 18, 19, 5, 20, 21, 22, 23, 24, 25, 26, 27, 28, 29, 30, 31, 32, 33, 34, 35, 36, 37, 38, 39, 40, 41, 42, 43, 44, 45, 46, 47, 48, 49, 50, 51, 52, 53, 54, 55, 56, 57, 58, 59, 60, 61, 62, 63, 64, 65, 66, 67, 68, 69, 70, 71, 72, 73, 74, 75, 76, 77, 78, 79, 80, 81, 82, 83, 84, 85, 90, 91, 92, 93, 94, 95, 96, 97, 98, 99, 100, 101, 102, 103, 104, 105, 106, 107, 108, 109, 110, 111, 112] (by decide +kernel) (by decide +kernel)
set_option maxRecDepth 20000 in
theorem gX7_place_X7_gainsAgainstAll : GoodIn wsX7_place (wsV RX7 253 RX7 yX7_gainsAgainstAll wsX7_gainsAgainstAll) := goodIn_app (goodIn_of _ (by decide +kernel)) ggX7_place_X7_gainsAgainstAll
set_option maxRecDepth 20000 in
theorem ggX7_place_X7_machinesAheadOf : GoodIn wsX7_place wsX7_machinesAheadOf := goodIn_r _ [89, 1, 2, 7, 8, 9, 10, 11, 12, 90, 91, 92, 93, 94, 95, 96, 97, 98, 99, 100, 101, 102, 103] (by decide +kernel) (by decide +kernel)
set_option maxRecDepth 20000 in
theorem gX7_place_X7_machinesAheadOf : GoodIn wsX7_place (wsV RX7 256 RX7 yX7_machinesAheadOf wsX7_machinesAheadOf) := goodIn_app (goodIn_of _ (by decide +kernel)) ggX7_place_X7_machinesAheadOf
theorem dX7_place_0 : decode cX7_place 0 = .ok (.iload_n 1, 1) := by decide +kernel
theorem dX7_place_1 : decode cX7_place 1 = .ok (.ifCond .lt 14, 3) := by decide +kernel
theorem dX7_place_4 : decode cX7_place 4 = .ok (.iload_n 2, 1) := by decide +kernel
theorem dX7_place_5 : decode cX7_place 5 = .ok (.iconst 0, 1) := by decide +kernel
theorem dX7_place_6 : decode cX7_place 6 = .ok (.sipush 1000, 3) := by decide +kernel
theorem dX7_place_9 : decode cX7_place 9 = .ok (.invokestatic 72, 3) := by decide +kernel
theorem dX7_place_12 : decode cX7_place 12 = .ok (.ifCond .ne 5, 3) := by decide +kernel
theorem dX7_place_15 : decode cX7_place 15 = .ok (.iconst (-1), 1) := by decide +kernel
theorem dX7_place_16 : decode cX7_place 16 = .ok (.ireturn, 1) := by decide +kernel
theorem dX7_place_17 : decode cX7_place 17 = .ok (.iconst 0, 1) := by decide +kernel
theorem dX7_place_18 : decode cX7_place 18 = .ok (.istore_n 3, 1) := by decide +kernel
theorem dX7_place_19 : decode cX7_place 19 = .ok (.iload_n 3, 1) := by decide +kernel
theorem dX7_place_20 : decode cX7_place 20 = .ok (.aload_n 0, 1) := by decide +kernel
theorem dX7_place_21 : decode cX7_place 21 = .ok (.getfield 19, 3) := by decide +kernel
theorem dX7_place_24 : decode cX7_place 24 = .ok (.invokevirtual 111, 3) := by decide +kernel
theorem dX7_place_27 : decode cX7_place 27 = .ok (.if_icmp .ge 21, 3) := by decide +kernel
theorem dX7_place_30 : decode cX7_place 30 = .ok (.aload_n 0, 1) := by decide +kernel
theorem dX7_place_31 : decode cX7_place 31 = .ok (.getfield 64, 3) := by decide +kernel
theorem dX7_place_34 : decode cX7_place 34 = .ok (.iload_n 3, 1) := by decide +kernel
theorem dX7_place_35 : decode cX7_place 35 = .ok (.aload_n 0, 1) := by decide +kernel
theorem dX7_place_36 : decode cX7_place 36 = .ok (.iload_n 3, 1) := by decide +kernel
theorem dX7_place_37 : decode cX7_place 37 = .ok (.iload_n 2, 1) := by decide +kernel
theorem dX7_place_38 : decode cX7_place 38 = .ok (.invokevirtual 253, 3) := by decide +kernel
theorem dX7_place_41 : decode cX7_place 41 = .ok (.iastore, 1) := by decide +kernel
theorem dX7_place_42 : decode cX7_place 42 = .ok (.iinc 3 1, 3) := by decide +kernel
theorem dX7_place_45 : decode cX7_place 45 = .ok (.goto (-26), 3) := by decide +kernel
theorem dX7_place_48 : decode cX7_place 48 = .ok (.iconst 0, 1) := by decide +kernel
theorem dX7_place_49 : decode cX7_place 49 = .ok (.istore_n 3, 1) := by decide +kernel
theorem dX7_place_50 : decode cX7_place 50 = .ok (.iload_n 3, 1) := by decide +kernel
theorem dX7_place_51 : decode cX7_place 51 = .ok (.aload_n 0, 1) := by decide +kernel
theorem dX7_place_52 : decode cX7_place 52 = .ok (.getfield 19, 3) := by decide +kernel
theorem dX7_place_55 : decode cX7_place 55 = .ok (.invokevirtual 111, 3) := by decide +kernel
theorem dX7_place_58 : decode cX7_place 58 = .ok (.if_icmp .ge 20, 3) := by decide +kernel
theorem dX7_place_61 : decode cX7_place 61 = .ok (.aload_n 0, 1) := by decide +kernel
theorem dX7_place_62 : decode cX7_place 62 = .ok (.iload_n 3, 1) := by decide +kernel
theorem dX7_place_63 : decode cX7_place 63 = .ok (.invokevirtual 256, 3) := by decide +kernel
theorem dX7_place_66 : decode cX7_place 66 = .ok (.iload_n 1, 1) := by decide +kernel
theorem dX7_place_67 : decode cX7_place 67 = .ok (.if_icmp .ne 5, 3) := by decide +kernel
theorem dX7_place_70 : decode cX7_place 70 = .ok (.iload_n 3, 1) := by decide +kernel
theorem dX7_place_71 : decode cX7_place 71 = .ok (.ireturn, 1) := by decide +kernel
theorem dX7_place_72 : decode cX7_place 72 = .ok (.iinc 3 1, 3) := by decide +kernel
theorem dX7_place_75 : decode cX7_place 75 = .ok (.goto (-25), 3) := by decide +kernel
theorem dX7_place_78 : decode cX7_place 78 = .ok (.bipush (-4), 2) := by decide +kernel
theorem dX7_place_80 : decode cX7_place 80 = .ok (.ireturn, 1) := by decide +kernel
set_option maxRecDepth 20000 in
theorem ggX7_count_X2_many : GoodIn wsX7_count wsX2_many := goodIn_r _ [8, 9, 211, 212, 213, 214] (by decide +kernel) (by decide +kernel)
set_option maxRecDepth 20000 in
theorem gX7_count_X2_many : GoodIn wsX7_count (wsV RX7 111 RX2 yX2_many wsX2_many) := goodIn_app (goodIn_of _ (by decide +kernel)) ggX7_count_X2_many
set_option maxRecDepth 20000 in
theorem ggX7_count_X1_unlikeMachines : GoodIn wsX7_count wsX1_unlikeMachines := goodIn_r _ [14, 15, 5, 6, 7, 8, 9, 16, 17, 18, 13, 19, 20, 21, 22, 23, 24, 25, 26, 27, 28, 29, 30, 31, 32, 33, 34, 35, 36, 37, 38, 39, 40, 41, 42, 43, 44, 45, 46, 47, 48, 49, 50, 51, 211, 212, 213, 214, 215] (by decide +kernel) (by decide +kernel)
set_option maxRecDepth 20000 in
theorem gX7_count_X1_unlikeMachines : GoodIn wsX7_count (wsV RX7 259 RX1 yX1_unlikeMachines wsX1_unlikeMachines) := goodIn_app (goodIn_of _ (by decide +kernel)) ggX7_count_X1_unlikeMachines
set_option maxRecDepth 20000 in
theorem ggX7_count_X7_restingPairs : GoodIn wsX7_count wsX7_restingPairs := goodIn_r _ [56, 1, 57, 58, 4, 5, 6, 7, 8, 9, 59, 60, 61, 62, 63, 64, 65, 66, 67, 68, 69, 70, 71, 72, 31, 73, 74, 75, 76, 77, 78, 79, 80, 81, 45, 46, 47, 48, 82, 40, 41, 42, 43, 83, 84, 85, 86, 87, 88, 89, 90, 91, 92, 93, 94, 95, 96, 97, 98, 99, 100, 101, 102, 103, 104, 105, 106, 107, 108, 109, 110, 111, 112, 113, 114, 115, 116, 117, 118, 119, 120, 121, 122, 123, 124, 125, 126, 127, 128, 129, 130, 131, 132, 133, 134, 135, 136, 137, 138, 139, 140, 141, 142, 143, 144, 145, 146, 147, 148, 149, 150, 151, 152, 153, 154, 155, 156, 157, 158, 159, 160, 161, 162, 163, 164, 165, 166, 167, 168, 55, 169, 170, 171, 172, 173, 174, 175, 176, 30, 32, 177, 178, 179, 180, 181, 182, 183, 184, 185, 186, 187, 188, 189, 201, 202, 203, 204, 205, 206, 207, 208, 209, 210, 211, 212, 213, 214, 216, 217, 218, 219, 220, 221, 222, 223, 224, 225, 226, 227, 228, 229, 230, 231] (by decide +kernel) (by decide +kernel)
set_option maxRecDepth 20000 in
theorem gX7_count_X7_restingPairs : GoodIn wsX7_count (wsV RX7 263 RX7 yX7_restingPairs wsX7_restingPairs) := goodIn_app (goodIn_of _ (by decide +kernel)) ggX7_count_X7_restingPairs
set_option maxRecDepth 20000 in
theorem ggX7_count_X5_isThere : GoodIn wsX7_count wsX5_isThere := goodIn_r _ [194, 195, 232, 233, 234] (by decide +kernel) (by decide +kernel)
set_option maxRecDepth 20000 in
theorem gX7_count_X5_isThere : GoodIn wsX7_count (wsV RX7 127 RX5 yX5_isThere wsX5_isThere) := goodIn_app (goodIn_of _ (by decide +kernel)) ggX7_count_X5_isThere
set_option maxRecDepth 20000 in
theorem ggX7_count_X5_cellsOf : GoodIn wsX7_count wsX5_cellsOf := goodIn_r _ [199, 200, 232, 233, 234] (by decide +kernel) (by decide +kernel)
set_option maxRecDepth 20000 in
theorem gX7_count_X5_cellsOf : GoodIn wsX7_count (wsV RX7 266 RX5 yX5_cellsOf wsX5_cellsOf) := goodIn_app (goodIn_of _ (by decide +kernel)) ggX7_count_X5_cellsOf
theorem dX7_count_0 : decode cX7_count 0 = .ok (.iload_n 1, 1) := by decide +kernel
theorem dX7_count_1 : decode cX7_count 1 = .ok (.tableswitch 81 0 3 #[31, 39, 51, 56], 31) := by decide +kernel
theorem dX7_count_32 : decode cX7_count 32 = .ok (.aload_n 0, 1) := by decide +kernel
theorem dX7_count_33 : decode cX7_count 33 = .ok (.getfield 19, 3) := by decide +kernel
theorem dX7_count_36 : decode cX7_count 36 = .ok (.invokevirtual 111, 3) := by decide +kernel
theorem dX7_count_39 : decode cX7_count 39 = .ok (.ireturn, 1) := by decide +kernel
theorem dX7_count_40 : decode cX7_count 40 = .ok (.aload_n 0, 1) := by decide +kernel
theorem dX7_count_41 : decode cX7_count 41 = .ok (.getfield 33, 3) := by decide +kernel
theorem dX7_count_44 : decode cX7_count 44 = .ok (.aload_n 0, 1) := by decide +kernel
theorem dX7_count_45 : decode cX7_count 45 = .ok (.getfield 19, 3) := by decide +kernel
theorem dX7_count_48 : decode cX7_count 48 = .ok (.invokevirtual 259, 3) := by decide +kernel
theorem dX7_count_51 : decode cX7_count 51 = .ok (.ireturn, 1) := by decide +kernel
theorem dX7_count_52 : decode cX7_count 52 = .ok (.aload_n 0, 1) := by decide +kernel
theorem dX7_count_53 : decode cX7_count 53 = .ok (.invokevirtual 263, 3) := by decide +kernel
theorem dX7_count_56 : decode cX7_count 56 = .ok (.ireturn, 1) := by decide +kernel
theorem dX7_count_57 : decode cX7_count 57 = .ok (.aload_n 0, 1) := by decide +kernel
theorem dX7_count_58 : decode cX7_count 58 = .ok (.getfield 26, 3) := by decide +kernel
theorem dX7_count_61 : decode cX7_count 61 = .ok (.iconst 0, 1) := by decide +kernel
theorem dX7_count_62 : decode cX7_count 62 = .ok (.invokevirtual 127, 3) := by decide +kernel
theorem dX7_count_65 : decode cX7_count 65 = .ok (.ifCond .eq 14, 3) := by decide +kernel
theorem dX7_count_68 : decode cX7_count 68 = .ok (.aload_n 0, 1) := by decide +kernel
theorem dX7_count_69 : decode cX7_count 69 = .ok (.getfield 26, 3) := by decide +kernel
theorem dX7_count_72 : decode cX7_count 72 = .ok (.iconst 0, 1) := by decide +kernel
theorem dX7_count_73 : decode cX7_count 73 = .ok (.invokevirtual 266, 3) := by decide +kernel
theorem dX7_count_76 : decode cX7_count 76 = .ok (.goto 5, 3) := by decide +kernel
theorem dX7_count_79 : decode cX7_count 79 = .ok (.bipush (-4), 2) := by decide +kernel
theorem dX7_count_81 : decode cX7_count 81 = .ok (.ireturn, 1) := by decide +kernel
theorem dX7_count_82 : decode cX7_count 82 = .ok (.iconst (-1), 1) := by decide +kernel
theorem dX7_count_83 : decode cX7_count 83 = .ok (.ireturn, 1) := by decide +kernel
theorem dX7_within_0 : decode cX7_within 0 = .ok (.iload_n 0, 1) := by decide +kernel
theorem dX7_within_1 : decode cX7_within 1 = .ok (.iload_n 1, 1) := by decide +kernel
theorem dX7_within_2 : decode cX7_within 2 = .ok (.if_icmp .lt 12, 3) := by decide +kernel
theorem dX7_within_5 : decode cX7_within 5 = .ok (.iload_n 0, 1) := by decide +kernel
theorem dX7_within_6 : decode cX7_within 6 = .ok (.iload_n 2, 1) := by decide +kernel
theorem dX7_within_7 : decode cX7_within 7 = .ok (.if_icmp .gt 7, 3) := by decide +kernel
theorem dX7_within_10 : decode cX7_within 10 = .ok (.iconst 1, 1) := by decide +kernel
theorem dX7_within_11 : decode cX7_within 11 = .ok (.goto 4, 3) := by decide +kernel
theorem dX7_within_14 : decode cX7_within 14 = .ok (.iconst 0, 1) := by decide +kernel
theorem dX7_within_15 : decode cX7_within 15 = .ok (.ireturn, 1) := by decide +kernel
set_option maxRecDepth 20000 in
theorem ggX7_isAction_X7_within : GoodIn wsX7_isAction wsX7_within := goodIn_r _ [4] (by decide +kernel) (by decide +kernel)
set_option maxRecDepth 20000 in
theorem gX7_isAction_X7_within : GoodIn wsX7_isAction (va_wsS RX7 72 yX7_within wsX7_within) := goodIn_app (goodIn_of _ (by decide +kernel)) ggX7_isAction_X7_within
theorem dX7_isAction_0 : decode cX7_isAction 0 = .ok (.iload_n 0, 1) := by decide +kernel
theorem dX7_isAction_1 : decode cX7_isAction 1 = .ok (.iconst 0, 1) := by decide +kernel
theorem dX7_isAction_2 : decode cX7_isAction 2 = .ok (.iconst 2, 1) := by decide +kernel
theorem dX7_isAction_3 : decode cX7_isAction 3 = .ok (.invokestatic 72, 3) := by decide +kernel
theorem dX7_isAction_6 : decode cX7_isAction 6 = .ok (.ireturn, 1) := by decide +kernel
theorem dX7_oneIf_0 : decode cX7_oneIf 0 = .ok (.iload_n 0, 1) := by decide +kernel
theorem dX7_oneIf_1 : decode cX7_oneIf 1 = .ok (.ifCond .eq 7, 3) := by decide +kernel
theorem dX7_oneIf_4 : decode cX7_oneIf 4 = .ok (.iconst 1, 1) := by decide +kernel
theorem dX7_oneIf_5 : decode cX7_oneIf 5 = .ok (.goto 4, 3) := by decide +kernel
theorem dX7_oneIf_8 : decode cX7_oneIf 8 = .ok (.iconst 0, 1) := by decide +kernel
theorem dX7_oneIf_9 : decode cX7_oneIf 9 = .ok (.ireturn, 1) := by decide +kernel
set_option maxRecDepth 20000 in
theorem ggX7_areMachines_X2_has : GoodIn wsX7_areMachines wsX2_has := goodIn_r _ [6, 7, 18, 19, 20, 21] (by decide +kernel) (by decide +kernel)
set_option maxRecDepth 20000 in
theorem gX7_areMachines_X2_has : GoodIn wsX7_areMachines (wsV RX7 201 RX2 yX2_has wsX2_has) := goodIn_app (goodIn_of _ (by decide +kernel)) ggX7_areMachines_X2_has
theorem dX7_areMachines_0 : decode cX7_areMachines 0 = .ok (.aload_n 0, 1) := by decide +kernel
theorem dX7_areMachines_1 : decode cX7_areMachines 1 = .ok (.getfield 19, 3) := by decide +kernel
theorem dX7_areMachines_4 : decode cX7_areMachines 4 = .ok (.iload_n 1, 1) := by decide +kernel
theorem dX7_areMachines_5 : decode cX7_areMachines 5 = .ok (.invokevirtual 201, 3) := by decide +kernel
theorem dX7_areMachines_8 : decode cX7_areMachines 8 = .ok (.ifCond .eq 18, 3) := by decide +kernel
theorem dX7_areMachines_11 : decode cX7_areMachines 11 = .ok (.aload_n 0, 1) := by decide +kernel
theorem dX7_areMachines_12 : decode cX7_areMachines 12 = .ok (.getfield 19, 3) := by decide +kernel
theorem dX7_areMachines_15 : decode cX7_areMachines 15 = .ok (.iload_n 2, 1) := by decide +kernel
theorem dX7_areMachines_16 : decode cX7_areMachines 16 = .ok (.invokevirtual 201, 3) := by decide +kernel
theorem dX7_areMachines_19 : decode cX7_areMachines 19 = .ok (.ifCond .eq 7, 3) := by decide +kernel
theorem dX7_areMachines_22 : decode cX7_areMachines 22 = .ok (.iconst 1, 1) := by decide +kernel
theorem dX7_areMachines_23 : decode cX7_areMachines 23 = .ok (.goto 4, 3) := by decide +kernel
theorem dX7_areMachines_26 : decode cX7_areMachines 26 = .ok (.iconst 0, 1) := by decide +kernel
theorem dX7_areMachines_27 : decode cX7_areMachines 27 = .ok (.ireturn, 1) := by decide +kernel
set_option maxRecDepth 20000 in
theorem ggX7_cellFault_X5_hasCell : GoodIn wsX7_cellFault wsX5_hasCell := goodIn_r _ [6, 7, 27, 28, 29] (by decide +kernel) (by decide +kernel)
set_option maxRecDepth 20000 in
theorem gX7_cellFault_X5_hasCell : GoodIn wsX7_cellFault (wsV RX7 130 RX5 yX5_hasCell wsX5_hasCell) := goodIn_app (goodIn_of _ (by decide +kernel)) ggX7_cellFault_X5_hasCell
set_option maxRecDepth 20000 in
theorem ggX7_cellFault_X5_cell : GoodIn wsX7_cellFault wsX5_cell := goodIn_r _ [11, 12, 27, 28, 29] (by decide +kernel) (by decide +kernel)
set_option maxRecDepth 20000 in
theorem gX7_cellFault_X5_cell : GoodIn wsX7_cellFault (wsV RX7 269 RX5 yX5_cell wsX5_cell) := goodIn_app (goodIn_of _ (by decide +kernel)) ggX7_cellFault_X5_cell
set_option maxRecDepth 20000 in
theorem ggX7_cellFault_X7_within : GoodIn wsX7_cellFault wsX7_within := goodIn_r _ [16] (by decide +kernel) (by decide +kernel)
set_option maxRecDepth 20000 in
theorem gX7_cellFault_X7_within : GoodIn wsX7_cellFault (va_wsS RX7 72 yX7_within wsX7_within) := goodIn_app (goodIn_of _ (by decide +kernel)) ggX7_cellFault_X7_within
theorem dX7_cellFault_0 : decode cX7_cellFault 0 = .ok (.iconst 0, 1) := by decide +kernel
theorem dX7_cellFault_1 : decode cX7_cellFault 1 = .ok (.istore 4, 2) := by decide +kernel
theorem dX7_cellFault_3 : decode cX7_cellFault 3 = .ok (.iload 4, 2) := by decide +kernel
theorem dX7_cellFault_5 : decode cX7_cellFault 5 = .ok (.iconst 4, 1) := by decide +kernel
theorem dX7_cellFault_6 : decode cX7_cellFault 6 = .ok (.iload_n 3, 1) := by decide +kernel
theorem dX7_cellFault_7 : decode cX7_cellFault 7 = .ok (.imul, 1) := by decide +kernel
theorem dX7_cellFault_8 : decode cX7_cellFault 8 = .ok (.if_icmp .ge 70, 3) := by decide +kernel
theorem dX7_cellFault_11 : decode cX7_cellFault 11 = .ok (.aload_n 0, 1) := by decide +kernel
theorem dX7_cellFault_12 : decode cX7_cellFault 12 = .ok (.getfield 26, 3) := by decide +kernel
theorem dX7_cellFault_15 : decode cX7_cellFault 15 = .ok (.iload_n 1, 1) := by decide +kernel
theorem dX7_cellFault_16 : decode cX7_cellFault 16 = .ok (.iload_n 2, 1) := by decide +kernel
theorem dX7_cellFault_17 : decode cX7_cellFault 17 = .ok (.iload 4, 2) := by decide +kernel
theorem dX7_cellFault_19 : decode cX7_cellFault 19 = .ok (.iadd, 1) := by decide +kernel
theorem dX7_cellFault_20 : decode cX7_cellFault 20 = .ok (.invokevirtual 130, 3) := by decide +kernel
theorem dX7_cellFault_23 : decode cX7_cellFault 23 = .ok (.ifCond .ne 6, 3) := by decide +kernel
theorem dX7_cellFault_26 : decode cX7_cellFault 26 = .ok (.bipush (-12), 2) := by decide +kernel
theorem dX7_cellFault_28 : decode cX7_cellFault 28 = .ok (.ireturn, 1) := by decide +kernel
theorem dX7_cellFault_29 : decode cX7_cellFault 29 = .ok (.iload 4, 2) := by decide +kernel
theorem dX7_cellFault_31 : decode cX7_cellFault 31 = .ok (.iconst 4, 1) := by decide +kernel
theorem dX7_cellFault_32 : decode cX7_cellFault 32 = .ok (.irem, 1) := by decide +kernel
theorem dX7_cellFault_33 : decode cX7_cellFault 33 = .ok (.ifCond .ne 7, 3) := by decide +kernel
theorem dX7_cellFault_36 : decode cX7_cellFault 36 = .ok (.iconst 2, 1) := by decide +kernel
theorem dX7_cellFault_37 : decode cX7_cellFault 37 = .ok (.goto 6, 3) := by decide +kernel
theorem dX7_cellFault_40 : decode cX7_cellFault 40 = .ok (.iload_n 3, 1) := by decide +kernel
theorem dX7_cellFault_41 : decode cX7_cellFault 41 = .ok (.iconst 1, 1) := by decide +kernel
theorem dX7_cellFault_42 : decode cX7_cellFault 42 = .ok (.isub, 1) := by decide +kernel
theorem dX7_cellFault_43 : decode cX7_cellFault 43 = .ok (.istore 5, 2) := by decide +kernel
theorem dX7_cellFault_45 : decode cX7_cellFault 45 = .ok (.aload_n 0, 1) := by decide +kernel
theorem dX7_cellFault_46 : decode cX7_cellFault 46 = .ok (.getfield 26, 3) := by decide +kernel
theorem dX7_cellFault_49 : decode cX7_cellFault 49 = .ok (.iload_n 1, 1) := by decide +kernel
theorem dX7_cellFault_50 : decode cX7_cellFault 50 = .ok (.iload_n 2, 1) := by decide +kernel
theorem dX7_cellFault_51 : decode cX7_cellFault 51 = .ok (.iload 4, 2) := by decide +kernel
theorem dX7_cellFault_53 : decode cX7_cellFault 53 = .ok (.iadd, 1) := by decide +kernel
theorem dX7_cellFault_54 : decode cX7_cellFault 54 = .ok (.invokevirtual 269, 3) := by decide +kernel
theorem dX7_cellFault_57 : decode cX7_cellFault 57 = .ok (.iconst 0, 1) := by decide +kernel
theorem dX7_cellFault_58 : decode cX7_cellFault 58 = .ok (.iload 5, 2) := by decide +kernel
theorem dX7_cellFault_60 : decode cX7_cellFault 60 = .ok (.invokestatic 72, 3) := by decide +kernel
theorem dX7_cellFault_63 : decode cX7_cellFault 63 = .ok (.ifCond .ne 9, 3) := by decide +kernel
theorem dX7_cellFault_66 : decode cX7_cellFault 66 = .ok (.bipush (-20), 2) := by decide +kernel
theorem dX7_cellFault_68 : decode cX7_cellFault 68 = .ok (.iload 4, 2) := by decide +kernel
theorem dX7_cellFault_70 : decode cX7_cellFault 70 = .ok (.isub, 1) := by decide +kernel
theorem dX7_cellFault_71 : decode cX7_cellFault 71 = .ok (.ireturn, 1) := by decide +kernel
theorem dX7_cellFault_72 : decode cX7_cellFault 72 = .ok (.iinc 4 1, 3) := by decide +kernel
theorem dX7_cellFault_75 : decode cX7_cellFault 75 = .ok (.goto (-72), 3) := by decide +kernel
theorem dX7_cellFault_78 : decode cX7_cellFault 78 = .ok (.iconst 0, 1) := by decide +kernel
theorem dX7_cellFault_79 : decode cX7_cellFault 79 = .ok (.ireturn, 1) := by decide +kernel
set_option maxRecDepth 20000 in
theorem ggX7_readMachine_X2_add : GoodIn wsX7_readMachine wsX2_add := goodIn_r _ [7, 8, 9, 10, 11, 12, 6, 13, 14, 15, 16, 17, 18, 19, 38, 39, 40, 41] (by decide +kernel) (by decide +kernel)
set_option maxRecDepth 20000 in
theorem gX7_readMachine_X2_add : GoodIn wsX7_readMachine (wsV RX7 88 RX2 yX2_add wsX2_add) := goodIn_app (goodIn_of _ (by decide +kernel)) ggX7_readMachine_X2_add
set_option maxRecDepth 20000 in
theorem ggX7_readMachine_X5_cell : GoodIn wsX7_readMachine wsX5_cell := goodIn_r _ [24, 25, 42, 43, 44] (by decide +kernel) (by decide +kernel)
set_option maxRecDepth 20000 in
theorem gX7_readMachine_X5_cell : GoodIn wsX7_readMachine (wsV RX7 269 RX5 yX5_cell wsX5_cell) := goodIn_app (goodIn_of _ (by decide +kernel)) ggX7_readMachine_X5_cell
set_option maxRecDepth 20000 in
theorem ggX7_readMachine_X2_setAction : GoodIn wsX7_readMachine wsX2_setAction := goodIn_r _ [13, 14, 38, 39, 40, 41] (by decide +kernel) (by decide +kernel)
set_option maxRecDepth 20000 in
theorem gX7_readMachine_X2_setAction : GoodIn wsX7_readMachine (wsV RX7 96 RX2 yX2_setAction wsX2_setAction) := goodIn_app (goodIn_of _ (by decide +kernel)) ggX7_readMachine_X2_setAction
set_option maxRecDepth 20000 in
theorem ggX7_readMachine_X2_setNext : GoodIn wsX7_readMachine wsX2_setNext := goodIn_r _ [18, 19, 38, 39, 40, 41] (by decide +kernel) (by decide +kernel)
set_option maxRecDepth 20000 in
theorem gX7_readMachine_X2_setNext : GoodIn wsX7_readMachine (wsV RX7 99 RX2 yX2_setNext wsX2_setNext) := goodIn_app (goodIn_of _ (by decide +kernel)) ggX7_readMachine_X2_setNext
theorem dX7_readMachine_0 : decode cX7_readMachine 0 = .ok (.aload_n 0, 1) := by decide +kernel
theorem dX7_readMachine_1 : decode cX7_readMachine 1 = .ok (.getfield 19, 3) := by decide +kernel
theorem dX7_readMachine_4 : decode cX7_readMachine 4 = .ok (.iload_n 3, 1) := by decide +kernel
theorem dX7_readMachine_5 : decode cX7_readMachine 5 = .ok (.invokevirtual 88, 3) := by decide +kernel
theorem dX7_readMachine_8 : decode cX7_readMachine 8 = .ok (.istore 4, 2) := by decide +kernel
theorem dX7_readMachine_10 : decode cX7_readMachine 10 = .ok (.iconst 0, 1) := by decide +kernel
theorem dX7_readMachine_11 : decode cX7_readMachine 11 = .ok (.istore 5, 2) := by decide +kernel
theorem dX7_readMachine_13 : decode cX7_readMachine 13 = .ok (.iload 5, 2) := by decide +kernel
theorem dX7_readMachine_15 : decode cX7_readMachine 15 = .ok (.iload_n 3, 1) := by decide +kernel
theorem dX7_readMachine_16 : decode cX7_readMachine 16 = .ok (.if_icmp .ge 81, 3) := by decide +kernel
theorem dX7_readMachine_19 : decode cX7_readMachine 19 = .ok (.iload_n 2, 1) := by decide +kernel
theorem dX7_readMachine_20 : decode cX7_readMachine 20 = .ok (.iconst 4, 1) := by decide +kernel
theorem dX7_readMachine_21 : decode cX7_readMachine 21 = .ok (.iload 5, 2) := by decide +kernel
theorem dX7_readMachine_23 : decode cX7_readMachine 23 = .ok (.imul, 1) := by decide +kernel
theorem dX7_readMachine_24 : decode cX7_readMachine 24 = .ok (.iadd, 1) := by decide +kernel
theorem dX7_readMachine_25 : decode cX7_readMachine 25 = .ok (.istore 6, 2) := by decide +kernel
theorem dX7_readMachine_27 : decode cX7_readMachine 27 = .ok (.aload_n 0, 1) := by decide +kernel
theorem dX7_readMachine_28 : decode cX7_readMachine 28 = .ok (.getfield 19, 3) := by decide +kernel
theorem dX7_readMachine_31 : decode cX7_readMachine 31 = .ok (.iload 4, 2) := by decide +kernel
theorem dX7_readMachine_33 : decode cX7_readMachine 33 = .ok (.iload 5, 2) := by decide +kernel
theorem dX7_readMachine_35 : decode cX7_readMachine 35 = .ok (.aload_n 0, 1) := by decide +kernel
theorem dX7_readMachine_36 : decode cX7_readMachine 36 = .ok (.getfield 26, 3) := by decide +kernel
theorem dX7_readMachine_39 : decode cX7_readMachine 39 = .ok (.iload_n 1, 1) := by decide +kernel
theorem dX7_readMachine_40 : decode cX7_readMachine 40 = .ok (.iload 6, 2) := by decide +kernel
theorem dX7_readMachine_42 : decode cX7_readMachine 42 = .ok (.invokevirtual 269, 3) := by decide +kernel
theorem dX7_readMachine_45 : decode cX7_readMachine 45 = .ok (.invokevirtual 96, 3) := by decide +kernel
theorem dX7_readMachine_48 : decode cX7_readMachine 48 = .ok (.iconst 0, 1) := by decide +kernel
theorem dX7_readMachine_49 : decode cX7_readMachine 49 = .ok (.istore 7, 2) := by decide +kernel
theorem dX7_readMachine_51 : decode cX7_readMachine 51 = .ok (.iload 7, 2) := by decide +kernel
theorem dX7_readMachine_53 : decode cX7_readMachine 53 = .ok (.iconst 3, 1) := by decide +kernel
theorem dX7_readMachine_54 : decode cX7_readMachine 54 = .ok (.if_icmp .ge 37, 3) := by decide +kernel
theorem dX7_readMachine_57 : decode cX7_readMachine 57 = .ok (.aload_n 0, 1) := by decide +kernel
theorem dX7_readMachine_58 : decode cX7_readMachine 58 = .ok (.getfield 19, 3) := by decide +kernel
theorem dX7_readMachine_61 : decode cX7_readMachine 61 = .ok (.iload 4, 2) := by decide +kernel
theorem dX7_readMachine_63 : decode cX7_readMachine 63 = .ok (.iload 5, 2) := by decide +kernel
theorem dX7_readMachine_65 : decode cX7_readMachine 65 = .ok (.iload 7, 2) := by decide +kernel
theorem dX7_readMachine_67 : decode cX7_readMachine 67 = .ok (.aload_n 0, 1) := by decide +kernel
theorem dX7_readMachine_68 : decode cX7_readMachine 68 = .ok (.getfield 26, 3) := by decide +kernel
theorem dX7_readMachine_71 : decode cX7_readMachine 71 = .ok (.iload_n 1, 1) := by decide +kernel
theorem dX7_readMachine_72 : decode cX7_readMachine 72 = .ok (.iload 6, 2) := by decide +kernel
theorem dX7_readMachine_74 : decode cX7_readMachine 74 = .ok (.iconst 1, 1) := by decide +kernel
theorem dX7_readMachine_75 : decode cX7_readMachine 75 = .ok (.iadd, 1) := by decide +kernel
theorem dX7_readMachine_76 : decode cX7_readMachine 76 = .ok (.iload 7, 2) := by decide +kernel
theorem dX7_readMachine_78 : decode cX7_readMachine 78 = .ok (.iadd, 1) := by decide +kernel
theorem dX7_readMachine_79 : decode cX7_readMachine 79 = .ok (.invokevirtual 269, 3) := by decide +kernel
theorem dX7_readMachine_82 : decode cX7_readMachine 82 = .ok (.invokevirtual 99, 3) := by decide +kernel
theorem dX7_readMachine_85 : decode cX7_readMachine 85 = .ok (.iinc 7 1, 3) := by decide +kernel
theorem dX7_readMachine_88 : decode cX7_readMachine 88 = .ok (.goto (-37), 3) := by decide +kernel
theorem dX7_readMachine_91 : decode cX7_readMachine 91 = .ok (.iinc 5 1, 3) := by decide +kernel
theorem dX7_readMachine_94 : decode cX7_readMachine 94 = .ok (.goto (-81), 3) := by decide +kernel
theorem dX7_readMachine_97 : decode cX7_readMachine 97 = .ok (.iload 4, 2) := by decide +kernel
theorem dX7_readMachine_99 : decode cX7_readMachine 99 = .ok (.ireturn, 1) := by decide +kernel
set_option maxRecDepth 20000 in
theorem ggX7_playOut_X6_takeMatch : GoodIn wsX7_playOut wsX6_takeMatch := goodIn_r _ [8, 9, 10, 11, 12, 13, 14, 15, 16, 17, 18, 19, 20, 21, 22, 23, 7, 24, 25, 26, 27, 28, 29, 30, 31, 32, 33, 34, 35, 58, 59, 60, 61, 62, 63, 64, 65, 66, 67, 68, 69, 70] (by decide +kernel) (by decide +kernel)
set_option maxRecDepth 20000 in
theorem gX7_playOut_X6_takeMatch : GoodIn wsX7_playOut (wsV RX7 272 RX6 yX6_takeMatch wsX6_takeMatch) := goodIn_app (goodIn_of _ (by decide +kernel)) ggX7_playOut_X6_takeMatch
set_option maxRecDepth 20000 in
theorem ggX7_playOut_X6_startAt : GoodIn wsX7_playOut wsX6_startAt := goodIn_r _ [39, 40, 41, 9, 42, 43, 44, 45, 46, 47, 58, 59, 60, 61, 62, 63] (by decide +kernel) (by decide +kernel)
set_option maxRecDepth 20000 in
theorem gX7_playOut_X6_startAt : GoodIn wsX7_playOut (wsV RX7 275 RX6 yX6_startAt wsX6_startAt) := goodIn_app (goodIn_of _ (by decide +kernel)) ggX7_playOut_X6_startAt
theorem dX7_playOut_0 : decode cX7_playOut 0 = .ok (.aload_n 0, 1) := by decide +kernel
theorem dX7_playOut_1 : decode cX7_playOut 1 = .ok (.getfield 47, 3) := by decide +kernel
theorem dX7_playOut_4 : decode cX7_playOut 4 = .ok (.aload_n 0, 1) := by decide +kernel
theorem dX7_playOut_5 : decode cX7_playOut 5 = .ok (.getfield 10, 3) := by decide +kernel
theorem dX7_playOut_8 : decode cX7_playOut 8 = .ok (.aload_n 0, 1) := by decide +kernel
theorem dX7_playOut_9 : decode cX7_playOut 9 = .ok (.getfield 19, 3) := by decide +kernel
theorem dX7_playOut_12 : decode cX7_playOut 12 = .ok (.iload_n 1, 1) := by decide +kernel
theorem dX7_playOut_13 : decode cX7_playOut 13 = .ok (.iload_n 2, 1) := by decide +kernel
theorem dX7_playOut_14 : decode cX7_playOut 14 = .ok (.invokevirtual 272, 3) := by decide +kernel
theorem dX7_playOut_17 : decode cX7_playOut 17 = .ok (.aload_n 0, 1) := by decide +kernel
theorem dX7_playOut_18 : decode cX7_playOut 18 = .ok (.getfield 47, 3) := by decide +kernel
theorem dX7_playOut_21 : decode cX7_playOut 21 = .ok (.iconst 0, 1) := by decide +kernel
theorem dX7_playOut_22 : decode cX7_playOut 22 = .ok (.invokevirtual 275, 3) := by decide +kernel
theorem dX7_playOut_25 : decode cX7_playOut 25 = .ok (.return_, 1) := by decide +kernel
set_option maxRecDepth 20000 in
theorem ggX7_gainsOf_X7_playOut : GoodIn wsX7_gainsOf wsX7_playOut := goodIn_r _ [6, 1, 7, 8, 9, 10, 11, 12, 13, 14, 15, 16, 17, 18, 19, 20, 21, 22, 23, 24, 25, 26, 27, 28, 29, 30, 31, 32, 33, 34, 35, 36, 37, 38, 39, 40, 41, 42, 43, 44, 45, 46, 47, 48, 49, 50, 51, 52, 69, 70, 71, 72, 73, 74, 75, 76, 77, 78, 79, 80, 81, 82, 83, 84, 85, 86, 87, 88, 89, 90, 91] (by decide +kernel) (by decide +kernel)
set_option maxRecDepth 20000 in
theorem gX7_gainsOf_X7_playOut : GoodIn wsX7_gainsOf (wsV RX7 148 RX7 yX7_playOut wsX7_playOut) := goodIn_app (goodIn_of _ (by decide +kernel)) ggX7_gainsOf_X7_playOut
set_option maxRecDepth 20000 in
theorem ggX7_gainsOf_X6_gainsOfFirst : GoodIn wsX7_gainsOf wsX6_gainsOfFirst := goodIn_r _ [56, 47, 48, 57, 58, 59, 12, 60, 15, 46, 61, 62, 63, 64, 65, 66, 67, 68, 79, 80, 81, 82, 83, 84] (by decide +kernel) (by decide +kernel)
set_option maxRecDepth 20000 in
theorem gX7_gainsOf_X6_gainsOfFirst : GoodIn wsX7_gainsOf (wsV RX7 279 RX6 yX6_gainsOfFirst wsX6_gainsOfFirst) := goodIn_app (goodIn_of _ (by decide +kernel)) ggX7_gainsOf_X6_gainsOfFirst
theorem dX7_gainsOf_0 : decode cX7_gainsOf 0 = .ok (.aload_n 0, 1) := by decide +kernel
theorem dX7_gainsOf_1 : decode cX7_gainsOf 1 = .ok (.iload_n 1, 1) := by decide +kernel
theorem dX7_gainsOf_2 : decode cX7_gainsOf 2 = .ok (.iload_n 2, 1) := by decide +kernel
theorem dX7_gainsOf_3 : decode cX7_gainsOf 3 = .ok (.invokevirtual 148, 3) := by decide +kernel
theorem dX7_gainsOf_6 : decode cX7_gainsOf 6 = .ok (.aload_n 0, 1) := by decide +kernel
theorem dX7_gainsOf_7 : decode cX7_gainsOf 7 = .ok (.getfield 47, 3) := by decide +kernel
theorem dX7_gainsOf_10 : decode cX7_gainsOf 10 = .ok (.iload_n 3, 1) := by decide +kernel
theorem dX7_gainsOf_11 : decode cX7_gainsOf 11 = .ok (.invokevirtual 279, 3) := by decide +kernel
theorem dX7_gainsOf_14 : decode cX7_gainsOf 14 = .ok (.ireturn, 1) := by decide +kernel
set_option maxRecDepth 20000 in
theorem ggX7_matchWorth_X7_playOut : GoodIn wsX7_matchWorth wsX7_playOut := goodIn_r _ [7, 1, 2, 8, 9, 10, 11, 12, 13, 14, 15, 16, 17, 18, 19, 20, 21, 22, 23, 24, 25, 26, 27, 28, 29, 30, 31, 32, 33, 34, 35, 36, 37, 38, 39, 40, 41, 42, 43, 44, 45, 46, 47, 48, 49, 50, 51, 52, 88, 89, 90, 91, 92, 93, 94, 95, 96, 97, 98, 99, 100, 101, 102, 103, 104, 105, 106, 107, 108, 109, 110] (by decide +kernel) (by decide +kernel)
set_option maxRecDepth 20000 in
theorem gX7_matchWorth_X7_playOut : GoodIn wsX7_matchWorth (wsV RX7 148 RX7 yX7_playOut wsX7_playOut) := goodIn_app (goodIn_of _ (by decide +kernel)) ggX7_matchWorth_X7_playOut
set_option maxRecDepth 20000 in
theorem ggX7_matchWorth_X6_worthInto : GoodIn wsX7_matchWorth wsX6_worthInto := goodIn_r _ [56, 48, 47, 57, 58, 59, 38, 60, 61, 62, 63, 64, 65, 66, 67, 68, 12, 69, 70, 71, 72, 73, 15, 46, 74, 75, 76, 77, 78, 79, 80, 81, 82, 83, 84, 85, 86, 87, 98, 99, 100, 101, 102, 103, 108, 109, 110, 111, 112] (by decide +kernel) (by decide +kernel)
set_option maxRecDepth 20000 in
theorem gX7_matchWorth_X6_worthInto : GoodIn wsX7_matchWorth (wsV RX7 282 RX6 yX6_worthInto wsX6_worthInto) := goodIn_app (goodIn_of _ (by decide +kernel)) ggX7_matchWorth_X6_worthInto
theorem dX7_matchWorth_0 : decode cX7_matchWorth 0 = .ok (.aload_n 0, 1) := by decide +kernel
theorem dX7_matchWorth_1 : decode cX7_matchWorth 1 = .ok (.iload_n 1, 1) := by decide +kernel
theorem dX7_matchWorth_2 : decode cX7_matchWorth 2 = .ok (.iload_n 2, 1) := by decide +kernel
theorem dX7_matchWorth_3 : decode cX7_matchWorth 3 = .ok (.invokevirtual 148, 3) := by decide +kernel
theorem dX7_matchWorth_6 : decode cX7_matchWorth 6 = .ok (.aload_n 0, 1) := by decide +kernel
theorem dX7_matchWorth_7 : decode cX7_matchWorth 7 = .ok (.getfield 47, 3) := by decide +kernel
theorem dX7_matchWorth_10 : decode cX7_matchWorth 10 = .ok (.aload_n 0, 1) := by decide +kernel
theorem dX7_matchWorth_11 : decode cX7_matchWorth 11 = .ok (.getfield 10, 3) := by decide +kernel
theorem dX7_matchWorth_14 : decode cX7_matchWorth 14 = .ok (.aload_n 3, 1) := by decide +kernel
theorem dX7_matchWorth_15 : decode cX7_matchWorth 15 = .ok (.invokevirtual 282, 3) := by decide +kernel
theorem dX7_matchWorth_18 : decode cX7_matchWorth 18 = .ok (.return_, 1) := by decide +kernel
set_option maxRecDepth 20000 in
theorem ggX7_placeBehindSlip_X6_mine : GoodIn wsX7_placeBehindSlip wsX6_mine := goodIn_r _ [5] (by decide +kernel) (by decide +kernel)
set_option maxRecDepth 20000 in
theorem gX7_placeBehindSlip_X6_mine : GoodIn wsX7_placeBehindSlip (va_wsS RX7 154 yX6_mine wsX6_mine) := goodIn_app (goodIn_of _ (by decide +kernel)) ggX7_placeBehindSlip_X6_mine
set_option maxRecDepth 20000 in
theorem ggX7_placeBehindSlip_X6_theirs : GoodIn wsX7_placeBehindSlip wsX6_theirs := goodIn_r _ [8] (by decide +kernel) (by decide +kernel)
set_option maxRecDepth 20000 in
theorem gX7_placeBehindSlip_X6_theirs : GoodIn wsX7_placeBehindSlip (va_wsS RX7 243 yX6_theirs wsX6_theirs) := goodIn_app (goodIn_of _ (by decide +kernel)) ggX7_placeBehindSlip_X6_theirs
set_option maxRecDepth 20000 in
theorem ggX7_placeBehindSlip_X2_actionOf : GoodIn wsX7_placeBehindSlip wsX2_actionOf := goodIn_r _ [13, 14, 33, 34, 35, 36] (by decide +kernel) (by decide +kernel)
set_option maxRecDepth 20000 in
theorem gX7_placeBehindSlip_X2_actionOf : GoodIn wsX7_placeBehindSlip (wsV RX7 103 RX2 yX2_actionOf wsX2_actionOf) := goodIn_app (goodIn_of _ (by decide +kernel)) ggX7_placeBehindSlip_X2_actionOf
set_option maxRecDepth 20000 in
theorem ggX7_placeBehindSlip_X2_nextOf : GoodIn wsX7_placeBehindSlip wsX2_nextOf := goodIn_r _ [18, 19, 33, 34, 35, 36] (by decide +kernel) (by decide +kernel)
set_option maxRecDepth 20000 in
theorem gX7_placeBehindSlip_X2_nextOf : GoodIn wsX7_placeBehindSlip (wsV RX7 107 RX2 yX2_nextOf wsX2_nextOf) := goodIn_app (goodIn_of _ (by decide +kernel)) ggX7_placeBehindSlip_X2_nextOf
set_option maxRecDepth 20000 in
theorem ggX7_placeBehindSlip_X6_placeOf : GoodIn wsX7_placeBehindSlip wsX6_placeOf := goodIn_r _ [22] (by decide +kernel) (by decide +kernel)
set_option maxRecDepth 20000 in
theorem gX7_placeBehindSlip_X6_placeOf : GoodIn wsX7_placeBehindSlip (va_wsS RX7 286 yX6_placeOf wsX6_placeOf) := goodIn_app (goodIn_of _ (by decide +kernel)) ggX7_placeBehindSlip_X6_placeOf
theorem dX7_placeBehindSlip_0 : decode cX7_placeBehindSlip 0 = .ok (.iload_n 3, 1) := by decide +kernel
theorem dX7_placeBehindSlip_1 : decode cX7_placeBehindSlip 1 = .ok (.invokestatic 154, 3) := by decide +kernel
theorem dX7_placeBehindSlip_4 : decode cX7_placeBehindSlip 4 = .ok (.istore 4, 2) := by decide +kernel
theorem dX7_placeBehindSlip_6 : decode cX7_placeBehindSlip 6 = .ok (.iload_n 3, 1) := by decide +kernel
theorem dX7_placeBehindSlip_7 : decode cX7_placeBehindSlip 7 = .ok (.invokestatic 243, 3) := by decide +kernel
theorem dX7_placeBehindSlip_10 : decode cX7_placeBehindSlip 10 = .ok (.istore 5, 2) := by decide +kernel
theorem dX7_placeBehindSlip_12 : decode cX7_placeBehindSlip 12 = .ok (.aload_n 0, 1) := by decide +kernel
theorem dX7_placeBehindSlip_13 : decode cX7_placeBehindSlip 13 = .ok (.getfield 19, 3) := by decide +kernel
theorem dX7_placeBehindSlip_16 : decode cX7_placeBehindSlip 16 = .ok (.iload_n 1, 1) := by decide +kernel
theorem dX7_placeBehindSlip_17 : decode cX7_placeBehindSlip 17 = .ok (.iload 4, 2) := by decide +kernel
theorem dX7_placeBehindSlip_19 : decode cX7_placeBehindSlip 19 = .ok (.invokevirtual 103, 3) := by decide +kernel
theorem dX7_placeBehindSlip_22 : decode cX7_placeBehindSlip 22 = .ok (.iconst 1, 1) := by decide +kernel
theorem dX7_placeBehindSlip_23 : decode cX7_placeBehindSlip 23 = .ok (.iadd, 1) := by decide +kernel
theorem dX7_placeBehindSlip_24 : decode cX7_placeBehindSlip 24 = .ok (.iconst 3, 1) := by decide +kernel
theorem dX7_placeBehindSlip_25 : decode cX7_placeBehindSlip 25 = .ok (.irem, 1) := by decide +kernel
theorem dX7_placeBehindSlip_26 : decode cX7_placeBehindSlip 26 = .ok (.istore 6, 2) := by decide +kernel
theorem dX7_placeBehindSlip_28 : decode cX7_placeBehindSlip 28 = .ok (.aload_n 0, 1) := by decide +kernel
theorem dX7_placeBehindSlip_29 : decode cX7_placeBehindSlip 29 = .ok (.getfield 19, 3) := by decide +kernel
theorem dX7_placeBehindSlip_32 : decode cX7_placeBehindSlip 32 = .ok (.iload_n 1, 1) := by decide +kernel
theorem dX7_placeBehindSlip_33 : decode cX7_placeBehindSlip 33 = .ok (.iload 4, 2) := by decide +kernel
theorem dX7_placeBehindSlip_35 : decode cX7_placeBehindSlip 35 = .ok (.aload_n 0, 1) := by decide +kernel
theorem dX7_placeBehindSlip_36 : decode cX7_placeBehindSlip 36 = .ok (.getfield 19, 3) := by decide +kernel
theorem dX7_placeBehindSlip_39 : decode cX7_placeBehindSlip 39 = .ok (.iload_n 2, 1) := by decide +kernel
theorem dX7_placeBehindSlip_40 : decode cX7_placeBehindSlip 40 = .ok (.iload 5, 2) := by decide +kernel
theorem dX7_placeBehindSlip_42 : decode cX7_placeBehindSlip 42 = .ok (.invokevirtual 103, 3) := by decide +kernel
theorem dX7_placeBehindSlip_45 : decode cX7_placeBehindSlip 45 = .ok (.invokevirtual 107, 3) := by decide +kernel
theorem dX7_placeBehindSlip_48 : decode cX7_placeBehindSlip 48 = .ok (.aload_n 0, 1) := by decide +kernel
theorem dX7_placeBehindSlip_49 : decode cX7_placeBehindSlip 49 = .ok (.getfield 19, 3) := by decide +kernel
theorem dX7_placeBehindSlip_52 : decode cX7_placeBehindSlip 52 = .ok (.iload_n 2, 1) := by decide +kernel
theorem dX7_placeBehindSlip_53 : decode cX7_placeBehindSlip 53 = .ok (.iload 5, 2) := by decide +kernel
theorem dX7_placeBehindSlip_55 : decode cX7_placeBehindSlip 55 = .ok (.iload 6, 2) := by decide +kernel
theorem dX7_placeBehindSlip_57 : decode cX7_placeBehindSlip 57 = .ok (.invokevirtual 107, 3) := by decide +kernel
theorem dX7_placeBehindSlip_60 : decode cX7_placeBehindSlip 60 = .ok (.invokestatic 286, 3) := by decide +kernel
theorem dX7_placeBehindSlip_63 : decode cX7_placeBehindSlip 63 = .ok (.ireturn, 1) := by decide +kernel
set_option maxRecDepth 20000 in
theorem ggX7_takeBothSides_X6_takeMatch : GoodIn wsX7_takeBothSides wsX6_takeMatch := goodIn_r _ [9, 10, 11, 12, 13, 14, 15, 16, 17, 18, 19, 20, 21, 22, 23, 24, 8, 25, 26, 27, 28, 29, 30, 31, 32, 33, 34, 35, 36, 47, 48, 49, 50, 51, 52, 53, 54, 55, 56, 57, 58, 59] (by decide +kernel) (by decide +kernel)
set_option maxRecDepth 20000 in
theorem gX7_takeBothSides_X6_takeMatch : GoodIn wsX7_takeBothSides (wsV RX7 272 RX6 yX6_takeMatch wsX6_takeMatch) := goodIn_app (goodIn_of _ (by decide +kernel)) ggX7_takeBothSides_X6_takeMatch
theorem dX7_takeBothSides_0 : decode cX7_takeBothSides 0 = .ok (.aload_n 0, 1) := by decide +kernel
theorem dX7_takeBothSides_1 : decode cX7_takeBothSides 1 = .ok (.getfield 47, 3) := by decide +kernel
theorem dX7_takeBothSides_4 : decode cX7_takeBothSides 4 = .ok (.aload_n 0, 1) := by decide +kernel
theorem dX7_takeBothSides_5 : decode cX7_takeBothSides 5 = .ok (.getfield 10, 3) := by decide +kernel
theorem dX7_takeBothSides_8 : decode cX7_takeBothSides 8 = .ok (.aload_n 0, 1) := by decide +kernel
theorem dX7_takeBothSides_9 : decode cX7_takeBothSides 9 = .ok (.getfield 19, 3) := by decide +kernel
theorem dX7_takeBothSides_12 : decode cX7_takeBothSides 12 = .ok (.iload_n 1, 1) := by decide +kernel
theorem dX7_takeBothSides_13 : decode cX7_takeBothSides 13 = .ok (.iload_n 2, 1) := by decide +kernel
theorem dX7_takeBothSides_14 : decode cX7_takeBothSides 14 = .ok (.invokevirtual 272, 3) := by decide +kernel
theorem dX7_takeBothSides_17 : decode cX7_takeBothSides 17 = .ok (.aload_n 0, 1) := by decide +kernel
theorem dX7_takeBothSides_18 : decode cX7_takeBothSides 18 = .ok (.getfield 51, 3) := by decide +kernel
theorem dX7_takeBothSides_21 : decode cX7_takeBothSides 21 = .ok (.aload_n 0, 1) := by decide +kernel
theorem dX7_takeBothSides_22 : decode cX7_takeBothSides 22 = .ok (.getfield 10, 3) := by decide +kernel
theorem dX7_takeBothSides_25 : decode cX7_takeBothSides 25 = .ok (.aload_n 0, 1) := by decide +kernel
theorem dX7_takeBothSides_26 : decode cX7_takeBothSides 26 = .ok (.getfield 19, 3) := by decide +kernel
theorem dX7_takeBothSides_29 : decode cX7_takeBothSides 29 = .ok (.iload_n 2, 1) := by decide +kernel
theorem dX7_takeBothSides_30 : decode cX7_takeBothSides 30 = .ok (.iload_n 1, 1) := by decide +kernel
theorem dX7_takeBothSides_31 : decode cX7_takeBothSides 31 = .ok (.invokevirtual 272, 3) := by decide +kernel
theorem dX7_takeBothSides_34 : decode cX7_takeBothSides 34 = .ok (.return_, 1) := by decide +kernel
set_option maxRecDepth 20000 in
theorem ggX7_gainsByPlan_X6_startAt : GoodIn wsX7_gainsByPlan wsX6_startAt := goodIn_r _ [8, 9, 10, 11, 12, 13, 14, 15, 16, 17, 83, 84, 85, 86, 87, 88] (by decide +kernel) (by decide +kernel)
set_option maxRecDepth 20000 in
theorem gX7_gainsByPlan_X6_startAt : GoodIn wsX7_gainsByPlan (wsV RX7 275 RX6 yX6_startAt wsX6_startAt) := goodIn_app (goodIn_of _ (by decide +kernel)) ggX7_gainsByPlan_X6_startAt
set_option maxRecDepth 20000 in
theorem ggX7_gainsByPlan_X6_worthInto : GoodIn wsX7_gainsByPlan wsX6_worthInto := goodIn_r _ [21, 13, 12, 22, 23, 24, 25, 26, 27, 28, 29, 30, 31, 32, 33, 34, 7, 35, 36, 37, 38, 39, 40, 10, 41, 42, 43, 44, 45, 46, 47, 48, 49, 50, 51, 52, 53, 54, 83, 84, 85, 86, 87, 88, 89, 90, 91, 92, 93] (by decide +kernel) (by decide +kernel)
set_option maxRecDepth 20000 in
theorem gX7_gainsByPlan_X6_worthInto : GoodIn wsX7_gainsByPlan (wsV RX7 282 RX6 yX6_worthInto wsX6_worthInto) := goodIn_app (goodIn_of _ (by decide +kernel)) ggX7_gainsByPlan_X6_worthInto
set_option maxRecDepth 20000 in
theorem ggX7_gainsByPlan_X3_bestCompared : GoodIn wsX7_gainsByPlan wsX3_bestCompared := goodIn_r _ [59, 60, 61, 62, 63, 58, 64, 65, 66, 67, 44, 68, 50, 51, 69, 70, 71, 72, 94, 95, 96, 97, 98, 92, 93] (by decide +kernel) (by decide +kernel)
set_option maxRecDepth 20000 in
theorem gX7_gainsByPlan_X3_bestCompared : GoodIn wsX7_gainsByPlan (wsV RX7 289 RX3 yX3_bestCompared wsX3_bestCompared) := goodIn_app (goodIn_of _ (by decide +kernel)) ggX7_gainsByPlan_X3_bestCompared
theorem dX7_gainsByPlan_0 : decode cX7_gainsByPlan 0 = .ok (.aload_n 1, 1) := by decide +kernel
theorem dX7_gainsByPlan_1 : decode cX7_gainsByPlan 1 = .ok (.iload_n 2, 1) := by decide +kernel
theorem dX7_gainsByPlan_2 : decode cX7_gainsByPlan 2 = .ok (.invokevirtual 275, 3) := by decide +kernel
theorem dX7_gainsByPlan_5 : decode cX7_gainsByPlan 5 = .ok (.aload_n 1, 1) := by decide +kernel
theorem dX7_gainsByPlan_6 : decode cX7_gainsByPlan 6 = .ok (.aload_n 0, 1) := by decide +kernel
theorem dX7_gainsByPlan_7 : decode cX7_gainsByPlan 7 = .ok (.getfield 10, 3) := by decide +kernel
theorem dX7_gainsByPlan_10 : decode cX7_gainsByPlan 10 = .ok (.aload_n 0, 1) := by decide +kernel
theorem dX7_gainsByPlan_11 : decode cX7_gainsByPlan 11 = .ok (.getfield 57, 3) := by decide +kernel
theorem dX7_gainsByPlan_14 : decode cX7_gainsByPlan 14 = .ok (.invokevirtual 282, 3) := by decide +kernel
theorem dX7_gainsByPlan_17 : decode cX7_gainsByPlan 17 = .ok (.aload_n 0, 1) := by decide +kernel
theorem dX7_gainsByPlan_18 : decode cX7_gainsByPlan 18 = .ok (.getfield 40, 3) := by decide +kernel
theorem dX7_gainsByPlan_21 : decode cX7_gainsByPlan 21 = .ok (.iload_n 3, 1) := by decide +kernel
theorem dX7_gainsByPlan_22 : decode cX7_gainsByPlan 22 = .ok (.iload 4, 2) := by decide +kernel
theorem dX7_gainsByPlan_24 : decode cX7_gainsByPlan 24 = .ok (.aload_n 0, 1) := by decide +kernel
theorem dX7_gainsByPlan_25 : decode cX7_gainsByPlan 25 = .ok (.getfield 57, 3) := by decide +kernel
theorem dX7_gainsByPlan_28 : decode cX7_gainsByPlan 28 = .ok (.invokevirtual 289, 3) := by decide +kernel
theorem dX7_gainsByPlan_31 : decode cX7_gainsByPlan 31 = .ok (.ifCond .le 7, 3) := by decide +kernel
theorem dX7_gainsByPlan_34 : decode cX7_gainsByPlan 34 = .ok (.iconst 1, 1) := by decide +kernel
theorem dX7_gainsByPlan_35 : decode cX7_gainsByPlan 35 = .ok (.goto 4, 3) := by decide +kernel
theorem dX7_gainsByPlan_38 : decode cX7_gainsByPlan 38 = .ok (.iconst 0, 1) := by decide +kernel
theorem dX7_gainsByPlan_39 : decode cX7_gainsByPlan 39 = .ok (.ireturn, 1) := by decide +kernel
set_option maxRecDepth 20000 in
theorem ggX7_restFrom_X6_placeOf : GoodIn wsX7_restFrom wsX6_placeOf := goodIn_r _ [6] (by decide +kernel) (by decide +kernel)
set_option maxRecDepth 20000 in
theorem gX7_restFrom_X6_placeOf : GoodIn wsX7_restFrom (va_wsS RX7 286 yX6_placeOf wsX6_placeOf) := goodIn_app (goodIn_of _ (by decide +kernel)) ggX7_restFrom_X6_placeOf
set_option maxRecDepth 20000 in
theorem ggX7_restFrom_X7_gainsByPlan : GoodIn wsX7_restFrom wsX7_gainsByPlan := goodIn_r _ [11, 12, 13, 14, 15, 16, 17, 5, 18, 19, 20, 21, 22, 23, 24, 25, 26, 27, 28, 29, 30, 31, 32, 33, 34, 35, 36, 37, 38, 39, 40, 41, 42, 43, 44, 45, 46, 47, 48, 49, 50, 51, 52, 53, 54, 55, 56, 57, 58, 59, 60, 61, 62, 63, 64, 65, 66, 67, 68, 69, 70, 71, 72, 73, 74, 75, 76, 77, 78, 79, 80, 81, 82, 83, 84, 85, 86, 87, 88, 89, 90, 91, 92, 93, 94, 95, 96, 97, 98, 99, 100, 101, 102, 103, 104, 105, 106, 107, 108] (by decide +kernel) (by decide +kernel)
set_option maxRecDepth 20000 in
theorem gX7_restFrom_X7_gainsByPlan : GoodIn wsX7_restFrom (wsV RX7 293 RX7 yX7_gainsByPlan wsX7_gainsByPlan) := goodIn_app (goodIn_of _ (by decide +kernel)) ggX7_restFrom_X7_gainsByPlan
theorem dX7_restFrom_0 : decode cX7_restFrom 0 = .ok (.aload_n 0, 1) := by decide +kernel
theorem dX7_restFrom_1 : decode cX7_restFrom 1 = .ok (.aload_n 0, 1) := by decide +kernel
theorem dX7_restFrom_2 : decode cX7_restFrom 2 = .ok (.getfield 47, 3) := by decide +kernel
theorem dX7_restFrom_5 : decode cX7_restFrom 5 = .ok (.iload_n 2, 1) := by decide +kernel
theorem dX7_restFrom_6 : decode cX7_restFrom 6 = .ok (.iload 4, 2) := by decide +kernel
theorem dX7_restFrom_8 : decode cX7_restFrom 8 = .ok (.invokestatic 286, 3) := by decide +kernel
theorem dX7_restFrom_11 : decode cX7_restFrom 11 = .ok (.iload_n 3, 1) := by decide +kernel
theorem dX7_restFrom_12 : decode cX7_restFrom 12 = .ok (.iload 4, 2) := by decide +kernel
theorem dX7_restFrom_14 : decode cX7_restFrom 14 = .ok (.invokevirtual 293, 3) := by decide +kernel
theorem dX7_restFrom_17 : decode cX7_restFrom 17 = .ok (.ifCond .ne 26, 3) := by decide +kernel
theorem dX7_restFrom_20 : decode cX7_restFrom 20 = .ok (.aload_n 0, 1) := by decide +kernel
theorem dX7_restFrom_21 : decode cX7_restFrom 21 = .ok (.aload_n 0, 1) := by decide +kernel
theorem dX7_restFrom_22 : decode cX7_restFrom 22 = .ok (.getfield 51, 3) := by decide +kernel
theorem dX7_restFrom_25 : decode cX7_restFrom 25 = .ok (.iload 4, 2) := by decide +kernel
theorem dX7_restFrom_27 : decode cX7_restFrom 27 = .ok (.iload_n 2, 1) := by decide +kernel
theorem dX7_restFrom_28 : decode cX7_restFrom 28 = .ok (.invokestatic 286, 3) := by decide +kernel
theorem dX7_restFrom_31 : decode cX7_restFrom 31 = .ok (.iload_n 1, 1) := by decide +kernel
theorem dX7_restFrom_32 : decode cX7_restFrom 32 = .ok (.iload_n 2, 1) := by decide +kernel
theorem dX7_restFrom_33 : decode cX7_restFrom 33 = .ok (.invokevirtual 293, 3) := by decide +kernel
theorem dX7_restFrom_36 : decode cX7_restFrom 36 = .ok (.ifCond .ne 7, 3) := by decide +kernel
theorem dX7_restFrom_39 : decode cX7_restFrom 39 = .ok (.iconst 1, 1) := by decide +kernel
theorem dX7_restFrom_40 : decode cX7_restFrom 40 = .ok (.goto 4, 3) := by decide +kernel
theorem dX7_restFrom_43 : decode cX7_restFrom 43 = .ok (.iconst 0, 1) := by decide +kernel
theorem dX7_restFrom_44 : decode cX7_restFrom 44 = .ok (.ireturn, 1) := by decide +kernel
set_option maxRecDepth 20000 in
theorem ggX7_deviationFrom_X6_placeOf : GoodIn wsX7_deviationFrom wsX6_placeOf := goodIn_r _ [6] (by decide +kernel) (by decide +kernel)
set_option maxRecDepth 20000 in
theorem gX7_deviationFrom_X6_placeOf : GoodIn wsX7_deviationFrom (va_wsS RX7 286 yX6_placeOf wsX6_placeOf) := goodIn_app (goodIn_of _ (by decide +kernel)) ggX7_deviationFrom_X6_placeOf
set_option maxRecDepth 20000 in
theorem ggX7_deviationFrom_X7_gainsByPlan : GoodIn wsX7_deviationFrom wsX7_gainsByPlan := goodIn_r _ [11, 12, 13, 2, 14, 15, 16, 5, 17, 18, 19, 20, 21, 22, 23, 24, 25, 26, 27, 28, 29, 30, 31, 32, 33, 34, 35, 36, 37, 38, 39, 40, 41, 42, 43, 44, 45, 46, 47, 48, 49, 50, 51, 52, 53, 54, 55, 56, 57, 58, 59, 60, 61, 62, 63, 64, 65, 66, 67, 68, 69, 70, 71, 72, 73, 74, 75, 76, 77, 78, 79, 80, 81, 87, 88, 89, 90, 91, 92, 93, 94, 95, 96, 97, 98, 99, 100, 101, 102, 103, 104, 105, 106, 107, 108, 109, 110, 111, 112] (by decide +kernel) (by decide +kernel)
set_option maxRecDepth 20000 in
theorem gX7_deviationFrom_X7_gainsByPlan : GoodIn wsX7_deviationFrom (wsV RX7 293 RX7 yX7_gainsByPlan wsX7_gainsByPlan) := goodIn_app (goodIn_of _ (by decide +kernel)) ggX7_deviationFrom_X7_gainsByPlan
set_option maxRecDepth 20000 in
theorem ggX7_deviationFrom_X3_bestPlan : GoodIn wsX7_deviationFrom wsX3_bestPlan := goodIn_r _ [85, 86, 71, 72, 67, 73, 108, 109, 110, 111, 112] (by decide +kernel) (by decide +kernel)
set_option maxRecDepth 20000 in
theorem gX7_deviationFrom_X3_bestPlan : GoodIn wsX7_deviationFrom (wsV RX7 212 RX3 yX3_bestPlan wsX3_bestPlan) := goodIn_app (goodIn_of _ (by decide +kernel)) ggX7_deviationFrom_X3_bestPlan
theorem dX7_deviationFrom_0 : decode cX7_deviationFrom 0 = .ok (.aload_n 0, 1) := by decide +kernel
theorem dX7_deviationFrom_1 : decode cX7_deviationFrom 1 = .ok (.aload_n 0, 1) := by decide +kernel
theorem dX7_deviationFrom_2 : decode cX7_deviationFrom 2 = .ok (.getfield 47, 3) := by decide +kernel
theorem dX7_deviationFrom_5 : decode cX7_deviationFrom 5 = .ok (.iload_n 2, 1) := by decide +kernel
theorem dX7_deviationFrom_6 : decode cX7_deviationFrom 6 = .ok (.iload 4, 2) := by decide +kernel
theorem dX7_deviationFrom_8 : decode cX7_deviationFrom 8 = .ok (.invokestatic 286, 3) := by decide +kernel
theorem dX7_deviationFrom_11 : decode cX7_deviationFrom 11 = .ok (.iload_n 3, 1) := by decide +kernel
theorem dX7_deviationFrom_12 : decode cX7_deviationFrom 12 = .ok (.iload 4, 2) := by decide +kernel
theorem dX7_deviationFrom_14 : decode cX7_deviationFrom 14 = .ok (.invokevirtual 293, 3) := by decide +kernel
theorem dX7_deviationFrom_17 : decode cX7_deviationFrom 17 = .ok (.istore 6, 2) := by decide +kernel
theorem dX7_deviationFrom_19 : decode cX7_deviationFrom 19 = .ok (.iload 5, 2) := by decide +kernel
theorem dX7_deviationFrom_21 : decode cX7_deviationFrom 21 = .ok (.iconst 1, 1) := by decide +kernel
theorem dX7_deviationFrom_22 : decode cX7_deviationFrom 22 = .ok (.if_icmp .ne 14, 3) := by decide +kernel
theorem dX7_deviationFrom_25 : decode cX7_deviationFrom 25 = .ok (.iload 6, 2) := by decide +kernel
theorem dX7_deviationFrom_27 : decode cX7_deviationFrom 27 = .ok (.ifCond .eq 7, 3) := by decide +kernel
theorem dX7_deviationFrom_30 : decode cX7_deviationFrom 30 = .ok (.iconst 0, 1) := by decide +kernel
theorem dX7_deviationFrom_31 : decode cX7_deviationFrom 31 = .ok (.goto 4, 3) := by decide +kernel
theorem dX7_deviationFrom_34 : decode cX7_deviationFrom 34 = .ok (.iconst 1, 1) := by decide +kernel
theorem dX7_deviationFrom_35 : decode cX7_deviationFrom 35 = .ok (.ireturn, 1) := by decide +kernel
theorem dX7_deviationFrom_36 : decode cX7_deviationFrom 36 = .ok (.iload 6, 2) := by decide +kernel
theorem dX7_deviationFrom_38 : decode cX7_deviationFrom 38 = .ok (.ifCond .eq 16, 3) := by decide +kernel
theorem dX7_deviationFrom_41 : decode cX7_deviationFrom 41 = .ok (.aload_n 0, 1) := by decide +kernel
theorem dX7_deviationFrom_42 : decode cX7_deviationFrom 42 = .ok (.getfield 40, 3) := by decide +kernel
theorem dX7_deviationFrom_45 : decode cX7_deviationFrom 45 = .ok (.iload_n 3, 1) := by decide +kernel
theorem dX7_deviationFrom_46 : decode cX7_deviationFrom 46 = .ok (.iload 4, 2) := by decide +kernel
theorem dX7_deviationFrom_48 : decode cX7_deviationFrom 48 = .ok (.invokevirtual 212, 3) := by decide +kernel
theorem dX7_deviationFrom_51 : decode cX7_deviationFrom 51 = .ok (.goto 12, 3) := by decide +kernel
theorem dX7_deviationFrom_54 : decode cX7_deviationFrom 54 = .ok (.aload_n 0, 1) := by decide +kernel
theorem dX7_deviationFrom_55 : decode cX7_deviationFrom 55 = .ok (.getfield 40, 3) := by decide +kernel
theorem dX7_deviationFrom_58 : decode cX7_deviationFrom 58 = .ok (.iload_n 1, 1) := by decide +kernel
theorem dX7_deviationFrom_59 : decode cX7_deviationFrom 59 = .ok (.iload_n 2, 1) := by decide +kernel
theorem dX7_deviationFrom_60 : decode cX7_deviationFrom 60 = .ok (.invokevirtual 212, 3) := by decide +kernel
theorem dX7_deviationFrom_63 : decode cX7_deviationFrom 63 = .ok (.ireturn, 1) := by decide +kernel
set_option maxRecDepth 20000 in
theorem ggX7_firstUnrest_X2_statesOf : GoodIn wsX7_firstUnrest wsX2_statesOf := goodIn_r _ [6, 7, 104, 105, 106, 107] (by decide +kernel) (by decide +kernel)
set_option maxRecDepth 20000 in
theorem gX7_firstUnrest_X2_statesOf : GoodIn wsX7_firstUnrest (wsV RX7 219 RX2 yX2_statesOf wsX2_statesOf) := goodIn_app (goodIn_of _ (by decide +kernel)) ggX7_firstUnrest_X2_statesOf
set_option maxRecDepth 20000 in
theorem ggX7_firstUnrest_X7_restFrom : GoodIn wsX7_firstUnrest wsX7_restFrom := goodIn_r _ [12, 13, 14, 15, 16, 17, 18, 19, 20, 21, 11, 22, 23, 24, 25, 26, 27, 28, 29, 30, 31, 32, 33, 34, 35, 36, 37, 38, 39, 40, 41, 42, 43, 44, 45, 46, 47, 48, 49, 50, 51, 52, 53, 54, 55, 56, 57, 58, 59, 60, 61, 62, 63, 64, 65, 66, 67, 68, 69, 70, 71, 72, 73, 74, 75, 76, 77, 78, 79, 80, 81, 82, 83, 84, 85, 86, 87, 88, 89, 90, 91, 92, 93, 94, 95, 96, 97, 98, 99, 100, 101, 102, 103, 108, 109, 110, 111, 112, 113, 114, 115, 116, 117, 118, 119, 120, 121, 122, 123] (by decide +kernel) (by decide +kernel)
set_option maxRecDepth 20000 in
theorem gX7_firstUnrest_X7_restFrom : GoodIn wsX7_firstUnrest (wsV RX7 232 RX7 yX7_restFrom wsX7_restFrom) := goodIn_app (goodIn_of _ (by decide +kernel)) ggX7_firstUnrest_X7_restFrom
set_option maxRecDepth 20000 in
theorem ggX7_firstUnrest_X6_placeOf : GoodIn wsX7_firstUnrest wsX6_placeOf := goodIn_r _ [18] (by decide +kernel) (by decide +kernel)
set_option maxRecDepth 20000 in
theorem gX7_firstUnrest_X6_placeOf : GoodIn wsX7_firstUnrest (va_wsS RX7 286 yX6_placeOf wsX6_placeOf) := goodIn_app (goodIn_of _ (by decide +kernel)) ggX7_firstUnrest_X6_placeOf
theorem dX7_firstUnrest_0 : decode cX7_firstUnrest 0 = .ok (.iconst 0, 1) := by decide +kernel
theorem dX7_firstUnrest_1 : decode cX7_firstUnrest 1 = .ok (.istore_n 3, 1) := by decide +kernel
theorem dX7_firstUnrest_2 : decode cX7_firstUnrest 2 = .ok (.iload_n 3, 1) := by decide +kernel
theorem dX7_firstUnrest_3 : decode cX7_firstUnrest 3 = .ok (.aload_n 0, 1) := by decide +kernel
theorem dX7_firstUnrest_4 : decode cX7_firstUnrest 4 = .ok (.getfield 19, 3) := by decide +kernel
theorem dX7_firstUnrest_7 : decode cX7_firstUnrest 7 = .ok (.iload_n 1, 1) := by decide +kernel
theorem dX7_firstUnrest_8 : decode cX7_firstUnrest 8 = .ok (.invokevirtual 219, 3) := by decide +kernel
theorem dX7_firstUnrest_11 : decode cX7_firstUnrest 11 = .ok (.if_icmp .ge 50, 3) := by decide +kernel
theorem dX7_firstUnrest_14 : decode cX7_firstUnrest 14 = .ok (.iconst 0, 1) := by decide +kernel
theorem dX7_firstUnrest_15 : decode cX7_firstUnrest 15 = .ok (.istore 4, 2) := by decide +kernel
theorem dX7_firstUnrest_17 : decode cX7_firstUnrest 17 = .ok (.iload 4, 2) := by decide +kernel
theorem dX7_firstUnrest_19 : decode cX7_firstUnrest 19 = .ok (.aload_n 0, 1) := by decide +kernel
theorem dX7_firstUnrest_20 : decode cX7_firstUnrest 20 = .ok (.getfield 19, 3) := by decide +kernel
theorem dX7_firstUnrest_23 : decode cX7_firstUnrest 23 = .ok (.iload_n 2, 1) := by decide +kernel
theorem dX7_firstUnrest_24 : decode cX7_firstUnrest 24 = .ok (.invokevirtual 219, 3) := by decide +kernel
theorem dX7_firstUnrest_27 : decode cX7_firstUnrest 27 = .ok (.if_icmp .ge 28, 3) := by decide +kernel
theorem dX7_firstUnrest_30 : decode cX7_firstUnrest 30 = .ok (.aload_n 0, 1) := by decide +kernel
theorem dX7_firstUnrest_31 : decode cX7_firstUnrest 31 = .ok (.iload_n 1, 1) := by decide +kernel
theorem dX7_firstUnrest_32 : decode cX7_firstUnrest 32 = .ok (.iload_n 3, 1) := by decide +kernel
theorem dX7_firstUnrest_33 : decode cX7_firstUnrest 33 = .ok (.iload_n 2, 1) := by decide +kernel
theorem dX7_firstUnrest_34 : decode cX7_firstUnrest 34 = .ok (.iload 4, 2) := by decide +kernel
theorem dX7_firstUnrest_36 : decode cX7_firstUnrest 36 = .ok (.invokevirtual 232, 3) := by decide +kernel
theorem dX7_firstUnrest_39 : decode cX7_firstUnrest 39 = .ok (.ifCond .ne 10, 3) := by decide +kernel
theorem dX7_firstUnrest_42 : decode cX7_firstUnrest 42 = .ok (.iload_n 3, 1) := by decide +kernel
theorem dX7_firstUnrest_43 : decode cX7_firstUnrest 43 = .ok (.iload 4, 2) := by decide +kernel
theorem dX7_firstUnrest_45 : decode cX7_firstUnrest 45 = .ok (.invokestatic 286, 3) := by decide +kernel
theorem dX7_firstUnrest_48 : decode cX7_firstUnrest 48 = .ok (.ireturn, 1) := by decide +kernel
theorem dX7_firstUnrest_49 : decode cX7_firstUnrest 49 = .ok (.iinc 4 1, 3) := by decide +kernel
theorem dX7_firstUnrest_52 : decode cX7_firstUnrest 52 = .ok (.goto (-35), 3) := by decide +kernel
theorem dX7_firstUnrest_55 : decode cX7_firstUnrest 55 = .ok (.iinc 3 1, 3) := by decide +kernel
theorem dX7_firstUnrest_58 : decode cX7_firstUnrest 58 = .ok (.goto (-56), 3) := by decide +kernel
theorem dX7_firstUnrest_61 : decode cX7_firstUnrest 61 = .ok (.iconst (-1), 1) := by decide +kernel
theorem dX7_firstUnrest_62 : decode cX7_firstUnrest 62 = .ok (.ireturn, 1) := by decide +kernel
set_option maxRecDepth 20000 in
theorem ggX7_compareWorths_X7_matchWorth : GoodIn wsX7_compareWorths wsX7_matchWorth := goodIn_r _ [7, 8, 9, 10, 11, 12, 6, 13, 14, 15, 16, 17, 18, 19, 20, 21, 22, 23, 24, 25, 26, 27, 28, 29, 30, 31, 32, 33, 34, 35, 36, 37, 38, 39, 40, 41, 42, 43, 44, 45, 46, 47, 48, 49, 50, 51, 52, 53, 54, 55, 56, 57, 58, 59, 60, 61, 62, 63, 64, 65, 66, 67, 68, 69, 70, 71, 72, 73, 74, 75, 76, 77, 78, 79, 80, 81, 82, 83, 84, 85, 86, 87, 88, 89, 90, 91, 92, 93, 106, 107, 108, 109, 110, 111, 112, 113, 114, 115, 116, 117, 118, 119, 120, 121, 122, 123, 124, 125, 126, 127, 128, 129, 130] (by decide +kernel) (by decide +kernel)
set_option maxRecDepth 20000 in
theorem gX7_compareWorths_X7_matchWorth : GoodIn wsX7_compareWorths (wsV RX7 183 RX7 yX7_matchWorth wsX7_matchWorth) := goodIn_app (goodIn_of _ (by decide +kernel)) ggX7_compareWorths_X7_matchWorth
set_option maxRecDepth 20000 in
theorem ggX7_compareWorths_X4_part : GoodIn wsX7_compareWorths wsX4_part := goodIn_r _ [97, 89, 90, 129, 130] (by decide +kernel) (by decide +kernel)
set_option maxRecDepth 20000 in
theorem gX7_compareWorths_X4_part : GoodIn wsX7_compareWorths (wsV RX7 179 RX4 yX4_part wsX4_part) := goodIn_app (goodIn_of _ (by decide +kernel)) ggX7_compareWorths_X4_part
set_option maxRecDepth 20000 in
theorem ggX7_compareWorths_X4_compareWith : GoodIn wsX7_compareWorths wsX4_compareWith := goodIn_r _ [101, 89, 90, 102, 103, 104, 105, 129, 130] (by decide +kernel) (by decide +kernel)
set_option maxRecDepth 20000 in
theorem gX7_compareWorths_X4_compareWith : GoodIn wsX7_compareWorths (wsV RX7 297 RX4 yX4_compareWith wsX4_compareWith) := goodIn_app (goodIn_of _ (by decide +kernel)) ggX7_compareWorths_X4_compareWith
theorem dX7_compareWorths_0 : decode cX7_compareWorths 0 = .ok (.aload_n 0, 1) := by decide +kernel
theorem dX7_compareWorths_1 : decode cX7_compareWorths 1 = .ok (.iload_n 1, 1) := by decide +kernel
theorem dX7_compareWorths_2 : decode cX7_compareWorths 2 = .ok (.iload_n 2, 1) := by decide +kernel
theorem dX7_compareWorths_3 : decode cX7_compareWorths 3 = .ok (.aload_n 0, 1) := by decide +kernel
theorem dX7_compareWorths_4 : decode cX7_compareWorths 4 = .ok (.getfield 57, 3) := by decide +kernel
theorem dX7_compareWorths_7 : decode cX7_compareWorths 7 = .ok (.invokevirtual 183, 3) := by decide +kernel
theorem dX7_compareWorths_10 : decode cX7_compareWorths 10 = .ok (.aload_n 0, 1) := by decide +kernel
theorem dX7_compareWorths_11 : decode cX7_compareWorths 11 = .ok (.iload_n 3, 1) := by decide +kernel
theorem dX7_compareWorths_12 : decode cX7_compareWorths 12 = .ok (.iload 4, 2) := by decide +kernel
theorem dX7_compareWorths_14 : decode cX7_compareWorths 14 = .ok (.aload_n 0, 1) := by decide +kernel
theorem dX7_compareWorths_15 : decode cX7_compareWorths 15 = .ok (.getfield 61, 3) := by decide +kernel
theorem dX7_compareWorths_18 : decode cX7_compareWorths 18 = .ok (.invokevirtual 183, 3) := by decide +kernel
theorem dX7_compareWorths_21 : decode cX7_compareWorths 21 = .ok (.aload_n 0, 1) := by decide +kernel
theorem dX7_compareWorths_22 : decode cX7_compareWorths 22 = .ok (.getfield 57, 3) := by decide +kernel
theorem dX7_compareWorths_25 : decode cX7_compareWorths 25 = .ok (.aload_n 0, 1) := by decide +kernel
theorem dX7_compareWorths_26 : decode cX7_compareWorths 26 = .ok (.getfield 61, 3) := by decide +kernel
theorem dX7_compareWorths_29 : decode cX7_compareWorths 29 = .ok (.iconst 0, 1) := by decide +kernel
theorem dX7_compareWorths_30 : decode cX7_compareWorths 30 = .ok (.invokevirtual 179, 3) := by decide +kernel
theorem dX7_compareWorths_33 : decode cX7_compareWorths 33 = .ok (.aload_n 0, 1) := by decide +kernel
theorem dX7_compareWorths_34 : decode cX7_compareWorths 34 = .ok (.getfield 61, 3) := by decide +kernel
theorem dX7_compareWorths_37 : decode cX7_compareWorths 37 = .ok (.iconst 1, 1) := by decide +kernel
theorem dX7_compareWorths_38 : decode cX7_compareWorths 38 = .ok (.invokevirtual 179, 3) := by decide +kernel
theorem dX7_compareWorths_41 : decode cX7_compareWorths 41 = .ok (.invokevirtual 297, 3) := by decide +kernel
theorem dX7_compareWorths_44 : decode cX7_compareWorths 44 = .ok (.ireturn, 1) := by decide +kernel
set_option maxRecDepth 20000 in
theorem ggX7_withstands_X7_compareWorths : GoodIn wsX7_withstands wsX7_compareWorths := goodIn_r _ [5, 6, 7, 8, 9, 10, 4, 11, 12, 13, 14, 15, 16, 17, 18, 19, 20, 21, 22, 23, 24, 25, 26, 27, 28, 29, 30, 31, 32, 33, 34, 35, 36, 37, 38, 39, 40, 41, 42, 43, 44, 45, 46, 47, 48, 49, 50, 51, 52, 53, 54, 55, 56, 57, 58, 59, 60, 61, 62, 63, 64, 65, 66, 67, 68, 69, 70, 71, 72, 73, 74, 75, 76, 77, 78, 79, 80, 81, 82, 83, 84, 85, 86, 87, 88, 89, 90, 91, 92, 93, 94, 95, 96, 97, 98, 99, 100, 101, 102, 103, 104, 105, 106, 107, 108, 109, 110, 111, 112, 113, 114, 115, 116, 117, 118, 119, 120, 121, 122, 123, 124, 125, 126, 127, 128, 129, 130, 131, 132, 133, 134] (by decide +kernel) (by decide +kernel)
set_option maxRecDepth 20000 in
theorem gX7_withstands_X7_compareWorths : GoodIn wsX7_withstands (wsV RX7 301 RX7 yX7_compareWorths wsX7_compareWorths) := goodIn_app (goodIn_of _ (by decide +kernel)) ggX7_withstands_X7_compareWorths
theorem dX7_withstands_0 : decode cX7_withstands 0 = .ok (.aload_n 0, 1) := by decide +kernel
theorem dX7_withstands_1 : decode cX7_withstands 1 = .ok (.iload_n 1, 1) := by decide +kernel
theorem dX7_withstands_2 : decode cX7_withstands 2 = .ok (.iload_n 1, 1) := by decide +kernel
theorem dX7_withstands_3 : decode cX7_withstands 3 = .ok (.iload_n 2, 1) := by decide +kernel
theorem dX7_withstands_4 : decode cX7_withstands 4 = .ok (.iload_n 1, 1) := by decide +kernel
theorem dX7_withstands_5 : decode cX7_withstands 5 = .ok (.invokevirtual 301, 3) := by decide +kernel
theorem dX7_withstands_8 : decode cX7_withstands 8 = .ok (.istore_n 3, 1) := by decide +kernel
theorem dX7_withstands_9 : decode cX7_withstands 9 = .ok (.iload_n 3, 1) := by decide +kernel
theorem dX7_withstands_10 : decode cX7_withstands 10 = .ok (.ifCond .gt 18, 3) := by decide +kernel
theorem dX7_withstands_13 : decode cX7_withstands 13 = .ok (.iload_n 3, 1) := by decide +kernel
theorem dX7_withstands_14 : decode cX7_withstands 14 = .ok (.ifCond .ne 18, 3) := by decide +kernel
theorem dX7_withstands_17 : decode cX7_withstands 17 = .ok (.aload_n 0, 1) := by decide +kernel
theorem dX7_withstands_18 : decode cX7_withstands 18 = .ok (.iload_n 1, 1) := by decide +kernel
theorem dX7_withstands_19 : decode cX7_withstands 19 = .ok (.iload_n 2, 1) := by decide +kernel
theorem dX7_withstands_20 : decode cX7_withstands 20 = .ok (.iload_n 2, 1) := by decide +kernel
theorem dX7_withstands_21 : decode cX7_withstands 21 = .ok (.iload_n 2, 1) := by decide +kernel
theorem dX7_withstands_22 : decode cX7_withstands 22 = .ok (.invokevirtual 301, 3) := by decide +kernel
theorem dX7_withstands_25 : decode cX7_withstands 25 = .ok (.ifCond .le 7, 3) := by decide +kernel
theorem dX7_withstands_28 : decode cX7_withstands 28 = .ok (.iconst 1, 1) := by decide +kernel
theorem dX7_withstands_29 : decode cX7_withstands 29 = .ok (.goto 4, 3) := by decide +kernel
theorem dX7_withstands_32 : decode cX7_withstands 32 = .ok (.iconst 0, 1) := by decide +kernel
theorem dX7_withstands_33 : decode cX7_withstands 33 = .ok (.ireturn, 1) := by decide +kernel
set_option maxRecDepth 20000 in
theorem ggX7_gainsAgainstAll_X2_many : GoodIn wsX7_gainsAgainstAll wsX2_many := goodIn_r _ [6, 7, 88, 89, 90, 91] (by decide +kernel) (by decide +kernel)
set_option maxRecDepth 20000 in
theorem gX7_gainsAgainstAll_X2_many : GoodIn wsX7_gainsAgainstAll (wsV RX7 111 RX2 yX2_many wsX2_many) := goodIn_app (goodIn_of _ (by decide +kernel)) ggX7_gainsAgainstAll_X2_many
set_option maxRecDepth 20000 in
theorem ggX7_gainsAgainstAll_X7_gainsOf : GoodIn wsX7_gainsAgainstAll wsX7_gainsOf := goodIn_r _ [12, 13, 14, 15, 16, 11, 17, 18, 1, 19, 20, 21, 22, 23, 24, 25, 26, 27, 28, 5, 29, 30, 31, 32, 33, 34, 35, 36, 37, 38, 39, 40, 41, 42, 43, 44, 45, 46, 47, 48, 49, 50, 51, 52, 53, 54, 55, 56, 57, 58, 59, 60, 61, 62, 63, 64, 65, 66, 67, 68, 69, 70, 71, 72, 73, 74, 75, 76, 77, 78, 79, 80, 81, 82, 83, 84, 85, 86, 87, 92, 93, 94, 95, 96, 97, 88, 89, 90, 91, 98, 99, 100] (by decide +kernel) (by decide +kernel)
set_option maxRecDepth 20000 in
theorem gX7_gainsAgainstAll_X7_gainsOf : GoodIn wsX7_gainsAgainstAll (wsV RX7 170 RX7 yX7_gainsOf wsX7_gainsOf) := goodIn_app (goodIn_of _ (by decide +kernel)) ggX7_gainsAgainstAll_X7_gainsOf
theorem dX7_gainsAgainstAll_0 : decode cX7_gainsAgainstAll 0 = .ok (.iconst 0, 1) := by decide +kernel
theorem dX7_gainsAgainstAll_1 : decode cX7_gainsAgainstAll 1 = .ok (.istore_n 3, 1) := by decide +kernel
theorem dX7_gainsAgainstAll_2 : decode cX7_gainsAgainstAll 2 = .ok (.iconst 0, 1) := by decide +kernel
theorem dX7_gainsAgainstAll_3 : decode cX7_gainsAgainstAll 3 = .ok (.istore 4, 2) := by decide +kernel
theorem dX7_gainsAgainstAll_5 : decode cX7_gainsAgainstAll 5 = .ok (.iload 4, 2) := by decide +kernel
theorem dX7_gainsAgainstAll_7 : decode cX7_gainsAgainstAll 7 = .ok (.aload_n 0, 1) := by decide +kernel
theorem dX7_gainsAgainstAll_8 : decode cX7_gainsAgainstAll 8 = .ok (.getfield 19, 3) := by decide +kernel
theorem dX7_gainsAgainstAll_11 : decode cX7_gainsAgainstAll 11 = .ok (.invokevirtual 111, 3) := by decide +kernel
theorem dX7_gainsAgainstAll_14 : decode cX7_gainsAgainstAll 14 = .ok (.if_icmp .ge 20, 3) := by decide +kernel
theorem dX7_gainsAgainstAll_17 : decode cX7_gainsAgainstAll 17 = .ok (.iload_n 3, 1) := by decide +kernel
theorem dX7_gainsAgainstAll_18 : decode cX7_gainsAgainstAll 18 = .ok (.aload_n 0, 1) := by decide +kernel
theorem dX7_gainsAgainstAll_19 : decode cX7_gainsAgainstAll 19 = .ok (.iload_n 1, 1) := by decide +kernel
theorem dX7_gainsAgainstAll_20 : decode cX7_gainsAgainstAll 20 = .ok (.iload 4, 2) := by decide +kernel
theorem dX7_gainsAgainstAll_22 : decode cX7_gainsAgainstAll 22 = .ok (.iload_n 2, 1) := by decide +kernel
theorem dX7_gainsAgainstAll_23 : decode cX7_gainsAgainstAll 23 = .ok (.invokevirtual 170, 3) := by decide +kernel
theorem dX7_gainsAgainstAll_26 : decode cX7_gainsAgainstAll 26 = .ok (.iadd, 1) := by decide +kernel
theorem dX7_gainsAgainstAll_27 : decode cX7_gainsAgainstAll 27 = .ok (.istore_n 3, 1) := by decide +kernel
theorem dX7_gainsAgainstAll_28 : decode cX7_gainsAgainstAll 28 = .ok (.iinc 4 1, 3) := by decide +kernel
theorem dX7_gainsAgainstAll_31 : decode cX7_gainsAgainstAll 31 = .ok (.goto (-26), 3) := by decide +kernel
theorem dX7_gainsAgainstAll_34 : decode cX7_gainsAgainstAll 34 = .ok (.iload_n 3, 1) := by decide +kernel
theorem dX7_gainsAgainstAll_35 : decode cX7_gainsAgainstAll 35 = .ok (.ireturn, 1) := by decide +kernel
set_option maxRecDepth 20000 in
theorem ggX7_machinesAheadOf_X2_many : GoodIn wsX7_machinesAheadOf wsX2_many := goodIn_r _ [7, 8, 19, 20, 21, 22] (by decide +kernel) (by decide +kernel)
set_option maxRecDepth 20000 in
theorem gX7_machinesAheadOf_X2_many : GoodIn wsX7_machinesAheadOf (wsV RX7 111 RX2 yX2_many wsX2_many) := goodIn_app (goodIn_of _ (by decide +kernel)) ggX7_machinesAheadOf_X2_many
theorem dX7_machinesAheadOf_0 : decode cX7_machinesAheadOf 0 = .ok (.iconst 0, 1) := by decide +kernel
theorem dX7_machinesAheadOf_1 : decode cX7_machinesAheadOf 1 = .ok (.istore_n 2, 1) := by decide +kernel
theorem dX7_machinesAheadOf_2 : decode cX7_machinesAheadOf 2 = .ok (.iconst 0, 1) := by decide +kernel
theorem dX7_machinesAheadOf_3 : decode cX7_machinesAheadOf 3 = .ok (.istore_n 3, 1) := by decide +kernel
theorem dX7_machinesAheadOf_4 : decode cX7_machinesAheadOf 4 = .ok (.iload_n 3, 1) := by decide +kernel
theorem dX7_machinesAheadOf_5 : decode cX7_machinesAheadOf 5 = .ok (.aload_n 0, 1) := by decide +kernel
theorem dX7_machinesAheadOf_6 : decode cX7_machinesAheadOf 6 = .ok (.getfield 19, 3) := by decide +kernel
theorem dX7_machinesAheadOf_9 : decode cX7_machinesAheadOf 9 = .ok (.invokevirtual 111, 3) := by decide +kernel
theorem dX7_machinesAheadOf_12 : decode cX7_machinesAheadOf 12 = .ok (.if_icmp .ge 47, 3) := by decide +kernel
theorem dX7_machinesAheadOf_15 : decode cX7_machinesAheadOf 15 = .ok (.aload_n 0, 1) := by decide +kernel
theorem dX7_machinesAheadOf_16 : decode cX7_machinesAheadOf 16 = .ok (.getfield 64, 3) := by decide +kernel
theorem dX7_machinesAheadOf_19 : decode cX7_machinesAheadOf 19 = .ok (.iload_n 3, 1) := by decide +kernel
theorem dX7_machinesAheadOf_20 : decode cX7_machinesAheadOf 20 = .ok (.iaload, 1) := by decide +kernel
theorem dX7_machinesAheadOf_21 : decode cX7_machinesAheadOf 21 = .ok (.aload_n 0, 1) := by decide +kernel
theorem dX7_machinesAheadOf_22 : decode cX7_machinesAheadOf 22 = .ok (.getfield 64, 3) := by decide +kernel
theorem dX7_machinesAheadOf_25 : decode cX7_machinesAheadOf 25 = .ok (.iload_n 1, 1) := by decide +kernel
theorem dX7_machinesAheadOf_26 : decode cX7_machinesAheadOf 26 = .ok (.iaload, 1) := by decide +kernel
theorem dX7_machinesAheadOf_27 : decode cX7_machinesAheadOf 27 = .ok (.if_icmp .gt 23, 3) := by decide +kernel
theorem dX7_machinesAheadOf_30 : decode cX7_machinesAheadOf 30 = .ok (.aload_n 0, 1) := by decide +kernel
theorem dX7_machinesAheadOf_31 : decode cX7_machinesAheadOf 31 = .ok (.getfield 64, 3) := by decide +kernel
theorem dX7_machinesAheadOf_34 : decode cX7_machinesAheadOf 34 = .ok (.iload_n 3, 1) := by decide +kernel
theorem dX7_machinesAheadOf_35 : decode cX7_machinesAheadOf 35 = .ok (.iaload, 1) := by decide +kernel
theorem dX7_machinesAheadOf_36 : decode cX7_machinesAheadOf 36 = .ok (.aload_n 0, 1) := by decide +kernel
theorem dX7_machinesAheadOf_37 : decode cX7_machinesAheadOf 37 = .ok (.getfield 64, 3) := by decide +kernel
theorem dX7_machinesAheadOf_40 : decode cX7_machinesAheadOf 40 = .ok (.iload_n 1, 1) := by decide +kernel
theorem dX7_machinesAheadOf_41 : decode cX7_machinesAheadOf 41 = .ok (.iaload, 1) := by decide +kernel
theorem dX7_machinesAheadOf_42 : decode cX7_machinesAheadOf 42 = .ok (.if_icmp .ne 11, 3) := by decide +kernel
theorem dX7_machinesAheadOf_45 : decode cX7_machinesAheadOf 45 = .ok (.iload_n 3, 1) := by decide +kernel
theorem dX7_machinesAheadOf_46 : decode cX7_machinesAheadOf 46 = .ok (.iload_n 1, 1) := by decide +kernel
theorem dX7_machinesAheadOf_47 : decode cX7_machinesAheadOf 47 = .ok (.if_icmp .ge 6, 3) := by decide +kernel
theorem dX7_machinesAheadOf_50 : decode cX7_machinesAheadOf 50 = .ok (.iinc 2 1, 3) := by decide +kernel
theorem dX7_machinesAheadOf_53 : decode cX7_machinesAheadOf 53 = .ok (.iinc 3 1, 3) := by decide +kernel
theorem dX7_machinesAheadOf_56 : decode cX7_machinesAheadOf 56 = .ok (.goto (-52), 3) := by decide +kernel
theorem dX7_machinesAheadOf_59 : decode cX7_machinesAheadOf 59 = .ok (.iload_n 2, 1) := by decide +kernel
theorem dX7_machinesAheadOf_60 : decode cX7_machinesAheadOf 60 = .ok (.ireturn, 1) := by decide +kernel
set_option maxRecDepth 20000 in
theorem ggX7_restingPairs_X2_many : GoodIn wsX7_restingPairs wsX2_many := goodIn_r _ [8, 9, 163, 164, 165, 166] (by decide +kernel) (by decide +kernel)
set_option maxRecDepth 20000 in
theorem gX7_restingPairs_X2_many : GoodIn wsX7_restingPairs (wsV RX7 111 RX2 yX2_many wsX2_many) := goodIn_app (goodIn_of _ (by decide +kernel)) ggX7_restingPairs_X2_many
set_option maxRecDepth 20000 in
theorem ggX7_restingPairs_X3_learn : GoodIn wsX7_restingPairs wsX3_learn := goodIn_r _ [14, 15, 16, 17, 18, 13, 19, 20, 21, 22, 23, 24, 25, 26, 27, 28, 29, 30, 7, 31, 32, 33, 34, 35, 36, 37, 38, 39, 40, 41, 42, 43, 44, 45, 46, 47, 48, 49, 50, 51, 52, 53, 54, 55, 56, 57, 58, 59, 60, 61, 62, 63, 64, 65, 66, 67, 68, 69, 70, 71, 72, 73, 74, 75, 76, 77, 78, 79, 80, 81, 82, 83, 84, 85, 86, 87, 88, 89, 90, 91, 92, 93, 94, 95, 96, 97, 98, 99, 100, 101, 102, 103, 104, 105, 106, 107, 108, 109, 110, 111, 112, 113, 114, 115, 116, 117, 118, 119, 120, 121, 122, 123, 124, 125, 167, 168, 169, 170, 171, 172, 173, 174, 175, 176, 177, 163, 164, 165, 166, 178, 179, 180, 181, 182] (by decide +kernel) (by decide +kernel)
set_option maxRecDepth 20000 in
theorem gX7_restingPairs_X3_learn : GoodIn wsX7_restingPairs (wsV RX7 208 RX3 yX3_learn wsX3_learn) := goodIn_app (goodIn_of _ (by decide +kernel)) ggX7_restingPairs_X3_learn
set_option maxRecDepth 20000 in
theorem ggX7_restingPairs_X7_takeBothSides : GoodIn wsX7_restingPairs wsX7_takeBothSides := goodIn_r _ [130, 131, 3, 1, 132, 133, 134, 135, 24, 136, 26, 27, 28, 29, 30, 7, 31, 32, 38, 39, 40, 41, 42, 137, 138, 139, 33, 34, 35, 36, 37, 43, 44, 45, 46, 47, 48, 153, 154, 155, 156, 157, 158, 159, 160, 161, 162, 172, 173, 174, 175, 176, 177, 163, 164, 165, 166, 178, 179, 180] (by decide +kernel) (by decide +kernel)
set_option maxRecDepth 20000 in
theorem gX7_restingPairs_X7_takeBothSides : GoodIn wsX7_restingPairs (wsV RX7 229 RX7 yX7_takeBothSides wsX7_takeBothSides) := goodIn_app (goodIn_of _ (by decide +kernel)) ggX7_restingPairs_X7_takeBothSides
set_option maxRecDepth 20000 in
theorem ggX7_restingPairs_X7_restFrom : GoodIn wsX7_restingPairs wsX7_restFrom := goodIn_r _ [143, 131, 132, 144, 138, 24, 139, 145, 146, 147, 129, 148, 3, 149, 2, 150, 50, 51, 52, 53, 54, 26, 55, 56, 57, 58, 59, 60, 151, 62, 63, 64, 65, 66, 67, 46, 68, 69, 70, 71, 72, 73, 74, 75, 76, 77, 78, 79, 80, 81, 27, 82, 83, 84, 85, 86, 87, 88, 89, 90, 91, 92, 93, 94, 95, 152, 115, 116, 13, 117, 104, 105, 96, 97, 98, 118, 119, 120, 121, 122, 123, 124, 125, 153, 154, 155, 156, 157, 158, 159, 160, 161, 162, 172, 173, 174, 175, 176, 177, 178, 179, 180, 181, 182, 167, 168, 169, 170, 171] (by decide +kernel) (by decide +kernel)
set_option maxRecDepth 20000 in
theorem gX7_restingPairs_X7_restFrom : GoodIn wsX7_restingPairs (wsV RX7 232 RX7 yX7_restFrom wsX7_restFrom) := goodIn_app (goodIn_of _ (by decide +kernel)) ggX7_restingPairs_X7_restFrom
theorem dX7_restingPairs_0 : decode cX7_restingPairs 0 = .ok (.iconst 0, 1) := by decide +kernel
theorem dX7_restingPairs_1 : decode cX7_restingPairs 1 = .ok (.istore_n 1, 1) := by decide +kernel
theorem dX7_restingPairs_2 : decode cX7_restingPairs 2 = .ok (.iload_n 1, 1) := by decide +kernel
theorem dX7_restingPairs_3 : decode cX7_restingPairs 3 = .ok (.aload_n 0, 1) := by decide +kernel
theorem dX7_restingPairs_4 : decode cX7_restingPairs 4 = .ok (.getfield 19, 3) := by decide +kernel
theorem dX7_restingPairs_7 : decode cX7_restingPairs 7 = .ok (.invokevirtual 111, 3) := by decide +kernel
theorem dX7_restingPairs_10 : decode cX7_restingPairs 10 = .ok (.if_icmp .ge 26, 3) := by decide +kernel
theorem dX7_restingPairs_13 : decode cX7_restingPairs 13 = .ok (.aload_n 0, 1) := by decide +kernel
theorem dX7_restingPairs_14 : decode cX7_restingPairs 14 = .ok (.getfield 40, 3) := by decide +kernel
theorem dX7_restingPairs_17 : decode cX7_restingPairs 17 = .ok (.aload_n 0, 1) := by decide +kernel
theorem dX7_restingPairs_18 : decode cX7_restingPairs 18 = .ok (.getfield 10, 3) := by decide +kernel
theorem dX7_restingPairs_21 : decode cX7_restingPairs 21 = .ok (.aload_n 0, 1) := by decide +kernel
theorem dX7_restingPairs_22 : decode cX7_restingPairs 22 = .ok (.getfield 19, 3) := by decide +kernel
theorem dX7_restingPairs_25 : decode cX7_restingPairs 25 = .ok (.iload_n 1, 1) := by decide +kernel
theorem dX7_restingPairs_26 : decode cX7_restingPairs 26 = .ok (.iconst 0, 1) := by decide +kernel
theorem dX7_restingPairs_27 : decode cX7_restingPairs 27 = .ok (.invokevirtual 208, 3) := by decide +kernel
theorem dX7_restingPairs_30 : decode cX7_restingPairs 30 = .ok (.iinc 1 1, 3) := by decide +kernel
theorem dX7_restingPairs_33 : decode cX7_restingPairs 33 = .ok (.goto (-31), 3) := by decide +kernel
theorem dX7_restingPairs_36 : decode cX7_restingPairs 36 = .ok (.iconst 0, 1) := by decide +kernel
theorem dX7_restingPairs_37 : decode cX7_restingPairs 37 = .ok (.istore_n 1, 1) := by decide +kernel
theorem dX7_restingPairs_38 : decode cX7_restingPairs 38 = .ok (.iconst 0, 1) := by decide +kernel
theorem dX7_restingPairs_39 : decode cX7_restingPairs 39 = .ok (.istore_n 2, 1) := by decide +kernel
theorem dX7_restingPairs_40 : decode cX7_restingPairs 40 = .ok (.iload_n 2, 1) := by decide +kernel
theorem dX7_restingPairs_41 : decode cX7_restingPairs 41 = .ok (.aload_n 0, 1) := by decide +kernel
theorem dX7_restingPairs_42 : decode cX7_restingPairs 42 = .ok (.getfield 19, 3) := by decide +kernel
theorem dX7_restingPairs_45 : decode cX7_restingPairs 45 = .ok (.invokevirtual 111, 3) := by decide +kernel
theorem dX7_restingPairs_48 : decode cX7_restingPairs 48 = .ok (.if_icmp .ge 48, 3) := by decide +kernel
theorem dX7_restingPairs_51 : decode cX7_restingPairs 51 = .ok (.iload_n 2, 1) := by decide +kernel
theorem dX7_restingPairs_52 : decode cX7_restingPairs 52 = .ok (.istore_n 3, 1) := by decide +kernel
theorem dX7_restingPairs_53 : decode cX7_restingPairs 53 = .ok (.iload_n 3, 1) := by decide +kernel
theorem dX7_restingPairs_54 : decode cX7_restingPairs 54 = .ok (.aload_n 0, 1) := by decide +kernel
theorem dX7_restingPairs_55 : decode cX7_restingPairs 55 = .ok (.getfield 19, 3) := by decide +kernel
theorem dX7_restingPairs_58 : decode cX7_restingPairs 58 = .ok (.invokevirtual 111, 3) := by decide +kernel
theorem dX7_restingPairs_61 : decode cX7_restingPairs 61 = .ok (.if_icmp .ge 29, 3) := by decide +kernel
theorem dX7_restingPairs_64 : decode cX7_restingPairs 64 = .ok (.aload_n 0, 1) := by decide +kernel
theorem dX7_restingPairs_65 : decode cX7_restingPairs 65 = .ok (.iload_n 2, 1) := by decide +kernel
theorem dX7_restingPairs_66 : decode cX7_restingPairs 66 = .ok (.iload_n 3, 1) := by decide +kernel
theorem dX7_restingPairs_67 : decode cX7_restingPairs 67 = .ok (.invokevirtual 229, 3) := by decide +kernel
theorem dX7_restingPairs_70 : decode cX7_restingPairs 70 = .ok (.aload_n 0, 1) := by decide +kernel
theorem dX7_restingPairs_71 : decode cX7_restingPairs 71 = .ok (.iload_n 2, 1) := by decide +kernel
theorem dX7_restingPairs_72 : decode cX7_restingPairs 72 = .ok (.iconst 0, 1) := by decide +kernel
theorem dX7_restingPairs_73 : decode cX7_restingPairs 73 = .ok (.iload_n 3, 1) := by decide +kernel
theorem dX7_restingPairs_74 : decode cX7_restingPairs 74 = .ok (.iconst 0, 1) := by decide +kernel
theorem dX7_restingPairs_75 : decode cX7_restingPairs 75 = .ok (.invokevirtual 232, 3) := by decide +kernel
theorem dX7_restingPairs_78 : decode cX7_restingPairs 78 = .ok (.ifCond .eq 6, 3) := by decide +kernel
theorem dX7_restingPairs_81 : decode cX7_restingPairs 81 = .ok (.iinc 1 1, 3) := by decide +kernel
theorem dX7_restingPairs_84 : decode cX7_restingPairs 84 = .ok (.iinc 3 1, 3) := by decide +kernel
theorem dX7_restingPairs_87 : decode cX7_restingPairs 87 = .ok (.goto (-34), 3) := by decide +kernel
theorem dX7_restingPairs_90 : decode cX7_restingPairs 90 = .ok (.iinc 2 1, 3) := by decide +kernel
theorem dX7_restingPairs_93 : decode cX7_restingPairs 93 = .ok (.goto (-53), 3) := by decide +kernel
theorem dX7_restingPairs_96 : decode cX7_restingPairs 96 = .ok (.iload_n 1, 1) := by decide +kernel
theorem dX7_restingPairs_97 : decode cX7_restingPairs 97 = .ok (.ireturn, 1) := by decide +kernel
