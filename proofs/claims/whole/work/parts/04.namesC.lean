theorem dX8_init_0 : decode cX8_init 0 = .ok (.aload_n 0, 1) := by decide +kernel
theorem dX8_init_1 : decode cX8_init 1 = .ok (.invokespecial 1, 3) := by decide +kernel
theorem dX8_init_4 : decode cX8_init 4 = .ok (.aload_n 0, 1) := by decide +kernel
theorem dX8_init_5 : decode cX8_init 5 = .ok (.bipush 9, 2) := by decide +kernel
theorem dX8_init_7 : decode cX8_init 7 = .ok (.newarray .int, 2) := by decide +kernel
theorem dX8_init_9 : decode cX8_init 9 = .ok (.putfield 7, 3) := by decide +kernel
theorem dX8_init_12 : decode cX8_init 12 = .ok (.aload_n 0, 1) := by decide +kernel
theorem dX8_init_13 : decode cX8_init 13 = .ok (.iconst 1, 1) := by decide +kernel
theorem dX8_init_14 : decode cX8_init 14 = .ok (.putfield 13, 3) := by decide +kernel
theorem dX8_init_17 : decode cX8_init 17 = .ok (.aload_n 0, 1) := by decide +kernel
theorem dX8_init_18 : decode cX8_init 18 = .ok (.iconst 2, 1) := by decide +kernel
theorem dX8_init_19 : decode cX8_init 19 = .ok (.putfield 17, 3) := by decide +kernel
theorem dX8_init_22 : decode cX8_init 22 = .ok (.aload_n 0, 1) := by decide +kernel
theorem dX8_init_23 : decode cX8_init 23 = .ok (.bipush 12, 2) := by decide +kernel
theorem dX8_init_25 : decode cX8_init 25 = .ok (.newarray .int, 2) := by decide +kernel
theorem dX8_init_27 : decode cX8_init 27 = .ok (.putfield 20, 3) := by decide +kernel
theorem dX8_init_30 : decode cX8_init 30 = .ok (.aload_n 0, 1) := by decide +kernel
theorem dX8_init_31 : decode cX8_init 31 = .ok (.bipush 48, 2) := by decide +kernel
theorem dX8_init_33 : decode cX8_init 33 = .ok (.newarray .int, 2) := by decide +kernel
theorem dX8_init_35 : decode cX8_init 35 = .ok (.putfield 23, 3) := by decide +kernel
theorem dX8_init_38 : decode cX8_init 38 = .ok (.aload_n 0, 1) := by decide +kernel
theorem dX8_init_39 : decode cX8_init 39 = .ok (.sipush 144, 3) := by decide +kernel
theorem dX8_init_42 : decode cX8_init 42 = .ok (.newarray .int, 2) := by decide +kernel
theorem dX8_init_44 : decode cX8_init 44 = .ok (.putfield 26, 3) := by decide +kernel
theorem dX8_init_47 : decode cX8_init 47 = .ok (.aload_n 0, 1) := by decide +kernel
theorem dX8_init_48 : decode cX8_init 48 = .ok (.iconst 4, 1) := by decide +kernel
theorem dX8_init_49 : decode cX8_init 49 = .ok (.newarray .int, 2) := by decide +kernel
theorem dX8_init_51 : decode cX8_init 51 = .ok (.putfield 29, 3) := by decide +kernel
theorem dX8_init_54 : decode cX8_init 54 = .ok (.aload_n 0, 1) := by decide +kernel
theorem dX8_init_55 : decode cX8_init 55 = .ok (.iconst 4, 1) := by decide +kernel
theorem dX8_init_56 : decode cX8_init 56 = .ok (.newarray .int, 2) := by decide +kernel
theorem dX8_init_58 : decode cX8_init 58 = .ok (.putfield 32, 3) := by decide +kernel
theorem dX8_init_61 : decode cX8_init 61 = .ok (.aload_n 0, 1) := by decide +kernel
theorem dX8_init_62 : decode cX8_init 62 = .ok (.sipush 240, 3) := by decide +kernel
theorem dX8_init_65 : decode cX8_init 65 = .ok (.newarray .int, 2) := by decide +kernel
theorem dX8_init_67 : decode cX8_init 67 = .ok (.putfield 35, 3) := by decide +kernel
theorem dX8_init_70 : decode cX8_init 70 = .ok (.aload_n 0, 1) := by decide +kernel
theorem dX8_init_71 : decode cX8_init 71 = .ok (.bipush 17, 2) := by decide +kernel
theorem dX8_init_73 : decode cX8_init 73 = .ok (.newarray .int, 2) := by decide +kernel
theorem dX8_init_75 : decode cX8_init 75 = .ok (.putfield 38, 3) := by decide +kernel
theorem dX8_init_78 : decode cX8_init 78 = .ok (.aload_n 0, 1) := by decide +kernel
theorem dX8_init_79 : decode cX8_init 79 = .ok (.bipush 16, 2) := by decide +kernel
theorem dX8_init_81 : decode cX8_init 81 = .ok (.newarray .int, 2) := by decide +kernel
theorem dX8_init_83 : decode cX8_init 83 = .ok (.putfield 41, 3) := by decide +kernel
theorem dX8_init_86 : decode cX8_init 86 = .ok (.aload_n 0, 1) := by decide +kernel
theorem dX8_init_87 : decode cX8_init 87 = .ok (.bipush 16, 2) := by decide +kernel
theorem dX8_init_89 : decode cX8_init 89 = .ok (.newarray .boolean, 2) := by decide +kernel
theorem dX8_init_91 : decode cX8_init 91 = .ok (.putfield 44, 3) := by decide +kernel
theorem dX8_init_94 : decode cX8_init 94 = .ok (.aload_n 0, 1) := by decide +kernel
theorem dX8_init_95 : decode cX8_init 95 = .ok (.bipush 12, 2) := by decide +kernel
theorem dX8_init_97 : decode cX8_init 97 = .ok (.newarray .int, 2) := by decide +kernel
theorem dX8_init_99 : decode cX8_init 99 = .ok (.putfield 48, 3) := by decide +kernel
theorem dX8_init_102 : decode cX8_init 102 = .ok (.iconst 0, 1) := by decide +kernel
theorem dX8_init_103 : decode cX8_init 103 = .ok (.istore_n 1, 1) := by decide +kernel
theorem dX8_init_104 : decode cX8_init 104 = .ok (.iload_n 1, 1) := by decide +kernel
theorem dX8_init_105 : decode cX8_init 105 = .ok (.iconst 4, 1) := by decide +kernel
theorem dX8_init_106 : decode cX8_init 106 = .ok (.if_icmp .ge 17, 3) := by decide +kernel
theorem dX8_init_109 : decode cX8_init 109 = .ok (.aload_n 0, 1) := by decide +kernel
theorem dX8_init_110 : decode cX8_init 110 = .ok (.getfield 29, 3) := by decide +kernel
theorem dX8_init_113 : decode cX8_init 113 = .ok (.iload_n 1, 1) := by decide +kernel
theorem dX8_init_114 : decode cX8_init 114 = .ok (.bipush (-4), 2) := by decide +kernel
theorem dX8_init_116 : decode cX8_init 116 = .ok (.iastore, 1) := by decide +kernel
theorem dX8_init_117 : decode cX8_init 117 = .ok (.iinc 1 1, 3) := by decide +kernel
theorem dX8_init_120 : decode cX8_init 120 = .ok (.goto (-16), 3) := by decide +kernel
theorem dX8_init_123 : decode cX8_init 123 = .ok (.return_, 1) := by decide +kernel
theorem dX8_in_0 : decode cX8_in 0 = .ok (.lload_n 0, 1) := by decide +kernel
theorem dX8_in_1 : decode cX8_in 1 = .ok (.lload_n 2, 1) := by decide +kernel
theorem dX8_in_2 : decode cX8_in 2 = .ok (.lcmp, 1) := by decide +kernel
theorem dX8_in_3 : decode cX8_in 3 = .ok (.ifCond .lt 14, 3) := by decide +kernel
theorem dX8_in_6 : decode cX8_in 6 = .ok (.lload_n 0, 1) := by decide +kernel
theorem dX8_in_7 : decode cX8_in 7 = .ok (.lload 4, 2) := by decide +kernel
theorem dX8_in_9 : decode cX8_in 9 = .ok (.lcmp, 1) := by decide +kernel
theorem dX8_in_10 : decode cX8_in 10 = .ok (.ifCond .gt 7, 3) := by decide +kernel
theorem dX8_in_13 : decode cX8_in 13 = .ok (.iconst 1, 1) := by decide +kernel
theorem dX8_in_14 : decode cX8_in 14 = .ok (.goto 4, 3) := by decide +kernel
theorem dX8_in_17 : decode cX8_in 17 = .ok (.iconst 0, 1) := by decide +kernel
theorem dX8_in_18 : decode cX8_in 18 = .ok (.ireturn, 1) := by decide +kernel
set_option maxRecDepth 20000 in
theorem ggX8_pay_X8_in : GoodIn wsX8_pay wsX8_in := goodIn_r _ [8] (by decide +kernel) (by decide +kernel)
set_option maxRecDepth 20000 in
theorem gX8_pay_X8_in : GoodIn wsX8_pay (va_wsS RX8 53 yX8_in wsX8_in) := goodIn_app (goodIn_of _ (by decide +kernel)) ggX8_pay_X8_in
theorem dX8_pay_0 : decode cX8_pay 0 = .ok (.iload_n 1, 1) := by decide +kernel
theorem dX8_pay_1 : decode cX8_pay 1 = .ok (.i2l, 1) := by decide +kernel
theorem dX8_pay_2 : decode cX8_pay 2 = .ok (.lconst 0, 1) := by decide +kernel
theorem dX8_pay_3 : decode cX8_pay 3 = .ok (.ldc2_w 51, 3) := by decide +kernel
theorem dX8_pay_6 : decode cX8_pay 6 = .ok (.invokestatic 53, 3) := by decide +kernel
theorem dX8_pay_9 : decode cX8_pay 9 = .ok (.ifCond .eq 29, 3) := by decide +kernel
theorem dX8_pay_12 : decode cX8_pay 12 = .ok (.iload_n 2, 1) := by decide +kernel
theorem dX8_pay_13 : decode cX8_pay 13 = .ok (.i2l, 1) := by decide +kernel
theorem dX8_pay_14 : decode cX8_pay 14 = .ok (.lconst 0, 1) := by decide +kernel
theorem dX8_pay_15 : decode cX8_pay 15 = .ok (.ldc2_w 51, 3) := by decide +kernel
theorem dX8_pay_18 : decode cX8_pay 18 = .ok (.invokestatic 53, 3) := by decide +kernel
theorem dX8_pay_21 : decode cX8_pay 21 = .ok (.ifCond .eq 17, 3) := by decide +kernel
theorem dX8_pay_24 : decode cX8_pay 24 = .ok (.iload_n 3, 1) := by decide +kernel
theorem dX8_pay_25 : decode cX8_pay 25 = .ok (.i2l, 1) := by decide +kernel
theorem dX8_pay_26 : decode cX8_pay 26 = .ok (.ldc2_w 57, 3) := by decide +kernel
theorem dX8_pay_29 : decode cX8_pay 29 = .ok (.ldc2_w 59, 3) := by decide +kernel
theorem dX8_pay_32 : decode cX8_pay 32 = .ok (.invokestatic 53, 3) := by decide +kernel
theorem dX8_pay_35 : decode cX8_pay 35 = .ok (.ifCond .ne 5, 3) := by decide +kernel
theorem dX8_pay_38 : decode cX8_pay 38 = .ok (.iconst (-1), 1) := by decide +kernel
theorem dX8_pay_39 : decode cX8_pay 39 = .ok (.ireturn, 1) := by decide +kernel
theorem dX8_pay_40 : decode cX8_pay 40 = .ok (.aload_n 0, 1) := by decide +kernel
theorem dX8_pay_41 : decode cX8_pay 41 = .ok (.getfield 7, 3) := by decide +kernel
theorem dX8_pay_44 : decode cX8_pay 44 = .ok (.iconst 3, 1) := by decide +kernel
theorem dX8_pay_45 : decode cX8_pay 45 = .ok (.iload_n 1, 1) := by decide +kernel
theorem dX8_pay_46 : decode cX8_pay 46 = .ok (.imul, 1) := by decide +kernel
theorem dX8_pay_47 : decode cX8_pay 47 = .ok (.iload_n 2, 1) := by decide +kernel
theorem dX8_pay_48 : decode cX8_pay 48 = .ok (.iadd, 1) := by decide +kernel
theorem dX8_pay_49 : decode cX8_pay 49 = .ok (.iload_n 3, 1) := by decide +kernel
theorem dX8_pay_50 : decode cX8_pay 50 = .ok (.iastore, 1) := by decide +kernel
theorem dX8_pay_51 : decode cX8_pay 51 = .ok (.iconst 1, 1) := by decide +kernel
theorem dX8_pay_52 : decode cX8_pay 52 = .ok (.ireturn, 1) := by decide +kernel
set_option maxRecDepth 20000 in
theorem ggX8_discount_X8_in : GoodIn wsX8_discount wsX8_in := goodIn_r _ [8] (by decide +kernel) (by decide +kernel)
set_option maxRecDepth 20000 in
theorem gX8_discount_X8_in : GoodIn wsX8_discount (va_wsS RX8 53 yX8_in wsX8_in) := goodIn_app (goodIn_of _ (by decide +kernel)) ggX8_discount_X8_in
theorem dX8_discount_0 : decode cX8_discount 0 = .ok (.iload_n 2, 1) := by decide +kernel
theorem dX8_discount_1 : decode cX8_discount 1 = .ok (.i2l, 1) := by decide +kernel
theorem dX8_discount_2 : decode cX8_discount 2 = .ok (.ldc2_w 51, 3) := by decide +kernel
theorem dX8_discount_5 : decode cX8_discount 5 = .ok (.ldc2_w 61, 3) := by decide +kernel
theorem dX8_discount_8 : decode cX8_discount 8 = .ok (.invokestatic 53, 3) := by decide +kernel
theorem dX8_discount_11 : decode cX8_discount 11 = .ok (.ifCond .eq 16, 3) := by decide +kernel
theorem dX8_discount_14 : decode cX8_discount 14 = .ok (.iload_n 1, 1) := by decide +kernel
theorem dX8_discount_15 : decode cX8_discount 15 = .ok (.i2l, 1) := by decide +kernel
theorem dX8_discount_16 : decode cX8_discount 16 = .ok (.lconst 1, 1) := by decide +kernel
theorem dX8_discount_17 : decode cX8_discount 17 = .ok (.iload_n 2, 1) := by decide +kernel
theorem dX8_discount_18 : decode cX8_discount 18 = .ok (.iconst 1, 1) := by decide +kernel
theorem dX8_discount_19 : decode cX8_discount 19 = .ok (.isub, 1) := by decide +kernel
theorem dX8_discount_20 : decode cX8_discount 20 = .ok (.i2l, 1) := by decide +kernel
theorem dX8_discount_21 : decode cX8_discount 21 = .ok (.invokestatic 53, 3) := by decide +kernel
theorem dX8_discount_24 : decode cX8_discount 24 = .ok (.ifCond .ne 5, 3) := by decide +kernel
theorem dX8_discount_27 : decode cX8_discount 27 = .ok (.iconst (-1), 1) := by decide +kernel
theorem dX8_discount_28 : decode cX8_discount 28 = .ok (.ireturn, 1) := by decide +kernel
theorem dX8_discount_29 : decode cX8_discount 29 = .ok (.aload_n 0, 1) := by decide +kernel
theorem dX8_discount_30 : decode cX8_discount 30 = .ok (.iload_n 1, 1) := by decide +kernel
theorem dX8_discount_31 : decode cX8_discount 31 = .ok (.putfield 13, 3) := by decide +kernel
theorem dX8_discount_34 : decode cX8_discount 34 = .ok (.aload_n 0, 1) := by decide +kernel
theorem dX8_discount_35 : decode cX8_discount 35 = .ok (.iload_n 2, 1) := by decide +kernel
theorem dX8_discount_36 : decode cX8_discount 36 = .ok (.putfield 17, 3) := by decide +kernel
theorem dX8_discount_39 : decode cX8_discount 39 = .ok (.iconst 1, 1) := by decide +kernel
theorem dX8_discount_40 : decode cX8_discount 40 = .ok (.ireturn, 1) := by decide +kernel
set_option maxRecDepth 20000 in
theorem ggX8_isMachine_X8_in : GoodIn wsX8_isMachine wsX8_in := goodIn_r _ [5] (by decide +kernel) (by decide +kernel)
set_option maxRecDepth 20000 in
theorem gX8_isMachine_X8_in : GoodIn wsX8_isMachine (va_wsS RX8 53 yX8_in wsX8_in) := goodIn_app (goodIn_of _ (by decide +kernel)) ggX8_isMachine_X8_in
theorem dX8_isMachine_0 : decode cX8_isMachine 0 = .ok (.iload_n 1, 1) := by decide +kernel
theorem dX8_isMachine_1 : decode cX8_isMachine 1 = .ok (.i2l, 1) := by decide +kernel
theorem dX8_isMachine_2 : decode cX8_isMachine 2 = .ok (.lconst 0, 1) := by decide +kernel
theorem dX8_isMachine_3 : decode cX8_isMachine 3 = .ok (.aload_n 0, 1) := by decide +kernel
theorem dX8_isMachine_4 : decode cX8_isMachine 4 = .ok (.getfield 63, 3) := by decide +kernel
theorem dX8_isMachine_7 : decode cX8_isMachine 7 = .ok (.iconst 1, 1) := by decide +kernel
theorem dX8_isMachine_8 : decode cX8_isMachine 8 = .ok (.isub, 1) := by decide +kernel
theorem dX8_isMachine_9 : decode cX8_isMachine 9 = .ok (.i2l, 1) := by decide +kernel
theorem dX8_isMachine_10 : decode cX8_isMachine 10 = .ok (.invokestatic 53, 3) := by decide +kernel
theorem dX8_isMachine_13 : decode cX8_isMachine 13 = .ok (.ireturn, 1) := by decide +kernel
set_option maxRecDepth 20000 in
theorem ggX8_isState_X8_isMachine : GoodIn wsX8_isState wsX8_isMachine := goodIn_r _ [6, 7, 8, 9, 5, 10, 11, 12, 13, 14, 15, 16, 17, 18, 19, 20, 21, 22, 23, 24, 25, 26, 27, 28, 29, 30, 31] (by decide +kernel) (by decide +kernel)
set_option maxRecDepth 20000 in
theorem gX8_isState_X8_isMachine : GoodIn wsX8_isState (wsV RX8 66 RX8 yX8_isMachine wsX8_isMachine) := goodIn_app (goodIn_of _ (by decide +kernel)) ggX8_isState_X8_isMachine
set_option maxRecDepth 20000 in
theorem ggX8_isState_X8_in : GoodIn wsX8_isState wsX8_in := goodIn_r _ [10] (by decide +kernel) (by decide +kernel)
set_option maxRecDepth 20000 in
theorem gX8_isState_X8_in : GoodIn wsX8_isState (va_wsS RX8 53 yX8_in wsX8_in) := goodIn_app (goodIn_of _ (by decide +kernel)) ggX8_isState_X8_in
theorem dX8_isState_0 : decode cX8_isState 0 = .ok (.aload_n 0, 1) := by decide +kernel
theorem dX8_isState_1 : decode cX8_isState 1 = .ok (.iload_n 1, 1) := by decide +kernel
theorem dX8_isState_2 : decode cX8_isState 2 = .ok (.invokevirtual 66, 3) := by decide +kernel
theorem dX8_isState_5 : decode cX8_isState 5 = .ok (.ifCond .eq 25, 3) := by decide +kernel
theorem dX8_isState_8 : decode cX8_isState 8 = .ok (.iload_n 2, 1) := by decide +kernel
theorem dX8_isState_9 : decode cX8_isState 9 = .ok (.i2l, 1) := by decide +kernel
theorem dX8_isState_10 : decode cX8_isState 10 = .ok (.lconst 0, 1) := by decide +kernel
theorem dX8_isState_11 : decode cX8_isState 11 = .ok (.aload_n 0, 1) := by decide +kernel
theorem dX8_isState_12 : decode cX8_isState 12 = .ok (.getfield 20, 3) := by decide +kernel
theorem dX8_isState_15 : decode cX8_isState 15 = .ok (.iload_n 1, 1) := by decide +kernel
theorem dX8_isState_16 : decode cX8_isState 16 = .ok (.iaload, 1) := by decide +kernel
theorem dX8_isState_17 : decode cX8_isState 17 = .ok (.iconst 1, 1) := by decide +kernel
theorem dX8_isState_18 : decode cX8_isState 18 = .ok (.isub, 1) := by decide +kernel
theorem dX8_isState_19 : decode cX8_isState 19 = .ok (.i2l, 1) := by decide +kernel
theorem dX8_isState_20 : decode cX8_isState 20 = .ok (.invokestatic 53, 3) := by decide +kernel
theorem dX8_isState_23 : decode cX8_isState 23 = .ok (.ifCond .eq 7, 3) := by decide +kernel
theorem dX8_isState_26 : decode cX8_isState 26 = .ok (.iconst 1, 1) := by decide +kernel
theorem dX8_isState_27 : decode cX8_isState 27 = .ok (.goto 4, 3) := by decide +kernel
theorem dX8_isState_30 : decode cX8_isState 30 = .ok (.iconst 0, 1) := by decide +kernel
theorem dX8_isState_31 : decode cX8_isState 31 = .ok (.ireturn, 1) := by decide +kernel
set_option maxRecDepth 20000 in
theorem ggX8_machine_X8_in : GoodIn wsX8_machine wsX8_in := goodIn_r _ [9] (by decide +kernel) (by decide +kernel)
set_option maxRecDepth 20000 in
theorem gX8_machine_X8_in : GoodIn wsX8_machine (va_wsS RX8 53 yX8_in wsX8_in) := goodIn_app (goodIn_of _ (by decide +kernel)) ggX8_machine_X8_in
theorem dX8_machine_0 : decode cX8_machine 0 = .ok (.iload_n 1, 1) := by decide +kernel
theorem dX8_machine_1 : decode cX8_machine 1 = .ok (.i2l, 1) := by decide +kernel
theorem dX8_machine_2 : decode cX8_machine 2 = .ok (.lconst 1, 1) := by decide +kernel
theorem dX8_machine_3 : decode cX8_machine 3 = .ok (.ldc2_w 61, 3) := by decide +kernel
theorem dX8_machine_6 : decode cX8_machine 6 = .ok (.invokestatic 53, 3) := by decide +kernel
theorem dX8_machine_9 : decode cX8_machine 9 = .ok (.ifCond .ne 5, 3) := by decide +kernel
theorem dX8_machine_12 : decode cX8_machine 12 = .ok (.iconst (-1), 1) := by decide +kernel
theorem dX8_machine_13 : decode cX8_machine 13 = .ok (.ireturn, 1) := by decide +kernel
theorem dX8_machine_14 : decode cX8_machine 14 = .ok (.aload_n 0, 1) := by decide +kernel
theorem dX8_machine_15 : decode cX8_machine 15 = .ok (.getfield 63, 3) := by decide +kernel
theorem dX8_machine_18 : decode cX8_machine 18 = .ok (.bipush 12, 2) := by decide +kernel
theorem dX8_machine_20 : decode cX8_machine 20 = .ok (.if_icmp .ne 6, 3) := by decide +kernel
theorem dX8_machine_23 : decode cX8_machine 23 = .ok (.bipush (-3), 2) := by decide +kernel
theorem dX8_machine_25 : decode cX8_machine 25 = .ok (.ireturn, 1) := by decide +kernel
theorem dX8_machine_26 : decode cX8_machine 26 = .ok (.aload_n 0, 1) := by decide +kernel
theorem dX8_machine_27 : decode cX8_machine 27 = .ok (.getfield 20, 3) := by decide +kernel
theorem dX8_machine_30 : decode cX8_machine 30 = .ok (.aload_n 0, 1) := by decide +kernel
theorem dX8_machine_31 : decode cX8_machine 31 = .ok (.getfield 63, 3) := by decide +kernel
theorem dX8_machine_34 : decode cX8_machine 34 = .ok (.iload_n 1, 1) := by decide +kernel
theorem dX8_machine_35 : decode cX8_machine 35 = .ok (.iastore, 1) := by decide +kernel
theorem dX8_machine_36 : decode cX8_machine 36 = .ok (.iconst 0, 1) := by decide +kernel
theorem dX8_machine_37 : decode cX8_machine 37 = .ok (.istore_n 2, 1) := by decide +kernel
theorem dX8_machine_38 : decode cX8_machine 38 = .ok (.iload_n 2, 1) := by decide +kernel
theorem dX8_machine_39 : decode cX8_machine 39 = .ok (.iconst 4, 1) := by decide +kernel
theorem dX8_machine_40 : decode cX8_machine 40 = .ok (.if_icmp .ge 55, 3) := by decide +kernel
theorem dX8_machine_43 : decode cX8_machine 43 = .ok (.aload_n 0, 1) := by decide +kernel
theorem dX8_machine_44 : decode cX8_machine 44 = .ok (.getfield 23, 3) := by decide +kernel
theorem dX8_machine_47 : decode cX8_machine 47 = .ok (.iconst 4, 1) := by decide +kernel
theorem dX8_machine_48 : decode cX8_machine 48 = .ok (.aload_n 0, 1) := by decide +kernel
theorem dX8_machine_49 : decode cX8_machine 49 = .ok (.getfield 63, 3) := by decide +kernel
theorem dX8_machine_52 : decode cX8_machine 52 = .ok (.imul, 1) := by decide +kernel
theorem dX8_machine_53 : decode cX8_machine 53 = .ok (.iload_n 2, 1) := by decide +kernel
theorem dX8_machine_54 : decode cX8_machine 54 = .ok (.iadd, 1) := by decide +kernel
theorem dX8_machine_55 : decode cX8_machine 55 = .ok (.iconst 0, 1) := by decide +kernel
theorem dX8_machine_56 : decode cX8_machine 56 = .ok (.iastore, 1) := by decide +kernel
theorem dX8_machine_57 : decode cX8_machine 57 = .ok (.iconst 0, 1) := by decide +kernel
theorem dX8_machine_58 : decode cX8_machine 58 = .ok (.istore_n 3, 1) := by decide +kernel
theorem dX8_machine_59 : decode cX8_machine 59 = .ok (.iload_n 3, 1) := by decide +kernel
theorem dX8_machine_60 : decode cX8_machine 60 = .ok (.iconst 3, 1) := by decide +kernel
theorem dX8_machine_61 : decode cX8_machine 61 = .ok (.if_icmp .ge 28, 3) := by decide +kernel
theorem dX8_machine_64 : decode cX8_machine 64 = .ok (.aload_n 0, 1) := by decide +kernel
theorem dX8_machine_65 : decode cX8_machine 65 = .ok (.getfield 26, 3) := by decide +kernel
theorem dX8_machine_68 : decode cX8_machine 68 = .ok (.bipush 12, 2) := by decide +kernel
theorem dX8_machine_70 : decode cX8_machine 70 = .ok (.aload_n 0, 1) := by decide +kernel
theorem dX8_machine_71 : decode cX8_machine 71 = .ok (.getfield 63, 3) := by decide +kernel
theorem dX8_machine_74 : decode cX8_machine 74 = .ok (.imul, 1) := by decide +kernel
theorem dX8_machine_75 : decode cX8_machine 75 = .ok (.iconst 3, 1) := by decide +kernel
theorem dX8_machine_76 : decode cX8_machine 76 = .ok (.iload_n 2, 1) := by decide +kernel
theorem dX8_machine_77 : decode cX8_machine 77 = .ok (.imul, 1) := by decide +kernel
theorem dX8_machine_78 : decode cX8_machine 78 = .ok (.iadd, 1) := by decide +kernel
theorem dX8_machine_79 : decode cX8_machine 79 = .ok (.iload_n 3, 1) := by decide +kernel
theorem dX8_machine_80 : decode cX8_machine 80 = .ok (.iadd, 1) := by decide +kernel
theorem dX8_machine_81 : decode cX8_machine 81 = .ok (.iload_n 2, 1) := by decide +kernel
theorem dX8_machine_82 : decode cX8_machine 82 = .ok (.iastore, 1) := by decide +kernel
theorem dX8_machine_83 : decode cX8_machine 83 = .ok (.iinc 3 1, 3) := by decide +kernel
theorem dX8_machine_86 : decode cX8_machine 86 = .ok (.goto (-27), 3) := by decide +kernel
theorem dX8_machine_89 : decode cX8_machine 89 = .ok (.iinc 2 1, 3) := by decide +kernel
theorem dX8_machine_92 : decode cX8_machine 92 = .ok (.goto (-54), 3) := by decide +kernel
theorem dX8_machine_95 : decode cX8_machine 95 = .ok (.aload_n 0, 1) := by decide +kernel
theorem dX8_machine_96 : decode cX8_machine 96 = .ok (.dup, 1) := by decide +kernel
theorem dX8_machine_97 : decode cX8_machine 97 = .ok (.getfield 63, 3) := by decide +kernel
theorem dX8_machine_100 : decode cX8_machine 100 = .ok (.iconst 1, 1) := by decide +kernel
theorem dX8_machine_101 : decode cX8_machine 101 = .ok (.iadd, 1) := by decide +kernel
theorem dX8_machine_102 : decode cX8_machine 102 = .ok (.putfield 63, 3) := by decide +kernel
theorem dX8_machine_105 : decode cX8_machine 105 = .ok (.aload_n 0, 1) := by decide +kernel
theorem dX8_machine_106 : decode cX8_machine 106 = .ok (.getfield 63, 3) := by decide +kernel
theorem dX8_machine_109 : decode cX8_machine 109 = .ok (.iconst 1, 1) := by decide +kernel
theorem dX8_machine_110 : decode cX8_machine 110 = .ok (.isub, 1) := by decide +kernel
theorem dX8_machine_111 : decode cX8_machine 111 = .ok (.ireturn, 1) := by decide +kernel
set_option maxRecDepth 20000 in
theorem ggX8_does_X8_isState : GoodIn wsX8_does wsX8_isState := goodIn_r _ [7, 8, 9, 10, 11, 6, 12, 13, 14, 15, 16, 17, 18, 19, 20, 21, 22, 23, 24, 25, 26, 27, 28, 29, 30, 31, 32, 33, 34, 35, 36, 37] (by decide +kernel) (by decide +kernel)
set_option maxRecDepth 20000 in
theorem gX8_does_X8_isState : GoodIn wsX8_does (wsV RX8 70 RX8 yX8_isState wsX8_isState) := goodIn_app (goodIn_of _ (by decide +kernel)) ggX8_does_X8_isState
set_option maxRecDepth 20000 in
theorem ggX8_does_X8_in : GoodIn wsX8_does wsX8_in := goodIn_r _ [16] (by decide +kernel) (by decide +kernel)
set_option maxRecDepth 20000 in
theorem gX8_does_X8_in : GoodIn wsX8_does (va_wsS RX8 53 yX8_in wsX8_in) := goodIn_app (goodIn_of _ (by decide +kernel)) ggX8_does_X8_in
theorem dX8_does_0 : decode cX8_does 0 = .ok (.aload_n 0, 1) := by decide +kernel
theorem dX8_does_1 : decode cX8_does 1 = .ok (.iload_n 1, 1) := by decide +kernel
theorem dX8_does_2 : decode cX8_does 2 = .ok (.iload_n 2, 1) := by decide +kernel
theorem dX8_does_3 : decode cX8_does 3 = .ok (.invokevirtual 70, 3) := by decide +kernel
theorem dX8_does_6 : decode cX8_does 6 = .ok (.ifCond .eq 15, 3) := by decide +kernel
theorem dX8_does_9 : decode cX8_does 9 = .ok (.iload_n 3, 1) := by decide +kernel
theorem dX8_does_10 : decode cX8_does 10 = .ok (.i2l, 1) := by decide +kernel
theorem dX8_does_11 : decode cX8_does 11 = .ok (.lconst 0, 1) := by decide +kernel
theorem dX8_does_12 : decode cX8_does 12 = .ok (.ldc2_w 51, 3) := by decide +kernel
theorem dX8_does_15 : decode cX8_does 15 = .ok (.invokestatic 53, 3) := by decide +kernel
theorem dX8_does_18 : decode cX8_does 18 = .ok (.ifCond .ne 5, 3) := by decide +kernel
theorem dX8_does_21 : decode cX8_does 21 = .ok (.iconst (-1), 1) := by decide +kernel
theorem dX8_does_22 : decode cX8_does 22 = .ok (.ireturn, 1) := by decide +kernel
theorem dX8_does_23 : decode cX8_does 23 = .ok (.aload_n 0, 1) := by decide +kernel
theorem dX8_does_24 : decode cX8_does 24 = .ok (.getfield 23, 3) := by decide +kernel
theorem dX8_does_27 : decode cX8_does 27 = .ok (.iconst 4, 1) := by decide +kernel
theorem dX8_does_28 : decode cX8_does 28 = .ok (.iload_n 1, 1) := by decide +kernel
theorem dX8_does_29 : decode cX8_does 29 = .ok (.imul, 1) := by decide +kernel
theorem dX8_does_30 : decode cX8_does 30 = .ok (.iload_n 2, 1) := by decide +kernel
theorem dX8_does_31 : decode cX8_does 31 = .ok (.iadd, 1) := by decide +kernel
theorem dX8_does_32 : decode cX8_does 32 = .ok (.iload_n 3, 1) := by decide +kernel
theorem dX8_does_33 : decode cX8_does 33 = .ok (.iastore, 1) := by decide +kernel
theorem dX8_does_34 : decode cX8_does 34 = .ok (.iconst 1, 1) := by decide +kernel
theorem dX8_does_35 : decode cX8_does 35 = .ok (.ireturn, 1) := by decide +kernel
set_option maxRecDepth 20000 in
theorem ggX8_goes_X8_isState : GoodIn wsX8_goes wsX8_isState := goodIn_r _ [7, 8, 9, 10, 11, 6, 12, 13, 14, 15, 16, 17, 18, 19, 20, 21, 22, 23, 24, 25, 26, 27, 28, 29, 30, 31, 32, 33, 34, 35, 36, 37] (by decide +kernel) (by decide +kernel)
set_option maxRecDepth 20000 in
theorem gX8_goes_X8_isState : GoodIn wsX8_goes (wsV RX8 70 RX8 yX8_isState wsX8_isState) := goodIn_app (goodIn_of _ (by decide +kernel)) ggX8_goes_X8_isState
set_option maxRecDepth 20000 in
theorem ggX8_goes_X8_in : GoodIn wsX8_goes wsX8_in := goodIn_r _ [16] (by decide +kernel) (by decide +kernel)
set_option maxRecDepth 20000 in
theorem gX8_goes_X8_in : GoodIn wsX8_goes (va_wsS RX8 53 yX8_in wsX8_in) := goodIn_app (goodIn_of _ (by decide +kernel)) ggX8_goes_X8_in
theorem dX8_goes_0 : decode cX8_goes 0 = .ok (.aload_n 0, 1) := by decide +kernel
theorem dX8_goes_1 : decode cX8_goes 1 = .ok (.iload_n 1, 1) := by decide +kernel
theorem dX8_goes_2 : decode cX8_goes 2 = .ok (.iload_n 2, 1) := by decide +kernel
theorem dX8_goes_3 : decode cX8_goes 3 = .ok (.invokevirtual 70, 3) := by decide +kernel
theorem dX8_goes_6 : decode cX8_goes 6 = .ok (.ifCond .eq 25, 3) := by decide +kernel
theorem dX8_goes_9 : decode cX8_goes 9 = .ok (.iload_n 3, 1) := by decide +kernel
theorem dX8_goes_10 : decode cX8_goes 10 = .ok (.i2l, 1) := by decide +kernel
theorem dX8_goes_11 : decode cX8_goes 11 = .ok (.lconst 0, 1) := by decide +kernel
theorem dX8_goes_12 : decode cX8_goes 12 = .ok (.ldc2_w 51, 3) := by decide +kernel
theorem dX8_goes_15 : decode cX8_goes 15 = .ok (.invokestatic 53, 3) := by decide +kernel
theorem dX8_goes_18 : decode cX8_goes 18 = .ok (.ifCond .eq 13, 3) := by decide +kernel
theorem dX8_goes_21 : decode cX8_goes 21 = .ok (.aload_n 0, 1) := by decide +kernel
theorem dX8_goes_22 : decode cX8_goes 22 = .ok (.iload_n 1, 1) := by decide +kernel
theorem dX8_goes_23 : decode cX8_goes 23 = .ok (.iload 4, 2) := by decide +kernel
theorem dX8_goes_25 : decode cX8_goes 25 = .ok (.invokevirtual 70, 3) := by decide +kernel
theorem dX8_goes_28 : decode cX8_goes 28 = .ok (.ifCond .ne 5, 3) := by decide +kernel
theorem dX8_goes_31 : decode cX8_goes 31 = .ok (.iconst (-1), 1) := by decide +kernel
theorem dX8_goes_32 : decode cX8_goes 32 = .ok (.ireturn, 1) := by decide +kernel
theorem dX8_goes_33 : decode cX8_goes 33 = .ok (.aload_n 0, 1) := by decide +kernel
theorem dX8_goes_34 : decode cX8_goes 34 = .ok (.getfield 26, 3) := by decide +kernel
theorem dX8_goes_37 : decode cX8_goes 37 = .ok (.bipush 12, 2) := by decide +kernel
theorem dX8_goes_39 : decode cX8_goes 39 = .ok (.iload_n 1, 1) := by decide +kernel
theorem dX8_goes_40 : decode cX8_goes 40 = .ok (.imul, 1) := by decide +kernel
theorem dX8_goes_41 : decode cX8_goes 41 = .ok (.iconst 3, 1) := by decide +kernel
theorem dX8_goes_42 : decode cX8_goes 42 = .ok (.iload_n 2, 1) := by decide +kernel
theorem dX8_goes_43 : decode cX8_goes 43 = .ok (.imul, 1) := by decide +kernel
theorem dX8_goes_44 : decode cX8_goes 44 = .ok (.iadd, 1) := by decide +kernel
theorem dX8_goes_45 : decode cX8_goes 45 = .ok (.iload_n 3, 1) := by decide +kernel
theorem dX8_goes_46 : decode cX8_goes 46 = .ok (.iadd, 1) := by decide +kernel
theorem dX8_goes_47 : decode cX8_goes 47 = .ok (.iload 4, 2) := by decide +kernel
theorem dX8_goes_49 : decode cX8_goes 49 = .ok (.iastore, 1) := by decide +kernel
theorem dX8_goes_50 : decode cX8_goes 50 = .ok (.iconst 1, 1) := by decide +kernel
theorem dX8_goes_51 : decode cX8_goes 51 = .ok (.ireturn, 1) := by decide +kernel
set_option maxRecDepth 20000 in
theorem ggX8_told_X8_isState : GoodIn wsX8_told wsX8_isState := goodIn_r _ [8, 9, 10, 11, 12, 7, 13, 14, 15, 16, 17, 18, 19, 20, 21, 22, 23, 24, 25, 26, 27, 28, 29, 30, 31, 32, 33, 34, 35, 36, 37, 38] (by decide +kernel) (by decide +kernel)
set_option maxRecDepth 20000 in
theorem gX8_told_X8_isState : GoodIn wsX8_told (wsV RX8 70 RX8 yX8_isState wsX8_isState) := goodIn_app (goodIn_of _ (by decide +kernel)) ggX8_told_X8_isState
set_option maxRecDepth 20000 in
theorem ggX8_told_X8_in : GoodIn wsX8_told wsX8_in := goodIn_r _ [17] (by decide +kernel) (by decide +kernel)
set_option maxRecDepth 20000 in
theorem gX8_told_X8_in : GoodIn wsX8_told (va_wsS RX8 53 yX8_in wsX8_in) := goodIn_app (goodIn_of _ (by decide +kernel)) ggX8_told_X8_in
theorem dX8_told_0 : decode cX8_told 0 = .ok (.aload_n 0, 1) := by decide +kernel
theorem dX8_told_1 : decode cX8_told 1 = .ok (.iload_n 1, 1) := by decide +kernel
theorem dX8_told_2 : decode cX8_told 2 = .ok (.iload_n 2, 1) := by decide +kernel
theorem dX8_told_3 : decode cX8_told 3 = .ok (.invokevirtual 70, 3) := by decide +kernel
theorem dX8_told_6 : decode cX8_told 6 = .ok (.ifCond .eq 15, 3) := by decide +kernel
theorem dX8_told_9 : decode cX8_told 9 = .ok (.iload_n 3, 1) := by decide +kernel
theorem dX8_told_10 : decode cX8_told 10 = .ok (.i2l, 1) := by decide +kernel
theorem dX8_told_11 : decode cX8_told 11 = .ok (.lconst 0, 1) := by decide +kernel
theorem dX8_told_12 : decode cX8_told 12 = .ok (.ldc2_w 74, 3) := by decide +kernel
theorem dX8_told_15 : decode cX8_told 15 = .ok (.invokestatic 53, 3) := by decide +kernel
theorem dX8_told_18 : decode cX8_told 18 = .ok (.ifCond .ne 7, 3) := by decide +kernel
theorem dX8_told_21 : decode cX8_told 21 = .ok (.iconst (-1), 1) := by decide +kernel
theorem dX8_told_22 : decode cX8_told 22 = .ok (.goto 37, 3) := by decide +kernel
theorem dX8_told_25 : decode cX8_told 25 = .ok (.iload_n 3, 1) := by decide +kernel
theorem dX8_told_26 : decode cX8_told 26 = .ok (.ifCond .ne 16, 3) := by decide +kernel
theorem dX8_told_29 : decode cX8_told 29 = .ok (.aload_n 0, 1) := by decide +kernel
theorem dX8_told_30 : decode cX8_told 30 = .ok (.getfield 23, 3) := by decide +kernel
theorem dX8_told_33 : decode cX8_told 33 = .ok (.iconst 4, 1) := by decide +kernel
theorem dX8_told_34 : decode cX8_told 34 = .ok (.iload_n 1, 1) := by decide +kernel
theorem dX8_told_35 : decode cX8_told 35 = .ok (.imul, 1) := by decide +kernel
theorem dX8_told_36 : decode cX8_told 36 = .ok (.iload_n 2, 1) := by decide +kernel
theorem dX8_told_37 : decode cX8_told 37 = .ok (.iadd, 1) := by decide +kernel
theorem dX8_told_38 : decode cX8_told 38 = .ok (.iaload, 1) := by decide +kernel
theorem dX8_told_39 : decode cX8_told 39 = .ok (.goto 20, 3) := by decide +kernel
theorem dX8_told_42 : decode cX8_told 42 = .ok (.aload_n 0, 1) := by decide +kernel
theorem dX8_told_43 : decode cX8_told 43 = .ok (.getfield 26, 3) := by decide +kernel
theorem dX8_told_46 : decode cX8_told 46 = .ok (.bipush 12, 2) := by decide +kernel
theorem dX8_told_48 : decode cX8_told 48 = .ok (.iload_n 1, 1) := by decide +kernel
theorem dX8_told_49 : decode cX8_told 49 = .ok (.imul, 1) := by decide +kernel
theorem dX8_told_50 : decode cX8_told 50 = .ok (.iconst 3, 1) := by decide +kernel
theorem dX8_told_51 : decode cX8_told 51 = .ok (.iload_n 2, 1) := by decide +kernel
theorem dX8_told_52 : decode cX8_told 52 = .ok (.imul, 1) := by decide +kernel
theorem dX8_told_53 : decode cX8_told 53 = .ok (.iadd, 1) := by decide +kernel
theorem dX8_told_54 : decode cX8_told 54 = .ok (.iload_n 3, 1) := by decide +kernel
theorem dX8_told_55 : decode cX8_told 55 = .ok (.iadd, 1) := by decide +kernel
theorem dX8_told_56 : decode cX8_told 56 = .ok (.iconst 1, 1) := by decide +kernel
theorem dX8_told_57 : decode cX8_told 57 = .ok (.isub, 1) := by decide +kernel
theorem dX8_told_58 : decode cX8_told 58 = .ok (.iaload, 1) := by decide +kernel
theorem dX8_told_59 : decode cX8_told 59 = .ok (.ireturn, 1) := by decide +kernel
theorem dX8_drop_0 : decode cX8_drop 0 = .ok (.aload_n 0, 1) := by decide +kernel
theorem dX8_drop_1 : decode cX8_drop 1 = .ok (.getfield 63, 3) := by decide +kernel
theorem dX8_drop_4 : decode cX8_drop 4 = .ok (.ifCond .ne 6, 3) := by decide +kernel
theorem dX8_drop_7 : decode cX8_drop 7 = .ok (.bipush (-4), 2) := by decide +kernel
theorem dX8_drop_9 : decode cX8_drop 9 = .ok (.ireturn, 1) := by decide +kernel
theorem dX8_drop_10 : decode cX8_drop 10 = .ok (.aload_n 0, 1) := by decide +kernel
theorem dX8_drop_11 : decode cX8_drop 11 = .ok (.dup, 1) := by decide +kernel
theorem dX8_drop_12 : decode cX8_drop 12 = .ok (.getfield 63, 3) := by decide +kernel
theorem dX8_drop_15 : decode cX8_drop 15 = .ok (.iconst 1, 1) := by decide +kernel
theorem dX8_drop_16 : decode cX8_drop 16 = .ok (.isub, 1) := by decide +kernel
theorem dX8_drop_17 : decode cX8_drop 17 = .ok (.putfield 63, 3) := by decide +kernel
theorem dX8_drop_20 : decode cX8_drop 20 = .ok (.aload_n 0, 1) := by decide +kernel
theorem dX8_drop_21 : decode cX8_drop 21 = .ok (.getfield 63, 3) := by decide +kernel
theorem dX8_drop_24 : decode cX8_drop 24 = .ok (.ireturn, 1) := by decide +kernel
set_option maxRecDepth 20000 in
theorem ggX8_isSheet_X8_in : GoodIn wsX8_isSheet wsX8_in := goodIn_r _ [6] (by decide +kernel) (by decide +kernel)
set_option maxRecDepth 20000 in
theorem gX8_isSheet_X8_in : GoodIn wsX8_isSheet (va_wsS RX8 53 yX8_in wsX8_in) := goodIn_app (goodIn_of _ (by decide +kernel)) ggX8_isSheet_X8_in
theorem dX8_isSheet_0 : decode cX8_isSheet 0 = .ok (.iload_n 0, 1) := by decide +kernel
theorem dX8_isSheet_1 : decode cX8_isSheet 1 = .ok (.i2l, 1) := by decide +kernel
theorem dX8_isSheet_2 : decode cX8_isSheet 2 = .ok (.lconst 0, 1) := by decide +kernel
theorem dX8_isSheet_3 : decode cX8_isSheet 3 = .ok (.ldc2_w 74, 3) := by decide +kernel
theorem dX8_isSheet_6 : decode cX8_isSheet 6 = .ok (.invokestatic 53, 3) := by decide +kernel
theorem dX8_isSheet_9 : decode cX8_isSheet 9 = .ok (.ifCond .eq 19, 3) := by decide +kernel
theorem dX8_isSheet_12 : decode cX8_isSheet 12 = .ok (.iload_n 1, 1) := by decide +kernel
theorem dX8_isSheet_13 : decode cX8_isSheet 13 = .ok (.i2l, 1) := by decide +kernel
theorem dX8_isSheet_14 : decode cX8_isSheet 14 = .ok (.lconst 0, 1) := by decide +kernel
theorem dX8_isSheet_15 : decode cX8_isSheet 15 = .ok (.ldc2_w 51, 3) := by decide +kernel
theorem dX8_isSheet_18 : decode cX8_isSheet 18 = .ok (.invokestatic 53, 3) := by decide +kernel
theorem dX8_isSheet_21 : decode cX8_isSheet 21 = .ok (.ifCond .eq 7, 3) := by decide +kernel
theorem dX8_isSheet_24 : decode cX8_isSheet 24 = .ok (.iconst 1, 1) := by decide +kernel
theorem dX8_isSheet_25 : decode cX8_isSheet 25 = .ok (.goto 4, 3) := by decide +kernel
theorem dX8_isSheet_28 : decode cX8_isSheet 28 = .ok (.iconst 0, 1) := by decide +kernel
theorem dX8_isSheet_29 : decode cX8_isSheet 29 = .ok (.ireturn, 1) := by decide +kernel
set_option maxRecDepth 20000 in
theorem ggX8_sheet_X8_isSheet : GoodIn wsX8_sheet wsX8_isSheet := goodIn_r _ [7, 8, 9, 10, 11, 6, 12] (by decide +kernel) (by decide +kernel)
set_option maxRecDepth 20000 in
theorem gX8_sheet_X8_isSheet : GoodIn wsX8_sheet (va_wsS RX8 76 yX8_isSheet wsX8_isSheet) := goodIn_app (goodIn_of _ (by decide +kernel)) ggX8_sheet_X8_isSheet
theorem dX8_sheet_0 : decode cX8_sheet 0 = .ok (.iload_n 1, 1) := by decide +kernel
theorem dX8_sheet_1 : decode cX8_sheet 1 = .ok (.iload_n 2, 1) := by decide +kernel
theorem dX8_sheet_2 : decode cX8_sheet 2 = .ok (.invokestatic 76, 3) := by decide +kernel
theorem dX8_sheet_5 : decode cX8_sheet 5 = .ok (.ifCond .eq 9, 3) := by decide +kernel
theorem dX8_sheet_8 : decode cX8_sheet 8 = .ok (.iload_n 3, 1) := by decide +kernel
theorem dX8_sheet_9 : decode cX8_sheet 9 = .ok (.bipush 60, 2) := by decide +kernel
theorem dX8_sheet_11 : decode cX8_sheet 11 = .ok (.if_icmp .le 5, 3) := by decide +kernel
theorem dX8_sheet_14 : decode cX8_sheet 14 = .ok (.iconst (-1), 1) := by decide +kernel
theorem dX8_sheet_15 : decode cX8_sheet 15 = .ok (.ireturn, 1) := by decide +kernel
theorem dX8_sheet_16 : decode cX8_sheet 16 = .ok (.iload_n 3, 1) := by decide +kernel
theorem dX8_sheet_17 : decode cX8_sheet 17 = .ok (.ifCond .ge 6, 3) := by decide +kernel
theorem dX8_sheet_20 : decode cX8_sheet 20 = .ok (.bipush (-14), 2) := by decide +kernel
theorem dX8_sheet_22 : decode cX8_sheet 22 = .ok (.ireturn, 1) := by decide +kernel
theorem dX8_sheet_23 : decode cX8_sheet 23 = .ok (.aload_n 0, 1) := by decide +kernel
theorem dX8_sheet_24 : decode cX8_sheet 24 = .ok (.getfield 29, 3) := by decide +kernel
theorem dX8_sheet_27 : decode cX8_sheet 27 = .ok (.iload_n 1, 1) := by decide +kernel
theorem dX8_sheet_28 : decode cX8_sheet 28 = .ok (.iload_n 2, 1) := by decide +kernel
theorem dX8_sheet_29 : decode cX8_sheet 29 = .ok (.iastore, 1) := by decide +kernel
theorem dX8_sheet_30 : decode cX8_sheet 30 = .ok (.aload_n 0, 1) := by decide +kernel
theorem dX8_sheet_31 : decode cX8_sheet 31 = .ok (.getfield 32, 3) := by decide +kernel
theorem dX8_sheet_34 : decode cX8_sheet 34 = .ok (.iload_n 1, 1) := by decide +kernel
theorem dX8_sheet_35 : decode cX8_sheet 35 = .ok (.iload_n 3, 1) := by decide +kernel
theorem dX8_sheet_36 : decode cX8_sheet 36 = .ok (.iastore, 1) := by decide +kernel
theorem dX8_sheet_37 : decode cX8_sheet 37 = .ok (.iconst 0, 1) := by decide +kernel
theorem dX8_sheet_38 : decode cX8_sheet 38 = .ok (.istore 4, 2) := by decide +kernel
theorem dX8_sheet_40 : decode cX8_sheet 40 = .ok (.iload 4, 2) := by decide +kernel
theorem dX8_sheet_42 : decode cX8_sheet 42 = .ok (.bipush 60, 2) := by decide +kernel
theorem dX8_sheet_44 : decode cX8_sheet 44 = .ok (.if_icmp .ge 22, 3) := by decide +kernel
theorem dX8_sheet_47 : decode cX8_sheet 47 = .ok (.aload_n 0, 1) := by decide +kernel
theorem dX8_sheet_48 : decode cX8_sheet 48 = .ok (.getfield 35, 3) := by decide +kernel
theorem dX8_sheet_51 : decode cX8_sheet 51 = .ok (.bipush 60, 2) := by decide +kernel
theorem dX8_sheet_53 : decode cX8_sheet 53 = .ok (.iload_n 1, 1) := by decide +kernel
theorem dX8_sheet_54 : decode cX8_sheet 54 = .ok (.imul, 1) := by decide +kernel
theorem dX8_sheet_55 : decode cX8_sheet 55 = .ok (.iload 4, 2) := by decide +kernel
theorem dX8_sheet_57 : decode cX8_sheet 57 = .ok (.iadd, 1) := by decide +kernel
theorem dX8_sheet_58 : decode cX8_sheet 58 = .ok (.iconst 0, 1) := by decide +kernel
theorem dX8_sheet_59 : decode cX8_sheet 59 = .ok (.iastore, 1) := by decide +kernel
theorem dX8_sheet_60 : decode cX8_sheet 60 = .ok (.iinc 4 1, 3) := by decide +kernel
theorem dX8_sheet_63 : decode cX8_sheet 63 = .ok (.goto (-23), 3) := by decide +kernel
theorem dX8_sheet_66 : decode cX8_sheet 66 = .ok (.iconst 1, 1) := by decide +kernel
theorem dX8_sheet_67 : decode cX8_sheet 67 = .ok (.ireturn, 1) := by decide +kernel
set_option maxRecDepth 20000 in
theorem ggX8_lay_X8_isSheet : GoodIn wsX8_lay wsX8_isSheet := goodIn_r _ [7, 8, 9, 10, 11, 6, 12] (by decide +kernel) (by decide +kernel)
set_option maxRecDepth 20000 in
theorem gX8_lay_X8_isSheet : GoodIn wsX8_lay (va_wsS RX8 76 yX8_isSheet wsX8_isSheet) := goodIn_app (goodIn_of _ (by decide +kernel)) ggX8_lay_X8_isSheet
set_option maxRecDepth 20000 in
theorem ggX8_lay_X8_in : GoodIn wsX8_lay wsX8_in := goodIn_r _ [12] (by decide +kernel) (by decide +kernel)
set_option maxRecDepth 20000 in
theorem gX8_lay_X8_in : GoodIn wsX8_lay (va_wsS RX8 53 yX8_in wsX8_in) := goodIn_app (goodIn_of _ (by decide +kernel)) ggX8_lay_X8_in
theorem dX8_lay_0 : decode cX8_lay 0 = .ok (.iload_n 1, 1) := by decide +kernel
theorem dX8_lay_1 : decode cX8_lay 1 = .ok (.iconst 0, 1) := by decide +kernel
theorem dX8_lay_2 : decode cX8_lay 2 = .ok (.invokestatic 76, 3) := by decide +kernel
theorem dX8_lay_5 : decode cX8_lay 5 = .ok (.ifCond .ne 5, 3) := by decide +kernel
theorem dX8_lay_8 : decode cX8_lay 8 = .ok (.iconst (-1), 1) := by decide +kernel
theorem dX8_lay_9 : decode cX8_lay 9 = .ok (.ireturn, 1) := by decide +kernel
theorem dX8_lay_10 : decode cX8_lay 10 = .ok (.aload_n 0, 1) := by decide +kernel
theorem dX8_lay_11 : decode cX8_lay 11 = .ok (.getfield 29, 3) := by decide +kernel
theorem dX8_lay_14 : decode cX8_lay 14 = .ok (.iload_n 1, 1) := by decide +kernel
theorem dX8_lay_15 : decode cX8_lay 15 = .ok (.iaload, 1) := by decide +kernel
theorem dX8_lay_16 : decode cX8_lay 16 = .ok (.bipush (-4), 2) := by decide +kernel
theorem dX8_lay_18 : decode cX8_lay 18 = .ok (.if_icmp .ne 6, 3) := by decide +kernel
theorem dX8_lay_21 : decode cX8_lay 21 = .ok (.bipush (-11), 2) := by decide +kernel
theorem dX8_lay_23 : decode cX8_lay 23 = .ok (.ireturn, 1) := by decide +kernel
theorem dX8_lay_24 : decode cX8_lay 24 = .ok (.iload_n 2, 1) := by decide +kernel
theorem dX8_lay_25 : decode cX8_lay 25 = .ok (.i2l, 1) := by decide +kernel
theorem dX8_lay_26 : decode cX8_lay 26 = .ok (.lconst 0, 1) := by decide +kernel
theorem dX8_lay_27 : decode cX8_lay 27 = .ok (.aload_n 0, 1) := by decide +kernel
theorem dX8_lay_28 : decode cX8_lay 28 = .ok (.getfield 32, 3) := by decide +kernel
theorem dX8_lay_31 : decode cX8_lay 31 = .ok (.iload_n 1, 1) := by decide +kernel
theorem dX8_lay_32 : decode cX8_lay 32 = .ok (.iaload, 1) := by decide +kernel
theorem dX8_lay_33 : decode cX8_lay 33 = .ok (.iconst 1, 1) := by decide +kernel
theorem dX8_lay_34 : decode cX8_lay 34 = .ok (.isub, 1) := by decide +kernel
theorem dX8_lay_35 : decode cX8_lay 35 = .ok (.i2l, 1) := by decide +kernel
theorem dX8_lay_36 : decode cX8_lay 36 = .ok (.invokestatic 53, 3) := by decide +kernel
theorem dX8_lay_39 : decode cX8_lay 39 = .ok (.ifCond .ne 6, 3) := by decide +kernel
theorem dX8_lay_42 : decode cX8_lay 42 = .ok (.bipush (-12), 2) := by decide +kernel
theorem dX8_lay_44 : decode cX8_lay 44 = .ok (.ireturn, 1) := by decide +kernel
theorem dX8_lay_45 : decode cX8_lay 45 = .ok (.aload_n 0, 1) := by decide +kernel
theorem dX8_lay_46 : decode cX8_lay 46 = .ok (.getfield 35, 3) := by decide +kernel
theorem dX8_lay_49 : decode cX8_lay 49 = .ok (.bipush 60, 2) := by decide +kernel
theorem dX8_lay_51 : decode cX8_lay 51 = .ok (.iload_n 1, 1) := by decide +kernel
theorem dX8_lay_52 : decode cX8_lay 52 = .ok (.imul, 1) := by decide +kernel
theorem dX8_lay_53 : decode cX8_lay 53 = .ok (.iload_n 2, 1) := by decide +kernel
theorem dX8_lay_54 : decode cX8_lay 54 = .ok (.iadd, 1) := by decide +kernel
theorem dX8_lay_55 : decode cX8_lay 55 = .ok (.aload_n 0, 1) := by decide +kernel
theorem dX8_lay_56 : decode cX8_lay 56 = .ok (.getfield 29, 3) := by decide +kernel
theorem dX8_lay_59 : decode cX8_lay 59 = .ok (.iload_n 1, 1) := by decide +kernel
theorem dX8_lay_60 : decode cX8_lay 60 = .ok (.iaload, 1) := by decide +kernel
theorem dX8_lay_61 : decode cX8_lay 61 = .ok (.ifCond .ne 8, 3) := by decide +kernel
theorem dX8_lay_64 : decode cX8_lay 64 = .ok (.iload_n 3, 1) := by decide +kernel
theorem dX8_lay_65 : decode cX8_lay 65 = .ok (.i2b, 1) := by decide +kernel
theorem dX8_lay_66 : decode cX8_lay 66 = .ok (.goto 19, 3) := by decide +kernel
theorem dX8_lay_69 : decode cX8_lay 69 = .ok (.aload_n 0, 1) := by decide +kernel
theorem dX8_lay_70 : decode cX8_lay 70 = .ok (.getfield 29, 3) := by decide +kernel
theorem dX8_lay_73 : decode cX8_lay 73 = .ok (.iload_n 1, 1) := by decide +kernel
theorem dX8_lay_74 : decode cX8_lay 74 = .ok (.iaload, 1) := by decide +kernel
theorem dX8_lay_75 : decode cX8_lay 75 = .ok (.iconst 1, 1) := by decide +kernel
theorem dX8_lay_76 : decode cX8_lay 76 = .ok (.if_icmp .ne 8, 3) := by decide +kernel
theorem dX8_lay_79 : decode cX8_lay 79 = .ok (.iload_n 3, 1) := by decide +kernel
theorem dX8_lay_80 : decode cX8_lay 80 = .ok (.i2s, 1) := by decide +kernel
theorem dX8_lay_81 : decode cX8_lay 81 = .ok (.goto 4, 3) := by decide +kernel
theorem dX8_lay_84 : decode cX8_lay 84 = .ok (.iload_n 3, 1) := by decide +kernel
theorem dX8_lay_85 : decode cX8_lay 85 = .ok (.iastore, 1) := by decide +kernel
theorem dX8_lay_86 : decode cX8_lay 86 = .ok (.iconst 1, 1) := by decide +kernel
theorem dX8_lay_87 : decode cX8_lay 87 = .ok (.ireturn, 1) := by decide +kernel
set_option maxRecDepth 20000 in
theorem ggX8_draw_X8_isSheet : GoodIn wsX8_draw wsX8_isSheet := goodIn_r _ [11, 12, 5, 13, 14, 10, 15] (by decide +kernel) (by decide +kernel)
set_option maxRecDepth 20000 in
theorem gX8_draw_X8_isSheet : GoodIn wsX8_draw (va_wsS RX8 76 yX8_isSheet wsX8_isSheet) := goodIn_app (goodIn_of _ (by decide +kernel)) ggX8_draw_X8_isSheet
set_option maxRecDepth 20000 in
theorem ggX8_draw_X8_in : GoodIn wsX8_draw wsX8_in := goodIn_r _ [15] (by decide +kernel) (by decide +kernel)
set_option maxRecDepth 20000 in
theorem gX8_draw_X8_in : GoodIn wsX8_draw (va_wsS RX8 53 yX8_in wsX8_in) := goodIn_app (goodIn_of _ (by decide +kernel)) ggX8_draw_X8_in
set_option maxRecDepth 20000 in
theorem ggX8_draw_X8_machine : GoodIn wsX8_draw wsX8_machine := goodIn_r _ [19, 1, 20, 21, 6, 7, 13, 14, 10, 15, 22, 23, 24, 25, 26, 27, 28, 29, 30, 31, 32, 33, 34, 35, 36, 37, 38, 39, 40, 41, 42] (by decide +kernel) (by decide +kernel)
set_option maxRecDepth 20000 in
theorem gX8_draw_X8_machine : GoodIn wsX8_draw (wsV RX8 79 RX8 yX8_machine wsX8_machine) := goodIn_app (goodIn_of _ (by decide +kernel)) ggX8_draw_X8_machine
theorem dX8_draw_0 : decode cX8_draw 0 = .ok (.iload_n 1, 1) := by decide +kernel
theorem dX8_draw_1 : decode cX8_draw 1 = .ok (.iload_n 2, 1) := by decide +kernel
theorem dX8_draw_2 : decode cX8_draw 2 = .ok (.invokestatic 76, 3) := by decide +kernel
theorem dX8_draw_5 : decode cX8_draw 5 = .ok (.ifCond .eq 16, 3) := by decide +kernel
theorem dX8_draw_8 : decode cX8_draw 8 = .ok (.iload 4, 2) := by decide +kernel
theorem dX8_draw_10 : decode cX8_draw 10 = .ok (.i2l, 1) := by decide +kernel
theorem dX8_draw_11 : decode cX8_draw 11 = .ok (.lconst 1, 1) := by decide +kernel
theorem dX8_draw_12 : decode cX8_draw 12 = .ok (.ldc2_w 61, 3) := by decide +kernel
theorem dX8_draw_15 : decode cX8_draw 15 = .ok (.invokestatic 53, 3) := by decide +kernel
theorem dX8_draw_18 : decode cX8_draw 18 = .ok (.ifCond .ne 5, 3) := by decide +kernel
theorem dX8_draw_21 : decode cX8_draw 21 = .ok (.iconst (-1), 1) := by decide +kernel
theorem dX8_draw_22 : decode cX8_draw 22 = .ok (.ireturn, 1) := by decide +kernel
theorem dX8_draw_23 : decode cX8_draw 23 = .ok (.aload_n 0, 1) := by decide +kernel
theorem dX8_draw_24 : decode cX8_draw 24 = .ok (.getfield 29, 3) := by decide +kernel
theorem dX8_draw_27 : decode cX8_draw 27 = .ok (.iload_n 1, 1) := by decide +kernel
theorem dX8_draw_28 : decode cX8_draw 28 = .ok (.iaload, 1) := by decide +kernel
theorem dX8_draw_29 : decode cX8_draw 29 = .ok (.iload_n 2, 1) := by decide +kernel
theorem dX8_draw_30 : decode cX8_draw 30 = .ok (.if_icmp .eq 22, 3) := by decide +kernel
theorem dX8_draw_33 : decode cX8_draw 33 = .ok (.aload_n 0, 1) := by decide +kernel
theorem dX8_draw_34 : decode cX8_draw 34 = .ok (.getfield 29, 3) := by decide +kernel
theorem dX8_draw_37 : decode cX8_draw 37 = .ok (.iload_n 1, 1) := by decide +kernel
theorem dX8_draw_38 : decode cX8_draw 38 = .ok (.iaload, 1) := by decide +kernel
theorem dX8_draw_39 : decode cX8_draw 39 = .ok (.bipush (-4), 2) := by decide +kernel
theorem dX8_draw_41 : decode cX8_draw 41 = .ok (.if_icmp .ne 8, 3) := by decide +kernel
theorem dX8_draw_44 : decode cX8_draw 44 = .ok (.bipush (-11), 2) := by decide +kernel
theorem dX8_draw_46 : decode cX8_draw 46 = .ok (.goto 5, 3) := by decide +kernel
theorem dX8_draw_49 : decode cX8_draw 49 = .ok (.bipush (-13), 2) := by decide +kernel
theorem dX8_draw_51 : decode cX8_draw 51 = .ok (.ireturn, 1) := by decide +kernel
theorem dX8_draw_52 : decode cX8_draw 52 = .ok (.iconst 0, 1) := by decide +kernel
theorem dX8_draw_53 : decode cX8_draw 53 = .ok (.istore 5, 2) := by decide +kernel
theorem dX8_draw_55 : decode cX8_draw 55 = .ok (.iload 5, 2) := by decide +kernel
theorem dX8_draw_57 : decode cX8_draw 57 = .ok (.iconst 4, 1) := by decide +kernel
theorem dX8_draw_58 : decode cX8_draw 58 = .ok (.iload 4, 2) := by decide +kernel
theorem dX8_draw_60 : decode cX8_draw 60 = .ok (.imul, 1) := by decide +kernel
theorem dX8_draw_61 : decode cX8_draw 61 = .ok (.if_icmp .ge 85, 3) := by decide +kernel
theorem dX8_draw_64 : decode cX8_draw 64 = .ok (.iload_n 3, 1) := by decide +kernel
theorem dX8_draw_65 : decode cX8_draw 65 = .ok (.i2l, 1) := by decide +kernel
theorem dX8_draw_66 : decode cX8_draw 66 = .ok (.iload 5, 2) := by decide +kernel
theorem dX8_draw_68 : decode cX8_draw 68 = .ok (.i2l, 1) := by decide +kernel
theorem dX8_draw_69 : decode cX8_draw 69 = .ok (.ladd, 1) := by decide +kernel
theorem dX8_draw_70 : decode cX8_draw 70 = .ok (.lstore 6, 2) := by decide +kernel
theorem dX8_draw_72 : decode cX8_draw 72 = .ok (.lload 6, 2) := by decide +kernel
theorem dX8_draw_74 : decode cX8_draw 74 = .ok (.lconst 0, 1) := by decide +kernel
theorem dX8_draw_75 : decode cX8_draw 75 = .ok (.lcmp, 1) := by decide +kernel
theorem dX8_draw_76 : decode cX8_draw 76 = .ok (.ifCond .lt 16, 3) := by decide +kernel
theorem dX8_draw_79 : decode cX8_draw 79 = .ok (.lload 6, 2) := by decide +kernel
theorem dX8_draw_81 : decode cX8_draw 81 = .ok (.aload_n 0, 1) := by decide +kernel
theorem dX8_draw_82 : decode cX8_draw 82 = .ok (.getfield 32, 3) := by decide +kernel
theorem dX8_draw_85 : decode cX8_draw 85 = .ok (.iload_n 1, 1) := by decide +kernel
theorem dX8_draw_86 : decode cX8_draw 86 = .ok (.iaload, 1) := by decide +kernel
theorem dX8_draw_87 : decode cX8_draw 87 = .ok (.i2l, 1) := by decide +kernel
theorem dX8_draw_88 : decode cX8_draw 88 = .ok (.lcmp, 1) := by decide +kernel
theorem dX8_draw_89 : decode cX8_draw 89 = .ok (.ifCond .lt 6, 3) := by decide +kernel
theorem dX8_draw_92 : decode cX8_draw 92 = .ok (.bipush (-12), 2) := by decide +kernel
theorem dX8_draw_94 : decode cX8_draw 94 = .ok (.ireturn, 1) := by decide +kernel
theorem dX8_draw_95 : decode cX8_draw 95 = .ok (.aload_n 0, 1) := by decide +kernel
theorem dX8_draw_96 : decode cX8_draw 96 = .ok (.getfield 35, 3) := by decide +kernel
theorem dX8_draw_99 : decode cX8_draw 99 = .ok (.bipush 60, 2) := by decide +kernel
theorem dX8_draw_101 : decode cX8_draw 101 = .ok (.iload_n 1, 1) := by decide +kernel
theorem dX8_draw_102 : decode cX8_draw 102 = .ok (.imul, 1) := by decide +kernel
theorem dX8_draw_103 : decode cX8_draw 103 = .ok (.lload 6, 2) := by decide +kernel
theorem dX8_draw_105 : decode cX8_draw 105 = .ok (.l2i, 1) := by decide +kernel
theorem dX8_draw_106 : decode cX8_draw 106 = .ok (.iadd, 1) := by decide +kernel
theorem dX8_draw_107 : decode cX8_draw 107 = .ok (.iaload, 1) := by decide +kernel
theorem dX8_draw_108 : decode cX8_draw 108 = .ok (.i2l, 1) := by decide +kernel
theorem dX8_draw_109 : decode cX8_draw 109 = .ok (.lconst 0, 1) := by decide +kernel
theorem dX8_draw_110 : decode cX8_draw 110 = .ok (.iload 5, 2) := by decide +kernel
theorem dX8_draw_112 : decode cX8_draw 112 = .ok (.iconst 4, 1) := by decide +kernel
theorem dX8_draw_113 : decode cX8_draw 113 = .ok (.irem, 1) := by decide +kernel
theorem dX8_draw_114 : decode cX8_draw 114 = .ok (.ifCond .ne 9, 3) := by decide +kernel
theorem dX8_draw_117 : decode cX8_draw 117 = .ok (.ldc2_w 51, 3) := by decide +kernel
theorem dX8_draw_120 : decode cX8_draw 120 = .ok (.goto 8, 3) := by decide +kernel
theorem dX8_draw_123 : decode cX8_draw 123 = .ok (.iload 4, 2) := by decide +kernel
theorem dX8_draw_125 : decode cX8_draw 125 = .ok (.iconst 1, 1) := by decide +kernel
theorem dX8_draw_126 : decode cX8_draw 126 = .ok (.isub, 1) := by decide +kernel
theorem dX8_draw_127 : decode cX8_draw 127 = .ok (.i2l, 1) := by decide +kernel
theorem dX8_draw_128 : decode cX8_draw 128 = .ok (.invokestatic 53, 3) := by decide +kernel
theorem dX8_draw_131 : decode cX8_draw 131 = .ok (.ifCond .ne 9, 3) := by decide +kernel
theorem dX8_draw_134 : decode cX8_draw 134 = .ok (.bipush (-20), 2) := by decide +kernel
theorem dX8_draw_136 : decode cX8_draw 136 = .ok (.iload 5, 2) := by decide +kernel
theorem dX8_draw_138 : decode cX8_draw 138 = .ok (.isub, 1) := by decide +kernel
theorem dX8_draw_139 : decode cX8_draw 139 = .ok (.ireturn, 1) := by decide +kernel
theorem dX8_draw_140 : decode cX8_draw 140 = .ok (.iinc 5 1, 3) := by decide +kernel
theorem dX8_draw_143 : decode cX8_draw 143 = .ok (.goto (-88), 3) := by decide +kernel
theorem dX8_draw_146 : decode cX8_draw 146 = .ok (.aload_n 0, 1) := by decide +kernel
theorem dX8_draw_147 : decode cX8_draw 147 = .ok (.iload 4, 2) := by decide +kernel
theorem dX8_draw_149 : decode cX8_draw 149 = .ok (.invokevirtual 79, 3) := by decide +kernel
theorem dX8_draw_152 : decode cX8_draw 152 = .ok (.istore 5, 2) := by decide +kernel
theorem dX8_draw_154 : decode cX8_draw 154 = .ok (.iconst 0, 1) := by decide +kernel
theorem dX8_draw_155 : decode cX8_draw 155 = .ok (.istore 6, 2) := by decide +kernel
theorem dX8_draw_157 : decode cX8_draw 157 = .ok (.iload 6, 2) := by decide +kernel
theorem dX8_draw_159 : decode cX8_draw 159 = .ok (.iconst 4, 1) := by decide +kernel
theorem dX8_draw_160 : decode cX8_draw 160 = .ok (.iload 4, 2) := by decide +kernel
theorem dX8_draw_162 : decode cX8_draw 162 = .ok (.imul, 1) := by decide +kernel
theorem dX8_draw_163 : decode cX8_draw 163 = .ok (.if_icmp .ge 82, 3) := by decide +kernel
theorem dX8_draw_166 : decode cX8_draw 166 = .ok (.iload 5, 2) := by decide +kernel
theorem dX8_draw_168 : decode cX8_draw 168 = .ok (.ifCond .lt 77, 3) := by decide +kernel
theorem dX8_draw_171 : decode cX8_draw 171 = .ok (.aload_n 0, 1) := by decide +kernel
theorem dX8_draw_172 : decode cX8_draw 172 = .ok (.getfield 35, 3) := by decide +kernel
theorem dX8_draw_175 : decode cX8_draw 175 = .ok (.bipush 60, 2) := by decide +kernel
theorem dX8_draw_177 : decode cX8_draw 177 = .ok (.iload_n 1, 1) := by decide +kernel
theorem dX8_draw_178 : decode cX8_draw 178 = .ok (.imul, 1) := by decide +kernel
theorem dX8_draw_179 : decode cX8_draw 179 = .ok (.iload_n 3, 1) := by decide +kernel
theorem dX8_draw_180 : decode cX8_draw 180 = .ok (.iadd, 1) := by decide +kernel
theorem dX8_draw_181 : decode cX8_draw 181 = .ok (.iload 6, 2) := by decide +kernel
theorem dX8_draw_183 : decode cX8_draw 183 = .ok (.iadd, 1) := by decide +kernel
theorem dX8_draw_184 : decode cX8_draw 184 = .ok (.iaload, 1) := by decide +kernel
theorem dX8_draw_185 : decode cX8_draw 185 = .ok (.istore 7, 2) := by decide +kernel
theorem dX8_draw_187 : decode cX8_draw 187 = .ok (.iload 6, 2) := by decide +kernel
theorem dX8_draw_189 : decode cX8_draw 189 = .ok (.iconst 4, 1) := by decide +kernel
theorem dX8_draw_190 : decode cX8_draw 190 = .ok (.irem, 1) := by decide +kernel
theorem dX8_draw_191 : decode cX8_draw 191 = .ok (.ifCond .ne 22, 3) := by decide +kernel
theorem dX8_draw_194 : decode cX8_draw 194 = .ok (.aload_n 0, 1) := by decide +kernel
theorem dX8_draw_195 : decode cX8_draw 195 = .ok (.getfield 23, 3) := by decide +kernel
theorem dX8_draw_198 : decode cX8_draw 198 = .ok (.iconst 4, 1) := by decide +kernel
theorem dX8_draw_199 : decode cX8_draw 199 = .ok (.iload 5, 2) := by decide +kernel
theorem dX8_draw_201 : decode cX8_draw 201 = .ok (.imul, 1) := by decide +kernel
theorem dX8_draw_202 : decode cX8_draw 202 = .ok (.iload 6, 2) := by decide +kernel
theorem dX8_draw_204 : decode cX8_draw 204 = .ok (.iconst 4, 1) := by decide +kernel
theorem dX8_draw_205 : decode cX8_draw 205 = .ok (.idiv, 1) := by decide +kernel
theorem dX8_draw_206 : decode cX8_draw 206 = .ok (.iadd, 1) := by decide +kernel
theorem dX8_draw_207 : decode cX8_draw 207 = .ok (.iload 7, 2) := by decide +kernel
theorem dX8_draw_209 : decode cX8_draw 209 = .ok (.iastore, 1) := by decide +kernel
theorem dX8_draw_210 : decode cX8_draw 210 = .ok (.goto 29, 3) := by decide +kernel
theorem dX8_draw_213 : decode cX8_draw 213 = .ok (.aload_n 0, 1) := by decide +kernel
theorem dX8_draw_214 : decode cX8_draw 214 = .ok (.getfield 26, 3) := by decide +kernel
theorem dX8_draw_217 : decode cX8_draw 217 = .ok (.bipush 12, 2) := by decide +kernel
theorem dX8_draw_219 : decode cX8_draw 219 = .ok (.iload 5, 2) := by decide +kernel
theorem dX8_draw_221 : decode cX8_draw 221 = .ok (.imul, 1) := by decide +kernel
theorem dX8_draw_222 : decode cX8_draw 222 = .ok (.iconst 3, 1) := by decide +kernel
theorem dX8_draw_223 : decode cX8_draw 223 = .ok (.iload 6, 2) := by decide +kernel
theorem dX8_draw_225 : decode cX8_draw 225 = .ok (.iconst 4, 1) := by decide +kernel
theorem dX8_draw_226 : decode cX8_draw 226 = .ok (.idiv, 1) := by decide +kernel
theorem dX8_draw_227 : decode cX8_draw 227 = .ok (.imul, 1) := by decide +kernel
theorem dX8_draw_228 : decode cX8_draw 228 = .ok (.iadd, 1) := by decide +kernel
theorem dX8_draw_229 : decode cX8_draw 229 = .ok (.iload 6, 2) := by decide +kernel
theorem dX8_draw_231 : decode cX8_draw 231 = .ok (.iconst 4, 1) := by decide +kernel
theorem dX8_draw_232 : decode cX8_draw 232 = .ok (.irem, 1) := by decide +kernel
theorem dX8_draw_233 : decode cX8_draw 233 = .ok (.iadd, 1) := by decide +kernel
theorem dX8_draw_234 : decode cX8_draw 234 = .ok (.iconst 1, 1) := by decide +kernel
theorem dX8_draw_235 : decode cX8_draw 235 = .ok (.isub, 1) := by decide +kernel
theorem dX8_draw_236 : decode cX8_draw 236 = .ok (.iload 7, 2) := by decide +kernel
theorem dX8_draw_238 : decode cX8_draw 238 = .ok (.iastore, 1) := by decide +kernel
theorem dX8_draw_239 : decode cX8_draw 239 = .ok (.iinc 6 1, 3) := by decide +kernel
theorem dX8_draw_242 : decode cX8_draw 242 = .ok (.goto (-85), 3) := by decide +kernel
theorem dX8_draw_245 : decode cX8_draw 245 = .ok (.iload 5, 2) := by decide +kernel
theorem dX8_draw_247 : decode cX8_draw 247 = .ok (.ireturn, 1) := by decide +kernel
theorem dX8_after_0 : decode cX8_after 0 = .ok (.iconst 4, 1) := by decide +kernel
theorem dX8_after_1 : decode cX8_after 1 = .ok (.aload_n 0, 1) := by decide +kernel
theorem dX8_after_2 : decode cX8_after 2 = .ok (.getfield 26, 3) := by decide +kernel
theorem dX8_after_5 : decode cX8_after 5 = .ok (.bipush 12, 2) := by decide +kernel
theorem dX8_after_7 : decode cX8_after 7 = .ok (.iload_n 1, 1) := by decide +kernel
theorem dX8_after_8 : decode cX8_after 8 = .ok (.imul, 1) := by decide +kernel
theorem dX8_after_9 : decode cX8_after 9 = .ok (.iconst 3, 1) := by decide +kernel
theorem dX8_after_10 : decode cX8_after 10 = .ok (.iload_n 3, 1) := by decide +kernel
theorem dX8_after_11 : decode cX8_after 11 = .ok (.iconst 4, 1) := by decide +kernel
theorem dX8_after_12 : decode cX8_after 12 = .ok (.idiv, 1) := by decide +kernel
theorem dX8_after_13 : decode cX8_after 13 = .ok (.imul, 1) := by decide +kernel
theorem dX8_after_14 : decode cX8_after 14 = .ok (.iadd, 1) := by decide +kernel
theorem dX8_after_15 : decode cX8_after 15 = .ok (.iload 5, 2) := by decide +kernel
theorem dX8_after_17 : decode cX8_after 17 = .ok (.iadd, 1) := by decide +kernel
theorem dX8_after_18 : decode cX8_after 18 = .ok (.iaload, 1) := by decide +kernel
theorem dX8_after_19 : decode cX8_after 19 = .ok (.imul, 1) := by decide +kernel
theorem dX8_after_20 : decode cX8_after 20 = .ok (.aload_n 0, 1) := by decide +kernel
theorem dX8_after_21 : decode cX8_after 21 = .ok (.getfield 26, 3) := by decide +kernel
theorem dX8_after_24 : decode cX8_after 24 = .ok (.bipush 12, 2) := by decide +kernel
theorem dX8_after_26 : decode cX8_after 26 = .ok (.iload_n 2, 1) := by decide +kernel
theorem dX8_after_27 : decode cX8_after 27 = .ok (.imul, 1) := by decide +kernel
theorem dX8_after_28 : decode cX8_after 28 = .ok (.iconst 3, 1) := by decide +kernel
theorem dX8_after_29 : decode cX8_after 29 = .ok (.iload_n 3, 1) := by decide +kernel
theorem dX8_after_30 : decode cX8_after 30 = .ok (.iconst 4, 1) := by decide +kernel
theorem dX8_after_31 : decode cX8_after 31 = .ok (.irem, 1) := by decide +kernel
theorem dX8_after_32 : decode cX8_after 32 = .ok (.imul, 1) := by decide +kernel
theorem dX8_after_33 : decode cX8_after 33 = .ok (.iadd, 1) := by decide +kernel
theorem dX8_after_34 : decode cX8_after 34 = .ok (.iload 4, 2) := by decide +kernel
theorem dX8_after_36 : decode cX8_after 36 = .ok (.iadd, 1) := by decide +kernel
theorem dX8_after_37 : decode cX8_after 37 = .ok (.iaload, 1) := by decide +kernel
theorem dX8_after_38 : decode cX8_after 38 = .ok (.iadd, 1) := by decide +kernel
theorem dX8_after_39 : decode cX8_after 39 = .ok (.ireturn, 1) := by decide +kernel
theorem dX8_mine_0 : decode cX8_mine 0 = .ok (.aload_n 0, 1) := by decide +kernel
theorem dX8_mine_1 : decode cX8_mine 1 = .ok (.getfield 23, 3) := by decide +kernel
theorem dX8_mine_4 : decode cX8_mine 4 = .ok (.iconst 4, 1) := by decide +kernel
theorem dX8_mine_5 : decode cX8_mine 5 = .ok (.iload_n 1, 1) := by decide +kernel
theorem dX8_mine_6 : decode cX8_mine 6 = .ok (.imul, 1) := by decide +kernel
theorem dX8_mine_7 : decode cX8_mine 7 = .ok (.iload_n 2, 1) := by decide +kernel
theorem dX8_mine_8 : decode cX8_mine 8 = .ok (.iconst 4, 1) := by decide +kernel
theorem dX8_mine_9 : decode cX8_mine 9 = .ok (.idiv, 1) := by decide +kernel
theorem dX8_mine_10 : decode cX8_mine 10 = .ok (.iadd, 1) := by decide +kernel
theorem dX8_mine_11 : decode cX8_mine 11 = .ok (.iaload, 1) := by decide +kernel
theorem dX8_mine_12 : decode cX8_mine 12 = .ok (.ireturn, 1) := by decide +kernel
theorem dX8_theirs_0 : decode cX8_theirs 0 = .ok (.aload_n 0, 1) := by decide +kernel
theorem dX8_theirs_1 : decode cX8_theirs 1 = .ok (.getfield 23, 3) := by decide +kernel
theorem dX8_theirs_4 : decode cX8_theirs 4 = .ok (.iconst 4, 1) := by decide +kernel
theorem dX8_theirs_5 : decode cX8_theirs 5 = .ok (.iload_n 1, 1) := by decide +kernel
theorem dX8_theirs_6 : decode cX8_theirs 6 = .ok (.imul, 1) := by decide +kernel
theorem dX8_theirs_7 : decode cX8_theirs 7 = .ok (.iload_n 2, 1) := by decide +kernel
theorem dX8_theirs_8 : decode cX8_theirs 8 = .ok (.iconst 4, 1) := by decide +kernel
theorem dX8_theirs_9 : decode cX8_theirs 9 = .ok (.irem, 1) := by decide +kernel
theorem dX8_theirs_10 : decode cX8_theirs 10 = .ok (.iadd, 1) := by decide +kernel
theorem dX8_theirs_11 : decode cX8_theirs 11 = .ok (.iaload, 1) := by decide +kernel
theorem dX8_theirs_12 : decode cX8_theirs 12 = .ok (.ireturn, 1) := by decide +kernel
set_option maxRecDepth 20000 in
theorem ggX8_next_X8_mine : GoodIn wsX8_next wsX8_mine := goodIn_r _ [5, 6, 16, 17, 18, 19, 20, 21, 22, 23, 24, 25, 26, 27, 28, 29, 30, 31, 32, 33, 34, 35, 36] (by decide +kernel) (by decide +kernel)
set_option maxRecDepth 20000 in
theorem gX8_next_X8_mine : GoodIn wsX8_next (wsV RX8 83 RX8 yX8_mine wsX8_mine) := goodIn_app (goodIn_of _ (by decide +kernel)) ggX8_next_X8_mine
set_option maxRecDepth 20000 in
theorem ggX8_next_X8_theirs : GoodIn wsX8_next wsX8_theirs := goodIn_r _ [10, 6, 16, 17, 18, 19, 20, 21, 22, 23, 24, 25, 26, 27, 28, 29, 30, 31, 32, 33, 34, 35, 36] (by decide +kernel) (by decide +kernel)
set_option maxRecDepth 20000 in
theorem gX8_next_X8_theirs : GoodIn wsX8_next (wsV RX8 87 RX8 yX8_theirs wsX8_theirs) := goodIn_app (goodIn_of _ (by decide +kernel)) ggX8_next_X8_theirs
set_option maxRecDepth 20000 in
theorem ggX8_next_X8_after : GoodIn wsX8_next wsX8_after := goodIn_r _ [14, 15, 16, 17, 18, 19, 20, 21, 22, 23, 24, 25, 26, 27, 28, 29, 30, 31, 32, 33, 34, 35, 36] (by decide +kernel) (by decide +kernel)
set_option maxRecDepth 20000 in
theorem gX8_next_X8_after : GoodIn wsX8_next (wsV RX8 90 RX8 yX8_after wsX8_after) := goodIn_app (goodIn_of _ (by decide +kernel)) ggX8_next_X8_after
theorem dX8_next_0 : decode cX8_next 0 = .ok (.aload_n 0, 1) := by decide +kernel
theorem dX8_next_1 : decode cX8_next 1 = .ok (.iload_n 1, 1) := by decide +kernel
theorem dX8_next_2 : decode cX8_next 2 = .ok (.iload_n 2, 1) := by decide +kernel
theorem dX8_next_3 : decode cX8_next 3 = .ok (.iload_n 3, 1) := by decide +kernel
theorem dX8_next_4 : decode cX8_next 4 = .ok (.aload_n 0, 1) := by decide +kernel
theorem dX8_next_5 : decode cX8_next 5 = .ok (.iload_n 1, 1) := by decide +kernel
theorem dX8_next_6 : decode cX8_next 6 = .ok (.iload_n 3, 1) := by decide +kernel
theorem dX8_next_7 : decode cX8_next 7 = .ok (.invokevirtual 83, 3) := by decide +kernel
theorem dX8_next_10 : decode cX8_next 10 = .ok (.aload_n 0, 1) := by decide +kernel
theorem dX8_next_11 : decode cX8_next 11 = .ok (.iload_n 2, 1) := by decide +kernel
theorem dX8_next_12 : decode cX8_next 12 = .ok (.iload_n 3, 1) := by decide +kernel
theorem dX8_next_13 : decode cX8_next 13 = .ok (.invokevirtual 87, 3) := by decide +kernel
theorem dX8_next_16 : decode cX8_next 16 = .ok (.invokevirtual 90, 3) := by decide +kernel
theorem dX8_next_19 : decode cX8_next 19 = .ok (.ireturn, 1) := by decide +kernel
set_option maxRecDepth 20000 in
theorem ggX8_payOf_X8_mine : GoodIn wsX8_payOf wsX8_mine := goodIn_r _ [6, 7, 12, 13, 14, 15, 16, 17, 18, 19, 20, 21, 22, 23, 24, 25, 26, 27, 28, 29, 30, 31, 32] (by decide +kernel) (by decide +kernel)
set_option maxRecDepth 20000 in
theorem gX8_payOf_X8_mine : GoodIn wsX8_payOf (wsV RX8 83 RX8 yX8_mine wsX8_mine) := goodIn_app (goodIn_of _ (by decide +kernel)) ggX8_payOf_X8_mine
set_option maxRecDepth 20000 in
theorem ggX8_payOf_X8_theirs : GoodIn wsX8_payOf wsX8_theirs := goodIn_r _ [11, 7, 12, 13, 14, 15, 16, 17, 18, 19, 20, 21, 22, 23, 24, 25, 26, 27, 28, 29, 30, 31, 32] (by decide +kernel) (by decide +kernel)
set_option maxRecDepth 20000 in
theorem gX8_payOf_X8_theirs : GoodIn wsX8_payOf (wsV RX8 87 RX8 yX8_theirs wsX8_theirs) := goodIn_app (goodIn_of _ (by decide +kernel)) ggX8_payOf_X8_theirs
theorem dX8_payOf_0 : decode cX8_payOf 0 = .ok (.aload_n 0, 1) := by decide +kernel
theorem dX8_payOf_1 : decode cX8_payOf 1 = .ok (.getfield 7, 3) := by decide +kernel
theorem dX8_payOf_4 : decode cX8_payOf 4 = .ok (.iconst 3, 1) := by decide +kernel
theorem dX8_payOf_5 : decode cX8_payOf 5 = .ok (.aload_n 0, 1) := by decide +kernel
theorem dX8_payOf_6 : decode cX8_payOf 6 = .ok (.iload_n 1, 1) := by decide +kernel
theorem dX8_payOf_7 : decode cX8_payOf 7 = .ok (.iload_n 3, 1) := by decide +kernel
theorem dX8_payOf_8 : decode cX8_payOf 8 = .ok (.invokevirtual 83, 3) := by decide +kernel
theorem dX8_payOf_11 : decode cX8_payOf 11 = .ok (.imul, 1) := by decide +kernel
theorem dX8_payOf_12 : decode cX8_payOf 12 = .ok (.aload_n 0, 1) := by decide +kernel
theorem dX8_payOf_13 : decode cX8_payOf 13 = .ok (.iload_n 2, 1) := by decide +kernel
theorem dX8_payOf_14 : decode cX8_payOf 14 = .ok (.iload_n 3, 1) := by decide +kernel
theorem dX8_payOf_15 : decode cX8_payOf 15 = .ok (.invokevirtual 87, 3) := by decide +kernel
theorem dX8_payOf_18 : decode cX8_payOf 18 = .ok (.iadd, 1) := by decide +kernel
theorem dX8_payOf_19 : decode cX8_payOf 19 = .ok (.iaload, 1) := by decide +kernel
theorem dX8_payOf_20 : decode cX8_payOf 20 = .ok (.ireturn, 1) := by decide +kernel
set_option maxRecDepth 20000 in
theorem ggX8_plays_X8_payOf : GoodIn wsX8_plays wsX8_payOf := goodIn_r _ [9, 10, 11, 12, 13, 8, 14, 15, 16, 17, 18, 19, 29, 30, 31, 32, 33, 34, 35, 36, 37, 38, 39, 40, 41, 42, 43, 44, 45, 46, 47, 48, 49] (by decide +kernel) (by decide +kernel)
set_option maxRecDepth 20000 in
theorem gX8_plays_X8_payOf : GoodIn wsX8_plays (wsV RX8 94 RX8 yX8_payOf wsX8_payOf) := goodIn_app (goodIn_of _ (by decide +kernel)) ggX8_plays_X8_payOf
set_option maxRecDepth 20000 in
theorem ggX8_plays_X8_next : GoodIn wsX8_plays wsX8_next := goodIn_r _ [23, 11, 12, 13, 8, 14, 15, 16, 17, 18, 19, 24, 25, 26, 27, 28, 29, 30, 31, 32, 33, 34, 35, 36, 37, 38, 39, 40, 41, 42, 43, 44, 45, 46, 47, 48, 49] (by decide +kernel) (by decide +kernel)
set_option maxRecDepth 20000 in
theorem gX8_plays_X8_next : GoodIn wsX8_plays (wsV RX8 98 RX8 yX8_next wsX8_next) := goodIn_app (goodIn_of _ (by decide +kernel)) ggX8_plays_X8_next
theorem dX8_plays_0 : decode cX8_plays 0 = .ok (.iconst 0, 1) := by decide +kernel
theorem dX8_plays_1 : decode cX8_plays 1 = .ok (.istore 4, 2) := by decide +kernel
theorem dX8_plays_3 : decode cX8_plays 3 = .ok (.iload 4, 2) := by decide +kernel
theorem dX8_plays_5 : decode cX8_plays 5 = .ok (.bipush 16, 2) := by decide +kernel
theorem dX8_plays_7 : decode cX8_plays 7 = .ok (.if_icmp .ge 18, 3) := by decide +kernel
theorem dX8_plays_10 : decode cX8_plays 10 = .ok (.aload_n 0, 1) := by decide +kernel
theorem dX8_plays_11 : decode cX8_plays 11 = .ok (.getfield 41, 3) := by decide +kernel
theorem dX8_plays_14 : decode cX8_plays 14 = .ok (.iload 4, 2) := by decide +kernel
theorem dX8_plays_16 : decode cX8_plays 16 = .ok (.bipush (-4), 2) := by decide +kernel
theorem dX8_plays_18 : decode cX8_plays 18 = .ok (.iastore, 1) := by decide +kernel
theorem dX8_plays_19 : decode cX8_plays 19 = .ok (.iinc 4 1, 3) := by decide +kernel
theorem dX8_plays_22 : decode cX8_plays 22 = .ok (.goto (-19), 3) := by decide +kernel
theorem dX8_plays_25 : decode cX8_plays 25 = .ok (.iload_n 3, 1) := by decide +kernel
theorem dX8_plays_26 : decode cX8_plays 26 = .ok (.istore 4, 2) := by decide +kernel
theorem dX8_plays_28 : decode cX8_plays 28 = .ok (.iconst 0, 1) := by decide +kernel
theorem dX8_plays_29 : decode cX8_plays 29 = .ok (.istore 5, 2) := by decide +kernel
theorem dX8_plays_31 : decode cX8_plays 31 = .ok (.aload_n 0, 1) := by decide +kernel
theorem dX8_plays_32 : decode cX8_plays 32 = .ok (.getfield 41, 3) := by decide +kernel
theorem dX8_plays_35 : decode cX8_plays 35 = .ok (.iload 4, 2) := by decide +kernel
theorem dX8_plays_37 : decode cX8_plays 37 = .ok (.iaload, 1) := by decide +kernel
theorem dX8_plays_38 : decode cX8_plays 38 = .ok (.bipush (-4), 2) := by decide +kernel
theorem dX8_plays_40 : decode cX8_plays 40 = .ok (.if_icmp .ne 43, 3) := by decide +kernel
theorem dX8_plays_43 : decode cX8_plays 43 = .ok (.aload_n 0, 1) := by decide +kernel
theorem dX8_plays_44 : decode cX8_plays 44 = .ok (.getfield 41, 3) := by decide +kernel
theorem dX8_plays_47 : decode cX8_plays 47 = .ok (.iload 4, 2) := by decide +kernel
theorem dX8_plays_49 : decode cX8_plays 49 = .ok (.iload 5, 2) := by decide +kernel
theorem dX8_plays_51 : decode cX8_plays 51 = .ok (.iastore, 1) := by decide +kernel
theorem dX8_plays_52 : decode cX8_plays 52 = .ok (.aload_n 0, 1) := by decide +kernel
theorem dX8_plays_53 : decode cX8_plays 53 = .ok (.getfield 38, 3) := by decide +kernel
theorem dX8_plays_56 : decode cX8_plays 56 = .ok (.iload 5, 2) := by decide +kernel
theorem dX8_plays_58 : decode cX8_plays 58 = .ok (.aload_n 0, 1) := by decide +kernel
theorem dX8_plays_59 : decode cX8_plays 59 = .ok (.iload_n 1, 1) := by decide +kernel
theorem dX8_plays_60 : decode cX8_plays 60 = .ok (.iload_n 2, 1) := by decide +kernel
theorem dX8_plays_61 : decode cX8_plays 61 = .ok (.iload 4, 2) := by decide +kernel
theorem dX8_plays_63 : decode cX8_plays 63 = .ok (.invokevirtual 94, 3) := by decide +kernel
theorem dX8_plays_66 : decode cX8_plays 66 = .ok (.iastore, 1) := by decide +kernel
theorem dX8_plays_67 : decode cX8_plays 67 = .ok (.iinc 5 1, 3) := by decide +kernel
theorem dX8_plays_70 : decode cX8_plays 70 = .ok (.aload_n 0, 1) := by decide +kernel
theorem dX8_plays_71 : decode cX8_plays 71 = .ok (.iload_n 1, 1) := by decide +kernel
theorem dX8_plays_72 : decode cX8_plays 72 = .ok (.iload_n 2, 1) := by decide +kernel
theorem dX8_plays_73 : decode cX8_plays 73 = .ok (.iload 4, 2) := by decide +kernel
theorem dX8_plays_75 : decode cX8_plays 75 = .ok (.invokevirtual 98, 3) := by decide +kernel
theorem dX8_plays_78 : decode cX8_plays 78 = .ok (.istore 4, 2) := by decide +kernel
theorem dX8_plays_80 : decode cX8_plays 80 = .ok (.goto (-49), 3) := by decide +kernel
theorem dX8_plays_83 : decode cX8_plays 83 = .ok (.aload_n 0, 1) := by decide +kernel
theorem dX8_plays_84 : decode cX8_plays 84 = .ok (.aload_n 0, 1) := by decide +kernel
theorem dX8_plays_85 : decode cX8_plays 85 = .ok (.getfield 41, 3) := by decide +kernel
theorem dX8_plays_88 : decode cX8_plays 88 = .ok (.iload 4, 2) := by decide +kernel
theorem dX8_plays_90 : decode cX8_plays 90 = .ok (.iaload, 1) := by decide +kernel
theorem dX8_plays_91 : decode cX8_plays 91 = .ok (.putfield 101, 3) := by decide +kernel
theorem dX8_plays_94 : decode cX8_plays 94 = .ok (.aload_n 0, 1) := by decide +kernel
theorem dX8_plays_95 : decode cX8_plays 95 = .ok (.iload 5, 2) := by decide +kernel
theorem dX8_plays_97 : decode cX8_plays 97 = .ok (.aload_n 0, 1) := by decide +kernel
theorem dX8_plays_98 : decode cX8_plays 98 = .ok (.getfield 101, 3) := by decide +kernel
theorem dX8_plays_101 : decode cX8_plays 101 = .ok (.isub, 1) := by decide +kernel
theorem dX8_plays_102 : decode cX8_plays 102 = .ok (.putfield 104, 3) := by decide +kernel
theorem dX8_plays_105 : decode cX8_plays 105 = .ok (.return_, 1) := by decide +kernel
set_option maxRecDepth 20000 in
theorem ggX8_areBoth_X8_isMachine : GoodIn wsX8_areBoth wsX8_isMachine := goodIn_r _ [5, 6, 7, 8, 4, 9, 10, 11, 12, 13, 14, 15, 16, 17, 18, 19, 20, 21, 22, 23, 24, 25, 26, 27, 28, 29, 30] (by decide +kernel) (by decide +kernel)
set_option maxRecDepth 20000 in
theorem gX8_areBoth_X8_isMachine : GoodIn wsX8_areBoth (wsV RX8 66 RX8 yX8_isMachine wsX8_isMachine) := goodIn_app (goodIn_of _ (by decide +kernel)) ggX8_areBoth_X8_isMachine
theorem dX8_areBoth_0 : decode cX8_areBoth 0 = .ok (.aload_n 0, 1) := by decide +kernel
theorem dX8_areBoth_1 : decode cX8_areBoth 1 = .ok (.iload_n 1, 1) := by decide +kernel
theorem dX8_areBoth_2 : decode cX8_areBoth 2 = .ok (.invokevirtual 66, 3) := by decide +kernel
theorem dX8_areBoth_5 : decode cX8_areBoth 5 = .ok (.ifCond .eq 15, 3) := by decide +kernel
theorem dX8_areBoth_8 : decode cX8_areBoth 8 = .ok (.aload_n 0, 1) := by decide +kernel
theorem dX8_areBoth_9 : decode cX8_areBoth 9 = .ok (.iload_n 2, 1) := by decide +kernel
theorem dX8_areBoth_10 : decode cX8_areBoth 10 = .ok (.invokevirtual 66, 3) := by decide +kernel
theorem dX8_areBoth_13 : decode cX8_areBoth 13 = .ok (.ifCond .eq 7, 3) := by decide +kernel
theorem dX8_areBoth_16 : decode cX8_areBoth 16 = .ok (.iconst 1, 1) := by decide +kernel
theorem dX8_areBoth_17 : decode cX8_areBoth 17 = .ok (.goto 4, 3) := by decide +kernel
theorem dX8_areBoth_20 : decode cX8_areBoth 20 = .ok (.iconst 0, 1) := by decide +kernel
theorem dX8_areBoth_21 : decode cX8_areBoth 21 = .ok (.ireturn, 1) := by decide +kernel
set_option maxRecDepth 20000 in
theorem ggX8_action_X8_areBoth : GoodIn wsX8_action wsX8_areBoth := goodIn_r _ [6, 7, 8, 9, 5, 10, 11, 12, 13, 14, 33, 34, 35, 36, 37, 38, 39, 40, 41, 42, 43, 44, 45, 46, 47, 48, 49, 50, 51, 52, 53] (by decide +kernel) (by decide +kernel)
set_option maxRecDepth 20000 in
theorem gX8_action_X8_areBoth : GoodIn wsX8_action (wsV RX8 107 RX8 yX8_areBoth wsX8_areBoth) := goodIn_app (goodIn_of _ (by decide +kernel)) ggX8_action_X8_areBoth
set_option maxRecDepth 20000 in
theorem ggX8_action_X8_in : GoodIn wsX8_action wsX8_in := goodIn_r _ [14] (by decide +kernel) (by decide +kernel)
set_option maxRecDepth 20000 in
theorem gX8_action_X8_in : GoodIn wsX8_action (va_wsS RX8 53 yX8_in wsX8_in) := goodIn_app (goodIn_of _ (by decide +kernel)) ggX8_action_X8_in
set_option maxRecDepth 20000 in
theorem ggX8_action_X8_next : GoodIn wsX8_action wsX8_next := goodIn_r _ [18, 19, 20, 21, 5, 22, 23, 24, 25, 26, 27, 28, 29, 30, 31, 32, 33, 34, 35, 36, 37, 38, 39, 40, 41, 42, 43, 44, 45, 46, 47, 48, 49, 50, 51, 52, 53] (by decide +kernel) (by decide +kernel)
set_option maxRecDepth 20000 in
theorem gX8_action_X8_next : GoodIn wsX8_action (wsV RX8 98 RX8 yX8_next wsX8_next) := goodIn_app (goodIn_of _ (by decide +kernel)) ggX8_action_X8_next
set_option maxRecDepth 20000 in
theorem ggX8_action_X8_mine : GoodIn wsX8_action wsX8_mine := goodIn_r _ [22, 23, 33, 34, 35, 36, 37, 38, 39, 40, 41, 42, 43, 44, 45, 46, 47, 48, 49, 50, 51, 52, 53] (by decide +kernel) (by decide +kernel)
set_option maxRecDepth 20000 in
theorem gX8_action_X8_mine : GoodIn wsX8_action (wsV RX8 83 RX8 yX8_mine wsX8_mine) := goodIn_app (goodIn_of _ (by decide +kernel)) ggX8_action_X8_mine
theorem dX8_action_0 : decode cX8_action 0 = .ok (.aload_n 0, 1) := by decide +kernel
theorem dX8_action_1 : decode cX8_action 1 = .ok (.iload_n 1, 1) := by decide +kernel
theorem dX8_action_2 : decode cX8_action 2 = .ok (.iload_n 2, 1) := by decide +kernel
theorem dX8_action_3 : decode cX8_action 3 = .ok (.invokevirtual 107, 3) := by decide +kernel
theorem dX8_action_6 : decode cX8_action 6 = .ok (.ifCond .eq 15, 3) := by decide +kernel
theorem dX8_action_9 : decode cX8_action 9 = .ok (.iload_n 3, 1) := by decide +kernel
theorem dX8_action_10 : decode cX8_action 10 = .ok (.i2l, 1) := by decide +kernel
theorem dX8_action_11 : decode cX8_action 11 = .ok (.lconst 0, 1) := by decide +kernel
theorem dX8_action_12 : decode cX8_action 12 = .ok (.ldc2_w 110, 3) := by decide +kernel
theorem dX8_action_15 : decode cX8_action 15 = .ok (.invokestatic 53, 3) := by decide +kernel
theorem dX8_action_18 : decode cX8_action 18 = .ok (.ifCond .ne 5, 3) := by decide +kernel
theorem dX8_action_21 : decode cX8_action 21 = .ok (.iconst (-1), 1) := by decide +kernel
theorem dX8_action_22 : decode cX8_action 22 = .ok (.ireturn, 1) := by decide +kernel
theorem dX8_action_23 : decode cX8_action 23 = .ok (.iconst 0, 1) := by decide +kernel
theorem dX8_action_24 : decode cX8_action 24 = .ok (.istore 4, 2) := by decide +kernel
theorem dX8_action_26 : decode cX8_action 26 = .ok (.iconst 0, 1) := by decide +kernel
theorem dX8_action_27 : decode cX8_action 27 = .ok (.istore 5, 2) := by decide +kernel
theorem dX8_action_29 : decode cX8_action 29 = .ok (.iload 5, 2) := by decide +kernel
theorem dX8_action_31 : decode cX8_action 31 = .ok (.iload_n 3, 1) := by decide +kernel
theorem dX8_action_32 : decode cX8_action 32 = .ok (.if_icmp .ge 19, 3) := by decide +kernel
theorem dX8_action_35 : decode cX8_action 35 = .ok (.aload_n 0, 1) := by decide +kernel
theorem dX8_action_36 : decode cX8_action 36 = .ok (.iload_n 1, 1) := by decide +kernel
theorem dX8_action_37 : decode cX8_action 37 = .ok (.iload_n 2, 1) := by decide +kernel
theorem dX8_action_38 : decode cX8_action 38 = .ok (.iload 4, 2) := by decide +kernel
theorem dX8_action_40 : decode cX8_action 40 = .ok (.invokevirtual 98, 3) := by decide +kernel
theorem dX8_action_43 : decode cX8_action 43 = .ok (.istore 4, 2) := by decide +kernel
theorem dX8_action_45 : decode cX8_action 45 = .ok (.iinc 5 1, 3) := by decide +kernel
theorem dX8_action_48 : decode cX8_action 48 = .ok (.goto (-19), 3) := by decide +kernel
theorem dX8_action_51 : decode cX8_action 51 = .ok (.aload_n 0, 1) := by decide +kernel
theorem dX8_action_52 : decode cX8_action 52 = .ok (.iload_n 1, 1) := by decide +kernel
theorem dX8_action_53 : decode cX8_action 53 = .ok (.iload 4, 2) := by decide +kernel
theorem dX8_action_55 : decode cX8_action 55 = .ok (.invokevirtual 83, 3) := by decide +kernel
theorem dX8_action_58 : decode cX8_action 58 = .ok (.ireturn, 1) := by decide +kernel
theorem dX8_sumOf_0 : decode cX8_sumOf 0 = .ok (.iconst 0, 1) := by decide +kernel
theorem dX8_sumOf_1 : decode cX8_sumOf 1 = .ok (.istore_n 3, 1) := by decide +kernel
theorem dX8_sumOf_2 : decode cX8_sumOf 2 = .ok (.iload_n 1, 1) := by decide +kernel
theorem dX8_sumOf_3 : decode cX8_sumOf 3 = .ok (.istore 4, 2) := by decide +kernel
theorem dX8_sumOf_5 : decode cX8_sumOf 5 = .ok (.iload 4, 2) := by decide +kernel
theorem dX8_sumOf_7 : decode cX8_sumOf 7 = .ok (.iload_n 2, 1) := by decide +kernel
theorem dX8_sumOf_8 : decode cX8_sumOf 8 = .ok (.if_icmp .ge 19, 3) := by decide +kernel
theorem dX8_sumOf_11 : decode cX8_sumOf 11 = .ok (.iload_n 3, 1) := by decide +kernel
theorem dX8_sumOf_12 : decode cX8_sumOf 12 = .ok (.aload_n 0, 1) := by decide +kernel
theorem dX8_sumOf_13 : decode cX8_sumOf 13 = .ok (.getfield 38, 3) := by decide +kernel
theorem dX8_sumOf_16 : decode cX8_sumOf 16 = .ok (.iload 4, 2) := by decide +kernel
theorem dX8_sumOf_18 : decode cX8_sumOf 18 = .ok (.iaload, 1) := by decide +kernel
theorem dX8_sumOf_19 : decode cX8_sumOf 19 = .ok (.iadd, 1) := by decide +kernel
theorem dX8_sumOf_20 : decode cX8_sumOf 20 = .ok (.istore_n 3, 1) := by decide +kernel
theorem dX8_sumOf_21 : decode cX8_sumOf 21 = .ok (.iinc 4 1, 3) := by decide +kernel
theorem dX8_sumOf_24 : decode cX8_sumOf 24 = .ok (.goto (-19), 3) := by decide +kernel
theorem dX8_sumOf_27 : decode cX8_sumOf 27 = .ok (.iload_n 3, 1) := by decide +kernel
theorem dX8_sumOf_28 : decode cX8_sumOf 28 = .ok (.ireturn, 1) := by decide +kernel
set_option maxRecDepth 20000 in
theorem ggX8_match_X8_areBoth : GoodIn wsX8_match wsX8_areBoth := goodIn_r _ [9, 10, 11, 12, 8, 13, 14, 15, 16, 17, 51, 52, 53, 54, 55, 56, 57, 58, 59, 60, 61, 62, 63, 64, 65, 66, 67, 68, 69, 70, 71] (by decide +kernel) (by decide +kernel)
set_option maxRecDepth 20000 in
theorem gX8_match_X8_areBoth : GoodIn wsX8_match (wsV RX8 107 RX8 yX8_areBoth wsX8_areBoth) := goodIn_app (goodIn_of _ (by decide +kernel)) ggX8_match_X8_areBoth
set_option maxRecDepth 20000 in
theorem ggX8_match_X8_in : GoodIn wsX8_match wsX8_in := goodIn_r _ [17] (by decide +kernel) (by decide +kernel)
set_option maxRecDepth 20000 in
theorem gX8_match_X8_in : GoodIn wsX8_match (va_wsS RX8 53 yX8_in wsX8_in) := goodIn_app (goodIn_of _ (by decide +kernel)) ggX8_match_X8_in
set_option maxRecDepth 20000 in
theorem ggX8_match_X8_plays : GoodIn wsX8_match wsX8_plays := goodIn_r _ [21, 22, 23, 3, 4, 24, 25, 26, 8, 27, 28, 29, 30, 31, 32, 33, 34, 35, 36, 37, 38, 39, 40, 41, 42, 43, 44, 45, 46, 51, 52, 53, 54, 55, 56, 57, 58, 59, 60, 61, 62, 63, 64, 65, 66, 67, 68, 69, 70, 71] (by decide +kernel) (by decide +kernel)
set_option maxRecDepth 20000 in
theorem gX8_match_X8_plays : GoodIn wsX8_match (wsV RX8 113 RX8 yX8_plays wsX8_plays) := goodIn_app (goodIn_of _ (by decide +kernel)) ggX8_match_X8_plays
set_option maxRecDepth 20000 in
theorem ggX8_match_X8_sumOf : GoodIn wsX8_match wsX8_sumOf := goodIn_r _ [50, 23, 51, 52, 53, 54, 55, 56, 57, 58, 59, 60, 61, 62, 63, 64, 65, 66, 67, 68, 69, 70, 71] (by decide +kernel) (by decide +kernel)
set_option maxRecDepth 20000 in
theorem gX8_match_X8_sumOf : GoodIn wsX8_match (wsV RX8 117 RX8 yX8_sumOf wsX8_sumOf) := goodIn_app (goodIn_of _ (by decide +kernel)) ggX8_match_X8_sumOf
theorem dX8_match_0 : decode cX8_match 0 = .ok (.aload_n 0, 1) := by decide +kernel
theorem dX8_match_1 : decode cX8_match 1 = .ok (.iload_n 1, 1) := by decide +kernel
theorem dX8_match_2 : decode cX8_match 2 = .ok (.iload_n 2, 1) := by decide +kernel
theorem dX8_match_3 : decode cX8_match 3 = .ok (.invokevirtual 107, 3) := by decide +kernel
theorem dX8_match_6 : decode cX8_match 6 = .ok (.ifCond .eq 15, 3) := by decide +kernel
theorem dX8_match_9 : decode cX8_match 9 = .ok (.iload_n 3, 1) := by decide +kernel
theorem dX8_match_10 : decode cX8_match 10 = .ok (.i2l, 1) := by decide +kernel
theorem dX8_match_11 : decode cX8_match 11 = .ok (.lconst 0, 1) := by decide +kernel
theorem dX8_match_12 : decode cX8_match 12 = .ok (.ldc2_w 74, 3) := by decide +kernel
theorem dX8_match_15 : decode cX8_match 15 = .ok (.invokestatic 53, 3) := by decide +kernel
theorem dX8_match_18 : decode cX8_match 18 = .ok (.ifCond .ne 6, 3) := by decide +kernel
theorem dX8_match_21 : decode cX8_match 21 = .ok (.ldc 112, 2) := by decide +kernel
theorem dX8_match_23 : decode cX8_match 23 = .ok (.ireturn, 1) := by decide +kernel
theorem dX8_match_24 : decode cX8_match 24 = .ok (.aload_n 0, 1) := by decide +kernel
theorem dX8_match_25 : decode cX8_match 25 = .ok (.iload_n 1, 1) := by decide +kernel
theorem dX8_match_26 : decode cX8_match 26 = .ok (.iload_n 2, 1) := by decide +kernel
theorem dX8_match_27 : decode cX8_match 27 = .ok (.iconst 0, 1) := by decide +kernel
theorem dX8_match_28 : decode cX8_match 28 = .ok (.invokevirtual 113, 3) := by decide +kernel
theorem dX8_match_31 : decode cX8_match 31 = .ok (.iload_n 3, 1) := by decide +kernel
theorem dX8_match_32 : decode cX8_match 32 = .ok (.ifCond .ne 10, 3) := by decide +kernel
theorem dX8_match_35 : decode cX8_match 35 = .ok (.aload_n 0, 1) := by decide +kernel
theorem dX8_match_36 : decode cX8_match 36 = .ok (.getfield 101, 3) := by decide +kernel
theorem dX8_match_39 : decode cX8_match 39 = .ok (.goto 49, 3) := by decide +kernel
theorem dX8_match_42 : decode cX8_match 42 = .ok (.iload_n 3, 1) := by decide +kernel
theorem dX8_match_43 : decode cX8_match 43 = .ok (.iconst 1, 1) := by decide +kernel
theorem dX8_match_44 : decode cX8_match 44 = .ok (.if_icmp .ne 10, 3) := by decide +kernel
theorem dX8_match_47 : decode cX8_match 47 = .ok (.aload_n 0, 1) := by decide +kernel
theorem dX8_match_48 : decode cX8_match 48 = .ok (.getfield 104, 3) := by decide +kernel
theorem dX8_match_51 : decode cX8_match 51 = .ok (.goto 37, 3) := by decide +kernel
theorem dX8_match_54 : decode cX8_match 54 = .ok (.iload_n 3, 1) := by decide +kernel
theorem dX8_match_55 : decode cX8_match 55 = .ok (.iconst 2, 1) := by decide +kernel
theorem dX8_match_56 : decode cX8_match 56 = .ok (.if_icmp .ne 15, 3) := by decide +kernel
theorem dX8_match_59 : decode cX8_match 59 = .ok (.aload_n 0, 1) := by decide +kernel
theorem dX8_match_60 : decode cX8_match 60 = .ok (.iconst 0, 1) := by decide +kernel
theorem dX8_match_61 : decode cX8_match 61 = .ok (.aload_n 0, 1) := by decide +kernel
theorem dX8_match_62 : decode cX8_match 62 = .ok (.getfield 101, 3) := by decide +kernel
theorem dX8_match_65 : decode cX8_match 65 = .ok (.invokevirtual 117, 3) := by decide +kernel
theorem dX8_match_68 : decode cX8_match 68 = .ok (.goto 20, 3) := by decide +kernel
theorem dX8_match_71 : decode cX8_match 71 = .ok (.aload_n 0, 1) := by decide +kernel
theorem dX8_match_72 : decode cX8_match 72 = .ok (.aload_n 0, 1) := by decide +kernel
theorem dX8_match_73 : decode cX8_match 73 = .ok (.getfield 101, 3) := by decide +kernel
theorem dX8_match_76 : decode cX8_match 76 = .ok (.aload_n 0, 1) := by decide +kernel
theorem dX8_match_77 : decode cX8_match 77 = .ok (.getfield 101, 3) := by decide +kernel
theorem dX8_match_80 : decode cX8_match 80 = .ok (.aload_n 0, 1) := by decide +kernel
theorem dX8_match_81 : decode cX8_match 81 = .ok (.getfield 104, 3) := by decide +kernel
theorem dX8_match_84 : decode cX8_match 84 = .ok (.iadd, 1) := by decide +kernel
theorem dX8_match_85 : decode cX8_match 85 = .ok (.invokevirtual 117, 3) := by decide +kernel
theorem dX8_match_88 : decode cX8_match 88 = .ok (.ireturn, 1) := by decide +kernel
set_option maxRecDepth 20000 in
theorem ggX8_sumUp_X8_payOf : GoodIn wsX8_sumUp wsX8_payOf := goodIn_r _ [5, 6, 7, 8, 9, 4, 10, 11, 12, 13, 14, 15, 25, 26, 27, 28, 29, 30, 31, 32, 33, 34, 35, 36, 37, 38, 39, 40, 41, 42, 43, 44, 45] (by decide +kernel) (by decide +kernel)
set_option maxRecDepth 20000 in
theorem gX8_sumUp_X8_payOf : GoodIn wsX8_sumUp (wsV RX8 94 RX8 yX8_payOf wsX8_payOf) := goodIn_app (goodIn_of _ (by decide +kernel)) ggX8_sumUp_X8_payOf
set_option maxRecDepth 20000 in
theorem ggX8_sumUp_X8_next : GoodIn wsX8_sumUp wsX8_next := goodIn_r _ [19, 7, 8, 9, 4, 10, 11, 12, 13, 14, 15, 20, 21, 22, 23, 24, 25, 26, 27, 28, 29, 30, 31, 32, 33, 34, 35, 36, 37, 38, 39, 40, 41, 42, 43, 44, 45] (by decide +kernel) (by decide +kernel)
set_option maxRecDepth 20000 in
theorem gX8_sumUp_X8_next : GoodIn wsX8_sumUp (wsV RX8 98 RX8 yX8_next wsX8_next) := goodIn_app (goodIn_of _ (by decide +kernel)) ggX8_sumUp_X8_next
theorem dX8_sumUp_0 : decode cX8_sumUp 0 = .ok (.iconst 0, 1) := by decide +kernel
theorem dX8_sumUp_1 : decode cX8_sumUp 1 = .ok (.istore 4, 2) := by decide +kernel
theorem dX8_sumUp_3 : decode cX8_sumUp 3 = .ok (.iconst 0, 1) := by decide +kernel
theorem dX8_sumUp_4 : decode cX8_sumUp 4 = .ok (.istore 5, 2) := by decide +kernel
theorem dX8_sumUp_6 : decode cX8_sumUp 6 = .ok (.iconst 0, 1) := by decide +kernel
theorem dX8_sumUp_7 : decode cX8_sumUp 7 = .ok (.istore 6, 2) := by decide +kernel
theorem dX8_sumUp_9 : decode cX8_sumUp 9 = .ok (.iload 6, 2) := by decide +kernel
theorem dX8_sumUp_11 : decode cX8_sumUp 11 = .ok (.iload_n 3, 1) := by decide +kernel
theorem dX8_sumUp_12 : decode cX8_sumUp 12 = .ok (.if_icmp .ge 32, 3) := by decide +kernel
theorem dX8_sumUp_15 : decode cX8_sumUp 15 = .ok (.iload 4, 2) := by decide +kernel
theorem dX8_sumUp_17 : decode cX8_sumUp 17 = .ok (.aload_n 0, 1) := by decide +kernel
theorem dX8_sumUp_18 : decode cX8_sumUp 18 = .ok (.iload_n 1, 1) := by decide +kernel
theorem dX8_sumUp_19 : decode cX8_sumUp 19 = .ok (.iload_n 2, 1) := by decide +kernel
theorem dX8_sumUp_20 : decode cX8_sumUp 20 = .ok (.iload 5, 2) := by decide +kernel
theorem dX8_sumUp_22 : decode cX8_sumUp 22 = .ok (.invokevirtual 94, 3) := by decide +kernel
theorem dX8_sumUp_25 : decode cX8_sumUp 25 = .ok (.iadd, 1) := by decide +kernel
theorem dX8_sumUp_26 : decode cX8_sumUp 26 = .ok (.istore 4, 2) := by decide +kernel
theorem dX8_sumUp_28 : decode cX8_sumUp 28 = .ok (.aload_n 0, 1) := by decide +kernel
theorem dX8_sumUp_29 : decode cX8_sumUp 29 = .ok (.iload_n 1, 1) := by decide +kernel
theorem dX8_sumUp_30 : decode cX8_sumUp 30 = .ok (.iload_n 2, 1) := by decide +kernel
theorem dX8_sumUp_31 : decode cX8_sumUp 31 = .ok (.iload 5, 2) := by decide +kernel
theorem dX8_sumUp_33 : decode cX8_sumUp 33 = .ok (.invokevirtual 98, 3) := by decide +kernel
theorem dX8_sumUp_36 : decode cX8_sumUp 36 = .ok (.istore 5, 2) := by decide +kernel
theorem dX8_sumUp_38 : decode cX8_sumUp 38 = .ok (.iinc 6 1, 3) := by decide +kernel
theorem dX8_sumUp_41 : decode cX8_sumUp 41 = .ok (.goto (-32), 3) := by decide +kernel
theorem dX8_sumUp_44 : decode cX8_sumUp 44 = .ok (.iload 4, 2) := by decide +kernel
theorem dX8_sumUp_46 : decode cX8_sumUp 46 = .ok (.ireturn, 1) := by decide +kernel
set_option maxRecDepth 20000 in
theorem ggX8_sum_X8_areBoth : GoodIn wsX8_sum wsX8_areBoth := goodIn_r _ [7, 8, 9, 10, 6, 11, 12, 13, 14, 15, 43, 44, 45, 46, 47, 48, 49, 50, 51, 52, 53, 54, 55, 56, 57, 58, 59, 60, 61, 62, 63] (by decide +kernel) (by decide +kernel)
set_option maxRecDepth 20000 in
theorem gX8_sum_X8_areBoth : GoodIn wsX8_sum (wsV RX8 107 RX8 yX8_areBoth wsX8_areBoth) := goodIn_app (goodIn_of _ (by decide +kernel)) ggX8_sum_X8_areBoth
set_option maxRecDepth 20000 in
theorem ggX8_sum_X8_in : GoodIn wsX8_sum wsX8_in := goodIn_r _ [15] (by decide +kernel) (by decide +kernel)
set_option maxRecDepth 20000 in
theorem gX8_sum_X8_in : GoodIn wsX8_sum (va_wsS RX8 53 yX8_in wsX8_in) := goodIn_app (goodIn_of _ (by decide +kernel)) ggX8_sum_X8_in
set_option maxRecDepth 20000 in
theorem ggX8_sum_X8_sumUp : GoodIn wsX8_sum wsX8_sumUp := goodIn_r _ [19, 20, 21, 22, 6, 23, 24, 25, 26, 27, 28, 29, 30, 31, 32, 33, 34, 35, 36, 37, 38, 39, 40, 41, 42, 43, 44, 45, 46, 47, 48, 49, 50, 51, 52, 53, 54, 55, 56, 57, 58, 59, 60, 61, 62, 63] (by decide +kernel) (by decide +kernel)
set_option maxRecDepth 20000 in
theorem gX8_sum_X8_sumUp : GoodIn wsX8_sum (wsV RX8 120 RX8 yX8_sumUp wsX8_sumUp) := goodIn_app (goodIn_of _ (by decide +kernel)) ggX8_sum_X8_sumUp
theorem dX8_sum_0 : decode cX8_sum 0 = .ok (.aload_n 0, 1) := by decide +kernel
theorem dX8_sum_1 : decode cX8_sum 1 = .ok (.iload_n 1, 1) := by decide +kernel
theorem dX8_sum_2 : decode cX8_sum 2 = .ok (.iload_n 2, 1) := by decide +kernel
theorem dX8_sum_3 : decode cX8_sum 3 = .ok (.invokevirtual 107, 3) := by decide +kernel
theorem dX8_sum_6 : decode cX8_sum 6 = .ok (.ifCond .eq 25, 3) := by decide +kernel
theorem dX8_sum_9 : decode cX8_sum 9 = .ok (.iload_n 3, 1) := by decide +kernel
theorem dX8_sum_10 : decode cX8_sum 10 = .ok (.i2l, 1) := by decide +kernel
theorem dX8_sum_11 : decode cX8_sum 11 = .ok (.lconst 0, 1) := by decide +kernel
theorem dX8_sum_12 : decode cX8_sum 12 = .ok (.ldc2_w 110, 3) := by decide +kernel
theorem dX8_sum_15 : decode cX8_sum 15 = .ok (.invokestatic 53, 3) := by decide +kernel
theorem dX8_sum_18 : decode cX8_sum 18 = .ok (.ifCond .eq 13, 3) := by decide +kernel
theorem dX8_sum_21 : decode cX8_sum 21 = .ok (.aload_n 0, 1) := by decide +kernel
theorem dX8_sum_22 : decode cX8_sum 22 = .ok (.iload_n 1, 1) := by decide +kernel
theorem dX8_sum_23 : decode cX8_sum 23 = .ok (.iload_n 2, 1) := by decide +kernel
theorem dX8_sum_24 : decode cX8_sum 24 = .ok (.iload_n 3, 1) := by decide +kernel
theorem dX8_sum_25 : decode cX8_sum 25 = .ok (.invokevirtual 120, 3) := by decide +kernel
theorem dX8_sum_28 : decode cX8_sum 28 = .ok (.goto 5, 3) := by decide +kernel
theorem dX8_sum_31 : decode cX8_sum 31 = .ok (.ldc 112, 2) := by decide +kernel
theorem dX8_sum_33 : decode cX8_sum 33 = .ok (.ireturn, 1) := by decide +kernel
theorem dX8_lowest_0 : decode cX8_lowest 0 = .ok (.lload_n 1, 1) := by decide +kernel
theorem dX8_lowest_1 : decode cX8_lowest 1 = .ok (.lconst 0, 1) := by decide +kernel
theorem dX8_lowest_2 : decode cX8_lowest 2 = .ok (.lcmp, 1) := by decide +kernel
theorem dX8_lowest_3 : decode cX8_lowest 3 = .ok (.ifCond .ge 8, 3) := by decide +kernel
theorem dX8_lowest_6 : decode cX8_lowest 6 = .ok (.lload_n 1, 1) := by decide +kernel
theorem dX8_lowest_7 : decode cX8_lowest 7 = .ok (.lneg, 1) := by decide +kernel
theorem dX8_lowest_8 : decode cX8_lowest 8 = .ok (.goto 4, 3) := by decide +kernel
theorem dX8_lowest_11 : decode cX8_lowest 11 = .ok (.lload_n 1, 1) := by decide +kernel
theorem dX8_lowest_12 : decode cX8_lowest 12 = .ok (.lstore 5, 2) := by decide +kernel
theorem dX8_lowest_14 : decode cX8_lowest 14 = .ok (.lload_n 3, 1) := by decide +kernel
theorem dX8_lowest_15 : decode cX8_lowest 15 = .ok (.lstore 7, 2) := by decide +kernel
theorem dX8_lowest_17 : decode cX8_lowest 17 = .ok (.lload 7, 2) := by decide +kernel
theorem dX8_lowest_19 : decode cX8_lowest 19 = .ok (.lconst 0, 1) := by decide +kernel
theorem dX8_lowest_20 : decode cX8_lowest 20 = .ok (.lcmp, 1) := by decide +kernel
theorem dX8_lowest_21 : decode cX8_lowest 21 = .ok (.ifCond .eq 21, 3) := by decide +kernel
theorem dX8_lowest_24 : decode cX8_lowest 24 = .ok (.lload 5, 2) := by decide +kernel
theorem dX8_lowest_26 : decode cX8_lowest 26 = .ok (.lload 7, 2) := by decide +kernel
theorem dX8_lowest_28 : decode cX8_lowest 28 = .ok (.lrem, 1) := by decide +kernel
theorem dX8_lowest_29 : decode cX8_lowest 29 = .ok (.lstore 9, 2) := by decide +kernel
theorem dX8_lowest_31 : decode cX8_lowest 31 = .ok (.lload 7, 2) := by decide +kernel
theorem dX8_lowest_33 : decode cX8_lowest 33 = .ok (.lstore 5, 2) := by decide +kernel
theorem dX8_lowest_35 : decode cX8_lowest 35 = .ok (.lload 9, 2) := by decide +kernel
theorem dX8_lowest_37 : decode cX8_lowest 37 = .ok (.lstore 7, 2) := by decide +kernel
theorem dX8_lowest_39 : decode cX8_lowest 39 = .ok (.goto (-22), 3) := by decide +kernel
theorem dX8_lowest_42 : decode cX8_lowest 42 = .ok (.aload_n 0, 1) := by decide +kernel
theorem dX8_lowest_43 : decode cX8_lowest 43 = .ok (.lload_n 1, 1) := by decide +kernel
theorem dX8_lowest_44 : decode cX8_lowest 44 = .ok (.lload 5, 2) := by decide +kernel
theorem dX8_lowest_46 : decode cX8_lowest 46 = .ok (.ldiv, 1) := by decide +kernel
theorem dX8_lowest_47 : decode cX8_lowest 47 = .ok (.putfield 123, 3) := by decide +kernel
theorem dX8_lowest_50 : decode cX8_lowest 50 = .ok (.aload_n 0, 1) := by decide +kernel
theorem dX8_lowest_51 : decode cX8_lowest 51 = .ok (.lload_n 3, 1) := by decide +kernel
theorem dX8_lowest_52 : decode cX8_lowest 52 = .ok (.lload 5, 2) := by decide +kernel
theorem dX8_lowest_54 : decode cX8_lowest 54 = .ok (.ldiv, 1) := by decide +kernel
theorem dX8_lowest_55 : decode cX8_lowest 55 = .ok (.putfield 127, 3) := by decide +kernel
theorem dX8_lowest_58 : decode cX8_lowest 58 = .ok (.return_, 1) := by decide +kernel
theorem dX8_power_0 : decode cX8_power 0 = .ok (.lconst 1, 1) := by decide +kernel
theorem dX8_power_1 : decode cX8_power 1 = .ok (.lstore_n 3, 1) := by decide +kernel
theorem dX8_power_2 : decode cX8_power 2 = .ok (.iconst 0, 1) := by decide +kernel
theorem dX8_power_3 : decode cX8_power 3 = .ok (.istore 5, 2) := by decide +kernel
theorem dX8_power_5 : decode cX8_power 5 = .ok (.iload 5, 2) := by decide +kernel
theorem dX8_power_7 : decode cX8_power 7 = .ok (.iload_n 2, 1) := by decide +kernel
theorem dX8_power_8 : decode cX8_power 8 = .ok (.if_icmp .ge 13, 3) := by decide +kernel
theorem dX8_power_11 : decode cX8_power 11 = .ok (.lload_n 3, 1) := by decide +kernel
theorem dX8_power_12 : decode cX8_power 12 = .ok (.lload_n 0, 1) := by decide +kernel
theorem dX8_power_13 : decode cX8_power 13 = .ok (.lmul, 1) := by decide +kernel
theorem dX8_power_14 : decode cX8_power 14 = .ok (.lstore_n 3, 1) := by decide +kernel
theorem dX8_power_15 : decode cX8_power 15 = .ok (.iinc 5 1, 3) := by decide +kernel
theorem dX8_power_18 : decode cX8_power 18 = .ok (.goto (-13), 3) := by decide +kernel
theorem dX8_power_21 : decode cX8_power 21 = .ok (.lload_n 3, 1) := by decide +kernel
theorem dX8_power_22 : decode cX8_power 22 = .ok (.lreturn, 1) := by decide +kernel
set_option maxRecDepth 20000 in
theorem ggX8_worthOfRow_X8_power : GoodIn wsX8_worthOfRow wsX8_power := goodIn_r _ [9] (by decide +kernel) (by decide +kernel)
set_option maxRecDepth 20000 in
theorem gX8_worthOfRow_X8_power : GoodIn wsX8_worthOfRow (va_wsS RX8 130 yX8_power wsX8_power) := goodIn_app (goodIn_of _ (by decide +kernel)) ggX8_worthOfRow_X8_power
set_option maxRecDepth 20000 in
theorem ggX8_worthOfRow_X8_lowest : GoodIn wsX8_worthOfRow wsX8_lowest := goodIn_r _ [13, 14, 15, 16, 17, 18, 19, 20, 21, 22, 23, 24, 25, 26, 27, 28, 29, 30, 31, 32, 33, 34, 35, 36] (by decide +kernel) (by decide +kernel)
set_option maxRecDepth 20000 in
theorem gX8_worthOfRow_X8_lowest : GoodIn wsX8_worthOfRow (wsV RX8 134 RX8 yX8_lowest wsX8_lowest) := goodIn_app (goodIn_of _ (by decide +kernel)) ggX8_worthOfRow_X8_lowest
theorem dX8_worthOfRow_0 : decode cX8_worthOfRow 0 = .ok (.lconst 0, 1) := by decide +kernel
theorem dX8_worthOfRow_1 : decode cX8_worthOfRow 1 = .ok (.lstore_n 1, 1) := by decide +kernel
theorem dX8_worthOfRow_2 : decode cX8_worthOfRow 2 = .ok (.iconst 0, 1) := by decide +kernel
theorem dX8_worthOfRow_3 : decode cX8_worthOfRow 3 = .ok (.istore_n 3, 1) := by decide +kernel
theorem dX8_worthOfRow_4 : decode cX8_worthOfRow 4 = .ok (.iload_n 3, 1) := by decide +kernel
theorem dX8_worthOfRow_5 : decode cX8_worthOfRow 5 = .ok (.aload_n 0, 1) := by decide +kernel
theorem dX8_worthOfRow_6 : decode cX8_worthOfRow 6 = .ok (.getfield 101, 3) := by decide +kernel
theorem dX8_worthOfRow_9 : decode cX8_worthOfRow 9 = .ok (.if_icmp .ge 44, 3) := by decide +kernel
theorem dX8_worthOfRow_12 : decode cX8_worthOfRow 12 = .ok (.lload_n 1, 1) := by decide +kernel
theorem dX8_worthOfRow_13 : decode cX8_worthOfRow 13 = .ok (.aload_n 0, 1) := by decide +kernel
theorem dX8_worthOfRow_14 : decode cX8_worthOfRow 14 = .ok (.getfield 38, 3) := by decide +kernel
theorem dX8_worthOfRow_17 : decode cX8_worthOfRow 17 = .ok (.iload_n 3, 1) := by decide +kernel
theorem dX8_worthOfRow_18 : decode cX8_worthOfRow 18 = .ok (.iaload, 1) := by decide +kernel
theorem dX8_worthOfRow_19 : decode cX8_worthOfRow 19 = .ok (.i2l, 1) := by decide +kernel
theorem dX8_worthOfRow_20 : decode cX8_worthOfRow 20 = .ok (.aload_n 0, 1) := by decide +kernel
theorem dX8_worthOfRow_21 : decode cX8_worthOfRow 21 = .ok (.getfield 13, 3) := by decide +kernel
theorem dX8_worthOfRow_24 : decode cX8_worthOfRow 24 = .ok (.i2l, 1) := by decide +kernel
theorem dX8_worthOfRow_25 : decode cX8_worthOfRow 25 = .ok (.iload_n 3, 1) := by decide +kernel
theorem dX8_worthOfRow_26 : decode cX8_worthOfRow 26 = .ok (.invokestatic 130, 3) := by decide +kernel
theorem dX8_worthOfRow_29 : decode cX8_worthOfRow 29 = .ok (.lmul, 1) := by decide +kernel
theorem dX8_worthOfRow_30 : decode cX8_worthOfRow 30 = .ok (.aload_n 0, 1) := by decide +kernel
theorem dX8_worthOfRow_31 : decode cX8_worthOfRow 31 = .ok (.getfield 17, 3) := by decide +kernel
theorem dX8_worthOfRow_34 : decode cX8_worthOfRow 34 = .ok (.i2l, 1) := by decide +kernel
theorem dX8_worthOfRow_35 : decode cX8_worthOfRow 35 = .ok (.aload_n 0, 1) := by decide +kernel
theorem dX8_worthOfRow_36 : decode cX8_worthOfRow 36 = .ok (.getfield 101, 3) := by decide +kernel
theorem dX8_worthOfRow_39 : decode cX8_worthOfRow 39 = .ok (.iload_n 3, 1) := by decide +kernel
theorem dX8_worthOfRow_40 : decode cX8_worthOfRow 40 = .ok (.isub, 1) := by decide +kernel
theorem dX8_worthOfRow_41 : decode cX8_worthOfRow 41 = .ok (.invokestatic 130, 3) := by decide +kernel
theorem dX8_worthOfRow_44 : decode cX8_worthOfRow 44 = .ok (.lmul, 1) := by decide +kernel
theorem dX8_worthOfRow_45 : decode cX8_worthOfRow 45 = .ok (.ladd, 1) := by decide +kernel
theorem dX8_worthOfRow_46 : decode cX8_worthOfRow 46 = .ok (.lstore_n 1, 1) := by decide +kernel
theorem dX8_worthOfRow_47 : decode cX8_worthOfRow 47 = .ok (.iinc 3 1, 3) := by decide +kernel
theorem dX8_worthOfRow_50 : decode cX8_worthOfRow 50 = .ok (.goto (-46), 3) := by decide +kernel
theorem dX8_worthOfRow_53 : decode cX8_worthOfRow 53 = .ok (.lconst 0, 1) := by decide +kernel
theorem dX8_worthOfRow_54 : decode cX8_worthOfRow 54 = .ok (.lstore_n 3, 1) := by decide +kernel
theorem dX8_worthOfRow_55 : decode cX8_worthOfRow 55 = .ok (.iconst 0, 1) := by decide +kernel
theorem dX8_worthOfRow_56 : decode cX8_worthOfRow 56 = .ok (.istore 5, 2) := by decide +kernel
theorem dX8_worthOfRow_58 : decode cX8_worthOfRow 58 = .ok (.iload 5, 2) := by decide +kernel
theorem dX8_worthOfRow_60 : decode cX8_worthOfRow 60 = .ok (.aload_n 0, 1) := by decide +kernel
theorem dX8_worthOfRow_61 : decode cX8_worthOfRow 61 = .ok (.getfield 104, 3) := by decide +kernel
theorem dX8_worthOfRow_64 : decode cX8_worthOfRow 64 = .ok (.if_icmp .ge 52, 3) := by decide +kernel
theorem dX8_worthOfRow_67 : decode cX8_worthOfRow 67 = .ok (.lload_n 3, 1) := by decide +kernel
theorem dX8_worthOfRow_68 : decode cX8_worthOfRow 68 = .ok (.aload_n 0, 1) := by decide +kernel
theorem dX8_worthOfRow_69 : decode cX8_worthOfRow 69 = .ok (.getfield 38, 3) := by decide +kernel
theorem dX8_worthOfRow_72 : decode cX8_worthOfRow 72 = .ok (.aload_n 0, 1) := by decide +kernel
theorem dX8_worthOfRow_73 : decode cX8_worthOfRow 73 = .ok (.getfield 101, 3) := by decide +kernel
theorem dX8_worthOfRow_76 : decode cX8_worthOfRow 76 = .ok (.iload 5, 2) := by decide +kernel
theorem dX8_worthOfRow_78 : decode cX8_worthOfRow 78 = .ok (.iadd, 1) := by decide +kernel
theorem dX8_worthOfRow_79 : decode cX8_worthOfRow 79 = .ok (.iaload, 1) := by decide +kernel
theorem dX8_worthOfRow_80 : decode cX8_worthOfRow 80 = .ok (.i2l, 1) := by decide +kernel
theorem dX8_worthOfRow_81 : decode cX8_worthOfRow 81 = .ok (.aload_n 0, 1) := by decide +kernel
theorem dX8_worthOfRow_82 : decode cX8_worthOfRow 82 = .ok (.getfield 13, 3) := by decide +kernel
theorem dX8_worthOfRow_85 : decode cX8_worthOfRow 85 = .ok (.i2l, 1) := by decide +kernel
theorem dX8_worthOfRow_86 : decode cX8_worthOfRow 86 = .ok (.iload 5, 2) := by decide +kernel
theorem dX8_worthOfRow_88 : decode cX8_worthOfRow 88 = .ok (.invokestatic 130, 3) := by decide +kernel
theorem dX8_worthOfRow_91 : decode cX8_worthOfRow 91 = .ok (.lmul, 1) := by decide +kernel
theorem dX8_worthOfRow_92 : decode cX8_worthOfRow 92 = .ok (.aload_n 0, 1) := by decide +kernel
theorem dX8_worthOfRow_93 : decode cX8_worthOfRow 93 = .ok (.getfield 17, 3) := by decide +kernel
theorem dX8_worthOfRow_96 : decode cX8_worthOfRow 96 = .ok (.i2l, 1) := by decide +kernel
theorem dX8_worthOfRow_97 : decode cX8_worthOfRow 97 = .ok (.aload_n 0, 1) := by decide +kernel
theorem dX8_worthOfRow_98 : decode cX8_worthOfRow 98 = .ok (.getfield 104, 3) := by decide +kernel
theorem dX8_worthOfRow_101 : decode cX8_worthOfRow 101 = .ok (.iload 5, 2) := by decide +kernel
theorem dX8_worthOfRow_103 : decode cX8_worthOfRow 103 = .ok (.isub, 1) := by decide +kernel
theorem dX8_worthOfRow_104 : decode cX8_worthOfRow 104 = .ok (.invokestatic 130, 3) := by decide +kernel
theorem dX8_worthOfRow_107 : decode cX8_worthOfRow 107 = .ok (.lmul, 1) := by decide +kernel
theorem dX8_worthOfRow_108 : decode cX8_worthOfRow 108 = .ok (.ladd, 1) := by decide +kernel
theorem dX8_worthOfRow_109 : decode cX8_worthOfRow 109 = .ok (.lstore_n 3, 1) := by decide +kernel
theorem dX8_worthOfRow_110 : decode cX8_worthOfRow 110 = .ok (.iinc 5 1, 3) := by decide +kernel
theorem dX8_worthOfRow_113 : decode cX8_worthOfRow 113 = .ok (.goto (-55), 3) := by decide +kernel
theorem dX8_worthOfRow_116 : decode cX8_worthOfRow 116 = .ok (.aload_n 0, 1) := by decide +kernel
theorem dX8_worthOfRow_117 : decode cX8_worthOfRow 117 = .ok (.getfield 17, 3) := by decide +kernel
theorem dX8_worthOfRow_120 : decode cX8_worthOfRow 120 = .ok (.i2l, 1) := by decide +kernel
theorem dX8_worthOfRow_121 : decode cX8_worthOfRow 121 = .ok (.aload_n 0, 1) := by decide +kernel
theorem dX8_worthOfRow_122 : decode cX8_worthOfRow 122 = .ok (.getfield 104, 3) := by decide +kernel
theorem dX8_worthOfRow_125 : decode cX8_worthOfRow 125 = .ok (.invokestatic 130, 3) := by decide +kernel
theorem dX8_worthOfRow_128 : decode cX8_worthOfRow 128 = .ok (.aload_n 0, 1) := by decide +kernel
theorem dX8_worthOfRow_129 : decode cX8_worthOfRow 129 = .ok (.getfield 13, 3) := by decide +kernel
theorem dX8_worthOfRow_132 : decode cX8_worthOfRow 132 = .ok (.i2l, 1) := by decide +kernel
theorem dX8_worthOfRow_133 : decode cX8_worthOfRow 133 = .ok (.aload_n 0, 1) := by decide +kernel
theorem dX8_worthOfRow_134 : decode cX8_worthOfRow 134 = .ok (.getfield 104, 3) := by decide +kernel
theorem dX8_worthOfRow_137 : decode cX8_worthOfRow 137 = .ok (.invokestatic 130, 3) := by decide +kernel
theorem dX8_worthOfRow_140 : decode cX8_worthOfRow 140 = .ok (.lsub, 1) := by decide +kernel
theorem dX8_worthOfRow_141 : decode cX8_worthOfRow 141 = .ok (.lstore 5, 2) := by decide +kernel
theorem dX8_worthOfRow_143 : decode cX8_worthOfRow 143 = .ok (.aload_n 0, 1) := by decide +kernel
theorem dX8_worthOfRow_144 : decode cX8_worthOfRow 144 = .ok (.lload_n 1, 1) := by decide +kernel
theorem dX8_worthOfRow_145 : decode cX8_worthOfRow 145 = .ok (.lload 5, 2) := by decide +kernel
theorem dX8_worthOfRow_147 : decode cX8_worthOfRow 147 = .ok (.lmul, 1) := by decide +kernel
theorem dX8_worthOfRow_148 : decode cX8_worthOfRow 148 = .ok (.aload_n 0, 1) := by decide +kernel
theorem dX8_worthOfRow_149 : decode cX8_worthOfRow 149 = .ok (.getfield 13, 3) := by decide +kernel
theorem dX8_worthOfRow_152 : decode cX8_worthOfRow 152 = .ok (.i2l, 1) := by decide +kernel
theorem dX8_worthOfRow_153 : decode cX8_worthOfRow 153 = .ok (.aload_n 0, 1) := by decide +kernel
theorem dX8_worthOfRow_154 : decode cX8_worthOfRow 154 = .ok (.getfield 101, 3) := by decide +kernel
theorem dX8_worthOfRow_157 : decode cX8_worthOfRow 157 = .ok (.invokestatic 130, 3) := by decide +kernel
theorem dX8_worthOfRow_160 : decode cX8_worthOfRow 160 = .ok (.lload_n 3, 1) := by decide +kernel
theorem dX8_worthOfRow_161 : decode cX8_worthOfRow 161 = .ok (.lmul, 1) := by decide +kernel
theorem dX8_worthOfRow_162 : decode cX8_worthOfRow 162 = .ok (.ladd, 1) := by decide +kernel
theorem dX8_worthOfRow_163 : decode cX8_worthOfRow 163 = .ok (.aload_n 0, 1) := by decide +kernel
theorem dX8_worthOfRow_164 : decode cX8_worthOfRow 164 = .ok (.getfield 17, 3) := by decide +kernel
theorem dX8_worthOfRow_167 : decode cX8_worthOfRow 167 = .ok (.i2l, 1) := by decide +kernel
theorem dX8_worthOfRow_168 : decode cX8_worthOfRow 168 = .ok (.aload_n 0, 1) := by decide +kernel
theorem dX8_worthOfRow_169 : decode cX8_worthOfRow 169 = .ok (.getfield 101, 3) := by decide +kernel
theorem dX8_worthOfRow_172 : decode cX8_worthOfRow 172 = .ok (.invokestatic 130, 3) := by decide +kernel
theorem dX8_worthOfRow_175 : decode cX8_worthOfRow 175 = .ok (.lload 5, 2) := by decide +kernel
theorem dX8_worthOfRow_177 : decode cX8_worthOfRow 177 = .ok (.lmul, 1) := by decide +kernel
theorem dX8_worthOfRow_178 : decode cX8_worthOfRow 178 = .ok (.invokevirtual 134, 3) := by decide +kernel
theorem dX8_worthOfRow_181 : decode cX8_worthOfRow 181 = .ok (.return_, 1) := by decide +kernel
theorem dX8_part_0 : decode cX8_part 0 = .ok (.iload_n 1, 1) := by decide +kernel
theorem dX8_part_1 : decode cX8_part 1 = .ok (.ifCond .ne 10, 3) := by decide +kernel
theorem dX8_part_4 : decode cX8_part 4 = .ok (.aload_n 0, 1) := by decide +kernel
theorem dX8_part_5 : decode cX8_part 5 = .ok (.getfield 123, 3) := by decide +kernel
theorem dX8_part_8 : decode cX8_part 8 = .ok (.goto 7, 3) := by decide +kernel
theorem dX8_part_11 : decode cX8_part 11 = .ok (.aload_n 0, 1) := by decide +kernel
theorem dX8_part_12 : decode cX8_part 12 = .ok (.getfield 127, 3) := by decide +kernel
theorem dX8_part_15 : decode cX8_part 15 = .ok (.lreturn, 1) := by decide +kernel
set_option maxRecDepth 20000 in
theorem ggX8_mean_X8_areBoth : GoodIn wsX8_mean wsX8_areBoth := goodIn_r _ [8, 9, 10, 11, 7, 12, 13, 14, 15, 16, 60, 61, 62, 63, 64, 65, 66, 67, 68, 69, 70, 71, 72, 73, 74, 75, 76, 77, 78, 79, 80] (by decide +kernel) (by decide +kernel)
set_option maxRecDepth 20000 in
theorem gX8_mean_X8_areBoth : GoodIn wsX8_mean (wsV RX8 107 RX8 yX8_areBoth wsX8_areBoth) := goodIn_app (goodIn_of _ (by decide +kernel)) ggX8_mean_X8_areBoth
set_option maxRecDepth 20000 in
theorem ggX8_mean_X8_in : GoodIn wsX8_mean wsX8_in := goodIn_r _ [16] (by decide +kernel) (by decide +kernel)
set_option maxRecDepth 20000 in
theorem gX8_mean_X8_in : GoodIn wsX8_mean (va_wsS RX8 53 yX8_in wsX8_in) := goodIn_app (goodIn_of _ (by decide +kernel)) ggX8_mean_X8_in
set_option maxRecDepth 20000 in
theorem ggX8_mean_X8_plays : GoodIn wsX8_mean wsX8_plays := goodIn_r _ [20, 21, 22, 2, 3, 23, 24, 25, 7, 26, 27, 28, 29, 30, 31, 32, 33, 34, 35, 36, 37, 38, 39, 40, 41, 42, 43, 44, 45, 60, 61, 62, 63, 64, 65, 66, 67, 68, 69, 70, 71, 72, 73, 74, 75, 76, 77, 78, 79, 80] (by decide +kernel) (by decide +kernel)
set_option maxRecDepth 20000 in
theorem gX8_mean_X8_plays : GoodIn wsX8_mean (wsV RX8 113 RX8 yX8_plays wsX8_plays) := goodIn_app (goodIn_of _ (by decide +kernel)) ggX8_mean_X8_plays
set_option maxRecDepth 20000 in
theorem ggX8_mean_X8_sumOf : GoodIn wsX8_mean wsX8_sumOf := goodIn_r _ [49, 22, 60, 61, 62, 63, 64, 65, 66, 67, 68, 69, 70, 71, 72, 73, 74, 75, 76, 77, 78, 79, 80] (by decide +kernel) (by decide +kernel)
set_option maxRecDepth 20000 in
theorem gX8_mean_X8_sumOf : GoodIn wsX8_mean (wsV RX8 117 RX8 yX8_sumOf wsX8_sumOf) := goodIn_app (goodIn_of _ (by decide +kernel)) ggX8_mean_X8_sumOf
set_option maxRecDepth 20000 in
theorem ggX8_mean_X8_lowest : GoodIn wsX8_mean wsX8_lowest := goodIn_r _ [53, 54, 55, 60, 61, 62, 63, 64, 65, 66, 67, 68, 69, 70, 71, 72, 73, 74, 75, 76, 77, 78, 79, 80] (by decide +kernel) (by decide +kernel)
set_option maxRecDepth 20000 in
theorem gX8_mean_X8_lowest : GoodIn wsX8_mean (wsV RX8 134 RX8 yX8_lowest wsX8_lowest) := goodIn_app (goodIn_of _ (by decide +kernel)) ggX8_mean_X8_lowest
set_option maxRecDepth 20000 in
theorem ggX8_mean_X8_part : GoodIn wsX8_mean wsX8_part := goodIn_r _ [59, 54, 55, 60, 61, 62, 63, 64, 65, 66, 67, 68, 69, 70, 71, 72, 73, 74, 75, 76, 77, 78, 79, 80] (by decide +kernel) (by decide +kernel)
set_option maxRecDepth 20000 in
theorem gX8_mean_X8_part : GoodIn wsX8_mean (wsV RX8 140 RX8 yX8_part wsX8_part) := goodIn_app (goodIn_of _ (by decide +kernel)) ggX8_mean_X8_part
theorem dX8_mean_0 : decode cX8_mean 0 = .ok (.aload_n 0, 1) := by decide +kernel
theorem dX8_mean_1 : decode cX8_mean 1 = .ok (.iload_n 1, 1) := by decide +kernel
theorem dX8_mean_2 : decode cX8_mean 2 = .ok (.iload_n 2, 1) := by decide +kernel
theorem dX8_mean_3 : decode cX8_mean 3 = .ok (.invokevirtual 107, 3) := by decide +kernel
theorem dX8_mean_6 : decode cX8_mean 6 = .ok (.ifCond .eq 13, 3) := by decide +kernel
theorem dX8_mean_9 : decode cX8_mean 9 = .ok (.iload_n 3, 1) := by decide +kernel
theorem dX8_mean_10 : decode cX8_mean 10 = .ok (.i2l, 1) := by decide +kernel
theorem dX8_mean_11 : decode cX8_mean 11 = .ok (.lconst 0, 1) := by decide +kernel
theorem dX8_mean_12 : decode cX8_mean 12 = .ok (.lconst 1, 1) := by decide +kernel
theorem dX8_mean_13 : decode cX8_mean 13 = .ok (.invokestatic 53, 3) := by decide +kernel
theorem dX8_mean_16 : decode cX8_mean 16 = .ok (.ifCond .ne 7, 3) := by decide +kernel
theorem dX8_mean_19 : decode cX8_mean 19 = .ok (.ldc2_w 138, 3) := by decide +kernel
theorem dX8_mean_22 : decode cX8_mean 22 = .ok (.lreturn, 1) := by decide +kernel
theorem dX8_mean_23 : decode cX8_mean 23 = .ok (.aload_n 0, 1) := by decide +kernel
theorem dX8_mean_24 : decode cX8_mean 24 = .ok (.iload_n 1, 1) := by decide +kernel
theorem dX8_mean_25 : decode cX8_mean 25 = .ok (.iload_n 2, 1) := by decide +kernel
theorem dX8_mean_26 : decode cX8_mean 26 = .ok (.iconst 0, 1) := by decide +kernel
theorem dX8_mean_27 : decode cX8_mean 27 = .ok (.invokevirtual 113, 3) := by decide +kernel
theorem dX8_mean_30 : decode cX8_mean 30 = .ok (.aload_n 0, 1) := by decide +kernel
theorem dX8_mean_31 : decode cX8_mean 31 = .ok (.aload_n 0, 1) := by decide +kernel
theorem dX8_mean_32 : decode cX8_mean 32 = .ok (.aload_n 0, 1) := by decide +kernel
theorem dX8_mean_33 : decode cX8_mean 33 = .ok (.getfield 101, 3) := by decide +kernel
theorem dX8_mean_36 : decode cX8_mean 36 = .ok (.aload_n 0, 1) := by decide +kernel
theorem dX8_mean_37 : decode cX8_mean 37 = .ok (.getfield 101, 3) := by decide +kernel
theorem dX8_mean_40 : decode cX8_mean 40 = .ok (.aload_n 0, 1) := by decide +kernel
theorem dX8_mean_41 : decode cX8_mean 41 = .ok (.getfield 104, 3) := by decide +kernel
theorem dX8_mean_44 : decode cX8_mean 44 = .ok (.iadd, 1) := by decide +kernel
theorem dX8_mean_45 : decode cX8_mean 45 = .ok (.invokevirtual 117, 3) := by decide +kernel
theorem dX8_mean_48 : decode cX8_mean 48 = .ok (.i2l, 1) := by decide +kernel
theorem dX8_mean_49 : decode cX8_mean 49 = .ok (.aload_n 0, 1) := by decide +kernel
theorem dX8_mean_50 : decode cX8_mean 50 = .ok (.getfield 104, 3) := by decide +kernel
theorem dX8_mean_53 : decode cX8_mean 53 = .ok (.i2l, 1) := by decide +kernel
theorem dX8_mean_54 : decode cX8_mean 54 = .ok (.invokevirtual 134, 3) := by decide +kernel
theorem dX8_mean_57 : decode cX8_mean 57 = .ok (.aload_n 0, 1) := by decide +kernel
theorem dX8_mean_58 : decode cX8_mean 58 = .ok (.iload_n 3, 1) := by decide +kernel
theorem dX8_mean_59 : decode cX8_mean 59 = .ok (.invokevirtual 140, 3) := by decide +kernel
theorem dX8_mean_62 : decode cX8_mean 62 = .ok (.lreturn, 1) := by decide +kernel
set_option maxRecDepth 20000 in
theorem ggX8_findWorth_X8_plays : GoodIn wsX8_findWorth wsX8_plays := goodIn_r _ [5, 6, 7, 8, 9, 10, 11, 12, 4, 13, 14, 15, 16, 17, 18, 19, 20, 21, 22, 23, 24, 25, 26, 27, 28, 29, 30, 31, 32, 48, 49, 50, 51, 52, 53, 54, 55, 56, 57, 58, 59, 60, 61, 62, 63, 64, 65, 66, 67, 68] (by decide +kernel) (by decide +kernel)
set_option maxRecDepth 20000 in
theorem gX8_findWorth_X8_plays : GoodIn wsX8_findWorth (wsV RX8 113 RX8 yX8_plays wsX8_plays) := goodIn_app (goodIn_of _ (by decide +kernel)) ggX8_findWorth_X8_plays
set_option maxRecDepth 20000 in
theorem ggX8_findWorth_X8_worthOfRow : GoodIn wsX8_findWorth wsX8_worthOfRow := goodIn_r _ [36, 8, 7, 37, 38, 9, 39, 40, 4, 41, 42, 43, 44, 45, 46, 47, 48, 49, 50, 51, 52, 53, 54, 55, 56, 57, 58, 59, 60, 61, 62, 63, 64, 65, 66, 67, 68] (by decide +kernel) (by decide +kernel)
set_option maxRecDepth 20000 in
theorem gX8_findWorth_X8_worthOfRow : GoodIn wsX8_findWorth (wsV RX8 144 RX8 yX8_worthOfRow wsX8_worthOfRow) := goodIn_app (goodIn_of _ (by decide +kernel)) ggX8_findWorth_X8_worthOfRow
theorem dX8_findWorth_0 : decode cX8_findWorth 0 = .ok (.aload_n 0, 1) := by decide +kernel
theorem dX8_findWorth_1 : decode cX8_findWorth 1 = .ok (.iload_n 1, 1) := by decide +kernel
theorem dX8_findWorth_2 : decode cX8_findWorth 2 = .ok (.iload_n 2, 1) := by decide +kernel
theorem dX8_findWorth_3 : decode cX8_findWorth 3 = .ok (.iload_n 3, 1) := by decide +kernel
theorem dX8_findWorth_4 : decode cX8_findWorth 4 = .ok (.invokevirtual 113, 3) := by decide +kernel
theorem dX8_findWorth_7 : decode cX8_findWorth 7 = .ok (.aload_n 0, 1) := by decide +kernel
theorem dX8_findWorth_8 : decode cX8_findWorth 8 = .ok (.invokevirtual 144, 3) := by decide +kernel
theorem dX8_findWorth_11 : decode cX8_findWorth 11 = .ok (.return_, 1) := by decide +kernel
set_option maxRecDepth 20000 in
theorem ggX8_worth_X8_areBoth : GoodIn wsX8_worth wsX8_areBoth := goodIn_r _ [6, 7, 8, 9, 5, 10, 11, 12, 13, 14, 69, 70, 71, 72, 73, 74, 75, 76, 77, 78, 79, 80, 81, 82, 83, 84, 85, 86, 87, 88, 89] (by decide +kernel) (by decide +kernel)
set_option maxRecDepth 20000 in
theorem gX8_worth_X8_areBoth : GoodIn wsX8_worth (wsV RX8 107 RX8 yX8_areBoth wsX8_areBoth) := goodIn_app (goodIn_of _ (by decide +kernel)) ggX8_worth_X8_areBoth
set_option maxRecDepth 20000 in
theorem ggX8_worth_X8_in : GoodIn wsX8_worth wsX8_in := goodIn_r _ [14] (by decide +kernel) (by decide +kernel)
set_option maxRecDepth 20000 in
theorem gX8_worth_X8_in : GoodIn wsX8_worth (va_wsS RX8 53 yX8_in wsX8_in) := goodIn_app (goodIn_of _ (by decide +kernel)) ggX8_worth_X8_in
set_option maxRecDepth 20000 in
theorem ggX8_worth_X8_findWorth : GoodIn wsX8_worth wsX8_findWorth := goodIn_r _ [18, 19, 20, 21, 5, 22, 23, 24, 25, 26, 27, 28, 29, 30, 31, 32, 33, 34, 35, 36, 37, 38, 39, 40, 41, 42, 43, 44, 45, 46, 47, 48, 49, 50, 51, 52, 53, 54, 55, 56, 57, 58, 59, 60, 61, 62, 63, 64, 69, 70, 71, 72, 73, 74, 75, 76, 77, 78, 79, 80, 81, 82, 83, 84, 85, 86, 87, 88, 89] (by decide +kernel) (by decide +kernel)
set_option maxRecDepth 20000 in
theorem gX8_worth_X8_findWorth : GoodIn wsX8_worth (wsV RX8 147 RX8 yX8_findWorth wsX8_findWorth) := goodIn_app (goodIn_of _ (by decide +kernel)) ggX8_worth_X8_findWorth
set_option maxRecDepth 20000 in
theorem ggX8_worth_X8_part : GoodIn wsX8_worth wsX8_part := goodIn_r _ [68, 63, 64, 69, 70, 71, 72, 73, 74, 75, 76, 77, 78, 79, 80, 81, 82, 83, 84, 85, 86, 87, 88, 89] (by decide +kernel) (by decide +kernel)
set_option maxRecDepth 20000 in
theorem gX8_worth_X8_part : GoodIn wsX8_worth (wsV RX8 140 RX8 yX8_part wsX8_part) := goodIn_app (goodIn_of _ (by decide +kernel)) ggX8_worth_X8_part
theorem dX8_worth_0 : decode cX8_worth 0 = .ok (.aload_n 0, 1) := by decide +kernel
theorem dX8_worth_1 : decode cX8_worth 1 = .ok (.iload_n 1, 1) := by decide +kernel
theorem dX8_worth_2 : decode cX8_worth 2 = .ok (.iload_n 2, 1) := by decide +kernel
theorem dX8_worth_3 : decode cX8_worth 3 = .ok (.invokevirtual 107, 3) := by decide +kernel
theorem dX8_worth_6 : decode cX8_worth 6 = .ok (.ifCond .eq 13, 3) := by decide +kernel
theorem dX8_worth_9 : decode cX8_worth 9 = .ok (.iload_n 3, 1) := by decide +kernel
theorem dX8_worth_10 : decode cX8_worth 10 = .ok (.i2l, 1) := by decide +kernel
theorem dX8_worth_11 : decode cX8_worth 11 = .ok (.lconst 0, 1) := by decide +kernel
theorem dX8_worth_12 : decode cX8_worth 12 = .ok (.lconst 1, 1) := by decide +kernel
theorem dX8_worth_13 : decode cX8_worth 13 = .ok (.invokestatic 53, 3) := by decide +kernel
theorem dX8_worth_16 : decode cX8_worth 16 = .ok (.ifCond .ne 7, 3) := by decide +kernel
theorem dX8_worth_19 : decode cX8_worth 19 = .ok (.ldc2_w 138, 3) := by decide +kernel
theorem dX8_worth_22 : decode cX8_worth 22 = .ok (.lreturn, 1) := by decide +kernel
theorem dX8_worth_23 : decode cX8_worth 23 = .ok (.aload_n 0, 1) := by decide +kernel
theorem dX8_worth_24 : decode cX8_worth 24 = .ok (.iload_n 1, 1) := by decide +kernel
theorem dX8_worth_25 : decode cX8_worth 25 = .ok (.iload_n 2, 1) := by decide +kernel
theorem dX8_worth_26 : decode cX8_worth 26 = .ok (.iconst 0, 1) := by decide +kernel
theorem dX8_worth_27 : decode cX8_worth 27 = .ok (.invokevirtual 147, 3) := by decide +kernel
theorem dX8_worth_30 : decode cX8_worth 30 = .ok (.aload_n 0, 1) := by decide +kernel
theorem dX8_worth_31 : decode cX8_worth 31 = .ok (.iload_n 3, 1) := by decide +kernel
theorem dX8_worth_32 : decode cX8_worth 32 = .ok (.invokevirtual 140, 3) := by decide +kernel
theorem dX8_worth_35 : decode cX8_worth 35 = .ok (.lreturn, 1) := by decide +kernel
set_option maxRecDepth 20000 in
theorem ggX8_slip_X8_areBoth : GoodIn wsX8_slip wsX8_areBoth := goodIn_r _ [6, 7, 8, 9, 5, 10, 11, 12, 13, 14, 33, 34, 35, 36, 37, 38, 39, 40, 41, 42, 43, 44, 45, 46, 47, 48, 49, 50, 51, 52, 53] (by decide +kernel) (by decide +kernel)
set_option maxRecDepth 20000 in
theorem gX8_slip_X8_areBoth : GoodIn wsX8_slip (wsV RX8 107 RX8 yX8_areBoth wsX8_areBoth) := goodIn_app (goodIn_of _ (by decide +kernel)) ggX8_slip_X8_areBoth
set_option maxRecDepth 20000 in
theorem ggX8_slip_X8_in : GoodIn wsX8_slip wsX8_in := goodIn_r _ [14] (by decide +kernel) (by decide +kernel)
set_option maxRecDepth 20000 in
theorem gX8_slip_X8_in : GoodIn wsX8_slip (va_wsS RX8 53 yX8_in wsX8_in) := goodIn_app (goodIn_of _ (by decide +kernel)) ggX8_slip_X8_in
set_option maxRecDepth 20000 in
theorem ggX8_slip_X8_next : GoodIn wsX8_slip wsX8_next := goodIn_r _ [18, 19, 20, 21, 5, 22, 23, 24, 25, 26, 27, 28, 29, 30, 31, 32, 33, 34, 35, 36, 37, 38, 39, 40, 41, 42, 43, 44, 45, 46, 47, 48, 49, 50, 51, 52, 53] (by decide +kernel) (by decide +kernel)
set_option maxRecDepth 20000 in
theorem gX8_slip_X8_next : GoodIn wsX8_slip (wsV RX8 98 RX8 yX8_next wsX8_next) := goodIn_app (goodIn_of _ (by decide +kernel)) ggX8_slip_X8_next
set_option maxRecDepth 20000 in
theorem ggX8_slip_X8_mine : GoodIn wsX8_slip wsX8_mine := goodIn_r _ [22, 23, 33, 34, 35, 36, 37, 38, 39, 40, 41, 42, 43, 44, 45, 46, 47, 48, 49, 50, 51, 52, 53] (by decide +kernel) (by decide +kernel)
set_option maxRecDepth 20000 in
theorem gX8_slip_X8_mine : GoodIn wsX8_slip (wsV RX8 83 RX8 yX8_mine wsX8_mine) := goodIn_app (goodIn_of _ (by decide +kernel)) ggX8_slip_X8_mine
set_option maxRecDepth 20000 in
theorem ggX8_slip_X8_theirs : GoodIn wsX8_slip wsX8_theirs := goodIn_r _ [27, 23, 33, 34, 35, 36, 37, 38, 39, 40, 41, 42, 43, 44, 45, 46, 47, 48, 49, 50, 51, 52, 53] (by decide +kernel) (by decide +kernel)
set_option maxRecDepth 20000 in
theorem gX8_slip_X8_theirs : GoodIn wsX8_slip (wsV RX8 87 RX8 yX8_theirs wsX8_theirs) := goodIn_app (goodIn_of _ (by decide +kernel)) ggX8_slip_X8_theirs
set_option maxRecDepth 20000 in
theorem ggX8_slip_X8_after : GoodIn wsX8_slip wsX8_after := goodIn_r _ [31, 32, 33, 34, 35, 36, 37, 38, 39, 40, 41, 42, 43, 44, 45, 46, 47, 48, 49, 50, 51, 52, 53] (by decide +kernel) (by decide +kernel)
set_option maxRecDepth 20000 in
theorem gX8_slip_X8_after : GoodIn wsX8_slip (wsV RX8 90 RX8 yX8_after wsX8_after) := goodIn_app (goodIn_of _ (by decide +kernel)) ggX8_slip_X8_after
theorem dX8_slip_0 : decode cX8_slip 0 = .ok (.aload_n 0, 1) := by decide +kernel
theorem dX8_slip_1 : decode cX8_slip 1 = .ok (.iload_n 1, 1) := by decide +kernel
theorem dX8_slip_2 : decode cX8_slip 2 = .ok (.iload_n 2, 1) := by decide +kernel
theorem dX8_slip_3 : decode cX8_slip 3 = .ok (.invokevirtual 107, 3) := by decide +kernel
theorem dX8_slip_6 : decode cX8_slip 6 = .ok (.ifCond .eq 15, 3) := by decide +kernel
theorem dX8_slip_9 : decode cX8_slip 9 = .ok (.iload_n 3, 1) := by decide +kernel
theorem dX8_slip_10 : decode cX8_slip 10 = .ok (.i2l, 1) := by decide +kernel
theorem dX8_slip_11 : decode cX8_slip 11 = .ok (.lconst 0, 1) := by decide +kernel
theorem dX8_slip_12 : decode cX8_slip 12 = .ok (.ldc2_w 150, 3) := by decide +kernel
theorem dX8_slip_15 : decode cX8_slip 15 = .ok (.invokestatic 53, 3) := by decide +kernel
theorem dX8_slip_18 : decode cX8_slip 18 = .ok (.ifCond .ne 5, 3) := by decide +kernel
theorem dX8_slip_21 : decode cX8_slip 21 = .ok (.iconst (-1), 1) := by decide +kernel
theorem dX8_slip_22 : decode cX8_slip 22 = .ok (.ireturn, 1) := by decide +kernel
theorem dX8_slip_23 : decode cX8_slip 23 = .ok (.iconst 0, 1) := by decide +kernel
theorem dX8_slip_24 : decode cX8_slip 24 = .ok (.istore 4, 2) := by decide +kernel
theorem dX8_slip_26 : decode cX8_slip 26 = .ok (.iconst 0, 1) := by decide +kernel
theorem dX8_slip_27 : decode cX8_slip 27 = .ok (.istore 5, 2) := by decide +kernel
theorem dX8_slip_29 : decode cX8_slip 29 = .ok (.iload 5, 2) := by decide +kernel
theorem dX8_slip_31 : decode cX8_slip 31 = .ok (.iload_n 3, 1) := by decide +kernel
theorem dX8_slip_32 : decode cX8_slip 32 = .ok (.if_icmp .ge 19, 3) := by decide +kernel
theorem dX8_slip_35 : decode cX8_slip 35 = .ok (.aload_n 0, 1) := by decide +kernel
theorem dX8_slip_36 : decode cX8_slip 36 = .ok (.iload_n 1, 1) := by decide +kernel
theorem dX8_slip_37 : decode cX8_slip 37 = .ok (.iload_n 2, 1) := by decide +kernel
theorem dX8_slip_38 : decode cX8_slip 38 = .ok (.iload 4, 2) := by decide +kernel
theorem dX8_slip_40 : decode cX8_slip 40 = .ok (.invokevirtual 98, 3) := by decide +kernel
theorem dX8_slip_43 : decode cX8_slip 43 = .ok (.istore 4, 2) := by decide +kernel
theorem dX8_slip_45 : decode cX8_slip 45 = .ok (.iinc 5 1, 3) := by decide +kernel
theorem dX8_slip_48 : decode cX8_slip 48 = .ok (.goto (-19), 3) := by decide +kernel
theorem dX8_slip_51 : decode cX8_slip 51 = .ok (.aload_n 0, 1) := by decide +kernel
theorem dX8_slip_52 : decode cX8_slip 52 = .ok (.iload_n 1, 1) := by decide +kernel
theorem dX8_slip_53 : decode cX8_slip 53 = .ok (.iload_n 2, 1) := by decide +kernel
theorem dX8_slip_54 : decode cX8_slip 54 = .ok (.iload 4, 2) := by decide +kernel
theorem dX8_slip_56 : decode cX8_slip 56 = .ok (.aload_n 0, 1) := by decide +kernel
theorem dX8_slip_57 : decode cX8_slip 57 = .ok (.iload_n 1, 1) := by decide +kernel
theorem dX8_slip_58 : decode cX8_slip 58 = .ok (.iload 4, 2) := by decide +kernel
theorem dX8_slip_60 : decode cX8_slip 60 = .ok (.invokevirtual 83, 3) := by decide +kernel
theorem dX8_slip_63 : decode cX8_slip 63 = .ok (.iconst 1, 1) := by decide +kernel
theorem dX8_slip_64 : decode cX8_slip 64 = .ok (.iadd, 1) := by decide +kernel
theorem dX8_slip_65 : decode cX8_slip 65 = .ok (.iconst 3, 1) := by decide +kernel
theorem dX8_slip_66 : decode cX8_slip 66 = .ok (.irem, 1) := by decide +kernel
theorem dX8_slip_67 : decode cX8_slip 67 = .ok (.aload_n 0, 1) := by decide +kernel
theorem dX8_slip_68 : decode cX8_slip 68 = .ok (.iload_n 2, 1) := by decide +kernel
theorem dX8_slip_69 : decode cX8_slip 69 = .ok (.iload 4, 2) := by decide +kernel
theorem dX8_slip_71 : decode cX8_slip 71 = .ok (.invokevirtual 87, 3) := by decide +kernel
theorem dX8_slip_74 : decode cX8_slip 74 = .ok (.invokevirtual 90, 3) := by decide +kernel
theorem dX8_slip_77 : decode cX8_slip 77 = .ok (.istore 5, 2) := by decide +kernel
theorem dX8_slip_79 : decode cX8_slip 79 = .ok (.aload_n 0, 1) := by decide +kernel
theorem dX8_slip_80 : decode cX8_slip 80 = .ok (.iload_n 1, 1) := by decide +kernel
theorem dX8_slip_81 : decode cX8_slip 81 = .ok (.iload_n 2, 1) := by decide +kernel
theorem dX8_slip_82 : decode cX8_slip 82 = .ok (.iload 4, 2) := by decide +kernel
theorem dX8_slip_84 : decode cX8_slip 84 = .ok (.invokevirtual 98, 3) := by decide +kernel
theorem dX8_slip_87 : decode cX8_slip 87 = .ok (.istore 4, 2) := by decide +kernel
theorem dX8_slip_89 : decode cX8_slip 89 = .ok (.iconst 0, 1) := by decide +kernel
theorem dX8_slip_90 : decode cX8_slip 90 = .ok (.istore 6, 2) := by decide +kernel
theorem dX8_slip_92 : decode cX8_slip 92 = .ok (.iload 6, 2) := by decide +kernel
theorem dX8_slip_94 : decode cX8_slip 94 = .ok (.sipush 300, 3) := by decide +kernel
theorem dX8_slip_97 : decode cX8_slip 97 = .ok (.if_icmp .ge 41, 3) := by decide +kernel
theorem dX8_slip_100 : decode cX8_slip 100 = .ok (.iload 4, 2) := by decide +kernel
theorem dX8_slip_102 : decode cX8_slip 102 = .ok (.iload 5, 2) := by decide +kernel
theorem dX8_slip_104 : decode cX8_slip 104 = .ok (.if_icmp .ne 8, 3) := by decide +kernel
theorem dX8_slip_107 : decode cX8_slip 107 = .ok (.iload 6, 2) := by decide +kernel
theorem dX8_slip_109 : decode cX8_slip 109 = .ok (.iconst 1, 1) := by decide +kernel
theorem dX8_slip_110 : decode cX8_slip 110 = .ok (.iadd, 1) := by decide +kernel
theorem dX8_slip_111 : decode cX8_slip 111 = .ok (.ireturn, 1) := by decide +kernel
theorem dX8_slip_112 : decode cX8_slip 112 = .ok (.aload_n 0, 1) := by decide +kernel
theorem dX8_slip_113 : decode cX8_slip 113 = .ok (.iload_n 1, 1) := by decide +kernel
theorem dX8_slip_114 : decode cX8_slip 114 = .ok (.iload_n 2, 1) := by decide +kernel
theorem dX8_slip_115 : decode cX8_slip 115 = .ok (.iload 4, 2) := by decide +kernel
theorem dX8_slip_117 : decode cX8_slip 117 = .ok (.invokevirtual 98, 3) := by decide +kernel
theorem dX8_slip_120 : decode cX8_slip 120 = .ok (.istore 4, 2) := by decide +kernel
theorem dX8_slip_122 : decode cX8_slip 122 = .ok (.aload_n 0, 1) := by decide +kernel
theorem dX8_slip_123 : decode cX8_slip 123 = .ok (.iload_n 1, 1) := by decide +kernel
theorem dX8_slip_124 : decode cX8_slip 124 = .ok (.iload_n 2, 1) := by decide +kernel
theorem dX8_slip_125 : decode cX8_slip 125 = .ok (.iload 5, 2) := by decide +kernel
theorem dX8_slip_127 : decode cX8_slip 127 = .ok (.invokevirtual 98, 3) := by decide +kernel
theorem dX8_slip_130 : decode cX8_slip 130 = .ok (.istore 5, 2) := by decide +kernel
theorem dX8_slip_132 : decode cX8_slip 132 = .ok (.iinc 6 1, 3) := by decide +kernel
theorem dX8_slip_135 : decode cX8_slip 135 = .ok (.goto (-43), 3) := by decide +kernel
theorem dX8_slip_138 : decode cX8_slip 138 = .ok (.bipush (-4), 2) := by decide +kernel
theorem dX8_slip_140 : decode cX8_slip 140 = .ok (.ireturn, 1) := by decide +kernel
theorem dX8_findUnlike_0 : decode cX8_findUnlike 0 = .ok (.iconst 0, 1) := by decide +kernel
theorem dX8_findUnlike_1 : decode cX8_findUnlike 1 = .ok (.istore_n 3, 1) := by decide +kernel
theorem dX8_findUnlike_2 : decode cX8_findUnlike 2 = .ok (.iload_n 3, 1) := by decide +kernel
theorem dX8_findUnlike_3 : decode cX8_findUnlike 3 = .ok (.aload_n 0, 1) := by decide +kernel
theorem dX8_findUnlike_4 : decode cX8_findUnlike 4 = .ok (.getfield 20, 3) := by decide +kernel
theorem dX8_findUnlike_7 : decode cX8_findUnlike 7 = .ok (.iload_n 1, 1) := by decide +kernel
theorem dX8_findUnlike_8 : decode cX8_findUnlike 8 = .ok (.iaload, 1) := by decide +kernel
theorem dX8_findUnlike_9 : decode cX8_findUnlike 9 = .ok (.if_icmp .ge 69, 3) := by decide +kernel
theorem dX8_findUnlike_12 : decode cX8_findUnlike 12 = .ok (.iconst 0, 1) := by decide +kernel
theorem dX8_findUnlike_13 : decode cX8_findUnlike 13 = .ok (.istore 4, 2) := by decide +kernel
theorem dX8_findUnlike_15 : decode cX8_findUnlike 15 = .ok (.iload 4, 2) := by decide +kernel
theorem dX8_findUnlike_17 : decode cX8_findUnlike 17 = .ok (.aload_n 0, 1) := by decide +kernel
theorem dX8_findUnlike_18 : decode cX8_findUnlike 18 = .ok (.getfield 20, 3) := by decide +kernel
theorem dX8_findUnlike_21 : decode cX8_findUnlike 21 = .ok (.iload_n 2, 1) := by decide +kernel
theorem dX8_findUnlike_22 : decode cX8_findUnlike 22 = .ok (.iaload, 1) := by decide +kernel
theorem dX8_findUnlike_23 : decode cX8_findUnlike 23 = .ok (.if_icmp .ge 49, 3) := by decide +kernel
theorem dX8_findUnlike_26 : decode cX8_findUnlike 26 = .ok (.aload_n 0, 1) := by decide +kernel
theorem dX8_findUnlike_27 : decode cX8_findUnlike 27 = .ok (.getfield 44, 3) := by decide +kernel
theorem dX8_findUnlike_30 : decode cX8_findUnlike 30 = .ok (.iconst 4, 1) := by decide +kernel
theorem dX8_findUnlike_31 : decode cX8_findUnlike 31 = .ok (.iload_n 3, 1) := by decide +kernel
theorem dX8_findUnlike_32 : decode cX8_findUnlike 32 = .ok (.imul, 1) := by decide +kernel
theorem dX8_findUnlike_33 : decode cX8_findUnlike 33 = .ok (.iload 4, 2) := by decide +kernel
theorem dX8_findUnlike_35 : decode cX8_findUnlike 35 = .ok (.iadd, 1) := by decide +kernel
theorem dX8_findUnlike_36 : decode cX8_findUnlike 36 = .ok (.aload_n 0, 1) := by decide +kernel
theorem dX8_findUnlike_37 : decode cX8_findUnlike 37 = .ok (.getfield 23, 3) := by decide +kernel
theorem dX8_findUnlike_40 : decode cX8_findUnlike 40 = .ok (.iconst 4, 1) := by decide +kernel
theorem dX8_findUnlike_41 : decode cX8_findUnlike 41 = .ok (.iload_n 1, 1) := by decide +kernel
theorem dX8_findUnlike_42 : decode cX8_findUnlike 42 = .ok (.imul, 1) := by decide +kernel
theorem dX8_findUnlike_43 : decode cX8_findUnlike 43 = .ok (.iload_n 3, 1) := by decide +kernel
theorem dX8_findUnlike_44 : decode cX8_findUnlike 44 = .ok (.iadd, 1) := by decide +kernel
theorem dX8_findUnlike_45 : decode cX8_findUnlike 45 = .ok (.iaload, 1) := by decide +kernel
theorem dX8_findUnlike_46 : decode cX8_findUnlike 46 = .ok (.aload_n 0, 1) := by decide +kernel
theorem dX8_findUnlike_47 : decode cX8_findUnlike 47 = .ok (.getfield 23, 3) := by decide +kernel
theorem dX8_findUnlike_50 : decode cX8_findUnlike 50 = .ok (.iconst 4, 1) := by decide +kernel
theorem dX8_findUnlike_51 : decode cX8_findUnlike 51 = .ok (.iload_n 2, 1) := by decide +kernel
theorem dX8_findUnlike_52 : decode cX8_findUnlike 52 = .ok (.imul, 1) := by decide +kernel
theorem dX8_findUnlike_53 : decode cX8_findUnlike 53 = .ok (.iload 4, 2) := by decide +kernel
theorem dX8_findUnlike_55 : decode cX8_findUnlike 55 = .ok (.iadd, 1) := by decide +kernel
theorem dX8_findUnlike_56 : decode cX8_findUnlike 56 = .ok (.iaload, 1) := by decide +kernel
theorem dX8_findUnlike_57 : decode cX8_findUnlike 57 = .ok (.if_icmp .eq 7, 3) := by decide +kernel
theorem dX8_findUnlike_60 : decode cX8_findUnlike 60 = .ok (.iconst 1, 1) := by decide +kernel
theorem dX8_findUnlike_61 : decode cX8_findUnlike 61 = .ok (.goto 4, 3) := by decide +kernel
theorem dX8_findUnlike_64 : decode cX8_findUnlike 64 = .ok (.iconst 0, 1) := by decide +kernel
theorem dX8_findUnlike_65 : decode cX8_findUnlike 65 = .ok (.bastore, 1) := by decide +kernel
theorem dX8_findUnlike_66 : decode cX8_findUnlike 66 = .ok (.iinc 4 1, 3) := by decide +kernel
theorem dX8_findUnlike_69 : decode cX8_findUnlike 69 = .ok (.goto (-54), 3) := by decide +kernel
theorem dX8_findUnlike_72 : decode cX8_findUnlike 72 = .ok (.iinc 3 1, 3) := by decide +kernel
theorem dX8_findUnlike_75 : decode cX8_findUnlike 75 = .ok (.goto (-73), 3) := by decide +kernel
theorem dX8_findUnlike_78 : decode cX8_findUnlike 78 = .ok (.iconst 0, 1) := by decide +kernel
theorem dX8_findUnlike_79 : decode cX8_findUnlike 79 = .ok (.istore_n 3, 1) := by decide +kernel
theorem dX8_findUnlike_80 : decode cX8_findUnlike 80 = .ok (.iload_n 3, 1) := by decide +kernel
theorem dX8_findUnlike_81 : decode cX8_findUnlike 81 = .ok (.bipush 16, 2) := by decide +kernel
theorem dX8_findUnlike_83 : decode cX8_findUnlike 83 = .ok (.if_icmp .ge 141, 3) := by decide +kernel
theorem dX8_findUnlike_86 : decode cX8_findUnlike 86 = .ok (.iconst 0, 1) := by decide +kernel
theorem dX8_findUnlike_87 : decode cX8_findUnlike 87 = .ok (.istore 4, 2) := by decide +kernel
theorem dX8_findUnlike_89 : decode cX8_findUnlike 89 = .ok (.iload 4, 2) := by decide +kernel
theorem dX8_findUnlike_91 : decode cX8_findUnlike 91 = .ok (.aload_n 0, 1) := by decide +kernel
theorem dX8_findUnlike_92 : decode cX8_findUnlike 92 = .ok (.getfield 20, 3) := by decide +kernel
theorem dX8_findUnlike_95 : decode cX8_findUnlike 95 = .ok (.iload_n 1, 1) := by decide +kernel
theorem dX8_findUnlike_96 : decode cX8_findUnlike 96 = .ok (.iaload, 1) := by decide +kernel
theorem dX8_findUnlike_97 : decode cX8_findUnlike 97 = .ok (.if_icmp .ge 121, 3) := by decide +kernel
theorem dX8_findUnlike_100 : decode cX8_findUnlike 100 = .ok (.iconst 0, 1) := by decide +kernel
theorem dX8_findUnlike_101 : decode cX8_findUnlike 101 = .ok (.istore 5, 2) := by decide +kernel
theorem dX8_findUnlike_103 : decode cX8_findUnlike 103 = .ok (.iload 5, 2) := by decide +kernel
theorem dX8_findUnlike_105 : decode cX8_findUnlike 105 = .ok (.aload_n 0, 1) := by decide +kernel
theorem dX8_findUnlike_106 : decode cX8_findUnlike 106 = .ok (.getfield 20, 3) := by decide +kernel
theorem dX8_findUnlike_109 : decode cX8_findUnlike 109 = .ok (.iload_n 2, 1) := by decide +kernel
theorem dX8_findUnlike_110 : decode cX8_findUnlike 110 = .ok (.iaload, 1) := by decide +kernel
theorem dX8_findUnlike_111 : decode cX8_findUnlike 111 = .ok (.if_icmp .ge 101, 3) := by decide +kernel
theorem dX8_findUnlike_114 : decode cX8_findUnlike 114 = .ok (.iconst 0, 1) := by decide +kernel
theorem dX8_findUnlike_115 : decode cX8_findUnlike 115 = .ok (.istore 6, 2) := by decide +kernel
theorem dX8_findUnlike_117 : decode cX8_findUnlike 117 = .ok (.iload 6, 2) := by decide +kernel
theorem dX8_findUnlike_119 : decode cX8_findUnlike 119 = .ok (.iconst 3, 1) := by decide +kernel
theorem dX8_findUnlike_120 : decode cX8_findUnlike 120 = .ok (.if_icmp .ge 86, 3) := by decide +kernel
theorem dX8_findUnlike_123 : decode cX8_findUnlike 123 = .ok (.aload_n 0, 1) := by decide +kernel
theorem dX8_findUnlike_124 : decode cX8_findUnlike 124 = .ok (.getfield 44, 3) := by decide +kernel
theorem dX8_findUnlike_127 : decode cX8_findUnlike 127 = .ok (.iconst 4, 1) := by decide +kernel
theorem dX8_findUnlike_128 : decode cX8_findUnlike 128 = .ok (.iload 4, 2) := by decide +kernel
theorem dX8_findUnlike_130 : decode cX8_findUnlike 130 = .ok (.imul, 1) := by decide +kernel
theorem dX8_findUnlike_131 : decode cX8_findUnlike 131 = .ok (.iload 5, 2) := by decide +kernel
theorem dX8_findUnlike_133 : decode cX8_findUnlike 133 = .ok (.iadd, 1) := by decide +kernel
theorem dX8_findUnlike_134 : decode cX8_findUnlike 134 = .ok (.aload_n 0, 1) := by decide +kernel
theorem dX8_findUnlike_135 : decode cX8_findUnlike 135 = .ok (.getfield 44, 3) := by decide +kernel
theorem dX8_findUnlike_138 : decode cX8_findUnlike 138 = .ok (.iconst 4, 1) := by decide +kernel
theorem dX8_findUnlike_139 : decode cX8_findUnlike 139 = .ok (.iload 4, 2) := by decide +kernel
theorem dX8_findUnlike_141 : decode cX8_findUnlike 141 = .ok (.imul, 1) := by decide +kernel
theorem dX8_findUnlike_142 : decode cX8_findUnlike 142 = .ok (.iload 5, 2) := by decide +kernel
theorem dX8_findUnlike_144 : decode cX8_findUnlike 144 = .ok (.iadd, 1) := by decide +kernel
theorem dX8_findUnlike_145 : decode cX8_findUnlike 145 = .ok (.baload, 1) := by decide +kernel
theorem dX8_findUnlike_146 : decode cX8_findUnlike 146 = .ok (.ifCond .ne 48, 3) := by decide +kernel
theorem dX8_findUnlike_149 : decode cX8_findUnlike 149 = .ok (.aload_n 0, 1) := by decide +kernel
theorem dX8_findUnlike_150 : decode cX8_findUnlike 150 = .ok (.getfield 44, 3) := by decide +kernel
theorem dX8_findUnlike_153 : decode cX8_findUnlike 153 = .ok (.iconst 4, 1) := by decide +kernel
theorem dX8_findUnlike_154 : decode cX8_findUnlike 154 = .ok (.aload_n 0, 1) := by decide +kernel
theorem dX8_findUnlike_155 : decode cX8_findUnlike 155 = .ok (.getfield 26, 3) := by decide +kernel
theorem dX8_findUnlike_158 : decode cX8_findUnlike 158 = .ok (.bipush 12, 2) := by decide +kernel
theorem dX8_findUnlike_160 : decode cX8_findUnlike 160 = .ok (.iload_n 1, 1) := by decide +kernel
theorem dX8_findUnlike_161 : decode cX8_findUnlike 161 = .ok (.imul, 1) := by decide +kernel
theorem dX8_findUnlike_162 : decode cX8_findUnlike 162 = .ok (.iconst 3, 1) := by decide +kernel
theorem dX8_findUnlike_163 : decode cX8_findUnlike 163 = .ok (.iload 4, 2) := by decide +kernel
theorem dX8_findUnlike_165 : decode cX8_findUnlike 165 = .ok (.imul, 1) := by decide +kernel
theorem dX8_findUnlike_166 : decode cX8_findUnlike 166 = .ok (.iadd, 1) := by decide +kernel
theorem dX8_findUnlike_167 : decode cX8_findUnlike 167 = .ok (.iload 6, 2) := by decide +kernel
theorem dX8_findUnlike_169 : decode cX8_findUnlike 169 = .ok (.iadd, 1) := by decide +kernel
theorem dX8_findUnlike_170 : decode cX8_findUnlike 170 = .ok (.iaload, 1) := by decide +kernel
theorem dX8_findUnlike_171 : decode cX8_findUnlike 171 = .ok (.imul, 1) := by decide +kernel
theorem dX8_findUnlike_172 : decode cX8_findUnlike 172 = .ok (.aload_n 0, 1) := by decide +kernel
theorem dX8_findUnlike_173 : decode cX8_findUnlike 173 = .ok (.getfield 26, 3) := by decide +kernel
theorem dX8_findUnlike_176 : decode cX8_findUnlike 176 = .ok (.bipush 12, 2) := by decide +kernel
theorem dX8_findUnlike_178 : decode cX8_findUnlike 178 = .ok (.iload_n 2, 1) := by decide +kernel
theorem dX8_findUnlike_179 : decode cX8_findUnlike 179 = .ok (.imul, 1) := by decide +kernel
theorem dX8_findUnlike_180 : decode cX8_findUnlike 180 = .ok (.iconst 3, 1) := by decide +kernel
theorem dX8_findUnlike_181 : decode cX8_findUnlike 181 = .ok (.iload 5, 2) := by decide +kernel
theorem dX8_findUnlike_183 : decode cX8_findUnlike 183 = .ok (.imul, 1) := by decide +kernel
theorem dX8_findUnlike_184 : decode cX8_findUnlike 184 = .ok (.iadd, 1) := by decide +kernel
theorem dX8_findUnlike_185 : decode cX8_findUnlike 185 = .ok (.iload 6, 2) := by decide +kernel
theorem dX8_findUnlike_187 : decode cX8_findUnlike 187 = .ok (.iadd, 1) := by decide +kernel
theorem dX8_findUnlike_188 : decode cX8_findUnlike 188 = .ok (.iaload, 1) := by decide +kernel
theorem dX8_findUnlike_189 : decode cX8_findUnlike 189 = .ok (.iadd, 1) := by decide +kernel
theorem dX8_findUnlike_190 : decode cX8_findUnlike 190 = .ok (.baload, 1) := by decide +kernel
theorem dX8_findUnlike_191 : decode cX8_findUnlike 191 = .ok (.ifCond .eq 7, 3) := by decide +kernel
theorem dX8_findUnlike_194 : decode cX8_findUnlike 194 = .ok (.iconst 1, 1) := by decide +kernel
theorem dX8_findUnlike_195 : decode cX8_findUnlike 195 = .ok (.goto 4, 3) := by decide +kernel
theorem dX8_findUnlike_198 : decode cX8_findUnlike 198 = .ok (.iconst 0, 1) := by decide +kernel
theorem dX8_findUnlike_199 : decode cX8_findUnlike 199 = .ok (.bastore, 1) := by decide +kernel
theorem dX8_findUnlike_200 : decode cX8_findUnlike 200 = .ok (.iinc 6 1, 3) := by decide +kernel
theorem dX8_findUnlike_203 : decode cX8_findUnlike 203 = .ok (.goto (-86), 3) := by decide +kernel
theorem dX8_findUnlike_206 : decode cX8_findUnlike 206 = .ok (.iinc 5 1, 3) := by decide +kernel
theorem dX8_findUnlike_209 : decode cX8_findUnlike 209 = .ok (.goto (-106), 3) := by decide +kernel
theorem dX8_findUnlike_212 : decode cX8_findUnlike 212 = .ok (.iinc 4 1, 3) := by decide +kernel
theorem dX8_findUnlike_215 : decode cX8_findUnlike 215 = .ok (.goto (-126), 3) := by decide +kernel
theorem dX8_findUnlike_218 : decode cX8_findUnlike 218 = .ok (.iinc 3 1, 3) := by decide +kernel
theorem dX8_findUnlike_221 : decode cX8_findUnlike 221 = .ok (.goto (-141), 3) := by decide +kernel
theorem dX8_findUnlike_224 : decode cX8_findUnlike 224 = .ok (.return_, 1) := by decide +kernel
set_option maxRecDepth 20000 in
theorem ggX8_areLike_X8_findUnlike : GoodIn wsX8_areLike wsX8_findUnlike := goodIn_r _ [6, 7, 1, 8, 9, 10, 11, 12, 13, 14, 15, 16, 17, 18, 19, 20, 21, 22, 23, 24, 25, 26, 27, 28, 29, 30] (by decide +kernel) (by decide +kernel)
set_option maxRecDepth 20000 in
theorem gX8_areLike_X8_findUnlike : GoodIn wsX8_areLike (wsV RX8 152 RX8 yX8_findUnlike wsX8_findUnlike) := goodIn_app (goodIn_of _ (by decide +kernel)) ggX8_areLike_X8_findUnlike
theorem dX8_areLike_0 : decode cX8_areLike 0 = .ok (.aload_n 0, 1) := by decide +kernel
theorem dX8_areLike_1 : decode cX8_areLike 1 = .ok (.iload_n 1, 1) := by decide +kernel
theorem dX8_areLike_2 : decode cX8_areLike 2 = .ok (.iload_n 2, 1) := by decide +kernel
theorem dX8_areLike_3 : decode cX8_areLike 3 = .ok (.invokevirtual 152, 3) := by decide +kernel
theorem dX8_areLike_6 : decode cX8_areLike 6 = .ok (.aload_n 0, 1) := by decide +kernel
theorem dX8_areLike_7 : decode cX8_areLike 7 = .ok (.getfield 44, 3) := by decide +kernel
theorem dX8_areLike_10 : decode cX8_areLike 10 = .ok (.iconst 0, 1) := by decide +kernel
theorem dX8_areLike_11 : decode cX8_areLike 11 = .ok (.baload, 1) := by decide +kernel
theorem dX8_areLike_12 : decode cX8_areLike 12 = .ok (.ifCond .ne 7, 3) := by decide +kernel
theorem dX8_areLike_15 : decode cX8_areLike 15 = .ok (.iconst 1, 1) := by decide +kernel
theorem dX8_areLike_16 : decode cX8_areLike 16 = .ok (.goto 4, 3) := by decide +kernel
theorem dX8_areLike_19 : decode cX8_areLike 19 = .ok (.iconst 0, 1) := by decide +kernel
theorem dX8_areLike_20 : decode cX8_areLike 20 = .ok (.ireturn, 1) := by decide +kernel
set_option maxRecDepth 20000 in
theorem ggX8_like_X8_areBoth : GoodIn wsX8_like wsX8_areBoth := goodIn_r _ [5, 6, 7, 8, 4, 9, 10, 11, 12, 13, 26, 27, 28, 29, 30, 31, 32, 33, 34, 35, 36, 37, 38, 39, 40, 41, 42, 43, 44, 45, 46] (by decide +kernel) (by decide +kernel)
set_option maxRecDepth 20000 in
theorem gX8_like_X8_areBoth : GoodIn wsX8_like (wsV RX8 107 RX8 yX8_areBoth wsX8_areBoth) := goodIn_app (goodIn_of _ (by decide +kernel)) ggX8_like_X8_areBoth
set_option maxRecDepth 20000 in
theorem ggX8_like_X8_areLike : GoodIn wsX8_like wsX8_areLike := goodIn_r _ [17, 18, 19, 20, 21, 4, 22, 23, 24, 25, 26, 27, 28, 29, 30, 31, 32, 33, 34, 35, 36, 37, 38, 39, 40, 41, 42, 43, 44, 45, 46] (by decide +kernel) (by decide +kernel)
set_option maxRecDepth 20000 in
theorem gX8_like_X8_areLike : GoodIn wsX8_like (wsV RX8 156 RX8 yX8_areLike wsX8_areLike) := goodIn_app (goodIn_of _ (by decide +kernel)) ggX8_like_X8_areLike
theorem dX8_like_0 : decode cX8_like 0 = .ok (.aload_n 0, 1) := by decide +kernel
theorem dX8_like_1 : decode cX8_like 1 = .ok (.iload_n 1, 1) := by decide +kernel
theorem dX8_like_2 : decode cX8_like 2 = .ok (.iload_n 2, 1) := by decide +kernel
theorem dX8_like_3 : decode cX8_like 3 = .ok (.invokevirtual 107, 3) := by decide +kernel
theorem dX8_like_6 : decode cX8_like 6 = .ok (.ifCond .ne 7, 3) := by decide +kernel
theorem dX8_like_9 : decode cX8_like 9 = .ok (.iconst (-1), 1) := by decide +kernel
theorem dX8_like_10 : decode cX8_like 10 = .ok (.goto 17, 3) := by decide +kernel
theorem dX8_like_13 : decode cX8_like 13 = .ok (.aload_n 0, 1) := by decide +kernel
theorem dX8_like_14 : decode cX8_like 14 = .ok (.iload_n 1, 1) := by decide +kernel
theorem dX8_like_15 : decode cX8_like 15 = .ok (.iload_n 2, 1) := by decide +kernel
theorem dX8_like_16 : decode cX8_like 16 = .ok (.invokevirtual 156, 3) := by decide +kernel
theorem dX8_like_19 : decode cX8_like 19 = .ok (.ifCond .eq 7, 3) := by decide +kernel
theorem dX8_like_22 : decode cX8_like 22 = .ok (.iconst 1, 1) := by decide +kernel
theorem dX8_like_23 : decode cX8_like 23 = .ok (.goto 4, 3) := by decide +kernel
theorem dX8_like_26 : decode cX8_like 26 = .ok (.iconst 0, 1) := by decide +kernel
theorem dX8_like_27 : decode cX8_like 27 = .ok (.ireturn, 1) := by decide +kernel
set_option maxRecDepth 20000 in
theorem ggX8_smallest_X8_isMachine : GoodIn wsX8_smallest wsX8_isMachine := goodIn_r _ [8, 9, 10, 11, 7, 12, 18, 19, 20, 21, 22, 23, 24, 25, 26, 27, 28, 29, 30, 31, 32, 33, 34, 35, 36, 37, 38] (by decide +kernel) (by decide +kernel)
set_option maxRecDepth 20000 in
theorem gX8_smallest_X8_isMachine : GoodIn wsX8_smallest (wsV RX8 66 RX8 yX8_isMachine wsX8_isMachine) := goodIn_app (goodIn_of _ (by decide +kernel)) ggX8_smallest_X8_isMachine
set_option maxRecDepth 20000 in
theorem ggX8_smallest_X8_findUnlike : GoodIn wsX8_smallest wsX8_findUnlike := goodIn_r _ [16, 1, 3, 17, 2, 18, 19, 20, 21, 22, 23, 24, 25, 26, 27, 28, 29, 30, 31, 32, 33, 34, 35, 36, 37, 38] (by decide +kernel) (by decide +kernel)
set_option maxRecDepth 20000 in
theorem gX8_smallest_X8_findUnlike : GoodIn wsX8_smallest (wsV RX8 152 RX8 yX8_findUnlike wsX8_findUnlike) := goodIn_app (goodIn_of _ (by decide +kernel)) ggX8_smallest_X8_findUnlike
theorem dX8_smallest_0 : decode cX8_smallest 0 = .ok (.aload_n 0, 1) := by decide +kernel
theorem dX8_smallest_1 : decode cX8_smallest 1 = .ok (.iload_n 1, 1) := by decide +kernel
theorem dX8_smallest_2 : decode cX8_smallest 2 = .ok (.invokevirtual 66, 3) := by decide +kernel
theorem dX8_smallest_5 : decode cX8_smallest 5 = .ok (.ifCond .ne 5, 3) := by decide +kernel
theorem dX8_smallest_8 : decode cX8_smallest 8 = .ok (.iconst (-1), 1) := by decide +kernel
theorem dX8_smallest_9 : decode cX8_smallest 9 = .ok (.ireturn, 1) := by decide +kernel
theorem dX8_smallest_10 : decode cX8_smallest 10 = .ok (.aload_n 0, 1) := by decide +kernel
theorem dX8_smallest_11 : decode cX8_smallest 11 = .ok (.iload_n 1, 1) := by decide +kernel
theorem dX8_smallest_12 : decode cX8_smallest 12 = .ok (.iload_n 1, 1) := by decide +kernel
theorem dX8_smallest_13 : decode cX8_smallest 13 = .ok (.invokevirtual 152, 3) := by decide +kernel
theorem dX8_smallest_16 : decode cX8_smallest 16 = .ok (.iconst 1, 1) := by decide +kernel
theorem dX8_smallest_17 : decode cX8_smallest 17 = .ok (.istore_n 2, 1) := by decide +kernel
theorem dX8_smallest_18 : decode cX8_smallest 18 = .ok (.iconst 0, 1) := by decide +kernel
theorem dX8_smallest_19 : decode cX8_smallest 19 = .ok (.istore_n 3, 1) := by decide +kernel
theorem dX8_smallest_20 : decode cX8_smallest 20 = .ok (.iload_n 3, 1) := by decide +kernel
theorem dX8_smallest_21 : decode cX8_smallest 21 = .ok (.iconst 4, 1) := by decide +kernel
theorem dX8_smallest_22 : decode cX8_smallest 22 = .ok (.if_icmp .ge 80, 3) := by decide +kernel
theorem dX8_smallest_25 : decode cX8_smallest 25 = .ok (.iconst 0, 1) := by decide +kernel
theorem dX8_smallest_26 : decode cX8_smallest 26 = .ok (.istore 4, 2) := by decide +kernel
theorem dX8_smallest_28 : decode cX8_smallest 28 = .ok (.iload 4, 2) := by decide +kernel
theorem dX8_smallest_30 : decode cX8_smallest 30 = .ok (.aload_n 0, 1) := by decide +kernel
theorem dX8_smallest_31 : decode cX8_smallest 31 = .ok (.getfield 20, 3) := by decide +kernel
theorem dX8_smallest_34 : decode cX8_smallest 34 = .ok (.iload_n 1, 1) := by decide +kernel
theorem dX8_smallest_35 : decode cX8_smallest 35 = .ok (.iaload, 1) := by decide +kernel
theorem dX8_smallest_36 : decode cX8_smallest 36 = .ok (.if_icmp .ge 60, 3) := by decide +kernel
theorem dX8_smallest_39 : decode cX8_smallest 39 = .ok (.iconst 0, 1) := by decide +kernel
theorem dX8_smallest_40 : decode cX8_smallest 40 = .ok (.istore 5, 2) := by decide +kernel
theorem dX8_smallest_42 : decode cX8_smallest 42 = .ok (.iload 5, 2) := by decide +kernel
theorem dX8_smallest_44 : decode cX8_smallest 44 = .ok (.iconst 3, 1) := by decide +kernel
theorem dX8_smallest_45 : decode cX8_smallest 45 = .ok (.if_icmp .ge 45, 3) := by decide +kernel
theorem dX8_smallest_48 : decode cX8_smallest 48 = .ok (.iload_n 2, 1) := by decide +kernel
theorem dX8_smallest_49 : decode cX8_smallest 49 = .ok (.iload_n 2, 1) := by decide +kernel
theorem dX8_smallest_50 : decode cX8_smallest 50 = .ok (.iload 4, 2) := by decide +kernel
theorem dX8_smallest_52 : decode cX8_smallest 52 = .ok (.ishr, 1) := by decide +kernel
theorem dX8_smallest_53 : decode cX8_smallest 53 = .ok (.iconst 1, 1) := by decide +kernel
theorem dX8_smallest_54 : decode cX8_smallest 54 = .ok (.iand, 1) := by decide +kernel
theorem dX8_smallest_55 : decode cX8_smallest 55 = .ok (.iconst 1, 1) := by decide +kernel
theorem dX8_smallest_56 : decode cX8_smallest 56 = .ok (.if_icmp .ne 25, 3) := by decide +kernel
theorem dX8_smallest_59 : decode cX8_smallest 59 = .ok (.iconst 1, 1) := by decide +kernel
theorem dX8_smallest_60 : decode cX8_smallest 60 = .ok (.aload_n 0, 1) := by decide +kernel
theorem dX8_smallest_61 : decode cX8_smallest 61 = .ok (.getfield 26, 3) := by decide +kernel
theorem dX8_smallest_64 : decode cX8_smallest 64 = .ok (.bipush 12, 2) := by decide +kernel
theorem dX8_smallest_66 : decode cX8_smallest 66 = .ok (.iload_n 1, 1) := by decide +kernel
theorem dX8_smallest_67 : decode cX8_smallest 67 = .ok (.imul, 1) := by decide +kernel
theorem dX8_smallest_68 : decode cX8_smallest 68 = .ok (.iconst 3, 1) := by decide +kernel
theorem dX8_smallest_69 : decode cX8_smallest 69 = .ok (.iload 4, 2) := by decide +kernel
theorem dX8_smallest_71 : decode cX8_smallest 71 = .ok (.imul, 1) := by decide +kernel
theorem dX8_smallest_72 : decode cX8_smallest 72 = .ok (.iadd, 1) := by decide +kernel
theorem dX8_smallest_73 : decode cX8_smallest 73 = .ok (.iload 5, 2) := by decide +kernel
theorem dX8_smallest_75 : decode cX8_smallest 75 = .ok (.iadd, 1) := by decide +kernel
theorem dX8_smallest_76 : decode cX8_smallest 76 = .ok (.iaload, 1) := by decide +kernel
theorem dX8_smallest_77 : decode cX8_smallest 77 = .ok (.ishl, 1) := by decide +kernel
theorem dX8_smallest_78 : decode cX8_smallest 78 = .ok (.goto 4, 3) := by decide +kernel
theorem dX8_smallest_81 : decode cX8_smallest 81 = .ok (.iconst 0, 1) := by decide +kernel
theorem dX8_smallest_82 : decode cX8_smallest 82 = .ok (.ior, 1) := by decide +kernel
theorem dX8_smallest_83 : decode cX8_smallest 83 = .ok (.istore_n 2, 1) := by decide +kernel
theorem dX8_smallest_84 : decode cX8_smallest 84 = .ok (.iinc 5 1, 3) := by decide +kernel
theorem dX8_smallest_87 : decode cX8_smallest 87 = .ok (.goto (-45), 3) := by decide +kernel
theorem dX8_smallest_90 : decode cX8_smallest 90 = .ok (.iinc 4 1, 3) := by decide +kernel
theorem dX8_smallest_93 : decode cX8_smallest 93 = .ok (.goto (-65), 3) := by decide +kernel
theorem dX8_smallest_96 : decode cX8_smallest 96 = .ok (.iinc 3 1, 3) := by decide +kernel
theorem dX8_smallest_99 : decode cX8_smallest 99 = .ok (.goto (-79), 3) := by decide +kernel
theorem dX8_smallest_102 : decode cX8_smallest 102 = .ok (.iconst 0, 1) := by decide +kernel
theorem dX8_smallest_103 : decode cX8_smallest 103 = .ok (.istore_n 3, 1) := by decide +kernel
theorem dX8_smallest_104 : decode cX8_smallest 104 = .ok (.iconst 0, 1) := by decide +kernel
theorem dX8_smallest_105 : decode cX8_smallest 105 = .ok (.istore 4, 2) := by decide +kernel
theorem dX8_smallest_107 : decode cX8_smallest 107 = .ok (.iload 4, 2) := by decide +kernel
theorem dX8_smallest_109 : decode cX8_smallest 109 = .ok (.aload_n 0, 1) := by decide +kernel
theorem dX8_smallest_110 : decode cX8_smallest 110 = .ok (.getfield 20, 3) := by decide +kernel
theorem dX8_smallest_113 : decode cX8_smallest 113 = .ok (.iload_n 1, 1) := by decide +kernel
theorem dX8_smallest_114 : decode cX8_smallest 114 = .ok (.iaload, 1) := by decide +kernel
theorem dX8_smallest_115 : decode cX8_smallest 115 = .ok (.if_icmp .ge 91, 3) := by decide +kernel
theorem dX8_smallest_118 : decode cX8_smallest 118 = .ok (.iload_n 2, 1) := by decide +kernel
theorem dX8_smallest_119 : decode cX8_smallest 119 = .ok (.iload 4, 2) := by decide +kernel
theorem dX8_smallest_121 : decode cX8_smallest 121 = .ok (.ishr, 1) := by decide +kernel
theorem dX8_smallest_122 : decode cX8_smallest 122 = .ok (.iconst 1, 1) := by decide +kernel
theorem dX8_smallest_123 : decode cX8_smallest 123 = .ok (.iand, 1) := by decide +kernel
theorem dX8_smallest_124 : decode cX8_smallest 124 = .ok (.iconst 1, 1) := by decide +kernel
theorem dX8_smallest_125 : decode cX8_smallest 125 = .ok (.if_icmp .ne 7, 3) := by decide +kernel
theorem dX8_smallest_128 : decode cX8_smallest 128 = .ok (.iconst 1, 1) := by decide +kernel
theorem dX8_smallest_129 : decode cX8_smallest 129 = .ok (.goto 4, 3) := by decide +kernel
theorem dX8_smallest_132 : decode cX8_smallest 132 = .ok (.iconst 0, 1) := by decide +kernel
theorem dX8_smallest_133 : decode cX8_smallest 133 = .ok (.istore 5, 2) := by decide +kernel
theorem dX8_smallest_135 : decode cX8_smallest 135 = .ok (.iconst 0, 1) := by decide +kernel
theorem dX8_smallest_136 : decode cX8_smallest 136 = .ok (.istore 6, 2) := by decide +kernel
theorem dX8_smallest_138 : decode cX8_smallest 138 = .ok (.iload 6, 2) := by decide +kernel
theorem dX8_smallest_140 : decode cX8_smallest 140 = .ok (.iload 4, 2) := by decide +kernel
theorem dX8_smallest_142 : decode cX8_smallest 142 = .ok (.if_icmp .ge 45, 3) := by decide +kernel
theorem dX8_smallest_145 : decode cX8_smallest 145 = .ok (.iload 5, 2) := by decide +kernel
theorem dX8_smallest_147 : decode cX8_smallest 147 = .ok (.ifCond .eq 31, 3) := by decide +kernel
theorem dX8_smallest_150 : decode cX8_smallest 150 = .ok (.iload_n 2, 1) := by decide +kernel
theorem dX8_smallest_151 : decode cX8_smallest 151 = .ok (.iload 6, 2) := by decide +kernel
theorem dX8_smallest_153 : decode cX8_smallest 153 = .ok (.ishr, 1) := by decide +kernel
theorem dX8_smallest_154 : decode cX8_smallest 154 = .ok (.iconst 1, 1) := by decide +kernel
theorem dX8_smallest_155 : decode cX8_smallest 155 = .ok (.iand, 1) := by decide +kernel
theorem dX8_smallest_156 : decode cX8_smallest 156 = .ok (.ifCond .eq 18, 3) := by decide +kernel
theorem dX8_smallest_159 : decode cX8_smallest 159 = .ok (.aload_n 0, 1) := by decide +kernel
theorem dX8_smallest_160 : decode cX8_smallest 160 = .ok (.getfield 44, 3) := by decide +kernel
theorem dX8_smallest_163 : decode cX8_smallest 163 = .ok (.iconst 4, 1) := by decide +kernel
theorem dX8_smallest_164 : decode cX8_smallest 164 = .ok (.iload 4, 2) := by decide +kernel
theorem dX8_smallest_166 : decode cX8_smallest 166 = .ok (.imul, 1) := by decide +kernel
theorem dX8_smallest_167 : decode cX8_smallest 167 = .ok (.iload 6, 2) := by decide +kernel
theorem dX8_smallest_169 : decode cX8_smallest 169 = .ok (.iadd, 1) := by decide +kernel
theorem dX8_smallest_170 : decode cX8_smallest 170 = .ok (.baload, 1) := by decide +kernel
theorem dX8_smallest_171 : decode cX8_smallest 171 = .ok (.ifCond .eq 7, 3) := by decide +kernel
theorem dX8_smallest_174 : decode cX8_smallest 174 = .ok (.iconst 1, 1) := by decide +kernel
theorem dX8_smallest_175 : decode cX8_smallest 175 = .ok (.goto 4, 3) := by decide +kernel
theorem dX8_smallest_178 : decode cX8_smallest 178 = .ok (.iconst 0, 1) := by decide +kernel
theorem dX8_smallest_179 : decode cX8_smallest 179 = .ok (.istore 5, 2) := by decide +kernel
theorem dX8_smallest_181 : decode cX8_smallest 181 = .ok (.iinc 6 1, 3) := by decide +kernel
theorem dX8_smallest_184 : decode cX8_smallest 184 = .ok (.goto (-46), 3) := by decide +kernel
theorem dX8_smallest_187 : decode cX8_smallest 187 = .ok (.iload_n 3, 1) := by decide +kernel
theorem dX8_smallest_188 : decode cX8_smallest 188 = .ok (.iload 5, 2) := by decide +kernel
theorem dX8_smallest_190 : decode cX8_smallest 190 = .ok (.ifCond .eq 7, 3) := by decide +kernel
theorem dX8_smallest_193 : decode cX8_smallest 193 = .ok (.iconst 1, 1) := by decide +kernel
theorem dX8_smallest_194 : decode cX8_smallest 194 = .ok (.goto 4, 3) := by decide +kernel
theorem dX8_smallest_197 : decode cX8_smallest 197 = .ok (.iconst 0, 1) := by decide +kernel
theorem dX8_smallest_198 : decode cX8_smallest 198 = .ok (.iadd, 1) := by decide +kernel
theorem dX8_smallest_199 : decode cX8_smallest 199 = .ok (.istore_n 3, 1) := by decide +kernel
theorem dX8_smallest_200 : decode cX8_smallest 200 = .ok (.iinc 4 1, 3) := by decide +kernel
theorem dX8_smallest_203 : decode cX8_smallest 203 = .ok (.goto (-96), 3) := by decide +kernel
theorem dX8_smallest_206 : decode cX8_smallest 206 = .ok (.iload_n 3, 1) := by decide +kernel
theorem dX8_smallest_207 : decode cX8_smallest 207 = .ok (.ireturn, 1) := by decide +kernel
set_option maxRecDepth 20000 in
theorem ggX8_plans_X8_power : GoodIn wsX8_plans wsX8_power := goodIn_r _ [6] (by decide +kernel) (by decide +kernel)
set_option maxRecDepth 20000 in
theorem gX8_plans_X8_power : GoodIn wsX8_plans (va_wsS RX8 130 yX8_power wsX8_power) := goodIn_app (goodIn_of _ (by decide +kernel)) ggX8_plans_X8_power
theorem dX8_plans_0 : decode cX8_plans 0 = .ok (.ldc2_w 74, 3) := by decide +kernel
theorem dX8_plans_3 : decode cX8_plans 3 = .ok (.aload_n 0, 1) := by decide +kernel
theorem dX8_plans_4 : decode cX8_plans 4 = .ok (.getfield 20, 3) := by decide +kernel
theorem dX8_plans_7 : decode cX8_plans 7 = .ok (.iload_n 1, 1) := by decide +kernel
theorem dX8_plans_8 : decode cX8_plans 8 = .ok (.iaload, 1) := by decide +kernel
theorem dX8_plans_9 : decode cX8_plans 9 = .ok (.invokestatic 130, 3) := by decide +kernel
theorem dX8_plans_12 : decode cX8_plans 12 = .ok (.l2i, 1) := by decide +kernel
theorem dX8_plans_13 : decode cX8_plans 13 = .ok (.ireturn, 1) := by decide +kernel
set_option maxRecDepth 20000 in
theorem ggX8_findPlanWorth_X8_power : GoodIn wsX8_findPlanWorth wsX8_power := goodIn_r _ [12] (by decide +kernel) (by decide +kernel)
set_option maxRecDepth 20000 in
theorem gX8_findPlanWorth_X8_power : GoodIn wsX8_findPlanWorth (va_wsS RX8 130 yX8_power wsX8_power) := goodIn_app (goodIn_of _ (by decide +kernel)) ggX8_findPlanWorth_X8_power
set_option maxRecDepth 20000 in
theorem ggX8_findPlanWorth_X8_worthOfRow : GoodIn wsX8_findPlanWorth wsX8_worthOfRow := goodIn_r _ [16, 7, 3, 17, 18, 8, 9, 10, 11, 12, 19, 20, 21, 22, 23, 24, 25, 26, 27, 28, 29, 30, 31, 32, 33, 34, 35, 36, 37, 38, 39, 40, 41, 42, 43, 44, 45] (by decide +kernel) (by decide +kernel)
set_option maxRecDepth 20000 in
theorem gX8_findPlanWorth_X8_worthOfRow : GoodIn wsX8_findPlanWorth (wsV RX8 144 RX8 yX8_worthOfRow wsX8_worthOfRow) := goodIn_app (goodIn_of _ (by decide +kernel)) ggX8_findPlanWorth_X8_worthOfRow
theorem dX8_findPlanWorth_0 : decode cX8_findPlanWorth 0 = .ok (.iconst 0, 1) := by decide +kernel
theorem dX8_findPlanWorth_1 : decode cX8_findPlanWorth 1 = .ok (.istore 4, 2) := by decide +kernel
theorem dX8_findPlanWorth_3 : decode cX8_findPlanWorth 3 = .ok (.iload 4, 2) := by decide +kernel
theorem dX8_findPlanWorth_5 : decode cX8_findPlanWorth 5 = .ok (.bipush 16, 2) := by decide +kernel
theorem dX8_findPlanWorth_7 : decode cX8_findPlanWorth 7 = .ok (.if_icmp .ge 18, 3) := by decide +kernel
theorem dX8_findPlanWorth_10 : decode cX8_findPlanWorth 10 = .ok (.aload_n 0, 1) := by decide +kernel
theorem dX8_findPlanWorth_11 : decode cX8_findPlanWorth 11 = .ok (.getfield 41, 3) := by decide +kernel
theorem dX8_findPlanWorth_14 : decode cX8_findPlanWorth 14 = .ok (.iload 4, 2) := by decide +kernel
theorem dX8_findPlanWorth_16 : decode cX8_findPlanWorth 16 = .ok (.bipush (-4), 2) := by decide +kernel
theorem dX8_findPlanWorth_18 : decode cX8_findPlanWorth 18 = .ok (.iastore, 1) := by decide +kernel
theorem dX8_findPlanWorth_19 : decode cX8_findPlanWorth 19 = .ok (.iinc 4 1, 3) := by decide +kernel
theorem dX8_findPlanWorth_22 : decode cX8_findPlanWorth 22 = .ok (.goto (-19), 3) := by decide +kernel
theorem dX8_findPlanWorth_25 : decode cX8_findPlanWorth 25 = .ok (.iload_n 2, 1) := by decide +kernel
theorem dX8_findPlanWorth_26 : decode cX8_findPlanWorth 26 = .ok (.istore 4, 2) := by decide +kernel
theorem dX8_findPlanWorth_28 : decode cX8_findPlanWorth 28 = .ok (.iconst 0, 1) := by decide +kernel
theorem dX8_findPlanWorth_29 : decode cX8_findPlanWorth 29 = .ok (.istore 5, 2) := by decide +kernel
theorem dX8_findPlanWorth_31 : decode cX8_findPlanWorth 31 = .ok (.aload_n 0, 1) := by decide +kernel
theorem dX8_findPlanWorth_32 : decode cX8_findPlanWorth 32 = .ok (.getfield 41, 3) := by decide +kernel
theorem dX8_findPlanWorth_35 : decode cX8_findPlanWorth 35 = .ok (.iload 4, 2) := by decide +kernel
theorem dX8_findPlanWorth_37 : decode cX8_findPlanWorth 37 = .ok (.iaload, 1) := by decide +kernel
theorem dX8_findPlanWorth_38 : decode cX8_findPlanWorth 38 = .ok (.bipush (-4), 2) := by decide +kernel
theorem dX8_findPlanWorth_40 : decode cX8_findPlanWorth 40 = .ok (.if_icmp .ne 80, 3) := by decide +kernel
theorem dX8_findPlanWorth_43 : decode cX8_findPlanWorth 43 = .ok (.aload_n 0, 1) := by decide +kernel
theorem dX8_findPlanWorth_44 : decode cX8_findPlanWorth 44 = .ok (.getfield 41, 3) := by decide +kernel
theorem dX8_findPlanWorth_47 : decode cX8_findPlanWorth 47 = .ok (.iload 4, 2) := by decide +kernel
theorem dX8_findPlanWorth_49 : decode cX8_findPlanWorth 49 = .ok (.iload 5, 2) := by decide +kernel
theorem dX8_findPlanWorth_51 : decode cX8_findPlanWorth 51 = .ok (.iastore, 1) := by decide +kernel
theorem dX8_findPlanWorth_52 : decode cX8_findPlanWorth 52 = .ok (.iload_n 3, 1) := by decide +kernel
theorem dX8_findPlanWorth_53 : decode cX8_findPlanWorth 53 = .ok (.ldc2_w 74, 3) := by decide +kernel
theorem dX8_findPlanWorth_56 : decode cX8_findPlanWorth 56 = .ok (.iload 4, 2) := by decide +kernel
theorem dX8_findPlanWorth_58 : decode cX8_findPlanWorth 58 = .ok (.invokestatic 130, 3) := by decide +kernel
theorem dX8_findPlanWorth_61 : decode cX8_findPlanWorth 61 = .ok (.l2i, 1) := by decide +kernel
theorem dX8_findPlanWorth_62 : decode cX8_findPlanWorth 62 = .ok (.idiv, 1) := by decide +kernel
theorem dX8_findPlanWorth_63 : decode cX8_findPlanWorth 63 = .ok (.iconst 3, 1) := by decide +kernel
theorem dX8_findPlanWorth_64 : decode cX8_findPlanWorth 64 = .ok (.irem, 1) := by decide +kernel
theorem dX8_findPlanWorth_65 : decode cX8_findPlanWorth 65 = .ok (.istore 6, 2) := by decide +kernel
theorem dX8_findPlanWorth_67 : decode cX8_findPlanWorth 67 = .ok (.aload_n 0, 1) := by decide +kernel
theorem dX8_findPlanWorth_68 : decode cX8_findPlanWorth 68 = .ok (.getfield 38, 3) := by decide +kernel
theorem dX8_findPlanWorth_71 : decode cX8_findPlanWorth 71 = .ok (.iload 5, 2) := by decide +kernel
theorem dX8_findPlanWorth_73 : decode cX8_findPlanWorth 73 = .ok (.aload_n 0, 1) := by decide +kernel
theorem dX8_findPlanWorth_74 : decode cX8_findPlanWorth 74 = .ok (.getfield 7, 3) := by decide +kernel
theorem dX8_findPlanWorth_77 : decode cX8_findPlanWorth 77 = .ok (.iconst 3, 1) := by decide +kernel
theorem dX8_findPlanWorth_78 : decode cX8_findPlanWorth 78 = .ok (.iload 6, 2) := by decide +kernel
theorem dX8_findPlanWorth_80 : decode cX8_findPlanWorth 80 = .ok (.imul, 1) := by decide +kernel
theorem dX8_findPlanWorth_81 : decode cX8_findPlanWorth 81 = .ok (.aload_n 0, 1) := by decide +kernel
theorem dX8_findPlanWorth_82 : decode cX8_findPlanWorth 82 = .ok (.getfield 23, 3) := by decide +kernel
theorem dX8_findPlanWorth_85 : decode cX8_findPlanWorth 85 = .ok (.iconst 4, 1) := by decide +kernel
theorem dX8_findPlanWorth_86 : decode cX8_findPlanWorth 86 = .ok (.iload_n 1, 1) := by decide +kernel
theorem dX8_findPlanWorth_87 : decode cX8_findPlanWorth 87 = .ok (.imul, 1) := by decide +kernel
theorem dX8_findPlanWorth_88 : decode cX8_findPlanWorth 88 = .ok (.iload 4, 2) := by decide +kernel
theorem dX8_findPlanWorth_90 : decode cX8_findPlanWorth 90 = .ok (.iadd, 1) := by decide +kernel
theorem dX8_findPlanWorth_91 : decode cX8_findPlanWorth 91 = .ok (.iaload, 1) := by decide +kernel
theorem dX8_findPlanWorth_92 : decode cX8_findPlanWorth 92 = .ok (.iadd, 1) := by decide +kernel
theorem dX8_findPlanWorth_93 : decode cX8_findPlanWorth 93 = .ok (.iaload, 1) := by decide +kernel
theorem dX8_findPlanWorth_94 : decode cX8_findPlanWorth 94 = .ok (.iastore, 1) := by decide +kernel
theorem dX8_findPlanWorth_95 : decode cX8_findPlanWorth 95 = .ok (.iinc 5 1, 3) := by decide +kernel
theorem dX8_findPlanWorth_98 : decode cX8_findPlanWorth 98 = .ok (.aload_n 0, 1) := by decide +kernel
theorem dX8_findPlanWorth_99 : decode cX8_findPlanWorth 99 = .ok (.getfield 26, 3) := by decide +kernel
theorem dX8_findPlanWorth_102 : decode cX8_findPlanWorth 102 = .ok (.bipush 12, 2) := by decide +kernel
theorem dX8_findPlanWorth_104 : decode cX8_findPlanWorth 104 = .ok (.iload_n 1, 1) := by decide +kernel
theorem dX8_findPlanWorth_105 : decode cX8_findPlanWorth 105 = .ok (.imul, 1) := by decide +kernel
theorem dX8_findPlanWorth_106 : decode cX8_findPlanWorth 106 = .ok (.iconst 3, 1) := by decide +kernel
theorem dX8_findPlanWorth_107 : decode cX8_findPlanWorth 107 = .ok (.iload 4, 2) := by decide +kernel
theorem dX8_findPlanWorth_109 : decode cX8_findPlanWorth 109 = .ok (.imul, 1) := by decide +kernel
theorem dX8_findPlanWorth_110 : decode cX8_findPlanWorth 110 = .ok (.iadd, 1) := by decide +kernel
theorem dX8_findPlanWorth_111 : decode cX8_findPlanWorth 111 = .ok (.iload 6, 2) := by decide +kernel
theorem dX8_findPlanWorth_113 : decode cX8_findPlanWorth 113 = .ok (.iadd, 1) := by decide +kernel
theorem dX8_findPlanWorth_114 : decode cX8_findPlanWorth 114 = .ok (.iaload, 1) := by decide +kernel
theorem dX8_findPlanWorth_115 : decode cX8_findPlanWorth 115 = .ok (.istore 4, 2) := by decide +kernel
theorem dX8_findPlanWorth_117 : decode cX8_findPlanWorth 117 = .ok (.goto (-86), 3) := by decide +kernel
theorem dX8_findPlanWorth_120 : decode cX8_findPlanWorth 120 = .ok (.aload_n 0, 1) := by decide +kernel
theorem dX8_findPlanWorth_121 : decode cX8_findPlanWorth 121 = .ok (.aload_n 0, 1) := by decide +kernel
theorem dX8_findPlanWorth_122 : decode cX8_findPlanWorth 122 = .ok (.getfield 41, 3) := by decide +kernel
theorem dX8_findPlanWorth_125 : decode cX8_findPlanWorth 125 = .ok (.iload 4, 2) := by decide +kernel
theorem dX8_findPlanWorth_127 : decode cX8_findPlanWorth 127 = .ok (.iaload, 1) := by decide +kernel
theorem dX8_findPlanWorth_128 : decode cX8_findPlanWorth 128 = .ok (.putfield 101, 3) := by decide +kernel
theorem dX8_findPlanWorth_131 : decode cX8_findPlanWorth 131 = .ok (.aload_n 0, 1) := by decide +kernel
theorem dX8_findPlanWorth_132 : decode cX8_findPlanWorth 132 = .ok (.iload 5, 2) := by decide +kernel
theorem dX8_findPlanWorth_134 : decode cX8_findPlanWorth 134 = .ok (.aload_n 0, 1) := by decide +kernel
theorem dX8_findPlanWorth_135 : decode cX8_findPlanWorth 135 = .ok (.getfield 101, 3) := by decide +kernel
theorem dX8_findPlanWorth_138 : decode cX8_findPlanWorth 138 = .ok (.isub, 1) := by decide +kernel
theorem dX8_findPlanWorth_139 : decode cX8_findPlanWorth 139 = .ok (.putfield 104, 3) := by decide +kernel
theorem dX8_findPlanWorth_142 : decode cX8_findPlanWorth 142 = .ok (.aload_n 0, 1) := by decide +kernel
theorem dX8_findPlanWorth_143 : decode cX8_findPlanWorth 143 = .ok (.invokevirtual 144, 3) := by decide +kernel
theorem dX8_findPlanWorth_146 : decode cX8_findPlanWorth 146 = .ok (.return_, 1) := by decide +kernel
set_option maxRecDepth 20000 in
theorem ggX8_findBest_X8_plans : GoodIn wsX8_findBest wsX8_plans := goodIn_r _ [10, 11, 12, 13, 14, 9, 15, 37, 38, 39, 40, 41, 42, 43, 44, 45, 46, 47, 48, 49, 50, 51, 52, 53, 54, 55, 56, 57] (by decide +kernel) (by decide +kernel)
set_option maxRecDepth 20000 in
theorem gX8_findBest_X8_plans : GoodIn wsX8_findBest (wsV RX8 162 RX8 yX8_plans wsX8_plans) := goodIn_app (goodIn_of _ (by decide +kernel)) ggX8_findBest_X8_plans
set_option maxRecDepth 20000 in
theorem ggX8_findBest_X8_findPlanWorth : GoodIn wsX8_findBest wsX8_findPlanWorth := goodIn_r _ [19, 20, 11, 21, 22, 23, 24, 25, 26, 13, 14, 9, 15, 27, 28, 29, 30, 31, 32, 33, 34, 35, 36, 2, 5, 37, 38, 39, 40, 41, 42, 43, 44, 45, 46, 47, 48, 49, 50, 51, 52, 53, 54, 55, 56, 57] (by decide +kernel) (by decide +kernel)
set_option maxRecDepth 20000 in
theorem gX8_findBest_X8_findPlanWorth : GoodIn wsX8_findBest (wsV RX8 165 RX8 yX8_findPlanWorth wsX8_findPlanWorth) := goodIn_app (goodIn_of _ (by decide +kernel)) ggX8_findBest_X8_findPlanWorth
theorem dX8_findBest_0 : decode cX8_findBest 0 = .ok (.aload_n 0, 1) := by decide +kernel
theorem dX8_findBest_1 : decode cX8_findBest 1 = .ok (.bipush (-4), 2) := by decide +kernel
theorem dX8_findBest_3 : decode cX8_findBest 3 = .ok (.putfield 159, 3) := by decide +kernel
theorem dX8_findBest_6 : decode cX8_findBest 6 = .ok (.iconst 0, 1) := by decide +kernel
theorem dX8_findBest_7 : decode cX8_findBest 7 = .ok (.istore_n 3, 1) := by decide +kernel
theorem dX8_findBest_8 : decode cX8_findBest 8 = .ok (.iload_n 3, 1) := by decide +kernel
theorem dX8_findBest_9 : decode cX8_findBest 9 = .ok (.aload_n 0, 1) := by decide +kernel
theorem dX8_findBest_10 : decode cX8_findBest 10 = .ok (.iload_n 1, 1) := by decide +kernel
theorem dX8_findBest_11 : decode cX8_findBest 11 = .ok (.invokevirtual 162, 3) := by decide +kernel
theorem dX8_findBest_14 : decode cX8_findBest 14 = .ok (.if_icmp .ge 68, 3) := by decide +kernel
theorem dX8_findBest_17 : decode cX8_findBest 17 = .ok (.aload_n 0, 1) := by decide +kernel
theorem dX8_findBest_18 : decode cX8_findBest 18 = .ok (.iload_n 1, 1) := by decide +kernel
theorem dX8_findBest_19 : decode cX8_findBest 19 = .ok (.iload_n 2, 1) := by decide +kernel
theorem dX8_findBest_20 : decode cX8_findBest 20 = .ok (.iload_n 3, 1) := by decide +kernel
theorem dX8_findBest_21 : decode cX8_findBest 21 = .ok (.invokevirtual 165, 3) := by decide +kernel
theorem dX8_findBest_24 : decode cX8_findBest 24 = .ok (.aload_n 0, 1) := by decide +kernel
theorem dX8_findBest_25 : decode cX8_findBest 25 = .ok (.getfield 159, 3) := by decide +kernel
theorem dX8_findBest_28 : decode cX8_findBest 28 = .ok (.bipush (-4), 2) := by decide +kernel
theorem dX8_findBest_30 : decode cX8_findBest 30 = .ok (.if_icmp .eq 25, 3) := by decide +kernel
theorem dX8_findBest_33 : decode cX8_findBest 33 = .ok (.aload_n 0, 1) := by decide +kernel
theorem dX8_findBest_34 : decode cX8_findBest 34 = .ok (.getfield 123, 3) := by decide +kernel
theorem dX8_findBest_37 : decode cX8_findBest 37 = .ok (.aload_n 0, 1) := by decide +kernel
theorem dX8_findBest_38 : decode cX8_findBest 38 = .ok (.getfield 168, 3) := by decide +kernel
theorem dX8_findBest_41 : decode cX8_findBest 41 = .ok (.lmul, 1) := by decide +kernel
theorem dX8_findBest_42 : decode cX8_findBest 42 = .ok (.aload_n 0, 1) := by decide +kernel
theorem dX8_findBest_43 : decode cX8_findBest 43 = .ok (.getfield 171, 3) := by decide +kernel
theorem dX8_findBest_46 : decode cX8_findBest 46 = .ok (.aload_n 0, 1) := by decide +kernel
theorem dX8_findBest_47 : decode cX8_findBest 47 = .ok (.getfield 127, 3) := by decide +kernel
theorem dX8_findBest_50 : decode cX8_findBest 50 = .ok (.lmul, 1) := by decide +kernel
theorem dX8_findBest_51 : decode cX8_findBest 51 = .ok (.lcmp, 1) := by decide +kernel
theorem dX8_findBest_52 : decode cX8_findBest 52 = .ok (.ifCond .le 24, 3) := by decide +kernel
theorem dX8_findBest_55 : decode cX8_findBest 55 = .ok (.aload_n 0, 1) := by decide +kernel
theorem dX8_findBest_56 : decode cX8_findBest 56 = .ok (.iload_n 3, 1) := by decide +kernel
theorem dX8_findBest_57 : decode cX8_findBest 57 = .ok (.putfield 159, 3) := by decide +kernel
theorem dX8_findBest_60 : decode cX8_findBest 60 = .ok (.aload_n 0, 1) := by decide +kernel
theorem dX8_findBest_61 : decode cX8_findBest 61 = .ok (.aload_n 0, 1) := by decide +kernel
theorem dX8_findBest_62 : decode cX8_findBest 62 = .ok (.getfield 123, 3) := by decide +kernel
theorem dX8_findBest_65 : decode cX8_findBest 65 = .ok (.putfield 171, 3) := by decide +kernel
theorem dX8_findBest_68 : decode cX8_findBest 68 = .ok (.aload_n 0, 1) := by decide +kernel
theorem dX8_findBest_69 : decode cX8_findBest 69 = .ok (.aload_n 0, 1) := by decide +kernel
theorem dX8_findBest_70 : decode cX8_findBest 70 = .ok (.getfield 127, 3) := by decide +kernel
theorem dX8_findBest_73 : decode cX8_findBest 73 = .ok (.putfield 168, 3) := by decide +kernel
theorem dX8_findBest_76 : decode cX8_findBest 76 = .ok (.iinc 3 1, 3) := by decide +kernel
theorem dX8_findBest_79 : decode cX8_findBest 79 = .ok (.goto (-71), 3) := by decide +kernel
theorem dX8_findBest_82 : decode cX8_findBest 82 = .ok (.return_, 1) := by decide +kernel
set_option maxRecDepth 20000 in
theorem ggX8_best_X8_isState : GoodIn wsX8_best wsX8_isState := goodIn_r _ [6, 7, 8, 9, 10, 5, 11, 12, 13, 14, 15, 53, 54, 55, 56, 57, 58, 59, 60, 61, 62, 63, 64, 65, 66, 67, 68, 69, 70, 71, 72, 73] (by decide +kernel) (by decide +kernel)
set_option maxRecDepth 20000 in
theorem gX8_best_X8_isState : GoodIn wsX8_best (wsV RX8 70 RX8 yX8_isState wsX8_isState) := goodIn_app (goodIn_of _ (by decide +kernel)) ggX8_best_X8_isState
set_option maxRecDepth 20000 in
theorem ggX8_best_X8_findBest : GoodIn wsX8_best wsX8_findBest := goodIn_r _ [19, 1, 20, 21, 22, 23, 24, 25, 26, 5, 27, 28, 7, 29, 30, 31, 32, 33, 34, 35, 36, 37, 38, 39, 40, 41, 42, 43, 44, 45, 46, 47, 48, 49, 50, 51, 52, 53, 54, 55, 56, 57, 58, 59, 60, 61, 62, 63, 64, 65, 66, 67, 68, 69, 70, 71, 72, 73] (by decide +kernel) (by decide +kernel)
set_option maxRecDepth 20000 in
theorem gX8_best_X8_findBest : GoodIn wsX8_best (wsV RX8 174 RX8 yX8_findBest wsX8_findBest) := goodIn_app (goodIn_of _ (by decide +kernel)) ggX8_best_X8_findBest
theorem dX8_best_0 : decode cX8_best 0 = .ok (.aload_n 0, 1) := by decide +kernel
theorem dX8_best_1 : decode cX8_best 1 = .ok (.iload_n 1, 1) := by decide +kernel
theorem dX8_best_2 : decode cX8_best 2 = .ok (.iload_n 2, 1) := by decide +kernel
theorem dX8_best_3 : decode cX8_best 3 = .ok (.invokevirtual 70, 3) := by decide +kernel
theorem dX8_best_6 : decode cX8_best 6 = .ok (.ifCond .ne 5, 3) := by decide +kernel
theorem dX8_best_9 : decode cX8_best 9 = .ok (.iconst (-1), 1) := by decide +kernel
theorem dX8_best_10 : decode cX8_best 10 = .ok (.ireturn, 1) := by decide +kernel
theorem dX8_best_11 : decode cX8_best 11 = .ok (.aload_n 0, 1) := by decide +kernel
theorem dX8_best_12 : decode cX8_best 12 = .ok (.iload_n 1, 1) := by decide +kernel
theorem dX8_best_13 : decode cX8_best 13 = .ok (.iload_n 2, 1) := by decide +kernel
theorem dX8_best_14 : decode cX8_best 14 = .ok (.invokevirtual 174, 3) := by decide +kernel
theorem dX8_best_17 : decode cX8_best 17 = .ok (.aload_n 0, 1) := by decide +kernel
theorem dX8_best_18 : decode cX8_best 18 = .ok (.getfield 159, 3) := by decide +kernel
theorem dX8_best_21 : decode cX8_best 21 = .ok (.ireturn, 1) := by decide +kernel
set_option maxRecDepth 20000 in
theorem ggX8_bestWorth_X8_isState : GoodIn wsX8_bestWorth wsX8_isState := goodIn_r _ [8, 9, 10, 11, 12, 7, 13, 14, 15, 16, 17, 54, 55, 56, 57, 58, 59, 60, 61, 62, 63, 64, 65, 66, 67, 68, 69, 70, 71, 72, 73, 74] (by decide +kernel) (by decide +kernel)
set_option maxRecDepth 20000 in
theorem gX8_bestWorth_X8_isState : GoodIn wsX8_bestWorth (wsV RX8 70 RX8 yX8_isState wsX8_isState) := goodIn_app (goodIn_of _ (by decide +kernel)) ggX8_bestWorth_X8_isState
set_option maxRecDepth 20000 in
theorem ggX8_bestWorth_X8_in : GoodIn wsX8_bestWorth wsX8_in := goodIn_r _ [17] (by decide +kernel) (by decide +kernel)
set_option maxRecDepth 20000 in
theorem gX8_bestWorth_X8_in : GoodIn wsX8_bestWorth (va_wsS RX8 53 yX8_in wsX8_in) := goodIn_app (goodIn_of _ (by decide +kernel)) ggX8_bestWorth_X8_in
set_option maxRecDepth 20000 in
theorem ggX8_bestWorth_X8_findBest : GoodIn wsX8_bestWorth wsX8_findBest := goodIn_r _ [21, 22, 23, 3, 2, 24, 25, 26, 27, 7, 28, 29, 9, 30, 31, 32, 33, 34, 35, 36, 37, 38, 39, 40, 41, 42, 43, 44, 45, 46, 47, 48, 49, 50, 51, 52, 53, 54, 55, 56, 57, 58, 59, 60, 61, 62, 63, 64, 65, 66, 67, 68, 69, 70, 71, 72, 73, 74] (by decide +kernel) (by decide +kernel)
set_option maxRecDepth 20000 in
theorem gX8_bestWorth_X8_findBest : GoodIn wsX8_bestWorth (wsV RX8 174 RX8 yX8_findBest wsX8_findBest) := goodIn_app (goodIn_of _ (by decide +kernel)) ggX8_bestWorth_X8_findBest
theorem dX8_bestWorth_0 : decode cX8_bestWorth 0 = .ok (.aload_n 0, 1) := by decide +kernel
theorem dX8_bestWorth_1 : decode cX8_bestWorth 1 = .ok (.iload_n 1, 1) := by decide +kernel
theorem dX8_bestWorth_2 : decode cX8_bestWorth 2 = .ok (.iload_n 2, 1) := by decide +kernel
theorem dX8_bestWorth_3 : decode cX8_bestWorth 3 = .ok (.invokevirtual 70, 3) := by decide +kernel
theorem dX8_bestWorth_6 : decode cX8_bestWorth 6 = .ok (.ifCond .eq 13, 3) := by decide +kernel
theorem dX8_bestWorth_9 : decode cX8_bestWorth 9 = .ok (.iload_n 3, 1) := by decide +kernel
theorem dX8_bestWorth_10 : decode cX8_bestWorth 10 = .ok (.i2l, 1) := by decide +kernel
theorem dX8_bestWorth_11 : decode cX8_bestWorth 11 = .ok (.lconst 0, 1) := by decide +kernel
theorem dX8_bestWorth_12 : decode cX8_bestWorth 12 = .ok (.lconst 1, 1) := by decide +kernel
theorem dX8_bestWorth_13 : decode cX8_bestWorth 13 = .ok (.invokestatic 53, 3) := by decide +kernel
theorem dX8_bestWorth_16 : decode cX8_bestWorth 16 = .ok (.ifCond .ne 7, 3) := by decide +kernel
theorem dX8_bestWorth_19 : decode cX8_bestWorth 19 = .ok (.ldc2_w 138, 3) := by decide +kernel
theorem dX8_bestWorth_22 : decode cX8_bestWorth 22 = .ok (.lreturn, 1) := by decide +kernel
theorem dX8_bestWorth_23 : decode cX8_bestWorth 23 = .ok (.aload_n 0, 1) := by decide +kernel
theorem dX8_bestWorth_24 : decode cX8_bestWorth 24 = .ok (.iload_n 1, 1) := by decide +kernel
theorem dX8_bestWorth_25 : decode cX8_bestWorth 25 = .ok (.iload_n 2, 1) := by decide +kernel
theorem dX8_bestWorth_26 : decode cX8_bestWorth 26 = .ok (.invokevirtual 174, 3) := by decide +kernel
theorem dX8_bestWorth_29 : decode cX8_bestWorth 29 = .ok (.iload_n 3, 1) := by decide +kernel
theorem dX8_bestWorth_30 : decode cX8_bestWorth 30 = .ok (.ifCond .ne 10, 3) := by decide +kernel
theorem dX8_bestWorth_33 : decode cX8_bestWorth 33 = .ok (.aload_n 0, 1) := by decide +kernel
theorem dX8_bestWorth_34 : decode cX8_bestWorth 34 = .ok (.getfield 171, 3) := by decide +kernel
theorem dX8_bestWorth_37 : decode cX8_bestWorth 37 = .ok (.goto 7, 3) := by decide +kernel
theorem dX8_bestWorth_40 : decode cX8_bestWorth 40 = .ok (.aload_n 0, 1) := by decide +kernel
theorem dX8_bestWorth_41 : decode cX8_bestWorth 41 = .ok (.getfield 168, 3) := by decide +kernel
theorem dX8_bestWorth_44 : decode cX8_bestWorth 44 = .ok (.lreturn, 1) := by decide +kernel
set_option maxRecDepth 20000 in
theorem ggX8_planWorth_X8_isState : GoodIn wsX8_planWorth wsX8_isState := goodIn_r _ [6, 7, 8, 9, 10, 5, 11, 12, 13, 14, 15, 51, 52, 53, 54, 55, 56, 57, 58, 59, 60, 61, 62, 63, 64, 65, 66, 67, 68, 69, 70, 71] (by decide +kernel) (by decide +kernel)
set_option maxRecDepth 20000 in
theorem gX8_planWorth_X8_isState : GoodIn wsX8_planWorth (wsV RX8 70 RX8 yX8_isState wsX8_isState) := goodIn_app (goodIn_of _ (by decide +kernel)) ggX8_planWorth_X8_isState
set_option maxRecDepth 20000 in
theorem ggX8_planWorth_X8_plans : GoodIn wsX8_planWorth wsX8_plans := goodIn_r _ [19, 20, 7, 21, 22, 5, 23, 51, 52, 53, 54, 55, 56, 57, 58, 59, 60, 61, 62, 63, 64, 65, 66, 67, 68, 69, 70, 71] (by decide +kernel) (by decide +kernel)
set_option maxRecDepth 20000 in
theorem gX8_planWorth_X8_plans : GoodIn wsX8_planWorth (wsV RX8 162 RX8 yX8_plans wsX8_plans) := goodIn_app (goodIn_of _ (by decide +kernel)) ggX8_planWorth_X8_plans
set_option maxRecDepth 20000 in
theorem ggX8_planWorth_X8_in : GoodIn wsX8_planWorth wsX8_in := goodIn_r _ [15] (by decide +kernel) (by decide +kernel)
set_option maxRecDepth 20000 in
theorem gX8_planWorth_X8_in : GoodIn wsX8_planWorth (va_wsS RX8 53 yX8_in wsX8_in) := goodIn_app (goodIn_of _ (by decide +kernel)) ggX8_planWorth_X8_in
set_option maxRecDepth 20000 in
theorem ggX8_planWorth_X8_findPlanWorth : GoodIn wsX8_planWorth wsX8_findPlanWorth := goodIn_r _ [27, 28, 20, 29, 30, 31, 32, 33, 34, 21, 22, 5, 23, 35, 36, 37, 38, 39, 40, 41, 42, 43, 44, 45, 46, 51, 52, 53, 54, 55, 56, 57, 58, 59, 60, 61, 62, 63, 64, 65, 66, 67, 68, 69, 70, 71] (by decide +kernel) (by decide +kernel)
set_option maxRecDepth 20000 in
theorem gX8_planWorth_X8_findPlanWorth : GoodIn wsX8_planWorth (wsV RX8 165 RX8 yX8_findPlanWorth wsX8_findPlanWorth) := goodIn_app (goodIn_of _ (by decide +kernel)) ggX8_planWorth_X8_findPlanWorth
set_option maxRecDepth 20000 in
theorem ggX8_planWorth_X8_part : GoodIn wsX8_planWorth wsX8_part := goodIn_r _ [50, 45, 46, 51, 52, 53, 54, 55, 56, 57, 58, 59, 60, 61, 62, 63, 64, 65, 66, 67, 68, 69, 70, 71] (by decide +kernel) (by decide +kernel)
set_option maxRecDepth 20000 in
theorem gX8_planWorth_X8_part : GoodIn wsX8_planWorth (wsV RX8 140 RX8 yX8_part wsX8_part) := goodIn_app (goodIn_of _ (by decide +kernel)) ggX8_planWorth_X8_part
theorem dX8_planWorth_0 : decode cX8_planWorth 0 = .ok (.aload_n 0, 1) := by decide +kernel
theorem dX8_planWorth_1 : decode cX8_planWorth 1 = .ok (.iload_n 1, 1) := by decide +kernel
theorem dX8_planWorth_2 : decode cX8_planWorth 2 = .ok (.iload_n 2, 1) := by decide +kernel
theorem dX8_planWorth_3 : decode cX8_planWorth 3 = .ok (.invokevirtual 70, 3) := by decide +kernel
theorem dX8_planWorth_6 : decode cX8_planWorth 6 = .ok (.ifCond .eq 31, 3) := by decide +kernel
theorem dX8_planWorth_9 : decode cX8_planWorth 9 = .ok (.iload_n 3, 1) := by decide +kernel
theorem dX8_planWorth_10 : decode cX8_planWorth 10 = .ok (.i2l, 1) := by decide +kernel
theorem dX8_planWorth_11 : decode cX8_planWorth 11 = .ok (.lconst 0, 1) := by decide +kernel
theorem dX8_planWorth_12 : decode cX8_planWorth 12 = .ok (.aload_n 0, 1) := by decide +kernel
theorem dX8_planWorth_13 : decode cX8_planWorth 13 = .ok (.iload_n 1, 1) := by decide +kernel
theorem dX8_planWorth_14 : decode cX8_planWorth 14 = .ok (.invokevirtual 162, 3) := by decide +kernel
theorem dX8_planWorth_17 : decode cX8_planWorth 17 = .ok (.iconst 1, 1) := by decide +kernel
theorem dX8_planWorth_18 : decode cX8_planWorth 18 = .ok (.isub, 1) := by decide +kernel
theorem dX8_planWorth_19 : decode cX8_planWorth 19 = .ok (.i2l, 1) := by decide +kernel
theorem dX8_planWorth_20 : decode cX8_planWorth 20 = .ok (.invokestatic 53, 3) := by decide +kernel
theorem dX8_planWorth_23 : decode cX8_planWorth 23 = .ok (.ifCond .eq 14, 3) := by decide +kernel
theorem dX8_planWorth_26 : decode cX8_planWorth 26 = .ok (.iload 4, 2) := by decide +kernel
theorem dX8_planWorth_28 : decode cX8_planWorth 28 = .ok (.i2l, 1) := by decide +kernel
theorem dX8_planWorth_29 : decode cX8_planWorth 29 = .ok (.lconst 0, 1) := by decide +kernel
theorem dX8_planWorth_30 : decode cX8_planWorth 30 = .ok (.lconst 1, 1) := by decide +kernel
theorem dX8_planWorth_31 : decode cX8_planWorth 31 = .ok (.invokestatic 53, 3) := by decide +kernel
theorem dX8_planWorth_34 : decode cX8_planWorth 34 = .ok (.ifCond .ne 7, 3) := by decide +kernel
theorem dX8_planWorth_37 : decode cX8_planWorth 37 = .ok (.ldc2_w 138, 3) := by decide +kernel
theorem dX8_planWorth_40 : decode cX8_planWorth 40 = .ok (.lreturn, 1) := by decide +kernel
theorem dX8_planWorth_41 : decode cX8_planWorth 41 = .ok (.aload_n 0, 1) := by decide +kernel
theorem dX8_planWorth_42 : decode cX8_planWorth 42 = .ok (.iload_n 1, 1) := by decide +kernel
theorem dX8_planWorth_43 : decode cX8_planWorth 43 = .ok (.iload_n 2, 1) := by decide +kernel
theorem dX8_planWorth_44 : decode cX8_planWorth 44 = .ok (.iload_n 3, 1) := by decide +kernel
theorem dX8_planWorth_45 : decode cX8_planWorth 45 = .ok (.invokevirtual 165, 3) := by decide +kernel
theorem dX8_planWorth_48 : decode cX8_planWorth 48 = .ok (.aload_n 0, 1) := by decide +kernel
theorem dX8_planWorth_49 : decode cX8_planWorth 49 = .ok (.iload 4, 2) := by decide +kernel
theorem dX8_planWorth_51 : decode cX8_planWorth 51 = .ok (.invokevirtual 140, 3) := by decide +kernel
theorem dX8_planWorth_54 : decode cX8_planWorth 54 = .ok (.lreturn, 1) := by decide +kernel
set_option maxRecDepth 20000 in
theorem ggX8_isBest_X8_findBest : GoodIn wsX8_isBest wsX8_findBest := goodIn_r _ [9, 10, 1, 4, 2, 3, 11, 12, 13, 8, 14, 15, 16, 17, 18, 19, 20, 21, 22, 23, 24, 25, 26, 27, 28, 29, 30, 31, 32, 33, 34, 35, 36, 37, 38, 39, 40, 69, 70, 71, 72, 73, 74, 75, 76, 77, 78, 79, 80, 81, 82, 83, 84, 85, 86, 87, 88, 89] (by decide +kernel) (by decide +kernel)
set_option maxRecDepth 20000 in
theorem gX8_isBest_X8_findBest : GoodIn wsX8_isBest (wsV RX8 174 RX8 yX8_findBest wsX8_findBest) := goodIn_app (goodIn_of _ (by decide +kernel)) ggX8_isBest_X8_findBest
set_option maxRecDepth 20000 in
theorem ggX8_isBest_X8_findWorth : GoodIn wsX8_isBest wsX8_findWorth := goodIn_r _ [44, 45, 46, 47, 8, 48, 24, 25, 29, 30, 49, 50, 51, 52, 26, 53, 54, 55, 56, 27, 57, 58, 59, 60, 61, 62, 63, 64, 65, 66, 67, 68, 28, 31, 32, 33, 34, 35, 36, 17, 18, 19, 37, 38, 39, 40, 1, 3, 69, 70, 71, 72, 73, 74, 75, 76, 77, 78, 79, 80, 81, 82, 83, 84, 85, 86, 87, 88, 89] (by decide +kernel) (by decide +kernel)
set_option maxRecDepth 20000 in
theorem gX8_isBest_X8_findWorth : GoodIn wsX8_isBest (wsV RX8 147 RX8 yX8_findWorth wsX8_findWorth) := goodIn_app (goodIn_of _ (by decide +kernel)) ggX8_isBest_X8_findWorth
theorem dX8_isBest_0 : decode cX8_isBest 0 = .ok (.aload_n 0, 1) := by decide +kernel
theorem dX8_isBest_1 : decode cX8_isBest 1 = .ok (.iload_n 2, 1) := by decide +kernel
theorem dX8_isBest_2 : decode cX8_isBest 2 = .ok (.iload_n 3, 1) := by decide +kernel
theorem dX8_isBest_3 : decode cX8_isBest 3 = .ok (.iconst 4, 1) := by decide +kernel
theorem dX8_isBest_4 : decode cX8_isBest 4 = .ok (.irem, 1) := by decide +kernel
theorem dX8_isBest_5 : decode cX8_isBest 5 = .ok (.invokevirtual 174, 3) := by decide +kernel
theorem dX8_isBest_8 : decode cX8_isBest 8 = .ok (.aload_n 0, 1) := by decide +kernel
theorem dX8_isBest_9 : decode cX8_isBest 9 = .ok (.iload_n 1, 1) := by decide +kernel
theorem dX8_isBest_10 : decode cX8_isBest 10 = .ok (.iload_n 2, 1) := by decide +kernel
theorem dX8_isBest_11 : decode cX8_isBest 11 = .ok (.iload_n 3, 1) := by decide +kernel
theorem dX8_isBest_12 : decode cX8_isBest 12 = .ok (.invokevirtual 147, 3) := by decide +kernel
theorem dX8_isBest_15 : decode cX8_isBest 15 = .ok (.aload_n 0, 1) := by decide +kernel
theorem dX8_isBest_16 : decode cX8_isBest 16 = .ok (.getfield 123, 3) := by decide +kernel
theorem dX8_isBest_19 : decode cX8_isBest 19 = .ok (.aload_n 0, 1) := by decide +kernel
theorem dX8_isBest_20 : decode cX8_isBest 20 = .ok (.getfield 171, 3) := by decide +kernel
theorem dX8_isBest_23 : decode cX8_isBest 23 = .ok (.lcmp, 1) := by decide +kernel
theorem dX8_isBest_24 : decode cX8_isBest 24 = .ok (.ifCond .ne 19, 3) := by decide +kernel
theorem dX8_isBest_27 : decode cX8_isBest 27 = .ok (.aload_n 0, 1) := by decide +kernel
theorem dX8_isBest_28 : decode cX8_isBest 28 = .ok (.getfield 127, 3) := by decide +kernel
theorem dX8_isBest_31 : decode cX8_isBest 31 = .ok (.aload_n 0, 1) := by decide +kernel
theorem dX8_isBest_32 : decode cX8_isBest 32 = .ok (.getfield 168, 3) := by decide +kernel
theorem dX8_isBest_35 : decode cX8_isBest 35 = .ok (.lcmp, 1) := by decide +kernel
theorem dX8_isBest_36 : decode cX8_isBest 36 = .ok (.ifCond .ne 7, 3) := by decide +kernel
theorem dX8_isBest_39 : decode cX8_isBest 39 = .ok (.iconst 1, 1) := by decide +kernel
theorem dX8_isBest_40 : decode cX8_isBest 40 = .ok (.goto 4, 3) := by decide +kernel
theorem dX8_isBest_43 : decode cX8_isBest 43 = .ok (.iconst 0, 1) := by decide +kernel
theorem dX8_isBest_44 : decode cX8_isBest 44 = .ok (.ireturn, 1) := by decide +kernel
theorem dX8_turned_0 : decode cX8_turned 0 = .ok (.iconst 4, 1) := by decide +kernel
theorem dX8_turned_1 : decode cX8_turned 1 = .ok (.iload_n 0, 1) := by decide +kernel
theorem dX8_turned_2 : decode cX8_turned 2 = .ok (.iconst 4, 1) := by decide +kernel
theorem dX8_turned_3 : decode cX8_turned 3 = .ok (.irem, 1) := by decide +kernel
theorem dX8_turned_4 : decode cX8_turned 4 = .ok (.imul, 1) := by decide +kernel
theorem dX8_turned_5 : decode cX8_turned 5 = .ok (.iload_n 0, 1) := by decide +kernel
theorem dX8_turned_6 : decode cX8_turned 6 = .ok (.iconst 4, 1) := by decide +kernel
theorem dX8_turned_7 : decode cX8_turned 7 = .ok (.idiv, 1) := by decide +kernel
theorem dX8_turned_8 : decode cX8_turned 8 = .ok (.iadd, 1) := by decide +kernel
theorem dX8_turned_9 : decode cX8_turned 9 = .ok (.ireturn, 1) := by decide +kernel
set_option maxRecDepth 20000 in
theorem ggX8_rests_X8_isBest : GoodIn wsX8_rests wsX8_isBest := goodIn_r _ [5, 6, 7, 8, 9, 10, 11, 12, 4, 13, 14, 15, 16, 17, 18, 19, 20, 21, 22, 23, 24, 25, 26, 27, 28, 29, 30, 31, 32, 33, 34, 35, 36, 37, 38, 39, 40, 41, 42, 43, 44, 45, 46, 47, 48, 49, 50, 51, 52, 53, 54, 55, 56, 57, 58, 59, 60, 61, 62, 63, 64, 65, 66, 67, 68, 69, 70, 71, 72, 76, 77, 78, 79, 80, 81, 82, 83, 84, 85, 86, 87, 88, 89, 90, 91, 92, 93, 94, 95, 96] (by decide +kernel) (by decide +kernel)
set_option maxRecDepth 20000 in
theorem gX8_rests_X8_isBest : GoodIn wsX8_rests (wsV RX8 177 RX8 yX8_isBest wsX8_isBest) := goodIn_app (goodIn_of _ (by decide +kernel)) ggX8_rests_X8_isBest
set_option maxRecDepth 20000 in
theorem ggX8_rests_X8_turned : GoodIn wsX8_rests wsX8_turned := goodIn_r _ [75] (by decide +kernel) (by decide +kernel)
set_option maxRecDepth 20000 in
theorem gX8_rests_X8_turned : GoodIn wsX8_rests (va_wsS RX8 181 yX8_turned wsX8_turned) := goodIn_app (goodIn_of _ (by decide +kernel)) ggX8_rests_X8_turned
theorem dX8_rests_0 : decode cX8_rests 0 = .ok (.aload_n 0, 1) := by decide +kernel
theorem dX8_rests_1 : decode cX8_rests 1 = .ok (.iload_n 1, 1) := by decide +kernel
theorem dX8_rests_2 : decode cX8_rests 2 = .ok (.iload_n 2, 1) := by decide +kernel
theorem dX8_rests_3 : decode cX8_rests 3 = .ok (.iload_n 3, 1) := by decide +kernel
theorem dX8_rests_4 : decode cX8_rests 4 = .ok (.invokevirtual 177, 3) := by decide +kernel
theorem dX8_rests_7 : decode cX8_rests 7 = .ok (.ifCond .eq 20, 3) := by decide +kernel
theorem dX8_rests_10 : decode cX8_rests 10 = .ok (.aload_n 0, 1) := by decide +kernel
theorem dX8_rests_11 : decode cX8_rests 11 = .ok (.iload_n 2, 1) := by decide +kernel
theorem dX8_rests_12 : decode cX8_rests 12 = .ok (.iload_n 1, 1) := by decide +kernel
theorem dX8_rests_13 : decode cX8_rests 13 = .ok (.iload_n 3, 1) := by decide +kernel
theorem dX8_rests_14 : decode cX8_rests 14 = .ok (.invokestatic 181, 3) := by decide +kernel
theorem dX8_rests_17 : decode cX8_rests 17 = .ok (.invokevirtual 177, 3) := by decide +kernel
theorem dX8_rests_20 : decode cX8_rests 20 = .ok (.ifCond .eq 7, 3) := by decide +kernel
theorem dX8_rests_23 : decode cX8_rests 23 = .ok (.iconst 1, 1) := by decide +kernel
theorem dX8_rests_24 : decode cX8_rests 24 = .ok (.goto 4, 3) := by decide +kernel
theorem dX8_rests_27 : decode cX8_rests 27 = .ok (.iconst 0, 1) := by decide +kernel
theorem dX8_rests_28 : decode cX8_rests 28 = .ok (.ireturn, 1) := by decide +kernel
set_option maxRecDepth 20000 in
theorem ggX8_rest_X8_areBoth : GoodIn wsX8_rest wsX8_areBoth := goodIn_r _ [5, 6, 7, 8, 4, 9, 10, 11, 12, 13, 92, 93, 94, 95, 96, 97, 98, 99, 100, 101, 102, 103, 104, 105, 106, 107, 108, 109, 110, 111, 112] (by decide +kernel) (by decide +kernel)
set_option maxRecDepth 20000 in
theorem gX8_rest_X8_areBoth : GoodIn wsX8_rest (wsV RX8 107 RX8 yX8_areBoth wsX8_areBoth) := goodIn_app (goodIn_of _ (by decide +kernel)) ggX8_rest_X8_areBoth
set_option maxRecDepth 20000 in
theorem ggX8_rest_X8_rests : GoodIn wsX8_rest wsX8_rests := goodIn_r _ [17, 18, 19, 20, 4, 21, 22, 23, 24, 25, 26, 27, 28, 29, 30, 31, 32, 33, 34, 35, 36, 37, 38, 39, 40, 41, 42, 43, 44, 45, 46, 47, 48, 49, 50, 51, 52, 53, 54, 55, 56, 57, 58, 59, 60, 61, 62, 63, 64, 65, 66, 67, 68, 69, 70, 71, 72, 73, 74, 75, 76, 77, 78, 79, 80, 81, 82, 83, 84, 85, 86, 87, 88, 89, 90, 91, 92, 93, 94, 95, 96, 97, 98, 99, 100, 101, 102, 103, 104, 105, 106, 107, 108, 109, 110, 111, 112] (by decide +kernel) (by decide +kernel)
set_option maxRecDepth 20000 in
theorem gX8_rest_X8_rests : GoodIn wsX8_rest (wsV RX8 184 RX8 yX8_rests wsX8_rests) := goodIn_app (goodIn_of _ (by decide +kernel)) ggX8_rest_X8_rests
theorem dX8_rest_0 : decode cX8_rest 0 = .ok (.aload_n 0, 1) := by decide +kernel
theorem dX8_rest_1 : decode cX8_rest 1 = .ok (.iload_n 1, 1) := by decide +kernel
theorem dX8_rest_2 : decode cX8_rest 2 = .ok (.iload_n 2, 1) := by decide +kernel
theorem dX8_rest_3 : decode cX8_rest 3 = .ok (.invokevirtual 107, 3) := by decide +kernel
theorem dX8_rest_6 : decode cX8_rest 6 = .ok (.ifCond .ne 7, 3) := by decide +kernel
theorem dX8_rest_9 : decode cX8_rest 9 = .ok (.iconst (-1), 1) := by decide +kernel
theorem dX8_rest_10 : decode cX8_rest 10 = .ok (.goto 18, 3) := by decide +kernel
theorem dX8_rest_13 : decode cX8_rest 13 = .ok (.aload_n 0, 1) := by decide +kernel
theorem dX8_rest_14 : decode cX8_rest 14 = .ok (.iload_n 1, 1) := by decide +kernel
theorem dX8_rest_15 : decode cX8_rest 15 = .ok (.iload_n 2, 1) := by decide +kernel
theorem dX8_rest_16 : decode cX8_rest 16 = .ok (.iconst 0, 1) := by decide +kernel
theorem dX8_rest_17 : decode cX8_rest 17 = .ok (.invokevirtual 184, 3) := by decide +kernel
theorem dX8_rest_20 : decode cX8_rest 20 = .ok (.ifCond .eq 7, 3) := by decide +kernel
theorem dX8_rest_23 : decode cX8_rest 23 = .ok (.iconst 1, 1) := by decide +kernel
theorem dX8_rest_24 : decode cX8_rest 24 = .ok (.goto 4, 3) := by decide +kernel
theorem dX8_rest_27 : decode cX8_rest 27 = .ok (.iconst 0, 1) := by decide +kernel
theorem dX8_rest_28 : decode cX8_rest 28 = .ok (.ireturn, 1) := by decide +kernel
set_option maxRecDepth 20000 in
theorem ggX8_firstThatMoves_X8_rests : GoodIn wsX8_firstThatMoves wsX8_rests := goodIn_r _ [6, 7, 8, 9, 5, 10, 11, 12, 13, 14, 15, 16, 17, 18, 19, 20, 21, 22, 23, 24, 1, 25, 26, 27, 28, 29, 30, 31, 32, 33, 34, 35, 36, 37, 38, 39, 40, 41, 42, 43, 44, 45, 46, 47, 48, 49, 50, 51, 52, 53, 54, 55, 56, 57, 58, 59, 60, 61, 62, 63, 64, 65, 66, 67, 68, 69, 70, 71, 72, 73, 74, 75, 76, 77, 78, 79, 80, 81, 82, 83, 84, 85, 86, 87, 88, 89, 90, 91, 92, 93, 94, 95, 96, 97, 98, 99, 100] (by decide +kernel) (by decide +kernel)
set_option maxRecDepth 20000 in
theorem gX8_firstThatMoves_X8_rests : GoodIn wsX8_firstThatMoves (wsV RX8 184 RX8 yX8_rests wsX8_rests) := goodIn_app (goodIn_of _ (by decide +kernel)) ggX8_firstThatMoves_X8_rests
theorem dX8_firstThatMoves_0 : decode cX8_firstThatMoves 0 = .ok (.iconst 0, 1) := by decide +kernel
theorem dX8_firstThatMoves_1 : decode cX8_firstThatMoves 1 = .ok (.istore_n 3, 1) := by decide +kernel
theorem dX8_firstThatMoves_2 : decode cX8_firstThatMoves 2 = .ok (.iload_n 3, 1) := by decide +kernel
theorem dX8_firstThatMoves_3 : decode cX8_firstThatMoves 3 = .ok (.aload_n 0, 1) := by decide +kernel
theorem dX8_firstThatMoves_4 : decode cX8_firstThatMoves 4 = .ok (.getfield 20, 3) := by decide +kernel
theorem dX8_firstThatMoves_7 : decode cX8_firstThatMoves 7 = .ok (.iload_n 1, 1) := by decide +kernel
theorem dX8_firstThatMoves_8 : decode cX8_firstThatMoves 8 = .ok (.iaload, 1) := by decide +kernel
theorem dX8_firstThatMoves_9 : decode cX8_firstThatMoves 9 = .ok (.if_icmp .ge 51, 3) := by decide +kernel
theorem dX8_firstThatMoves_12 : decode cX8_firstThatMoves 12 = .ok (.iconst 0, 1) := by decide +kernel
theorem dX8_firstThatMoves_13 : decode cX8_firstThatMoves 13 = .ok (.istore 4, 2) := by decide +kernel
theorem dX8_firstThatMoves_15 : decode cX8_firstThatMoves 15 = .ok (.iload 4, 2) := by decide +kernel
theorem dX8_firstThatMoves_17 : decode cX8_firstThatMoves 17 = .ok (.aload_n 0, 1) := by decide +kernel
theorem dX8_firstThatMoves_18 : decode cX8_firstThatMoves 18 = .ok (.getfield 20, 3) := by decide +kernel
theorem dX8_firstThatMoves_21 : decode cX8_firstThatMoves 21 = .ok (.iload_n 2, 1) := by decide +kernel
theorem dX8_firstThatMoves_22 : decode cX8_firstThatMoves 22 = .ok (.iaload, 1) := by decide +kernel
theorem dX8_firstThatMoves_23 : decode cX8_firstThatMoves 23 = .ok (.if_icmp .ge 31, 3) := by decide +kernel
theorem dX8_firstThatMoves_26 : decode cX8_firstThatMoves 26 = .ok (.aload_n 0, 1) := by decide +kernel
theorem dX8_firstThatMoves_27 : decode cX8_firstThatMoves 27 = .ok (.iload_n 1, 1) := by decide +kernel
theorem dX8_firstThatMoves_28 : decode cX8_firstThatMoves 28 = .ok (.iload_n 2, 1) := by decide +kernel
theorem dX8_firstThatMoves_29 : decode cX8_firstThatMoves 29 = .ok (.iconst 4, 1) := by decide +kernel
theorem dX8_firstThatMoves_30 : decode cX8_firstThatMoves 30 = .ok (.iload_n 3, 1) := by decide +kernel
theorem dX8_firstThatMoves_31 : decode cX8_firstThatMoves 31 = .ok (.imul, 1) := by decide +kernel
theorem dX8_firstThatMoves_32 : decode cX8_firstThatMoves 32 = .ok (.iload 4, 2) := by decide +kernel
theorem dX8_firstThatMoves_34 : decode cX8_firstThatMoves 34 = .ok (.iadd, 1) := by decide +kernel
theorem dX8_firstThatMoves_35 : decode cX8_firstThatMoves 35 = .ok (.invokevirtual 184, 3) := by decide +kernel
theorem dX8_firstThatMoves_38 : decode cX8_firstThatMoves 38 = .ok (.ifCond .ne 10, 3) := by decide +kernel
theorem dX8_firstThatMoves_41 : decode cX8_firstThatMoves 41 = .ok (.iconst 4, 1) := by decide +kernel
theorem dX8_firstThatMoves_42 : decode cX8_firstThatMoves 42 = .ok (.iload_n 3, 1) := by decide +kernel
theorem dX8_firstThatMoves_43 : decode cX8_firstThatMoves 43 = .ok (.imul, 1) := by decide +kernel
theorem dX8_firstThatMoves_44 : decode cX8_firstThatMoves 44 = .ok (.iload 4, 2) := by decide +kernel
theorem dX8_firstThatMoves_46 : decode cX8_firstThatMoves 46 = .ok (.iadd, 1) := by decide +kernel
theorem dX8_firstThatMoves_47 : decode cX8_firstThatMoves 47 = .ok (.ireturn, 1) := by decide +kernel
theorem dX8_firstThatMoves_48 : decode cX8_firstThatMoves 48 = .ok (.iinc 4 1, 3) := by decide +kernel
theorem dX8_firstThatMoves_51 : decode cX8_firstThatMoves 51 = .ok (.goto (-36), 3) := by decide +kernel
theorem dX8_firstThatMoves_54 : decode cX8_firstThatMoves 54 = .ok (.iinc 3 1, 3) := by decide +kernel
theorem dX8_firstThatMoves_57 : decode cX8_firstThatMoves 57 = .ok (.goto (-55), 3) := by decide +kernel
theorem dX8_firstThatMoves_60 : decode cX8_firstThatMoves 60 = .ok (.bipush (-4), 2) := by decide +kernel
theorem dX8_firstThatMoves_62 : decode cX8_firstThatMoves 62 = .ok (.ireturn, 1) := by decide +kernel
set_option maxRecDepth 20000 in
theorem ggX8_everywhere_X8_areBoth : GoodIn wsX8_everywhere wsX8_areBoth := goodIn_r _ [5, 6, 7, 8, 4, 9, 10, 11, 12, 13, 96, 97, 98, 99, 100, 101, 102, 103, 104, 105, 106, 107, 108, 109, 110, 111, 112, 113, 114, 115, 116] (by decide +kernel) (by decide +kernel)
set_option maxRecDepth 20000 in
theorem gX8_everywhere_X8_areBoth : GoodIn wsX8_everywhere (wsV RX8 107 RX8 yX8_areBoth wsX8_areBoth) := goodIn_app (goodIn_of _ (by decide +kernel)) ggX8_everywhere_X8_areBoth
set_option maxRecDepth 20000 in
theorem ggX8_everywhere_X8_firstThatMoves : GoodIn wsX8_everywhere wsX8_firstThatMoves := goodIn_r _ [17, 18, 19, 20, 21, 4, 22, 23, 24, 25, 26, 27, 28, 29, 30, 31, 32, 33, 34, 35, 36, 37, 38, 39, 40, 41, 42, 43, 44, 45, 46, 47, 48, 49, 50, 51, 52, 53, 54, 55, 56, 57, 58, 59, 60, 61, 62, 63, 64, 65, 66, 67, 68, 69, 70, 71, 72, 73, 74, 75, 76, 77, 78, 79, 80, 81, 82, 83, 84, 85, 86, 87, 88, 89, 90, 91, 92, 93, 94, 95, 96, 97, 98, 99, 100, 101, 102, 103, 104, 105, 106, 107, 108, 109, 110, 111, 112, 113, 114, 115, 116] (by decide +kernel) (by decide +kernel)
set_option maxRecDepth 20000 in
theorem gX8_everywhere_X8_firstThatMoves : GoodIn wsX8_everywhere (wsV RX8 187 RX8 yX8_firstThatMoves wsX8_firstThatMoves) := goodIn_app (goodIn_of _ (by decide +kernel)) ggX8_everywhere_X8_firstThatMoves
theorem dX8_everywhere_0 : decode cX8_everywhere 0 = .ok (.aload_n 0, 1) := by decide +kernel
theorem dX8_everywhere_1 : decode cX8_everywhere 1 = .ok (.iload_n 1, 1) := by decide +kernel
theorem dX8_everywhere_2 : decode cX8_everywhere 2 = .ok (.iload_n 2, 1) := by decide +kernel
theorem dX8_everywhere_3 : decode cX8_everywhere 3 = .ok (.invokevirtual 107, 3) := by decide +kernel
theorem dX8_everywhere_6 : decode cX8_everywhere 6 = .ok (.ifCond .ne 7, 3) := by decide +kernel
theorem dX8_everywhere_9 : decode cX8_everywhere 9 = .ok (.iconst (-1), 1) := by decide +kernel
theorem dX8_everywhere_10 : decode cX8_everywhere 10 = .ok (.goto 19, 3) := by decide +kernel
theorem dX8_everywhere_13 : decode cX8_everywhere 13 = .ok (.aload_n 0, 1) := by decide +kernel
theorem dX8_everywhere_14 : decode cX8_everywhere 14 = .ok (.iload_n 1, 1) := by decide +kernel
theorem dX8_everywhere_15 : decode cX8_everywhere 15 = .ok (.iload_n 2, 1) := by decide +kernel
theorem dX8_everywhere_16 : decode cX8_everywhere 16 = .ok (.invokevirtual 187, 3) := by decide +kernel
theorem dX8_everywhere_19 : decode cX8_everywhere 19 = .ok (.bipush (-4), 2) := by decide +kernel
theorem dX8_everywhere_21 : decode cX8_everywhere 21 = .ok (.if_icmp .ne 7, 3) := by decide +kernel
theorem dX8_everywhere_24 : decode cX8_everywhere 24 = .ok (.iconst 1, 1) := by decide +kernel
theorem dX8_everywhere_25 : decode cX8_everywhere 25 = .ok (.goto 4, 3) := by decide +kernel
theorem dX8_everywhere_28 : decode cX8_everywhere 28 = .ok (.iconst 0, 1) := by decide +kernel
theorem dX8_everywhere_29 : decode cX8_everywhere 29 = .ok (.ireturn, 1) := by decide +kernel
set_option maxRecDepth 20000 in
theorem ggX8_deviation_X8_areBoth : GoodIn wsX8_deviation wsX8_areBoth := goodIn_r _ [7, 8, 9, 10, 6, 11, 12, 13, 14, 15, 97, 98, 99, 100, 101, 102, 103, 104, 105, 106, 107, 108, 109, 110, 111, 112, 113, 114, 115, 116, 117] (by decide +kernel) (by decide +kernel)
set_option maxRecDepth 20000 in
theorem gX8_deviation_X8_areBoth : GoodIn wsX8_deviation (wsV RX8 107 RX8 yX8_areBoth wsX8_areBoth) := goodIn_app (goodIn_of _ (by decide +kernel)) ggX8_deviation_X8_areBoth
set_option maxRecDepth 20000 in
theorem ggX8_deviation_X8_in : GoodIn wsX8_deviation wsX8_in := goodIn_r _ [15] (by decide +kernel) (by decide +kernel)
set_option maxRecDepth 20000 in
theorem gX8_deviation_X8_in : GoodIn wsX8_deviation (va_wsS RX8 53 yX8_in wsX8_in) := goodIn_app (goodIn_of _ (by decide +kernel)) ggX8_deviation_X8_in
set_option maxRecDepth 20000 in
theorem ggX8_deviation_X8_firstThatMoves : GoodIn wsX8_deviation wsX8_firstThatMoves := goodIn_r _ [19, 20, 21, 22, 23, 6, 24, 25, 26, 27, 28, 29, 30, 31, 32, 33, 34, 35, 36, 2, 37, 38, 39, 40, 41, 42, 43, 44, 45, 46, 47, 48, 49, 50, 51, 52, 53, 54, 55, 56, 57, 58, 59, 60, 61, 62, 63, 64, 65, 66, 67, 68, 69, 70, 71, 72, 73, 74, 75, 76, 77, 78, 79, 80, 81, 82, 83, 84, 85, 86, 87, 88, 89, 90, 91, 92, 93, 94, 95, 96, 97, 98, 99, 100, 101, 102, 103, 104, 105, 106, 107, 108, 109, 110, 111, 112, 113, 114, 115, 116, 117] (by decide +kernel) (by decide +kernel)
set_option maxRecDepth 20000 in
theorem gX8_deviation_X8_firstThatMoves : GoodIn wsX8_deviation (wsV RX8 187 RX8 yX8_firstThatMoves wsX8_firstThatMoves) := goodIn_app (goodIn_of _ (by decide +kernel)) ggX8_deviation_X8_firstThatMoves
set_option maxRecDepth 20000 in
theorem ggX8_deviation_X8_isBest : GoodIn wsX8_deviation wsX8_isBest := goodIn_r _ [28, 29, 30, 31, 32, 33, 34, 35, 6, 36, 2, 37, 38, 39, 40, 41, 20, 42, 43, 44, 45, 46, 47, 48, 49, 50, 51, 52, 53, 54, 55, 56, 57, 58, 59, 60, 61, 62, 63, 64, 65, 66, 67, 68, 69, 70, 71, 72, 73, 74, 75, 76, 77, 78, 79, 80, 81, 82, 83, 84, 85, 86, 87, 88, 89, 90, 91, 92, 93, 97, 98, 99, 100, 101, 102, 103, 104, 105, 106, 107, 108, 109, 110, 111, 112, 113, 114, 115, 116, 117] (by decide +kernel) (by decide +kernel)
set_option maxRecDepth 20000 in
theorem gX8_deviation_X8_isBest : GoodIn wsX8_deviation (wsV RX8 177 RX8 yX8_isBest wsX8_isBest) := goodIn_app (goodIn_of _ (by decide +kernel)) ggX8_deviation_X8_isBest
set_option maxRecDepth 20000 in
theorem ggX8_deviation_X8_findBest : GoodIn wsX8_deviation wsX8_findBest := goodIn_r _ [36, 2, 29, 32, 30, 31, 37, 38, 39, 6, 40, 41, 20, 42, 43, 44, 45, 46, 47, 48, 49, 50, 51, 52, 53, 54, 55, 56, 57, 58, 59, 60, 61, 62, 63, 64, 65, 97, 98, 99, 100, 101, 102, 103, 104, 105, 106, 107, 108, 109, 110, 111, 112, 113, 114, 115, 116, 117] (by decide +kernel) (by decide +kernel)
set_option maxRecDepth 20000 in
theorem gX8_deviation_X8_findBest : GoodIn wsX8_deviation (wsV RX8 174 RX8 yX8_findBest wsX8_findBest) := goodIn_app (goodIn_of _ (by decide +kernel)) ggX8_deviation_X8_findBest
theorem dX8_deviation_0 : decode cX8_deviation 0 = .ok (.aload_n 0, 1) := by decide +kernel
theorem dX8_deviation_1 : decode cX8_deviation 1 = .ok (.iload_n 1, 1) := by decide +kernel
theorem dX8_deviation_2 : decode cX8_deviation 2 = .ok (.iload_n 2, 1) := by decide +kernel
theorem dX8_deviation_3 : decode cX8_deviation 3 = .ok (.invokevirtual 107, 3) := by decide +kernel
theorem dX8_deviation_6 : decode cX8_deviation 6 = .ok (.ifCond .eq 15, 3) := by decide +kernel
theorem dX8_deviation_9 : decode cX8_deviation 9 = .ok (.iload_n 3, 1) := by decide +kernel
theorem dX8_deviation_10 : decode cX8_deviation 10 = .ok (.i2l, 1) := by decide +kernel
theorem dX8_deviation_11 : decode cX8_deviation 11 = .ok (.lconst 0, 1) := by decide +kernel
theorem dX8_deviation_12 : decode cX8_deviation 12 = .ok (.ldc2_w 51, 3) := by decide +kernel
theorem dX8_deviation_15 : decode cX8_deviation 15 = .ok (.invokestatic 53, 3) := by decide +kernel
theorem dX8_deviation_18 : decode cX8_deviation 18 = .ok (.ifCond .ne 5, 3) := by decide +kernel
theorem dX8_deviation_21 : decode cX8_deviation 21 = .ok (.iconst (-1), 1) := by decide +kernel
theorem dX8_deviation_22 : decode cX8_deviation 22 = .ok (.ireturn, 1) := by decide +kernel
theorem dX8_deviation_23 : decode cX8_deviation 23 = .ok (.aload_n 0, 1) := by decide +kernel
theorem dX8_deviation_24 : decode cX8_deviation 24 = .ok (.iload_n 1, 1) := by decide +kernel
theorem dX8_deviation_25 : decode cX8_deviation 25 = .ok (.iload_n 2, 1) := by decide +kernel
theorem dX8_deviation_26 : decode cX8_deviation 26 = .ok (.invokevirtual 187, 3) := by decide +kernel
theorem dX8_deviation_29 : decode cX8_deviation 29 = .ok (.istore 4, 2) := by decide +kernel
theorem dX8_deviation_31 : decode cX8_deviation 31 = .ok (.iload 4, 2) := by decide +kernel
theorem dX8_deviation_33 : decode cX8_deviation 33 = .ok (.bipush (-4), 2) := by decide +kernel
theorem dX8_deviation_35 : decode cX8_deviation 35 = .ok (.if_icmp .eq 7, 3) := by decide +kernel
theorem dX8_deviation_38 : decode cX8_deviation 38 = .ok (.iload_n 3, 1) := by decide +kernel
theorem dX8_deviation_39 : decode cX8_deviation 39 = .ok (.ifCond .ne 6, 3) := by decide +kernel
theorem dX8_deviation_42 : decode cX8_deviation 42 = .ok (.iload 4, 2) := by decide +kernel
theorem dX8_deviation_44 : decode cX8_deviation 44 = .ok (.ireturn, 1) := by decide +kernel
theorem dX8_deviation_45 : decode cX8_deviation 45 = .ok (.aload_n 0, 1) := by decide +kernel
theorem dX8_deviation_46 : decode cX8_deviation 46 = .ok (.iload_n 1, 1) := by decide +kernel
theorem dX8_deviation_47 : decode cX8_deviation 47 = .ok (.iload_n 2, 1) := by decide +kernel
theorem dX8_deviation_48 : decode cX8_deviation 48 = .ok (.iload 4, 2) := by decide +kernel
theorem dX8_deviation_50 : decode cX8_deviation 50 = .ok (.invokevirtual 177, 3) := by decide +kernel
theorem dX8_deviation_53 : decode cX8_deviation 53 = .ok (.istore 5, 2) := by decide +kernel
theorem dX8_deviation_55 : decode cX8_deviation 55 = .ok (.iload 5, 2) := by decide +kernel
theorem dX8_deviation_57 : decode cX8_deviation 57 = .ok (.ifCond .eq 12, 3) := by decide +kernel
theorem dX8_deviation_60 : decode cX8_deviation 60 = .ok (.aload_n 0, 1) := by decide +kernel
theorem dX8_deviation_61 : decode cX8_deviation 61 = .ok (.iload_n 1, 1) := by decide +kernel
theorem dX8_deviation_62 : decode cX8_deviation 62 = .ok (.iload 4, 2) := by decide +kernel
theorem dX8_deviation_64 : decode cX8_deviation 64 = .ok (.iconst 4, 1) := by decide +kernel
theorem dX8_deviation_65 : decode cX8_deviation 65 = .ok (.idiv, 1) := by decide +kernel
theorem dX8_deviation_66 : decode cX8_deviation 66 = .ok (.invokevirtual 174, 3) := by decide +kernel
theorem dX8_deviation_69 : decode cX8_deviation 69 = .ok (.iload_n 3, 1) := by decide +kernel
theorem dX8_deviation_70 : decode cX8_deviation 70 = .ok (.iconst 1, 1) := by decide +kernel
theorem dX8_deviation_71 : decode cX8_deviation 71 = .ok (.if_icmp .ne 16, 3) := by decide +kernel
theorem dX8_deviation_74 : decode cX8_deviation 74 = .ok (.iload 5, 2) := by decide +kernel
theorem dX8_deviation_76 : decode cX8_deviation 76 = .ok (.ifCond .eq 7, 3) := by decide +kernel
theorem dX8_deviation_79 : decode cX8_deviation 79 = .ok (.iconst 1, 1) := by decide +kernel
theorem dX8_deviation_80 : decode cX8_deviation 80 = .ok (.goto 11, 3) := by decide +kernel
theorem dX8_deviation_83 : decode cX8_deviation 83 = .ok (.iconst 0, 1) := by decide +kernel
theorem dX8_deviation_84 : decode cX8_deviation 84 = .ok (.goto 7, 3) := by decide +kernel
theorem dX8_deviation_87 : decode cX8_deviation 87 = .ok (.aload_n 0, 1) := by decide +kernel
theorem dX8_deviation_88 : decode cX8_deviation 88 = .ok (.getfield 159, 3) := by decide +kernel
theorem dX8_deviation_91 : decode cX8_deviation 91 = .ok (.ireturn, 1) := by decide +kernel
set_option maxRecDepth 20000 in
theorem ggX8_compare_X8_findWorth : GoodIn wsX8_compare wsX8_findWorth := goodIn_r _ [7, 8, 9, 10, 6, 11, 12, 13, 14, 15, 16, 17, 18, 19, 20, 21, 22, 23, 24, 25, 26, 27, 28, 29, 30, 31, 32, 33, 34, 35, 36, 37, 38, 39, 40, 41, 42, 43, 44, 45, 46, 47, 48, 49, 50, 51, 1, 2, 52, 53, 54, 55, 56, 57, 58, 59, 60, 61, 62, 63, 64, 65, 66, 67, 68, 69, 70, 71, 72] (by decide +kernel) (by decide +kernel)
set_option maxRecDepth 20000 in
theorem gX8_compare_X8_findWorth : GoodIn wsX8_compare (wsV RX8 147 RX8 yX8_findWorth wsX8_findWorth) := goodIn_app (goodIn_of _ (by decide +kernel)) ggX8_compare_X8_findWorth
theorem dX8_compare_0 : decode cX8_compare 0 = .ok (.aload_n 0, 1) := by decide +kernel
theorem dX8_compare_1 : decode cX8_compare 1 = .ok (.iload_n 1, 1) := by decide +kernel
theorem dX8_compare_2 : decode cX8_compare 2 = .ok (.iload_n 2, 1) := by decide +kernel
theorem dX8_compare_3 : decode cX8_compare 3 = .ok (.iconst 0, 1) := by decide +kernel
theorem dX8_compare_4 : decode cX8_compare 4 = .ok (.invokevirtual 147, 3) := by decide +kernel
theorem dX8_compare_7 : decode cX8_compare 7 = .ok (.aload_n 0, 1) := by decide +kernel
theorem dX8_compare_8 : decode cX8_compare 8 = .ok (.getfield 123, 3) := by decide +kernel
theorem dX8_compare_11 : decode cX8_compare 11 = .ok (.lstore 5, 2) := by decide +kernel
theorem dX8_compare_13 : decode cX8_compare 13 = .ok (.aload_n 0, 1) := by decide +kernel
theorem dX8_compare_14 : decode cX8_compare 14 = .ok (.getfield 127, 3) := by decide +kernel
theorem dX8_compare_17 : decode cX8_compare 17 = .ok (.lstore 7, 2) := by decide +kernel
theorem dX8_compare_19 : decode cX8_compare 19 = .ok (.aload_n 0, 1) := by decide +kernel
theorem dX8_compare_20 : decode cX8_compare 20 = .ok (.iload_n 3, 1) := by decide +kernel
theorem dX8_compare_21 : decode cX8_compare 21 = .ok (.iload 4, 2) := by decide +kernel
theorem dX8_compare_23 : decode cX8_compare 23 = .ok (.iconst 0, 1) := by decide +kernel
theorem dX8_compare_24 : decode cX8_compare 24 = .ok (.invokevirtual 147, 3) := by decide +kernel
theorem dX8_compare_27 : decode cX8_compare 27 = .ok (.lload 5, 2) := by decide +kernel
theorem dX8_compare_29 : decode cX8_compare 29 = .ok (.aload_n 0, 1) := by decide +kernel
theorem dX8_compare_30 : decode cX8_compare 30 = .ok (.getfield 127, 3) := by decide +kernel
theorem dX8_compare_33 : decode cX8_compare 33 = .ok (.lmul, 1) := by decide +kernel
theorem dX8_compare_34 : decode cX8_compare 34 = .ok (.lstore 9, 2) := by decide +kernel
theorem dX8_compare_36 : decode cX8_compare 36 = .ok (.aload_n 0, 1) := by decide +kernel
theorem dX8_compare_37 : decode cX8_compare 37 = .ok (.getfield 123, 3) := by decide +kernel
theorem dX8_compare_40 : decode cX8_compare 40 = .ok (.lload 7, 2) := by decide +kernel
theorem dX8_compare_42 : decode cX8_compare 42 = .ok (.lmul, 1) := by decide +kernel
theorem dX8_compare_43 : decode cX8_compare 43 = .ok (.lstore 11, 2) := by decide +kernel
theorem dX8_compare_45 : decode cX8_compare 45 = .ok (.lload 9, 2) := by decide +kernel
theorem dX8_compare_47 : decode cX8_compare 47 = .ok (.lload 11, 2) := by decide +kernel
theorem dX8_compare_49 : decode cX8_compare 49 = .ok (.lcmp, 1) := by decide +kernel
theorem dX8_compare_50 : decode cX8_compare 50 = .ok (.ifCond .le 7, 3) := by decide +kernel
theorem dX8_compare_53 : decode cX8_compare 53 = .ok (.iconst 1, 1) := by decide +kernel
theorem dX8_compare_54 : decode cX8_compare 54 = .ok (.goto 16, 3) := by decide +kernel
theorem dX8_compare_57 : decode cX8_compare 57 = .ok (.lload 9, 2) := by decide +kernel
theorem dX8_compare_59 : decode cX8_compare 59 = .ok (.lload 11, 2) := by decide +kernel
theorem dX8_compare_61 : decode cX8_compare 61 = .ok (.lcmp, 1) := by decide +kernel
theorem dX8_compare_62 : decode cX8_compare 62 = .ok (.ifCond .ge 7, 3) := by decide +kernel
theorem dX8_compare_65 : decode cX8_compare 65 = .ok (.iconst (-1), 1) := by decide +kernel
theorem dX8_compare_66 : decode cX8_compare 66 = .ok (.goto 4, 3) := by decide +kernel
theorem dX8_compare_69 : decode cX8_compare 69 = .ok (.iconst 0, 1) := by decide +kernel
theorem dX8_compare_70 : decode cX8_compare 70 = .ok (.ireturn, 1) := by decide +kernel
set_option maxRecDepth 20000 in
theorem ggX8_doesResist_X8_compare : GoodIn wsX8_doesResist wsX8_compare := goodIn_r _ [5, 6, 7, 8, 9, 10, 4, 11, 12, 13, 14, 15, 16, 17, 18, 19, 20, 21, 22, 23, 24, 25, 26, 27, 28, 29, 30, 31, 32, 33, 34, 35, 36, 37, 38, 39, 40, 41, 42, 43, 44, 45, 46, 47, 48, 49, 50, 51, 52, 53, 54, 55, 56, 57, 58, 59, 60, 61, 62, 63, 64, 65, 66, 67, 68, 69, 70, 71, 72, 73, 74, 75, 76] (by decide +kernel) (by decide +kernel)
set_option maxRecDepth 20000 in
theorem gX8_doesResist_X8_compare : GoodIn wsX8_doesResist (wsV RX8 190 RX8 yX8_compare wsX8_compare) := goodIn_app (goodIn_of _ (by decide +kernel)) ggX8_doesResist_X8_compare
theorem dX8_doesResist_0 : decode cX8_doesResist 0 = .ok (.aload_n 0, 1) := by decide +kernel
theorem dX8_doesResist_1 : decode cX8_doesResist 1 = .ok (.iload_n 1, 1) := by decide +kernel
theorem dX8_doesResist_2 : decode cX8_doesResist 2 = .ok (.iload_n 1, 1) := by decide +kernel
theorem dX8_doesResist_3 : decode cX8_doesResist 3 = .ok (.iload_n 2, 1) := by decide +kernel
theorem dX8_doesResist_4 : decode cX8_doesResist 4 = .ok (.iload_n 1, 1) := by decide +kernel
theorem dX8_doesResist_5 : decode cX8_doesResist 5 = .ok (.invokevirtual 190, 3) := by decide +kernel
theorem dX8_doesResist_8 : decode cX8_doesResist 8 = .ok (.istore_n 3, 1) := by decide +kernel
theorem dX8_doesResist_9 : decode cX8_doesResist 9 = .ok (.iload_n 3, 1) := by decide +kernel
theorem dX8_doesResist_10 : decode cX8_doesResist 10 = .ok (.ifCond .gt 18, 3) := by decide +kernel
theorem dX8_doesResist_13 : decode cX8_doesResist 13 = .ok (.iload_n 3, 1) := by decide +kernel
theorem dX8_doesResist_14 : decode cX8_doesResist 14 = .ok (.ifCond .ne 18, 3) := by decide +kernel
theorem dX8_doesResist_17 : decode cX8_doesResist 17 = .ok (.aload_n 0, 1) := by decide +kernel
theorem dX8_doesResist_18 : decode cX8_doesResist 18 = .ok (.iload_n 1, 1) := by decide +kernel
theorem dX8_doesResist_19 : decode cX8_doesResist 19 = .ok (.iload_n 2, 1) := by decide +kernel
theorem dX8_doesResist_20 : decode cX8_doesResist 20 = .ok (.iload_n 2, 1) := by decide +kernel
theorem dX8_doesResist_21 : decode cX8_doesResist 21 = .ok (.iload_n 2, 1) := by decide +kernel
theorem dX8_doesResist_22 : decode cX8_doesResist 22 = .ok (.invokevirtual 190, 3) := by decide +kernel
theorem dX8_doesResist_25 : decode cX8_doesResist 25 = .ok (.ifCond .le 7, 3) := by decide +kernel
theorem dX8_doesResist_28 : decode cX8_doesResist 28 = .ok (.iconst 1, 1) := by decide +kernel
theorem dX8_doesResist_29 : decode cX8_doesResist 29 = .ok (.goto 4, 3) := by decide +kernel
theorem dX8_doesResist_32 : decode cX8_doesResist 32 = .ok (.iconst 0, 1) := by decide +kernel
theorem dX8_doesResist_33 : decode cX8_doesResist 33 = .ok (.ireturn, 1) := by decide +kernel
set_option maxRecDepth 20000 in
theorem ggX8_resists_X8_areBoth : GoodIn wsX8_resists wsX8_areBoth := goodIn_r _ [5, 6, 7, 8, 4, 9, 10, 11, 12, 13, 72, 73, 74, 75, 76, 77, 78, 79, 80, 81, 82, 83, 84, 85, 86, 87, 88, 89, 90, 91, 92] (by decide +kernel) (by decide +kernel)
set_option maxRecDepth 20000 in
theorem gX8_resists_X8_areBoth : GoodIn wsX8_resists (wsV RX8 107 RX8 yX8_areBoth wsX8_areBoth) := goodIn_app (goodIn_of _ (by decide +kernel)) ggX8_resists_X8_areBoth
set_option maxRecDepth 20000 in
theorem ggX8_resists_X8_doesResist : GoodIn wsX8_resists wsX8_doesResist := goodIn_r _ [17, 18, 19, 20, 4, 21, 22, 23, 24, 25, 26, 27, 28, 29, 30, 31, 32, 33, 34, 35, 36, 37, 38, 39, 40, 41, 42, 43, 44, 45, 46, 47, 48, 49, 50, 51, 52, 53, 54, 55, 56, 57, 58, 59, 60, 61, 62, 63, 64, 65, 66, 67, 68, 69, 70, 71, 72, 73, 74, 75, 76, 77, 78, 79, 80, 81, 82, 83, 84, 85, 86, 87, 88, 89, 90, 91, 92] (by decide +kernel) (by decide +kernel)
set_option maxRecDepth 20000 in
theorem gX8_resists_X8_doesResist : GoodIn wsX8_resists (wsV RX8 194 RX8 yX8_doesResist wsX8_doesResist) := goodIn_app (goodIn_of _ (by decide +kernel)) ggX8_resists_X8_doesResist
theorem dX8_resists_0 : decode cX8_resists 0 = .ok (.aload_n 0, 1) := by decide +kernel
theorem dX8_resists_1 : decode cX8_resists 1 = .ok (.iload_n 2, 1) := by decide +kernel
theorem dX8_resists_2 : decode cX8_resists 2 = .ok (.iload_n 1, 1) := by decide +kernel
theorem dX8_resists_3 : decode cX8_resists 3 = .ok (.invokevirtual 107, 3) := by decide +kernel
theorem dX8_resists_6 : decode cX8_resists 6 = .ok (.ifCond .eq 8, 3) := by decide +kernel
theorem dX8_resists_9 : decode cX8_resists 9 = .ok (.iload_n 2, 1) := by decide +kernel
theorem dX8_resists_10 : decode cX8_resists 10 = .ok (.iload_n 1, 1) := by decide +kernel
theorem dX8_resists_11 : decode cX8_resists 11 = .ok (.if_icmp .ne 7, 3) := by decide +kernel
theorem dX8_resists_14 : decode cX8_resists 14 = .ok (.iconst (-1), 1) := by decide +kernel
theorem dX8_resists_15 : decode cX8_resists 15 = .ok (.goto 17, 3) := by decide +kernel
theorem dX8_resists_18 : decode cX8_resists 18 = .ok (.aload_n 0, 1) := by decide +kernel
theorem dX8_resists_19 : decode cX8_resists 19 = .ok (.iload_n 1, 1) := by decide +kernel
theorem dX8_resists_20 : decode cX8_resists 20 = .ok (.iload_n 2, 1) := by decide +kernel
theorem dX8_resists_21 : decode cX8_resists 21 = .ok (.invokevirtual 194, 3) := by decide +kernel
theorem dX8_resists_24 : decode cX8_resists 24 = .ok (.ifCond .eq 7, 3) := by decide +kernel
theorem dX8_resists_27 : decode cX8_resists 27 = .ok (.iconst 1, 1) := by decide +kernel
theorem dX8_resists_28 : decode cX8_resists 28 = .ok (.goto 4, 3) := by decide +kernel
theorem dX8_resists_31 : decode cX8_resists 31 = .ok (.iconst 0, 1) := by decide +kernel
theorem dX8_resists_32 : decode cX8_resists 32 = .ok (.ireturn, 1) := by decide +kernel
set_option maxRecDepth 20000 in
theorem ggX8_invaders_X8_isMachine : GoodIn wsX8_invaders wsX8_isMachine := goodIn_r _ [6, 1, 7, 8, 5, 9, 68, 69, 70, 71, 72, 73, 74, 75, 76, 77, 78, 79, 80, 81, 82, 83, 84, 85, 86, 87, 88] (by decide +kernel) (by decide +kernel)
set_option maxRecDepth 20000 in
theorem gX8_invaders_X8_isMachine : GoodIn wsX8_invaders (wsV RX8 66 RX8 yX8_isMachine wsX8_isMachine) := goodIn_app (goodIn_of _ (by decide +kernel)) ggX8_invaders_X8_isMachine
set_option maxRecDepth 20000 in
theorem ggX8_invaders_X8_doesResist : GoodIn wsX8_invaders wsX8_doesResist := goodIn_r _ [13, 14, 15, 16, 5, 17, 18, 19, 20, 21, 22, 23, 24, 25, 26, 27, 28, 29, 30, 31, 32, 33, 34, 35, 36, 37, 38, 39, 40, 41, 42, 43, 44, 45, 46, 47, 48, 49, 50, 51, 52, 53, 54, 55, 56, 57, 58, 59, 60, 61, 62, 63, 64, 65, 66, 67, 68, 69, 70, 71, 72, 73, 74, 75, 76, 77, 78, 79, 80, 81, 82, 83, 84, 85, 86, 87, 88] (by decide +kernel) (by decide +kernel)
set_option maxRecDepth 20000 in
theorem gX8_invaders_X8_doesResist : GoodIn wsX8_invaders (wsV RX8 194 RX8 yX8_doesResist wsX8_doesResist) := goodIn_app (goodIn_of _ (by decide +kernel)) ggX8_invaders_X8_doesResist
theorem dX8_invaders_0 : decode cX8_invaders 0 = .ok (.aload_n 0, 1) := by decide +kernel
theorem dX8_invaders_1 : decode cX8_invaders 1 = .ok (.iload_n 1, 1) := by decide +kernel
theorem dX8_invaders_2 : decode cX8_invaders 2 = .ok (.invokevirtual 66, 3) := by decide +kernel
theorem dX8_invaders_5 : decode cX8_invaders 5 = .ok (.ifCond .ne 5, 3) := by decide +kernel
theorem dX8_invaders_8 : decode cX8_invaders 8 = .ok (.iconst (-1), 1) := by decide +kernel
theorem dX8_invaders_9 : decode cX8_invaders 9 = .ok (.ireturn, 1) := by decide +kernel
theorem dX8_invaders_10 : decode cX8_invaders 10 = .ok (.iconst 0, 1) := by decide +kernel
theorem dX8_invaders_11 : decode cX8_invaders 11 = .ok (.istore_n 2, 1) := by decide +kernel
theorem dX8_invaders_12 : decode cX8_invaders 12 = .ok (.iconst 0, 1) := by decide +kernel
theorem dX8_invaders_13 : decode cX8_invaders 13 = .ok (.istore_n 3, 1) := by decide +kernel
theorem dX8_invaders_14 : decode cX8_invaders 14 = .ok (.iload_n 3, 1) := by decide +kernel
theorem dX8_invaders_15 : decode cX8_invaders 15 = .ok (.aload_n 0, 1) := by decide +kernel
theorem dX8_invaders_16 : decode cX8_invaders 16 = .ok (.getfield 63, 3) := by decide +kernel
theorem dX8_invaders_19 : decode cX8_invaders 19 = .ok (.if_icmp .ge 33, 3) := by decide +kernel
theorem dX8_invaders_22 : decode cX8_invaders 22 = .ok (.iload_n 2, 1) := by decide +kernel
theorem dX8_invaders_23 : decode cX8_invaders 23 = .ok (.iload_n 3, 1) := by decide +kernel
theorem dX8_invaders_24 : decode cX8_invaders 24 = .ok (.iload_n 1, 1) := by decide +kernel
theorem dX8_invaders_25 : decode cX8_invaders 25 = .ok (.if_icmp .eq 18, 3) := by decide +kernel
theorem dX8_invaders_28 : decode cX8_invaders 28 = .ok (.aload_n 0, 1) := by decide +kernel
theorem dX8_invaders_29 : decode cX8_invaders 29 = .ok (.iload_n 1, 1) := by decide +kernel
theorem dX8_invaders_30 : decode cX8_invaders 30 = .ok (.iload_n 3, 1) := by decide +kernel
theorem dX8_invaders_31 : decode cX8_invaders 31 = .ok (.invokevirtual 194, 3) := by decide +kernel
theorem dX8_invaders_34 : decode cX8_invaders 34 = .ok (.ifCond .ne 9, 3) := by decide +kernel
theorem dX8_invaders_37 : decode cX8_invaders 37 = .ok (.iconst 1, 1) := by decide +kernel
theorem dX8_invaders_38 : decode cX8_invaders 38 = .ok (.iload_n 3, 1) := by decide +kernel
theorem dX8_invaders_39 : decode cX8_invaders 39 = .ok (.ishl, 1) := by decide +kernel
theorem dX8_invaders_40 : decode cX8_invaders 40 = .ok (.goto 4, 3) := by decide +kernel
theorem dX8_invaders_43 : decode cX8_invaders 43 = .ok (.iconst 0, 1) := by decide +kernel
theorem dX8_invaders_44 : decode cX8_invaders 44 = .ok (.iadd, 1) := by decide +kernel
theorem dX8_invaders_45 : decode cX8_invaders 45 = .ok (.istore_n 2, 1) := by decide +kernel
theorem dX8_invaders_46 : decode cX8_invaders 46 = .ok (.iinc 3 1, 3) := by decide +kernel
theorem dX8_invaders_49 : decode cX8_invaders 49 = .ok (.goto (-35), 3) := by decide +kernel
theorem dX8_invaders_52 : decode cX8_invaders 52 = .ok (.iload_n 2, 1) := by decide +kernel
theorem dX8_invaders_53 : decode cX8_invaders 53 = .ok (.ireturn, 1) := by decide +kernel
set_option maxRecDepth 20000 in
theorem ggX8_scoreOf_X8_sumUp : GoodIn wsX8_scoreOf wsX8_sumUp := goodIn_r _ [6, 7, 8, 9, 5, 10, 11, 12, 13, 14, 15, 16, 17, 18, 19, 20, 21, 22, 23, 24, 25, 26, 27, 28, 29, 30, 31, 32, 33, 34, 35, 36, 37, 38, 39, 40, 41, 42, 43, 44, 45, 46, 47, 48, 49, 50] (by decide +kernel) (by decide +kernel)
set_option maxRecDepth 20000 in
theorem gX8_scoreOf_X8_sumUp : GoodIn wsX8_scoreOf (wsV RX8 120 RX8 yX8_sumUp wsX8_sumUp) := goodIn_app (goodIn_of _ (by decide +kernel)) ggX8_scoreOf_X8_sumUp
theorem dX8_scoreOf_0 : decode cX8_scoreOf 0 = .ok (.iconst 0, 1) := by decide +kernel
theorem dX8_scoreOf_1 : decode cX8_scoreOf 1 = .ok (.istore_n 3, 1) := by decide +kernel
theorem dX8_scoreOf_2 : decode cX8_scoreOf 2 = .ok (.iconst 0, 1) := by decide +kernel
theorem dX8_scoreOf_3 : decode cX8_scoreOf 3 = .ok (.istore 4, 2) := by decide +kernel
theorem dX8_scoreOf_5 : decode cX8_scoreOf 5 = .ok (.iload 4, 2) := by decide +kernel
theorem dX8_scoreOf_7 : decode cX8_scoreOf 7 = .ok (.aload_n 0, 1) := by decide +kernel
theorem dX8_scoreOf_8 : decode cX8_scoreOf 8 = .ok (.getfield 63, 3) := by decide +kernel
theorem dX8_scoreOf_11 : decode cX8_scoreOf 11 = .ok (.if_icmp .ge 20, 3) := by decide +kernel
theorem dX8_scoreOf_14 : decode cX8_scoreOf 14 = .ok (.iload_n 3, 1) := by decide +kernel
theorem dX8_scoreOf_15 : decode cX8_scoreOf 15 = .ok (.aload_n 0, 1) := by decide +kernel
theorem dX8_scoreOf_16 : decode cX8_scoreOf 16 = .ok (.iload_n 1, 1) := by decide +kernel
theorem dX8_scoreOf_17 : decode cX8_scoreOf 17 = .ok (.iload 4, 2) := by decide +kernel
theorem dX8_scoreOf_19 : decode cX8_scoreOf 19 = .ok (.iload_n 2, 1) := by decide +kernel
theorem dX8_scoreOf_20 : decode cX8_scoreOf 20 = .ok (.invokevirtual 120, 3) := by decide +kernel
theorem dX8_scoreOf_23 : decode cX8_scoreOf 23 = .ok (.iadd, 1) := by decide +kernel
theorem dX8_scoreOf_24 : decode cX8_scoreOf 24 = .ok (.istore_n 3, 1) := by decide +kernel
theorem dX8_scoreOf_25 : decode cX8_scoreOf 25 = .ok (.iinc 4 1, 3) := by decide +kernel
theorem dX8_scoreOf_28 : decode cX8_scoreOf 28 = .ok (.goto (-23), 3) := by decide +kernel
theorem dX8_scoreOf_31 : decode cX8_scoreOf 31 = .ok (.iload_n 3, 1) := by decide +kernel
theorem dX8_scoreOf_32 : decode cX8_scoreOf 32 = .ok (.ireturn, 1) := by decide +kernel
set_option maxRecDepth 20000 in
theorem ggX8_score_X8_isMachine : GoodIn wsX8_score wsX8_isMachine := goodIn_r _ [7, 8, 9, 10, 6, 11, 43, 44, 45, 46, 47, 48, 49, 50, 51, 52, 53, 54, 55, 56, 57, 58, 59, 60, 61, 62, 63] (by decide +kernel) (by decide +kernel)
set_option maxRecDepth 20000 in
theorem gX8_score_X8_isMachine : GoodIn wsX8_score (wsV RX8 66 RX8 yX8_isMachine wsX8_isMachine) := goodIn_app (goodIn_of _ (by decide +kernel)) ggX8_score_X8_isMachine
set_option maxRecDepth 20000 in
theorem ggX8_score_X8_in : GoodIn wsX8_score wsX8_in := goodIn_r _ [11] (by decide +kernel) (by decide +kernel)
set_option maxRecDepth 20000 in
theorem gX8_score_X8_in : GoodIn wsX8_score (va_wsS RX8 53 yX8_in wsX8_in) := goodIn_app (goodIn_of _ (by decide +kernel)) ggX8_score_X8_in
set_option maxRecDepth 20000 in
theorem ggX8_score_X8_scoreOf : GoodIn wsX8_score wsX8_scoreOf := goodIn_r _ [15, 8, 16, 17, 18, 6, 19, 20, 21, 22, 23, 24, 25, 26, 27, 28, 29, 30, 31, 32, 33, 34, 35, 36, 37, 38, 39, 40, 41, 42, 43, 44, 45, 46, 47, 48, 49, 50, 51, 52, 53, 54, 55, 56, 57, 58, 59, 60, 61, 62, 63] (by decide +kernel) (by decide +kernel)
set_option maxRecDepth 20000 in
theorem gX8_score_X8_scoreOf : GoodIn wsX8_score (wsV RX8 197 RX8 yX8_scoreOf wsX8_scoreOf) := goodIn_app (goodIn_of _ (by decide +kernel)) ggX8_score_X8_scoreOf
theorem dX8_score_0 : decode cX8_score 0 = .ok (.aload_n 0, 1) := by decide +kernel
theorem dX8_score_1 : decode cX8_score 1 = .ok (.iload_n 1, 1) := by decide +kernel
theorem dX8_score_2 : decode cX8_score 2 = .ok (.invokevirtual 66, 3) := by decide +kernel
theorem dX8_score_5 : decode cX8_score 5 = .ok (.ifCond .eq 24, 3) := by decide +kernel
theorem dX8_score_8 : decode cX8_score 8 = .ok (.iload_n 2, 1) := by decide +kernel
theorem dX8_score_9 : decode cX8_score 9 = .ok (.i2l, 1) := by decide +kernel
theorem dX8_score_10 : decode cX8_score 10 = .ok (.lconst 0, 1) := by decide +kernel
theorem dX8_score_11 : decode cX8_score 11 = .ok (.ldc2_w 110, 3) := by decide +kernel
theorem dX8_score_14 : decode cX8_score 14 = .ok (.invokestatic 53, 3) := by decide +kernel
theorem dX8_score_17 : decode cX8_score 17 = .ok (.ifCond .eq 12, 3) := by decide +kernel
theorem dX8_score_20 : decode cX8_score 20 = .ok (.aload_n 0, 1) := by decide +kernel
theorem dX8_score_21 : decode cX8_score 21 = .ok (.iload_n 1, 1) := by decide +kernel
theorem dX8_score_22 : decode cX8_score 22 = .ok (.iload_n 2, 1) := by decide +kernel
theorem dX8_score_23 : decode cX8_score 23 = .ok (.invokevirtual 197, 3) := by decide +kernel
theorem dX8_score_26 : decode cX8_score 26 = .ok (.goto 5, 3) := by decide +kernel
theorem dX8_score_29 : decode cX8_score 29 = .ok (.ldc 112, 2) := by decide +kernel
theorem dX8_score_31 : decode cX8_score 31 = .ok (.ireturn, 1) := by decide +kernel
set_option maxRecDepth 20000 in
theorem ggX8_place_X8_in : GoodIn wsX8_place wsX8_in := goodIn_r _ [7] (by decide +kernel) (by decide +kernel)
set_option maxRecDepth 20000 in
theorem gX8_place_X8_in : GoodIn wsX8_place (va_wsS RX8 53 yX8_in wsX8_in) := goodIn_app (goodIn_of _ (by decide +kernel)) ggX8_place_X8_in
set_option maxRecDepth 20000 in
theorem ggX8_place_X8_scoreOf : GoodIn wsX8_place wsX8_scoreOf := goodIn_r _ [11, 2, 12, 13, 14, 6, 15, 16, 17, 18, 19, 20, 21, 22, 23, 24, 25, 26, 27, 28, 29, 30, 31, 32, 33, 34, 35, 36, 37, 38, 39, 40, 41, 42, 43, 44, 45, 46, 47, 48, 49, 50, 51, 52, 53, 54, 55, 56, 57, 58, 59] (by decide +kernel) (by decide +kernel)
set_option maxRecDepth 20000 in
theorem gX8_place_X8_scoreOf : GoodIn wsX8_place (wsV RX8 197 RX8 yX8_scoreOf wsX8_scoreOf) := goodIn_app (goodIn_of _ (by decide +kernel)) ggX8_place_X8_scoreOf
theorem dX8_place_0 : decode cX8_place 0 = .ok (.iload_n 1, 1) := by decide +kernel
theorem dX8_place_1 : decode cX8_place 1 = .ok (.ifCond .lt 15, 3) := by decide +kernel
theorem dX8_place_4 : decode cX8_place 4 = .ok (.iload_n 2, 1) := by decide +kernel
theorem dX8_place_5 : decode cX8_place 5 = .ok (.i2l, 1) := by decide +kernel
theorem dX8_place_6 : decode cX8_place 6 = .ok (.lconst 0, 1) := by decide +kernel
theorem dX8_place_7 : decode cX8_place 7 = .ok (.ldc2_w 110, 3) := by decide +kernel
theorem dX8_place_10 : decode cX8_place 10 = .ok (.invokestatic 53, 3) := by decide +kernel
theorem dX8_place_13 : decode cX8_place 13 = .ok (.ifCond .ne 5, 3) := by decide +kernel
theorem dX8_place_16 : decode cX8_place 16 = .ok (.iconst (-1), 1) := by decide +kernel
theorem dX8_place_17 : decode cX8_place 17 = .ok (.ireturn, 1) := by decide +kernel
theorem dX8_place_18 : decode cX8_place 18 = .ok (.iconst 0, 1) := by decide +kernel
theorem dX8_place_19 : decode cX8_place 19 = .ok (.istore_n 3, 1) := by decide +kernel
theorem dX8_place_20 : decode cX8_place 20 = .ok (.iload_n 3, 1) := by decide +kernel
theorem dX8_place_21 : decode cX8_place 21 = .ok (.aload_n 0, 1) := by decide +kernel
theorem dX8_place_22 : decode cX8_place 22 = .ok (.getfield 63, 3) := by decide +kernel
theorem dX8_place_25 : decode cX8_place 25 = .ok (.if_icmp .ge 21, 3) := by decide +kernel
theorem dX8_place_28 : decode cX8_place 28 = .ok (.aload_n 0, 1) := by decide +kernel
theorem dX8_place_29 : decode cX8_place 29 = .ok (.getfield 48, 3) := by decide +kernel
theorem dX8_place_32 : decode cX8_place 32 = .ok (.iload_n 3, 1) := by decide +kernel
theorem dX8_place_33 : decode cX8_place 33 = .ok (.aload_n 0, 1) := by decide +kernel
theorem dX8_place_34 : decode cX8_place 34 = .ok (.iload_n 3, 1) := by decide +kernel
theorem dX8_place_35 : decode cX8_place 35 = .ok (.iload_n 2, 1) := by decide +kernel
theorem dX8_place_36 : decode cX8_place 36 = .ok (.invokevirtual 197, 3) := by decide +kernel
theorem dX8_place_39 : decode cX8_place 39 = .ok (.iastore, 1) := by decide +kernel
theorem dX8_place_40 : decode cX8_place 40 = .ok (.iinc 3 1, 3) := by decide +kernel
theorem dX8_place_43 : decode cX8_place 43 = .ok (.goto (-23), 3) := by decide +kernel
theorem dX8_place_46 : decode cX8_place 46 = .ok (.iconst 0, 1) := by decide +kernel
theorem dX8_place_47 : decode cX8_place 47 = .ok (.istore_n 3, 1) := by decide +kernel
theorem dX8_place_48 : decode cX8_place 48 = .ok (.iload_n 3, 1) := by decide +kernel
theorem dX8_place_49 : decode cX8_place 49 = .ok (.aload_n 0, 1) := by decide +kernel
theorem dX8_place_50 : decode cX8_place 50 = .ok (.getfield 63, 3) := by decide +kernel
theorem dX8_place_53 : decode cX8_place 53 = .ok (.if_icmp .ge 86, 3) := by decide +kernel
theorem dX8_place_56 : decode cX8_place 56 = .ok (.iconst 0, 1) := by decide +kernel
theorem dX8_place_57 : decode cX8_place 57 = .ok (.istore 4, 2) := by decide +kernel
theorem dX8_place_59 : decode cX8_place 59 = .ok (.iconst 0, 1) := by decide +kernel
theorem dX8_place_60 : decode cX8_place 60 = .ok (.istore 5, 2) := by decide +kernel
theorem dX8_place_62 : decode cX8_place 62 = .ok (.iload 5, 2) := by decide +kernel
theorem dX8_place_64 : decode cX8_place 64 = .ok (.aload_n 0, 1) := by decide +kernel
theorem dX8_place_65 : decode cX8_place 65 = .ok (.getfield 63, 3) := by decide +kernel
theorem dX8_place_68 : decode cX8_place 68 = .ok (.if_icmp .ge 57, 3) := by decide +kernel
theorem dX8_place_71 : decode cX8_place 71 = .ok (.iload 4, 2) := by decide +kernel
theorem dX8_place_73 : decode cX8_place 73 = .ok (.aload_n 0, 1) := by decide +kernel
theorem dX8_place_74 : decode cX8_place 74 = .ok (.getfield 48, 3) := by decide +kernel
theorem dX8_place_77 : decode cX8_place 77 = .ok (.iload 5, 2) := by decide +kernel
theorem dX8_place_79 : decode cX8_place 79 = .ok (.iaload, 1) := by decide +kernel
theorem dX8_place_80 : decode cX8_place 80 = .ok (.aload_n 0, 1) := by decide +kernel
theorem dX8_place_81 : decode cX8_place 81 = .ok (.getfield 48, 3) := by decide +kernel
theorem dX8_place_84 : decode cX8_place 84 = .ok (.iload_n 3, 1) := by decide +kernel
theorem dX8_place_85 : decode cX8_place 85 = .ok (.iaload, 1) := by decide +kernel
theorem dX8_place_86 : decode cX8_place 86 = .ok (.if_icmp .gt 25, 3) := by decide +kernel
theorem dX8_place_89 : decode cX8_place 89 = .ok (.aload_n 0, 1) := by decide +kernel
theorem dX8_place_90 : decode cX8_place 90 = .ok (.getfield 48, 3) := by decide +kernel
theorem dX8_place_93 : decode cX8_place 93 = .ok (.iload 5, 2) := by decide +kernel
theorem dX8_place_95 : decode cX8_place 95 = .ok (.iaload, 1) := by decide +kernel
theorem dX8_place_96 : decode cX8_place 96 = .ok (.aload_n 0, 1) := by decide +kernel
theorem dX8_place_97 : decode cX8_place 97 = .ok (.getfield 48, 3) := by decide +kernel
theorem dX8_place_100 : decode cX8_place 100 = .ok (.iload_n 3, 1) := by decide +kernel
theorem dX8_place_101 : decode cX8_place 101 = .ok (.iaload, 1) := by decide +kernel
theorem dX8_place_102 : decode cX8_place 102 = .ok (.if_icmp .ne 13, 3) := by decide +kernel
theorem dX8_place_105 : decode cX8_place 105 = .ok (.iload 5, 2) := by decide +kernel
theorem dX8_place_107 : decode cX8_place 107 = .ok (.iload_n 3, 1) := by decide +kernel
theorem dX8_place_108 : decode cX8_place 108 = .ok (.if_icmp .ge 7, 3) := by decide +kernel
theorem dX8_place_111 : decode cX8_place 111 = .ok (.iconst 1, 1) := by decide +kernel
theorem dX8_place_112 : decode cX8_place 112 = .ok (.goto 4, 3) := by decide +kernel
theorem dX8_place_115 : decode cX8_place 115 = .ok (.iconst 0, 1) := by decide +kernel
theorem dX8_place_116 : decode cX8_place 116 = .ok (.iadd, 1) := by decide +kernel
theorem dX8_place_117 : decode cX8_place 117 = .ok (.istore 4, 2) := by decide +kernel
theorem dX8_place_119 : decode cX8_place 119 = .ok (.iinc 5 1, 3) := by decide +kernel
theorem dX8_place_122 : decode cX8_place 122 = .ok (.goto (-60), 3) := by decide +kernel
theorem dX8_place_125 : decode cX8_place 125 = .ok (.iload 4, 2) := by decide +kernel
theorem dX8_place_127 : decode cX8_place 127 = .ok (.iload_n 1, 1) := by decide +kernel
theorem dX8_place_128 : decode cX8_place 128 = .ok (.if_icmp .ne 5, 3) := by decide +kernel
theorem dX8_place_131 : decode cX8_place 131 = .ok (.iload_n 3, 1) := by decide +kernel
theorem dX8_place_132 : decode cX8_place 132 = .ok (.ireturn, 1) := by decide +kernel
theorem dX8_place_133 : decode cX8_place 133 = .ok (.iinc 3 1, 3) := by decide +kernel
theorem dX8_place_136 : decode cX8_place 136 = .ok (.goto (-88), 3) := by decide +kernel
theorem dX8_place_139 : decode cX8_place 139 = .ok (.bipush (-4), 2) := by decide +kernel
theorem dX8_place_141 : decode cX8_place 141 = .ok (.ireturn, 1) := by decide +kernel
set_option maxRecDepth 20000 in
theorem ggX8_count_X8_areLike : GoodIn wsX8_count wsX8_areLike := goodIn_r _ [8, 9, 10, 11, 12, 7, 13, 14, 15, 16, 92, 93, 94, 95, 96, 97, 98, 99, 100, 101, 102, 103, 104, 105, 106, 107, 108, 109, 110, 111, 112] (by decide +kernel) (by decide +kernel)
set_option maxRecDepth 20000 in
theorem gX8_count_X8_areLike : GoodIn wsX8_count (wsV RX8 156 RX8 yX8_areLike wsX8_areLike) := goodIn_app (goodIn_of _ (by decide +kernel)) ggX8_count_X8_areLike
set_option maxRecDepth 20000 in
theorem ggX8_count_X8_rests : GoodIn wsX8_count wsX8_rests := goodIn_r _ [20, 21, 22, 23, 7, 24, 25, 26, 27, 28, 29, 30, 31, 32, 33, 34, 35, 36, 37, 38, 14, 39, 40, 41, 42, 43, 44, 45, 46, 47, 48, 15, 16, 49, 50, 51, 52, 53, 54, 55, 56, 57, 58, 59, 60, 61, 62, 63, 64, 65, 66, 67, 68, 69, 70, 71, 72, 73, 74, 75, 76, 77, 78, 79, 80, 81, 82, 83, 84, 85, 86, 87, 88, 89, 90, 91, 92, 93, 94, 95, 96, 97, 98, 99, 100, 101, 102, 103, 104, 105, 106, 107, 108, 109, 110, 111, 112] (by decide +kernel) (by decide +kernel)
set_option maxRecDepth 20000 in
theorem gX8_count_X8_rests : GoodIn wsX8_count (wsV RX8 184 RX8 yX8_rests wsX8_rests) := goodIn_app (goodIn_of _ (by decide +kernel)) ggX8_count_X8_rests
theorem dX8_count_0 : decode cX8_count 0 = .ok (.iload_n 1, 1) := by decide +kernel
theorem dX8_count_1 : decode cX8_count 1 = .ok (.iconst 1, 1) := by decide +kernel
theorem dX8_count_2 : decode cX8_count 2 = .ok (.if_icmp .ne 76, 3) := by decide +kernel
theorem dX8_count_5 : decode cX8_count 5 = .ok (.iconst 0, 1) := by decide +kernel
theorem dX8_count_6 : decode cX8_count 6 = .ok (.istore_n 2, 1) := by decide +kernel
theorem dX8_count_7 : decode cX8_count 7 = .ok (.iconst 0, 1) := by decide +kernel
theorem dX8_count_8 : decode cX8_count 8 = .ok (.istore_n 3, 1) := by decide +kernel
theorem dX8_count_9 : decode cX8_count 9 = .ok (.iload_n 3, 1) := by decide +kernel
theorem dX8_count_10 : decode cX8_count 10 = .ok (.aload_n 0, 1) := by decide +kernel
theorem dX8_count_11 : decode cX8_count 11 = .ok (.getfield 63, 3) := by decide +kernel
theorem dX8_count_14 : decode cX8_count 14 = .ok (.if_icmp .ge 62, 3) := by decide +kernel
theorem dX8_count_17 : decode cX8_count 17 = .ok (.iconst 1, 1) := by decide +kernel
theorem dX8_count_18 : decode cX8_count 18 = .ok (.istore 4, 2) := by decide +kernel
theorem dX8_count_20 : decode cX8_count 20 = .ok (.iconst 0, 1) := by decide +kernel
theorem dX8_count_21 : decode cX8_count 21 = .ok (.istore 5, 2) := by decide +kernel
theorem dX8_count_23 : decode cX8_count 23 = .ok (.iload 5, 2) := by decide +kernel
theorem dX8_count_25 : decode cX8_count 25 = .ok (.iload_n 3, 1) := by decide +kernel
theorem dX8_count_26 : decode cX8_count 26 = .ok (.if_icmp .ge 31, 3) := by decide +kernel
theorem dX8_count_29 : decode cX8_count 29 = .ok (.iload 4, 2) := by decide +kernel
theorem dX8_count_31 : decode cX8_count 31 = .ok (.ifCond .eq 17, 3) := by decide +kernel
theorem dX8_count_34 : decode cX8_count 34 = .ok (.aload_n 0, 1) := by decide +kernel
theorem dX8_count_35 : decode cX8_count 35 = .ok (.iload_n 3, 1) := by decide +kernel
theorem dX8_count_36 : decode cX8_count 36 = .ok (.iload 5, 2) := by decide +kernel
theorem dX8_count_38 : decode cX8_count 38 = .ok (.invokevirtual 156, 3) := by decide +kernel
theorem dX8_count_41 : decode cX8_count 41 = .ok (.ifCond .ne 7, 3) := by decide +kernel
theorem dX8_count_44 : decode cX8_count 44 = .ok (.iconst 1, 1) := by decide +kernel
theorem dX8_count_45 : decode cX8_count 45 = .ok (.goto 4, 3) := by decide +kernel
theorem dX8_count_48 : decode cX8_count 48 = .ok (.iconst 0, 1) := by decide +kernel
theorem dX8_count_49 : decode cX8_count 49 = .ok (.istore 4, 2) := by decide +kernel
theorem dX8_count_51 : decode cX8_count 51 = .ok (.iinc 5 1, 3) := by decide +kernel
theorem dX8_count_54 : decode cX8_count 54 = .ok (.goto (-31), 3) := by decide +kernel
theorem dX8_count_57 : decode cX8_count 57 = .ok (.iload_n 2, 1) := by decide +kernel
theorem dX8_count_58 : decode cX8_count 58 = .ok (.iload 4, 2) := by decide +kernel
theorem dX8_count_60 : decode cX8_count 60 = .ok (.ifCond .eq 7, 3) := by decide +kernel
theorem dX8_count_63 : decode cX8_count 63 = .ok (.iconst 1, 1) := by decide +kernel
theorem dX8_count_64 : decode cX8_count 64 = .ok (.goto 4, 3) := by decide +kernel
theorem dX8_count_67 : decode cX8_count 67 = .ok (.iconst 0, 1) := by decide +kernel
theorem dX8_count_68 : decode cX8_count 68 = .ok (.iadd, 1) := by decide +kernel
theorem dX8_count_69 : decode cX8_count 69 = .ok (.istore_n 2, 1) := by decide +kernel
theorem dX8_count_70 : decode cX8_count 70 = .ok (.iinc 3 1, 3) := by decide +kernel
theorem dX8_count_73 : decode cX8_count 73 = .ok (.goto (-64), 3) := by decide +kernel
theorem dX8_count_76 : decode cX8_count 76 = .ok (.iload_n 2, 1) := by decide +kernel
theorem dX8_count_77 : decode cX8_count 77 = .ok (.ireturn, 1) := by decide +kernel
theorem dX8_count_78 : decode cX8_count 78 = .ok (.iload_n 1, 1) := by decide +kernel
theorem dX8_count_79 : decode cX8_count 79 = .ok (.iconst 2, 1) := by decide +kernel
theorem dX8_count_80 : decode cX8_count 80 = .ok (.if_icmp .ne 60, 3) := by decide +kernel
theorem dX8_count_83 : decode cX8_count 83 = .ok (.iconst 0, 1) := by decide +kernel
theorem dX8_count_84 : decode cX8_count 84 = .ok (.istore_n 2, 1) := by decide +kernel
theorem dX8_count_85 : decode cX8_count 85 = .ok (.iconst 0, 1) := by decide +kernel
theorem dX8_count_86 : decode cX8_count 86 = .ok (.istore_n 3, 1) := by decide +kernel
theorem dX8_count_87 : decode cX8_count 87 = .ok (.iload_n 3, 1) := by decide +kernel
theorem dX8_count_88 : decode cX8_count 88 = .ok (.aload_n 0, 1) := by decide +kernel
theorem dX8_count_89 : decode cX8_count 89 = .ok (.getfield 63, 3) := by decide +kernel
theorem dX8_count_92 : decode cX8_count 92 = .ok (.if_icmp .ge 46, 3) := by decide +kernel
theorem dX8_count_95 : decode cX8_count 95 = .ok (.iload_n 3, 1) := by decide +kernel
theorem dX8_count_96 : decode cX8_count 96 = .ok (.istore 4, 2) := by decide +kernel
theorem dX8_count_98 : decode cX8_count 98 = .ok (.iload 4, 2) := by decide +kernel
theorem dX8_count_100 : decode cX8_count 100 = .ok (.aload_n 0, 1) := by decide +kernel
theorem dX8_count_101 : decode cX8_count 101 = .ok (.getfield 63, 3) := by decide +kernel
theorem dX8_count_104 : decode cX8_count 104 = .ok (.if_icmp .ge 28, 3) := by decide +kernel
theorem dX8_count_107 : decode cX8_count 107 = .ok (.iload_n 2, 1) := by decide +kernel
theorem dX8_count_108 : decode cX8_count 108 = .ok (.aload_n 0, 1) := by decide +kernel
theorem dX8_count_109 : decode cX8_count 109 = .ok (.iload_n 3, 1) := by decide +kernel
theorem dX8_count_110 : decode cX8_count 110 = .ok (.iload 4, 2) := by decide +kernel
theorem dX8_count_112 : decode cX8_count 112 = .ok (.iconst 0, 1) := by decide +kernel
theorem dX8_count_113 : decode cX8_count 113 = .ok (.invokevirtual 184, 3) := by decide +kernel
theorem dX8_count_116 : decode cX8_count 116 = .ok (.ifCond .eq 7, 3) := by decide +kernel
theorem dX8_count_119 : decode cX8_count 119 = .ok (.iconst 1, 1) := by decide +kernel
theorem dX8_count_120 : decode cX8_count 120 = .ok (.goto 4, 3) := by decide +kernel
theorem dX8_count_123 : decode cX8_count 123 = .ok (.iconst 0, 1) := by decide +kernel
theorem dX8_count_124 : decode cX8_count 124 = .ok (.iadd, 1) := by decide +kernel
theorem dX8_count_125 : decode cX8_count 125 = .ok (.istore_n 2, 1) := by decide +kernel
theorem dX8_count_126 : decode cX8_count 126 = .ok (.iinc 4 1, 3) := by decide +kernel
theorem dX8_count_129 : decode cX8_count 129 = .ok (.goto (-31), 3) := by decide +kernel
theorem dX8_count_132 : decode cX8_count 132 = .ok (.iinc 3 1, 3) := by decide +kernel
theorem dX8_count_135 : decode cX8_count 135 = .ok (.goto (-48), 3) := by decide +kernel
theorem dX8_count_138 : decode cX8_count 138 = .ok (.iload_n 2, 1) := by decide +kernel
theorem dX8_count_139 : decode cX8_count 139 = .ok (.ireturn, 1) := by decide +kernel
theorem dX8_count_140 : decode cX8_count 140 = .ok (.iload_n 1, 1) := by decide +kernel
theorem dX8_count_141 : decode cX8_count 141 = .ok (.ifCond .ne 10, 3) := by decide +kernel
theorem dX8_count_144 : decode cX8_count 144 = .ok (.aload_n 0, 1) := by decide +kernel
theorem dX8_count_145 : decode cX8_count 145 = .ok (.getfield 63, 3) := by decide +kernel
theorem dX8_count_148 : decode cX8_count 148 = .ok (.goto 34, 3) := by decide +kernel
theorem dX8_count_151 : decode cX8_count 151 = .ok (.iload_n 1, 1) := by decide +kernel
theorem dX8_count_152 : decode cX8_count 152 = .ok (.iconst 3, 1) := by decide +kernel
theorem dX8_count_153 : decode cX8_count 153 = .ok (.if_icmp .ne 28, 3) := by decide +kernel
theorem dX8_count_156 : decode cX8_count 156 = .ok (.aload_n 0, 1) := by decide +kernel
theorem dX8_count_157 : decode cX8_count 157 = .ok (.getfield 29, 3) := by decide +kernel
theorem dX8_count_160 : decode cX8_count 160 = .ok (.iconst 0, 1) := by decide +kernel
theorem dX8_count_161 : decode cX8_count 161 = .ok (.iaload, 1) := by decide +kernel
theorem dX8_count_162 : decode cX8_count 162 = .ok (.bipush (-4), 2) := by decide +kernel
theorem dX8_count_164 : decode cX8_count 164 = .ok (.if_icmp .ne 8, 3) := by decide +kernel
theorem dX8_count_167 : decode cX8_count 167 = .ok (.bipush (-4), 2) := by decide +kernel
theorem dX8_count_169 : decode cX8_count 169 = .ok (.goto 13, 3) := by decide +kernel
theorem dX8_count_172 : decode cX8_count 172 = .ok (.aload_n 0, 1) := by decide +kernel
theorem dX8_count_173 : decode cX8_count 173 = .ok (.getfield 32, 3) := by decide +kernel
theorem dX8_count_176 : decode cX8_count 176 = .ok (.iconst 0, 1) := by decide +kernel
theorem dX8_count_177 : decode cX8_count 177 = .ok (.iaload, 1) := by decide +kernel
theorem dX8_count_178 : decode cX8_count 178 = .ok (.goto 4, 3) := by decide +kernel
theorem dX8_count_181 : decode cX8_count 181 = .ok (.iconst (-1), 1) := by decide +kernel
theorem dX8_count_182 : decode cX8_count 182 = .ok (.ireturn, 1) := by decide +kernel
theorem dJ13_compare_74951_0 : decode cJ13_compare_74951 0 = .ok (.lload_n 0, 1) := by decide +kernel
theorem dJ13_compare_74951_1 : decode cJ13_compare_74951 1 = .ok (.lload_n 2, 1) := by decide +kernel
theorem dJ13_compare_74951_2 : decode cJ13_compare_74951 2 = .ok (.lcmp, 1) := by decide +kernel
theorem dJ13_compare_74951_3 : decode cJ13_compare_74951 3 = .ok (.ifCond .ge 7, 3) := by decide +kernel
theorem dJ13_compare_74951_6 : decode cJ13_compare_74951 6 = .ok (.iconst (-1), 1) := by decide +kernel
theorem dJ13_compare_74951_7 : decode cJ13_compare_74951 7 = .ok (.goto 14, 3) := by decide +kernel
theorem dJ13_compare_74951_10 : decode cJ13_compare_74951 10 = .ok (.lload_n 0, 1) := by decide +kernel
theorem dJ13_compare_74951_11 : decode cJ13_compare_74951 11 = .ok (.lload_n 2, 1) := by decide +kernel
theorem dJ13_compare_74951_12 : decode cJ13_compare_74951 12 = .ok (.lcmp, 1) := by decide +kernel
theorem dJ13_compare_74951_13 : decode cJ13_compare_74951 13 = .ok (.ifCond .ne 7, 3) := by decide +kernel
theorem dJ13_compare_74951_16 : decode cJ13_compare_74951 16 = .ok (.iconst 0, 1) := by decide +kernel
theorem dJ13_compare_74951_17 : decode cJ13_compare_74951 17 = .ok (.goto 4, 3) := by decide +kernel
theorem dJ13_compare_74951_20 : decode cJ13_compare_74951 20 = .ok (.iconst 1, 1) := by decide +kernel
theorem dJ13_compare_74951_21 : decode cJ13_compare_74951 21 = .ok (.ireturn, 1) := by decide +kernel
theorem dJ9_abs_067f4_0 : decode cJ9_abs_067f4 0 = .ok (.lload_n 0, 1) := by decide +kernel
theorem dJ9_abs_067f4_1 : decode cJ9_abs_067f4 1 = .ok (.lconst 0, 1) := by decide +kernel
theorem dJ9_abs_067f4_2 : decode cJ9_abs_067f4 2 = .ok (.lcmp, 1) := by decide +kernel
theorem dJ9_abs_067f4_3 : decode cJ9_abs_067f4 3 = .ok (.ifCond .ge 8, 3) := by decide +kernel
theorem dJ9_abs_067f4_6 : decode cJ9_abs_067f4 6 = .ok (.lload_n 0, 1) := by decide +kernel
theorem dJ9_abs_067f4_7 : decode cJ9_abs_067f4 7 = .ok (.lneg, 1) := by decide +kernel
theorem dJ9_abs_067f4_8 : decode cJ9_abs_067f4 8 = .ok (.goto 4, 3) := by decide +kernel
theorem dJ9_abs_067f4_11 : decode cJ9_abs_067f4 11 = .ok (.lload_n 0, 1) := by decide +kernel
theorem dJ9_abs_067f4_12 : decode cJ9_abs_067f4 12 = .ok (.lreturn, 1) := by decide +kernel
theorem dJ7_rangeCheck_23922_0 : decode cJ7_rangeCheck_23922 0 = .ok (.iload_n 1, 1) := by decide +kernel
theorem dJ7_rangeCheck_23922_1 : decode cJ7_rangeCheck_23922 1 = .ok (.iload_n 2, 1) := by decide +kernel
theorem dJ7_rangeCheck_23922_2 : decode cJ7_rangeCheck_23922 2 = .ok (.if_icmp .le 44, 3) := by decide +kernel
theorem dJ7_rangeCheck_23922_5 : decode cJ7_rangeCheck_23922 5 = .ok (.new 43, 3) := by decide +kernel
theorem dJ7_rangeCheck_23922_8 : decode cJ7_rangeCheck_23922 8 = .ok (.dup, 1) := by decide +kernel
theorem dJ7_rangeCheck_23922_9 : decode cJ7_rangeCheck_23922 9 = .ok (.new 45, 3) := by decide +kernel
theorem dJ7_rangeCheck_23922_12 : decode cJ7_rangeCheck_23922 12 = .ok (.dup, 1) := by decide +kernel
theorem dJ7_rangeCheck_23922_13 : decode cJ7_rangeCheck_23922 13 = .ok (.invokespecial 47, 3) := by decide +kernel
theorem dJ7_rangeCheck_23922_16 : decode cJ7_rangeCheck_23922 16 = .ok (.ldc 48, 2) := by decide +kernel
theorem dJ7_rangeCheck_23922_18 : decode cJ7_rangeCheck_23922 18 = .ok (.invokevirtual 50, 3) := by decide +kernel
theorem dJ7_rangeCheck_23922_21 : decode cJ7_rangeCheck_23922 21 = .ok (.iload_n 1, 1) := by decide +kernel
theorem dJ7_rangeCheck_23922_22 : decode cJ7_rangeCheck_23922 22 = .ok (.invokevirtual 54, 3) := by decide +kernel
theorem dJ7_rangeCheck_23922_25 : decode cJ7_rangeCheck_23922 25 = .ok (.ldc 57, 2) := by decide +kernel
theorem dJ7_rangeCheck_23922_27 : decode cJ7_rangeCheck_23922 27 = .ok (.invokevirtual 50, 3) := by decide +kernel
theorem dJ7_rangeCheck_23922_30 : decode cJ7_rangeCheck_23922 30 = .ok (.iload_n 2, 1) := by decide +kernel
theorem dJ7_rangeCheck_23922_31 : decode cJ7_rangeCheck_23922 31 = .ok (.invokevirtual 54, 3) := by decide +kernel
theorem dJ7_rangeCheck_23922_34 : decode cJ7_rangeCheck_23922 34 = .ok (.ldc 59, 2) := by decide +kernel
theorem dJ7_rangeCheck_23922_36 : decode cJ7_rangeCheck_23922 36 = .ok (.invokevirtual 50, 3) := by decide +kernel
theorem dJ7_rangeCheck_23922_39 : decode cJ7_rangeCheck_23922 39 = .ok (.invokevirtual 61, 3) := by decide +kernel
theorem dJ7_rangeCheck_23922_42 : decode cJ7_rangeCheck_23922 42 = .ok (.invokespecial 65, 3) := by decide +kernel
theorem dJ7_rangeCheck_23922_45 : decode cJ7_rangeCheck_23922 45 = .ok (.athrow, 1) := by decide +kernel
theorem dJ7_rangeCheck_23922_46 : decode cJ7_rangeCheck_23922 46 = .ok (.iload_n 1, 1) := by decide +kernel
theorem dJ7_rangeCheck_23922_47 : decode cJ7_rangeCheck_23922 47 = .ok (.ifCond .ge 12, 3) := by decide +kernel
theorem dJ7_rangeCheck_23922_50 : decode cJ7_rangeCheck_23922 50 = .ok (.new 68, 3) := by decide +kernel
theorem dJ7_rangeCheck_23922_53 : decode cJ7_rangeCheck_23922 53 = .ok (.dup, 1) := by decide +kernel
theorem dJ7_rangeCheck_23922_54 : decode cJ7_rangeCheck_23922 54 = .ok (.iload_n 1, 1) := by decide +kernel
theorem dJ7_rangeCheck_23922_55 : decode cJ7_rangeCheck_23922 55 = .ok (.invokespecial 70, 3) := by decide +kernel
theorem dJ7_rangeCheck_23922_58 : decode cJ7_rangeCheck_23922 58 = .ok (.athrow, 1) := by decide +kernel
theorem dJ7_rangeCheck_23922_59 : decode cJ7_rangeCheck_23922 59 = .ok (.iload_n 2, 1) := by decide +kernel
theorem dJ7_rangeCheck_23922_60 : decode cJ7_rangeCheck_23922 60 = .ok (.iload_n 0, 1) := by decide +kernel
theorem dJ7_rangeCheck_23922_61 : decode cJ7_rangeCheck_23922 61 = .ok (.if_icmp .le 12, 3) := by decide +kernel
theorem dJ7_rangeCheck_23922_64 : decode cJ7_rangeCheck_23922 64 = .ok (.new 68, 3) := by decide +kernel
theorem dJ7_rangeCheck_23922_67 : decode cJ7_rangeCheck_23922 67 = .ok (.dup, 1) := by decide +kernel
theorem dJ7_rangeCheck_23922_68 : decode cJ7_rangeCheck_23922 68 = .ok (.iload_n 2, 1) := by decide +kernel
theorem dJ7_rangeCheck_23922_69 : decode cJ7_rangeCheck_23922 69 = .ok (.invokespecial 70, 3) := by decide +kernel
theorem dJ7_rangeCheck_23922_72 : decode cJ7_rangeCheck_23922 72 = .ok (.athrow, 1) := by decide +kernel
theorem dJ7_rangeCheck_23922_73 : decode cJ7_rangeCheck_23922 73 = .ok (.return_, 1) := by decide +kernel
theorem dJ7_fill_53178_0 : decode cJ7_fill_53178 0 = .ok (.iconst 0, 1) := by decide +kernel
theorem dJ7_fill_53178_1 : decode cJ7_fill_53178 1 = .ok (.istore_n 2, 1) := by decide +kernel
theorem dJ7_fill_53178_2 : decode cJ7_fill_53178 2 = .ok (.aload_n 0, 1) := by decide +kernel
theorem dJ7_fill_53178_3 : decode cJ7_fill_53178 3 = .ok (.arraylength, 1) := by decide +kernel
theorem dJ7_fill_53178_4 : decode cJ7_fill_53178 4 = .ok (.istore_n 3, 1) := by decide +kernel
theorem dJ7_fill_53178_5 : decode cJ7_fill_53178 5 = .ok (.iload_n 2, 1) := by decide +kernel
theorem dJ7_fill_53178_6 : decode cJ7_fill_53178 6 = .ok (.iload_n 3, 1) := by decide +kernel
theorem dJ7_fill_53178_7 : decode cJ7_fill_53178 7 = .ok (.if_icmp .ge 13, 3) := by decide +kernel
theorem dJ7_fill_53178_10 : decode cJ7_fill_53178 10 = .ok (.aload_n 0, 1) := by decide +kernel
theorem dJ7_fill_53178_11 : decode cJ7_fill_53178 11 = .ok (.iload_n 2, 1) := by decide +kernel
theorem dJ7_fill_53178_12 : decode cJ7_fill_53178 12 = .ok (.iload_n 1, 1) := by decide +kernel
theorem dJ7_fill_53178_13 : decode cJ7_fill_53178 13 = .ok (.iastore, 1) := by decide +kernel
theorem dJ7_fill_53178_14 : decode cJ7_fill_53178 14 = .ok (.iinc 2 1, 3) := by decide +kernel
theorem dJ7_fill_53178_17 : decode cJ7_fill_53178 17 = .ok (.goto (-12), 3) := by decide +kernel
theorem dJ7_fill_53178_20 : decode cJ7_fill_53178 20 = .ok (.return_, 1) := by decide +kernel
set_option maxRecDepth 20000 in
theorem ggJ7_fill_fda19_J7_rangeCheck_23922 : GoodIn wsJ7_fill_fda19 wsJ7_rangeCheck_23922 := goodIn_r _ [4] (by decide +kernel) (by decide +kernel)
set_option maxRecDepth 20000 in
theorem gJ7_fill_fda19_J7_rangeCheck_23922 : GoodIn wsJ7_fill_fda19 (va_wsS RJ7 13 yJ7_rangeCheck_23922 wsJ7_rangeCheck_23922) := goodIn_app (goodIn_of _ (by decide +kernel)) ggJ7_fill_fda19_J7_rangeCheck_23922
theorem dJ7_fill_fda19_0 : decode cJ7_fill_fda19 0 = .ok (.aload_n 0, 1) := by decide +kernel
theorem dJ7_fill_fda19_1 : decode cJ7_fill_fda19 1 = .ok (.arraylength, 1) := by decide +kernel
theorem dJ7_fill_fda19_2 : decode cJ7_fill_fda19 2 = .ok (.iload_n 1, 1) := by decide +kernel
theorem dJ7_fill_fda19_3 : decode cJ7_fill_fda19 3 = .ok (.iload_n 2, 1) := by decide +kernel
theorem dJ7_fill_fda19_4 : decode cJ7_fill_fda19 4 = .ok (.invokestatic 13, 3) := by decide +kernel
theorem dJ7_fill_fda19_7 : decode cJ7_fill_fda19 7 = .ok (.iload_n 1, 1) := by decide +kernel
theorem dJ7_fill_fda19_8 : decode cJ7_fill_fda19 8 = .ok (.istore 4, 2) := by decide +kernel
theorem dJ7_fill_fda19_10 : decode cJ7_fill_fda19 10 = .ok (.iload 4, 2) := by decide +kernel
theorem dJ7_fill_fda19_12 : decode cJ7_fill_fda19 12 = .ok (.iload_n 2, 1) := by decide +kernel
theorem dJ7_fill_fda19_13 : decode cJ7_fill_fda19 13 = .ok (.if_icmp .ge 14, 3) := by decide +kernel
theorem dJ7_fill_fda19_16 : decode cJ7_fill_fda19 16 = .ok (.aload_n 0, 1) := by decide +kernel
theorem dJ7_fill_fda19_17 : decode cJ7_fill_fda19 17 = .ok (.iload 4, 2) := by decide +kernel
theorem dJ7_fill_fda19_19 : decode cJ7_fill_fda19 19 = .ok (.iload_n 3, 1) := by decide +kernel
theorem dJ7_fill_fda19_20 : decode cJ7_fill_fda19 20 = .ok (.iastore, 1) := by decide +kernel
theorem dJ7_fill_fda19_21 : decode cJ7_fill_fda19 21 = .ok (.iinc 4 1, 3) := by decide +kernel
theorem dJ7_fill_fda19_24 : decode cJ7_fill_fda19 24 = .ok (.goto (-14), 3) := by decide +kernel
theorem dJ7_fill_fda19_27 : decode cJ7_fill_fda19 27 = .ok (.return_, 1) := by decide +kernel
