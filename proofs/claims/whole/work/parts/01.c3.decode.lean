theorem dX7_orders_73 : decode cX7_orders 73 = .ok (.iload 6, 2) := by decide +kernel
theorem dX7_orders_75 : decode cX7_orders 75 = .ok (.iaload, 1) := by decide +kernel
theorem dX7_orders_76 : decode cX7_orders 76 = .ok (.goto 5, 3) := by decide +kernel
theorem dX7_orders_79 : decode cX7_orders 79 = .ok (.iload 4, 2) := by decide +kernel
theorem dX7_orders_81 : decode cX7_orders 81 = .ok (.istore 4, 2) := by decide +kernel
theorem dX7_orders_83 : decode cX7_orders 83 = .ok (.iload 5, 2) := by decide +kernel
theorem dX7_orders_85 : decode cX7_orders 85 = .ok (.aload_n 0, 1) := by decide +kernel
theorem dX7_orders_86 : decode cX7_orders 86 = .ok (.getfield 43, 3) := by decide +kernel
theorem dX7_orders_89 : decode cX7_orders 89 = .ok (.iload 6, 2) := by decide +kernel
theorem dX7_orders_91 : decode cX7_orders 91 = .ok (.iaload, 1) := by decide +kernel
theorem dX7_orders_92 : decode cX7_orders 92 = .ok (.iload_n 2, 1) := by decide +kernel
theorem dX7_orders_93 : decode cX7_orders 93 = .ok (.if_icmp .ne 7, 3) := by decide +kernel
theorem dX7_orders_96 : decode cX7_orders 96 = .ok (.iconst 1, 1) := by decide +kernel
theorem dX7_orders_97 : decode cX7_orders 97 = .ok (.goto 4, 3) := by decide +kernel
theorem dX7_orders_100 : decode cX7_orders 100 = .ok (.iconst 0, 1) := by decide +kernel
theorem dX7_orders_101 : decode cX7_orders 101 = .ok (.iadd, 1) := by decide +kernel
theorem dX7_orders_102 : decode cX7_orders 102 = .ok (.istore 5, 2) := by decide +kernel
theorem dX7_orders_104 : decode cX7_orders 104 = .ok (.iinc 6 1, 3) := by decide +kernel
theorem dX7_orders_107 : decode cX7_orders 107 = .ok (.goto (-56), 3) := by decide +kernel
theorem dX7_orders_110 : decode cX7_orders 110 = .ok (.iload_n 3, 1) := by decide +kernel
theorem dX7_orders_111 : decode cX7_orders 111 = .ok (.ifCond .ne 8, 3) := by decide +kernel
theorem dX7_orders_114 : decode cX7_orders 114 = .ok (.iload 4, 2) := by decide +kernel
theorem dX7_orders_116 : decode cX7_orders 116 = .ok (.goto 5, 3) := by decide +kernel
theorem dX7_orders_119 : decode cX7_orders 119 = .ok (.iload 5, 2) := by decide +kernel
theorem dX7_orders_121 : decode cX7_orders 121 = .ok (.ireturn, 1) := by decide +kernel
set_option maxRecDepth 20000 in
theorem ggX7_makers_X7_isBy : GoodIn wsX7_makers wsX7_isBy := goodIn_r _ [5, 6, 7, 8, 9, 4, 10] (by decide +kernel) (by decide +kernel)
set_option maxRecDepth 20000 in
theorem gX7_makers_X7_isBy : GoodIn wsX7_makers (va_wsS RX7 68 yX7_isBy wsX7_isBy) := goodIn_app (goodIn_of _ (by decide +kernel)) ggX7_makers_X7_isBy
set_option maxRecDepth 20000 in
theorem ggX7_makers_X7_walks : GoodIn wsX7_makers wsX7_walks := goodIn_r _ [14, 1, 15, 16, 4, 17, 18, 19, 20, 21, 22, 23, 24, 25, 26, 27, 28, 29, 30, 31, 32, 33, 34, 35, 36, 37, 38, 39, 40, 41] (by decide +kernel) (by decide +kernel)
set_option maxRecDepth 20000 in
theorem gX7_makers_X7_walks : GoodIn wsX7_makers (wsV RX7 82 RX7 yX7_walks wsX7_walks) := goodIn_app (goodIn_of _ (by decide +kernel)) ggX7_makers_X7_walks
theorem dX7_makers_0 : decode cX7_makers 0 = .ok (.iload_n 1, 1) := by decide +kernel
theorem dX7_makers_1 : decode cX7_makers 1 = .ok (.invokestatic 68, 3) := by decide +kernel
theorem dX7_makers_4 : decode cX7_makers 4 = .ok (.ifCond .eq 8, 3) := by decide +kernel
theorem dX7_makers_7 : decode cX7_makers 7 = .ok (.iload_n 2, 1) := by decide +kernel
theorem dX7_makers_8 : decode cX7_makers 8 = .ok (.iconst (-1), 1) := by decide +kernel
theorem dX7_makers_9 : decode cX7_makers 9 = .ok (.if_icmp .ge 5, 3) := by decide +kernel
theorem dX7_makers_12 : decode cX7_makers 12 = .ok (.iconst (-1), 1) := by decide +kernel
theorem dX7_makers_13 : decode cX7_makers 13 = .ok (.ireturn, 1) := by decide +kernel
theorem dX7_makers_14 : decode cX7_makers 14 = .ok (.aload_n 0, 1) := by decide +kernel
theorem dX7_makers_15 : decode cX7_makers 15 = .ok (.iload_n 1, 1) := by decide +kernel
theorem dX7_makers_16 : decode cX7_makers 16 = .ok (.invokevirtual 82, 3) := by decide +kernel
theorem dX7_makers_19 : decode cX7_makers 19 = .ok (.istore_n 3, 1) := by decide +kernel
theorem dX7_makers_20 : decode cX7_makers 20 = .ok (.iconst 0, 1) := by decide +kernel
theorem dX7_makers_21 : decode cX7_makers 21 = .ok (.istore 4, 2) := by decide +kernel
theorem dX7_makers_23 : decode cX7_makers 23 = .ok (.iconst 0, 1) := by decide +kernel
theorem dX7_makers_24 : decode cX7_makers 24 = .ok (.istore 5, 2) := by decide +kernel
theorem dX7_makers_26 : decode cX7_makers 26 = .ok (.iload 5, 2) := by decide +kernel
theorem dX7_makers_28 : decode cX7_makers 28 = .ok (.iload_n 1, 1) := by decide +kernel
theorem dX7_makers_29 : decode cX7_makers 29 = .ok (.if_icmp .ge 32, 3) := by decide +kernel
theorem dX7_makers_32 : decode cX7_makers 32 = .ok (.aload_n 0, 1) := by decide +kernel
theorem dX7_makers_33 : decode cX7_makers 33 = .ok (.getfield 43, 3) := by decide +kernel
theorem dX7_makers_36 : decode cX7_makers 36 = .ok (.iload 5, 2) := by decide +kernel
theorem dX7_makers_38 : decode cX7_makers 38 = .ok (.iaload, 1) := by decide +kernel
theorem dX7_makers_39 : decode cX7_makers 39 = .ok (.iload_n 3, 1) := by decide +kernel
theorem dX7_makers_40 : decode cX7_makers 40 = .ok (.if_icmp .ne 15, 3) := by decide +kernel
theorem dX7_makers_43 : decode cX7_makers 43 = .ok (.iload 4, 2) := by decide +kernel
theorem dX7_makers_45 : decode cX7_makers 45 = .ok (.iload_n 2, 1) := by decide +kernel
theorem dX7_makers_46 : decode cX7_makers 46 = .ok (.if_icmp .ne 6, 3) := by decide +kernel
theorem dX7_makers_49 : decode cX7_makers 49 = .ok (.iload 5, 2) := by decide +kernel
theorem dX7_makers_51 : decode cX7_makers 51 = .ok (.ireturn, 1) := by decide +kernel
theorem dX7_makers_52 : decode cX7_makers 52 = .ok (.iinc 4 1, 3) := by decide +kernel
theorem dX7_makers_55 : decode cX7_makers 55 = .ok (.iinc 5 1, 3) := by decide +kernel
theorem dX7_makers_58 : decode cX7_makers 58 = .ok (.goto (-32), 3) := by decide +kernel
theorem dX7_makers_61 : decode cX7_makers 61 = .ok (.iload_n 2, 1) := by decide +kernel
theorem dX7_makers_62 : decode cX7_makers 62 = .ok (.ifCond .ge 8, 3) := by decide +kernel
theorem dX7_makers_65 : decode cX7_makers 65 = .ok (.iload 4, 2) := by decide +kernel
theorem dX7_makers_67 : decode cX7_makers 67 = .ok (.goto 5, 3) := by decide +kernel
theorem dX7_makers_70 : decode cX7_makers 70 = .ok (.bipush (-4), 2) := by decide +kernel
theorem dX7_makers_72 : decode cX7_makers 72 = .ok (.ireturn, 1) := by decide +kernel
set_option maxRecDepth 20000 in
theorem ggX7_power_X7_isBy : GoodIn wsX7_power wsX7_isBy := goodIn_r _ [5, 6, 7, 8, 9, 4, 10] (by decide +kernel) (by decide +kernel)
set_option maxRecDepth 20000 in
theorem gX7_power_X7_isBy : GoodIn wsX7_power (va_wsS RX7 68 yX7_isBy wsX7_isBy) := goodIn_app (goodIn_of _ (by decide +kernel)) ggX7_power_X7_isBy
set_option maxRecDepth 20000 in
theorem ggX7_power_X7_isRest : GoodIn wsX7_power wsX7_isRest := goodIn_r _ [13, 8, 9, 4, 10] (by decide +kernel) (by decide +kernel)
set_option maxRecDepth 20000 in
theorem gX7_power_X7_isRest : GoodIn wsX7_power (va_wsS RX7 76 yX7_isRest wsX7_isRest) := goodIn_app (goodIn_of _ (by decide +kernel)) ggX7_power_X7_isRest
set_option maxRecDepth 20000 in
theorem ggX7_power_X7_in : GoodIn wsX7_power wsX7_in := goodIn_r _ [10] (by decide +kernel) (by decide +kernel)
set_option maxRecDepth 20000 in
theorem gX7_power_X7_in : GoodIn wsX7_power (va_wsS RX7 60 yX7_in wsX7_in) := goodIn_app (goodIn_of _ (by decide +kernel)) ggX7_power_X7_in
set_option maxRecDepth 20000 in
theorem ggX7_power_X7_powerOf : GoodIn wsX7_power wsX7_powerOf := goodIn_r _ [16, 6] (by decide +kernel) (by decide +kernel)
set_option maxRecDepth 20000 in
theorem gX7_power_X7_powerOf : GoodIn wsX7_power (va_wsS RX7 88 yX7_powerOf wsX7_powerOf) := goodIn_app (goodIn_of _ (by decide +kernel)) ggX7_power_X7_powerOf
theorem dX7_power_0 : decode cX7_power 0 = .ok (.iload_n 1, 1) := by decide +kernel
theorem dX7_power_1 : decode cX7_power 1 = .ok (.invokestatic 68, 3) := by decide +kernel
theorem dX7_power_4 : decode cX7_power 4 = .ok (.ifCond .eq 31, 3) := by decide +kernel
theorem dX7_power_7 : decode cX7_power 7 = .ok (.iload_n 1, 1) := by decide +kernel
theorem dX7_power_8 : decode cX7_power 8 = .ok (.iload_n 2, 1) := by decide +kernel
theorem dX7_power_9 : decode cX7_power 9 = .ok (.invokestatic 76, 3) := by decide +kernel
theorem dX7_power_12 : decode cX7_power 12 = .ok (.ifCond .eq 23, 3) := by decide +kernel
theorem dX7_power_15 : decode cX7_power 15 = .ok (.lload_n 3, 1) := by decide +kernel
theorem dX7_power_16 : decode cX7_power 16 = .ok (.lconst 0, 1) := by decide +kernel
theorem dX7_power_17 : decode cX7_power 17 = .ok (.ldc2_w 86, 3) := by decide +kernel
theorem dX7_power_20 : decode cX7_power 20 = .ok (.invokestatic 60, 3) := by decide +kernel
theorem dX7_power_23 : decode cX7_power 23 = .ok (.ifCond .eq 12, 3) := by decide +kernel
theorem dX7_power_26 : decode cX7_power 26 = .ok (.iload_n 1, 1) := by decide +kernel
theorem dX7_power_27 : decode cX7_power 27 = .ok (.iload_n 2, 1) := by decide +kernel
theorem dX7_power_28 : decode cX7_power 28 = .ok (.lload_n 3, 1) := by decide +kernel
theorem dX7_power_29 : decode cX7_power 29 = .ok (.invokestatic 88, 3) := by decide +kernel
theorem dX7_power_32 : decode cX7_power 32 = .ok (.goto 4, 3) := by decide +kernel
theorem dX7_power_35 : decode cX7_power 35 = .ok (.iconst (-1), 1) := by decide +kernel
theorem dX7_power_36 : decode cX7_power 36 = .ok (.ireturn, 1) := by decide +kernel
set_option maxRecDepth 20000 in
theorem ggX7_log_X7_isBy : GoodIn wsX7_log wsX7_isBy := goodIn_r _ [4, 5, 6, 7, 8, 3, 9] (by decide +kernel) (by decide +kernel)
set_option maxRecDepth 20000 in
theorem gX7_log_X7_isBy : GoodIn wsX7_log (va_wsS RX7 68 yX7_isBy wsX7_isBy) := goodIn_app (goodIn_of _ (by decide +kernel)) ggX7_log_X7_isBy
set_option maxRecDepth 20000 in
theorem ggX7_log_X7_isRest : GoodIn wsX7_log wsX7_isRest := goodIn_r _ [12, 7, 8, 3, 9] (by decide +kernel) (by decide +kernel)
set_option maxRecDepth 20000 in
theorem gX7_log_X7_isRest : GoodIn wsX7_log (va_wsS RX7 76 yX7_isRest wsX7_isRest) := goodIn_app (goodIn_of _ (by decide +kernel)) ggX7_log_X7_isRest
theorem dX7_log_0 : decode cX7_log 0 = .ok (.iload_n 1, 1) := by decide +kernel
theorem dX7_log_1 : decode cX7_log 1 = .ok (.invokestatic 68, 3) := by decide +kernel
theorem dX7_log_4 : decode cX7_log 4 = .ok (.ifCond .eq 19, 3) := by decide +kernel
theorem dX7_log_7 : decode cX7_log 7 = .ok (.iload_n 1, 1) := by decide +kernel
theorem dX7_log_8 : decode cX7_log 8 = .ok (.iload_n 2, 1) := by decide +kernel
theorem dX7_log_9 : decode cX7_log 9 = .ok (.invokestatic 76, 3) := by decide +kernel
theorem dX7_log_12 : decode cX7_log 12 = .ok (.ifCond .eq 11, 3) := by decide +kernel
theorem dX7_log_15 : decode cX7_log 15 = .ok (.iload_n 1, 1) := by decide +kernel
theorem dX7_log_16 : decode cX7_log 16 = .ok (.iload_n 3, 1) := by decide +kernel
theorem dX7_log_17 : decode cX7_log 17 = .ok (.invokestatic 76, 3) := by decide +kernel
theorem dX7_log_20 : decode cX7_log 20 = .ok (.ifCond .ne 5, 3) := by decide +kernel
theorem dX7_log_23 : decode cX7_log 23 = .ok (.iconst (-1), 1) := by decide +kernel
theorem dX7_log_24 : decode cX7_log 24 = .ok (.ireturn, 1) := by decide +kernel
theorem dX7_log_25 : decode cX7_log 25 = .ok (.lconst 1, 1) := by decide +kernel
theorem dX7_log_26 : decode cX7_log 26 = .ok (.lstore 4, 2) := by decide +kernel
theorem dX7_log_28 : decode cX7_log 28 = .ok (.iconst 0, 1) := by decide +kernel
theorem dX7_log_29 : decode cX7_log 29 = .ok (.istore 6, 2) := by decide +kernel
theorem dX7_log_31 : decode cX7_log 31 = .ok (.iload 6, 2) := by decide +kernel
theorem dX7_log_33 : decode cX7_log 33 = .ok (.iload_n 1, 1) := by decide +kernel
theorem dX7_log_34 : decode cX7_log 34 = .ok (.if_icmp .gt 30, 3) := by decide +kernel
theorem dX7_log_37 : decode cX7_log 37 = .ok (.lload 4, 2) := by decide +kernel
theorem dX7_log_39 : decode cX7_log 39 = .ok (.iload_n 3, 1) := by decide +kernel
theorem dX7_log_40 : decode cX7_log 40 = .ok (.i2l, 1) := by decide +kernel
theorem dX7_log_41 : decode cX7_log 41 = .ok (.lcmp, 1) := by decide +kernel
theorem dX7_log_42 : decode cX7_log 42 = .ok (.ifCond .ne 6, 3) := by decide +kernel
theorem dX7_log_45 : decode cX7_log 45 = .ok (.iload 6, 2) := by decide +kernel
theorem dX7_log_47 : decode cX7_log 47 = .ok (.ireturn, 1) := by decide +kernel
theorem dX7_log_48 : decode cX7_log 48 = .ok (.lload 4, 2) := by decide +kernel
theorem dX7_log_50 : decode cX7_log 50 = .ok (.iload_n 2, 1) := by decide +kernel
theorem dX7_log_51 : decode cX7_log 51 = .ok (.i2l, 1) := by decide +kernel
theorem dX7_log_52 : decode cX7_log 52 = .ok (.lmul, 1) := by decide +kernel
theorem dX7_log_53 : decode cX7_log 53 = .ok (.iload_n 1, 1) := by decide +kernel
theorem dX7_log_54 : decode cX7_log 54 = .ok (.i2l, 1) := by decide +kernel
theorem dX7_log_55 : decode cX7_log 55 = .ok (.lrem, 1) := by decide +kernel
theorem dX7_log_56 : decode cX7_log 56 = .ok (.lstore 4, 2) := by decide +kernel
theorem dX7_log_58 : decode cX7_log 58 = .ok (.iinc 6 1, 3) := by decide +kernel
theorem dX7_log_61 : decode cX7_log 61 = .ok (.goto (-30), 3) := by decide +kernel
theorem dX7_log_64 : decode cX7_log 64 = .ok (.bipush (-4), 2) := by decide +kernel
theorem dX7_log_66 : decode cX7_log 66 = .ok (.ireturn, 1) := by decide +kernel
set_option maxRecDepth 20000 in
theorem ggX7_roots_X7_isBy : GoodIn wsX7_roots wsX7_isBy := goodIn_r _ [5, 6, 7, 8, 9, 4, 10] (by decide +kernel) (by decide +kernel)
set_option maxRecDepth 20000 in
theorem gX7_roots_X7_isBy : GoodIn wsX7_roots (va_wsS RX7 68 yX7_isBy wsX7_isBy) := goodIn_app (goodIn_of _ (by decide +kernel)) ggX7_roots_X7_isBy
set_option maxRecDepth 20000 in
theorem ggX7_roots_X7_isRest : GoodIn wsX7_roots wsX7_isRest := goodIn_r _ [13, 8, 9, 4, 10] (by decide +kernel) (by decide +kernel)
set_option maxRecDepth 20000 in
theorem gX7_roots_X7_isRest : GoodIn wsX7_roots (va_wsS RX7 76 yX7_isRest wsX7_isRest) := goodIn_app (goodIn_of _ (by decide +kernel)) ggX7_roots_X7_isRest
set_option maxRecDepth 20000 in
theorem ggX7_roots_X7_in : GoodIn wsX7_roots wsX7_in := goodIn_r _ [10] (by decide +kernel) (by decide +kernel)
set_option maxRecDepth 20000 in
theorem gX7_roots_X7_in : GoodIn wsX7_roots (va_wsS RX7 60 yX7_in wsX7_in) := goodIn_app (goodIn_of _ (by decide +kernel)) ggX7_roots_X7_in
set_option maxRecDepth 20000 in
theorem ggX7_roots_X7_powerOf : GoodIn wsX7_roots wsX7_powerOf := goodIn_r _ [16, 6] (by decide +kernel) (by decide +kernel)
set_option maxRecDepth 20000 in
theorem gX7_roots_X7_powerOf : GoodIn wsX7_roots (va_wsS RX7 88 yX7_powerOf wsX7_powerOf) := goodIn_app (goodIn_of _ (by decide +kernel)) ggX7_roots_X7_powerOf
theorem dX7_roots_0 : decode cX7_roots 0 = .ok (.iload_n 1, 1) := by decide +kernel
theorem dX7_roots_1 : decode cX7_roots 1 = .ok (.invokestatic 68, 3) := by decide +kernel
theorem dX7_roots_4 : decode cX7_roots 4 = .ok (.ifCond .eq 29, 3) := by decide +kernel
theorem dX7_roots_7 : decode cX7_roots 7 = .ok (.iload_n 1, 1) := by decide +kernel
theorem dX7_roots_8 : decode cX7_roots 8 = .ok (.iload_n 2, 1) := by decide +kernel
theorem dX7_roots_9 : decode cX7_roots 9 = .ok (.invokestatic 76, 3) := by decide +kernel
theorem dX7_roots_12 : decode cX7_roots 12 = .ok (.ifCond .eq 21, 3) := by decide +kernel
theorem dX7_roots_15 : decode cX7_roots 15 = .ok (.iload_n 3, 1) := by decide +kernel
theorem dX7_roots_16 : decode cX7_roots 16 = .ok (.i2l, 1) := by decide +kernel
theorem dX7_roots_17 : decode cX7_roots 17 = .ok (.lconst 1, 1) := by decide +kernel
theorem dX7_roots_18 : decode cX7_roots 18 = .ok (.ldc2_w 92, 3) := by decide +kernel
theorem dX7_roots_21 : decode cX7_roots 21 = .ok (.invokestatic 60, 3) := by decide +kernel
theorem dX7_roots_24 : decode cX7_roots 24 = .ok (.ifCond .eq 9, 3) := by decide +kernel
theorem dX7_roots_27 : decode cX7_roots 27 = .ok (.iload 4, 2) := by decide +kernel
theorem dX7_roots_29 : decode cX7_roots 29 = .ok (.iconst (-1), 1) := by decide +kernel
theorem dX7_roots_30 : decode cX7_roots 30 = .ok (.if_icmp .ge 5, 3) := by decide +kernel
theorem dX7_roots_33 : decode cX7_roots 33 = .ok (.iconst (-1), 1) := by decide +kernel
theorem dX7_roots_34 : decode cX7_roots 34 = .ok (.ireturn, 1) := by decide +kernel
theorem dX7_roots_35 : decode cX7_roots 35 = .ok (.iconst 0, 1) := by decide +kernel
theorem dX7_roots_36 : decode cX7_roots 36 = .ok (.istore 5, 2) := by decide +kernel
theorem dX7_roots_38 : decode cX7_roots 38 = .ok (.iconst 0, 1) := by decide +kernel
theorem dX7_roots_39 : decode cX7_roots 39 = .ok (.istore 6, 2) := by decide +kernel
theorem dX7_roots_41 : decode cX7_roots 41 = .ok (.iload 6, 2) := by decide +kernel
theorem dX7_roots_43 : decode cX7_roots 43 = .ok (.iload_n 1, 1) := by decide +kernel
theorem dX7_roots_44 : decode cX7_roots 44 = .ok (.if_icmp .ge 34, 3) := by decide +kernel
theorem dX7_roots_47 : decode cX7_roots 47 = .ok (.iload_n 1, 1) := by decide +kernel
theorem dX7_roots_48 : decode cX7_roots 48 = .ok (.iload 6, 2) := by decide +kernel
theorem dX7_roots_50 : decode cX7_roots 50 = .ok (.iload_n 3, 1) := by decide +kernel
theorem dX7_roots_51 : decode cX7_roots 51 = .ok (.i2l, 1) := by decide +kernel
theorem dX7_roots_52 : decode cX7_roots 52 = .ok (.invokestatic 88, 3) := by decide +kernel
theorem dX7_roots_55 : decode cX7_roots 55 = .ok (.iload_n 2, 1) := by decide +kernel
theorem dX7_roots_56 : decode cX7_roots 56 = .ok (.if_icmp .ne 16, 3) := by decide +kernel
theorem dX7_roots_59 : decode cX7_roots 59 = .ok (.iload 5, 2) := by decide +kernel
theorem dX7_roots_61 : decode cX7_roots 61 = .ok (.iload 4, 2) := by decide +kernel
theorem dX7_roots_63 : decode cX7_roots 63 = .ok (.if_icmp .ne 6, 3) := by decide +kernel
theorem dX7_roots_66 : decode cX7_roots 66 = .ok (.iload 6, 2) := by decide +kernel
theorem dX7_roots_68 : decode cX7_roots 68 = .ok (.ireturn, 1) := by decide +kernel
theorem dX7_roots_69 : decode cX7_roots 69 = .ok (.iinc 5 1, 3) := by decide +kernel
theorem dX7_roots_72 : decode cX7_roots 72 = .ok (.iinc 6 1, 3) := by decide +kernel
theorem dX7_roots_75 : decode cX7_roots 75 = .ok (.goto (-34), 3) := by decide +kernel
theorem dX7_roots_78 : decode cX7_roots 78 = .ok (.iload 4, 2) := by decide +kernel
theorem dX7_roots_80 : decode cX7_roots 80 = .ok (.ifCond .ge 8, 3) := by decide +kernel
theorem dX7_roots_83 : decode cX7_roots 83 = .ok (.iload 5, 2) := by decide +kernel
theorem dX7_roots_85 : decode cX7_roots 85 = .ok (.goto 5, 3) := by decide +kernel
theorem dX7_roots_88 : decode cX7_roots 88 = .ok (.bipush (-4), 2) := by decide +kernel
theorem dX7_roots_90 : decode cX7_roots 90 = .ok (.ireturn, 1) := by decide +kernel
set_option maxRecDepth 20000 in
theorem ggX7_squares_X7_isBy : GoodIn wsX7_squares wsX7_isBy := goodIn_r _ [6, 7, 8, 9, 10, 5, 11] (by decide +kernel) (by decide +kernel)
set_option maxRecDepth 20000 in
theorem gX7_squares_X7_isBy : GoodIn wsX7_squares (va_wsS RX7 68 yX7_isBy wsX7_isBy) := goodIn_app (goodIn_of _ (by decide +kernel)) ggX7_squares_X7_isBy
set_option maxRecDepth 20000 in
theorem ggX7_squares_X7_in : GoodIn wsX7_squares wsX7_in := goodIn_r _ [11] (by decide +kernel) (by decide +kernel)
set_option maxRecDepth 20000 in
theorem gX7_squares_X7_in : GoodIn wsX7_squares (va_wsS RX7 60 yX7_in wsX7_in) := goodIn_app (goodIn_of _ (by decide +kernel)) ggX7_squares_X7_in
set_option maxRecDepth 20000 in
theorem ggX7_squares_X7_isUnit : GoodIn wsX7_squares wsX7_isUnit := goodIn_r _ [14, 15, 16, 5, 17] (by decide +kernel) (by decide +kernel)
set_option maxRecDepth 20000 in
theorem gX7_squares_X7_isUnit : GoodIn wsX7_squares (va_wsS RX7 72 yX7_isUnit wsX7_isUnit) := goodIn_app (goodIn_of _ (by decide +kernel)) ggX7_squares_X7_isUnit
theorem dX7_squares_0 : decode cX7_squares 0 = .ok (.iload_n 1, 1) := by decide +kernel
theorem dX7_squares_1 : decode cX7_squares 1 = .ok (.invokestatic 68, 3) := by decide +kernel
theorem dX7_squares_4 : decode cX7_squares 4 = .ok (.ifCond .eq 15, 3) := by decide +kernel
theorem dX7_squares_7 : decode cX7_squares 7 = .ok (.iload_n 2, 1) := by decide +kernel
theorem dX7_squares_8 : decode cX7_squares 8 = .ok (.i2l, 1) := by decide +kernel
theorem dX7_squares_9 : decode cX7_squares 9 = .ok (.lconst 0, 1) := by decide +kernel
theorem dX7_squares_10 : decode cX7_squares 10 = .ok (.ldc2_w 94, 3) := by decide +kernel
theorem dX7_squares_13 : decode cX7_squares 13 = .ok (.invokestatic 60, 3) := by decide +kernel
theorem dX7_squares_16 : decode cX7_squares 16 = .ok (.ifCond .ne 5, 3) := by decide +kernel
theorem dX7_squares_19 : decode cX7_squares 19 = .ok (.iconst (-1), 1) := by decide +kernel
theorem dX7_squares_20 : decode cX7_squares 20 = .ok (.ireturn, 1) := by decide +kernel
theorem dX7_squares_21 : decode cX7_squares 21 = .ok (.iconst 0, 1) := by decide +kernel
theorem dX7_squares_22 : decode cX7_squares 22 = .ok (.istore_n 3, 1) := by decide +kernel
theorem dX7_squares_23 : decode cX7_squares 23 = .ok (.iload_n 3, 1) := by decide +kernel
theorem dX7_squares_24 : decode cX7_squares 24 = .ok (.iload_n 1, 1) := by decide +kernel
theorem dX7_squares_25 : decode cX7_squares 25 = .ok (.if_icmp .ge 16, 3) := by decide +kernel
theorem dX7_squares_28 : decode cX7_squares 28 = .ok (.aload_n 0, 1) := by decide +kernel
theorem dX7_squares_29 : decode cX7_squares 29 = .ok (.getfield 46, 3) := by decide +kernel
theorem dX7_squares_32 : decode cX7_squares 32 = .ok (.iload_n 3, 1) := by decide +kernel
theorem dX7_squares_33 : decode cX7_squares 33 = .ok (.iconst 0, 1) := by decide +kernel
theorem dX7_squares_34 : decode cX7_squares 34 = .ok (.bastore, 1) := by decide +kernel
theorem dX7_squares_35 : decode cX7_squares 35 = .ok (.iinc 3 1, 3) := by decide +kernel
theorem dX7_squares_38 : decode cX7_squares 38 = .ok (.goto (-15), 3) := by decide +kernel
theorem dX7_squares_41 : decode cX7_squares 41 = .ok (.iconst 0, 1) := by decide +kernel
theorem dX7_squares_42 : decode cX7_squares 42 = .ok (.istore_n 3, 1) := by decide +kernel
theorem dX7_squares_43 : decode cX7_squares 43 = .ok (.iload_n 3, 1) := by decide +kernel
theorem dX7_squares_44 : decode cX7_squares 44 = .ok (.iload_n 1, 1) := by decide +kernel
theorem dX7_squares_45 : decode cX7_squares 45 = .ok (.if_icmp .ge 32, 3) := by decide +kernel
theorem dX7_squares_48 : decode cX7_squares 48 = .ok (.iload_n 1, 1) := by decide +kernel
theorem dX7_squares_49 : decode cX7_squares 49 = .ok (.iload_n 3, 1) := by decide +kernel
theorem dX7_squares_50 : decode cX7_squares 50 = .ok (.invokestatic 72, 3) := by decide +kernel
theorem dX7_squares_53 : decode cX7_squares 53 = .ok (.ifCond .eq 18, 3) := by decide +kernel
theorem dX7_squares_56 : decode cX7_squares 56 = .ok (.aload_n 0, 1) := by decide +kernel
theorem dX7_squares_57 : decode cX7_squares 57 = .ok (.getfield 46, 3) := by decide +kernel
theorem dX7_squares_60 : decode cX7_squares 60 = .ok (.iload_n 3, 1) := by decide +kernel
theorem dX7_squares_61 : decode cX7_squares 61 = .ok (.i2l, 1) := by decide +kernel
theorem dX7_squares_62 : decode cX7_squares 62 = .ok (.iload_n 3, 1) := by decide +kernel
theorem dX7_squares_63 : decode cX7_squares 63 = .ok (.i2l, 1) := by decide +kernel
theorem dX7_squares_64 : decode cX7_squares 64 = .ok (.lmul, 1) := by decide +kernel
theorem dX7_squares_65 : decode cX7_squares 65 = .ok (.iload_n 1, 1) := by decide +kernel
theorem dX7_squares_66 : decode cX7_squares 66 = .ok (.i2l, 1) := by decide +kernel
theorem dX7_squares_67 : decode cX7_squares 67 = .ok (.lrem, 1) := by decide +kernel
theorem dX7_squares_68 : decode cX7_squares 68 = .ok (.l2i, 1) := by decide +kernel
theorem dX7_squares_69 : decode cX7_squares 69 = .ok (.iconst 1, 1) := by decide +kernel
theorem dX7_squares_70 : decode cX7_squares 70 = .ok (.bastore, 1) := by decide +kernel
theorem dX7_squares_71 : decode cX7_squares 71 = .ok (.iinc 3 1, 3) := by decide +kernel
theorem dX7_squares_74 : decode cX7_squares 74 = .ok (.goto (-31), 3) := by decide +kernel
theorem dX7_squares_77 : decode cX7_squares 77 = .ok (.iconst 0, 1) := by decide +kernel
theorem dX7_squares_78 : decode cX7_squares 78 = .ok (.istore_n 3, 1) := by decide +kernel
theorem dX7_squares_79 : decode cX7_squares 79 = .ok (.iconst 0, 1) := by decide +kernel
theorem dX7_squares_80 : decode cX7_squares 80 = .ok (.istore 4, 2) := by decide +kernel
theorem dX7_squares_82 : decode cX7_squares 82 = .ok (.iconst 0, 1) := by decide +kernel
theorem dX7_squares_83 : decode cX7_squares 83 = .ok (.istore 5, 2) := by decide +kernel
theorem dX7_squares_85 : decode cX7_squares 85 = .ok (.iconst 0, 1) := by decide +kernel
theorem dX7_squares_86 : decode cX7_squares 86 = .ok (.istore 6, 2) := by decide +kernel
theorem dX7_squares_88 : decode cX7_squares 88 = .ok (.bipush (-4), 2) := by decide +kernel
theorem dX7_squares_90 : decode cX7_squares 90 = .ok (.istore 7, 2) := by decide +kernel
theorem dX7_squares_92 : decode cX7_squares 92 = .ok (.iconst 0, 1) := by decide +kernel
theorem dX7_squares_93 : decode cX7_squares 93 = .ok (.istore 8, 2) := by decide +kernel
theorem dX7_squares_95 : decode cX7_squares 95 = .ok (.iload 8, 2) := by decide +kernel
theorem dX7_squares_97 : decode cX7_squares 97 = .ok (.iload_n 1, 1) := by decide +kernel
theorem dX7_squares_98 : decode cX7_squares 98 = .ok (.if_icmp .ge 100, 3) := by decide +kernel
theorem dX7_squares_101 : decode cX7_squares 101 = .ok (.iload_n 3, 1) := by decide +kernel
theorem dX7_squares_102 : decode cX7_squares 102 = .ok (.aload_n 0, 1) := by decide +kernel
theorem dX7_squares_103 : decode cX7_squares 103 = .ok (.getfield 46, 3) := by decide +kernel
theorem dX7_squares_106 : decode cX7_squares 106 = .ok (.iload 8, 2) := by decide +kernel
theorem dX7_squares_108 : decode cX7_squares 108 = .ok (.baload, 1) := by decide +kernel
theorem dX7_squares_109 : decode cX7_squares 109 = .ok (.ifCond .eq 7, 3) := by decide +kernel
theorem dX7_squares_112 : decode cX7_squares 112 = .ok (.iconst 1, 1) := by decide +kernel
theorem dX7_squares_113 : decode cX7_squares 113 = .ok (.goto 4, 3) := by decide +kernel
theorem dX7_squares_116 : decode cX7_squares 116 = .ok (.iconst 0, 1) := by decide +kernel
theorem dX7_squares_117 : decode cX7_squares 117 = .ok (.iadd, 1) := by decide +kernel
theorem dX7_squares_118 : decode cX7_squares 118 = .ok (.istore_n 3, 1) := by decide +kernel
theorem dX7_squares_119 : decode cX7_squares 119 = .ok (.aload_n 0, 1) := by decide +kernel
theorem dX7_squares_120 : decode cX7_squares 120 = .ok (.getfield 46, 3) := by decide +kernel
theorem dX7_squares_123 : decode cX7_squares 123 = .ok (.iload 8, 2) := by decide +kernel
theorem dX7_squares_125 : decode cX7_squares 125 = .ok (.baload, 1) := by decide +kernel
theorem dX7_squares_126 : decode cX7_squares 126 = .ok (.ifCond .eq 10, 3) := by decide +kernel
theorem dX7_squares_129 : decode cX7_squares 129 = .ok (.iload 4, 2) := by decide +kernel
theorem dX7_squares_131 : decode cX7_squares 131 = .ok (.iconst 1, 1) := by decide +kernel
theorem dX7_squares_132 : decode cX7_squares 132 = .ok (.iadd, 1) := by decide +kernel
theorem dX7_squares_133 : decode cX7_squares 133 = .ok (.goto 4, 3) := by decide +kernel
theorem dX7_squares_136 : decode cX7_squares 136 = .ok (.iconst 0, 1) := by decide +kernel
theorem dX7_squares_137 : decode cX7_squares 137 = .ok (.istore 4, 2) := by decide +kernel
theorem dX7_squares_139 : decode cX7_squares 139 = .ok (.iload 4, 2) := by decide +kernel
theorem dX7_squares_141 : decode cX7_squares 141 = .ok (.iload 5, 2) := by decide +kernel
theorem dX7_squares_143 : decode cX7_squares 143 = .ok (.if_icmp .le 16, 3) := by decide +kernel
theorem dX7_squares_146 : decode cX7_squares 146 = .ok (.iload 4, 2) := by decide +kernel
theorem dX7_squares_148 : decode cX7_squares 148 = .ok (.istore 5, 2) := by decide +kernel
theorem dX7_squares_150 : decode cX7_squares 150 = .ok (.iload 8, 2) := by decide +kernel
theorem dX7_squares_152 : decode cX7_squares 152 = .ok (.iload 4, 2) := by decide +kernel
theorem dX7_squares_154 : decode cX7_squares 154 = .ok (.isub, 1) := by decide +kernel
theorem dX7_squares_155 : decode cX7_squares 155 = .ok (.iconst 1, 1) := by decide +kernel
theorem dX7_squares_156 : decode cX7_squares 156 = .ok (.iadd, 1) := by decide +kernel
theorem dX7_squares_157 : decode cX7_squares 157 = .ok (.istore 6, 2) := by decide +kernel
theorem dX7_squares_159 : decode cX7_squares 159 = .ok (.iload 7, 2) := by decide +kernel
theorem dX7_squares_161 : decode cX7_squares 161 = .ok (.ifCond .ge 27, 3) := by decide +kernel
theorem dX7_squares_164 : decode cX7_squares 164 = .ok (.aload_n 0, 1) := by decide +kernel
theorem dX7_squares_165 : decode cX7_squares 165 = .ok (.getfield 46, 3) := by decide +kernel
theorem dX7_squares_168 : decode cX7_squares 168 = .ok (.iload 8, 2) := by decide +kernel
theorem dX7_squares_170 : decode cX7_squares 170 = .ok (.baload, 1) := by decide +kernel
theorem dX7_squares_171 : decode cX7_squares 171 = .ok (.ifCond .ne 17, 3) := by decide +kernel
theorem dX7_squares_174 : decode cX7_squares 174 = .ok (.iload_n 1, 1) := by decide +kernel
theorem dX7_squares_175 : decode cX7_squares 175 = .ok (.iload 8, 2) := by decide +kernel
theorem dX7_squares_177 : decode cX7_squares 177 = .ok (.invokestatic 72, 3) := by decide +kernel
theorem dX7_squares_180 : decode cX7_squares 180 = .ok (.ifCond .eq 8, 3) := by decide +kernel
theorem dX7_squares_183 : decode cX7_squares 183 = .ok (.iload 8, 2) := by decide +kernel
theorem dX7_squares_185 : decode cX7_squares 185 = .ok (.goto 5, 3) := by decide +kernel
theorem dX7_squares_188 : decode cX7_squares 188 = .ok (.iload 7, 2) := by decide +kernel
theorem dX7_squares_190 : decode cX7_squares 190 = .ok (.istore 7, 2) := by decide +kernel
theorem dX7_squares_192 : decode cX7_squares 192 = .ok (.iinc 8 1, 3) := by decide +kernel
theorem dX7_squares_195 : decode cX7_squares 195 = .ok (.goto (-100), 3) := by decide +kernel
theorem dX7_squares_198 : decode cX7_squares 198 = .ok (.iload_n 2, 1) := by decide +kernel
theorem dX7_squares_199 : decode cX7_squares 199 = .ok (.ifCond .ne 7, 3) := by decide +kernel
theorem dX7_squares_202 : decode cX7_squares 202 = .ok (.iload_n 3, 1) := by decide +kernel
theorem dX7_squares_203 : decode cX7_squares 203 = .ok (.goto 25, 3) := by decide +kernel
theorem dX7_squares_206 : decode cX7_squares 206 = .ok (.iload_n 2, 1) := by decide +kernel
theorem dX7_squares_207 : decode cX7_squares 207 = .ok (.iconst 1, 1) := by decide +kernel
theorem dX7_squares_208 : decode cX7_squares 208 = .ok (.if_icmp .ne 8, 3) := by decide +kernel
theorem dX7_squares_211 : decode cX7_squares 211 = .ok (.iload 5, 2) := by decide +kernel
theorem dX7_squares_213 : decode cX7_squares 213 = .ok (.goto 15, 3) := by decide +kernel
theorem dX7_squares_216 : decode cX7_squares 216 = .ok (.iload_n 2, 1) := by decide +kernel
theorem dX7_squares_217 : decode cX7_squares 217 = .ok (.iconst 2, 1) := by decide +kernel
theorem dX7_squares_218 : decode cX7_squares 218 = .ok (.if_icmp .ne 8, 3) := by decide +kernel
theorem dX7_squares_221 : decode cX7_squares 221 = .ok (.iload 6, 2) := by decide +kernel
theorem dX7_squares_223 : decode cX7_squares 223 = .ok (.goto 5, 3) := by decide +kernel
theorem dX7_squares_226 : decode cX7_squares 226 = .ok (.iload 7, 2) := by decide +kernel
theorem dX7_squares_228 : decode cX7_squares 228 = .ok (.ireturn, 1) := by decide +kernel
set_option maxRecDepth 20000 in
theorem ggX7_sign_X7_in : GoodIn wsX7_sign wsX7_in := goodIn_r _ [6] (by decide +kernel) (by decide +kernel)
set_option maxRecDepth 20000 in
theorem gX7_sign_X7_in : GoodIn wsX7_sign (va_wsS RX7 60 yX7_in wsX7_in) := goodIn_app (goodIn_of _ (by decide +kernel)) ggX7_sign_X7_in
set_option maxRecDepth 20000 in
theorem ggX7_sign_X7_powerOf : GoodIn wsX7_sign wsX7_powerOf := goodIn_r _ [9, 10] (by decide +kernel) (by decide +kernel)
set_option maxRecDepth 20000 in
theorem gX7_sign_X7_powerOf : GoodIn wsX7_sign (va_wsS RX7 88 yX7_powerOf wsX7_powerOf) := goodIn_app (goodIn_of _ (by decide +kernel)) ggX7_sign_X7_powerOf
theorem dX7_sign_0 : decode cX7_sign 0 = .ok (.iload_n 1, 1) := by decide +kernel
theorem dX7_sign_1 : decode cX7_sign 1 = .ok (.i2l, 1) := by decide +kernel
theorem dX7_sign_2 : decode cX7_sign 2 = .ok (.lconst 0, 1) := by decide +kernel
theorem dX7_sign_3 : decode cX7_sign 3 = .ok (.ldc2_w 96, 3) := by decide +kernel
theorem dX7_sign_6 : decode cX7_sign 6 = .ok (.invokestatic 60, 3) := by decide +kernel
theorem dX7_sign_9 : decode cX7_sign 9 = .ok (.ifCond .eq 21, 3) := by decide +kernel
theorem dX7_sign_12 : decode cX7_sign 12 = .ok (.iload_n 2, 1) := by decide +kernel
theorem dX7_sign_13 : decode cX7_sign 13 = .ok (.i2l, 1) := by decide +kernel
theorem dX7_sign_14 : decode cX7_sign 14 = .ok (.lconst 1, 1) := by decide +kernel
theorem dX7_sign_15 : decode cX7_sign 15 = .ok (.ldc2_w 98, 3) := by decide +kernel
theorem dX7_sign_18 : decode cX7_sign 18 = .ok (.invokestatic 60, 3) := by decide +kernel
theorem dX7_sign_21 : decode cX7_sign 21 = .ok (.ifCond .eq 9, 3) := by decide +kernel
theorem dX7_sign_24 : decode cX7_sign 24 = .ok (.iload_n 2, 1) := by decide +kernel
theorem dX7_sign_25 : decode cX7_sign 25 = .ok (.iconst 2, 1) := by decide +kernel
theorem dX7_sign_26 : decode cX7_sign 26 = .ok (.irem, 1) := by decide +kernel
theorem dX7_sign_27 : decode cX7_sign 27 = .ok (.ifCond .ne 6, 3) := by decide +kernel
theorem dX7_sign_30 : decode cX7_sign 30 = .ok (.bipush (-100), 2) := by decide +kernel
theorem dX7_sign_32 : decode cX7_sign 32 = .ok (.ireturn, 1) := by decide +kernel
theorem dX7_sign_33 : decode cX7_sign 33 = .ok (.iconst 1, 1) := by decide +kernel
theorem dX7_sign_34 : decode cX7_sign 34 = .ok (.istore_n 3, 1) := by decide +kernel
theorem dX7_sign_35 : decode cX7_sign 35 = .ok (.iload_n 2, 1) := by decide +kernel
theorem dX7_sign_36 : decode cX7_sign 36 = .ok (.istore 4, 2) := by decide +kernel
theorem dX7_sign_38 : decode cX7_sign 38 = .ok (.iconst 3, 1) := by decide +kernel
theorem dX7_sign_39 : decode cX7_sign 39 = .ok (.istore 5, 2) := by decide +kernel
theorem dX7_sign_41 : decode cX7_sign 41 = .ok (.iload 4, 2) := by decide +kernel
theorem dX7_sign_43 : decode cX7_sign 43 = .ok (.iconst 1, 1) := by decide +kernel
theorem dX7_sign_44 : decode cX7_sign 44 = .ok (.if_icmp .le 77, 3) := by decide +kernel
theorem dX7_sign_47 : decode cX7_sign 47 = .ok (.iload 5, 2) := by decide +kernel
theorem dX7_sign_49 : decode cX7_sign 49 = .ok (.iload 5, 2) := by decide +kernel
theorem dX7_sign_51 : decode cX7_sign 51 = .ok (.imul, 1) := by decide +kernel
theorem dX7_sign_52 : decode cX7_sign 52 = .ok (.iload 4, 2) := by decide +kernel
theorem dX7_sign_54 : decode cX7_sign 54 = .ok (.if_icmp .le 7, 3) := by decide +kernel
theorem dX7_sign_57 : decode cX7_sign 57 = .ok (.iload 4, 2) := by decide +kernel
theorem dX7_sign_59 : decode cX7_sign 59 = .ok (.istore 5, 2) := by decide +kernel
theorem dX7_sign_61 : decode cX7_sign 61 = .ok (.iload 4, 2) := by decide +kernel
theorem dX7_sign_63 : decode cX7_sign 63 = .ok (.iload 5, 2) := by decide +kernel
theorem dX7_sign_65 : decode cX7_sign 65 = .ok (.irem, 1) := by decide +kernel
theorem dX7_sign_66 : decode cX7_sign 66 = .ok (.ifCond .eq 9, 3) := by decide +kernel
theorem dX7_sign_69 : decode cX7_sign 69 = .ok (.iinc 5 2, 3) := by decide +kernel
theorem dX7_sign_72 : decode cX7_sign 72 = .ok (.goto (-31), 3) := by decide +kernel
theorem dX7_sign_75 : decode cX7_sign 75 = .ok (.iload_n 3, 1) := by decide +kernel
theorem dX7_sign_76 : decode cX7_sign 76 = .ok (.iload_n 1, 1) := by decide +kernel
theorem dX7_sign_77 : decode cX7_sign 77 = .ok (.iload 5, 2) := by decide +kernel
theorem dX7_sign_79 : decode cX7_sign 79 = .ok (.irem, 1) := by decide +kernel
theorem dX7_sign_80 : decode cX7_sign 80 = .ok (.ifCond .ne 7, 3) := by decide +kernel
theorem dX7_sign_83 : decode cX7_sign 83 = .ok (.iconst 0, 1) := by decide +kernel
theorem dX7_sign_84 : decode cX7_sign 84 = .ok (.goto 25, 3) := by decide +kernel
theorem dX7_sign_87 : decode cX7_sign 87 = .ok (.iload 5, 2) := by decide +kernel
theorem dX7_sign_89 : decode cX7_sign 89 = .ok (.iload_n 1, 1) := by decide +kernel
theorem dX7_sign_90 : decode cX7_sign 90 = .ok (.iload 5, 2) := by decide +kernel
theorem dX7_sign_92 : decode cX7_sign 92 = .ok (.iconst 1, 1) := by decide +kernel
theorem dX7_sign_93 : decode cX7_sign 93 = .ok (.isub, 1) := by decide +kernel
theorem dX7_sign_94 : decode cX7_sign 94 = .ok (.iconst 2, 1) := by decide +kernel
theorem dX7_sign_95 : decode cX7_sign 95 = .ok (.idiv, 1) := by decide +kernel
theorem dX7_sign_96 : decode cX7_sign 96 = .ok (.i2l, 1) := by decide +kernel
theorem dX7_sign_97 : decode cX7_sign 97 = .ok (.invokestatic 88, 3) := by decide +kernel
theorem dX7_sign_100 : decode cX7_sign 100 = .ok (.iconst 1, 1) := by decide +kernel
theorem dX7_sign_101 : decode cX7_sign 101 = .ok (.if_icmp .ne 7, 3) := by decide +kernel
theorem dX7_sign_104 : decode cX7_sign 104 = .ok (.iconst 1, 1) := by decide +kernel
theorem dX7_sign_105 : decode cX7_sign 105 = .ok (.goto 4, 3) := by decide +kernel
theorem dX7_sign_108 : decode cX7_sign 108 = .ok (.iconst (-1), 1) := by decide +kernel
theorem dX7_sign_109 : decode cX7_sign 109 = .ok (.imul, 1) := by decide +kernel
theorem dX7_sign_110 : decode cX7_sign 110 = .ok (.istore_n 3, 1) := by decide +kernel
theorem dX7_sign_111 : decode cX7_sign 111 = .ok (.iload 4, 2) := by decide +kernel
theorem dX7_sign_113 : decode cX7_sign 113 = .ok (.iload 5, 2) := by decide +kernel
theorem dX7_sign_115 : decode cX7_sign 115 = .ok (.idiv, 1) := by decide +kernel
theorem dX7_sign_116 : decode cX7_sign 116 = .ok (.istore 4, 2) := by decide +kernel
theorem dX7_sign_118 : decode cX7_sign 118 = .ok (.goto (-77), 3) := by decide +kernel
theorem dX7_sign_121 : decode cX7_sign 121 = .ok (.iload_n 3, 1) := by decide +kernel
theorem dX7_sign_122 : decode cX7_sign 122 = .ok (.ireturn, 1) := by decide +kernel
set_option maxRecDepth 20000 in
theorem ggX7_write_X7_in : GoodIn wsX7_write wsX7_in := goodIn_r _ [7] (by decide +kernel) (by decide +kernel)
set_option maxRecDepth 20000 in
theorem gX7_write_X7_in : GoodIn wsX7_write (va_wsS RX7 60 yX7_in wsX7_in) := goodIn_app (goodIn_of _ (by decide +kernel)) ggX7_write_X7_in
theorem dX7_write_0 : decode cX7_write 0 = .ok (.iload_n 1, 1) := by decide +kernel
theorem dX7_write_1 : decode cX7_write 1 = .ok (.i2l, 1) := by decide +kernel
theorem dX7_write_2 : decode cX7_write 2 = .ok (.lconst 1, 1) := by decide +kernel
theorem dX7_write_3 : decode cX7_write 3 = .ok (.ldc2_w 100, 3) := by decide +kernel
theorem dX7_write_6 : decode cX7_write 6 = .ok (.invokestatic 60, 3) := by decide +kernel
theorem dX7_write_9 : decode cX7_write 9 = .ok (.ifCond .ne 5, 3) := by decide +kernel
theorem dX7_write_12 : decode cX7_write 12 = .ok (.iconst (-1), 1) := by decide +kernel
theorem dX7_write_13 : decode cX7_write 13 = .ok (.ireturn, 1) := by decide +kernel
theorem dX7_write_14 : decode cX7_write 14 = .ok (.aload_n 0, 1) := by decide +kernel
theorem dX7_write_15 : decode cX7_write 15 = .ok (.getfield 102, 3) := by decide +kernel
theorem dX7_write_18 : decode cX7_write 18 = .ok (.iload_n 1, 1) := by decide +kernel
theorem dX7_write_19 : decode cX7_write 19 = .ok (.iadd, 1) := by decide +kernel
theorem dX7_write_20 : decode cX7_write 20 = .ok (.sipush 200, 3) := by decide +kernel
theorem dX7_write_23 : decode cX7_write 23 = .ok (.if_icmp .le 6, 3) := by decide +kernel
theorem dX7_write_26 : decode cX7_write 26 = .ok (.bipush (-3), 2) := by decide +kernel
theorem dX7_write_28 : decode cX7_write 28 = .ok (.ireturn, 1) := by decide +kernel
theorem dX7_write_29 : decode cX7_write 29 = .ok (.iload_n 1, 1) := by decide +kernel
theorem dX7_write_30 : decode cX7_write 30 = .ok (.iconst 1, 1) := by decide +kernel
theorem dX7_write_31 : decode cX7_write 31 = .ok (.isub, 1) := by decide +kernel
theorem dX7_write_32 : decode cX7_write 32 = .ok (.istore 4, 2) := by decide +kernel
theorem dX7_write_34 : decode cX7_write 34 = .ok (.iload 4, 2) := by decide +kernel
theorem dX7_write_36 : decode cX7_write 36 = .ok (.ifCond .lt 37, 3) := by decide +kernel
theorem dX7_write_39 : decode cX7_write 39 = .ok (.aload_n 0, 1) := by decide +kernel
theorem dX7_write_40 : decode cX7_write 40 = .ok (.getfield 7, 3) := by decide +kernel
theorem dX7_write_43 : decode cX7_write 43 = .ok (.aload_n 0, 1) := by decide +kernel
theorem dX7_write_44 : decode cX7_write 44 = .ok (.getfield 102, 3) := by decide +kernel
theorem dX7_write_47 : decode cX7_write 47 = .ok (.lload_n 2, 1) := by decide +kernel
theorem dX7_write_48 : decode cX7_write 48 = .ok (.bipush 8, 2) := by decide +kernel
theorem dX7_write_50 : decode cX7_write 50 = .ok (.iload 4, 2) := by decide +kernel
theorem dX7_write_52 : decode cX7_write 52 = .ok (.imul, 1) := by decide +kernel
theorem dX7_write_53 : decode cX7_write 53 = .ok (.lshr, 1) := by decide +kernel
theorem dX7_write_54 : decode cX7_write 54 = .ok (.l2i, 1) := by decide +kernel
theorem dX7_write_55 : decode cX7_write 55 = .ok (.i2b, 1) := by decide +kernel
theorem dX7_write_56 : decode cX7_write 56 = .ok (.bastore, 1) := by decide +kernel
theorem dX7_write_57 : decode cX7_write 57 = .ok (.aload_n 0, 1) := by decide +kernel
theorem dX7_write_58 : decode cX7_write 58 = .ok (.dup, 1) := by decide +kernel
theorem dX7_write_59 : decode cX7_write 59 = .ok (.getfield 102, 3) := by decide +kernel
theorem dX7_write_62 : decode cX7_write 62 = .ok (.iconst 1, 1) := by decide +kernel
theorem dX7_write_63 : decode cX7_write 63 = .ok (.iadd, 1) := by decide +kernel
theorem dX7_write_64 : decode cX7_write 64 = .ok (.putfield 102, 3) := by decide +kernel
theorem dX7_write_67 : decode cX7_write 67 = .ok (.iinc 4 (-1), 3) := by decide +kernel
theorem dX7_write_70 : decode cX7_write 70 = .ok (.goto (-36), 3) := by decide +kernel
theorem dX7_write_73 : decode cX7_write 73 = .ok (.aload_n 0, 1) := by decide +kernel
theorem dX7_write_74 : decode cX7_write 74 = .ok (.getfield 102, 3) := by decide +kernel
theorem dX7_write_77 : decode cX7_write 77 = .ok (.ireturn, 1) := by decide +kernel
theorem dX7_wipe_0 : decode cX7_wipe 0 = .ok (.aload_n 0, 1) := by decide +kernel
theorem dX7_wipe_1 : decode cX7_wipe 1 = .ok (.getfield 102, 3) := by decide +kernel
theorem dX7_wipe_4 : decode cX7_wipe 4 = .ok (.istore_n 1, 1) := by decide +kernel
theorem dX7_wipe_5 : decode cX7_wipe 5 = .ok (.aload_n 0, 1) := by decide +kernel
theorem dX7_wipe_6 : decode cX7_wipe 6 = .ok (.iconst 0, 1) := by decide +kernel
theorem dX7_wipe_7 : decode cX7_wipe 7 = .ok (.putfield 102, 3) := by decide +kernel
theorem dX7_wipe_10 : decode cX7_wipe 10 = .ok (.iload_n 1, 1) := by decide +kernel
theorem dX7_wipe_11 : decode cX7_wipe 11 = .ok (.ireturn, 1) := by decide +kernel
set_option maxRecDepth 20000 in
theorem ggX7_number_X7_in : GoodIn wsX7_number wsX7_in := goodIn_r _ [10] (by decide +kernel) (by decide +kernel)
set_option maxRecDepth 20000 in
theorem gX7_number_X7_in : GoodIn wsX7_number (va_wsS RX7 60 yX7_in wsX7_in) := goodIn_app (goodIn_of _ (by decide +kernel)) ggX7_number_X7_in
theorem dX7_number_0 : decode cX7_number 0 = .ok (.iconst 0, 1) := by decide +kernel
theorem dX7_number_1 : decode cX7_number 1 = .ok (.istore_n 1, 1) := by decide +kernel
theorem dX7_number_2 : decode cX7_number 2 = .ok (.iconst 0, 1) := by decide +kernel
theorem dX7_number_3 : decode cX7_number 3 = .ok (.istore_n 2, 1) := by decide +kernel
theorem dX7_number_4 : decode cX7_number 4 = .ok (.aload_n 0, 1) := by decide +kernel
theorem dX7_number_5 : decode cX7_number 5 = .ok (.getfield 105, 3) := by decide +kernel
theorem dX7_number_8 : decode cX7_number 8 = .ok (.aload_n 0, 1) := by decide +kernel
theorem dX7_number_9 : decode cX7_number 9 = .ok (.getfield 102, 3) := by decide +kernel
theorem dX7_number_12 : decode cX7_number 12 = .ok (.if_icmp .ge 68, 3) := by decide +kernel
theorem dX7_number_15 : decode cX7_number 15 = .ok (.aload_n 0, 1) := by decide +kernel
theorem dX7_number_16 : decode cX7_number 16 = .ok (.getfield 7, 3) := by decide +kernel
theorem dX7_number_19 : decode cX7_number 19 = .ok (.aload_n 0, 1) := by decide +kernel
theorem dX7_number_20 : decode cX7_number 20 = .ok (.getfield 105, 3) := by decide +kernel
theorem dX7_number_23 : decode cX7_number 23 = .ok (.baload, 1) := by decide +kernel
theorem dX7_number_24 : decode cX7_number 24 = .ok (.i2l, 1) := by decide +kernel
theorem dX7_number_25 : decode cX7_number 25 = .ok (.ldc2_w 108, 3) := by decide +kernel
theorem dX7_number_28 : decode cX7_number 28 = .ok (.ldc2_w 110, 3) := by decide +kernel
theorem dX7_number_31 : decode cX7_number 31 = .ok (.invokestatic 60, 3) := by decide +kernel
theorem dX7_number_34 : decode cX7_number 34 = .ok (.ifCond .eq 46, 3) := by decide +kernel
theorem dX7_number_37 : decode cX7_number 37 = .ok (.iload_n 2, 1) := by decide +kernel
theorem dX7_number_38 : decode cX7_number 38 = .ok (.iconst 4, 1) := by decide +kernel
theorem dX7_number_39 : decode cX7_number 39 = .ok (.if_icmp .ge 23, 3) := by decide +kernel
theorem dX7_number_42 : decode cX7_number 42 = .ok (.bipush 10, 2) := by decide +kernel
theorem dX7_number_44 : decode cX7_number 44 = .ok (.iload_n 1, 1) := by decide +kernel
theorem dX7_number_45 : decode cX7_number 45 = .ok (.imul, 1) := by decide +kernel
theorem dX7_number_46 : decode cX7_number 46 = .ok (.aload_n 0, 1) := by decide +kernel
theorem dX7_number_47 : decode cX7_number 47 = .ok (.getfield 7, 3) := by decide +kernel
theorem dX7_number_50 : decode cX7_number 50 = .ok (.aload_n 0, 1) := by decide +kernel
theorem dX7_number_51 : decode cX7_number 51 = .ok (.getfield 105, 3) := by decide +kernel
theorem dX7_number_54 : decode cX7_number 54 = .ok (.baload, 1) := by decide +kernel
theorem dX7_number_55 : decode cX7_number 55 = .ok (.iadd, 1) := by decide +kernel
theorem dX7_number_56 : decode cX7_number 56 = .ok (.bipush 48, 2) := by decide +kernel
theorem dX7_number_58 : decode cX7_number 58 = .ok (.isub, 1) := by decide +kernel
theorem dX7_number_59 : decode cX7_number 59 = .ok (.goto 4, 3) := by decide +kernel
theorem dX7_number_62 : decode cX7_number 62 = .ok (.iload_n 1, 1) := by decide +kernel
theorem dX7_number_63 : decode cX7_number 63 = .ok (.istore_n 1, 1) := by decide +kernel
theorem dX7_number_64 : decode cX7_number 64 = .ok (.iinc 2 1, 3) := by decide +kernel
theorem dX7_number_67 : decode cX7_number 67 = .ok (.aload_n 0, 1) := by decide +kernel
theorem dX7_number_68 : decode cX7_number 68 = .ok (.dup, 1) := by decide +kernel
theorem dX7_number_69 : decode cX7_number 69 = .ok (.getfield 105, 3) := by decide +kernel
theorem dX7_number_72 : decode cX7_number 72 = .ok (.iconst 1, 1) := by decide +kernel
theorem dX7_number_73 : decode cX7_number 73 = .ok (.iadd, 1) := by decide +kernel
theorem dX7_number_74 : decode cX7_number 74 = .ok (.putfield 105, 3) := by decide +kernel
theorem dX7_number_77 : decode cX7_number 77 = .ok (.goto (-73), 3) := by decide +kernel
theorem dX7_number_80 : decode cX7_number 80 = .ok (.iload_n 2, 1) := by decide +kernel
theorem dX7_number_81 : decode cX7_number 81 = .ok (.i2l, 1) := by decide +kernel
theorem dX7_number_82 : decode cX7_number 82 = .ok (.lconst 1, 1) := by decide +kernel
theorem dX7_number_83 : decode cX7_number 83 = .ok (.ldc2_w 112, 3) := by decide +kernel
theorem dX7_number_86 : decode cX7_number 86 = .ok (.invokestatic 60, 3) := by decide +kernel
theorem dX7_number_89 : decode cX7_number 89 = .ok (.ifCond .eq 7, 3) := by decide +kernel
theorem dX7_number_92 : decode cX7_number 92 = .ok (.iload_n 1, 1) := by decide +kernel
theorem dX7_number_93 : decode cX7_number 93 = .ok (.goto 4, 3) := by decide +kernel
theorem dX7_number_96 : decode cX7_number 96 = .ok (.iconst (-1), 1) := by decide +kernel
theorem dX7_number_97 : decode cX7_number 97 = .ok (.ireturn, 1) := by decide +kernel
set_option maxRecDepth 20000 in
theorem ggX7_more_X7_number : GoodIn wsX7_more wsX7_number := goodIn_r _ [8, 1, 2, 3, 9, 10, 11, 12, 13, 7, 14, 15, 16, 17, 18, 19, 20, 21, 22, 23, 24, 25, 26, 27, 28, 29, 30, 31, 32] (by decide +kernel) (by decide +kernel)
set_option maxRecDepth 20000 in
theorem gX7_more_X7_number : GoodIn wsX7_more (wsV RX7 114 RX7 yX7_number wsX7_number) := goodIn_app (goodIn_of _ (by decide +kernel)) ggX7_more_X7_number
theorem dX7_more_0 : decode cX7_more 0 = .ok (.aload_n 0, 1) := by decide +kernel
theorem dX7_more_1 : decode cX7_more 1 = .ok (.getfield 105, 3) := by decide +kernel
theorem dX7_more_4 : decode cX7_more 4 = .ok (.aload_n 0, 1) := by decide +kernel
theorem dX7_more_5 : decode cX7_more 5 = .ok (.getfield 102, 3) := by decide +kernel
theorem dX7_more_8 : decode cX7_more 8 = .ok (.if_icmp .ge 17, 3) := by decide +kernel
theorem dX7_more_11 : decode cX7_more 11 = .ok (.aload_n 0, 1) := by decide +kernel
theorem dX7_more_12 : decode cX7_more 12 = .ok (.getfield 7, 3) := by decide +kernel
theorem dX7_more_15 : decode cX7_more 15 = .ok (.aload_n 0, 1) := by decide +kernel
theorem dX7_more_16 : decode cX7_more 16 = .ok (.getfield 105, 3) := by decide +kernel
theorem dX7_more_19 : decode cX7_more 19 = .ok (.baload, 1) := by decide +kernel
theorem dX7_more_20 : decode cX7_more 20 = .ok (.bipush 44, 2) := by decide +kernel
theorem dX7_more_22 : decode cX7_more 22 = .ok (.if_icmp .eq 5, 3) := by decide +kernel
theorem dX7_more_25 : decode cX7_more 25 = .ok (.iconst (-1), 1) := by decide +kernel
theorem dX7_more_26 : decode cX7_more 26 = .ok (.ireturn, 1) := by decide +kernel
theorem dX7_more_27 : decode cX7_more 27 = .ok (.aload_n 0, 1) := by decide +kernel
theorem dX7_more_28 : decode cX7_more 28 = .ok (.dup, 1) := by decide +kernel
theorem dX7_more_29 : decode cX7_more 29 = .ok (.getfield 105, 3) := by decide +kernel
theorem dX7_more_32 : decode cX7_more 32 = .ok (.iconst 1, 1) := by decide +kernel
theorem dX7_more_33 : decode cX7_more 33 = .ok (.iadd, 1) := by decide +kernel
theorem dX7_more_34 : decode cX7_more 34 = .ok (.putfield 105, 3) := by decide +kernel
theorem dX7_more_37 : decode cX7_more 37 = .ok (.aload_n 0, 1) := by decide +kernel
theorem dX7_more_38 : decode cX7_more 38 = .ok (.invokevirtual 114, 3) := by decide +kernel
theorem dX7_more_41 : decode cX7_more 41 = .ok (.ireturn, 1) := by decide +kernel
set_option maxRecDepth 20000 in
theorem ggX7_isItem_X7_number : GoodIn wsX7_isItem wsX7_number := goodIn_r _ [16, 2, 7, 1, 17, 18, 19, 20, 21, 15, 22, 27, 28, 29, 30, 31, 32, 33, 34, 35, 36, 37, 38, 39, 40, 41, 42, 43, 44] (by decide +kernel) (by decide +kernel)
set_option maxRecDepth 20000 in
theorem gX7_isItem_X7_number : GoodIn wsX7_isItem (wsV RX7 114 RX7 yX7_number wsX7_number) := goodIn_app (goodIn_of _ (by decide +kernel)) ggX7_isItem_X7_number
set_option maxRecDepth 20000 in
theorem ggX7_isItem_X7_more : GoodIn wsX7_isItem wsX7_more := goodIn_r _ [26, 2, 7, 1, 12, 13, 14, 15, 16, 17, 18, 19, 20, 21, 22, 27, 28, 29, 30, 31, 32, 33, 34, 35, 36, 37, 38, 39, 40, 41, 42, 43, 44] (by decide +kernel) (by decide +kernel)
set_option maxRecDepth 20000 in
theorem gX7_isItem_X7_more : GoodIn wsX7_isItem (wsV RX7 121 RX7 yX7_more wsX7_more) := goodIn_app (goodIn_of _ (by decide +kernel)) ggX7_isItem_X7_more
set_option maxRecDepth 20000 in
theorem ggX7_isItem_X7_in : GoodIn wsX7_isItem wsX7_in := goodIn_r _ [22] (by decide +kernel) (by decide +kernel)
set_option maxRecDepth 20000 in
theorem gX7_isItem_X7_in : GoodIn wsX7_isItem (va_wsS RX7 60 yX7_in wsX7_in) := goodIn_app (goodIn_of _ (by decide +kernel)) ggX7_isItem_X7_in
theorem dX7_isItem_0 : decode cX7_isItem 0 = .ok (.aload_n 0, 1) := by decide +kernel
theorem dX7_isItem_1 : decode cX7_isItem 1 = .ok (.getfield 7, 3) := by decide +kernel
theorem dX7_isItem_4 : decode cX7_isItem 4 = .ok (.aload_n 0, 1) := by decide +kernel
theorem dX7_isItem_5 : decode cX7_isItem 5 = .ok (.getfield 105, 3) := by decide +kernel
theorem dX7_isItem_8 : decode cX7_isItem 8 = .ok (.baload, 1) := by decide +kernel
theorem dX7_isItem_9 : decode cX7_isItem 9 = .ok (.istore_n 1, 1) := by decide +kernel
theorem dX7_isItem_10 : decode cX7_isItem 10 = .ok (.aload_n 0, 1) := by decide +kernel
theorem dX7_isItem_11 : decode cX7_isItem 11 = .ok (.dup, 1) := by decide +kernel
theorem dX7_isItem_12 : decode cX7_isItem 12 = .ok (.getfield 105, 3) := by decide +kernel
theorem dX7_isItem_15 : decode cX7_isItem 15 = .ok (.iconst 1, 1) := by decide +kernel
theorem dX7_isItem_16 : decode cX7_isItem 16 = .ok (.iadd, 1) := by decide +kernel
theorem dX7_isItem_17 : decode cX7_isItem 17 = .ok (.putfield 105, 3) := by decide +kernel
theorem dX7_isItem_20 : decode cX7_isItem 20 = .ok (.aload_n 0, 1) := by decide +kernel
theorem dX7_isItem_21 : decode cX7_isItem 21 = .ok (.getfield 118, 3) := by decide +kernel
theorem dX7_isItem_24 : decode cX7_isItem 24 = .ok (.bipush 8, 2) := by decide +kernel
theorem dX7_isItem_26 : decode cX7_isItem 26 = .ok (.if_icmp .eq 27, 3) := by decide +kernel
theorem dX7_isItem_29 : decode cX7_isItem 29 = .ok (.iload_n 1, 1) := by decide +kernel
theorem dX7_isItem_30 : decode cX7_isItem 30 = .ok (.bipush 108, 2) := by decide +kernel
theorem dX7_isItem_32 : decode cX7_isItem 32 = .ok (.if_icmp .eq 23, 3) := by decide +kernel
theorem dX7_isItem_35 : decode cX7_isItem 35 = .ok (.iload_n 1, 1) := by decide +kernel
theorem dX7_isItem_36 : decode cX7_isItem 36 = .ok (.bipush 112, 2) := by decide +kernel
theorem dX7_isItem_38 : decode cX7_isItem 38 = .ok (.if_icmp .eq 17, 3) := by decide +kernel
theorem dX7_isItem_41 : decode cX7_isItem 41 = .ok (.iload_n 1, 1) := by decide +kernel
theorem dX7_isItem_42 : decode cX7_isItem 42 = .ok (.bipush 110, 2) := by decide +kernel
theorem dX7_isItem_44 : decode cX7_isItem 44 = .ok (.if_icmp .eq 11, 3) := by decide +kernel
theorem dX7_isItem_47 : decode cX7_isItem 47 = .ok (.iload_n 1, 1) := by decide +kernel
theorem dX7_isItem_48 : decode cX7_isItem 48 = .ok (.bipush 98, 2) := by decide +kernel
theorem dX7_isItem_50 : decode cX7_isItem 50 = .ok (.if_icmp .eq 5, 3) := by decide +kernel
theorem dX7_isItem_53 : decode cX7_isItem 53 = .ok (.iconst 0, 1) := by decide +kernel
theorem dX7_isItem_54 : decode cX7_isItem 54 = .ok (.ireturn, 1) := by decide +kernel
theorem dX7_isItem_55 : decode cX7_isItem 55 = .ok (.aload_n 0, 1) := by decide +kernel
theorem dX7_isItem_56 : decode cX7_isItem 56 = .ok (.invokevirtual 114, 3) := by decide +kernel
theorem dX7_isItem_59 : decode cX7_isItem 59 = .ok (.istore_n 2, 1) := by decide +kernel
theorem dX7_isItem_60 : decode cX7_isItem 60 = .ok (.iload_n 1, 1) := by decide +kernel
theorem dX7_isItem_61 : decode cX7_isItem 61 = .ok (.bipush 110, 2) := by decide +kernel
theorem dX7_isItem_63 : decode cX7_isItem 63 = .ok (.if_icmp .ne 7, 3) := by decide +kernel
theorem dX7_isItem_66 : decode cX7_isItem 66 = .ok (.iload_n 2, 1) := by decide +kernel
theorem dX7_isItem_67 : decode cX7_isItem 67 = .ok (.goto 7, 3) := by decide +kernel
theorem dX7_isItem_70 : decode cX7_isItem 70 = .ok (.aload_n 0, 1) := by decide +kernel
theorem dX7_isItem_71 : decode cX7_isItem 71 = .ok (.invokevirtual 121, 3) := by decide +kernel
theorem dX7_isItem_74 : decode cX7_isItem 74 = .ok (.istore_n 3, 1) := by decide +kernel
theorem dX7_isItem_75 : decode cX7_isItem 75 = .ok (.aload_n 0, 1) := by decide +kernel
theorem dX7_isItem_76 : decode cX7_isItem 76 = .ok (.invokevirtual 121, 3) := by decide +kernel
theorem dX7_isItem_79 : decode cX7_isItem 79 = .ok (.istore 4, 2) := by decide +kernel
theorem dX7_isItem_81 : decode cX7_isItem 81 = .ok (.iload_n 2, 1) := by decide +kernel
theorem dX7_isItem_82 : decode cX7_isItem 82 = .ok (.ifCond .lt 36, 3) := by decide +kernel
theorem dX7_isItem_85 : decode cX7_isItem 85 = .ok (.iload 4, 2) := by decide +kernel
theorem dX7_isItem_87 : decode cX7_isItem 87 = .ok (.i2l, 1) := by decide +kernel
theorem dX7_isItem_88 : decode cX7_isItem 88 = .ok (.ldc2_w 56, 3) := by decide +kernel
theorem dX7_isItem_91 : decode cX7_isItem 91 = .ok (.ldc2_w 124, 3) := by decide +kernel
theorem dX7_isItem_94 : decode cX7_isItem 94 = .ok (.invokestatic 60, 3) := by decide +kernel
theorem dX7_isItem_97 : decode cX7_isItem 97 = .ok (.ifCond .eq 21, 3) := by decide +kernel
theorem dX7_isItem_100 : decode cX7_isItem 100 = .ok (.iload_n 3, 1) := by decide +kernel
theorem dX7_isItem_101 : decode cX7_isItem 101 = .ok (.i2l, 1) := by decide +kernel
theorem dX7_isItem_102 : decode cX7_isItem 102 = .ok (.lconst 0, 1) := by decide +kernel
theorem dX7_isItem_103 : decode cX7_isItem 103 = .ok (.iload 4, 2) := by decide +kernel
theorem dX7_isItem_105 : decode cX7_isItem 105 = .ok (.iconst 1, 1) := by decide +kernel
theorem dX7_isItem_106 : decode cX7_isItem 106 = .ok (.isub, 1) := by decide +kernel
theorem dX7_isItem_107 : decode cX7_isItem 107 = .ok (.i2l, 1) := by decide +kernel
theorem dX7_isItem_108 : decode cX7_isItem 108 = .ok (.invokestatic 60, 3) := by decide +kernel
theorem dX7_isItem_111 : decode cX7_isItem 111 = .ok (.ifCond .eq 7, 3) := by decide +kernel
theorem dX7_isItem_114 : decode cX7_isItem 114 = .ok (.iconst 1, 1) := by decide +kernel
theorem dX7_isItem_115 : decode cX7_isItem 115 = .ok (.goto 4, 3) := by decide +kernel
theorem dX7_isItem_118 : decode cX7_isItem 118 = .ok (.iconst 0, 1) := by decide +kernel
theorem dX7_isItem_119 : decode cX7_isItem 119 = .ok (.istore 5, 2) := by decide +kernel
theorem dX7_isItem_121 : decode cX7_isItem 121 = .ok (.iload 5, 2) := by decide +kernel
theorem dX7_isItem_123 : decode cX7_isItem 123 = .ok (.ifCond .eq 48, 3) := by decide +kernel
theorem dX7_isItem_126 : decode cX7_isItem 126 = .ok (.iload_n 1, 1) := by decide +kernel
theorem dX7_isItem_127 : decode cX7_isItem 127 = .ok (.bipush 112, 2) := by decide +kernel
theorem dX7_isItem_129 : decode cX7_isItem 129 = .ok (.if_icmp .ne 18, 3) := by decide +kernel
theorem dX7_isItem_132 : decode cX7_isItem 132 = .ok (.iload_n 2, 1) := by decide +kernel
theorem dX7_isItem_133 : decode cX7_isItem 133 = .ok (.i2l, 1) := by decide +kernel
theorem dX7_isItem_134 : decode cX7_isItem 134 = .ok (.lconst 1, 1) := by decide +kernel
theorem dX7_isItem_135 : decode cX7_isItem 135 = .ok (.ldc2_w 126, 3) := by decide +kernel
theorem dX7_isItem_138 : decode cX7_isItem 138 = .ok (.invokestatic 60, 3) := by decide +kernel
theorem dX7_isItem_141 : decode cX7_isItem 141 = .ok (.ifCond .eq 30, 3) := by decide +kernel
theorem dX7_isItem_144 : decode cX7_isItem 144 = .ok (.goto 23, 3) := by decide +kernel
theorem dX7_isItem_147 : decode cX7_isItem 147 = .ok (.iload_n 1, 1) := by decide +kernel
theorem dX7_isItem_148 : decode cX7_isItem 148 = .ok (.bipush 98, 2) := by decide +kernel
theorem dX7_isItem_150 : decode cX7_isItem 150 = .ok (.if_icmp .ne 11, 3) := by decide +kernel
theorem dX7_isItem_153 : decode cX7_isItem 153 = .ok (.iload_n 2, 1) := by decide +kernel
theorem dX7_isItem_154 : decode cX7_isItem 154 = .ok (.iload_n 3, 1) := by decide +kernel
theorem dX7_isItem_155 : decode cX7_isItem 155 = .ok (.if_icmp .gt 16, 3) := by decide +kernel
theorem dX7_isItem_158 : decode cX7_isItem 158 = .ok (.goto 9, 3) := by decide +kernel
theorem dX7_isItem_161 : decode cX7_isItem 161 = .ok (.iload_n 2, 1) := by decide +kernel
theorem dX7_isItem_162 : decode cX7_isItem 162 = .ok (.iload 4, 2) := by decide +kernel
theorem dX7_isItem_164 : decode cX7_isItem 164 = .ok (.if_icmp .ge 7, 3) := by decide +kernel
theorem dX7_isItem_167 : decode cX7_isItem 167 = .ok (.iconst 1, 1) := by decide +kernel
theorem dX7_isItem_168 : decode cX7_isItem 168 = .ok (.goto 4, 3) := by decide +kernel
theorem dX7_isItem_171 : decode cX7_isItem 171 = .ok (.iconst 0, 1) := by decide +kernel
theorem dX7_isItem_172 : decode cX7_isItem 172 = .ok (.istore 5, 2) := by decide +kernel
theorem dX7_isItem_174 : decode cX7_isItem 174 = .ok (.iload 5, 2) := by decide +kernel
theorem dX7_isItem_176 : decode cX7_isItem 176 = .ok (.ifCond .eq 28, 3) := by decide +kernel
theorem dX7_isItem_179 : decode cX7_isItem 179 = .ok (.aload_n 0, 1) := by decide +kernel
theorem dX7_isItem_180 : decode cX7_isItem 180 = .ok (.getfield 105, 3) := by decide +kernel
theorem dX7_isItem_183 : decode cX7_isItem 183 = .ok (.aload_n 0, 1) := by decide +kernel
theorem dX7_isItem_184 : decode cX7_isItem 184 = .ok (.getfield 102, 3) := by decide +kernel
theorem dX7_isItem_187 : decode cX7_isItem 187 = .ok (.if_icmp .ge 17, 3) := by decide +kernel
theorem dX7_isItem_190 : decode cX7_isItem 190 = .ok (.aload_n 0, 1) := by decide +kernel
theorem dX7_isItem_191 : decode cX7_isItem 191 = .ok (.getfield 7, 3) := by decide +kernel
theorem dX7_isItem_194 : decode cX7_isItem 194 = .ok (.aload_n 0, 1) := by decide +kernel
theorem dX7_isItem_195 : decode cX7_isItem 195 = .ok (.getfield 105, 3) := by decide +kernel
theorem dX7_isItem_198 : decode cX7_isItem 198 = .ok (.baload, 1) := by decide +kernel
theorem dX7_isItem_199 : decode cX7_isItem 199 = .ok (.bipush 59, 2) := by decide +kernel
theorem dX7_isItem_201 : decode cX7_isItem 201 = .ok (.if_icmp .eq 5, 3) := by decide +kernel
theorem dX7_isItem_204 : decode cX7_isItem 204 = .ok (.iconst 0, 1) := by decide +kernel
theorem dX7_isItem_205 : decode cX7_isItem 205 = .ok (.ireturn, 1) := by decide +kernel
theorem dX7_isItem_206 : decode cX7_isItem 206 = .ok (.aload_n 0, 1) := by decide +kernel
theorem dX7_isItem_207 : decode cX7_isItem 207 = .ok (.dup, 1) := by decide +kernel
theorem dX7_isItem_208 : decode cX7_isItem 208 = .ok (.getfield 105, 3) := by decide +kernel
theorem dX7_isItem_211 : decode cX7_isItem 211 = .ok (.iconst 1, 1) := by decide +kernel
theorem dX7_isItem_212 : decode cX7_isItem 212 = .ok (.iadd, 1) := by decide +kernel
theorem dX7_isItem_213 : decode cX7_isItem 213 = .ok (.putfield 105, 3) := by decide +kernel
theorem dX7_isItem_216 : decode cX7_isItem 216 = .ok (.aload_n 0, 1) := by decide +kernel
theorem dX7_isItem_217 : decode cX7_isItem 217 = .ok (.getfield 30, 3) := by decide +kernel
theorem dX7_isItem_220 : decode cX7_isItem 220 = .ok (.aload_n 0, 1) := by decide +kernel
theorem dX7_isItem_221 : decode cX7_isItem 221 = .ok (.getfield 118, 3) := by decide +kernel
theorem dX7_isItem_224 : decode cX7_isItem 224 = .ok (.iload_n 1, 1) := by decide +kernel
theorem dX7_isItem_225 : decode cX7_isItem 225 = .ok (.iastore, 1) := by decide +kernel
theorem dX7_isItem_226 : decode cX7_isItem 226 = .ok (.aload_n 0, 1) := by decide +kernel
theorem dX7_isItem_227 : decode cX7_isItem 227 = .ok (.getfield 33, 3) := by decide +kernel
theorem dX7_isItem_230 : decode cX7_isItem 230 = .ok (.aload_n 0, 1) := by decide +kernel
theorem dX7_isItem_231 : decode cX7_isItem 231 = .ok (.getfield 118, 3) := by decide +kernel
theorem dX7_isItem_234 : decode cX7_isItem 234 = .ok (.iload_n 2, 1) := by decide +kernel
theorem dX7_isItem_235 : decode cX7_isItem 235 = .ok (.iastore, 1) := by decide +kernel
theorem dX7_isItem_236 : decode cX7_isItem 236 = .ok (.aload_n 0, 1) := by decide +kernel
theorem dX7_isItem_237 : decode cX7_isItem 237 = .ok (.getfield 36, 3) := by decide +kernel
theorem dX7_isItem_240 : decode cX7_isItem 240 = .ok (.aload_n 0, 1) := by decide +kernel
theorem dX7_isItem_241 : decode cX7_isItem 241 = .ok (.getfield 118, 3) := by decide +kernel
theorem dX7_isItem_244 : decode cX7_isItem 244 = .ok (.iload_n 3, 1) := by decide +kernel
theorem dX7_isItem_245 : decode cX7_isItem 245 = .ok (.iastore, 1) := by decide +kernel
theorem dX7_isItem_246 : decode cX7_isItem 246 = .ok (.aload_n 0, 1) := by decide +kernel
theorem dX7_isItem_247 : decode cX7_isItem 247 = .ok (.getfield 39, 3) := by decide +kernel
theorem dX7_isItem_250 : decode cX7_isItem 250 = .ok (.aload_n 0, 1) := by decide +kernel
theorem dX7_isItem_251 : decode cX7_isItem 251 = .ok (.getfield 118, 3) := by decide +kernel
theorem dX7_isItem_254 : decode cX7_isItem 254 = .ok (.iload 4, 2) := by decide +kernel
theorem dX7_isItem_256 : decode cX7_isItem 256 = .ok (.iastore, 1) := by decide +kernel
theorem dX7_isItem_257 : decode cX7_isItem 257 = .ok (.aload_n 0, 1) := by decide +kernel
theorem dX7_isItem_258 : decode cX7_isItem 258 = .ok (.dup, 1) := by decide +kernel
theorem dX7_isItem_259 : decode cX7_isItem 259 = .ok (.getfield 118, 3) := by decide +kernel
theorem dX7_isItem_262 : decode cX7_isItem 262 = .ok (.iconst 1, 1) := by decide +kernel
theorem dX7_isItem_263 : decode cX7_isItem 263 = .ok (.iadd, 1) := by decide +kernel
theorem dX7_isItem_264 : decode cX7_isItem 264 = .ok (.putfield 118, 3) := by decide +kernel
theorem dX7_isItem_267 : decode cX7_isItem 267 = .ok (.iconst 1, 1) := by decide +kernel
theorem dX7_isItem_268 : decode cX7_isItem 268 = .ok (.ireturn, 1) := by decide +kernel
set_option maxRecDepth 20000 in
theorem ggX7_fault_X7_isItem : GoodIn wsX7_fault wsX7_isItem := goodIn_r _ [8, 9, 1, 2, 10, 11, 12, 3, 13, 14, 15, 16, 17, 18, 19, 7, 20, 21, 22, 23, 24, 25, 26, 27, 28, 29, 30, 31, 32, 33, 34, 35, 36, 37, 38, 39, 40, 41, 42, 43, 44, 45, 46, 47, 48] (by decide +kernel) (by decide +kernel)
set_option maxRecDepth 20000 in
theorem gX7_fault_X7_isItem : GoodIn wsX7_fault (wsV RX7 128 RX7 yX7_isItem wsX7_isItem) := goodIn_app (goodIn_of _ (by decide +kernel)) ggX7_fault_X7_isItem
theorem dX7_fault_0 : decode cX7_fault 0 = .ok (.aload_n 0, 1) := by decide +kernel
theorem dX7_fault_1 : decode cX7_fault 1 = .ok (.iconst 0, 1) := by decide +kernel
theorem dX7_fault_2 : decode cX7_fault 2 = .ok (.putfield 105, 3) := by decide +kernel
theorem dX7_fault_5 : decode cX7_fault 5 = .ok (.aload_n 0, 1) := by decide +kernel
theorem dX7_fault_6 : decode cX7_fault 6 = .ok (.iconst 0, 1) := by decide +kernel
theorem dX7_fault_7 : decode cX7_fault 7 = .ok (.putfield 118, 3) := by decide +kernel
theorem dX7_fault_10 : decode cX7_fault 10 = .ok (.aload_n 0, 1) := by decide +kernel
theorem dX7_fault_11 : decode cX7_fault 11 = .ok (.getfield 105, 3) := by decide +kernel
theorem dX7_fault_14 : decode cX7_fault 14 = .ok (.aload_n 0, 1) := by decide +kernel
theorem dX7_fault_15 : decode cX7_fault 15 = .ok (.getfield 102, 3) := by decide +kernel
theorem dX7_fault_18 : decode cX7_fault 18 = .ok (.if_icmp .ge 20, 3) := by decide +kernel
theorem dX7_fault_21 : decode cX7_fault 21 = .ok (.aload_n 0, 1) := by decide +kernel
theorem dX7_fault_22 : decode cX7_fault 22 = .ok (.getfield 105, 3) := by decide +kernel
theorem dX7_fault_25 : decode cX7_fault 25 = .ok (.istore_n 1, 1) := by decide +kernel
theorem dX7_fault_26 : decode cX7_fault 26 = .ok (.aload_n 0, 1) := by decide +kernel
theorem dX7_fault_27 : decode cX7_fault 27 = .ok (.invokevirtual 128, 3) := by decide +kernel
theorem dX7_fault_30 : decode cX7_fault 30 = .ok (.ifCond .ne 5, 3) := by decide +kernel
theorem dX7_fault_33 : decode cX7_fault 33 = .ok (.iload_n 1, 1) := by decide +kernel
theorem dX7_fault_34 : decode cX7_fault 34 = .ok (.ireturn, 1) := by decide +kernel
theorem dX7_fault_35 : decode cX7_fault 35 = .ok (.goto (-25), 3) := by decide +kernel
theorem dX7_fault_38 : decode cX7_fault 38 = .ok (.bipush (-4), 2) := by decide +kernel
theorem dX7_fault_40 : decode cX7_fault 40 = .ok (.ireturn, 1) := by decide +kernel
set_option maxRecDepth 20000 in
theorem ggX7_lay_X7_fault : GoodIn wsX7_lay wsX7_fault := goodIn_r _ [17, 18, 1, 19, 20, 21, 22, 16, 23, 24, 25, 26, 27, 7, 9, 11, 2, 28, 29, 30, 31, 32, 33, 34, 35, 36, 37, 38, 39, 40, 41, 45, 46, 47, 48, 49, 50, 51, 52, 53, 54, 55, 56, 57, 58, 59, 60, 61, 62] (by decide +kernel) (by decide +kernel)
set_option maxRecDepth 20000 in
theorem gX7_lay_X7_fault : GoodIn wsX7_lay (wsV RX7 132 RX7 yX7_fault wsX7_fault) := goodIn_app (goodIn_of _ (by decide +kernel)) ggX7_lay_X7_fault
set_option maxRecDepth 20000 in
theorem ggX7_lay_X7_common : GoodIn wsX7_lay wsX7_common := goodIn_r _ [44] (by decide +kernel) (by decide +kernel)
set_option maxRecDepth 20000 in
theorem gX7_lay_X7_common : GoodIn wsX7_lay (va_wsS RX7 64 yX7_common wsX7_common) := goodIn_app (goodIn_of _ (by decide +kernel)) ggX7_lay_X7_common
theorem dX7_lay_0 : decode cX7_lay 0 = .ok (.aload_n 0, 1) := by decide +kernel
theorem dX7_lay_1 : decode cX7_lay 1 = .ok (.invokevirtual 132, 3) := by decide +kernel
theorem dX7_lay_4 : decode cX7_lay 4 = .ok (.bipush (-4), 2) := by decide +kernel
theorem dX7_lay_6 : decode cX7_lay 6 = .ok (.if_icmp .eq 6, 3) := by decide +kernel
theorem dX7_lay_9 : decode cX7_lay 9 = .ok (.bipush (-2), 2) := by decide +kernel
theorem dX7_lay_11 : decode cX7_lay 11 = .ok (.ireturn, 1) := by decide +kernel
theorem dX7_lay_12 : decode cX7_lay 12 = .ok (.iconst 1, 1) := by decide +kernel
theorem dX7_lay_13 : decode cX7_lay 13 = .ok (.istore_n 1, 1) := by decide +kernel
theorem dX7_lay_14 : decode cX7_lay 14 = .ok (.iconst 0, 1) := by decide +kernel
theorem dX7_lay_15 : decode cX7_lay 15 = .ok (.istore_n 2, 1) := by decide +kernel
theorem dX7_lay_16 : decode cX7_lay 16 = .ok (.iload_n 2, 1) := by decide +kernel
theorem dX7_lay_17 : decode cX7_lay 17 = .ok (.aload_n 0, 1) := by decide +kernel
theorem dX7_lay_18 : decode cX7_lay 18 = .ok (.getfield 118, 3) := by decide +kernel
theorem dX7_lay_21 : decode cX7_lay 21 = .ok (.if_icmp .ge 46, 3) := by decide +kernel
theorem dX7_lay_24 : decode cX7_lay 24 = .ok (.iload_n 1, 1) := by decide +kernel
theorem dX7_lay_25 : decode cX7_lay 25 = .ok (.i2l, 1) := by decide +kernel
theorem dX7_lay_26 : decode cX7_lay 26 = .ok (.iload_n 1, 1) := by decide +kernel
theorem dX7_lay_27 : decode cX7_lay 27 = .ok (.aload_n 0, 1) := by decide +kernel
theorem dX7_lay_28 : decode cX7_lay 28 = .ok (.getfield 39, 3) := by decide +kernel
theorem dX7_lay_31 : decode cX7_lay 31 = .ok (.iload_n 2, 1) := by decide +kernel
theorem dX7_lay_32 : decode cX7_lay 32 = .ok (.iaload, 1) := by decide +kernel
theorem dX7_lay_33 : decode cX7_lay 33 = .ok (.invokestatic 64, 3) := by decide +kernel
theorem dX7_lay_36 : decode cX7_lay 36 = .ok (.i2l, 1) := by decide +kernel
theorem dX7_lay_37 : decode cX7_lay 37 = .ok (.ldiv, 1) := by decide +kernel
theorem dX7_lay_38 : decode cX7_lay 38 = .ok (.aload_n 0, 1) := by decide +kernel
theorem dX7_lay_39 : decode cX7_lay 39 = .ok (.getfield 39, 3) := by decide +kernel
theorem dX7_lay_42 : decode cX7_lay 42 = .ok (.iload_n 2, 1) := by decide +kernel
theorem dX7_lay_43 : decode cX7_lay 43 = .ok (.iaload, 1) := by decide +kernel
theorem dX7_lay_44 : decode cX7_lay 44 = .ok (.i2l, 1) := by decide +kernel
theorem dX7_lay_45 : decode cX7_lay 45 = .ok (.lmul, 1) := by decide +kernel
theorem dX7_lay_46 : decode cX7_lay 46 = .ok (.lstore_n 3, 1) := by decide +kernel
theorem dX7_lay_47 : decode cX7_lay 47 = .ok (.lload_n 3, 1) := by decide +kernel
theorem dX7_lay_48 : decode cX7_lay 48 = .ok (.ldc2_w 135, 3) := by decide +kernel
theorem dX7_lay_51 : decode cX7_lay 51 = .ok (.lcmp, 1) := by decide +kernel
theorem dX7_lay_52 : decode cX7_lay 52 = .ok (.ifCond .le 6, 3) := by decide +kernel
theorem dX7_lay_55 : decode cX7_lay 55 = .ok (.bipush (-2), 2) := by decide +kernel
theorem dX7_lay_57 : decode cX7_lay 57 = .ok (.ireturn, 1) := by decide +kernel
theorem dX7_lay_58 : decode cX7_lay 58 = .ok (.lload_n 3, 1) := by decide +kernel
theorem dX7_lay_59 : decode cX7_lay 59 = .ok (.l2i, 1) := by decide +kernel
theorem dX7_lay_60 : decode cX7_lay 60 = .ok (.istore_n 1, 1) := by decide +kernel
theorem dX7_lay_61 : decode cX7_lay 61 = .ok (.iinc 2 1, 3) := by decide +kernel
theorem dX7_lay_64 : decode cX7_lay 64 = .ok (.goto (-48), 3) := by decide +kernel
theorem dX7_lay_67 : decode cX7_lay 67 = .ok (.aload_n 0, 1) := by decide +kernel
theorem dX7_lay_68 : decode cX7_lay 68 = .ok (.iload_n 1, 1) := by decide +kernel
theorem dX7_lay_69 : decode cX7_lay 69 = .ok (.putfield 13, 3) := by decide +kernel
theorem dX7_lay_72 : decode cX7_lay 72 = .ok (.aload_n 0, 1) := by decide +kernel
theorem dX7_lay_73 : decode cX7_lay 73 = .ok (.aload_n 0, 1) := by decide +kernel
theorem dX7_lay_74 : decode cX7_lay 74 = .ok (.getfield 118, 3) := by decide +kernel
theorem dX7_lay_77 : decode cX7_lay 77 = .ok (.putfield 137, 3) := by decide +kernel
theorem dX7_lay_80 : decode cX7_lay 80 = .ok (.iconst 0, 1) := by decide +kernel
theorem dX7_lay_81 : decode cX7_lay 81 = .ok (.istore_n 2, 1) := by decide +kernel
theorem dX7_lay_82 : decode cX7_lay 82 = .ok (.iload_n 2, 1) := by decide +kernel
theorem dX7_lay_83 : decode cX7_lay 83 = .ok (.aload_n 0, 1) := by decide +kernel
theorem dX7_lay_84 : decode cX7_lay 84 = .ok (.getfield 137, 3) := by decide +kernel
theorem dX7_lay_87 : decode cX7_lay 87 = .ok (.if_icmp .ge 57, 3) := by decide +kernel
theorem dX7_lay_90 : decode cX7_lay 90 = .ok (.aload_n 0, 1) := by decide +kernel
theorem dX7_lay_91 : decode cX7_lay 91 = .ok (.getfield 17, 3) := by decide +kernel
theorem dX7_lay_94 : decode cX7_lay 94 = .ok (.iload_n 2, 1) := by decide +kernel
theorem dX7_lay_95 : decode cX7_lay 95 = .ok (.aload_n 0, 1) := by decide +kernel
theorem dX7_lay_96 : decode cX7_lay 96 = .ok (.getfield 30, 3) := by decide +kernel
theorem dX7_lay_99 : decode cX7_lay 99 = .ok (.iload_n 2, 1) := by decide +kernel
theorem dX7_lay_100 : decode cX7_lay 100 = .ok (.iaload, 1) := by decide +kernel
theorem dX7_lay_101 : decode cX7_lay 101 = .ok (.iastore, 1) := by decide +kernel
theorem dX7_lay_102 : decode cX7_lay 102 = .ok (.aload_n 0, 1) := by decide +kernel
theorem dX7_lay_103 : decode cX7_lay 103 = .ok (.getfield 21, 3) := by decide +kernel
theorem dX7_lay_106 : decode cX7_lay 106 = .ok (.iload_n 2, 1) := by decide +kernel
theorem dX7_lay_107 : decode cX7_lay 107 = .ok (.aload_n 0, 1) := by decide +kernel
theorem dX7_lay_108 : decode cX7_lay 108 = .ok (.getfield 33, 3) := by decide +kernel
theorem dX7_lay_111 : decode cX7_lay 111 = .ok (.iload_n 2, 1) := by decide +kernel
theorem dX7_lay_112 : decode cX7_lay 112 = .ok (.iaload, 1) := by decide +kernel
theorem dX7_lay_113 : decode cX7_lay 113 = .ok (.iastore, 1) := by decide +kernel
theorem dX7_lay_114 : decode cX7_lay 114 = .ok (.aload_n 0, 1) := by decide +kernel
theorem dX7_lay_115 : decode cX7_lay 115 = .ok (.getfield 24, 3) := by decide +kernel
theorem dX7_lay_118 : decode cX7_lay 118 = .ok (.iload_n 2, 1) := by decide +kernel
theorem dX7_lay_119 : decode cX7_lay 119 = .ok (.aload_n 0, 1) := by decide +kernel
theorem dX7_lay_120 : decode cX7_lay 120 = .ok (.getfield 36, 3) := by decide +kernel
theorem dX7_lay_123 : decode cX7_lay 123 = .ok (.iload_n 2, 1) := by decide +kernel
theorem dX7_lay_124 : decode cX7_lay 124 = .ok (.iaload, 1) := by decide +kernel
theorem dX7_lay_125 : decode cX7_lay 125 = .ok (.iastore, 1) := by decide +kernel
theorem dX7_lay_126 : decode cX7_lay 126 = .ok (.aload_n 0, 1) := by decide +kernel
theorem dX7_lay_127 : decode cX7_lay 127 = .ok (.getfield 27, 3) := by decide +kernel
theorem dX7_lay_130 : decode cX7_lay 130 = .ok (.iload_n 2, 1) := by decide +kernel
theorem dX7_lay_131 : decode cX7_lay 131 = .ok (.aload_n 0, 1) := by decide +kernel
theorem dX7_lay_132 : decode cX7_lay 132 = .ok (.getfield 39, 3) := by decide +kernel
theorem dX7_lay_135 : decode cX7_lay 135 = .ok (.iload_n 2, 1) := by decide +kernel
theorem dX7_lay_136 : decode cX7_lay 136 = .ok (.iaload, 1) := by decide +kernel
theorem dX7_lay_137 : decode cX7_lay 137 = .ok (.iastore, 1) := by decide +kernel
theorem dX7_lay_138 : decode cX7_lay 138 = .ok (.iinc 2 1, 3) := by decide +kernel
theorem dX7_lay_141 : decode cX7_lay 141 = .ok (.goto (-59), 3) := by decide +kernel
theorem dX7_lay_144 : decode cX7_lay 144 = .ok (.aload_n 0, 1) := by decide +kernel
theorem dX7_lay_145 : decode cX7_lay 145 = .ok (.getfield 13, 3) := by decide +kernel
theorem dX7_lay_148 : decode cX7_lay 148 = .ok (.ireturn, 1) := by decide +kernel
set_option maxRecDepth 20000 in
theorem ggX7_holds_X7_powerOf : GoodIn wsX7_holds wsX7_powerOf := goodIn_r _ [8, 9] (by decide +kernel) (by decide +kernel)
set_option maxRecDepth 20000 in
theorem gX7_holds_X7_powerOf : GoodIn wsX7_holds (va_wsS RX7 88 yX7_powerOf wsX7_powerOf) := goodIn_app (goodIn_of _ (by decide +kernel)) ggX7_holds_X7_powerOf
set_option maxRecDepth 20000 in
theorem ggX7_holds_X7_in : GoodIn wsX7_holds wsX7_in := goodIn_r _ [12] (by decide +kernel) (by decide +kernel)
set_option maxRecDepth 20000 in
theorem gX7_holds_X7_in : GoodIn wsX7_holds (va_wsS RX7 60 yX7_in wsX7_in) := goodIn_app (goodIn_of _ (by decide +kernel)) ggX7_holds_X7_in
theorem dX7_holds_0 : decode cX7_holds 0 = .ok (.aload_n 0, 1) := by decide +kernel
theorem dX7_holds_1 : decode cX7_holds 1 = .ok (.getfield 27, 3) := by decide +kernel
theorem dX7_holds_4 : decode cX7_holds 4 = .ok (.iload_n 1, 1) := by decide +kernel
theorem dX7_holds_5 : decode cX7_holds 5 = .ok (.iaload, 1) := by decide +kernel
theorem dX7_holds_6 : decode cX7_holds 6 = .ok (.istore_n 3, 1) := by decide +kernel
theorem dX7_holds_7 : decode cX7_holds 7 = .ok (.iload_n 2, 1) := by decide +kernel
theorem dX7_holds_8 : decode cX7_holds 8 = .ok (.iload_n 3, 1) := by decide +kernel
theorem dX7_holds_9 : decode cX7_holds 9 = .ok (.irem, 1) := by decide +kernel
theorem dX7_holds_10 : decode cX7_holds 10 = .ok (.istore 4, 2) := by decide +kernel
theorem dX7_holds_12 : decode cX7_holds 12 = .ok (.aload_n 0, 1) := by decide +kernel
theorem dX7_holds_13 : decode cX7_holds 13 = .ok (.getfield 17, 3) := by decide +kernel
theorem dX7_holds_16 : decode cX7_holds 16 = .ok (.iload_n 1, 1) := by decide +kernel
theorem dX7_holds_17 : decode cX7_holds 17 = .ok (.iaload, 1) := by decide +kernel
theorem dX7_holds_18 : decode cX7_holds 18 = .ok (.tableswitch 105 108 112 #[34, 105, 88, 105, 60], 34) := by decide +kernel
theorem dX7_holds_52 : decode cX7_holds 52 = .ok (.aload_n 0, 1) := by decide +kernel
theorem dX7_holds_53 : decode cX7_holds 53 = .ok (.getfield 21, 3) := by decide +kernel
theorem dX7_holds_56 : decode cX7_holds 56 = .ok (.iload_n 1, 1) := by decide +kernel
theorem dX7_holds_57 : decode cX7_holds 57 = .ok (.iaload, 1) := by decide +kernel
theorem dX7_holds_58 : decode cX7_holds 58 = .ok (.iload 4, 2) := by decide +kernel
theorem dX7_holds_60 : decode cX7_holds 60 = .ok (.imul, 1) := by decide +kernel
theorem dX7_holds_61 : decode cX7_holds 61 = .ok (.iload_n 3, 1) := by decide +kernel
theorem dX7_holds_62 : decode cX7_holds 62 = .ok (.irem, 1) := by decide +kernel
theorem dX7_holds_63 : decode cX7_holds 63 = .ok (.aload_n 0, 1) := by decide +kernel
theorem dX7_holds_64 : decode cX7_holds 64 = .ok (.getfield 24, 3) := by decide +kernel
theorem dX7_holds_67 : decode cX7_holds 67 = .ok (.iload_n 1, 1) := by decide +kernel
theorem dX7_holds_68 : decode cX7_holds 68 = .ok (.iaload, 1) := by decide +kernel
theorem dX7_holds_69 : decode cX7_holds 69 = .ok (.if_icmp .ne 7, 3) := by decide +kernel
theorem dX7_holds_72 : decode cX7_holds 72 = .ok (.iconst 1, 1) := by decide +kernel
theorem dX7_holds_73 : decode cX7_holds 73 = .ok (.goto 4, 3) := by decide +kernel
theorem dX7_holds_76 : decode cX7_holds 76 = .ok (.iconst 0, 1) := by decide +kernel
theorem dX7_holds_77 : decode cX7_holds 77 = .ok (.ireturn, 1) := by decide +kernel
theorem dX7_holds_78 : decode cX7_holds 78 = .ok (.iload_n 3, 1) := by decide +kernel
theorem dX7_holds_79 : decode cX7_holds 79 = .ok (.iload 4, 2) := by decide +kernel
theorem dX7_holds_81 : decode cX7_holds 81 = .ok (.aload_n 0, 1) := by decide +kernel
theorem dX7_holds_82 : decode cX7_holds 82 = .ok (.getfield 21, 3) := by decide +kernel
theorem dX7_holds_85 : decode cX7_holds 85 = .ok (.iload_n 1, 1) := by decide +kernel
theorem dX7_holds_86 : decode cX7_holds 86 = .ok (.iaload, 1) := by decide +kernel
theorem dX7_holds_87 : decode cX7_holds 87 = .ok (.i2l, 1) := by decide +kernel
theorem dX7_holds_88 : decode cX7_holds 88 = .ok (.invokestatic 88, 3) := by decide +kernel
theorem dX7_holds_91 : decode cX7_holds 91 = .ok (.aload_n 0, 1) := by decide +kernel
theorem dX7_holds_92 : decode cX7_holds 92 = .ok (.getfield 24, 3) := by decide +kernel
theorem dX7_holds_95 : decode cX7_holds 95 = .ok (.iload_n 1, 1) := by decide +kernel
theorem dX7_holds_96 : decode cX7_holds 96 = .ok (.iaload, 1) := by decide +kernel
theorem dX7_holds_97 : decode cX7_holds 97 = .ok (.if_icmp .ne 7, 3) := by decide +kernel
theorem dX7_holds_100 : decode cX7_holds 100 = .ok (.iconst 1, 1) := by decide +kernel
theorem dX7_holds_101 : decode cX7_holds 101 = .ok (.goto 4, 3) := by decide +kernel
theorem dX7_holds_104 : decode cX7_holds 104 = .ok (.iconst 0, 1) := by decide +kernel
theorem dX7_holds_105 : decode cX7_holds 105 = .ok (.ireturn, 1) := by decide +kernel
theorem dX7_holds_106 : decode cX7_holds 106 = .ok (.iload 4, 2) := by decide +kernel
theorem dX7_holds_108 : decode cX7_holds 108 = .ok (.aload_n 0, 1) := by decide +kernel
theorem dX7_holds_109 : decode cX7_holds 109 = .ok (.getfield 21, 3) := by decide +kernel
theorem dX7_holds_112 : decode cX7_holds 112 = .ok (.iload_n 1, 1) := by decide +kernel
theorem dX7_holds_113 : decode cX7_holds 113 = .ok (.iaload, 1) := by decide +kernel
theorem dX7_holds_114 : decode cX7_holds 114 = .ok (.if_icmp .eq 7, 3) := by decide +kernel
theorem dX7_holds_117 : decode cX7_holds 117 = .ok (.iconst 1, 1) := by decide +kernel
theorem dX7_holds_118 : decode cX7_holds 118 = .ok (.goto 4, 3) := by decide +kernel
theorem dX7_holds_121 : decode cX7_holds 121 = .ok (.iconst 0, 1) := by decide +kernel
theorem dX7_holds_122 : decode cX7_holds 122 = .ok (.ireturn, 1) := by decide +kernel
theorem dX7_holds_123 : decode cX7_holds 123 = .ok (.iload 4, 2) := by decide +kernel
theorem dX7_holds_125 : decode cX7_holds 125 = .ok (.i2l, 1) := by decide +kernel
theorem dX7_holds_126 : decode cX7_holds 126 = .ok (.aload_n 0, 1) := by decide +kernel
theorem dX7_holds_127 : decode cX7_holds 127 = .ok (.getfield 21, 3) := by decide +kernel
theorem dX7_holds_130 : decode cX7_holds 130 = .ok (.iload_n 1, 1) := by decide +kernel
theorem dX7_holds_131 : decode cX7_holds 131 = .ok (.iaload, 1) := by decide +kernel
theorem dX7_holds_132 : decode cX7_holds 132 = .ok (.i2l, 1) := by decide +kernel
theorem dX7_holds_133 : decode cX7_holds 133 = .ok (.aload_n 0, 1) := by decide +kernel
theorem dX7_holds_134 : decode cX7_holds 134 = .ok (.getfield 24, 3) := by decide +kernel
theorem dX7_holds_137 : decode cX7_holds 137 = .ok (.iload_n 1, 1) := by decide +kernel
theorem dX7_holds_138 : decode cX7_holds 138 = .ok (.iaload, 1) := by decide +kernel
theorem dX7_holds_139 : decode cX7_holds 139 = .ok (.i2l, 1) := by decide +kernel
theorem dX7_holds_140 : decode cX7_holds 140 = .ok (.invokestatic 60, 3) := by decide +kernel
theorem dX7_holds_143 : decode cX7_holds 143 = .ok (.ireturn, 1) := by decide +kernel
set_option maxRecDepth 20000 in
theorem ggX7_fails_X7_holds : GoodIn wsX7_fails wsX7_holds := goodIn_r _ [6, 7, 8, 9, 10, 11, 12, 5, 13, 14, 15, 16, 17, 18, 19, 20, 21, 22, 23, 24, 25, 26, 27, 28, 29, 30, 31, 32, 33, 34, 35] (by decide +kernel) (by decide +kernel)
set_option maxRecDepth 20000 in
theorem gX7_fails_X7_holds : GoodIn wsX7_fails (wsV RX7 140 RX7 yX7_holds wsX7_holds) := goodIn_app (goodIn_of _ (by decide +kernel)) ggX7_fails_X7_holds
theorem dX7_fails_0 : decode cX7_fails 0 = .ok (.iconst 0, 1) := by decide +kernel
theorem dX7_fails_1 : decode cX7_fails 1 = .ok (.istore_n 2, 1) := by decide +kernel
theorem dX7_fails_2 : decode cX7_fails 2 = .ok (.iconst 0, 1) := by decide +kernel
theorem dX7_fails_3 : decode cX7_fails 3 = .ok (.istore_n 3, 1) := by decide +kernel
theorem dX7_fails_4 : decode cX7_fails 4 = .ok (.iload_n 3, 1) := by decide +kernel
theorem dX7_fails_5 : decode cX7_fails 5 = .ok (.aload_n 0, 1) := by decide +kernel
theorem dX7_fails_6 : decode cX7_fails 6 = .ok (.getfield 137, 3) := by decide +kernel
theorem dX7_fails_9 : decode cX7_fails 9 = .ok (.if_icmp .ge 28, 3) := by decide +kernel
theorem dX7_fails_12 : decode cX7_fails 12 = .ok (.iload_n 2, 1) := by decide +kernel
theorem dX7_fails_13 : decode cX7_fails 13 = .ok (.aload_n 0, 1) := by decide +kernel
theorem dX7_fails_14 : decode cX7_fails 14 = .ok (.iload_n 3, 1) := by decide +kernel
theorem dX7_fails_15 : decode cX7_fails 15 = .ok (.iload_n 1, 1) := by decide +kernel
theorem dX7_fails_16 : decode cX7_fails 16 = .ok (.invokevirtual 140, 3) := by decide +kernel
theorem dX7_fails_19 : decode cX7_fails 19 = .ok (.ifCond .eq 7, 3) := by decide +kernel
theorem dX7_fails_22 : decode cX7_fails 22 = .ok (.iconst 0, 1) := by decide +kernel
theorem dX7_fails_23 : decode cX7_fails 23 = .ok (.goto 6, 3) := by decide +kernel
theorem dX7_fails_26 : decode cX7_fails 26 = .ok (.iconst 1, 1) := by decide +kernel
theorem dX7_fails_27 : decode cX7_fails 27 = .ok (.iload_n 3, 1) := by decide +kernel
theorem dX7_fails_28 : decode cX7_fails 28 = .ok (.ishl, 1) := by decide +kernel
theorem dX7_fails_29 : decode cX7_fails 29 = .ok (.ior, 1) := by decide +kernel
theorem dX7_fails_30 : decode cX7_fails 30 = .ok (.istore_n 2, 1) := by decide +kernel
theorem dX7_fails_31 : decode cX7_fails 31 = .ok (.iinc 3 1, 3) := by decide +kernel
theorem dX7_fails_34 : decode cX7_fails 34 = .ok (.goto (-30), 3) := by decide +kernel
theorem dX7_fails_37 : decode cX7_fails 37 = .ok (.iload_n 2, 1) := by decide +kernel
theorem dX7_fails_38 : decode cX7_fails 38 = .ok (.ireturn, 1) := by decide +kernel
set_option maxRecDepth 20000 in
theorem ggX7_leftOf_X7_fails : GoodIn wsX7_leftOf wsX7_fails := goodIn_r _ [6, 7, 8, 9, 10, 5, 11, 12, 13, 14, 15, 16, 17, 18, 19, 20, 21, 22, 23, 24, 25, 26, 27, 28, 29, 30, 31, 32, 33, 34, 35, 36, 37, 38, 39, 40] (by decide +kernel) (by decide +kernel)
set_option maxRecDepth 20000 in
theorem gX7_leftOf_X7_fails : GoodIn wsX7_leftOf (wsV RX7 143 RX7 yX7_fails wsX7_fails) := goodIn_app (goodIn_of _ (by decide +kernel)) ggX7_leftOf_X7_fails
theorem dX7_leftOf_0 : decode cX7_leftOf 0 = .ok (.iconst 0, 1) := by decide +kernel
theorem dX7_leftOf_1 : decode cX7_leftOf 1 = .ok (.istore_n 1, 1) := by decide +kernel
theorem dX7_leftOf_2 : decode cX7_leftOf 2 = .ok (.iconst 0, 1) := by decide +kernel
theorem dX7_leftOf_3 : decode cX7_leftOf 3 = .ok (.istore_n 2, 1) := by decide +kernel
theorem dX7_leftOf_4 : decode cX7_leftOf 4 = .ok (.iload_n 2, 1) := by decide +kernel
theorem dX7_leftOf_5 : decode cX7_leftOf 5 = .ok (.aload_n 0, 1) := by decide +kernel
theorem dX7_leftOf_6 : decode cX7_leftOf 6 = .ok (.getfield 13, 3) := by decide +kernel
theorem dX7_leftOf_9 : decode cX7_leftOf 9 = .ok (.if_icmp .ge 25, 3) := by decide +kernel
theorem dX7_leftOf_12 : decode cX7_leftOf 12 = .ok (.iload_n 1, 1) := by decide +kernel
theorem dX7_leftOf_13 : decode cX7_leftOf 13 = .ok (.aload_n 0, 1) := by decide +kernel
theorem dX7_leftOf_14 : decode cX7_leftOf 14 = .ok (.iload_n 2, 1) := by decide +kernel
theorem dX7_leftOf_15 : decode cX7_leftOf 15 = .ok (.invokevirtual 143, 3) := by decide +kernel
theorem dX7_leftOf_18 : decode cX7_leftOf 18 = .ok (.ifCond .ne 7, 3) := by decide +kernel
theorem dX7_leftOf_21 : decode cX7_leftOf 21 = .ok (.iconst 1, 1) := by decide +kernel
theorem dX7_leftOf_22 : decode cX7_leftOf 22 = .ok (.goto 4, 3) := by decide +kernel
theorem dX7_leftOf_25 : decode cX7_leftOf 25 = .ok (.iconst 0, 1) := by decide +kernel
theorem dX7_leftOf_26 : decode cX7_leftOf 26 = .ok (.iadd, 1) := by decide +kernel
theorem dX7_leftOf_27 : decode cX7_leftOf 27 = .ok (.istore_n 1, 1) := by decide +kernel
theorem dX7_leftOf_28 : decode cX7_leftOf 28 = .ok (.iinc 2 1, 3) := by decide +kernel
theorem dX7_leftOf_31 : decode cX7_leftOf 31 = .ok (.goto (-27), 3) := by decide +kernel
theorem dX7_leftOf_34 : decode cX7_leftOf 34 = .ok (.iload_n 1, 1) := by decide +kernel
theorem dX7_leftOf_35 : decode cX7_leftOf 35 = .ok (.ireturn, 1) := by decide +kernel
set_option maxRecDepth 20000 in
theorem ggX7_left_X7_leftOf : GoodIn wsX7_left wsX7_leftOf := goodIn_r _ [5, 6, 7, 8, 9, 4, 10, 11, 12, 13, 14, 15, 16, 17, 18, 19, 20, 21, 22, 23, 24, 25, 26, 27, 28, 29, 30, 31, 32, 33, 34, 35, 36, 37, 38, 39, 40, 41, 42, 43, 44] (by decide +kernel) (by decide +kernel)
set_option maxRecDepth 20000 in
theorem gX7_left_X7_leftOf : GoodIn wsX7_left (wsV RX7 146 RX7 yX7_leftOf wsX7_leftOf) := goodIn_app (goodIn_of _ (by decide +kernel)) ggX7_left_X7_leftOf
theorem dX7_left_0 : decode cX7_left 0 = .ok (.aload_n 0, 1) := by decide +kernel
theorem dX7_left_1 : decode cX7_left 1 = .ok (.invokevirtual 146, 3) := by decide +kernel
theorem dX7_left_4 : decode cX7_left 4 = .ok (.ireturn, 1) := by decide +kernel
set_option maxRecDepth 20000 in
theorem ggX7_ith_X7_in : GoodIn wsX7_ith wsX7_in := goodIn_r _ [8] (by decide +kernel) (by decide +kernel)
set_option maxRecDepth 20000 in
theorem gX7_ith_X7_in : GoodIn wsX7_ith (va_wsS RX7 60 yX7_in wsX7_in) := goodIn_app (goodIn_of _ (by decide +kernel)) ggX7_ith_X7_in
set_option maxRecDepth 20000 in
theorem ggX7_ith_X7_leftOf : GoodIn wsX7_ith wsX7_leftOf := goodIn_r _ [12, 4, 13, 14, 15, 7, 16, 17, 18, 19, 20, 21, 22, 23, 24, 25, 26, 27, 28, 29, 5, 6, 8, 30, 31, 32, 33, 34, 35, 36, 37, 38, 39, 40, 41, 42, 43, 44, 45, 46, 47] (by decide +kernel) (by decide +kernel)
set_option maxRecDepth 20000 in
theorem gX7_ith_X7_leftOf : GoodIn wsX7_ith (wsV RX7 146 RX7 yX7_leftOf wsX7_leftOf) := goodIn_app (goodIn_of _ (by decide +kernel)) ggX7_ith_X7_leftOf
set_option maxRecDepth 20000 in
theorem ggX7_ith_X7_fails : GoodIn wsX7_ith wsX7_fails := goodIn_r _ [16, 17, 18, 19, 20, 7, 21, 22, 23, 24, 25, 26, 27, 28, 29, 5, 6, 8, 30, 31, 32, 33, 34, 35, 36, 37, 38, 39, 40, 41, 42, 43, 44, 45, 46, 47] (by decide +kernel) (by decide +kernel)
set_option maxRecDepth 20000 in
theorem gX7_ith_X7_fails : GoodIn wsX7_ith (wsV RX7 143 RX7 yX7_fails wsX7_fails) := goodIn_app (goodIn_of _ (by decide +kernel)) ggX7_ith_X7_fails
theorem dX7_ith_0 : decode cX7_ith 0 = .ok (.lload_n 1, 1) := by decide +kernel
theorem dX7_ith_1 : decode cX7_ith 1 = .ok (.lconst 0, 1) := by decide +kernel
theorem dX7_ith_2 : decode cX7_ith 2 = .ok (.ldc2_w 149, 3) := by decide +kernel
theorem dX7_ith_5 : decode cX7_ith 5 = .ok (.invokestatic 60, 3) := by decide +kernel
theorem dX7_ith_8 : decode cX7_ith 8 = .ok (.ifCond .ne 7, 3) := by decide +kernel
theorem dX7_ith_11 : decode cX7_ith 11 = .ok (.ldc2_w 151, 3) := by decide +kernel
theorem dX7_ith_14 : decode cX7_ith 14 = .ok (.lreturn, 1) := by decide +kernel
theorem dX7_ith_15 : decode cX7_ith 15 = .ok (.aload_n 0, 1) := by decide +kernel
theorem dX7_ith_16 : decode cX7_ith 16 = .ok (.invokevirtual 146, 3) := by decide +kernel
theorem dX7_ith_19 : decode cX7_ith 19 = .ok (.istore_n 3, 1) := by decide +kernel
theorem dX7_ith_20 : decode cX7_ith 20 = .ok (.iload_n 3, 1) := by decide +kernel
theorem dX7_ith_21 : decode cX7_ith 21 = .ok (.ifCond .ne 7, 3) := by decide +kernel
theorem dX7_ith_24 : decode cX7_ith 24 = .ok (.ldc2_w 153, 3) := by decide +kernel
theorem dX7_ith_27 : decode cX7_ith 27 = .ok (.lreturn, 1) := by decide +kernel
theorem dX7_ith_28 : decode cX7_ith 28 = .ok (.lload_n 1, 1) := by decide +kernel
theorem dX7_ith_29 : decode cX7_ith 29 = .ok (.iload_n 3, 1) := by decide +kernel
theorem dX7_ith_30 : decode cX7_ith 30 = .ok (.i2l, 1) := by decide +kernel
theorem dX7_ith_31 : decode cX7_ith 31 = .ok (.lrem, 1) := by decide +kernel
theorem dX7_ith_32 : decode cX7_ith 32 = .ok (.lstore 4, 2) := by decide +kernel
theorem dX7_ith_34 : decode cX7_ith 34 = .ok (.iconst 0, 1) := by decide +kernel
theorem dX7_ith_35 : decode cX7_ith 35 = .ok (.istore 6, 2) := by decide +kernel
theorem dX7_ith_37 : decode cX7_ith 37 = .ok (.aload_n 0, 1) := by decide +kernel
theorem dX7_ith_38 : decode cX7_ith 38 = .ok (.iload 6, 2) := by decide +kernel
theorem dX7_ith_40 : decode cX7_ith 40 = .ok (.invokevirtual 143, 3) := by decide +kernel
theorem dX7_ith_43 : decode cX7_ith 43 = .ok (.ifCond .ne 10, 3) := by decide +kernel
theorem dX7_ith_46 : decode cX7_ith 46 = .ok (.lload 4, 2) := by decide +kernel
theorem dX7_ith_48 : decode cX7_ith 48 = .ok (.lconst 0, 1) := by decide +kernel
theorem dX7_ith_49 : decode cX7_ith 49 = .ok (.lcmp, 1) := by decide +kernel
theorem dX7_ith_50 : decode cX7_ith 50 = .ok (.ifCond .le 28, 3) := by decide +kernel
theorem dX7_ith_53 : decode cX7_ith 53 = .ok (.lload 4, 2) := by decide +kernel
theorem dX7_ith_55 : decode cX7_ith 55 = .ok (.aload_n 0, 1) := by decide +kernel
theorem dX7_ith_56 : decode cX7_ith 56 = .ok (.iload 6, 2) := by decide +kernel
theorem dX7_ith_58 : decode cX7_ith 58 = .ok (.invokevirtual 143, 3) := by decide +kernel
theorem dX7_ith_61 : decode cX7_ith 61 = .ok (.ifCond .ne 7, 3) := by decide +kernel
theorem dX7_ith_64 : decode cX7_ith 64 = .ok (.lconst 1, 1) := by decide +kernel
theorem dX7_ith_65 : decode cX7_ith 65 = .ok (.goto 4, 3) := by decide +kernel
theorem dX7_ith_68 : decode cX7_ith 68 = .ok (.lconst 0, 1) := by decide +kernel
theorem dX7_ith_69 : decode cX7_ith 69 = .ok (.lsub, 1) := by decide +kernel
theorem dX7_ith_70 : decode cX7_ith 70 = .ok (.lstore 4, 2) := by decide +kernel
theorem dX7_ith_72 : decode cX7_ith 72 = .ok (.iinc 6 1, 3) := by decide +kernel
theorem dX7_ith_75 : decode cX7_ith 75 = .ok (.goto (-38), 3) := by decide +kernel
theorem dX7_ith_78 : decode cX7_ith 78 = .ok (.lload_n 1, 1) := by decide +kernel
theorem dX7_ith_79 : decode cX7_ith 79 = .ok (.iload_n 3, 1) := by decide +kernel
theorem dX7_ith_80 : decode cX7_ith 80 = .ok (.i2l, 1) := by decide +kernel
theorem dX7_ith_81 : decode cX7_ith 81 = .ok (.ldiv, 1) := by decide +kernel
theorem dX7_ith_82 : decode cX7_ith 82 = .ok (.aload_n 0, 1) := by decide +kernel
theorem dX7_ith_83 : decode cX7_ith 83 = .ok (.getfield 13, 3) := by decide +kernel
theorem dX7_ith_86 : decode cX7_ith 86 = .ok (.i2l, 1) := by decide +kernel
theorem dX7_ith_87 : decode cX7_ith 87 = .ok (.lmul, 1) := by decide +kernel
theorem dX7_ith_88 : decode cX7_ith 88 = .ok (.iload 6, 2) := by decide +kernel
theorem dX7_ith_90 : decode cX7_ith 90 = .ok (.i2l, 1) := by decide +kernel
theorem dX7_ith_91 : decode cX7_ith 91 = .ok (.ladd, 1) := by decide +kernel
theorem dX7_ith_92 : decode cX7_ith 92 = .ok (.lreturn, 1) := by decide +kernel
set_option maxRecDepth 20000 in
theorem ggX7_from_X7_in : GoodIn wsX7_from wsX7_in := goodIn_r _ [8] (by decide +kernel) (by decide +kernel)
set_option maxRecDepth 20000 in
theorem gX7_from_X7_in : GoodIn wsX7_from (va_wsS RX7 60 yX7_in wsX7_in) := goodIn_app (goodIn_of _ (by decide +kernel)) ggX7_from_X7_in
set_option maxRecDepth 20000 in
theorem ggX7_from_X7_fails : GoodIn wsX7_from wsX7_fails := goodIn_r _ [12, 13, 14, 15, 16, 7, 17, 18, 19, 20, 21, 22, 23, 24, 25, 5, 6, 8, 26, 27, 28, 29, 30, 31, 32, 33, 34, 35, 36, 37, 38, 39, 40, 41, 42, 43] (by decide +kernel) (by decide +kernel)
set_option maxRecDepth 20000 in
theorem gX7_from_X7_fails : GoodIn wsX7_from (wsV RX7 143 RX7 yX7_fails wsX7_fails) := goodIn_app (goodIn_of _ (by decide +kernel)) ggX7_from_X7_fails
theorem dX7_from_0 : decode cX7_from 0 = .ok (.lload_n 1, 1) := by decide +kernel
theorem dX7_from_1 : decode cX7_from 1 = .ok (.lconst 0, 1) := by decide +kernel
theorem dX7_from_2 : decode cX7_from 2 = .ok (.ldc2_w 155, 3) := by decide +kernel
theorem dX7_from_5 : decode cX7_from 5 = .ok (.invokestatic 60, 3) := by decide +kernel
theorem dX7_from_8 : decode cX7_from 8 = .ok (.ifCond .ne 7, 3) := by decide +kernel
theorem dX7_from_11 : decode cX7_from 11 = .ok (.ldc2_w 151, 3) := by decide +kernel
theorem dX7_from_14 : decode cX7_from 14 = .ok (.lreturn, 1) := by decide +kernel
theorem dX7_from_15 : decode cX7_from 15 = .ok (.iconst 0, 1) := by decide +kernel
theorem dX7_from_16 : decode cX7_from 16 = .ok (.istore_n 3, 1) := by decide +kernel
theorem dX7_from_17 : decode cX7_from 17 = .ok (.iload_n 3, 1) := by decide +kernel
theorem dX7_from_18 : decode cX7_from 18 = .ok (.aload_n 0, 1) := by decide +kernel
theorem dX7_from_19 : decode cX7_from 19 = .ok (.getfield 13, 3) := by decide +kernel
theorem dX7_from_22 : decode cX7_from 22 = .ok (.if_icmp .ge 32, 3) := by decide +kernel
theorem dX7_from_25 : decode cX7_from 25 = .ok (.aload_n 0, 1) := by decide +kernel
theorem dX7_from_26 : decode cX7_from 26 = .ok (.lload_n 1, 1) := by decide +kernel
theorem dX7_from_27 : decode cX7_from 27 = .ok (.iload_n 3, 1) := by decide +kernel
theorem dX7_from_28 : decode cX7_from 28 = .ok (.i2l, 1) := by decide +kernel
theorem dX7_from_29 : decode cX7_from 29 = .ok (.ladd, 1) := by decide +kernel
theorem dX7_from_30 : decode cX7_from 30 = .ok (.aload_n 0, 1) := by decide +kernel
theorem dX7_from_31 : decode cX7_from 31 = .ok (.getfield 13, 3) := by decide +kernel
theorem dX7_from_34 : decode cX7_from 34 = .ok (.i2l, 1) := by decide +kernel
theorem dX7_from_35 : decode cX7_from 35 = .ok (.lrem, 1) := by decide +kernel
theorem dX7_from_36 : decode cX7_from 36 = .ok (.l2i, 1) := by decide +kernel
theorem dX7_from_37 : decode cX7_from 37 = .ok (.invokevirtual 143, 3) := by decide +kernel
theorem dX7_from_40 : decode cX7_from 40 = .ok (.ifCond .ne 8, 3) := by decide +kernel
theorem dX7_from_43 : decode cX7_from 43 = .ok (.lload_n 1, 1) := by decide +kernel
theorem dX7_from_44 : decode cX7_from 44 = .ok (.iload_n 3, 1) := by decide +kernel
theorem dX7_from_45 : decode cX7_from 45 = .ok (.i2l, 1) := by decide +kernel
theorem dX7_from_46 : decode cX7_from 46 = .ok (.ladd, 1) := by decide +kernel
theorem dX7_from_47 : decode cX7_from 47 = .ok (.lreturn, 1) := by decide +kernel
theorem dX7_from_48 : decode cX7_from 48 = .ok (.iinc 3 1, 3) := by decide +kernel
theorem dX7_from_51 : decode cX7_from 51 = .ok (.goto (-34), 3) := by decide +kernel
theorem dX7_from_54 : decode cX7_from 54 = .ok (.ldc2_w 153, 3) := by decide +kernel
theorem dX7_from_57 : decode cX7_from 57 = .ok (.lreturn, 1) := by decide +kernel
set_option maxRecDepth 20000 in
theorem ggX7_looksAll_X7_fails : GoodIn wsX7_looksAll wsX7_fails := goodIn_r _ [7, 8, 9, 10, 11, 6, 12, 13, 14, 15, 16, 17, 18, 19, 20, 21, 22, 23, 24, 25, 26, 27, 28, 29, 30, 31, 32, 33, 34, 35, 36, 37, 38, 39, 40, 41] (by decide +kernel) (by decide +kernel)
set_option maxRecDepth 20000 in
theorem gX7_looksAll_X7_fails : GoodIn wsX7_looksAll (wsV RX7 143 RX7 yX7_fails wsX7_fails) := goodIn_app (goodIn_of _ (by decide +kernel)) ggX7_looksAll_X7_fails
theorem dX7_looksAll_0 : decode cX7_looksAll 0 = .ok (.iconst 0, 1) := by decide +kernel
theorem dX7_looksAll_1 : decode cX7_looksAll 1 = .ok (.istore_n 1, 1) := by decide +kernel
theorem dX7_looksAll_2 : decode cX7_looksAll 2 = .ok (.iload_n 1, 1) := by decide +kernel
theorem dX7_looksAll_3 : decode cX7_looksAll 3 = .ok (.sipush 256, 3) := by decide +kernel
theorem dX7_looksAll_6 : decode cX7_looksAll 6 = .ok (.if_icmp .ge 16, 3) := by decide +kernel
theorem dX7_looksAll_9 : decode cX7_looksAll 9 = .ok (.aload_n 0, 1) := by decide +kernel
theorem dX7_looksAll_10 : decode cX7_looksAll 10 = .ok (.getfield 50, 3) := by decide +kernel
theorem dX7_looksAll_13 : decode cX7_looksAll 13 = .ok (.iload_n 1, 1) := by decide +kernel
theorem dX7_looksAll_14 : decode cX7_looksAll 14 = .ok (.iconst 0, 1) := by decide +kernel
theorem dX7_looksAll_15 : decode cX7_looksAll 15 = .ok (.bastore, 1) := by decide +kernel
theorem dX7_looksAll_16 : decode cX7_looksAll 16 = .ok (.iinc 1 1, 3) := by decide +kernel
theorem dX7_looksAll_19 : decode cX7_looksAll 19 = .ok (.goto (-17), 3) := by decide +kernel
theorem dX7_looksAll_22 : decode cX7_looksAll 22 = .ok (.iconst 0, 1) := by decide +kernel
theorem dX7_looksAll_23 : decode cX7_looksAll 23 = .ok (.istore_n 1, 1) := by decide +kernel
theorem dX7_looksAll_24 : decode cX7_looksAll 24 = .ok (.iload_n 1, 1) := by decide +kernel
theorem dX7_looksAll_25 : decode cX7_looksAll 25 = .ok (.aload_n 0, 1) := by decide +kernel
theorem dX7_looksAll_26 : decode cX7_looksAll 26 = .ok (.getfield 13, 3) := by decide +kernel
theorem dX7_looksAll_29 : decode cX7_looksAll 29 = .ok (.if_icmp .ge 20, 3) := by decide +kernel
theorem dX7_looksAll_32 : decode cX7_looksAll 32 = .ok (.aload_n 0, 1) := by decide +kernel
theorem dX7_looksAll_33 : decode cX7_looksAll 33 = .ok (.getfield 50, 3) := by decide +kernel
theorem dX7_looksAll_36 : decode cX7_looksAll 36 = .ok (.aload_n 0, 1) := by decide +kernel
theorem dX7_looksAll_37 : decode cX7_looksAll 37 = .ok (.iload_n 1, 1) := by decide +kernel
theorem dX7_looksAll_38 : decode cX7_looksAll 38 = .ok (.invokevirtual 143, 3) := by decide +kernel
theorem dX7_looksAll_41 : decode cX7_looksAll 41 = .ok (.iconst 1, 1) := by decide +kernel
theorem dX7_looksAll_42 : decode cX7_looksAll 42 = .ok (.bastore, 1) := by decide +kernel
theorem dX7_looksAll_43 : decode cX7_looksAll 43 = .ok (.iinc 1 1, 3) := by decide +kernel
theorem dX7_looksAll_46 : decode cX7_looksAll 46 = .ok (.goto (-22), 3) := by decide +kernel
theorem dX7_looksAll_49 : decode cX7_looksAll 49 = .ok (.return_, 1) := by decide +kernel
set_option maxRecDepth 20000 in
theorem ggX7_needless_X7_in : GoodIn wsX7_needless wsX7_in := goodIn_r _ [6] (by decide +kernel) (by decide +kernel)
set_option maxRecDepth 20000 in
theorem gX7_needless_X7_in : GoodIn wsX7_needless (va_wsS RX7 60 yX7_in wsX7_in) := goodIn_app (goodIn_of _ (by decide +kernel)) ggX7_needless_X7_in
set_option maxRecDepth 20000 in
theorem ggX7_needless_X7_looksAll : GoodIn wsX7_needless wsX7_looksAll := goodIn_r _ [10, 2, 11, 12, 13, 14, 5, 15, 1, 16, 17, 18, 19, 20, 21, 22, 23, 24, 25, 26, 27, 3, 4, 6, 28, 29, 30, 31, 32, 33, 34, 35, 36, 37, 38, 39, 40, 41, 42, 43, 44, 45] (by decide +kernel) (by decide +kernel)
set_option maxRecDepth 20000 in
theorem gX7_needless_X7_looksAll : GoodIn wsX7_needless (wsV RX7 157 RX7 yX7_looksAll wsX7_looksAll) := goodIn_app (goodIn_of _ (by decide +kernel)) ggX7_needless_X7_looksAll
theorem dX7_needless_0 : decode cX7_needless 0 = .ok (.iload_n 1, 1) := by decide +kernel
theorem dX7_needless_1 : decode cX7_needless 1 = .ok (.i2l, 1) := by decide +kernel
theorem dX7_needless_2 : decode cX7_needless 2 = .ok (.lconst 0, 1) := by decide +kernel
theorem dX7_needless_3 : decode cX7_needless 3 = .ok (.aload_n 0, 1) := by decide +kernel
theorem dX7_needless_4 : decode cX7_needless 4 = .ok (.getfield 137, 3) := by decide +kernel
theorem dX7_needless_7 : decode cX7_needless 7 = .ok (.iconst 1, 1) := by decide +kernel
theorem dX7_needless_8 : decode cX7_needless 8 = .ok (.isub, 1) := by decide +kernel
theorem dX7_needless_9 : decode cX7_needless 9 = .ok (.i2l, 1) := by decide +kernel
theorem dX7_needless_10 : decode cX7_needless 10 = .ok (.invokestatic 60, 3) := by decide +kernel
theorem dX7_needless_13 : decode cX7_needless 13 = .ok (.ifCond .ne 5, 3) := by decide +kernel
theorem dX7_needless_16 : decode cX7_needless 16 = .ok (.iconst (-1), 1) := by decide +kernel
theorem dX7_needless_17 : decode cX7_needless 17 = .ok (.ireturn, 1) := by decide +kernel
theorem dX7_needless_18 : decode cX7_needless 18 = .ok (.aload_n 0, 1) := by decide +kernel
theorem dX7_needless_19 : decode cX7_needless 19 = .ok (.invokevirtual 157, 3) := by decide +kernel
theorem dX7_needless_22 : decode cX7_needless 22 = .ok (.aload_n 0, 1) := by decide +kernel
theorem dX7_needless_23 : decode cX7_needless 23 = .ok (.getfield 50, 3) := by decide +kernel
theorem dX7_needless_26 : decode cX7_needless 26 = .ok (.iconst 1, 1) := by decide +kernel
theorem dX7_needless_27 : decode cX7_needless 27 = .ok (.iload_n 1, 1) := by decide +kernel
theorem dX7_needless_28 : decode cX7_needless 28 = .ok (.ishl, 1) := by decide +kernel
theorem dX7_needless_29 : decode cX7_needless 29 = .ok (.baload, 1) := by decide +kernel
theorem dX7_needless_30 : decode cX7_needless 30 = .ok (.ifCond .eq 7, 3) := by decide +kernel
theorem dX7_needless_33 : decode cX7_needless 33 = .ok (.iconst 0, 1) := by decide +kernel
theorem dX7_needless_34 : decode cX7_needless 34 = .ok (.goto 4, 3) := by decide +kernel
theorem dX7_needless_37 : decode cX7_needless 37 = .ok (.iconst 1, 1) := by decide +kernel
theorem dX7_needless_38 : decode cX7_needless 38 = .ok (.ireturn, 1) := by decide +kernel
theorem dX7_many_0 : decode cX7_many 0 = .ok (.iconst 0, 1) := by decide +kernel
theorem dX7_many_1 : decode cX7_many 1 = .ok (.istore_n 1, 1) := by decide +kernel
theorem dX7_many_2 : decode cX7_many 2 = .ok (.iconst 0, 1) := by decide +kernel
theorem dX7_many_3 : decode cX7_many 3 = .ok (.istore_n 2, 1) := by decide +kernel
theorem dX7_many_4 : decode cX7_many 4 = .ok (.iload_n 2, 1) := by decide +kernel
theorem dX7_many_5 : decode cX7_many 5 = .ok (.bipush 8, 2) := by decide +kernel
theorem dX7_many_7 : decode cX7_many 7 = .ok (.if_icmp .ge 17, 3) := by decide +kernel
theorem dX7_many_10 : decode cX7_many 10 = .ok (.iload_n 1, 1) := by decide +kernel
theorem dX7_many_11 : decode cX7_many 11 = .ok (.iload_n 0, 1) := by decide +kernel
theorem dX7_many_12 : decode cX7_many 12 = .ok (.iload_n 2, 1) := by decide +kernel
theorem dX7_many_13 : decode cX7_many 13 = .ok (.ishr, 1) := by decide +kernel
theorem dX7_many_14 : decode cX7_many 14 = .ok (.iconst 1, 1) := by decide +kernel
theorem dX7_many_15 : decode cX7_many 15 = .ok (.iand, 1) := by decide +kernel
theorem dX7_many_16 : decode cX7_many 16 = .ok (.iadd, 1) := by decide +kernel
theorem dX7_many_17 : decode cX7_many 17 = .ok (.istore_n 1, 1) := by decide +kernel
theorem dX7_many_18 : decode cX7_many 18 = .ok (.iinc 2 1, 3) := by decide +kernel
theorem dX7_many_21 : decode cX7_many 21 = .ok (.goto (-17), 3) := by decide +kernel
theorem dX7_many_24 : decode cX7_many 24 = .ok (.iload_n 1, 1) := by decide +kernel
theorem dX7_many_25 : decode cX7_many 25 = .ok (.ireturn, 1) := by decide +kernel
set_option maxRecDepth 20000 in
theorem ggX7_lone_X7_looksAll : GoodIn wsX7_lone wsX7_looksAll := goodIn_r _ [7, 2, 8, 9, 10, 11, 6, 12, 1, 13, 14, 15, 16, 17, 18, 19, 20, 21, 22, 23, 24, 25, 26, 27, 31, 32, 33, 34, 35, 36, 37, 38, 39, 40, 41, 42, 43, 44, 45, 46, 47, 48] (by decide +kernel) (by decide +kernel)
set_option maxRecDepth 20000 in
theorem gX7_lone_X7_looksAll : GoodIn wsX7_lone (wsV RX7 157 RX7 yX7_looksAll wsX7_looksAll) := goodIn_app (goodIn_of _ (by decide +kernel)) ggX7_lone_X7_looksAll
set_option maxRecDepth 20000 in
theorem ggX7_lone_X7_many : GoodIn wsX7_lone wsX7_many := goodIn_r _ [30] (by decide +kernel) (by decide +kernel)
set_option maxRecDepth 20000 in
theorem gX7_lone_X7_many : GoodIn wsX7_lone (va_wsS RX7 160 yX7_many wsX7_many) := goodIn_app (goodIn_of _ (by decide +kernel)) ggX7_lone_X7_many
theorem dX7_lone_0 : decode cX7_lone 0 = .ok (.aload_n 0, 1) := by decide +kernel
theorem dX7_lone_1 : decode cX7_lone 1 = .ok (.invokevirtual 157, 3) := by decide +kernel
theorem dX7_lone_4 : decode cX7_lone 4 = .ok (.bipush (-4), 2) := by decide +kernel
theorem dX7_lone_6 : decode cX7_lone 6 = .ok (.istore_n 1, 1) := by decide +kernel
theorem dX7_lone_7 : decode cX7_lone 7 = .ok (.iconst 0, 1) := by decide +kernel
theorem dX7_lone_8 : decode cX7_lone 8 = .ok (.istore_n 2, 1) := by decide +kernel
theorem dX7_lone_9 : decode cX7_lone 9 = .ok (.iload_n 2, 1) := by decide +kernel
theorem dX7_lone_10 : decode cX7_lone 10 = .ok (.iconst 1, 1) := by decide +kernel
theorem dX7_lone_11 : decode cX7_lone 11 = .ok (.aload_n 0, 1) := by decide +kernel
theorem dX7_lone_12 : decode cX7_lone 12 = .ok (.getfield 137, 3) := by decide +kernel
theorem dX7_lone_15 : decode cX7_lone 15 = .ok (.ishl, 1) := by decide +kernel
theorem dX7_lone_16 : decode cX7_lone 16 = .ok (.if_icmp .ge 84, 3) := by decide +kernel
theorem dX7_lone_19 : decode cX7_lone 19 = .ok (.iload_n 1, 1) := by decide +kernel
theorem dX7_lone_20 : decode cX7_lone 20 = .ok (.ifCond .lt 14, 3) := by decide +kernel
theorem dX7_lone_23 : decode cX7_lone 23 = .ok (.iload_n 2, 1) := by decide +kernel
theorem dX7_lone_24 : decode cX7_lone 24 = .ok (.invokestatic 160, 3) := by decide +kernel
theorem dX7_lone_27 : decode cX7_lone 27 = .ok (.iload_n 1, 1) := by decide +kernel
theorem dX7_lone_28 : decode cX7_lone 28 = .ok (.invokestatic 160, 3) := by decide +kernel
theorem dX7_lone_31 : decode cX7_lone 31 = .ok (.if_icmp .ge 7, 3) := by decide +kernel
theorem dX7_lone_34 : decode cX7_lone 34 = .ok (.iconst 1, 1) := by decide +kernel
theorem dX7_lone_35 : decode cX7_lone 35 = .ok (.goto 4, 3) := by decide +kernel
theorem dX7_lone_38 : decode cX7_lone 38 = .ok (.iconst 0, 1) := by decide +kernel
theorem dX7_lone_39 : decode cX7_lone 39 = .ok (.istore_n 3, 1) := by decide +kernel
theorem dX7_lone_40 : decode cX7_lone 40 = .ok (.iconst 0, 1) := by decide +kernel
theorem dX7_lone_41 : decode cX7_lone 41 = .ok (.istore 4, 2) := by decide +kernel
theorem dX7_lone_43 : decode cX7_lone 43 = .ok (.iload 4, 2) := by decide +kernel
theorem dX7_lone_45 : decode cX7_lone 45 = .ok (.sipush 256, 3) := by decide +kernel
theorem dX7_lone_48 : decode cX7_lone 48 = .ok (.if_icmp .ge 36, 3) := by decide +kernel
theorem dX7_lone_51 : decode cX7_lone 51 = .ok (.iload_n 3, 1) := by decide +kernel
theorem dX7_lone_52 : decode cX7_lone 52 = .ok (.ifCond .eq 32, 3) := by decide +kernel
theorem dX7_lone_55 : decode cX7_lone 55 = .ok (.aload_n 0, 1) := by decide +kernel
theorem dX7_lone_56 : decode cX7_lone 56 = .ok (.getfield 50, 3) := by decide +kernel
theorem dX7_lone_59 : decode cX7_lone 59 = .ok (.iload 4, 2) := by decide +kernel
theorem dX7_lone_61 : decode cX7_lone 61 = .ok (.baload, 1) := by decide +kernel
theorem dX7_lone_62 : decode cX7_lone 62 = .ok (.ifCond .eq 10, 3) := by decide +kernel
theorem dX7_lone_65 : decode cX7_lone 65 = .ok (.iload 4, 2) := by decide +kernel
theorem dX7_lone_67 : decode cX7_lone 67 = .ok (.iload_n 2, 1) := by decide +kernel
theorem dX7_lone_68 : decode cX7_lone 68 = .ok (.iand, 1) := by decide +kernel
theorem dX7_lone_69 : decode cX7_lone 69 = .ok (.ifCond .eq 7, 3) := by decide +kernel
theorem dX7_lone_72 : decode cX7_lone 72 = .ok (.iconst 1, 1) := by decide +kernel
theorem dX7_lone_73 : decode cX7_lone 73 = .ok (.goto 4, 3) := by decide +kernel
theorem dX7_lone_76 : decode cX7_lone 76 = .ok (.iconst 0, 1) := by decide +kernel
theorem dX7_lone_77 : decode cX7_lone 77 = .ok (.istore_n 3, 1) := by decide +kernel
theorem dX7_lone_78 : decode cX7_lone 78 = .ok (.iinc 4 1, 3) := by decide +kernel
theorem dX7_lone_81 : decode cX7_lone 81 = .ok (.goto (-38), 3) := by decide +kernel
theorem dX7_lone_84 : decode cX7_lone 84 = .ok (.iload_n 3, 1) := by decide +kernel
theorem dX7_lone_85 : decode cX7_lone 85 = .ok (.ifCond .eq 7, 3) := by decide +kernel
theorem dX7_lone_88 : decode cX7_lone 88 = .ok (.iload_n 2, 1) := by decide +kernel
theorem dX7_lone_89 : decode cX7_lone 89 = .ok (.goto 4, 3) := by decide +kernel
theorem dX7_lone_92 : decode cX7_lone 92 = .ok (.iload_n 1, 1) := by decide +kernel
theorem dX7_lone_93 : decode cX7_lone 93 = .ok (.istore_n 1, 1) := by decide +kernel
theorem dX7_lone_94 : decode cX7_lone 94 = .ok (.iinc 2 1, 3) := by decide +kernel
theorem dX7_lone_97 : decode cX7_lone 97 = .ok (.goto (-88), 3) := by decide +kernel
theorem dX7_lone_100 : decode cX7_lone 100 = .ok (.iload_n 1, 1) := by decide +kernel
theorem dX7_lone_101 : decode cX7_lone 101 = .ok (.ireturn, 1) := by decide +kernel
theorem dX7_isPrime_0 : decode cX7_isPrime 0 = .ok (.iload_n 0, 1) := by decide +kernel
theorem dX7_isPrime_1 : decode cX7_isPrime 1 = .ok (.iconst 1, 1) := by decide +kernel
theorem dX7_isPrime_2 : decode cX7_isPrime 2 = .ok (.if_icmp .le 7, 3) := by decide +kernel
theorem dX7_isPrime_5 : decode cX7_isPrime 5 = .ok (.iconst 1, 1) := by decide +kernel
theorem dX7_isPrime_6 : decode cX7_isPrime 6 = .ok (.goto 4, 3) := by decide +kernel
theorem dX7_isPrime_9 : decode cX7_isPrime 9 = .ok (.iconst 0, 1) := by decide +kernel
theorem dX7_isPrime_10 : decode cX7_isPrime 10 = .ok (.istore_n 1, 1) := by decide +kernel
theorem dX7_isPrime_11 : decode cX7_isPrime 11 = .ok (.iconst 2, 1) := by decide +kernel
theorem dX7_isPrime_12 : decode cX7_isPrime 12 = .ok (.istore_n 2, 1) := by decide +kernel
theorem dX7_isPrime_13 : decode cX7_isPrime 13 = .ok (.iload_n 2, 1) := by decide +kernel
theorem dX7_isPrime_14 : decode cX7_isPrime 14 = .ok (.iload_n 2, 1) := by decide +kernel
theorem dX7_isPrime_15 : decode cX7_isPrime 15 = .ok (.imul, 1) := by decide +kernel
theorem dX7_isPrime_16 : decode cX7_isPrime 16 = .ok (.iload_n 0, 1) := by decide +kernel
theorem dX7_isPrime_17 : decode cX7_isPrime 17 = .ok (.if_icmp .gt 25, 3) := by decide +kernel
theorem dX7_isPrime_20 : decode cX7_isPrime 20 = .ok (.iload_n 1, 1) := by decide +kernel
theorem dX7_isPrime_21 : decode cX7_isPrime 21 = .ok (.ifCond .eq 21, 3) := by decide +kernel
theorem dX7_isPrime_24 : decode cX7_isPrime 24 = .ok (.iload_n 0, 1) := by decide +kernel
theorem dX7_isPrime_25 : decode cX7_isPrime 25 = .ok (.iload_n 2, 1) := by decide +kernel
theorem dX7_isPrime_26 : decode cX7_isPrime 26 = .ok (.irem, 1) := by decide +kernel
theorem dX7_isPrime_27 : decode cX7_isPrime 27 = .ok (.ifCond .eq 7, 3) := by decide +kernel
theorem dX7_isPrime_30 : decode cX7_isPrime 30 = .ok (.iconst 1, 1) := by decide +kernel
theorem dX7_isPrime_31 : decode cX7_isPrime 31 = .ok (.goto 4, 3) := by decide +kernel
theorem dX7_isPrime_34 : decode cX7_isPrime 34 = .ok (.iconst 0, 1) := by decide +kernel
theorem dX7_isPrime_35 : decode cX7_isPrime 35 = .ok (.istore_n 1, 1) := by decide +kernel
theorem dX7_isPrime_36 : decode cX7_isPrime 36 = .ok (.iinc 2 1, 3) := by decide +kernel
theorem dX7_isPrime_39 : decode cX7_isPrime 39 = .ok (.goto (-26), 3) := by decide +kernel
theorem dX7_isPrime_42 : decode cX7_isPrime 42 = .ok (.iload_n 1, 1) := by decide +kernel
theorem dX7_isPrime_43 : decode cX7_isPrime 43 = .ok (.ireturn, 1) := by decide +kernel
set_option maxRecDepth 20000 in
theorem ggX7_isOdd_X7_in : GoodIn wsX7_isOdd wsX7_in := goodIn_r _ [6] (by decide +kernel) (by decide +kernel)
set_option maxRecDepth 20000 in
theorem gX7_isOdd_X7_in : GoodIn wsX7_isOdd (va_wsS RX7 60 yX7_in wsX7_in) := goodIn_app (goodIn_of _ (by decide +kernel)) ggX7_isOdd_X7_in
theorem dX7_isOdd_0 : decode cX7_isOdd 0 = .ok (.iload_n 0, 1) := by decide +kernel
theorem dX7_isOdd_1 : decode cX7_isOdd 1 = .ok (.i2l, 1) := by decide +kernel
theorem dX7_isOdd_2 : decode cX7_isOdd 2 = .ok (.ldc2_w 94, 3) := by decide +kernel
theorem dX7_isOdd_5 : decode cX7_isOdd 5 = .ok (.ldc2_w 163, 3) := by decide +kernel
theorem dX7_isOdd_8 : decode cX7_isOdd 8 = .ok (.invokestatic 60, 3) := by decide +kernel
theorem dX7_isOdd_11 : decode cX7_isOdd 11 = .ok (.ifCond .eq 14, 3) := by decide +kernel
theorem dX7_isOdd_14 : decode cX7_isOdd 14 = .ok (.iload_n 0, 1) := by decide +kernel
theorem dX7_isOdd_15 : decode cX7_isOdd 15 = .ok (.iconst 2, 1) := by decide +kernel
theorem dX7_isOdd_16 : decode cX7_isOdd 16 = .ok (.irem, 1) := by decide +kernel
theorem dX7_isOdd_17 : decode cX7_isOdd 17 = .ok (.iconst 1, 1) := by decide +kernel
theorem dX7_isOdd_18 : decode cX7_isOdd 18 = .ok (.if_icmp .ne 7, 3) := by decide +kernel
theorem dX7_isOdd_21 : decode cX7_isOdd 21 = .ok (.iconst 1, 1) := by decide +kernel
theorem dX7_isOdd_22 : decode cX7_isOdd 22 = .ok (.goto 4, 3) := by decide +kernel
theorem dX7_isOdd_25 : decode cX7_isOdd 25 = .ok (.iconst 0, 1) := by decide +kernel
theorem dX7_isOdd_26 : decode cX7_isOdd 26 = .ok (.ireturn, 1) := by decide +kernel
set_option maxRecDepth 20000 in
theorem ggX7_looksSo_X7_powerOf : GoodIn wsX7_looksSo wsX7_powerOf := goodIn_r _ [4, 5] (by decide +kernel) (by decide +kernel)
set_option maxRecDepth 20000 in
theorem gX7_looksSo_X7_powerOf : GoodIn wsX7_looksSo (va_wsS RX7 88 yX7_powerOf wsX7_powerOf) := goodIn_app (goodIn_of _ (by decide +kernel)) ggX7_looksSo_X7_powerOf
theorem dX7_looksSo_0 : decode cX7_looksSo 0 = .ok (.iload_n 0, 1) := by decide +kernel
theorem dX7_looksSo_1 : decode cX7_looksSo 1 = .ok (.iload_n 1, 1) := by decide +kernel
theorem dX7_looksSo_2 : decode cX7_looksSo 2 = .ok (.iload_n 0, 1) := by decide +kernel
theorem dX7_looksSo_3 : decode cX7_looksSo 3 = .ok (.iconst 1, 1) := by decide +kernel
theorem dX7_looksSo_4 : decode cX7_looksSo 4 = .ok (.isub, 1) := by decide +kernel
theorem dX7_looksSo_5 : decode cX7_looksSo 5 = .ok (.i2l, 1) := by decide +kernel
theorem dX7_looksSo_6 : decode cX7_looksSo 6 = .ok (.invokestatic 88, 3) := by decide +kernel
theorem dX7_looksSo_9 : decode cX7_looksSo 9 = .ok (.iconst 1, 1) := by decide +kernel
theorem dX7_looksSo_10 : decode cX7_looksSo 10 = .ok (.if_icmp .ne 7, 3) := by decide +kernel
theorem dX7_looksSo_13 : decode cX7_looksSo 13 = .ok (.iconst 1, 1) := by decide +kernel
theorem dX7_looksSo_14 : decode cX7_looksSo 14 = .ok (.goto 4, 3) := by decide +kernel
theorem dX7_looksSo_17 : decode cX7_looksSo 17 = .ok (.iconst 0, 1) := by decide +kernel
theorem dX7_looksSo_18 : decode cX7_looksSo 18 = .ok (.ireturn, 1) := by decide +kernel
set_option maxRecDepth 20000 in
theorem ggX7_isStrong_X7_powerOf : GoodIn wsX7_isStrong wsX7_powerOf := goodIn_r _ [4, 5] (by decide +kernel) (by decide +kernel)
set_option maxRecDepth 20000 in
theorem gX7_isStrong_X7_powerOf : GoodIn wsX7_isStrong (va_wsS RX7 88 yX7_powerOf wsX7_powerOf) := goodIn_app (goodIn_of _ (by decide +kernel)) ggX7_isStrong_X7_powerOf
theorem dX7_isStrong_0 : decode cX7_isStrong 0 = .ok (.iload_n 0, 1) := by decide +kernel
theorem dX7_isStrong_1 : decode cX7_isStrong 1 = .ok (.iconst 1, 1) := by decide +kernel
theorem dX7_isStrong_2 : decode cX7_isStrong 2 = .ok (.isub, 1) := by decide +kernel
theorem dX7_isStrong_3 : decode cX7_isStrong 3 = .ok (.istore_n 2, 1) := by decide +kernel
theorem dX7_isStrong_4 : decode cX7_isStrong 4 = .ok (.iconst 0, 1) := by decide +kernel
theorem dX7_isStrong_5 : decode cX7_isStrong 5 = .ok (.istore_n 3, 1) := by decide +kernel
theorem dX7_isStrong_6 : decode cX7_isStrong 6 = .ok (.iload_n 2, 1) := by decide +kernel
theorem dX7_isStrong_7 : decode cX7_isStrong 7 = .ok (.iconst 2, 1) := by decide +kernel
theorem dX7_isStrong_8 : decode cX7_isStrong 8 = .ok (.irem, 1) := by decide +kernel
theorem dX7_isStrong_9 : decode cX7_isStrong 9 = .ok (.ifCond .ne 13, 3) := by decide +kernel
theorem dX7_isStrong_12 : decode cX7_isStrong 12 = .ok (.iload_n 2, 1) := by decide +kernel
theorem dX7_isStrong_13 : decode cX7_isStrong 13 = .ok (.iconst 2, 1) := by decide +kernel
theorem dX7_isStrong_14 : decode cX7_isStrong 14 = .ok (.idiv, 1) := by decide +kernel
theorem dX7_isStrong_15 : decode cX7_isStrong 15 = .ok (.istore_n 2, 1) := by decide +kernel
theorem dX7_isStrong_16 : decode cX7_isStrong 16 = .ok (.iinc 3 1, 3) := by decide +kernel
theorem dX7_isStrong_19 : decode cX7_isStrong 19 = .ok (.goto (-13), 3) := by decide +kernel
theorem dX7_isStrong_22 : decode cX7_isStrong 22 = .ok (.iload_n 0, 1) := by decide +kernel
theorem dX7_isStrong_23 : decode cX7_isStrong 23 = .ok (.iload_n 1, 1) := by decide +kernel
theorem dX7_isStrong_24 : decode cX7_isStrong 24 = .ok (.iload_n 2, 1) := by decide +kernel
theorem dX7_isStrong_25 : decode cX7_isStrong 25 = .ok (.i2l, 1) := by decide +kernel
theorem dX7_isStrong_26 : decode cX7_isStrong 26 = .ok (.invokestatic 88, 3) := by decide +kernel
theorem dX7_isStrong_29 : decode cX7_isStrong 29 = .ok (.i2l, 1) := by decide +kernel
theorem dX7_isStrong_30 : decode cX7_isStrong 30 = .ok (.lstore 4, 2) := by decide +kernel
theorem dX7_isStrong_32 : decode cX7_isStrong 32 = .ok (.lload 4, 2) := by decide +kernel
theorem dX7_isStrong_34 : decode cX7_isStrong 34 = .ok (.lconst 1, 1) := by decide +kernel
theorem dX7_isStrong_35 : decode cX7_isStrong 35 = .ok (.lcmp, 1) := by decide +kernel
theorem dX7_isStrong_36 : decode cX7_isStrong 36 = .ok (.ifCond .ne 7, 3) := by decide +kernel
theorem dX7_isStrong_39 : decode cX7_isStrong 39 = .ok (.iconst 1, 1) := by decide +kernel
theorem dX7_isStrong_40 : decode cX7_isStrong 40 = .ok (.goto 4, 3) := by decide +kernel
theorem dX7_isStrong_43 : decode cX7_isStrong 43 = .ok (.iconst 0, 1) := by decide +kernel
theorem dX7_isStrong_44 : decode cX7_isStrong 44 = .ok (.istore 6, 2) := by decide +kernel
theorem dX7_isStrong_46 : decode cX7_isStrong 46 = .ok (.iconst 0, 1) := by decide +kernel
theorem dX7_isStrong_47 : decode cX7_isStrong 47 = .ok (.istore 7, 2) := by decide +kernel
theorem dX7_isStrong_49 : decode cX7_isStrong 49 = .ok (.iload 7, 2) := by decide +kernel
theorem dX7_isStrong_51 : decode cX7_isStrong 51 = .ok (.iload_n 3, 1) := by decide +kernel
theorem dX7_isStrong_52 : decode cX7_isStrong 52 = .ok (.if_icmp .ge 41, 3) := by decide +kernel
theorem dX7_isStrong_55 : decode cX7_isStrong 55 = .ok (.iload 6, 2) := by decide +kernel
theorem dX7_isStrong_57 : decode cX7_isStrong 57 = .ok (.ifCond .ne 13, 3) := by decide +kernel
theorem dX7_isStrong_60 : decode cX7_isStrong 60 = .ok (.lload 4, 2) := by decide +kernel
theorem dX7_isStrong_62 : decode cX7_isStrong 62 = .ok (.iload_n 0, 1) := by decide +kernel
theorem dX7_isStrong_63 : decode cX7_isStrong 63 = .ok (.iconst 1, 1) := by decide +kernel
theorem dX7_isStrong_64 : decode cX7_isStrong 64 = .ok (.isub, 1) := by decide +kernel
theorem dX7_isStrong_65 : decode cX7_isStrong 65 = .ok (.i2l, 1) := by decide +kernel
theorem dX7_isStrong_66 : decode cX7_isStrong 66 = .ok (.lcmp, 1) := by decide +kernel
theorem dX7_isStrong_67 : decode cX7_isStrong 67 = .ok (.ifCond .ne 7, 3) := by decide +kernel
theorem dX7_isStrong_70 : decode cX7_isStrong 70 = .ok (.iconst 1, 1) := by decide +kernel
theorem dX7_isStrong_71 : decode cX7_isStrong 71 = .ok (.goto 4, 3) := by decide +kernel
theorem dX7_isStrong_74 : decode cX7_isStrong 74 = .ok (.iconst 0, 1) := by decide +kernel
theorem dX7_isStrong_75 : decode cX7_isStrong 75 = .ok (.istore 6, 2) := by decide +kernel
theorem dX7_isStrong_77 : decode cX7_isStrong 77 = .ok (.lload 4, 2) := by decide +kernel
theorem dX7_isStrong_79 : decode cX7_isStrong 79 = .ok (.lload 4, 2) := by decide +kernel
theorem dX7_isStrong_81 : decode cX7_isStrong 81 = .ok (.lmul, 1) := by decide +kernel
theorem dX7_isStrong_82 : decode cX7_isStrong 82 = .ok (.iload_n 0, 1) := by decide +kernel
theorem dX7_isStrong_83 : decode cX7_isStrong 83 = .ok (.i2l, 1) := by decide +kernel
theorem dX7_isStrong_84 : decode cX7_isStrong 84 = .ok (.lrem, 1) := by decide +kernel
theorem dX7_isStrong_85 : decode cX7_isStrong 85 = .ok (.lstore 4, 2) := by decide +kernel
theorem dX7_isStrong_87 : decode cX7_isStrong 87 = .ok (.iinc 7 1, 3) := by decide +kernel
theorem dX7_isStrong_90 : decode cX7_isStrong 90 = .ok (.goto (-41), 3) := by decide +kernel
theorem dX7_isStrong_93 : decode cX7_isStrong 93 = .ok (.iload 6, 2) := by decide +kernel
theorem dX7_isStrong_95 : decode cX7_isStrong 95 = .ok (.ireturn, 1) := by decide +kernel
set_option maxRecDepth 20000 in
theorem ggX7_looks_X7_isOdd : GoodIn wsX7_looks wsX7_isOdd := goodIn_r _ [5, 6, 7, 8, 9, 4, 10] (by decide +kernel) (by decide +kernel)
set_option maxRecDepth 20000 in
theorem gX7_looks_X7_isOdd : GoodIn wsX7_looks (va_wsS RX7 165 yX7_isOdd wsX7_isOdd) := goodIn_app (goodIn_of _ (by decide +kernel)) ggX7_looks_X7_isOdd
set_option maxRecDepth 20000 in
theorem ggX7_looks_X7_in : GoodIn wsX7_looks wsX7_in := goodIn_r _ [10] (by decide +kernel) (by decide +kernel)
set_option maxRecDepth 20000 in
theorem gX7_looks_X7_in : GoodIn wsX7_looks (va_wsS RX7 60 yX7_in wsX7_in) := goodIn_app (goodIn_of _ (by decide +kernel)) ggX7_looks_X7_in
set_option maxRecDepth 20000 in
theorem ggX7_looks_X7_isStrong : GoodIn wsX7_looks wsX7_isStrong := goodIn_r _ [13, 14, 15, 4, 16, 1] (by decide +kernel) (by decide +kernel)
set_option maxRecDepth 20000 in
theorem gX7_looks_X7_isStrong : GoodIn wsX7_looks (va_wsS RX7 168 yX7_isStrong wsX7_isStrong) := goodIn_app (goodIn_of _ (by decide +kernel)) ggX7_looks_X7_isStrong
set_option maxRecDepth 20000 in
theorem ggX7_looks_X7_looksSo : GoodIn wsX7_looks wsX7_looksSo := goodIn_r _ [19, 14, 15, 4, 16, 1] (by decide +kernel) (by decide +kernel)
set_option maxRecDepth 20000 in
theorem gX7_looks_X7_looksSo : GoodIn wsX7_looks (va_wsS RX7 171 yX7_looksSo wsX7_looksSo) := goodIn_app (goodIn_of _ (by decide +kernel)) ggX7_looks_X7_looksSo
set_option maxRecDepth 20000 in
theorem ggX7_looks_X7_isPrime : GoodIn wsX7_looks wsX7_isPrime := goodIn_r _ [22] (by decide +kernel) (by decide +kernel)
set_option maxRecDepth 20000 in
theorem gX7_looks_X7_isPrime : GoodIn wsX7_looks (va_wsS RX7 174 yX7_isPrime wsX7_isPrime) := goodIn_app (goodIn_of _ (by decide +kernel)) ggX7_looks_X7_isPrime
theorem dX7_looks_0 : decode cX7_looks 0 = .ok (.iload_n 1, 1) := by decide +kernel
theorem dX7_looks_1 : decode cX7_looks 1 = .ok (.invokestatic 165, 3) := by decide +kernel
theorem dX7_looks_4 : decode cX7_looks 4 = .ok (.ifCond .eq 28, 3) := by decide +kernel
theorem dX7_looks_7 : decode cX7_looks 7 = .ok (.iload_n 2, 1) := by decide +kernel
theorem dX7_looks_8 : decode cX7_looks 8 = .ok (.i2l, 1) := by decide +kernel
theorem dX7_looks_9 : decode cX7_looks 9 = .ok (.lconst 1, 1) := by decide +kernel
theorem dX7_looks_10 : decode cX7_looks 10 = .ok (.iload_n 1, 1) := by decide +kernel
theorem dX7_looks_11 : decode cX7_looks 11 = .ok (.iconst 1, 1) := by decide +kernel
theorem dX7_looks_12 : decode cX7_looks 12 = .ok (.isub, 1) := by decide +kernel
theorem dX7_looks_13 : decode cX7_looks 13 = .ok (.i2l, 1) := by decide +kernel
theorem dX7_looks_14 : decode cX7_looks 14 = .ok (.invokestatic 60, 3) := by decide +kernel
theorem dX7_looks_17 : decode cX7_looks 17 = .ok (.ifCond .eq 15, 3) := by decide +kernel
theorem dX7_looks_20 : decode cX7_looks 20 = .ok (.iload_n 3, 1) := by decide +kernel
theorem dX7_looks_21 : decode cX7_looks 21 = .ok (.i2l, 1) := by decide +kernel
theorem dX7_looks_22 : decode cX7_looks 22 = .ok (.lconst 0, 1) := by decide +kernel
theorem dX7_looks_23 : decode cX7_looks 23 = .ok (.ldc2_w 56, 3) := by decide +kernel
theorem dX7_looks_26 : decode cX7_looks 26 = .ok (.invokestatic 60, 3) := by decide +kernel
theorem dX7_looks_29 : decode cX7_looks 29 = .ok (.ifCond .ne 5, 3) := by decide +kernel
theorem dX7_looks_32 : decode cX7_looks 32 = .ok (.iconst (-1), 1) := by decide +kernel
theorem dX7_looks_33 : decode cX7_looks 33 = .ok (.ireturn, 1) := by decide +kernel
theorem dX7_looks_34 : decode cX7_looks 34 = .ok (.iload_n 3, 1) := by decide +kernel
theorem dX7_looks_35 : decode cX7_looks 35 = .ok (.iconst 1, 1) := by decide +kernel
theorem dX7_looks_36 : decode cX7_looks 36 = .ok (.if_icmp .ne 11, 3) := by decide +kernel
theorem dX7_looks_39 : decode cX7_looks 39 = .ok (.iload_n 1, 1) := by decide +kernel
theorem dX7_looks_40 : decode cX7_looks 40 = .ok (.iload_n 2, 1) := by decide +kernel
theorem dX7_looks_41 : decode cX7_looks 41 = .ok (.invokestatic 168, 3) := by decide +kernel
theorem dX7_looks_44 : decode cX7_looks 44 = .ok (.goto 27, 3) := by decide +kernel
theorem dX7_looks_47 : decode cX7_looks 47 = .ok (.iload_n 1, 1) := by decide +kernel
theorem dX7_looks_48 : decode cX7_looks 48 = .ok (.iload_n 2, 1) := by decide +kernel
theorem dX7_looks_49 : decode cX7_looks 49 = .ok (.invokestatic 171, 3) := by decide +kernel
theorem dX7_looks_52 : decode cX7_looks 52 = .ok (.ifCond .eq 18, 3) := by decide +kernel
theorem dX7_looks_55 : decode cX7_looks 55 = .ok (.iload_n 3, 1) := by decide +kernel
theorem dX7_looks_56 : decode cX7_looks 56 = .ok (.ifCond .eq 10, 3) := by decide +kernel
theorem dX7_looks_59 : decode cX7_looks 59 = .ok (.iload_n 1, 1) := by decide +kernel
theorem dX7_looks_60 : decode cX7_looks 60 = .ok (.invokestatic 174, 3) := by decide +kernel
theorem dX7_looks_63 : decode cX7_looks 63 = .ok (.ifCond .ne 7, 3) := by decide +kernel
theorem dX7_looks_66 : decode cX7_looks 66 = .ok (.iconst 1, 1) := by decide +kernel
theorem dX7_looks_67 : decode cX7_looks 67 = .ok (.goto 4, 3) := by decide +kernel
theorem dX7_looks_70 : decode cX7_looks 70 = .ok (.iconst 0, 1) := by decide +kernel
theorem dX7_looks_71 : decode cX7_looks 71 = .ok (.istore 4, 2) := by decide +kernel
theorem dX7_looks_73 : decode cX7_looks 73 = .ok (.iload 4, 2) := by decide +kernel
theorem dX7_looks_75 : decode cX7_looks 75 = .ok (.ifCond .eq 7, 3) := by decide +kernel
theorem dX7_looks_78 : decode cX7_looks 78 = .ok (.iconst 1, 1) := by decide +kernel
theorem dX7_looks_79 : decode cX7_looks 79 = .ok (.goto 4, 3) := by decide +kernel
theorem dX7_looks_82 : decode cX7_looks 82 = .ok (.iconst 0, 1) := by decide +kernel
theorem dX7_looks_83 : decode cX7_looks 83 = .ok (.ireturn, 1) := by decide +kernel
set_option maxRecDepth 20000 in
theorem ggX7_lied_X7_isOdd : GoodIn wsX7_lied wsX7_isOdd := goodIn_r _ [5, 6, 7, 8, 9, 4, 10] (by decide +kernel) (by decide +kernel)
set_option maxRecDepth 20000 in
theorem gX7_lied_X7_isOdd : GoodIn wsX7_lied (va_wsS RX7 165 yX7_isOdd wsX7_isOdd) := goodIn_app (goodIn_of _ (by decide +kernel)) ggX7_lied_X7_isOdd
set_option maxRecDepth 20000 in
theorem ggX7_lied_X7_in : GoodIn wsX7_lied wsX7_in := goodIn_r _ [10] (by decide +kernel) (by decide +kernel)
set_option maxRecDepth 20000 in
theorem gX7_lied_X7_in : GoodIn wsX7_lied (va_wsS RX7 60 yX7_in wsX7_in) := goodIn_app (goodIn_of _ (by decide +kernel)) ggX7_lied_X7_in
set_option maxRecDepth 20000 in
theorem ggX7_lied_X7_looksSo : GoodIn wsX7_lied wsX7_looksSo := goodIn_r _ [13, 14, 15, 4, 16, 1] (by decide +kernel) (by decide +kernel)
set_option maxRecDepth 20000 in
theorem gX7_lied_X7_looksSo : GoodIn wsX7_lied (va_wsS RX7 171 yX7_looksSo wsX7_looksSo) := goodIn_app (goodIn_of _ (by decide +kernel)) ggX7_lied_X7_looksSo
set_option maxRecDepth 20000 in
theorem ggX7_lied_X7_isStrong : GoodIn wsX7_lied wsX7_isStrong := goodIn_r _ [19, 14, 15, 4, 16, 1] (by decide +kernel) (by decide +kernel)
set_option maxRecDepth 20000 in
theorem gX7_lied_X7_isStrong : GoodIn wsX7_lied (va_wsS RX7 168 yX7_isStrong wsX7_isStrong) := goodIn_app (goodIn_of _ (by decide +kernel)) ggX7_lied_X7_isStrong
theorem dX7_lied_0 : decode cX7_lied 0 = .ok (.iload_n 1, 1) := by decide +kernel
theorem dX7_lied_1 : decode cX7_lied 1 = .ok (.invokestatic 165, 3) := by decide +kernel
theorem dX7_lied_4 : decode cX7_lied 4 = .ok (.ifCond .eq 15, 3) := by decide +kernel
theorem dX7_lied_7 : decode cX7_lied 7 = .ok (.iload_n 2, 1) := by decide +kernel
theorem dX7_lied_8 : decode cX7_lied 8 = .ok (.i2l, 1) := by decide +kernel
theorem dX7_lied_9 : decode cX7_lied 9 = .ok (.lconst 0, 1) := by decide +kernel
theorem dX7_lied_10 : decode cX7_lied 10 = .ok (.ldc2_w 56, 3) := by decide +kernel
theorem dX7_lied_13 : decode cX7_lied 13 = .ok (.invokestatic 60, 3) := by decide +kernel
theorem dX7_lied_16 : decode cX7_lied 16 = .ok (.ifCond .ne 5, 3) := by decide +kernel
theorem dX7_lied_19 : decode cX7_lied 19 = .ok (.iconst (-1), 1) := by decide +kernel
theorem dX7_lied_20 : decode cX7_lied 20 = .ok (.ireturn, 1) := by decide +kernel
theorem dX7_lied_21 : decode cX7_lied 21 = .ok (.iconst 0, 1) := by decide +kernel
theorem dX7_lied_22 : decode cX7_lied 22 = .ok (.istore_n 3, 1) := by decide +kernel
theorem dX7_lied_23 : decode cX7_lied 23 = .ok (.iconst 0, 1) := by decide +kernel
theorem dX7_lied_24 : decode cX7_lied 24 = .ok (.istore 4, 2) := by decide +kernel
theorem dX7_lied_26 : decode cX7_lied 26 = .ok (.bipush (-4), 2) := by decide +kernel
theorem dX7_lied_28 : decode cX7_lied 28 = .ok (.istore 5, 2) := by decide +kernel
theorem dX7_lied_30 : decode cX7_lied 30 = .ok (.iconst 1, 1) := by decide +kernel
theorem dX7_lied_31 : decode cX7_lied 31 = .ok (.istore 6, 2) := by decide +kernel
theorem dX7_lied_33 : decode cX7_lied 33 = .ok (.iload 6, 2) := by decide +kernel
theorem dX7_lied_35 : decode cX7_lied 35 = .ok (.iload_n 1, 1) := by decide +kernel
theorem dX7_lied_36 : decode cX7_lied 36 = .ok (.if_icmp .ge 92, 3) := by decide +kernel
theorem dX7_lied_39 : decode cX7_lied 39 = .ok (.iload_n 3, 1) := by decide +kernel
theorem dX7_lied_40 : decode cX7_lied 40 = .ok (.iload_n 2, 1) := by decide +kernel
theorem dX7_lied_41 : decode cX7_lied 41 = .ok (.ifCond .ne 16, 3) := by decide +kernel
theorem dX7_lied_44 : decode cX7_lied 44 = .ok (.iload_n 1, 1) := by decide +kernel
theorem dX7_lied_45 : decode cX7_lied 45 = .ok (.iload 6, 2) := by decide +kernel
theorem dX7_lied_47 : decode cX7_lied 47 = .ok (.invokestatic 171, 3) := by decide +kernel
theorem dX7_lied_50 : decode cX7_lied 50 = .ok (.ifCond .eq 7, 3) := by decide +kernel
theorem dX7_lied_53 : decode cX7_lied 53 = .ok (.iconst 1, 1) := by decide +kernel
theorem dX7_lied_54 : decode cX7_lied 54 = .ok (.goto 4, 3) := by decide +kernel
theorem dX7_lied_57 : decode cX7_lied 57 = .ok (.iconst 0, 1) := by decide +kernel
theorem dX7_lied_58 : decode cX7_lied 58 = .ok (.iadd, 1) := by decide +kernel
theorem dX7_lied_59 : decode cX7_lied 59 = .ok (.istore_n 3, 1) := by decide +kernel
theorem dX7_lied_60 : decode cX7_lied 60 = .ok (.iload_n 2, 1) := by decide +kernel
