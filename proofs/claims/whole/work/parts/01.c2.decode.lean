theorem dX6_keySharesDivisor_3 : decode cX6_keySharesDivisor 3 = .ok (.iload_n 1, 1) := by decide +kernel
theorem dX6_keySharesDivisor_4 : decode cX6_keySharesDivisor 4 = .ok (.iconst 1, 1) := by decide +kernel
theorem dX6_keySharesDivisor_5 : decode cX6_keySharesDivisor 5 = .ok (.isub, 1) := by decide +kernel
theorem dX6_keySharesDivisor_6 : decode cX6_keySharesDivisor 6 = .ok (.imul, 1) := by decide +kernel
theorem dX6_keySharesDivisor_7 : decode cX6_keySharesDivisor 7 = .ok (.iload_n 2, 1) := by decide +kernel
theorem dX6_keySharesDivisor_8 : decode cX6_keySharesDivisor 8 = .ok (.invokestatic 267, 3) := by decide +kernel
theorem dX6_keySharesDivisor_11 : decode cX6_keySharesDivisor 11 = .ok (.iconst 1, 1) := by decide +kernel
theorem dX6_keySharesDivisor_12 : decode cX6_keySharesDivisor 12 = .ok (.if_icmp .eq 7, 3) := by decide +kernel
theorem dX6_keySharesDivisor_15 : decode cX6_keySharesDivisor 15 = .ok (.iconst 1, 1) := by decide +kernel
theorem dX6_keySharesDivisor_16 : decode cX6_keySharesDivisor 16 = .ok (.goto 4, 3) := by decide +kernel
theorem dX6_keySharesDivisor_19 : decode cX6_keySharesDivisor 19 = .ok (.iconst 0, 1) := by decide +kernel
theorem dX6_keySharesDivisor_20 : decode cX6_keySharesDivisor 20 = .ok (.ireturn, 1) := by decide +kernel
set_option maxRecDepth 20000 in
theorem ggX6_leastExponent_X0_split : GoodIn wsX6_leastExponent wsX0_split := goodIn_r _ [7, 8, 9, 10, 11, 6, 12, 13, 14, 47, 48, 49] (by decide +kernel) (by decide +kernel)
set_option maxRecDepth 20000 in
theorem gX6_leastExponent_X0_split : GoodIn wsX6_leastExponent (wsV RX6 58 RX0 yX0_split wsX0_split) := goodIn_app (goodIn_of _ (by decide +kernel)) ggX6_leastExponent_X0_split
set_option maxRecDepth 20000 in
theorem ggX6_leastExponent_X0_greatestOrder : GoodIn wsX6_leastExponent wsX0_greatestOrder := goodIn_r _ [18, 8, 19, 20, 21, 6, 22, 13, 14, 23, 24, 25, 26, 27, 28, 29, 30, 31, 32, 33, 47, 48, 49] (by decide +kernel) (by decide +kernel)
set_option maxRecDepth 20000 in
theorem gX6_leastExponent_X0_greatestOrder : GoodIn wsX6_leastExponent (wsV RX6 78 RX0 yX0_greatestOrder wsX0_greatestOrder) := goodIn_app (goodIn_of _ (by decide +kernel)) ggX6_leastExponent_X0_greatestOrder
set_option maxRecDepth 20000 in
theorem ggX6_leastExponent_X4_raise : GoodIn wsX6_leastExponent wsX4_raise := goodIn_r _ [36] (by decide +kernel) (by decide +kernel)
set_option maxRecDepth 20000 in
theorem gX6_leastExponent_X4_raise : GoodIn wsX6_leastExponent (va_wsS RX6 94 yX4_raise wsX4_raise) := goodIn_app (goodIn_of _ (by decide +kernel)) ggX6_leastExponent_X4_raise
theorem dX6_leastExponent_0 : decode cX6_leastExponent 0 = .ok (.aload_n 0, 1) := by decide +kernel
theorem dX6_leastExponent_1 : decode cX6_leastExponent 1 = .ok (.getfield 10, 3) := by decide +kernel
theorem dX6_leastExponent_4 : decode cX6_leastExponent 4 = .ok (.iload_n 2, 1) := by decide +kernel
theorem dX6_leastExponent_5 : decode cX6_leastExponent 5 = .ok (.invokevirtual 58, 3) := by decide +kernel
theorem dX6_leastExponent_8 : decode cX6_leastExponent 8 = .ok (.aload_n 0, 1) := by decide +kernel
theorem dX6_leastExponent_9 : decode cX6_leastExponent 9 = .ok (.getfield 10, 3) := by decide +kernel
theorem dX6_leastExponent_12 : decode cX6_leastExponent 12 = .ok (.invokevirtual 78, 3) := by decide +kernel
theorem dX6_leastExponent_15 : decode cX6_leastExponent 15 = .ok (.istore_n 3, 1) := by decide +kernel
theorem dX6_leastExponent_16 : decode cX6_leastExponent 16 = .ok (.aload_n 0, 1) := by decide +kernel
theorem dX6_leastExponent_17 : decode cX6_leastExponent 17 = .ok (.getfield 16, 3) := by decide +kernel
theorem dX6_leastExponent_20 : decode cX6_leastExponent 20 = .ok (.iload_n 3, 1) := by decide +kernel
theorem dX6_leastExponent_21 : decode cX6_leastExponent 21 = .ok (.invokevirtual 58, 3) := by decide +kernel
theorem dX6_leastExponent_24 : decode cX6_leastExponent 24 = .ok (.iconst 0, 1) := by decide +kernel
theorem dX6_leastExponent_25 : decode cX6_leastExponent 25 = .ok (.istore 4, 2) := by decide +kernel
theorem dX6_leastExponent_27 : decode cX6_leastExponent 27 = .ok (.iload 4, 2) := by decide +kernel
theorem dX6_leastExponent_29 : decode cX6_leastExponent 29 = .ok (.aload_n 0, 1) := by decide +kernel
theorem dX6_leastExponent_30 : decode cX6_leastExponent 30 = .ok (.getfield 16, 3) := by decide +kernel
theorem dX6_leastExponent_33 : decode cX6_leastExponent 33 = .ok (.getfield 115, 3) := by decide +kernel
theorem dX6_leastExponent_36 : decode cX6_leastExponent 36 = .ok (.if_icmp .ge 71, 3) := by decide +kernel
theorem dX6_leastExponent_39 : decode cX6_leastExponent 39 = .ok (.aload_n 0, 1) := by decide +kernel
theorem dX6_leastExponent_40 : decode cX6_leastExponent 40 = .ok (.getfield 16, 3) := by decide +kernel
theorem dX6_leastExponent_43 : decode cX6_leastExponent 43 = .ok (.getfield 119, 3) := by decide +kernel
theorem dX6_leastExponent_46 : decode cX6_leastExponent 46 = .ok (.iload 4, 2) := by decide +kernel
theorem dX6_leastExponent_48 : decode cX6_leastExponent 48 = .ok (.iaload, 1) := by decide +kernel
theorem dX6_leastExponent_49 : decode cX6_leastExponent 49 = .ok (.istore 5, 2) := by decide +kernel
theorem dX6_leastExponent_51 : decode cX6_leastExponent 51 = .ok (.iconst 0, 1) := by decide +kernel
theorem dX6_leastExponent_52 : decode cX6_leastExponent 52 = .ok (.istore 6, 2) := by decide +kernel
theorem dX6_leastExponent_54 : decode cX6_leastExponent 54 = .ok (.iload 5, 2) := by decide +kernel
theorem dX6_leastExponent_56 : decode cX6_leastExponent 56 = .ok (.iconst 1, 1) := by decide +kernel
theorem dX6_leastExponent_57 : decode cX6_leastExponent 57 = .ok (.if_icmp .le 44, 3) := by decide +kernel
theorem dX6_leastExponent_60 : decode cX6_leastExponent 60 = .ok (.iload 6, 2) := by decide +kernel
theorem dX6_leastExponent_62 : decode cX6_leastExponent 62 = .ok (.aload_n 0, 1) := by decide +kernel
theorem dX6_leastExponent_63 : decode cX6_leastExponent 63 = .ok (.getfield 16, 3) := by decide +kernel
theorem dX6_leastExponent_66 : decode cX6_leastExponent 66 = .ok (.getfield 125, 3) := by decide +kernel
theorem dX6_leastExponent_69 : decode cX6_leastExponent 69 = .ok (.iload 4, 2) := by decide +kernel
theorem dX6_leastExponent_71 : decode cX6_leastExponent 71 = .ok (.iaload, 1) := by decide +kernel
theorem dX6_leastExponent_72 : decode cX6_leastExponent 72 = .ok (.if_icmp .ge 29, 3) := by decide +kernel
theorem dX6_leastExponent_75 : decode cX6_leastExponent 75 = .ok (.iload_n 1, 1) := by decide +kernel
theorem dX6_leastExponent_76 : decode cX6_leastExponent 76 = .ok (.i2l, 1) := by decide +kernel
theorem dX6_leastExponent_77 : decode cX6_leastExponent 77 = .ok (.iload_n 3, 1) := by decide +kernel
theorem dX6_leastExponent_78 : decode cX6_leastExponent 78 = .ok (.iload 5, 2) := by decide +kernel
theorem dX6_leastExponent_80 : decode cX6_leastExponent 80 = .ok (.idiv, 1) := by decide +kernel
theorem dX6_leastExponent_81 : decode cX6_leastExponent 81 = .ok (.i2l, 1) := by decide +kernel
theorem dX6_leastExponent_82 : decode cX6_leastExponent 82 = .ok (.iload_n 2, 1) := by decide +kernel
theorem dX6_leastExponent_83 : decode cX6_leastExponent 83 = .ok (.invokestatic 94, 3) := by decide +kernel
theorem dX6_leastExponent_86 : decode cX6_leastExponent 86 = .ok (.iconst 1, 1) := by decide +kernel
theorem dX6_leastExponent_87 : decode cX6_leastExponent 87 = .ok (.if_icmp .ne 14, 3) := by decide +kernel
theorem dX6_leastExponent_90 : decode cX6_leastExponent 90 = .ok (.iload_n 3, 1) := by decide +kernel
theorem dX6_leastExponent_91 : decode cX6_leastExponent 91 = .ok (.iload 5, 2) := by decide +kernel
theorem dX6_leastExponent_93 : decode cX6_leastExponent 93 = .ok (.idiv, 1) := by decide +kernel
theorem dX6_leastExponent_94 : decode cX6_leastExponent 94 = .ok (.istore_n 3, 1) := by decide +kernel
theorem dX6_leastExponent_95 : decode cX6_leastExponent 95 = .ok (.iinc 6 1, 3) := by decide +kernel
theorem dX6_leastExponent_98 : decode cX6_leastExponent 98 = .ok (.goto (-44), 3) := by decide +kernel
theorem dX6_leastExponent_101 : decode cX6_leastExponent 101 = .ok (.iinc 4 1, 3) := by decide +kernel
theorem dX6_leastExponent_104 : decode cX6_leastExponent 104 = .ok (.goto (-77), 3) := by decide +kernel
theorem dX6_leastExponent_107 : decode cX6_leastExponent 107 = .ok (.iload_n 3, 1) := by decide +kernel
theorem dX6_leastExponent_108 : decode cX6_leastExponent 108 = .ok (.ireturn, 1) := by decide +kernel
set_option maxRecDepth 20000 in
theorem ggX6_unitsOfOrder_X0_split : GoodIn wsX6_unitsOfOrder wsX0_split := goodIn_r _ [7, 8, 9, 10, 11, 6, 12, 13, 14, 41, 42, 43] (by decide +kernel) (by decide +kernel)
set_option maxRecDepth 20000 in
theorem gX6_unitsOfOrder_X0_split : GoodIn wsX6_unitsOfOrder (wsV RX6 58 RX0 yX0_split wsX0_split) := goodIn_app (goodIn_of _ (by decide +kernel)) ggX6_unitsOfOrder_X0_split
set_option maxRecDepth 20000 in
theorem ggX6_unitsOfOrder_X0_rootsOfOne : GoodIn wsX6_unitsOfOrder wsX0_rootsOfOne := goodIn_r _ [18, 8, 19, 20, 21, 6, 22, 13, 14, 23, 24, 25, 26, 27, 28, 29, 30, 41, 42, 43] (by decide +kernel) (by decide +kernel)
set_option maxRecDepth 20000 in
theorem gX6_unitsOfOrder_X0_rootsOfOne : GoodIn wsX6_unitsOfOrder (wsV RX6 270 RX0 yX0_rootsOfOne wsX0_rootsOfOne) := goodIn_app (goodIn_of _ (by decide +kernel)) ggX6_unitsOfOrder_X0_rootsOfOne
theorem dX6_unitsOfOrder_0 : decode cX6_unitsOfOrder 0 = .ok (.aload_n 0, 1) := by decide +kernel
theorem dX6_unitsOfOrder_1 : decode cX6_unitsOfOrder 1 = .ok (.getfield 16, 3) := by decide +kernel
theorem dX6_unitsOfOrder_4 : decode cX6_unitsOfOrder 4 = .ok (.iload_n 1, 1) := by decide +kernel
theorem dX6_unitsOfOrder_5 : decode cX6_unitsOfOrder 5 = .ok (.invokevirtual 58, 3) := by decide +kernel
theorem dX6_unitsOfOrder_8 : decode cX6_unitsOfOrder 8 = .ok (.iconst 1, 1) := by decide +kernel
theorem dX6_unitsOfOrder_9 : decode cX6_unitsOfOrder 9 = .ok (.istore_n 2, 1) := by decide +kernel
theorem dX6_unitsOfOrder_10 : decode cX6_unitsOfOrder 10 = .ok (.iconst 0, 1) := by decide +kernel
theorem dX6_unitsOfOrder_11 : decode cX6_unitsOfOrder 11 = .ok (.istore_n 3, 1) := by decide +kernel
theorem dX6_unitsOfOrder_12 : decode cX6_unitsOfOrder 12 = .ok (.iload_n 3, 1) := by decide +kernel
theorem dX6_unitsOfOrder_13 : decode cX6_unitsOfOrder 13 = .ok (.aload_n 0, 1) := by decide +kernel
theorem dX6_unitsOfOrder_14 : decode cX6_unitsOfOrder 14 = .ok (.getfield 16, 3) := by decide +kernel
theorem dX6_unitsOfOrder_17 : decode cX6_unitsOfOrder 17 = .ok (.getfield 115, 3) := by decide +kernel
theorem dX6_unitsOfOrder_20 : decode cX6_unitsOfOrder 20 = .ok (.if_icmp .ge 81, 3) := by decide +kernel
theorem dX6_unitsOfOrder_23 : decode cX6_unitsOfOrder 23 = .ok (.iconst 1, 1) := by decide +kernel
theorem dX6_unitsOfOrder_24 : decode cX6_unitsOfOrder 24 = .ok (.istore 4, 2) := by decide +kernel
theorem dX6_unitsOfOrder_26 : decode cX6_unitsOfOrder 26 = .ok (.iconst 1, 1) := by decide +kernel
theorem dX6_unitsOfOrder_27 : decode cX6_unitsOfOrder 27 = .ok (.istore 5, 2) := by decide +kernel
theorem dX6_unitsOfOrder_29 : decode cX6_unitsOfOrder 29 = .ok (.iload 5, 2) := by decide +kernel
theorem dX6_unitsOfOrder_31 : decode cX6_unitsOfOrder 31 = .ok (.aload_n 0, 1) := by decide +kernel
theorem dX6_unitsOfOrder_32 : decode cX6_unitsOfOrder 32 = .ok (.getfield 16, 3) := by decide +kernel
theorem dX6_unitsOfOrder_35 : decode cX6_unitsOfOrder 35 = .ok (.getfield 125, 3) := by decide +kernel
theorem dX6_unitsOfOrder_38 : decode cX6_unitsOfOrder 38 = .ok (.iload_n 3, 1) := by decide +kernel
theorem dX6_unitsOfOrder_39 : decode cX6_unitsOfOrder 39 = .ok (.iaload, 1) := by decide +kernel
theorem dX6_unitsOfOrder_40 : decode cX6_unitsOfOrder 40 = .ok (.if_icmp .ge 23, 3) := by decide +kernel
theorem dX6_unitsOfOrder_43 : decode cX6_unitsOfOrder 43 = .ok (.iload 4, 2) := by decide +kernel
theorem dX6_unitsOfOrder_45 : decode cX6_unitsOfOrder 45 = .ok (.aload_n 0, 1) := by decide +kernel
theorem dX6_unitsOfOrder_46 : decode cX6_unitsOfOrder 46 = .ok (.getfield 16, 3) := by decide +kernel
theorem dX6_unitsOfOrder_49 : decode cX6_unitsOfOrder 49 = .ok (.getfield 119, 3) := by decide +kernel
theorem dX6_unitsOfOrder_52 : decode cX6_unitsOfOrder 52 = .ok (.iload_n 3, 1) := by decide +kernel
theorem dX6_unitsOfOrder_53 : decode cX6_unitsOfOrder 53 = .ok (.iaload, 1) := by decide +kernel
theorem dX6_unitsOfOrder_54 : decode cX6_unitsOfOrder 54 = .ok (.imul, 1) := by decide +kernel
theorem dX6_unitsOfOrder_55 : decode cX6_unitsOfOrder 55 = .ok (.istore 4, 2) := by decide +kernel
theorem dX6_unitsOfOrder_57 : decode cX6_unitsOfOrder 57 = .ok (.iinc 5 1, 3) := by decide +kernel
theorem dX6_unitsOfOrder_60 : decode cX6_unitsOfOrder 60 = .ok (.goto (-31), 3) := by decide +kernel
theorem dX6_unitsOfOrder_63 : decode cX6_unitsOfOrder 63 = .ok (.iload_n 2, 1) := by decide +kernel
theorem dX6_unitsOfOrder_64 : decode cX6_unitsOfOrder 64 = .ok (.aload_n 0, 1) := by decide +kernel
theorem dX6_unitsOfOrder_65 : decode cX6_unitsOfOrder 65 = .ok (.getfield 10, 3) := by decide +kernel
theorem dX6_unitsOfOrder_68 : decode cX6_unitsOfOrder 68 = .ok (.iload 4, 2) := by decide +kernel
theorem dX6_unitsOfOrder_70 : decode cX6_unitsOfOrder 70 = .ok (.aload_n 0, 1) := by decide +kernel
theorem dX6_unitsOfOrder_71 : decode cX6_unitsOfOrder 71 = .ok (.getfield 16, 3) := by decide +kernel
theorem dX6_unitsOfOrder_74 : decode cX6_unitsOfOrder 74 = .ok (.getfield 119, 3) := by decide +kernel
theorem dX6_unitsOfOrder_77 : decode cX6_unitsOfOrder 77 = .ok (.iload_n 3, 1) := by decide +kernel
theorem dX6_unitsOfOrder_78 : decode cX6_unitsOfOrder 78 = .ok (.iaload, 1) := by decide +kernel
theorem dX6_unitsOfOrder_79 : decode cX6_unitsOfOrder 79 = .ok (.imul, 1) := by decide +kernel
theorem dX6_unitsOfOrder_80 : decode cX6_unitsOfOrder 80 = .ok (.invokevirtual 270, 3) := by decide +kernel
theorem dX6_unitsOfOrder_83 : decode cX6_unitsOfOrder 83 = .ok (.aload_n 0, 1) := by decide +kernel
theorem dX6_unitsOfOrder_84 : decode cX6_unitsOfOrder 84 = .ok (.getfield 10, 3) := by decide +kernel
theorem dX6_unitsOfOrder_87 : decode cX6_unitsOfOrder 87 = .ok (.iload 4, 2) := by decide +kernel
theorem dX6_unitsOfOrder_89 : decode cX6_unitsOfOrder 89 = .ok (.invokevirtual 270, 3) := by decide +kernel
theorem dX6_unitsOfOrder_92 : decode cX6_unitsOfOrder 92 = .ok (.isub, 1) := by decide +kernel
theorem dX6_unitsOfOrder_93 : decode cX6_unitsOfOrder 93 = .ok (.imul, 1) := by decide +kernel
theorem dX6_unitsOfOrder_94 : decode cX6_unitsOfOrder 94 = .ok (.istore_n 2, 1) := by decide +kernel
theorem dX6_unitsOfOrder_95 : decode cX6_unitsOfOrder 95 = .ok (.iinc 3 1, 3) := by decide +kernel
theorem dX6_unitsOfOrder_98 : decode cX6_unitsOfOrder 98 = .ok (.goto (-86), 3) := by decide +kernel
theorem dX6_unitsOfOrder_101 : decode cX6_unitsOfOrder 101 = .ok (.iload_n 2, 1) := by decide +kernel
theorem dX6_unitsOfOrder_102 : decode cX6_unitsOfOrder 102 = .ok (.ireturn, 1) := by decide +kernel
set_option maxRecDepth 20000 in
theorem ggX6_hasOrder_X4_raise : GoodIn wsX6_hasOrder wsX4_raise := goodIn_r _ [5] (by decide +kernel) (by decide +kernel)
set_option maxRecDepth 20000 in
theorem gX6_hasOrder_X4_raise : GoodIn wsX6_hasOrder (va_wsS RX6 94 yX4_raise wsX4_raise) := goodIn_app (goodIn_of _ (by decide +kernel)) ggX6_hasOrder_X4_raise
theorem dX6_hasOrder_0 : decode cX6_hasOrder 0 = .ok (.iload_n 1, 1) := by decide +kernel
theorem dX6_hasOrder_1 : decode cX6_hasOrder 1 = .ok (.i2l, 1) := by decide +kernel
theorem dX6_hasOrder_2 : decode cX6_hasOrder 2 = .ok (.iload_n 2, 1) := by decide +kernel
theorem dX6_hasOrder_3 : decode cX6_hasOrder 3 = .ok (.i2l, 1) := by decide +kernel
theorem dX6_hasOrder_4 : decode cX6_hasOrder 4 = .ok (.iload_n 3, 1) := by decide +kernel
theorem dX6_hasOrder_5 : decode cX6_hasOrder 5 = .ok (.invokestatic 94, 3) := by decide +kernel
theorem dX6_hasOrder_8 : decode cX6_hasOrder 8 = .ok (.iconst 1, 1) := by decide +kernel
theorem dX6_hasOrder_9 : decode cX6_hasOrder 9 = .ok (.if_icmp .eq 5, 3) := by decide +kernel
theorem dX6_hasOrder_12 : decode cX6_hasOrder 12 = .ok (.iconst 0, 1) := by decide +kernel
theorem dX6_hasOrder_13 : decode cX6_hasOrder 13 = .ok (.ireturn, 1) := by decide +kernel
theorem dX6_hasOrder_14 : decode cX6_hasOrder 14 = .ok (.iconst 0, 1) := by decide +kernel
theorem dX6_hasOrder_15 : decode cX6_hasOrder 15 = .ok (.istore 4, 2) := by decide +kernel
theorem dX6_hasOrder_17 : decode cX6_hasOrder 17 = .ok (.iload 4, 2) := by decide +kernel
theorem dX6_hasOrder_19 : decode cX6_hasOrder 19 = .ok (.aload_n 0, 1) := by decide +kernel
theorem dX6_hasOrder_20 : decode cX6_hasOrder 20 = .ok (.getfield 16, 3) := by decide +kernel
theorem dX6_hasOrder_23 : decode cX6_hasOrder 23 = .ok (.getfield 115, 3) := by decide +kernel
theorem dX6_hasOrder_26 : decode cX6_hasOrder 26 = .ok (.if_icmp .ge 44, 3) := by decide +kernel
theorem dX6_hasOrder_29 : decode cX6_hasOrder 29 = .ok (.aload_n 0, 1) := by decide +kernel
theorem dX6_hasOrder_30 : decode cX6_hasOrder 30 = .ok (.getfield 16, 3) := by decide +kernel
theorem dX6_hasOrder_33 : decode cX6_hasOrder 33 = .ok (.getfield 119, 3) := by decide +kernel
theorem dX6_hasOrder_36 : decode cX6_hasOrder 36 = .ok (.iload 4, 2) := by decide +kernel
theorem dX6_hasOrder_38 : decode cX6_hasOrder 38 = .ok (.iaload, 1) := by decide +kernel
theorem dX6_hasOrder_39 : decode cX6_hasOrder 39 = .ok (.istore 5, 2) := by decide +kernel
theorem dX6_hasOrder_41 : decode cX6_hasOrder 41 = .ok (.iload 5, 2) := by decide +kernel
theorem dX6_hasOrder_43 : decode cX6_hasOrder 43 = .ok (.iconst 1, 1) := by decide +kernel
theorem dX6_hasOrder_44 : decode cX6_hasOrder 44 = .ok (.if_icmp .le 20, 3) := by decide +kernel
theorem dX6_hasOrder_47 : decode cX6_hasOrder 47 = .ok (.iload_n 1, 1) := by decide +kernel
theorem dX6_hasOrder_48 : decode cX6_hasOrder 48 = .ok (.i2l, 1) := by decide +kernel
theorem dX6_hasOrder_49 : decode cX6_hasOrder 49 = .ok (.iload_n 2, 1) := by decide +kernel
theorem dX6_hasOrder_50 : decode cX6_hasOrder 50 = .ok (.iload 5, 2) := by decide +kernel
theorem dX6_hasOrder_52 : decode cX6_hasOrder 52 = .ok (.idiv, 1) := by decide +kernel
theorem dX6_hasOrder_53 : decode cX6_hasOrder 53 = .ok (.i2l, 1) := by decide +kernel
theorem dX6_hasOrder_54 : decode cX6_hasOrder 54 = .ok (.iload_n 3, 1) := by decide +kernel
theorem dX6_hasOrder_55 : decode cX6_hasOrder 55 = .ok (.invokestatic 94, 3) := by decide +kernel
theorem dX6_hasOrder_58 : decode cX6_hasOrder 58 = .ok (.iconst 1, 1) := by decide +kernel
theorem dX6_hasOrder_59 : decode cX6_hasOrder 59 = .ok (.if_icmp .ne 5, 3) := by decide +kernel
theorem dX6_hasOrder_62 : decode cX6_hasOrder 62 = .ok (.iconst 0, 1) := by decide +kernel
theorem dX6_hasOrder_63 : decode cX6_hasOrder 63 = .ok (.ireturn, 1) := by decide +kernel
theorem dX6_hasOrder_64 : decode cX6_hasOrder 64 = .ok (.iinc 4 1, 3) := by decide +kernel
theorem dX6_hasOrder_67 : decode cX6_hasOrder 67 = .ok (.goto (-50), 3) := by decide +kernel
theorem dX6_hasOrder_70 : decode cX6_hasOrder 70 = .ok (.iconst 1, 1) := by decide +kernel
theorem dX6_hasOrder_71 : decode cX6_hasOrder 71 = .ok (.ireturn, 1) := by decide +kernel
set_option maxRecDepth 20000 in
theorem ggX6_markMakers_X6_firstMaker : GoodIn wsX6_markMakers wsX6_firstMaker := goodIn_r _ [7, 8, 9, 10, 6, 11, 2, 12, 13, 14, 15, 37, 38, 39, 40, 41, 42, 43, 44, 45, 46, 47, 48, 49] (by decide +kernel) (by decide +kernel)
set_option maxRecDepth 20000 in
theorem gX6_markMakers_X6_firstMaker : GoodIn wsX6_markMakers (wsV RX6 273 RX6 yX6_firstMaker wsX6_firstMaker) := goodIn_app (goodIn_of _ (by decide +kernel)) ggX6_markMakers_X6_firstMaker
set_option maxRecDepth 20000 in
theorem ggX6_markMakers_X3_wipeAll : GoodIn wsX6_markMakers wsX3_wipeAll := goodIn_r _ [20, 21, 50] (by decide +kernel) (by decide +kernel)
set_option maxRecDepth 20000 in
theorem gX6_markMakers_X3_wipeAll : GoodIn wsX6_markMakers (wsV RX6 248 RX3 yX3_wipeAll wsX3_wipeAll) := goodIn_app (goodIn_of _ (by decide +kernel)) ggX6_markMakers_X3_wipeAll
set_option maxRecDepth 20000 in
theorem ggX6_markMakers_X0_sharesWith : GoodIn wsX6_markMakers wsX0_sharesWith := goodIn_r _ [26, 27, 28, 29, 30, 14, 31, 47, 48, 49] (by decide +kernel) (by decide +kernel)
set_option maxRecDepth 20000 in
theorem gX6_markMakers_X0_sharesWith : GoodIn wsX6_markMakers (wsV RX6 66 RX0 yX0_sharesWith wsX0_sharesWith) := goodIn_app (goodIn_of _ (by decide +kernel)) ggX6_markMakers_X0_sharesWith
set_option maxRecDepth 20000 in
theorem ggX6_markMakers_X3_put : GoodIn wsX6_markMakers wsX3_put := goodIn_r _ [35, 21, 50] (by decide +kernel) (by decide +kernel)
set_option maxRecDepth 20000 in
theorem gX6_markMakers_X3_put : GoodIn wsX6_markMakers (wsV RX6 276 RX3 yX3_put wsX3_put) := goodIn_app (goodIn_of _ (by decide +kernel)) ggX6_markMakers_X3_put
set_option maxRecDepth 20000 in
theorem ggX6_markMakers_X4_rest : GoodIn wsX6_markMakers wsX4_rest := goodIn_r _ [31] (by decide +kernel) (by decide +kernel)
set_option maxRecDepth 20000 in
theorem gX6_markMakers_X4_rest : GoodIn wsX6_markMakers (va_wsS RX6 279 yX4_rest wsX4_rest) := goodIn_app (goodIn_of _ (by decide +kernel)) ggX6_markMakers_X4_rest
theorem dX6_markMakers_0 : decode cX6_markMakers 0 = .ok (.aload_n 0, 1) := by decide +kernel
theorem dX6_markMakers_1 : decode cX6_markMakers 1 = .ok (.iload_n 1, 1) := by decide +kernel
theorem dX6_markMakers_2 : decode cX6_markMakers 2 = .ok (.iload_n 2, 1) := by decide +kernel
theorem dX6_markMakers_3 : decode cX6_markMakers 3 = .ok (.invokevirtual 273, 3) := by decide +kernel
theorem dX6_markMakers_6 : decode cX6_markMakers 6 = .ok (.i2l, 1) := by decide +kernel
theorem dX6_markMakers_7 : decode cX6_markMakers 7 = .ok (.lstore_n 3, 1) := by decide +kernel
theorem dX6_markMakers_8 : decode cX6_markMakers 8 = .ok (.lload_n 3, 1) := by decide +kernel
theorem dX6_markMakers_9 : decode cX6_markMakers 9 = .ok (.l2i, 1) := by decide +kernel
theorem dX6_markMakers_10 : decode cX6_markMakers 10 = .ok (.istore 5, 2) := by decide +kernel
theorem dX6_markMakers_12 : decode cX6_markMakers 12 = .ok (.aload_n 0, 1) := by decide +kernel
theorem dX6_markMakers_13 : decode cX6_markMakers 13 = .ok (.getfield 22, 3) := by decide +kernel
theorem dX6_markMakers_16 : decode cX6_markMakers 16 = .ok (.invokevirtual 248, 3) := by decide +kernel
theorem dX6_markMakers_19 : decode cX6_markMakers 19 = .ok (.iconst 1, 1) := by decide +kernel
theorem dX6_markMakers_20 : decode cX6_markMakers 20 = .ok (.istore 6, 2) := by decide +kernel
theorem dX6_markMakers_22 : decode cX6_markMakers 22 = .ok (.iload 6, 2) := by decide +kernel
theorem dX6_markMakers_24 : decode cX6_markMakers 24 = .ok (.iload_n 2, 1) := by decide +kernel
theorem dX6_markMakers_25 : decode cX6_markMakers 25 = .ok (.if_icmp .gt 41, 3) := by decide +kernel
theorem dX6_markMakers_28 : decode cX6_markMakers 28 = .ok (.aload_n 0, 1) := by decide +kernel
theorem dX6_markMakers_29 : decode cX6_markMakers 29 = .ok (.getfield 16, 3) := by decide +kernel
theorem dX6_markMakers_32 : decode cX6_markMakers 32 = .ok (.iload 6, 2) := by decide +kernel
theorem dX6_markMakers_34 : decode cX6_markMakers 34 = .ok (.invokevirtual 66, 3) := by decide +kernel
theorem dX6_markMakers_37 : decode cX6_markMakers 37 = .ok (.ifCond .ne 12, 3) := by decide +kernel
theorem dX6_markMakers_40 : decode cX6_markMakers 40 = .ok (.aload_n 0, 1) := by decide +kernel
theorem dX6_markMakers_41 : decode cX6_markMakers 41 = .ok (.getfield 22, 3) := by decide +kernel
theorem dX6_markMakers_44 : decode cX6_markMakers 44 = .ok (.iload 5, 2) := by decide +kernel
theorem dX6_markMakers_46 : decode cX6_markMakers 46 = .ok (.invokevirtual 276, 3) := by decide +kernel
theorem dX6_markMakers_49 : decode cX6_markMakers 49 = .ok (.iload 5, 2) := by decide +kernel
theorem dX6_markMakers_51 : decode cX6_markMakers 51 = .ok (.i2l, 1) := by decide +kernel
theorem dX6_markMakers_52 : decode cX6_markMakers 52 = .ok (.lload_n 3, 1) := by decide +kernel
theorem dX6_markMakers_53 : decode cX6_markMakers 53 = .ok (.lmul, 1) := by decide +kernel
theorem dX6_markMakers_54 : decode cX6_markMakers 54 = .ok (.iload_n 1, 1) := by decide +kernel
theorem dX6_markMakers_55 : decode cX6_markMakers 55 = .ok (.invokestatic 279, 3) := by decide +kernel
theorem dX6_markMakers_58 : decode cX6_markMakers 58 = .ok (.istore 5, 2) := by decide +kernel
theorem dX6_markMakers_60 : decode cX6_markMakers 60 = .ok (.iinc 6 1, 3) := by decide +kernel
theorem dX6_markMakers_63 : decode cX6_markMakers 63 = .ok (.goto (-41), 3) := by decide +kernel
theorem dX6_markMakers_66 : decode cX6_markMakers 66 = .ok (.return_, 1) := by decide +kernel
set_option maxRecDepth 20000 in
theorem ggX6_firstMaker_X6_hasOrder : GoodIn wsX6_firstMaker wsX6_hasOrder := goodIn_r _ [5, 6, 7, 8, 9, 10, 11, 12, 13, 14, 15, 16, 17, 18, 19, 20, 21, 22, 23] (by decide +kernel) (by decide +kernel)
set_option maxRecDepth 20000 in
theorem gX6_firstMaker_X6_hasOrder : GoodIn wsX6_firstMaker (wsV RX6 283 RX6 yX6_hasOrder wsX6_hasOrder) := goodIn_app (goodIn_of _ (by decide +kernel)) ggX6_firstMaker_X6_hasOrder
theorem dX6_firstMaker_0 : decode cX6_firstMaker 0 = .ok (.iconst 1, 1) := by decide +kernel
theorem dX6_firstMaker_1 : decode cX6_firstMaker 1 = .ok (.istore_n 3, 1) := by decide +kernel
theorem dX6_firstMaker_2 : decode cX6_firstMaker 2 = .ok (.iload_n 3, 1) := by decide +kernel
theorem dX6_firstMaker_3 : decode cX6_firstMaker 3 = .ok (.iload_n 1, 1) := by decide +kernel
theorem dX6_firstMaker_4 : decode cX6_firstMaker 4 = .ok (.if_icmp .ge 21, 3) := by decide +kernel
theorem dX6_firstMaker_7 : decode cX6_firstMaker 7 = .ok (.aload_n 0, 1) := by decide +kernel
theorem dX6_firstMaker_8 : decode cX6_firstMaker 8 = .ok (.iload_n 3, 1) := by decide +kernel
theorem dX6_firstMaker_9 : decode cX6_firstMaker 9 = .ok (.iload_n 2, 1) := by decide +kernel
theorem dX6_firstMaker_10 : decode cX6_firstMaker 10 = .ok (.iload_n 1, 1) := by decide +kernel
theorem dX6_firstMaker_11 : decode cX6_firstMaker 11 = .ok (.invokevirtual 283, 3) := by decide +kernel
theorem dX6_firstMaker_14 : decode cX6_firstMaker 14 = .ok (.ifCond .eq 5, 3) := by decide +kernel
theorem dX6_firstMaker_17 : decode cX6_firstMaker 17 = .ok (.iload_n 3, 1) := by decide +kernel
theorem dX6_firstMaker_18 : decode cX6_firstMaker 18 = .ok (.ireturn, 1) := by decide +kernel
theorem dX6_firstMaker_19 : decode cX6_firstMaker 19 = .ok (.iinc 3 1, 3) := by decide +kernel
theorem dX6_firstMaker_22 : decode cX6_firstMaker 22 = .ok (.goto (-20), 3) := by decide +kernel
theorem dX6_firstMaker_25 : decode cX6_firstMaker 25 = .ok (.iconst 1, 1) := by decide +kernel
theorem dX6_firstMaker_26 : decode cX6_firstMaker 26 = .ok (.ireturn, 1) := by decide +kernel
set_option maxRecDepth 20000 in
theorem ggX6_leastLog_X4_rest : GoodIn wsX6_leastLog wsX4_rest := goodIn_r _ [4] (by decide +kernel) (by decide +kernel)
set_option maxRecDepth 20000 in
theorem gX6_leastLog_X4_rest : GoodIn wsX6_leastLog (va_wsS RX6 279 yX4_rest wsX4_rest) := goodIn_app (goodIn_of _ (by decide +kernel)) ggX6_leastLog_X4_rest
theorem dX6_leastLog_0 : decode cX6_leastLog 0 = .ok (.lconst 1, 1) := by decide +kernel
theorem dX6_leastLog_1 : decode cX6_leastLog 1 = .ok (.lstore_n 3, 1) := by decide +kernel
theorem dX6_leastLog_2 : decode cX6_leastLog 2 = .ok (.iconst 0, 1) := by decide +kernel
theorem dX6_leastLog_3 : decode cX6_leastLog 3 = .ok (.istore 5, 2) := by decide +kernel
theorem dX6_leastLog_5 : decode cX6_leastLog 5 = .ok (.iload 5, 2) := by decide +kernel
theorem dX6_leastLog_7 : decode cX6_leastLog 7 = .ok (.iload_n 0, 1) := by decide +kernel
theorem dX6_leastLog_8 : decode cX6_leastLog 8 = .ok (.if_icmp .ge 29, 3) := by decide +kernel
theorem dX6_leastLog_11 : decode cX6_leastLog 11 = .ok (.lload_n 3, 1) := by decide +kernel
theorem dX6_leastLog_12 : decode cX6_leastLog 12 = .ok (.iload_n 2, 1) := by decide +kernel
theorem dX6_leastLog_13 : decode cX6_leastLog 13 = .ok (.i2l, 1) := by decide +kernel
theorem dX6_leastLog_14 : decode cX6_leastLog 14 = .ok (.lcmp, 1) := by decide +kernel
theorem dX6_leastLog_15 : decode cX6_leastLog 15 = .ok (.ifCond .ne 6, 3) := by decide +kernel
theorem dX6_leastLog_18 : decode cX6_leastLog 18 = .ok (.iload 5, 2) := by decide +kernel
theorem dX6_leastLog_20 : decode cX6_leastLog 20 = .ok (.ireturn, 1) := by decide +kernel
theorem dX6_leastLog_21 : decode cX6_leastLog 21 = .ok (.lload_n 3, 1) := by decide +kernel
theorem dX6_leastLog_22 : decode cX6_leastLog 22 = .ok (.iload_n 1, 1) := by decide +kernel
theorem dX6_leastLog_23 : decode cX6_leastLog 23 = .ok (.i2l, 1) := by decide +kernel
theorem dX6_leastLog_24 : decode cX6_leastLog 24 = .ok (.lmul, 1) := by decide +kernel
theorem dX6_leastLog_25 : decode cX6_leastLog 25 = .ok (.iload_n 0, 1) := by decide +kernel
theorem dX6_leastLog_26 : decode cX6_leastLog 26 = .ok (.invokestatic 279, 3) := by decide +kernel
theorem dX6_leastLog_29 : decode cX6_leastLog 29 = .ok (.i2l, 1) := by decide +kernel
theorem dX6_leastLog_30 : decode cX6_leastLog 30 = .ok (.lstore_n 3, 1) := by decide +kernel
theorem dX6_leastLog_31 : decode cX6_leastLog 31 = .ok (.iinc 5 1, 3) := by decide +kernel
theorem dX6_leastLog_34 : decode cX6_leastLog 34 = .ok (.goto (-29), 3) := by decide +kernel
theorem dX6_leastLog_37 : decode cX6_leastLog 37 = .ok (.bipush (-4), 2) := by decide +kernel
theorem dX6_leastLog_39 : decode cX6_leastLog 39 = .ok (.ireturn, 1) := by decide +kernel
set_option maxRecDepth 20000 in
theorem ggX6_markSquares_X3_wipeAll : GoodIn wsX6_markSquares wsX3_wipeAll := goodIn_r _ [7, 8, 27] (by decide +kernel) (by decide +kernel)
set_option maxRecDepth 20000 in
theorem gX6_markSquares_X3_wipeAll : GoodIn wsX6_markSquares (wsV RX6 248 RX3 yX3_wipeAll wsX3_wipeAll) := goodIn_app (goodIn_of _ (by decide +kernel)) ggX6_markSquares_X3_wipeAll
set_option maxRecDepth 20000 in
theorem ggX6_markSquares_X4_rest : GoodIn wsX6_markSquares wsX4_rest := goodIn_r _ [12] (by decide +kernel) (by decide +kernel)
set_option maxRecDepth 20000 in
theorem gX6_markSquares_X4_rest : GoodIn wsX6_markSquares (va_wsS RX6 279 yX4_rest wsX4_rest) := goodIn_app (goodIn_of _ (by decide +kernel)) ggX6_markSquares_X4_rest
set_option maxRecDepth 20000 in
theorem ggX6_markSquares_X3_put : GoodIn wsX6_markSquares wsX3_put := goodIn_r _ [16, 8, 27] (by decide +kernel) (by decide +kernel)
set_option maxRecDepth 20000 in
theorem gX6_markSquares_X3_put : GoodIn wsX6_markSquares (wsV RX6 276 RX3 yX3_put wsX3_put) := goodIn_app (goodIn_of _ (by decide +kernel)) ggX6_markSquares_X3_put
theorem dX6_markSquares_0 : decode cX6_markSquares 0 = .ok (.aload_n 0, 1) := by decide +kernel
theorem dX6_markSquares_1 : decode cX6_markSquares 1 = .ok (.getfield 22, 3) := by decide +kernel
theorem dX6_markSquares_4 : decode cX6_markSquares 4 = .ok (.invokevirtual 248, 3) := by decide +kernel
theorem dX6_markSquares_7 : decode cX6_markSquares 7 = .ok (.lconst 1, 1) := by decide +kernel
theorem dX6_markSquares_8 : decode cX6_markSquares 8 = .ok (.lstore_n 2, 1) := by decide +kernel
theorem dX6_markSquares_9 : decode cX6_markSquares 9 = .ok (.ldc2_w 286, 3) := by decide +kernel
theorem dX6_markSquares_12 : decode cX6_markSquares 12 = .ok (.lload_n 2, 1) := by decide +kernel
theorem dX6_markSquares_13 : decode cX6_markSquares 13 = .ok (.lmul, 1) := by decide +kernel
theorem dX6_markSquares_14 : decode cX6_markSquares 14 = .ok (.iload_n 1, 1) := by decide +kernel
theorem dX6_markSquares_15 : decode cX6_markSquares 15 = .ok (.i2l, 1) := by decide +kernel
theorem dX6_markSquares_16 : decode cX6_markSquares 16 = .ok (.lcmp, 1) := by decide +kernel
theorem dX6_markSquares_17 : decode cX6_markSquares 17 = .ok (.ifCond .gt 24, 3) := by decide +kernel
theorem dX6_markSquares_20 : decode cX6_markSquares 20 = .ok (.aload_n 0, 1) := by decide +kernel
theorem dX6_markSquares_21 : decode cX6_markSquares 21 = .ok (.getfield 22, 3) := by decide +kernel
theorem dX6_markSquares_24 : decode cX6_markSquares 24 = .ok (.lload_n 2, 1) := by decide +kernel
theorem dX6_markSquares_25 : decode cX6_markSquares 25 = .ok (.lload_n 2, 1) := by decide +kernel
theorem dX6_markSquares_26 : decode cX6_markSquares 26 = .ok (.lmul, 1) := by decide +kernel
theorem dX6_markSquares_27 : decode cX6_markSquares 27 = .ok (.iload_n 1, 1) := by decide +kernel
theorem dX6_markSquares_28 : decode cX6_markSquares 28 = .ok (.invokestatic 279, 3) := by decide +kernel
theorem dX6_markSquares_31 : decode cX6_markSquares 31 = .ok (.invokevirtual 276, 3) := by decide +kernel
theorem dX6_markSquares_34 : decode cX6_markSquares 34 = .ok (.lload_n 2, 1) := by decide +kernel
theorem dX6_markSquares_35 : decode cX6_markSquares 35 = .ok (.lconst 1, 1) := by decide +kernel
theorem dX6_markSquares_36 : decode cX6_markSquares 36 = .ok (.ladd, 1) := by decide +kernel
theorem dX6_markSquares_37 : decode cX6_markSquares 37 = .ok (.lstore_n 2, 1) := by decide +kernel
theorem dX6_markSquares_38 : decode cX6_markSquares 38 = .ok (.goto (-29), 3) := by decide +kernel
theorem dX6_markSquares_41 : decode cX6_markSquares 41 = .ok (.return_, 1) := by decide +kernel
set_option maxRecDepth 20000 in
theorem ggX6_firstNoSquare_X3_has : GoodIn wsX6_firstNoSquare wsX3_has := goodIn_r _ [7, 8, 30] (by decide +kernel) (by decide +kernel)
set_option maxRecDepth 20000 in
theorem gX6_firstNoSquare_X3_has : GoodIn wsX6_firstNoSquare (wsV RX6 288 RX3 yX3_has wsX3_has) := goodIn_app (goodIn_of _ (by decide +kernel)) ggX6_firstNoSquare_X3_has
set_option maxRecDepth 20000 in
theorem ggX6_firstNoSquare_X0_sharesWith : GoodIn wsX6_firstNoSquare wsX0_sharesWith := goodIn_r _ [13, 14, 15, 16, 17, 18, 19, 31, 32, 33] (by decide +kernel) (by decide +kernel)
set_option maxRecDepth 20000 in
theorem gX6_firstNoSquare_X0_sharesWith : GoodIn wsX6_firstNoSquare (wsV RX6 66 RX0 yX0_sharesWith wsX0_sharesWith) := goodIn_app (goodIn_of _ (by decide +kernel)) ggX6_firstNoSquare_X0_sharesWith
theorem dX6_firstNoSquare_0 : decode cX6_firstNoSquare 0 = .ok (.iconst 1, 1) := by decide +kernel
theorem dX6_firstNoSquare_1 : decode cX6_firstNoSquare 1 = .ok (.istore_n 2, 1) := by decide +kernel
theorem dX6_firstNoSquare_2 : decode cX6_firstNoSquare 2 = .ok (.iload_n 2, 1) := by decide +kernel
theorem dX6_firstNoSquare_3 : decode cX6_firstNoSquare 3 = .ok (.iload_n 1, 1) := by decide +kernel
theorem dX6_firstNoSquare_4 : decode cX6_firstNoSquare 4 = .ok (.if_icmp .ge 33, 3) := by decide +kernel
theorem dX6_firstNoSquare_7 : decode cX6_firstNoSquare 7 = .ok (.aload_n 0, 1) := by decide +kernel
theorem dX6_firstNoSquare_8 : decode cX6_firstNoSquare 8 = .ok (.getfield 22, 3) := by decide +kernel
theorem dX6_firstNoSquare_11 : decode cX6_firstNoSquare 11 = .ok (.iload_n 2, 1) := by decide +kernel
theorem dX6_firstNoSquare_12 : decode cX6_firstNoSquare 12 = .ok (.invokevirtual 288, 3) := by decide +kernel
theorem dX6_firstNoSquare_15 : decode cX6_firstNoSquare 15 = .ok (.ifCond .ne 16, 3) := by decide +kernel
theorem dX6_firstNoSquare_18 : decode cX6_firstNoSquare 18 = .ok (.aload_n 0, 1) := by decide +kernel
theorem dX6_firstNoSquare_19 : decode cX6_firstNoSquare 19 = .ok (.getfield 10, 3) := by decide +kernel
theorem dX6_firstNoSquare_22 : decode cX6_firstNoSquare 22 = .ok (.iload_n 2, 1) := by decide +kernel
theorem dX6_firstNoSquare_23 : decode cX6_firstNoSquare 23 = .ok (.invokevirtual 66, 3) := by decide +kernel
theorem dX6_firstNoSquare_26 : decode cX6_firstNoSquare 26 = .ok (.ifCond .ne 5, 3) := by decide +kernel
theorem dX6_firstNoSquare_29 : decode cX6_firstNoSquare 29 = .ok (.iload_n 2, 1) := by decide +kernel
theorem dX6_firstNoSquare_30 : decode cX6_firstNoSquare 30 = .ok (.ireturn, 1) := by decide +kernel
theorem dX6_firstNoSquare_31 : decode cX6_firstNoSquare 31 = .ok (.iinc 2 1, 3) := by decide +kernel
theorem dX6_firstNoSquare_34 : decode cX6_firstNoSquare 34 = .ok (.goto (-32), 3) := by decide +kernel
theorem dX6_firstNoSquare_37 : decode cX6_firstNoSquare 37 = .ok (.bipush (-4), 2) := by decide +kernel
theorem dX6_firstNoSquare_39 : decode cX6_firstNoSquare 39 = .ok (.ireturn, 1) := by decide +kernel
set_option maxRecDepth 20000 in
theorem ggX6_runsOfSquares_X3_has : GoodIn wsX6_runsOfSquares wsX3_has := goodIn_r _ [7, 8, 30] (by decide +kernel) (by decide +kernel)
set_option maxRecDepth 20000 in
theorem gX6_runsOfSquares_X3_has : GoodIn wsX6_runsOfSquares (wsV RX6 288 RX3 yX3_has wsX3_has) := goodIn_app (goodIn_of _ (by decide +kernel)) ggX6_runsOfSquares_X3_has
set_option maxRecDepth 20000 in
theorem ggX6_runsOfSquares_X0_sharesWith : GoodIn wsX6_runsOfSquares wsX0_sharesWith := goodIn_r _ [13, 14, 15, 16, 17, 18, 19, 31, 32, 33] (by decide +kernel) (by decide +kernel)
set_option maxRecDepth 20000 in
theorem gX6_runsOfSquares_X0_sharesWith : GoodIn wsX6_runsOfSquares (wsV RX6 66 RX0 yX0_sharesWith wsX0_sharesWith) := goodIn_app (goodIn_of _ (by decide +kernel)) ggX6_runsOfSquares_X0_sharesWith
theorem dX6_runsOfSquares_0 : decode cX6_runsOfSquares 0 = .ok (.iconst 0, 1) := by decide +kernel
theorem dX6_runsOfSquares_1 : decode cX6_runsOfSquares 1 = .ok (.istore_n 3, 1) := by decide +kernel
theorem dX6_runsOfSquares_2 : decode cX6_runsOfSquares 2 = .ok (.iconst 0, 1) := by decide +kernel
theorem dX6_runsOfSquares_3 : decode cX6_runsOfSquares 3 = .ok (.istore 4, 2) := by decide +kernel
theorem dX6_runsOfSquares_5 : decode cX6_runsOfSquares 5 = .ok (.iconst 0, 1) := by decide +kernel
theorem dX6_runsOfSquares_6 : decode cX6_runsOfSquares 6 = .ok (.istore 5, 2) := by decide +kernel
theorem dX6_runsOfSquares_8 : decode cX6_runsOfSquares 8 = .ok (.iconst 0, 1) := by decide +kernel
theorem dX6_runsOfSquares_9 : decode cX6_runsOfSquares 9 = .ok (.istore 6, 2) := by decide +kernel
theorem dX6_runsOfSquares_11 : decode cX6_runsOfSquares 11 = .ok (.iconst 1, 1) := by decide +kernel
theorem dX6_runsOfSquares_12 : decode cX6_runsOfSquares 12 = .ok (.istore 7, 2) := by decide +kernel
theorem dX6_runsOfSquares_14 : decode cX6_runsOfSquares 14 = .ok (.iload 7, 2) := by decide +kernel
theorem dX6_runsOfSquares_16 : decode cX6_runsOfSquares 16 = .ok (.iload_n 1, 1) := by decide +kernel
theorem dX6_runsOfSquares_17 : decode cX6_runsOfSquares 17 = .ok (.if_icmp .ge 65, 3) := by decide +kernel
theorem dX6_runsOfSquares_20 : decode cX6_runsOfSquares 20 = .ok (.aload_n 0, 1) := by decide +kernel
theorem dX6_runsOfSquares_21 : decode cX6_runsOfSquares 21 = .ok (.getfield 22, 3) := by decide +kernel
theorem dX6_runsOfSquares_24 : decode cX6_runsOfSquares 24 = .ok (.iload 7, 2) := by decide +kernel
theorem dX6_runsOfSquares_26 : decode cX6_runsOfSquares 26 = .ok (.invokevirtual 288, 3) := by decide +kernel
theorem dX6_runsOfSquares_29 : decode cX6_runsOfSquares 29 = .ok (.ifCond .eq 24, 3) := by decide +kernel
theorem dX6_runsOfSquares_32 : decode cX6_runsOfSquares 32 = .ok (.aload_n 0, 1) := by decide +kernel
theorem dX6_runsOfSquares_33 : decode cX6_runsOfSquares 33 = .ok (.getfield 10, 3) := by decide +kernel
theorem dX6_runsOfSquares_36 : decode cX6_runsOfSquares 36 = .ok (.iload 7, 2) := by decide +kernel
theorem dX6_runsOfSquares_38 : decode cX6_runsOfSquares 38 = .ok (.invokevirtual 66, 3) := by decide +kernel
theorem dX6_runsOfSquares_41 : decode cX6_runsOfSquares 41 = .ok (.ifCond .ne 12, 3) := by decide +kernel
theorem dX6_runsOfSquares_44 : decode cX6_runsOfSquares 44 = .ok (.iinc 3 1, 3) := by decide +kernel
theorem dX6_runsOfSquares_47 : decode cX6_runsOfSquares 47 = .ok (.iinc 4 1, 3) := by decide +kernel
theorem dX6_runsOfSquares_50 : decode cX6_runsOfSquares 50 = .ok (.goto 6, 3) := by decide +kernel
theorem dX6_runsOfSquares_53 : decode cX6_runsOfSquares 53 = .ok (.iconst 0, 1) := by decide +kernel
theorem dX6_runsOfSquares_54 : decode cX6_runsOfSquares 54 = .ok (.istore 4, 2) := by decide +kernel
theorem dX6_runsOfSquares_56 : decode cX6_runsOfSquares 56 = .ok (.iload 4, 2) := by decide +kernel
theorem dX6_runsOfSquares_58 : decode cX6_runsOfSquares 58 = .ok (.iload 5, 2) := by decide +kernel
theorem dX6_runsOfSquares_60 : decode cX6_runsOfSquares 60 = .ok (.if_icmp .le 16, 3) := by decide +kernel
theorem dX6_runsOfSquares_63 : decode cX6_runsOfSquares 63 = .ok (.iload 4, 2) := by decide +kernel
theorem dX6_runsOfSquares_65 : decode cX6_runsOfSquares 65 = .ok (.istore 5, 2) := by decide +kernel
theorem dX6_runsOfSquares_67 : decode cX6_runsOfSquares 67 = .ok (.iload 7, 2) := by decide +kernel
theorem dX6_runsOfSquares_69 : decode cX6_runsOfSquares 69 = .ok (.iload 4, 2) := by decide +kernel
theorem dX6_runsOfSquares_71 : decode cX6_runsOfSquares 71 = .ok (.isub, 1) := by decide +kernel
theorem dX6_runsOfSquares_72 : decode cX6_runsOfSquares 72 = .ok (.iconst 1, 1) := by decide +kernel
theorem dX6_runsOfSquares_73 : decode cX6_runsOfSquares 73 = .ok (.iadd, 1) := by decide +kernel
theorem dX6_runsOfSquares_74 : decode cX6_runsOfSquares 74 = .ok (.istore 6, 2) := by decide +kernel
theorem dX6_runsOfSquares_76 : decode cX6_runsOfSquares 76 = .ok (.iinc 7 1, 3) := by decide +kernel
theorem dX6_runsOfSquares_79 : decode cX6_runsOfSquares 79 = .ok (.goto (-65), 3) := by decide +kernel
theorem dX6_runsOfSquares_82 : decode cX6_runsOfSquares 82 = .ok (.iload_n 2, 1) := by decide +kernel
theorem dX6_runsOfSquares_83 : decode cX6_runsOfSquares 83 = .ok (.ifCond .ne 5, 3) := by decide +kernel
theorem dX6_runsOfSquares_86 : decode cX6_runsOfSquares 86 = .ok (.iload_n 3, 1) := by decide +kernel
theorem dX6_runsOfSquares_87 : decode cX6_runsOfSquares 87 = .ok (.ireturn, 1) := by decide +kernel
theorem dX6_runsOfSquares_88 : decode cX6_runsOfSquares 88 = .ok (.iload_n 2, 1) := by decide +kernel
theorem dX6_runsOfSquares_89 : decode cX6_runsOfSquares 89 = .ok (.iconst 1, 1) := by decide +kernel
theorem dX6_runsOfSquares_90 : decode cX6_runsOfSquares 90 = .ok (.if_icmp .ne 8, 3) := by decide +kernel
theorem dX6_runsOfSquares_93 : decode cX6_runsOfSquares 93 = .ok (.iload 5, 2) := by decide +kernel
theorem dX6_runsOfSquares_95 : decode cX6_runsOfSquares 95 = .ok (.goto 5, 3) := by decide +kernel
theorem dX6_runsOfSquares_98 : decode cX6_runsOfSquares 98 = .ok (.iload 6, 2) := by decide +kernel
theorem dX6_runsOfSquares_100 : decode cX6_runsOfSquares 100 = .ok (.ireturn, 1) := by decide +kernel
set_option maxRecDepth 20000 in
theorem ggX6_signByPrime_X4_rest : GoodIn wsX6_signByPrime wsX4_rest := goodIn_r _ [4] (by decide +kernel) (by decide +kernel)
set_option maxRecDepth 20000 in
theorem gX6_signByPrime_X4_rest : GoodIn wsX6_signByPrime (va_wsS RX6 279 yX4_rest wsX4_rest) := goodIn_app (goodIn_of _ (by decide +kernel)) ggX6_signByPrime_X4_rest
set_option maxRecDepth 20000 in
theorem ggX6_signByPrime_X4_raise : GoodIn wsX6_signByPrime wsX4_raise := goodIn_r _ [7] (by decide +kernel) (by decide +kernel)
set_option maxRecDepth 20000 in
theorem gX6_signByPrime_X4_raise : GoodIn wsX6_signByPrime (va_wsS RX6 94 yX4_raise wsX4_raise) := goodIn_app (goodIn_of _ (by decide +kernel)) ggX6_signByPrime_X4_raise
theorem dX6_signByPrime_0 : decode cX6_signByPrime 0 = .ok (.iload_n 0, 1) := by decide +kernel
theorem dX6_signByPrime_1 : decode cX6_signByPrime 1 = .ok (.i2l, 1) := by decide +kernel
theorem dX6_signByPrime_2 : decode cX6_signByPrime 2 = .ok (.iload_n 1, 1) := by decide +kernel
theorem dX6_signByPrime_3 : decode cX6_signByPrime 3 = .ok (.invokestatic 279, 3) := by decide +kernel
theorem dX6_signByPrime_6 : decode cX6_signByPrime 6 = .ok (.ifCond .ne 5, 3) := by decide +kernel
theorem dX6_signByPrime_9 : decode cX6_signByPrime 9 = .ok (.iconst 0, 1) := by decide +kernel
theorem dX6_signByPrime_10 : decode cX6_signByPrime 10 = .ok (.ireturn, 1) := by decide +kernel
theorem dX6_signByPrime_11 : decode cX6_signByPrime 11 = .ok (.iload_n 0, 1) := by decide +kernel
theorem dX6_signByPrime_12 : decode cX6_signByPrime 12 = .ok (.i2l, 1) := by decide +kernel
theorem dX6_signByPrime_13 : decode cX6_signByPrime 13 = .ok (.iload_n 1, 1) := by decide +kernel
theorem dX6_signByPrime_14 : decode cX6_signByPrime 14 = .ok (.iconst 1, 1) := by decide +kernel
theorem dX6_signByPrime_15 : decode cX6_signByPrime 15 = .ok (.isub, 1) := by decide +kernel
theorem dX6_signByPrime_16 : decode cX6_signByPrime 16 = .ok (.iconst 2, 1) := by decide +kernel
theorem dX6_signByPrime_17 : decode cX6_signByPrime 17 = .ok (.idiv, 1) := by decide +kernel
theorem dX6_signByPrime_18 : decode cX6_signByPrime 18 = .ok (.i2l, 1) := by decide +kernel
theorem dX6_signByPrime_19 : decode cX6_signByPrime 19 = .ok (.iload_n 1, 1) := by decide +kernel
theorem dX6_signByPrime_20 : decode cX6_signByPrime 20 = .ok (.invokestatic 94, 3) := by decide +kernel
theorem dX6_signByPrime_23 : decode cX6_signByPrime 23 = .ok (.iconst 1, 1) := by decide +kernel
theorem dX6_signByPrime_24 : decode cX6_signByPrime 24 = .ok (.if_icmp .ne 7, 3) := by decide +kernel
theorem dX6_signByPrime_27 : decode cX6_signByPrime 27 = .ok (.iconst 1, 1) := by decide +kernel
theorem dX6_signByPrime_28 : decode cX6_signByPrime 28 = .ok (.goto 4, 3) := by decide +kernel
theorem dX6_signByPrime_31 : decode cX6_signByPrime 31 = .ok (.iconst (-1), 1) := by decide +kernel
theorem dX6_signByPrime_32 : decode cX6_signByPrime 32 = .ok (.ireturn, 1) := by decide +kernel
set_option maxRecDepth 20000 in
theorem ggX6_periodOfText_X1_read : GoodIn wsX6_periodOfText wsX1_read := goodIn_r _ [8, 9, 10, 11, 12, 13, 14, 15, 16, 17, 18, 19, 20, 21, 22, 23, 7, 24, 25, 26, 27, 28, 46, 47, 48, 49, 50, 51, 52] (by decide +kernel) (by decide +kernel)
set_option maxRecDepth 20000 in
theorem gX6_periodOfText_X1_read : GoodIn wsX6_periodOfText (wsV RX6 138 RX1 yX1_read wsX1_read) := goodIn_app (goodIn_of _ (by decide +kernel)) ggX6_periodOfText_X1_read
set_option maxRecDepth 20000 in
theorem ggX6_periodOfText_X4_commonMultiple : GoodIn wsX6_periodOfText wsX4_commonMultiple := goodIn_r _ [32, 33, 34, 31, 35] (by decide +kernel) (by decide +kernel)
set_option maxRecDepth 20000 in
theorem gX6_periodOfText_X4_commonMultiple : GoodIn wsX6_periodOfText (va_wsS RX6 245 yX4_commonMultiple wsX4_commonMultiple) := goodIn_app (goodIn_of _ (by decide +kernel)) ggX6_periodOfText_X4_commonMultiple
theorem dX6_periodOfText_0 : decode cX6_periodOfText 0 = .ok (.iconst 1, 1) := by decide +kernel
theorem dX6_periodOfText_1 : decode cX6_periodOfText 1 = .ok (.istore_n 1, 1) := by decide +kernel
theorem dX6_periodOfText_2 : decode cX6_periodOfText 2 = .ok (.iconst 0, 1) := by decide +kernel
theorem dX6_periodOfText_3 : decode cX6_periodOfText 3 = .ok (.istore_n 2, 1) := by decide +kernel
theorem dX6_periodOfText_4 : decode cX6_periodOfText 4 = .ok (.iconst 0, 1) := by decide +kernel
theorem dX6_periodOfText_5 : decode cX6_periodOfText 5 = .ok (.istore_n 3, 1) := by decide +kernel
theorem dX6_periodOfText_6 : decode cX6_periodOfText 6 = .ok (.iload_n 3, 1) := by decide +kernel
theorem dX6_periodOfText_7 : decode cX6_periodOfText 7 = .ok (.bipush 8, 2) := by decide +kernel
theorem dX6_periodOfText_9 : decode cX6_periodOfText 9 = .ok (.if_icmp .ge 50, 3) := by decide +kernel
theorem dX6_periodOfText_12 : decode cX6_periodOfText 12 = .ok (.iload_n 1, 1) := by decide +kernel
theorem dX6_periodOfText_13 : decode cX6_periodOfText 13 = .ok (.ldc 151, 2) := by decide +kernel
theorem dX6_periodOfText_15 : decode cX6_periodOfText 15 = .ok (.if_icmp .gt 44, 3) := by decide +kernel
theorem dX6_periodOfText_18 : decode cX6_periodOfText 18 = .ok (.aload_n 0, 1) := by decide +kernel
theorem dX6_periodOfText_19 : decode cX6_periodOfText 19 = .ok (.getfield 36, 3) := by decide +kernel
theorem dX6_periodOfText_22 : decode cX6_periodOfText 22 = .ok (.aload_n 0, 1) := by decide +kernel
theorem dX6_periodOfText_23 : decode cX6_periodOfText 23 = .ok (.getfield 29, 3) := by decide +kernel
theorem dX6_periodOfText_26 : decode cX6_periodOfText 26 = .ok (.iload_n 2, 1) := by decide +kernel
theorem dX6_periodOfText_27 : decode cX6_periodOfText 27 = .ok (.invokevirtual 138, 3) := by decide +kernel
theorem dX6_periodOfText_30 : decode cX6_periodOfText 30 = .ok (.ifCond .eq 29, 3) := by decide +kernel
theorem dX6_periodOfText_33 : decode cX6_periodOfText 33 = .ok (.iload_n 1, 1) := by decide +kernel
theorem dX6_periodOfText_34 : decode cX6_periodOfText 34 = .ok (.aload_n 0, 1) := by decide +kernel
theorem dX6_periodOfText_35 : decode cX6_periodOfText 35 = .ok (.getfield 36, 3) := by decide +kernel
theorem dX6_periodOfText_38 : decode cX6_periodOfText 38 = .ok (.getfield 291, 3) := by decide +kernel
theorem dX6_periodOfText_41 : decode cX6_periodOfText 41 = .ok (.invokestatic 245, 3) := by decide +kernel
theorem dX6_periodOfText_44 : decode cX6_periodOfText 44 = .ok (.istore_n 1, 1) := by decide +kernel
theorem dX6_periodOfText_45 : decode cX6_periodOfText 45 = .ok (.aload_n 0, 1) := by decide +kernel
theorem dX6_periodOfText_46 : decode cX6_periodOfText 46 = .ok (.getfield 36, 3) := by decide +kernel
theorem dX6_periodOfText_49 : decode cX6_periodOfText 49 = .ok (.getfield 142, 3) := by decide +kernel
theorem dX6_periodOfText_52 : decode cX6_periodOfText 52 = .ok (.istore_n 2, 1) := by decide +kernel
theorem dX6_periodOfText_53 : decode cX6_periodOfText 53 = .ok (.iinc 3 1, 3) := by decide +kernel
theorem dX6_periodOfText_56 : decode cX6_periodOfText 56 = .ok (.goto (-50), 3) := by decide +kernel
theorem dX6_periodOfText_59 : decode cX6_periodOfText 59 = .ok (.iload_n 1, 1) := by decide +kernel
theorem dX6_periodOfText_60 : decode cX6_periodOfText 60 = .ok (.ireturn, 1) := by decide +kernel
set_option maxRecDepth 20000 in
theorem ggX6_looksPrimeTo_X4_commonDivisor : GoodIn wsX6_looksPrimeTo wsX4_commonDivisor := goodIn_r _ [5] (by decide +kernel) (by decide +kernel)
set_option maxRecDepth 20000 in
theorem gX6_looksPrimeTo_X4_commonDivisor : GoodIn wsX6_looksPrimeTo (va_wsS RX6 267 yX4_commonDivisor wsX4_commonDivisor) := goodIn_app (goodIn_of _ (by decide +kernel)) ggX6_looksPrimeTo_X4_commonDivisor
theorem dX6_looksPrimeTo_0 : decode cX6_looksPrimeTo 0 = .ok (.iconst 1, 1) := by decide +kernel
theorem dX6_looksPrimeTo_1 : decode cX6_looksPrimeTo 1 = .ok (.istore_n 2, 1) := by decide +kernel
theorem dX6_looksPrimeTo_2 : decode cX6_looksPrimeTo 2 = .ok (.iconst 0, 1) := by decide +kernel
theorem dX6_looksPrimeTo_3 : decode cX6_looksPrimeTo 3 = .ok (.istore_n 3, 1) := by decide +kernel
theorem dX6_looksPrimeTo_4 : decode cX6_looksPrimeTo 4 = .ok (.iload_n 3, 1) := by decide +kernel
theorem dX6_looksPrimeTo_5 : decode cX6_looksPrimeTo 5 = .ok (.aload_n 0, 1) := by decide +kernel
theorem dX6_looksPrimeTo_6 : decode cX6_looksPrimeTo 6 = .ok (.getfield 10, 3) := by decide +kernel
theorem dX6_looksPrimeTo_9 : decode cX6_looksPrimeTo 9 = .ok (.getfield 115, 3) := by decide +kernel
theorem dX6_looksPrimeTo_12 : decode cX6_looksPrimeTo 12 = .ok (.if_icmp .ge 29, 3) := by decide +kernel
theorem dX6_looksPrimeTo_15 : decode cX6_looksPrimeTo 15 = .ok (.iload_n 2, 1) := by decide +kernel
theorem dX6_looksPrimeTo_16 : decode cX6_looksPrimeTo 16 = .ok (.iload_n 1, 1) := by decide +kernel
theorem dX6_looksPrimeTo_17 : decode cX6_looksPrimeTo 17 = .ok (.iconst 1, 1) := by decide +kernel
theorem dX6_looksPrimeTo_18 : decode cX6_looksPrimeTo 18 = .ok (.isub, 1) := by decide +kernel
theorem dX6_looksPrimeTo_19 : decode cX6_looksPrimeTo 19 = .ok (.aload_n 0, 1) := by decide +kernel
theorem dX6_looksPrimeTo_20 : decode cX6_looksPrimeTo 20 = .ok (.getfield 10, 3) := by decide +kernel
theorem dX6_looksPrimeTo_23 : decode cX6_looksPrimeTo 23 = .ok (.getfield 119, 3) := by decide +kernel
theorem dX6_looksPrimeTo_26 : decode cX6_looksPrimeTo 26 = .ok (.iload_n 3, 1) := by decide +kernel
theorem dX6_looksPrimeTo_27 : decode cX6_looksPrimeTo 27 = .ok (.iaload, 1) := by decide +kernel
theorem dX6_looksPrimeTo_28 : decode cX6_looksPrimeTo 28 = .ok (.iconst 1, 1) := by decide +kernel
theorem dX6_looksPrimeTo_29 : decode cX6_looksPrimeTo 29 = .ok (.isub, 1) := by decide +kernel
theorem dX6_looksPrimeTo_30 : decode cX6_looksPrimeTo 30 = .ok (.invokestatic 267, 3) := by decide +kernel
theorem dX6_looksPrimeTo_33 : decode cX6_looksPrimeTo 33 = .ok (.imul, 1) := by decide +kernel
theorem dX6_looksPrimeTo_34 : decode cX6_looksPrimeTo 34 = .ok (.istore_n 2, 1) := by decide +kernel
theorem dX6_looksPrimeTo_35 : decode cX6_looksPrimeTo 35 = .ok (.iinc 3 1, 3) := by decide +kernel
theorem dX6_looksPrimeTo_38 : decode cX6_looksPrimeTo 38 = .ok (.goto (-34), 3) := by decide +kernel
theorem dX6_looksPrimeTo_41 : decode cX6_looksPrimeTo 41 = .ok (.iload_n 2, 1) := by decide +kernel
theorem dX6_looksPrimeTo_42 : decode cX6_looksPrimeTo 42 = .ok (.ireturn, 1) := by decide +kernel
set_option maxRecDepth 20000 in
theorem ggX6_looksStronglyTo_X4_oddPart : GoodIn wsX6_looksStronglyTo wsX4_oddPart := goodIn_r _ [9, 10, 11, 8, 12] (by decide +kernel) (by decide +kernel)
set_option maxRecDepth 20000 in
theorem gX6_looksStronglyTo_X4_oddPart : GoodIn wsX6_looksStronglyTo (va_wsS RX6 294 yX4_oddPart wsX4_oddPart) := goodIn_app (goodIn_of _ (by decide +kernel)) ggX6_looksStronglyTo_X4_oddPart
set_option maxRecDepth 20000 in
theorem ggX6_looksStronglyTo_X4_commonDivisor : GoodIn wsX6_looksStronglyTo wsX4_commonDivisor := goodIn_r _ [15] (by decide +kernel) (by decide +kernel)
set_option maxRecDepth 20000 in
theorem gX6_looksStronglyTo_X4_commonDivisor : GoodIn wsX6_looksStronglyTo (va_wsS RX6 267 yX4_commonDivisor wsX4_commonDivisor) := goodIn_app (goodIn_of _ (by decide +kernel)) ggX6_looksStronglyTo_X4_commonDivisor
set_option maxRecDepth 20000 in
theorem ggX6_looksStronglyTo_X4_twosOf : GoodIn wsX6_looksStronglyTo wsX4_twosOf := goodIn_r _ [12] (by decide +kernel) (by decide +kernel)
set_option maxRecDepth 20000 in
theorem gX6_looksStronglyTo_X4_twosOf : GoodIn wsX6_looksStronglyTo (va_wsS RX6 297 yX4_twosOf wsX4_twosOf) := goodIn_app (goodIn_of _ (by decide +kernel)) ggX6_looksStronglyTo_X4_twosOf
theorem dX6_looksStronglyTo_0 : decode cX6_looksStronglyTo 0 = .ok (.iload_n 1, 1) := by decide +kernel
theorem dX6_looksStronglyTo_1 : decode cX6_looksStronglyTo 1 = .ok (.iconst 1, 1) := by decide +kernel
theorem dX6_looksStronglyTo_2 : decode cX6_looksStronglyTo 2 = .ok (.isub, 1) := by decide +kernel
theorem dX6_looksStronglyTo_3 : decode cX6_looksStronglyTo 3 = .ok (.invokestatic 294, 3) := by decide +kernel
theorem dX6_looksStronglyTo_6 : decode cX6_looksStronglyTo 6 = .ok (.istore_n 2, 1) := by decide +kernel
theorem dX6_looksStronglyTo_7 : decode cX6_looksStronglyTo 7 = .ok (.iconst 1, 1) := by decide +kernel
theorem dX6_looksStronglyTo_8 : decode cX6_looksStronglyTo 8 = .ok (.istore_n 3, 1) := by decide +kernel
theorem dX6_looksStronglyTo_9 : decode cX6_looksStronglyTo 9 = .ok (.iload_n 1, 1) := by decide +kernel
theorem dX6_looksStronglyTo_10 : decode cX6_looksStronglyTo 10 = .ok (.istore 4, 2) := by decide +kernel
theorem dX6_looksStronglyTo_12 : decode cX6_looksStronglyTo 12 = .ok (.iconst 0, 1) := by decide +kernel
theorem dX6_looksStronglyTo_13 : decode cX6_looksStronglyTo 13 = .ok (.istore 5, 2) := by decide +kernel
theorem dX6_looksStronglyTo_15 : decode cX6_looksStronglyTo 15 = .ok (.iload 5, 2) := by decide +kernel
theorem dX6_looksStronglyTo_17 : decode cX6_looksStronglyTo 17 = .ok (.aload_n 0, 1) := by decide +kernel
theorem dX6_looksStronglyTo_18 : decode cX6_looksStronglyTo 18 = .ok (.getfield 10, 3) := by decide +kernel
theorem dX6_looksStronglyTo_21 : decode cX6_looksStronglyTo 21 = .ok (.getfield 115, 3) := by decide +kernel
theorem dX6_looksStronglyTo_24 : decode cX6_looksStronglyTo 24 = .ok (.if_icmp .ge 47, 3) := by decide +kernel
theorem dX6_looksStronglyTo_27 : decode cX6_looksStronglyTo 27 = .ok (.aload_n 0, 1) := by decide +kernel
theorem dX6_looksStronglyTo_28 : decode cX6_looksStronglyTo 28 = .ok (.getfield 10, 3) := by decide +kernel
theorem dX6_looksStronglyTo_31 : decode cX6_looksStronglyTo 31 = .ok (.getfield 119, 3) := by decide +kernel
theorem dX6_looksStronglyTo_34 : decode cX6_looksStronglyTo 34 = .ok (.iload 5, 2) := by decide +kernel
theorem dX6_looksStronglyTo_36 : decode cX6_looksStronglyTo 36 = .ok (.iaload, 1) := by decide +kernel
theorem dX6_looksStronglyTo_37 : decode cX6_looksStronglyTo 37 = .ok (.iconst 1, 1) := by decide +kernel
theorem dX6_looksStronglyTo_38 : decode cX6_looksStronglyTo 38 = .ok (.isub, 1) := by decide +kernel
theorem dX6_looksStronglyTo_39 : decode cX6_looksStronglyTo 39 = .ok (.istore 6, 2) := by decide +kernel
theorem dX6_looksStronglyTo_41 : decode cX6_looksStronglyTo 41 = .ok (.iload_n 3, 1) := by decide +kernel
theorem dX6_looksStronglyTo_42 : decode cX6_looksStronglyTo 42 = .ok (.iload_n 2, 1) := by decide +kernel
theorem dX6_looksStronglyTo_43 : decode cX6_looksStronglyTo 43 = .ok (.iload 6, 2) := by decide +kernel
theorem dX6_looksStronglyTo_45 : decode cX6_looksStronglyTo 45 = .ok (.invokestatic 294, 3) := by decide +kernel
theorem dX6_looksStronglyTo_48 : decode cX6_looksStronglyTo 48 = .ok (.invokestatic 267, 3) := by decide +kernel
theorem dX6_looksStronglyTo_51 : decode cX6_looksStronglyTo 51 = .ok (.imul, 1) := by decide +kernel
theorem dX6_looksStronglyTo_52 : decode cX6_looksStronglyTo 52 = .ok (.istore_n 3, 1) := by decide +kernel
theorem dX6_looksStronglyTo_53 : decode cX6_looksStronglyTo 53 = .ok (.iload 4, 2) := by decide +kernel
theorem dX6_looksStronglyTo_55 : decode cX6_looksStronglyTo 55 = .ok (.iload 6, 2) := by decide +kernel
theorem dX6_looksStronglyTo_57 : decode cX6_looksStronglyTo 57 = .ok (.invokestatic 297, 3) := by decide +kernel
theorem dX6_looksStronglyTo_60 : decode cX6_looksStronglyTo 60 = .ok (.invokestatic 300, 3) := by decide +kernel
theorem dX6_looksStronglyTo_63 : decode cX6_looksStronglyTo 63 = .ok (.istore 4, 2) := by decide +kernel
theorem dX6_looksStronglyTo_65 : decode cX6_looksStronglyTo 65 = .ok (.iinc 5 1, 3) := by decide +kernel
theorem dX6_looksStronglyTo_68 : decode cX6_looksStronglyTo 68 = .ok (.goto (-53), 3) := by decide +kernel
theorem dX6_looksStronglyTo_71 : decode cX6_looksStronglyTo 71 = .ok (.iconst 1, 1) := by decide +kernel
theorem dX6_looksStronglyTo_72 : decode cX6_looksStronglyTo 72 = .ok (.istore 5, 2) := by decide +kernel
theorem dX6_looksStronglyTo_74 : decode cX6_looksStronglyTo 74 = .ok (.iconst 0, 1) := by decide +kernel
theorem dX6_looksStronglyTo_75 : decode cX6_looksStronglyTo 75 = .ok (.istore 6, 2) := by decide +kernel
theorem dX6_looksStronglyTo_77 : decode cX6_looksStronglyTo 77 = .ok (.iload 6, 2) := by decide +kernel
theorem dX6_looksStronglyTo_79 : decode cX6_looksStronglyTo 79 = .ok (.iload 4, 2) := by decide +kernel
theorem dX6_looksStronglyTo_81 : decode cX6_looksStronglyTo 81 = .ok (.if_icmp .ge 33, 3) := by decide +kernel
theorem dX6_looksStronglyTo_84 : decode cX6_looksStronglyTo 84 = .ok (.iload 6, 2) := by decide +kernel
theorem dX6_looksStronglyTo_86 : decode cX6_looksStronglyTo 86 = .ok (.bipush 16, 2) := by decide +kernel
theorem dX6_looksStronglyTo_88 : decode cX6_looksStronglyTo 88 = .ok (.if_icmp .ge 26, 3) := by decide +kernel
theorem dX6_looksStronglyTo_91 : decode cX6_looksStronglyTo 91 = .ok (.iload 5, 2) := by decide +kernel
theorem dX6_looksStronglyTo_93 : decode cX6_looksStronglyTo 93 = .ok (.iconst 1, 1) := by decide +kernel
theorem dX6_looksStronglyTo_94 : decode cX6_looksStronglyTo 94 = .ok (.iload 6, 2) := by decide +kernel
theorem dX6_looksStronglyTo_96 : decode cX6_looksStronglyTo 96 = .ok (.aload_n 0, 1) := by decide +kernel
theorem dX6_looksStronglyTo_97 : decode cX6_looksStronglyTo 97 = .ok (.getfield 10, 3) := by decide +kernel
theorem dX6_looksStronglyTo_100 : decode cX6_looksStronglyTo 100 = .ok (.getfield 115, 3) := by decide +kernel
theorem dX6_looksStronglyTo_103 : decode cX6_looksStronglyTo 103 = .ok (.imul, 1) := by decide +kernel
theorem dX6_looksStronglyTo_104 : decode cX6_looksStronglyTo 104 = .ok (.ishl, 1) := by decide +kernel
theorem dX6_looksStronglyTo_105 : decode cX6_looksStronglyTo 105 = .ok (.iadd, 1) := by decide +kernel
theorem dX6_looksStronglyTo_106 : decode cX6_looksStronglyTo 106 = .ok (.istore 5, 2) := by decide +kernel
theorem dX6_looksStronglyTo_108 : decode cX6_looksStronglyTo 108 = .ok (.iinc 6 1, 3) := by decide +kernel
theorem dX6_looksStronglyTo_111 : decode cX6_looksStronglyTo 111 = .ok (.goto (-34), 3) := by decide +kernel
theorem dX6_looksStronglyTo_114 : decode cX6_looksStronglyTo 114 = .ok (.iload_n 3, 1) := by decide +kernel
theorem dX6_looksStronglyTo_115 : decode cX6_looksStronglyTo 115 = .ok (.iload 5, 2) := by decide +kernel
theorem dX6_looksStronglyTo_117 : decode cX6_looksStronglyTo 117 = .ok (.imul, 1) := by decide +kernel
theorem dX6_looksStronglyTo_118 : decode cX6_looksStronglyTo 118 = .ok (.ireturn, 1) := by decide +kernel
set_option maxRecDepth 20000 in
theorem ggX6_leastWitness_X4_isPrime : GoodIn wsX6_leastWitness wsX4_isPrime := goodIn_r _ [4] (by decide +kernel) (by decide +kernel)
set_option maxRecDepth 20000 in
theorem gX6_leastWitness_X4_isPrime : GoodIn wsX6_leastWitness (va_wsS RX6 193 yX4_isPrime wsX4_isPrime) := goodIn_app (goodIn_of _ (by decide +kernel)) ggX6_leastWitness_X4_isPrime
set_option maxRecDepth 20000 in
theorem ggX6_leastWitness_X4_looksStrongly : GoodIn wsX6_leastWitness wsX4_looksStrongly := goodIn_r _ [7, 8, 9, 3, 10, 11, 12, 13, 14, 15, 16] (by decide +kernel) (by decide +kernel)
set_option maxRecDepth 20000 in
theorem gX6_leastWitness_X4_looksStrongly : GoodIn wsX6_leastWitness (va_wsS RX6 190 yX4_looksStrongly wsX4_looksStrongly) := goodIn_app (goodIn_of _ (by decide +kernel)) ggX6_leastWitness_X4_looksStrongly
theorem dX6_leastWitness_0 : decode cX6_leastWitness 0 = .ok (.iload_n 0, 1) := by decide +kernel
theorem dX6_leastWitness_1 : decode cX6_leastWitness 1 = .ok (.invokestatic 193, 3) := by decide +kernel
theorem dX6_leastWitness_4 : decode cX6_leastWitness 4 = .ok (.ifCond .eq 6, 3) := by decide +kernel
theorem dX6_leastWitness_7 : decode cX6_leastWitness 7 = .ok (.bipush (-4), 2) := by decide +kernel
theorem dX6_leastWitness_9 : decode cX6_leastWitness 9 = .ok (.ireturn, 1) := by decide +kernel
theorem dX6_leastWitness_10 : decode cX6_leastWitness 10 = .ok (.iconst 2, 1) := by decide +kernel
theorem dX6_leastWitness_11 : decode cX6_leastWitness 11 = .ok (.istore_n 1, 1) := by decide +kernel
theorem dX6_leastWitness_12 : decode cX6_leastWitness 12 = .ok (.iload_n 1, 1) := by decide +kernel
theorem dX6_leastWitness_13 : decode cX6_leastWitness 13 = .ok (.iload_n 0, 1) := by decide +kernel
theorem dX6_leastWitness_14 : decode cX6_leastWitness 14 = .ok (.iconst 2, 1) := by decide +kernel
theorem dX6_leastWitness_15 : decode cX6_leastWitness 15 = .ok (.isub, 1) := by decide +kernel
theorem dX6_leastWitness_16 : decode cX6_leastWitness 16 = .ok (.if_icmp .gt 19, 3) := by decide +kernel
theorem dX6_leastWitness_19 : decode cX6_leastWitness 19 = .ok (.iload_n 0, 1) := by decide +kernel
theorem dX6_leastWitness_20 : decode cX6_leastWitness 20 = .ok (.iload_n 1, 1) := by decide +kernel
theorem dX6_leastWitness_21 : decode cX6_leastWitness 21 = .ok (.invokestatic 190, 3) := by decide +kernel
theorem dX6_leastWitness_24 : decode cX6_leastWitness 24 = .ok (.ifCond .ne 5, 3) := by decide +kernel
theorem dX6_leastWitness_27 : decode cX6_leastWitness 27 = .ok (.iload_n 1, 1) := by decide +kernel
theorem dX6_leastWitness_28 : decode cX6_leastWitness 28 = .ok (.ireturn, 1) := by decide +kernel
theorem dX6_leastWitness_29 : decode cX6_leastWitness 29 = .ok (.iinc 1 1, 3) := by decide +kernel
theorem dX6_leastWitness_32 : decode cX6_leastWitness 32 = .ok (.goto (-20), 3) := by decide +kernel
theorem dX6_leastWitness_35 : decode cX6_leastWitness 35 = .ok (.bipush (-4), 2) := by decide +kernel
theorem dX6_leastWitness_37 : decode cX6_leastWitness 37 = .ok (.ireturn, 1) := by decide +kernel
set_option maxRecDepth 20000 in
theorem ggX6_liesToAll_X0_split : GoodIn wsX6_liesToAll wsX0_split := goodIn_r _ [6, 7, 8, 9, 10, 5, 11, 12, 13, 24, 25, 26] (by decide +kernel) (by decide +kernel)
set_option maxRecDepth 20000 in
theorem gX6_liesToAll_X0_split : GoodIn wsX6_liesToAll (wsV RX6 58 RX0 yX0_split wsX0_split) := goodIn_app (goodIn_of _ (by decide +kernel)) ggX6_liesToAll_X0_split
theorem dX6_liesToAll_0 : decode cX6_liesToAll 0 = .ok (.aload_n 0, 1) := by decide +kernel
theorem dX6_liesToAll_1 : decode cX6_liesToAll 1 = .ok (.getfield 10, 3) := by decide +kernel
theorem dX6_liesToAll_4 : decode cX6_liesToAll 4 = .ok (.iload_n 1, 1) := by decide +kernel
theorem dX6_liesToAll_5 : decode cX6_liesToAll 5 = .ok (.invokevirtual 58, 3) := by decide +kernel
theorem dX6_liesToAll_8 : decode cX6_liesToAll 8 = .ok (.aload_n 0, 1) := by decide +kernel
theorem dX6_liesToAll_9 : decode cX6_liesToAll 9 = .ok (.getfield 10, 3) := by decide +kernel
theorem dX6_liesToAll_12 : decode cX6_liesToAll 12 = .ok (.getfield 115, 3) := by decide +kernel
theorem dX6_liesToAll_15 : decode cX6_liesToAll 15 = .ok (.iconst 2, 1) := by decide +kernel
theorem dX6_liesToAll_16 : decode cX6_liesToAll 16 = .ok (.if_icmp .ge 5, 3) := by decide +kernel
theorem dX6_liesToAll_19 : decode cX6_liesToAll 19 = .ok (.iconst 0, 1) := by decide +kernel
theorem dX6_liesToAll_20 : decode cX6_liesToAll 20 = .ok (.ireturn, 1) := by decide +kernel
theorem dX6_liesToAll_21 : decode cX6_liesToAll 21 = .ok (.iconst 0, 1) := by decide +kernel
theorem dX6_liesToAll_22 : decode cX6_liesToAll 22 = .ok (.istore_n 2, 1) := by decide +kernel
theorem dX6_liesToAll_23 : decode cX6_liesToAll 23 = .ok (.iload_n 2, 1) := by decide +kernel
theorem dX6_liesToAll_24 : decode cX6_liesToAll 24 = .ok (.aload_n 0, 1) := by decide +kernel
theorem dX6_liesToAll_25 : decode cX6_liesToAll 25 = .ok (.getfield 10, 3) := by decide +kernel
theorem dX6_liesToAll_28 : decode cX6_liesToAll 28 = .ok (.getfield 115, 3) := by decide +kernel
theorem dX6_liesToAll_31 : decode cX6_liesToAll 31 = .ok (.if_icmp .ge 49, 3) := by decide +kernel
theorem dX6_liesToAll_34 : decode cX6_liesToAll 34 = .ok (.aload_n 0, 1) := by decide +kernel
theorem dX6_liesToAll_35 : decode cX6_liesToAll 35 = .ok (.getfield 10, 3) := by decide +kernel
theorem dX6_liesToAll_38 : decode cX6_liesToAll 38 = .ok (.getfield 119, 3) := by decide +kernel
theorem dX6_liesToAll_41 : decode cX6_liesToAll 41 = .ok (.iload_n 2, 1) := by decide +kernel
theorem dX6_liesToAll_42 : decode cX6_liesToAll 42 = .ok (.iaload, 1) := by decide +kernel
theorem dX6_liesToAll_43 : decode cX6_liesToAll 43 = .ok (.iconst 1, 1) := by decide +kernel
theorem dX6_liesToAll_44 : decode cX6_liesToAll 44 = .ok (.isub, 1) := by decide +kernel
theorem dX6_liesToAll_45 : decode cX6_liesToAll 45 = .ok (.istore_n 3, 1) := by decide +kernel
theorem dX6_liesToAll_46 : decode cX6_liesToAll 46 = .ok (.aload_n 0, 1) := by decide +kernel
theorem dX6_liesToAll_47 : decode cX6_liesToAll 47 = .ok (.getfield 10, 3) := by decide +kernel
theorem dX6_liesToAll_50 : decode cX6_liesToAll 50 = .ok (.getfield 125, 3) := by decide +kernel
theorem dX6_liesToAll_53 : decode cX6_liesToAll 53 = .ok (.iload_n 2, 1) := by decide +kernel
theorem dX6_liesToAll_54 : decode cX6_liesToAll 54 = .ok (.iaload, 1) := by decide +kernel
theorem dX6_liesToAll_55 : decode cX6_liesToAll 55 = .ok (.iconst 1, 1) := by decide +kernel
theorem dX6_liesToAll_56 : decode cX6_liesToAll 56 = .ok (.if_icmp .gt 16, 3) := by decide +kernel
theorem dX6_liesToAll_59 : decode cX6_liesToAll 59 = .ok (.iload_n 3, 1) := by decide +kernel
theorem dX6_liesToAll_60 : decode cX6_liesToAll 60 = .ok (.iconst 1, 1) := by decide +kernel
theorem dX6_liesToAll_61 : decode cX6_liesToAll 61 = .ok (.if_icmp .lt 11, 3) := by decide +kernel
theorem dX6_liesToAll_64 : decode cX6_liesToAll 64 = .ok (.iload_n 1, 1) := by decide +kernel
theorem dX6_liesToAll_65 : decode cX6_liesToAll 65 = .ok (.iconst 1, 1) := by decide +kernel
theorem dX6_liesToAll_66 : decode cX6_liesToAll 66 = .ok (.isub, 1) := by decide +kernel
theorem dX6_liesToAll_67 : decode cX6_liesToAll 67 = .ok (.iload_n 3, 1) := by decide +kernel
theorem dX6_liesToAll_68 : decode cX6_liesToAll 68 = .ok (.irem, 1) := by decide +kernel
theorem dX6_liesToAll_69 : decode cX6_liesToAll 69 = .ok (.ifCond .eq 5, 3) := by decide +kernel
theorem dX6_liesToAll_72 : decode cX6_liesToAll 72 = .ok (.iconst 0, 1) := by decide +kernel
theorem dX6_liesToAll_73 : decode cX6_liesToAll 73 = .ok (.ireturn, 1) := by decide +kernel
theorem dX6_liesToAll_74 : decode cX6_liesToAll 74 = .ok (.iinc 2 1, 3) := by decide +kernel
theorem dX6_liesToAll_77 : decode cX6_liesToAll 77 = .ok (.goto (-54), 3) := by decide +kernel
theorem dX6_liesToAll_80 : decode cX6_liesToAll 80 = .ok (.iconst 1, 1) := by decide +kernel
theorem dX6_liesToAll_81 : decode cX6_liesToAll 81 = .ok (.ireturn, 1) := by decide +kernel
set_option maxRecDepth 20000 in
theorem ggX6_findLiarsToTwo_X4_looksStrongly : GoodIn wsX6_findLiarsToTwo wsX4_looksStrongly := goodIn_r _ [8, 9, 10, 7, 11, 12, 13, 14, 15, 16, 17] (by decide +kernel) (by decide +kernel)
set_option maxRecDepth 20000 in
theorem gX6_findLiarsToTwo_X4_looksStrongly : GoodIn wsX6_findLiarsToTwo (va_wsS RX6 190 yX4_looksStrongly wsX4_looksStrongly) := goodIn_app (goodIn_of _ (by decide +kernel)) ggX6_findLiarsToTwo_X4_looksStrongly
set_option maxRecDepth 20000 in
theorem ggX6_findLiarsToTwo_X4_isPrime : GoodIn wsX6_findLiarsToTwo wsX4_isPrime := goodIn_r _ [20] (by decide +kernel) (by decide +kernel)
set_option maxRecDepth 20000 in
theorem gX6_findLiarsToTwo_X4_isPrime : GoodIn wsX6_findLiarsToTwo (va_wsS RX6 193 yX4_isPrime wsX4_isPrime) := goodIn_app (goodIn_of _ (by decide +kernel)) ggX6_findLiarsToTwo_X4_isPrime
theorem dX6_findLiarsToTwo_0 : decode cX6_findLiarsToTwo 0 = .ok (.aload_n 0, 1) := by decide +kernel
theorem dX6_findLiarsToTwo_1 : decode cX6_findLiarsToTwo 1 = .ok (.getfield 305, 3) := by decide +kernel
theorem dX6_findLiarsToTwo_4 : decode cX6_findLiarsToTwo 4 = .ok (.ifCond .eq 4, 3) := by decide +kernel
theorem dX6_findLiarsToTwo_7 : decode cX6_findLiarsToTwo 7 = .ok (.return_, 1) := by decide +kernel
theorem dX6_findLiarsToTwo_8 : decode cX6_findLiarsToTwo 8 = .ok (.bipush 9, 2) := by decide +kernel
theorem dX6_findLiarsToTwo_10 : decode cX6_findLiarsToTwo 10 = .ok (.istore_n 1, 1) := by decide +kernel
theorem dX6_findLiarsToTwo_11 : decode cX6_findLiarsToTwo 11 = .ok (.iload_n 1, 1) := by decide +kernel
theorem dX6_findLiarsToTwo_12 : decode cX6_findLiarsToTwo 12 = .ok (.ldc 208, 2) := by decide +kernel
theorem dX6_findLiarsToTwo_14 : decode cX6_findLiarsToTwo 14 = .ok (.if_icmp .gt 56, 3) := by decide +kernel
theorem dX6_findLiarsToTwo_17 : decode cX6_findLiarsToTwo 17 = .ok (.iload_n 1, 1) := by decide +kernel
theorem dX6_findLiarsToTwo_18 : decode cX6_findLiarsToTwo 18 = .ok (.iconst 2, 1) := by decide +kernel
theorem dX6_findLiarsToTwo_19 : decode cX6_findLiarsToTwo 19 = .ok (.invokestatic 190, 3) := by decide +kernel
theorem dX6_findLiarsToTwo_22 : decode cX6_findLiarsToTwo 22 = .ok (.ifCond .eq 42, 3) := by decide +kernel
theorem dX6_findLiarsToTwo_25 : decode cX6_findLiarsToTwo 25 = .ok (.iload_n 1, 1) := by decide +kernel
theorem dX6_findLiarsToTwo_26 : decode cX6_findLiarsToTwo 26 = .ok (.invokestatic 193, 3) := by decide +kernel
theorem dX6_findLiarsToTwo_29 : decode cX6_findLiarsToTwo 29 = .ok (.ifCond .ne 35, 3) := by decide +kernel
theorem dX6_findLiarsToTwo_32 : decode cX6_findLiarsToTwo 32 = .ok (.aload_n 0, 1) := by decide +kernel
theorem dX6_findLiarsToTwo_33 : decode cX6_findLiarsToTwo 33 = .ok (.getfield 212, 3) := by decide +kernel
theorem dX6_findLiarsToTwo_36 : decode cX6_findLiarsToTwo 36 = .ok (.aload_n 0, 1) := by decide +kernel
theorem dX6_findLiarsToTwo_37 : decode cX6_findLiarsToTwo 37 = .ok (.getfield 51, 3) := by decide +kernel
theorem dX6_findLiarsToTwo_40 : decode cX6_findLiarsToTwo 40 = .ok (.arraylength, 1) := by decide +kernel
theorem dX6_findLiarsToTwo_41 : decode cX6_findLiarsToTwo 41 = .ok (.if_icmp .ge 23, 3) := by decide +kernel
theorem dX6_findLiarsToTwo_44 : decode cX6_findLiarsToTwo 44 = .ok (.aload_n 0, 1) := by decide +kernel
theorem dX6_findLiarsToTwo_45 : decode cX6_findLiarsToTwo 45 = .ok (.getfield 51, 3) := by decide +kernel
theorem dX6_findLiarsToTwo_48 : decode cX6_findLiarsToTwo 48 = .ok (.aload_n 0, 1) := by decide +kernel
theorem dX6_findLiarsToTwo_49 : decode cX6_findLiarsToTwo 49 = .ok (.getfield 212, 3) := by decide +kernel
theorem dX6_findLiarsToTwo_52 : decode cX6_findLiarsToTwo 52 = .ok (.iload_n 1, 1) := by decide +kernel
theorem dX6_findLiarsToTwo_53 : decode cX6_findLiarsToTwo 53 = .ok (.iastore, 1) := by decide +kernel
theorem dX6_findLiarsToTwo_54 : decode cX6_findLiarsToTwo 54 = .ok (.aload_n 0, 1) := by decide +kernel
theorem dX6_findLiarsToTwo_55 : decode cX6_findLiarsToTwo 55 = .ok (.dup, 1) := by decide +kernel
theorem dX6_findLiarsToTwo_56 : decode cX6_findLiarsToTwo 56 = .ok (.getfield 212, 3) := by decide +kernel
theorem dX6_findLiarsToTwo_59 : decode cX6_findLiarsToTwo 59 = .ok (.iconst 1, 1) := by decide +kernel
theorem dX6_findLiarsToTwo_60 : decode cX6_findLiarsToTwo 60 = .ok (.iadd, 1) := by decide +kernel
theorem dX6_findLiarsToTwo_61 : decode cX6_findLiarsToTwo 61 = .ok (.putfield 212, 3) := by decide +kernel
theorem dX6_findLiarsToTwo_64 : decode cX6_findLiarsToTwo 64 = .ok (.iinc 1 2, 3) := by decide +kernel
theorem dX6_findLiarsToTwo_67 : decode cX6_findLiarsToTwo 67 = .ok (.goto (-56), 3) := by decide +kernel
theorem dX6_findLiarsToTwo_70 : decode cX6_findLiarsToTwo 70 = .ok (.aload_n 0, 1) := by decide +kernel
theorem dX6_findLiarsToTwo_71 : decode cX6_findLiarsToTwo 71 = .ok (.iconst 1, 1) := by decide +kernel
theorem dX6_findLiarsToTwo_72 : decode cX6_findLiarsToTwo 72 = .ok (.putfield 305, 3) := by decide +kernel
theorem dX6_findLiarsToTwo_75 : decode cX6_findLiarsToTwo 75 = .ok (.return_, 1) := by decide +kernel
set_option maxRecDepth 20000 in
theorem ggX6_looksStronglyUpTo_X4_looksStrongly : GoodIn wsX6_looksStronglyUpTo wsX4_looksStrongly := goodIn_r _ [4, 5, 6, 3, 7, 8, 9, 10, 11, 12, 13] (by decide +kernel) (by decide +kernel)
set_option maxRecDepth 20000 in
theorem gX6_looksStronglyUpTo_X4_looksStrongly : GoodIn wsX6_looksStronglyUpTo (va_wsS RX6 190 yX4_looksStrongly wsX4_looksStrongly) := goodIn_app (goodIn_of _ (by decide +kernel)) ggX6_looksStronglyUpTo_X4_looksStrongly
theorem dX6_looksStronglyUpTo_0 : decode cX6_looksStronglyUpTo 0 = .ok (.iconst 3, 1) := by decide +kernel
theorem dX6_looksStronglyUpTo_1 : decode cX6_looksStronglyUpTo 1 = .ok (.istore_n 2, 1) := by decide +kernel
theorem dX6_looksStronglyUpTo_2 : decode cX6_looksStronglyUpTo 2 = .ok (.iload_n 2, 1) := by decide +kernel
theorem dX6_looksStronglyUpTo_3 : decode cX6_looksStronglyUpTo 3 = .ok (.iload_n 1, 1) := by decide +kernel
theorem dX6_looksStronglyUpTo_4 : decode cX6_looksStronglyUpTo 4 = .ok (.if_icmp .gt 19, 3) := by decide +kernel
theorem dX6_looksStronglyUpTo_7 : decode cX6_looksStronglyUpTo 7 = .ok (.iload_n 0, 1) := by decide +kernel
theorem dX6_looksStronglyUpTo_8 : decode cX6_looksStronglyUpTo 8 = .ok (.iload_n 2, 1) := by decide +kernel
theorem dX6_looksStronglyUpTo_9 : decode cX6_looksStronglyUpTo 9 = .ok (.invokestatic 190, 3) := by decide +kernel
theorem dX6_looksStronglyUpTo_12 : decode cX6_looksStronglyUpTo 12 = .ok (.ifCond .ne 5, 3) := by decide +kernel
theorem dX6_looksStronglyUpTo_15 : decode cX6_looksStronglyUpTo 15 = .ok (.iconst 0, 1) := by decide +kernel
theorem dX6_looksStronglyUpTo_16 : decode cX6_looksStronglyUpTo 16 = .ok (.ireturn, 1) := by decide +kernel
theorem dX6_looksStronglyUpTo_17 : decode cX6_looksStronglyUpTo 17 = .ok (.iinc 2 1, 3) := by decide +kernel
theorem dX6_looksStronglyUpTo_20 : decode cX6_looksStronglyUpTo 20 = .ok (.goto (-18), 3) := by decide +kernel
theorem dX6_looksStronglyUpTo_23 : decode cX6_looksStronglyUpTo 23 = .ok (.iconst 1, 1) := by decide +kernel
theorem dX6_looksStronglyUpTo_24 : decode cX6_looksStronglyUpTo 24 = .ok (.ireturn, 1) := by decide +kernel
set_option maxRecDepth 20000 in
theorem ggX6_aheadOf_X6_partBeside : GoodIn wsX6_aheadOf wsX6_partBeside := goodIn_r _ [4, 5, 6, 7, 8] (by decide +kernel) (by decide +kernel)
set_option maxRecDepth 20000 in
theorem gX6_aheadOf_X6_partBeside : GoodIn wsX6_aheadOf (va_wsS RX6 309 yX6_partBeside wsX6_partBeside) := goodIn_app (goodIn_of _ (by decide +kernel)) ggX6_aheadOf_X6_partBeside
set_option maxRecDepth 20000 in
theorem ggX6_aheadOf_X4_raise : GoodIn wsX6_aheadOf wsX4_raise := goodIn_r _ [11] (by decide +kernel) (by decide +kernel)
set_option maxRecDepth 20000 in
theorem gX6_aheadOf_X4_raise : GoodIn wsX6_aheadOf (va_wsS RX6 94 yX4_raise wsX4_raise) := goodIn_app (goodIn_of _ (by decide +kernel)) ggX6_aheadOf_X4_raise
theorem dX6_aheadOf_0 : decode cX6_aheadOf 0 = .ok (.iload_n 0, 1) := by decide +kernel
theorem dX6_aheadOf_1 : decode cX6_aheadOf 1 = .ok (.iload_n 1, 1) := by decide +kernel
theorem dX6_aheadOf_2 : decode cX6_aheadOf 2 = .ok (.invokestatic 309, 3) := by decide +kernel
theorem dX6_aheadOf_5 : decode cX6_aheadOf 5 = .ok (.istore_n 2, 1) := by decide +kernel
theorem dX6_aheadOf_6 : decode cX6_aheadOf 6 = .ok (.iload_n 2, 1) := by decide +kernel
theorem dX6_aheadOf_7 : decode cX6_aheadOf 7 = .ok (.iconst 1, 1) := by decide +kernel
theorem dX6_aheadOf_8 : decode cX6_aheadOf 8 = .ok (.if_icmp .ge 7, 3) := by decide +kernel
theorem dX6_aheadOf_11 : decode cX6_aheadOf 11 = .ok (.iconst 1, 1) := by decide +kernel
theorem dX6_aheadOf_12 : decode cX6_aheadOf 12 = .ok (.goto 6, 3) := by decide +kernel
theorem dX6_aheadOf_15 : decode cX6_aheadOf 15 = .ok (.iload_n 1, 1) := by decide +kernel
theorem dX6_aheadOf_16 : decode cX6_aheadOf 16 = .ok (.iload_n 2, 1) := by decide +kernel
theorem dX6_aheadOf_17 : decode cX6_aheadOf 17 = .ok (.idiv, 1) := by decide +kernel
theorem dX6_aheadOf_18 : decode cX6_aheadOf 18 = .ok (.istore_n 3, 1) := by decide +kernel
theorem dX6_aheadOf_19 : decode cX6_aheadOf 19 = .ok (.iconst 0, 1) := by decide +kernel
theorem dX6_aheadOf_20 : decode cX6_aheadOf 20 = .ok (.istore 4, 2) := by decide +kernel
theorem dX6_aheadOf_22 : decode cX6_aheadOf 22 = .ok (.iload 4, 2) := by decide +kernel
theorem dX6_aheadOf_24 : decode cX6_aheadOf 24 = .ok (.bipush 32, 2) := by decide +kernel
theorem dX6_aheadOf_26 : decode cX6_aheadOf 26 = .ok (.if_icmp .ge 24, 3) := by decide +kernel
theorem dX6_aheadOf_29 : decode cX6_aheadOf 29 = .ok (.iload_n 0, 1) := by decide +kernel
theorem dX6_aheadOf_30 : decode cX6_aheadOf 30 = .ok (.i2l, 1) := by decide +kernel
theorem dX6_aheadOf_31 : decode cX6_aheadOf 31 = .ok (.iload 4, 2) := by decide +kernel
theorem dX6_aheadOf_33 : decode cX6_aheadOf 33 = .ok (.i2l, 1) := by decide +kernel
theorem dX6_aheadOf_34 : decode cX6_aheadOf 34 = .ok (.iload_n 3, 1) := by decide +kernel
theorem dX6_aheadOf_35 : decode cX6_aheadOf 35 = .ok (.invokestatic 94, 3) := by decide +kernel
theorem dX6_aheadOf_38 : decode cX6_aheadOf 38 = .ok (.ifCond .ne 6, 3) := by decide +kernel
theorem dX6_aheadOf_41 : decode cX6_aheadOf 41 = .ok (.iload 4, 2) := by decide +kernel
theorem dX6_aheadOf_43 : decode cX6_aheadOf 43 = .ok (.ireturn, 1) := by decide +kernel
theorem dX6_aheadOf_44 : decode cX6_aheadOf 44 = .ok (.iinc 4 1, 3) := by decide +kernel
theorem dX6_aheadOf_47 : decode cX6_aheadOf 47 = .ok (.goto (-25), 3) := by decide +kernel
theorem dX6_aheadOf_50 : decode cX6_aheadOf 50 = .ok (.bipush 32, 2) := by decide +kernel
theorem dX6_aheadOf_52 : decode cX6_aheadOf 52 = .ok (.ireturn, 1) := by decide +kernel
set_option maxRecDepth 20000 in
theorem ggX6_partBeside_X4_commonDivisor : GoodIn wsX6_partBeside wsX4_commonDivisor := goodIn_r _ [4] (by decide +kernel) (by decide +kernel)
set_option maxRecDepth 20000 in
theorem gX6_partBeside_X4_commonDivisor : GoodIn wsX6_partBeside (va_wsS RX6 267 yX4_commonDivisor wsX4_commonDivisor) := goodIn_app (goodIn_of _ (by decide +kernel)) ggX6_partBeside_X4_commonDivisor
theorem dX6_partBeside_0 : decode cX6_partBeside 0 = .ok (.iload_n 1, 1) := by decide +kernel
theorem dX6_partBeside_1 : decode cX6_partBeside 1 = .ok (.istore_n 2, 1) := by decide +kernel
theorem dX6_partBeside_2 : decode cX6_partBeside 2 = .ok (.iconst 0, 1) := by decide +kernel
theorem dX6_partBeside_3 : decode cX6_partBeside 3 = .ok (.istore_n 3, 1) := by decide +kernel
theorem dX6_partBeside_4 : decode cX6_partBeside 4 = .ok (.iload_n 3, 1) := by decide +kernel
theorem dX6_partBeside_5 : decode cX6_partBeside 5 = .ok (.bipush 32, 2) := by decide +kernel
theorem dX6_partBeside_7 : decode cX6_partBeside 7 = .ok (.if_icmp .ge 29, 3) := by decide +kernel
theorem dX6_partBeside_10 : decode cX6_partBeside 10 = .ok (.iload_n 2, 1) := by decide +kernel
theorem dX6_partBeside_11 : decode cX6_partBeside 11 = .ok (.iload_n 0, 1) := by decide +kernel
theorem dX6_partBeside_12 : decode cX6_partBeside 12 = .ok (.invokestatic 267, 3) := by decide +kernel
theorem dX6_partBeside_15 : decode cX6_partBeside 15 = .ok (.istore 4, 2) := by decide +kernel
theorem dX6_partBeside_17 : decode cX6_partBeside 17 = .ok (.iload 4, 2) := by decide +kernel
theorem dX6_partBeside_19 : decode cX6_partBeside 19 = .ok (.iconst 2, 1) := by decide +kernel
theorem dX6_partBeside_20 : decode cX6_partBeside 20 = .ok (.if_icmp .ge 5, 3) := by decide +kernel
theorem dX6_partBeside_23 : decode cX6_partBeside 23 = .ok (.iload_n 2, 1) := by decide +kernel
theorem dX6_partBeside_24 : decode cX6_partBeside 24 = .ok (.ireturn, 1) := by decide +kernel
theorem dX6_partBeside_25 : decode cX6_partBeside 25 = .ok (.iload_n 2, 1) := by decide +kernel
theorem dX6_partBeside_26 : decode cX6_partBeside 26 = .ok (.iload 4, 2) := by decide +kernel
theorem dX6_partBeside_28 : decode cX6_partBeside 28 = .ok (.idiv, 1) := by decide +kernel
theorem dX6_partBeside_29 : decode cX6_partBeside 29 = .ok (.istore_n 2, 1) := by decide +kernel
theorem dX6_partBeside_30 : decode cX6_partBeside 30 = .ok (.iinc 3 1, 3) := by decide +kernel
theorem dX6_partBeside_33 : decode cX6_partBeside 33 = .ok (.goto (-29), 3) := by decide +kernel
theorem dX6_partBeside_36 : decode cX6_partBeside 36 = .ok (.iload_n 2, 1) := by decide +kernel
theorem dX6_partBeside_37 : decode cX6_partBeside 37 = .ok (.ireturn, 1) := by decide +kernel
set_option maxRecDepth 20000 in
theorem ggX6_roundOf_X6_partBeside : GoodIn wsX6_roundOf wsX6_partBeside := goodIn_r _ [4, 5, 6, 7, 8] (by decide +kernel) (by decide +kernel)
set_option maxRecDepth 20000 in
theorem gX6_roundOf_X6_partBeside : GoodIn wsX6_roundOf (va_wsS RX6 309 yX6_partBeside wsX6_partBeside) := goodIn_app (goodIn_of _ (by decide +kernel)) ggX6_roundOf_X6_partBeside
set_option maxRecDepth 20000 in
theorem ggX6_roundOf_X6_leastExponent : GoodIn wsX6_roundOf wsX6_leastExponent := goodIn_r _ [12, 13, 14, 15, 16, 17, 18, 19, 20, 21, 22, 23, 24, 25, 26, 27, 28, 29, 30, 31, 32, 33, 34, 35, 36, 37, 38, 39, 40, 7, 41, 42, 6, 8, 43, 44, 45, 46, 47, 48, 49, 50, 51, 52, 53, 54, 55, 56, 57, 58] (by decide +kernel) (by decide +kernel)
set_option maxRecDepth 20000 in
theorem gX6_roundOf_X6_leastExponent : GoodIn wsX6_roundOf (wsV RX6 73 RX6 yX6_leastExponent wsX6_leastExponent) := goodIn_app (goodIn_of _ (by decide +kernel)) ggX6_roundOf_X6_leastExponent
theorem dX6_roundOf_0 : decode cX6_roundOf 0 = .ok (.iload_n 1, 1) := by decide +kernel
theorem dX6_roundOf_1 : decode cX6_roundOf 1 = .ok (.iload_n 2, 1) := by decide +kernel
theorem dX6_roundOf_2 : decode cX6_roundOf 2 = .ok (.invokestatic 309, 3) := by decide +kernel
theorem dX6_roundOf_5 : decode cX6_roundOf 5 = .ok (.istore_n 3, 1) := by decide +kernel
theorem dX6_roundOf_6 : decode cX6_roundOf 6 = .ok (.iload_n 3, 1) := by decide +kernel
theorem dX6_roundOf_7 : decode cX6_roundOf 7 = .ok (.iconst 1, 1) := by decide +kernel
theorem dX6_roundOf_8 : decode cX6_roundOf 8 = .ok (.if_icmp .ne 7, 3) := by decide +kernel
theorem dX6_roundOf_11 : decode cX6_roundOf 11 = .ok (.iconst 0, 1) := by decide +kernel
theorem dX6_roundOf_12 : decode cX6_roundOf 12 = .ok (.goto 9, 3) := by decide +kernel
theorem dX6_roundOf_15 : decode cX6_roundOf 15 = .ok (.aload_n 0, 1) := by decide +kernel
theorem dX6_roundOf_16 : decode cX6_roundOf 16 = .ok (.iload_n 1, 1) := by decide +kernel
theorem dX6_roundOf_17 : decode cX6_roundOf 17 = .ok (.iload_n 3, 1) := by decide +kernel
theorem dX6_roundOf_18 : decode cX6_roundOf 18 = .ok (.invokevirtual 73, 3) := by decide +kernel
theorem dX6_roundOf_21 : decode cX6_roundOf 21 = .ok (.ireturn, 1) := by decide +kernel
set_option maxRecDepth 20000 in
theorem ggX6_hasRound_X6_partBeside : GoodIn wsX6_hasRound wsX6_partBeside := goodIn_r _ [4, 5, 6, 7, 8] (by decide +kernel) (by decide +kernel)
set_option maxRecDepth 20000 in
theorem gX6_hasRound_X6_partBeside : GoodIn wsX6_hasRound (va_wsS RX6 309 yX6_partBeside wsX6_partBeside) := goodIn_app (goodIn_of _ (by decide +kernel)) ggX6_hasRound_X6_partBeside
set_option maxRecDepth 20000 in
theorem ggX6_hasRound_X6_hasOrder : GoodIn wsX6_hasRound wsX6_hasOrder := goodIn_r _ [12, 13, 14, 15, 7, 16, 17, 18, 19, 20, 21, 22, 23, 24, 25, 26, 27, 28, 29] (by decide +kernel) (by decide +kernel)
set_option maxRecDepth 20000 in
theorem gX6_hasRound_X6_hasOrder : GoodIn wsX6_hasRound (wsV RX6 283 RX6 yX6_hasOrder wsX6_hasOrder) := goodIn_app (goodIn_of _ (by decide +kernel)) ggX6_hasRound_X6_hasOrder
theorem dX6_hasRound_0 : decode cX6_hasRound 0 = .ok (.iload_n 1, 1) := by decide +kernel
theorem dX6_hasRound_1 : decode cX6_hasRound 1 = .ok (.iload_n 2, 1) := by decide +kernel
theorem dX6_hasRound_2 : decode cX6_hasRound 2 = .ok (.invokestatic 309, 3) := by decide +kernel
theorem dX6_hasRound_5 : decode cX6_hasRound 5 = .ok (.istore 4, 2) := by decide +kernel
theorem dX6_hasRound_7 : decode cX6_hasRound 7 = .ok (.iload 4, 2) := by decide +kernel
theorem dX6_hasRound_9 : decode cX6_hasRound 9 = .ok (.iconst 1, 1) := by decide +kernel
theorem dX6_hasRound_10 : decode cX6_hasRound 10 = .ok (.if_icmp .eq 7, 3) := by decide +kernel
theorem dX6_hasRound_13 : decode cX6_hasRound 13 = .ok (.iload_n 3, 1) := by decide +kernel
theorem dX6_hasRound_14 : decode cX6_hasRound 14 = .ok (.ifCond .ne 19, 3) := by decide +kernel
theorem dX6_hasRound_17 : decode cX6_hasRound 17 = .ok (.iload 4, 2) := by decide +kernel
theorem dX6_hasRound_19 : decode cX6_hasRound 19 = .ok (.iconst 1, 1) := by decide +kernel
theorem dX6_hasRound_20 : decode cX6_hasRound 20 = .ok (.if_icmp .ne 11, 3) := by decide +kernel
theorem dX6_hasRound_23 : decode cX6_hasRound 23 = .ok (.iload_n 3, 1) := by decide +kernel
theorem dX6_hasRound_24 : decode cX6_hasRound 24 = .ok (.ifCond .ne 7, 3) := by decide +kernel
theorem dX6_hasRound_27 : decode cX6_hasRound 27 = .ok (.iconst 1, 1) := by decide +kernel
theorem dX6_hasRound_28 : decode cX6_hasRound 28 = .ok (.goto 4, 3) := by decide +kernel
theorem dX6_hasRound_31 : decode cX6_hasRound 31 = .ok (.iconst 0, 1) := by decide +kernel
theorem dX6_hasRound_32 : decode cX6_hasRound 32 = .ok (.ireturn, 1) := by decide +kernel
theorem dX6_hasRound_33 : decode cX6_hasRound 33 = .ok (.aload_n 0, 1) := by decide +kernel
theorem dX6_hasRound_34 : decode cX6_hasRound 34 = .ok (.iload_n 1, 1) := by decide +kernel
theorem dX6_hasRound_35 : decode cX6_hasRound 35 = .ok (.iload_n 3, 1) := by decide +kernel
theorem dX6_hasRound_36 : decode cX6_hasRound 36 = .ok (.iload 4, 2) := by decide +kernel
theorem dX6_hasRound_38 : decode cX6_hasRound 38 = .ok (.invokevirtual 283, 3) := by decide +kernel
theorem dX6_hasRound_41 : decode cX6_hasRound 41 = .ok (.ireturn, 1) := by decide +kernel
theorem dX6_towerNumber_0 : decode cX6_towerNumber 0 = .ok (.lload_n 2, 1) := by decide +kernel
theorem dX6_towerNumber_1 : decode cX6_towerNumber 1 = .ok (.bipush 10, 2) := by decide +kernel
theorem dX6_towerNumber_3 : decode cX6_towerNumber 3 = .ok (.iload_n 1, 1) := by decide +kernel
theorem dX6_towerNumber_4 : decode cX6_towerNumber 4 = .ok (.iconst 1, 1) := by decide +kernel
theorem dX6_towerNumber_5 : decode cX6_towerNumber 5 = .ok (.isub, 1) := by decide +kernel
theorem dX6_towerNumber_6 : decode cX6_towerNumber 6 = .ok (.iload_n 0, 1) := by decide +kernel
theorem dX6_towerNumber_7 : decode cX6_towerNumber 7 = .ok (.isub, 1) := by decide +kernel
theorem dX6_towerNumber_8 : decode cX6_towerNumber 8 = .ok (.imul, 1) := by decide +kernel
theorem dX6_towerNumber_9 : decode cX6_towerNumber 9 = .ok (.lushr, 1) := by decide +kernel
theorem dX6_towerNumber_10 : decode cX6_towerNumber 10 = .ok (.l2i, 1) := by decide +kernel
theorem dX6_towerNumber_11 : decode cX6_towerNumber 11 = .ok (.sipush 1023, 3) := by decide +kernel
theorem dX6_towerNumber_14 : decode cX6_towerNumber 14 = .ok (.iand, 1) := by decide +kernel
theorem dX6_towerNumber_15 : decode cX6_towerNumber 15 = .ok (.ireturn, 1) := by decide +kernel
set_option maxRecDepth 20000 in
theorem ggX6_towerRest_X6_findSizes : GoodIn wsX6_towerRest wsX6_findSizes := goodIn_r _ [7, 1, 8, 9, 10, 11, 12, 13, 14, 15, 16, 17, 18, 19, 20, 21, 22, 23, 24, 25, 26, 27, 28, 43, 44, 45, 46, 47, 48, 49, 50, 51, 52, 53, 54, 55] (by decide +kernel) (by decide +kernel)
set_option maxRecDepth 20000 in
theorem gX6_towerRest_X6_findSizes : GoodIn wsX6_towerRest (wsV RX6 312 RX6 yX6_findSizes wsX6_findSizes) := goodIn_app (goodIn_of _ (by decide +kernel)) ggX6_towerRest_X6_findSizes
set_option maxRecDepth 20000 in
theorem ggX6_towerRest_X6_towerNumber : GoodIn wsX6_towerRest wsX6_towerNumber := goodIn_r _ [31] (by decide +kernel) (by decide +kernel)
set_option maxRecDepth 20000 in
theorem gX6_towerRest_X6_towerNumber : GoodIn wsX6_towerRest (va_wsS RX6 231 yX6_towerNumber wsX6_towerNumber) := goodIn_app (goodIn_of _ (by decide +kernel)) ggX6_towerRest_X6_towerNumber
set_option maxRecDepth 20000 in
theorem ggX6_towerRest_X4_raise : GoodIn wsX6_towerRest wsX4_raise := goodIn_r _ [35] (by decide +kernel) (by decide +kernel)
set_option maxRecDepth 20000 in
theorem gX6_towerRest_X4_raise : GoodIn wsX6_towerRest (va_wsS RX6 94 yX4_raise wsX4_raise) := goodIn_app (goodIn_of _ (by decide +kernel)) ggX6_towerRest_X4_raise
set_option maxRecDepth 20000 in
theorem ggX6_towerRest_X6_powerBelowHigh : GoodIn wsX6_towerRest wsX6_powerBelowHigh := goodIn_r _ [38, 2, 39, 40, 41, 42] (by decide +kernel) (by decide +kernel)
set_option maxRecDepth 20000 in
theorem gX6_towerRest_X6_powerBelowHigh : GoodIn wsX6_towerRest (va_wsS RX6 317 yX6_powerBelowHigh wsX6_powerBelowHigh) := goodIn_app (goodIn_of _ (by decide +kernel)) ggX6_towerRest_X6_powerBelowHigh
theorem dX6_towerRest_0 : decode cX6_towerRest 0 = .ok (.aload_n 0, 1) := by decide +kernel
theorem dX6_towerRest_1 : decode cX6_towerRest 1 = .ok (.iload_n 1, 1) := by decide +kernel
theorem dX6_towerRest_2 : decode cX6_towerRest 2 = .ok (.iload 4, 2) := by decide +kernel
theorem dX6_towerRest_4 : decode cX6_towerRest 4 = .ok (.invokevirtual 312, 3) := by decide +kernel
theorem dX6_towerRest_7 : decode cX6_towerRest 7 = .ok (.iconst 1, 1) := by decide +kernel
theorem dX6_towerRest_8 : decode cX6_towerRest 8 = .ok (.istore 5, 2) := by decide +kernel
theorem dX6_towerRest_10 : decode cX6_towerRest 10 = .ok (.lconst 1, 1) := by decide +kernel
theorem dX6_towerRest_11 : decode cX6_towerRest 11 = .ok (.lstore 6, 2) := by decide +kernel
theorem dX6_towerRest_13 : decode cX6_towerRest 13 = .ok (.iload_n 1, 1) := by decide +kernel
theorem dX6_towerRest_14 : decode cX6_towerRest 14 = .ok (.iconst 1, 1) := by decide +kernel
theorem dX6_towerRest_15 : decode cX6_towerRest 15 = .ok (.isub, 1) := by decide +kernel
theorem dX6_towerRest_16 : decode cX6_towerRest 16 = .ok (.istore 8, 2) := by decide +kernel
theorem dX6_towerRest_18 : decode cX6_towerRest 18 = .ok (.iload 8, 2) := by decide +kernel
theorem dX6_towerRest_20 : decode cX6_towerRest 20 = .ok (.ifCond .lt 86, 3) := by decide +kernel
theorem dX6_towerRest_23 : decode cX6_towerRest 23 = .ok (.iload 8, 2) := by decide +kernel
theorem dX6_towerRest_25 : decode cX6_towerRest 25 = .ok (.iconst 1, 1) := by decide +kernel
theorem dX6_towerRest_26 : decode cX6_towerRest 26 = .ok (.iadd, 1) := by decide +kernel
theorem dX6_towerRest_27 : decode cX6_towerRest 27 = .ok (.aload_n 0, 1) := by decide +kernel
theorem dX6_towerRest_28 : decode cX6_towerRest 28 = .ok (.getfield 47, 3) := by decide +kernel
theorem dX6_towerRest_31 : decode cX6_towerRest 31 = .ok (.arraylength, 1) := by decide +kernel
theorem dX6_towerRest_32 : decode cX6_towerRest 32 = .ok (.if_icmp .ge 74, 3) := by decide +kernel
theorem dX6_towerRest_35 : decode cX6_towerRest 35 = .ok (.iload 8, 2) := by decide +kernel
theorem dX6_towerRest_37 : decode cX6_towerRest 37 = .ok (.iload_n 1, 1) := by decide +kernel
theorem dX6_towerRest_38 : decode cX6_towerRest 38 = .ok (.lload_n 2, 1) := by decide +kernel
theorem dX6_towerRest_39 : decode cX6_towerRest 39 = .ok (.invokestatic 231, 3) := by decide +kernel
theorem dX6_towerRest_42 : decode cX6_towerRest 42 = .ok (.istore 9, 2) := by decide +kernel
theorem dX6_towerRest_44 : decode cX6_towerRest 44 = .ok (.lload 6, 2) := by decide +kernel
theorem dX6_towerRest_46 : decode cX6_towerRest 46 = .ok (.ldc2_w 315, 3) := by decide +kernel
theorem dX6_towerRest_49 : decode cX6_towerRest 49 = .ok (.lcmp, 1) := by decide +kernel
theorem dX6_towerRest_50 : decode cX6_towerRest 50 = .ok (.ifCond .ge 8, 3) := by decide +kernel
theorem dX6_towerRest_53 : decode cX6_towerRest 53 = .ok (.lload 6, 2) := by decide +kernel
theorem dX6_towerRest_55 : decode cX6_towerRest 55 = .ok (.goto 17, 3) := by decide +kernel
theorem dX6_towerRest_58 : decode cX6_towerRest 58 = .ok (.iload 5, 2) := by decide +kernel
theorem dX6_towerRest_60 : decode cX6_towerRest 60 = .ok (.i2l, 1) := by decide +kernel
theorem dX6_towerRest_61 : decode cX6_towerRest 61 = .ok (.aload_n 0, 1) := by decide +kernel
theorem dX6_towerRest_62 : decode cX6_towerRest 62 = .ok (.getfield 47, 3) := by decide +kernel
theorem dX6_towerRest_65 : decode cX6_towerRest 65 = .ok (.iload 8, 2) := by decide +kernel
theorem dX6_towerRest_67 : decode cX6_towerRest 67 = .ok (.iconst 1, 1) := by decide +kernel
theorem dX6_towerRest_68 : decode cX6_towerRest 68 = .ok (.iadd, 1) := by decide +kernel
theorem dX6_towerRest_69 : decode cX6_towerRest 69 = .ok (.iaload, 1) := by decide +kernel
theorem dX6_towerRest_70 : decode cX6_towerRest 70 = .ok (.i2l, 1) := by decide +kernel
theorem dX6_towerRest_71 : decode cX6_towerRest 71 = .ok (.ladd, 1) := by decide +kernel
theorem dX6_towerRest_72 : decode cX6_towerRest 72 = .ok (.lstore 10, 2) := by decide +kernel
theorem dX6_towerRest_74 : decode cX6_towerRest 74 = .ok (.iload 9, 2) := by decide +kernel
theorem dX6_towerRest_76 : decode cX6_towerRest 76 = .ok (.i2l, 1) := by decide +kernel
theorem dX6_towerRest_77 : decode cX6_towerRest 77 = .ok (.lload 10, 2) := by decide +kernel
theorem dX6_towerRest_79 : decode cX6_towerRest 79 = .ok (.aload_n 0, 1) := by decide +kernel
theorem dX6_towerRest_80 : decode cX6_towerRest 80 = .ok (.getfield 47, 3) := by decide +kernel
theorem dX6_towerRest_83 : decode cX6_towerRest 83 = .ok (.iload 8, 2) := by decide +kernel
theorem dX6_towerRest_85 : decode cX6_towerRest 85 = .ok (.iaload, 1) := by decide +kernel
theorem dX6_towerRest_86 : decode cX6_towerRest 86 = .ok (.invokestatic 94, 3) := by decide +kernel
theorem dX6_towerRest_89 : decode cX6_towerRest 89 = .ok (.istore 5, 2) := by decide +kernel
theorem dX6_towerRest_91 : decode cX6_towerRest 91 = .ok (.iload 9, 2) := by decide +kernel
theorem dX6_towerRest_93 : decode cX6_towerRest 93 = .ok (.lload 6, 2) := by decide +kernel
theorem dX6_towerRest_95 : decode cX6_towerRest 95 = .ok (.invokestatic 317, 3) := by decide +kernel
theorem dX6_towerRest_98 : decode cX6_towerRest 98 = .ok (.lstore 6, 2) := by decide +kernel
theorem dX6_towerRest_100 : decode cX6_towerRest 100 = .ok (.iinc 8 (-1), 3) := by decide +kernel
theorem dX6_towerRest_103 : decode cX6_towerRest 103 = .ok (.goto (-85), 3) := by decide +kernel
theorem dX6_towerRest_106 : decode cX6_towerRest 106 = .ok (.iload 5, 2) := by decide +kernel
theorem dX6_towerRest_108 : decode cX6_towerRest 108 = .ok (.ireturn, 1) := by decide +kernel
set_option maxRecDepth 20000 in
theorem ggX6_findSizes_X0_split : GoodIn wsX6_findSizes wsX0_split := goodIn_r _ [7, 8, 9, 10, 11, 6, 12, 13, 14, 33, 34, 35] (by decide +kernel) (by decide +kernel)
set_option maxRecDepth 20000 in
theorem gX6_findSizes_X0_split : GoodIn wsX6_findSizes (wsV RX6 58 RX0 yX0_split wsX0_split) := goodIn_app (goodIn_of _ (by decide +kernel)) ggX6_findSizes_X0_split
set_option maxRecDepth 20000 in
theorem ggX6_findSizes_X0_unitCount : GoodIn wsX6_findSizes wsX0_unitCount := goodIn_r _ [18, 8, 19, 20, 21, 6, 22, 13, 14, 33, 34, 35] (by decide +kernel) (by decide +kernel)
set_option maxRecDepth 20000 in
theorem gX6_findSizes_X0_unitCount : GoodIn wsX6_findSizes (wsV RX6 62 RX0 yX0_unitCount wsX0_unitCount) := goodIn_app (goodIn_of _ (by decide +kernel)) ggX6_findSizes_X0_unitCount
theorem dX6_findSizes_0 : decode cX6_findSizes 0 = .ok (.iload_n 2, 1) := by decide +kernel
theorem dX6_findSizes_1 : decode cX6_findSizes 1 = .ok (.istore_n 3, 1) := by decide +kernel
theorem dX6_findSizes_2 : decode cX6_findSizes 2 = .ok (.iconst 0, 1) := by decide +kernel
theorem dX6_findSizes_3 : decode cX6_findSizes 3 = .ok (.istore 4, 2) := by decide +kernel
theorem dX6_findSizes_5 : decode cX6_findSizes 5 = .ok (.iload 4, 2) := by decide +kernel
theorem dX6_findSizes_7 : decode cX6_findSizes 7 = .ok (.iload_n 1, 1) := by decide +kernel
theorem dX6_findSizes_8 : decode cX6_findSizes 8 = .ok (.if_icmp .ge 43, 3) := by decide +kernel
theorem dX6_findSizes_11 : decode cX6_findSizes 11 = .ok (.iload 4, 2) := by decide +kernel
theorem dX6_findSizes_13 : decode cX6_findSizes 13 = .ok (.aload_n 0, 1) := by decide +kernel
theorem dX6_findSizes_14 : decode cX6_findSizes 14 = .ok (.getfield 47, 3) := by decide +kernel
theorem dX6_findSizes_17 : decode cX6_findSizes 17 = .ok (.arraylength, 1) := by decide +kernel
theorem dX6_findSizes_18 : decode cX6_findSizes 18 = .ok (.if_icmp .ge 33, 3) := by decide +kernel
theorem dX6_findSizes_21 : decode cX6_findSizes 21 = .ok (.aload_n 0, 1) := by decide +kernel
theorem dX6_findSizes_22 : decode cX6_findSizes 22 = .ok (.getfield 47, 3) := by decide +kernel
theorem dX6_findSizes_25 : decode cX6_findSizes 25 = .ok (.iload 4, 2) := by decide +kernel
theorem dX6_findSizes_27 : decode cX6_findSizes 27 = .ok (.iload_n 3, 1) := by decide +kernel
theorem dX6_findSizes_28 : decode cX6_findSizes 28 = .ok (.iastore, 1) := by decide +kernel
theorem dX6_findSizes_29 : decode cX6_findSizes 29 = .ok (.aload_n 0, 1) := by decide +kernel
theorem dX6_findSizes_30 : decode cX6_findSizes 30 = .ok (.getfield 10, 3) := by decide +kernel
theorem dX6_findSizes_33 : decode cX6_findSizes 33 = .ok (.iload_n 3, 1) := by decide +kernel
theorem dX6_findSizes_34 : decode cX6_findSizes 34 = .ok (.invokevirtual 58, 3) := by decide +kernel
theorem dX6_findSizes_37 : decode cX6_findSizes 37 = .ok (.aload_n 0, 1) := by decide +kernel
theorem dX6_findSizes_38 : decode cX6_findSizes 38 = .ok (.getfield 10, 3) := by decide +kernel
theorem dX6_findSizes_41 : decode cX6_findSizes 41 = .ok (.invokevirtual 62, 3) := by decide +kernel
theorem dX6_findSizes_44 : decode cX6_findSizes 44 = .ok (.istore_n 3, 1) := by decide +kernel
theorem dX6_findSizes_45 : decode cX6_findSizes 45 = .ok (.iinc 4 1, 3) := by decide +kernel
theorem dX6_findSizes_48 : decode cX6_findSizes 48 = .ok (.goto (-43), 3) := by decide +kernel
theorem dX6_findSizes_51 : decode cX6_findSizes 51 = .ok (.return_, 1) := by decide +kernel
theorem dX6_powerBelowHigh_0 : decode cX6_powerBelowHigh 0 = .ok (.iload_n 0, 1) := by decide +kernel
theorem dX6_powerBelowHigh_1 : decode cX6_powerBelowHigh 1 = .ok (.iconst 2, 1) := by decide +kernel
theorem dX6_powerBelowHigh_2 : decode cX6_powerBelowHigh 2 = .ok (.if_icmp .ge 5, 3) := by decide +kernel
theorem dX6_powerBelowHigh_5 : decode cX6_powerBelowHigh 5 = .ok (.lconst 1, 1) := by decide +kernel
theorem dX6_powerBelowHigh_6 : decode cX6_powerBelowHigh 6 = .ok (.lreturn, 1) := by decide +kernel
theorem dX6_powerBelowHigh_7 : decode cX6_powerBelowHigh 7 = .ok (.lconst 1, 1) := by decide +kernel
theorem dX6_powerBelowHigh_8 : decode cX6_powerBelowHigh 8 = .ok (.lstore_n 3, 1) := by decide +kernel
theorem dX6_powerBelowHigh_9 : decode cX6_powerBelowHigh 9 = .ok (.lconst 0, 1) := by decide +kernel
theorem dX6_powerBelowHigh_10 : decode cX6_powerBelowHigh 10 = .ok (.lstore 5, 2) := by decide +kernel
theorem dX6_powerBelowHigh_12 : decode cX6_powerBelowHigh 12 = .ok (.lload 5, 2) := by decide +kernel
theorem dX6_powerBelowHigh_14 : decode cX6_powerBelowHigh 14 = .ok (.lload_n 1, 1) := by decide +kernel
theorem dX6_powerBelowHigh_15 : decode cX6_powerBelowHigh 15 = .ok (.lcmp, 1) := by decide +kernel
theorem dX6_powerBelowHigh_16 : decode cX6_powerBelowHigh 16 = .ok (.ifCond .ge 25, 3) := by decide +kernel
theorem dX6_powerBelowHigh_19 : decode cX6_powerBelowHigh 19 = .ok (.lload_n 3, 1) := by decide +kernel
theorem dX6_powerBelowHigh_20 : decode cX6_powerBelowHigh 20 = .ok (.ldc2_w 315, 3) := by decide +kernel
theorem dX6_powerBelowHigh_23 : decode cX6_powerBelowHigh 23 = .ok (.lcmp, 1) := by decide +kernel
theorem dX6_powerBelowHigh_24 : decode cX6_powerBelowHigh 24 = .ok (.ifCond .ge 17, 3) := by decide +kernel
theorem dX6_powerBelowHigh_27 : decode cX6_powerBelowHigh 27 = .ok (.lload_n 3, 1) := by decide +kernel
theorem dX6_powerBelowHigh_28 : decode cX6_powerBelowHigh 28 = .ok (.iload_n 0, 1) := by decide +kernel
theorem dX6_powerBelowHigh_29 : decode cX6_powerBelowHigh 29 = .ok (.i2l, 1) := by decide +kernel
theorem dX6_powerBelowHigh_30 : decode cX6_powerBelowHigh 30 = .ok (.lmul, 1) := by decide +kernel
theorem dX6_powerBelowHigh_31 : decode cX6_powerBelowHigh 31 = .ok (.lstore_n 3, 1) := by decide +kernel
theorem dX6_powerBelowHigh_32 : decode cX6_powerBelowHigh 32 = .ok (.lload 5, 2) := by decide +kernel
theorem dX6_powerBelowHigh_34 : decode cX6_powerBelowHigh 34 = .ok (.lconst 1, 1) := by decide +kernel
theorem dX6_powerBelowHigh_35 : decode cX6_powerBelowHigh 35 = .ok (.ladd, 1) := by decide +kernel
theorem dX6_powerBelowHigh_36 : decode cX6_powerBelowHigh 36 = .ok (.lstore 5, 2) := by decide +kernel
theorem dX6_powerBelowHigh_38 : decode cX6_powerBelowHigh 38 = .ok (.goto (-26), 3) := by decide +kernel
theorem dX6_powerBelowHigh_41 : decode cX6_powerBelowHigh 41 = .ok (.lload_n 3, 1) := by decide +kernel
theorem dX6_powerBelowHigh_42 : decode cX6_powerBelowHigh 42 = .ok (.ldc2_w 315, 3) := by decide +kernel
theorem dX6_powerBelowHigh_45 : decode cX6_powerBelowHigh 45 = .ok (.invokestatic 321, 3) := by decide +kernel
theorem dX6_powerBelowHigh_48 : decode cX6_powerBelowHigh 48 = .ok (.lreturn, 1) := by decide +kernel
set_option maxRecDepth 20000 in
theorem ggX6_markStaying_X4_raise : GoodIn wsX6_markStaying wsX4_raise := goodIn_r _ [5] (by decide +kernel) (by decide +kernel)
set_option maxRecDepth 20000 in
theorem gX6_markStaying_X4_raise : GoodIn wsX6_markStaying (va_wsS RX6 94 yX4_raise wsX4_raise) := goodIn_app (goodIn_of _ (by decide +kernel)) ggX6_markStaying_X4_raise
set_option maxRecDepth 20000 in
theorem ggX6_markStaying_X3_put : GoodIn wsX6_markStaying wsX3_put := goodIn_r _ [10, 11, 22] (by decide +kernel) (by decide +kernel)
set_option maxRecDepth 20000 in
theorem gX6_markStaying_X3_put : GoodIn wsX6_markStaying (wsV RX6 276 RX3 yX3_put wsX3_put) := goodIn_app (goodIn_of _ (by decide +kernel)) ggX6_markStaying_X3_put
theorem dX6_markStaying_0 : decode cX6_markStaying 0 = .ok (.iconst 0, 1) := by decide +kernel
theorem dX6_markStaying_1 : decode cX6_markStaying 1 = .ok (.istore 4, 2) := by decide +kernel
theorem dX6_markStaying_3 : decode cX6_markStaying 3 = .ok (.iconst 0, 1) := by decide +kernel
theorem dX6_markStaying_4 : decode cX6_markStaying 4 = .ok (.istore 5, 2) := by decide +kernel
theorem dX6_markStaying_6 : decode cX6_markStaying 6 = .ok (.iload 5, 2) := by decide +kernel
theorem dX6_markStaying_8 : decode cX6_markStaying 8 = .ok (.iload_n 1, 1) := by decide +kernel
theorem dX6_markStaying_9 : decode cX6_markStaying 9 = .ok (.if_icmp .ge 37, 3) := by decide +kernel
theorem dX6_markStaying_12 : decode cX6_markStaying 12 = .ok (.iload 5, 2) := by decide +kernel
theorem dX6_markStaying_14 : decode cX6_markStaying 14 = .ok (.i2l, 1) := by decide +kernel
theorem dX6_markStaying_15 : decode cX6_markStaying 15 = .ok (.iload_n 2, 1) := by decide +kernel
theorem dX6_markStaying_16 : decode cX6_markStaying 16 = .ok (.i2l, 1) := by decide +kernel
theorem dX6_markStaying_17 : decode cX6_markStaying 17 = .ok (.iload_n 1, 1) := by decide +kernel
theorem dX6_markStaying_18 : decode cX6_markStaying 18 = .ok (.invokestatic 94, 3) := by decide +kernel
theorem dX6_markStaying_21 : decode cX6_markStaying 21 = .ok (.iload 5, 2) := by decide +kernel
theorem dX6_markStaying_23 : decode cX6_markStaying 23 = .ok (.if_icmp .ne 17, 3) := by decide +kernel
theorem dX6_markStaying_26 : decode cX6_markStaying 26 = .ok (.aload_n 0, 1) := by decide +kernel
theorem dX6_markStaying_27 : decode cX6_markStaying 27 = .ok (.getfield 22, 3) := by decide +kernel
theorem dX6_markStaying_30 : decode cX6_markStaying 30 = .ok (.iload_n 3, 1) := by decide +kernel
theorem dX6_markStaying_31 : decode cX6_markStaying 31 = .ok (.iload 5, 2) := by decide +kernel
theorem dX6_markStaying_33 : decode cX6_markStaying 33 = .ok (.iadd, 1) := by decide +kernel
theorem dX6_markStaying_34 : decode cX6_markStaying 34 = .ok (.invokevirtual 276, 3) := by decide +kernel
theorem dX6_markStaying_37 : decode cX6_markStaying 37 = .ok (.iinc 4 1, 3) := by decide +kernel
theorem dX6_markStaying_40 : decode cX6_markStaying 40 = .ok (.iinc 5 1, 3) := by decide +kernel
theorem dX6_markStaying_43 : decode cX6_markStaying 43 = .ok (.goto (-37), 3) := by decide +kernel
theorem dX6_markStaying_46 : decode cX6_markStaying 46 = .ok (.iload 4, 2) := by decide +kernel
theorem dX6_markStaying_48 : decode cX6_markStaying 48 = .ok (.ireturn, 1) := by decide +kernel
set_option maxRecDepth 20000 in
theorem ggX6_stayingLetter_X4_rest : GoodIn wsX6_stayingLetter wsX4_rest := goodIn_r _ [5] (by decide +kernel) (by decide +kernel)
set_option maxRecDepth 20000 in
theorem gX6_stayingLetter_X4_rest : GoodIn wsX6_stayingLetter (va_wsS RX6 279 yX4_rest wsX4_rest) := goodIn_app (goodIn_of _ (by decide +kernel)) ggX6_stayingLetter_X4_rest
set_option maxRecDepth 20000 in
theorem ggX6_stayingLetter_X3_has : GoodIn wsX6_stayingLetter wsX3_has := goodIn_r _ [10, 11, 22] (by decide +kernel) (by decide +kernel)
set_option maxRecDepth 20000 in
theorem gX6_stayingLetter_X3_has : GoodIn wsX6_stayingLetter (wsV RX6 288 RX3 yX3_has wsX3_has) := goodIn_app (goodIn_of _ (by decide +kernel)) ggX6_stayingLetter_X3_has
theorem dX6_stayingLetter_0 : decode cX6_stayingLetter 0 = .ok (.iconst 0, 1) := by decide +kernel
theorem dX6_stayingLetter_1 : decode cX6_stayingLetter 1 = .ok (.istore 4, 2) := by decide +kernel
theorem dX6_stayingLetter_3 : decode cX6_stayingLetter 3 = .ok (.iconst 0, 1) := by decide +kernel
theorem dX6_stayingLetter_4 : decode cX6_stayingLetter 4 = .ok (.istore 5, 2) := by decide +kernel
theorem dX6_stayingLetter_6 : decode cX6_stayingLetter 6 = .ok (.iload 5, 2) := by decide +kernel
theorem dX6_stayingLetter_8 : decode cX6_stayingLetter 8 = .ok (.iload_n 1, 1) := by decide +kernel
theorem dX6_stayingLetter_9 : decode cX6_stayingLetter 9 = .ok (.iload_n 2, 1) := by decide +kernel
theorem dX6_stayingLetter_10 : decode cX6_stayingLetter 10 = .ok (.imul, 1) := by decide +kernel
theorem dX6_stayingLetter_11 : decode cX6_stayingLetter 11 = .ok (.if_icmp .ge 57, 3) := by decide +kernel
theorem dX6_stayingLetter_14 : decode cX6_stayingLetter 14 = .ok (.aload_n 0, 1) := by decide +kernel
theorem dX6_stayingLetter_15 : decode cX6_stayingLetter 15 = .ok (.getfield 22, 3) := by decide +kernel
theorem dX6_stayingLetter_18 : decode cX6_stayingLetter 18 = .ok (.iload 5, 2) := by decide +kernel
theorem dX6_stayingLetter_20 : decode cX6_stayingLetter 20 = .ok (.i2l, 1) := by decide +kernel
theorem dX6_stayingLetter_21 : decode cX6_stayingLetter 21 = .ok (.iload_n 1, 1) := by decide +kernel
theorem dX6_stayingLetter_22 : decode cX6_stayingLetter 22 = .ok (.invokestatic 279, 3) := by decide +kernel
theorem dX6_stayingLetter_25 : decode cX6_stayingLetter 25 = .ok (.invokevirtual 288, 3) := by decide +kernel
theorem dX6_stayingLetter_28 : decode cX6_stayingLetter 28 = .ok (.ifCond .eq 34, 3) := by decide +kernel
theorem dX6_stayingLetter_31 : decode cX6_stayingLetter 31 = .ok (.aload_n 0, 1) := by decide +kernel
theorem dX6_stayingLetter_32 : decode cX6_stayingLetter 32 = .ok (.getfield 22, 3) := by decide +kernel
theorem dX6_stayingLetter_35 : decode cX6_stayingLetter 35 = .ok (.iload_n 1, 1) := by decide +kernel
theorem dX6_stayingLetter_36 : decode cX6_stayingLetter 36 = .ok (.iload 5, 2) := by decide +kernel
theorem dX6_stayingLetter_38 : decode cX6_stayingLetter 38 = .ok (.i2l, 1) := by decide +kernel
theorem dX6_stayingLetter_39 : decode cX6_stayingLetter 39 = .ok (.iload_n 2, 1) := by decide +kernel
theorem dX6_stayingLetter_40 : decode cX6_stayingLetter 40 = .ok (.invokestatic 279, 3) := by decide +kernel
theorem dX6_stayingLetter_43 : decode cX6_stayingLetter 43 = .ok (.iadd, 1) := by decide +kernel
theorem dX6_stayingLetter_44 : decode cX6_stayingLetter 44 = .ok (.invokevirtual 288, 3) := by decide +kernel
theorem dX6_stayingLetter_47 : decode cX6_stayingLetter 47 = .ok (.ifCond .eq 15, 3) := by decide +kernel
theorem dX6_stayingLetter_50 : decode cX6_stayingLetter 50 = .ok (.iload 4, 2) := by decide +kernel
theorem dX6_stayingLetter_52 : decode cX6_stayingLetter 52 = .ok (.iload_n 3, 1) := by decide +kernel
theorem dX6_stayingLetter_53 : decode cX6_stayingLetter 53 = .ok (.if_icmp .ne 6, 3) := by decide +kernel
theorem dX6_stayingLetter_56 : decode cX6_stayingLetter 56 = .ok (.iload 5, 2) := by decide +kernel
theorem dX6_stayingLetter_58 : decode cX6_stayingLetter 58 = .ok (.ireturn, 1) := by decide +kernel
theorem dX6_stayingLetter_59 : decode cX6_stayingLetter 59 = .ok (.iinc 4 1, 3) := by decide +kernel
theorem dX6_stayingLetter_62 : decode cX6_stayingLetter 62 = .ok (.iinc 5 1, 3) := by decide +kernel
theorem dX6_stayingLetter_65 : decode cX6_stayingLetter 65 = .ok (.goto (-59), 3) := by decide +kernel
theorem dX6_stayingLetter_68 : decode cX6_stayingLetter 68 = .ok (.bipush (-4), 2) := by decide +kernel
theorem dX6_stayingLetter_70 : decode cX6_stayingLetter 70 = .ok (.ireturn, 1) := by decide +kernel
set_option maxRecDepth 20000 in
theorem ggX6_turnBy_X4_rest : GoodIn wsX6_turnBy wsX4_rest := goodIn_r _ [4] (by decide +kernel) (by decide +kernel)
set_option maxRecDepth 20000 in
theorem gX6_turnBy_X4_rest : GoodIn wsX6_turnBy (va_wsS RX6 279 yX4_rest wsX4_rest) := goodIn_app (goodIn_of _ (by decide +kernel)) ggX6_turnBy_X4_rest
set_option maxRecDepth 20000 in
theorem ggX6_turnBy_X6_leastExponent : GoodIn wsX6_turnBy wsX6_leastExponent := goodIn_r _ [9, 10, 11, 12, 13, 14, 15, 16, 17, 18, 19, 20, 21, 22, 23, 24, 25, 26, 27, 28, 29, 30, 31, 32, 33, 34, 35, 36, 37, 3, 38, 39, 40, 41, 42, 43, 44, 45, 46, 47, 48, 49, 50, 51, 52, 53, 54, 55, 56, 57] (by decide +kernel) (by decide +kernel)
set_option maxRecDepth 20000 in
theorem gX6_turnBy_X6_leastExponent : GoodIn wsX6_turnBy (wsV RX6 73 RX6 yX6_leastExponent wsX6_leastExponent) := goodIn_app (goodIn_of _ (by decide +kernel)) ggX6_turnBy_X6_leastExponent
theorem dX6_turnBy_0 : decode cX6_turnBy 0 = .ok (.iload_n 2, 1) := by decide +kernel
theorem dX6_turnBy_1 : decode cX6_turnBy 1 = .ok (.iconst (-1), 1) := by decide +kernel
theorem dX6_turnBy_2 : decode cX6_turnBy 2 = .ok (.if_icmp .ne 7, 3) := by decide +kernel
theorem dX6_turnBy_5 : decode cX6_turnBy 5 = .ok (.iload_n 1, 1) := by decide +kernel
theorem dX6_turnBy_6 : decode cX6_turnBy 6 = .ok (.iconst 1, 1) := by decide +kernel
theorem dX6_turnBy_7 : decode cX6_turnBy 7 = .ok (.isub, 1) := by decide +kernel
theorem dX6_turnBy_8 : decode cX6_turnBy 8 = .ok (.ireturn, 1) := by decide +kernel
theorem dX6_turnBy_9 : decode cX6_turnBy 9 = .ok (.iload_n 2, 1) := by decide +kernel
theorem dX6_turnBy_10 : decode cX6_turnBy 10 = .ok (.i2l, 1) := by decide +kernel
theorem dX6_turnBy_11 : decode cX6_turnBy 11 = .ok (.iload_n 1, 1) := by decide +kernel
theorem dX6_turnBy_12 : decode cX6_turnBy 12 = .ok (.invokestatic 279, 3) := by decide +kernel
theorem dX6_turnBy_15 : decode cX6_turnBy 15 = .ok (.istore_n 3, 1) := by decide +kernel
theorem dX6_turnBy_16 : decode cX6_turnBy 16 = .ok (.iload_n 3, 1) := by decide +kernel
theorem dX6_turnBy_17 : decode cX6_turnBy 17 = .ok (.ifCond .ne 7, 3) := by decide +kernel
theorem dX6_turnBy_20 : decode cX6_turnBy 20 = .ok (.iconst 1, 1) := by decide +kernel
theorem dX6_turnBy_21 : decode cX6_turnBy 21 = .ok (.goto 9, 3) := by decide +kernel
theorem dX6_turnBy_24 : decode cX6_turnBy 24 = .ok (.aload_n 0, 1) := by decide +kernel
theorem dX6_turnBy_25 : decode cX6_turnBy 25 = .ok (.iload_n 3, 1) := by decide +kernel
theorem dX6_turnBy_26 : decode cX6_turnBy 26 = .ok (.iload_n 1, 1) := by decide +kernel
theorem dX6_turnBy_27 : decode cX6_turnBy 27 = .ok (.invokevirtual 73, 3) := by decide +kernel
theorem dX6_turnBy_30 : decode cX6_turnBy 30 = .ok (.ireturn, 1) := by decide +kernel
theorem dX7_init_0 : decode cX7_init 0 = .ok (.aload_n 0, 1) := by decide +kernel
theorem dX7_init_1 : decode cX7_init 1 = .ok (.invokespecial 1, 3) := by decide +kernel
theorem dX7_init_4 : decode cX7_init 4 = .ok (.aload_n 0, 1) := by decide +kernel
theorem dX7_init_5 : decode cX7_init 5 = .ok (.sipush 200, 3) := by decide +kernel
theorem dX7_init_8 : decode cX7_init 8 = .ok (.newarray .byte, 2) := by decide +kernel
theorem dX7_init_10 : decode cX7_init 10 = .ok (.putfield 7, 3) := by decide +kernel
theorem dX7_init_13 : decode cX7_init 13 = .ok (.aload_n 0, 1) := by decide +kernel
theorem dX7_init_14 : decode cX7_init 14 = .ok (.iconst 1, 1) := by decide +kernel
theorem dX7_init_15 : decode cX7_init 15 = .ok (.putfield 13, 3) := by decide +kernel
theorem dX7_init_18 : decode cX7_init 18 = .ok (.aload_n 0, 1) := by decide +kernel
theorem dX7_init_19 : decode cX7_init 19 = .ok (.bipush 8, 2) := by decide +kernel
theorem dX7_init_21 : decode cX7_init 21 = .ok (.newarray .int, 2) := by decide +kernel
theorem dX7_init_23 : decode cX7_init 23 = .ok (.putfield 17, 3) := by decide +kernel
theorem dX7_init_26 : decode cX7_init 26 = .ok (.aload_n 0, 1) := by decide +kernel
theorem dX7_init_27 : decode cX7_init 27 = .ok (.bipush 8, 2) := by decide +kernel
theorem dX7_init_29 : decode cX7_init 29 = .ok (.newarray .int, 2) := by decide +kernel
theorem dX7_init_31 : decode cX7_init 31 = .ok (.putfield 21, 3) := by decide +kernel
theorem dX7_init_34 : decode cX7_init 34 = .ok (.aload_n 0, 1) := by decide +kernel
theorem dX7_init_35 : decode cX7_init 35 = .ok (.bipush 8, 2) := by decide +kernel
theorem dX7_init_37 : decode cX7_init 37 = .ok (.newarray .int, 2) := by decide +kernel
theorem dX7_init_39 : decode cX7_init 39 = .ok (.putfield 24, 3) := by decide +kernel
theorem dX7_init_42 : decode cX7_init 42 = .ok (.aload_n 0, 1) := by decide +kernel
theorem dX7_init_43 : decode cX7_init 43 = .ok (.bipush 8, 2) := by decide +kernel
theorem dX7_init_45 : decode cX7_init 45 = .ok (.newarray .int, 2) := by decide +kernel
theorem dX7_init_47 : decode cX7_init 47 = .ok (.putfield 27, 3) := by decide +kernel
theorem dX7_init_50 : decode cX7_init 50 = .ok (.aload_n 0, 1) := by decide +kernel
theorem dX7_init_51 : decode cX7_init 51 = .ok (.bipush 8, 2) := by decide +kernel
theorem dX7_init_53 : decode cX7_init 53 = .ok (.newarray .int, 2) := by decide +kernel
theorem dX7_init_55 : decode cX7_init 55 = .ok (.putfield 30, 3) := by decide +kernel
theorem dX7_init_58 : decode cX7_init 58 = .ok (.aload_n 0, 1) := by decide +kernel
theorem dX7_init_59 : decode cX7_init 59 = .ok (.bipush 8, 2) := by decide +kernel
theorem dX7_init_61 : decode cX7_init 61 = .ok (.newarray .int, 2) := by decide +kernel
theorem dX7_init_63 : decode cX7_init 63 = .ok (.putfield 33, 3) := by decide +kernel
theorem dX7_init_66 : decode cX7_init 66 = .ok (.aload_n 0, 1) := by decide +kernel
theorem dX7_init_67 : decode cX7_init 67 = .ok (.bipush 8, 2) := by decide +kernel
theorem dX7_init_69 : decode cX7_init 69 = .ok (.newarray .int, 2) := by decide +kernel
theorem dX7_init_71 : decode cX7_init 71 = .ok (.putfield 36, 3) := by decide +kernel
theorem dX7_init_74 : decode cX7_init 74 = .ok (.aload_n 0, 1) := by decide +kernel
theorem dX7_init_75 : decode cX7_init 75 = .ok (.bipush 8, 2) := by decide +kernel
theorem dX7_init_77 : decode cX7_init 77 = .ok (.newarray .int, 2) := by decide +kernel
theorem dX7_init_79 : decode cX7_init 79 = .ok (.putfield 39, 3) := by decide +kernel
theorem dX7_init_82 : decode cX7_init 82 = .ok (.aload_n 0, 1) := by decide +kernel
theorem dX7_init_83 : decode cX7_init 83 = .ok (.ldc 42, 2) := by decide +kernel
theorem dX7_init_85 : decode cX7_init 85 = .ok (.newarray .int, 2) := by decide +kernel
theorem dX7_init_87 : decode cX7_init 87 = .ok (.putfield 43, 3) := by decide +kernel
theorem dX7_init_90 : decode cX7_init 90 = .ok (.aload_n 0, 1) := by decide +kernel
theorem dX7_init_91 : decode cX7_init 91 = .ok (.ldc 42, 2) := by decide +kernel
theorem dX7_init_93 : decode cX7_init 93 = .ok (.newarray .boolean, 2) := by decide +kernel
theorem dX7_init_95 : decode cX7_init 95 = .ok (.putfield 46, 3) := by decide +kernel
theorem dX7_init_98 : decode cX7_init 98 = .ok (.aload_n 0, 1) := by decide +kernel
theorem dX7_init_99 : decode cX7_init 99 = .ok (.sipush 256, 3) := by decide +kernel
theorem dX7_init_102 : decode cX7_init 102 = .ok (.newarray .boolean, 2) := by decide +kernel
theorem dX7_init_104 : decode cX7_init 104 = .ok (.putfield 50, 3) := by decide +kernel
theorem dX7_init_107 : decode cX7_init 107 = .ok (.aload_n 0, 1) := by decide +kernel
theorem dX7_init_108 : decode cX7_init 108 = .ok (.bipush 6, 2) := by decide +kernel
theorem dX7_init_110 : decode cX7_init 110 = .ok (.newarray .int, 2) := by decide +kernel
theorem dX7_init_112 : decode cX7_init 112 = .ok (.putfield 53, 3) := by decide +kernel
theorem dX7_init_115 : decode cX7_init 115 = .ok (.return_, 1) := by decide +kernel
theorem dX7_in_0 : decode cX7_in 0 = .ok (.lload_n 0, 1) := by decide +kernel
theorem dX7_in_1 : decode cX7_in 1 = .ok (.lload_n 2, 1) := by decide +kernel
theorem dX7_in_2 : decode cX7_in 2 = .ok (.lcmp, 1) := by decide +kernel
theorem dX7_in_3 : decode cX7_in 3 = .ok (.ifCond .lt 14, 3) := by decide +kernel
theorem dX7_in_6 : decode cX7_in 6 = .ok (.lload_n 0, 1) := by decide +kernel
theorem dX7_in_7 : decode cX7_in 7 = .ok (.lload 4, 2) := by decide +kernel
theorem dX7_in_9 : decode cX7_in 9 = .ok (.lcmp, 1) := by decide +kernel
theorem dX7_in_10 : decode cX7_in 10 = .ok (.ifCond .gt 7, 3) := by decide +kernel
theorem dX7_in_13 : decode cX7_in 13 = .ok (.iconst 1, 1) := by decide +kernel
theorem dX7_in_14 : decode cX7_in 14 = .ok (.goto 4, 3) := by decide +kernel
theorem dX7_in_17 : decode cX7_in 17 = .ok (.iconst 0, 1) := by decide +kernel
theorem dX7_in_18 : decode cX7_in 18 = .ok (.ireturn, 1) := by decide +kernel
set_option maxRecDepth 20000 in
theorem ggX7_isBy_X7_in : GoodIn wsX7_isBy wsX7_in := goodIn_r _ [6] (by decide +kernel) (by decide +kernel)
set_option maxRecDepth 20000 in
theorem gX7_isBy_X7_in : GoodIn wsX7_isBy (va_wsS RX7 60 yX7_in wsX7_in) := goodIn_app (goodIn_of _ (by decide +kernel)) ggX7_isBy_X7_in
theorem dX7_isBy_0 : decode cX7_isBy 0 = .ok (.iload_n 0, 1) := by decide +kernel
theorem dX7_isBy_1 : decode cX7_isBy 1 = .ok (.i2l, 1) := by decide +kernel
theorem dX7_isBy_2 : decode cX7_isBy 2 = .ok (.ldc2_w 56, 3) := by decide +kernel
theorem dX7_isBy_5 : decode cX7_isBy 5 = .ok (.ldc2_w 58, 3) := by decide +kernel
theorem dX7_isBy_8 : decode cX7_isBy 8 = .ok (.invokestatic 60, 3) := by decide +kernel
theorem dX7_isBy_11 : decode cX7_isBy 11 = .ok (.ireturn, 1) := by decide +kernel
set_option maxRecDepth 20000 in
theorem ggX7_isRest_X7_in : GoodIn wsX7_isRest wsX7_in := goodIn_r _ [4] (by decide +kernel) (by decide +kernel)
set_option maxRecDepth 20000 in
theorem gX7_isRest_X7_in : GoodIn wsX7_isRest (va_wsS RX7 60 yX7_in wsX7_in) := goodIn_app (goodIn_of _ (by decide +kernel)) ggX7_isRest_X7_in
theorem dX7_isRest_0 : decode cX7_isRest 0 = .ok (.iload_n 1, 1) := by decide +kernel
theorem dX7_isRest_1 : decode cX7_isRest 1 = .ok (.i2l, 1) := by decide +kernel
theorem dX7_isRest_2 : decode cX7_isRest 2 = .ok (.lconst 0, 1) := by decide +kernel
theorem dX7_isRest_3 : decode cX7_isRest 3 = .ok (.iload_n 0, 1) := by decide +kernel
theorem dX7_isRest_4 : decode cX7_isRest 4 = .ok (.iconst 1, 1) := by decide +kernel
theorem dX7_isRest_5 : decode cX7_isRest 5 = .ok (.isub, 1) := by decide +kernel
theorem dX7_isRest_6 : decode cX7_isRest 6 = .ok (.i2l, 1) := by decide +kernel
theorem dX7_isRest_7 : decode cX7_isRest 7 = .ok (.invokestatic 60, 3) := by decide +kernel
theorem dX7_isRest_10 : decode cX7_isRest 10 = .ok (.ireturn, 1) := by decide +kernel
theorem dX7_common_0 : decode cX7_common 0 = .ok (.iload_n 0, 1) := by decide +kernel
theorem dX7_common_1 : decode cX7_common 1 = .ok (.istore_n 2, 1) := by decide +kernel
theorem dX7_common_2 : decode cX7_common 2 = .ok (.iload_n 1, 1) := by decide +kernel
theorem dX7_common_3 : decode cX7_common 3 = .ok (.istore_n 3, 1) := by decide +kernel
theorem dX7_common_4 : decode cX7_common 4 = .ok (.iload_n 3, 1) := by decide +kernel
theorem dX7_common_5 : decode cX7_common 5 = .ok (.ifCond .eq 16, 3) := by decide +kernel
theorem dX7_common_8 : decode cX7_common 8 = .ok (.iload_n 2, 1) := by decide +kernel
theorem dX7_common_9 : decode cX7_common 9 = .ok (.iload_n 3, 1) := by decide +kernel
theorem dX7_common_10 : decode cX7_common 10 = .ok (.irem, 1) := by decide +kernel
theorem dX7_common_11 : decode cX7_common 11 = .ok (.istore 4, 2) := by decide +kernel
theorem dX7_common_13 : decode cX7_common 13 = .ok (.iload_n 3, 1) := by decide +kernel
theorem dX7_common_14 : decode cX7_common 14 = .ok (.istore_n 2, 1) := by decide +kernel
theorem dX7_common_15 : decode cX7_common 15 = .ok (.iload 4, 2) := by decide +kernel
theorem dX7_common_17 : decode cX7_common 17 = .ok (.istore_n 3, 1) := by decide +kernel
theorem dX7_common_18 : decode cX7_common 18 = .ok (.goto (-14), 3) := by decide +kernel
theorem dX7_common_21 : decode cX7_common 21 = .ok (.iload_n 2, 1) := by decide +kernel
theorem dX7_common_22 : decode cX7_common 22 = .ok (.ireturn, 1) := by decide +kernel
set_option maxRecDepth 20000 in
theorem ggX7_isUnit_X7_common : GoodIn wsX7_isUnit wsX7_common := goodIn_r _ [4] (by decide +kernel) (by decide +kernel)
set_option maxRecDepth 20000 in
theorem gX7_isUnit_X7_common : GoodIn wsX7_isUnit (va_wsS RX7 64 yX7_common wsX7_common) := goodIn_app (goodIn_of _ (by decide +kernel)) ggX7_isUnit_X7_common
theorem dX7_isUnit_0 : decode cX7_isUnit 0 = .ok (.iload_n 0, 1) := by decide +kernel
theorem dX7_isUnit_1 : decode cX7_isUnit 1 = .ok (.iload_n 1, 1) := by decide +kernel
theorem dX7_isUnit_2 : decode cX7_isUnit 2 = .ok (.invokestatic 64, 3) := by decide +kernel
theorem dX7_isUnit_5 : decode cX7_isUnit 5 = .ok (.iconst 1, 1) := by decide +kernel
theorem dX7_isUnit_6 : decode cX7_isUnit 6 = .ok (.if_icmp .ne 7, 3) := by decide +kernel
theorem dX7_isUnit_9 : decode cX7_isUnit 9 = .ok (.iconst 1, 1) := by decide +kernel
theorem dX7_isUnit_10 : decode cX7_isUnit 10 = .ok (.goto 4, 3) := by decide +kernel
theorem dX7_isUnit_13 : decode cX7_isUnit 13 = .ok (.iconst 0, 1) := by decide +kernel
theorem dX7_isUnit_14 : decode cX7_isUnit 14 = .ok (.ireturn, 1) := by decide +kernel
theorem dX7_powerOf_0 : decode cX7_powerOf 0 = .ok (.iconst 1, 1) := by decide +kernel
theorem dX7_powerOf_1 : decode cX7_powerOf 1 = .ok (.iload_n 0, 1) := by decide +kernel
theorem dX7_powerOf_2 : decode cX7_powerOf 2 = .ok (.irem, 1) := by decide +kernel
theorem dX7_powerOf_3 : decode cX7_powerOf 3 = .ok (.i2l, 1) := by decide +kernel
theorem dX7_powerOf_4 : decode cX7_powerOf 4 = .ok (.lstore 4, 2) := by decide +kernel
theorem dX7_powerOf_6 : decode cX7_powerOf 6 = .ok (.iload_n 1, 1) := by decide +kernel
theorem dX7_powerOf_7 : decode cX7_powerOf 7 = .ok (.iload_n 0, 1) := by decide +kernel
theorem dX7_powerOf_8 : decode cX7_powerOf 8 = .ok (.irem, 1) := by decide +kernel
theorem dX7_powerOf_9 : decode cX7_powerOf 9 = .ok (.i2l, 1) := by decide +kernel
theorem dX7_powerOf_10 : decode cX7_powerOf 10 = .ok (.lstore 6, 2) := by decide +kernel
theorem dX7_powerOf_12 : decode cX7_powerOf 12 = .ok (.lload_n 2, 1) := by decide +kernel
theorem dX7_powerOf_13 : decode cX7_powerOf 13 = .ok (.lstore 8, 2) := by decide +kernel
theorem dX7_powerOf_15 : decode cX7_powerOf 15 = .ok (.lload 8, 2) := by decide +kernel
theorem dX7_powerOf_17 : decode cX7_powerOf 17 = .ok (.lconst 0, 1) := by decide +kernel
theorem dX7_powerOf_18 : decode cX7_powerOf 18 = .ok (.lcmp, 1) := by decide +kernel
theorem dX7_powerOf_19 : decode cX7_powerOf 19 = .ok (.ifCond .le 50, 3) := by decide +kernel
theorem dX7_powerOf_22 : decode cX7_powerOf 22 = .ok (.lload 8, 2) := by decide +kernel
theorem dX7_powerOf_24 : decode cX7_powerOf 24 = .ok (.ldc2_w 56, 3) := by decide +kernel
theorem dX7_powerOf_27 : decode cX7_powerOf 27 = .ok (.lrem, 1) := by decide +kernel
theorem dX7_powerOf_28 : decode cX7_powerOf 28 = .ok (.lconst 1, 1) := by decide +kernel
theorem dX7_powerOf_29 : decode cX7_powerOf 29 = .ok (.lcmp, 1) := by decide +kernel
theorem dX7_powerOf_30 : decode cX7_powerOf 30 = .ok (.ifCond .ne 14, 3) := by decide +kernel
theorem dX7_powerOf_33 : decode cX7_powerOf 33 = .ok (.lload 4, 2) := by decide +kernel
theorem dX7_powerOf_35 : decode cX7_powerOf 35 = .ok (.lload 6, 2) := by decide +kernel
theorem dX7_powerOf_37 : decode cX7_powerOf 37 = .ok (.lmul, 1) := by decide +kernel
theorem dX7_powerOf_38 : decode cX7_powerOf 38 = .ok (.iload_n 0, 1) := by decide +kernel
theorem dX7_powerOf_39 : decode cX7_powerOf 39 = .ok (.i2l, 1) := by decide +kernel
theorem dX7_powerOf_40 : decode cX7_powerOf 40 = .ok (.lrem, 1) := by decide +kernel
theorem dX7_powerOf_41 : decode cX7_powerOf 41 = .ok (.goto 5, 3) := by decide +kernel
theorem dX7_powerOf_44 : decode cX7_powerOf 44 = .ok (.lload 4, 2) := by decide +kernel
theorem dX7_powerOf_46 : decode cX7_powerOf 46 = .ok (.lstore 4, 2) := by decide +kernel
theorem dX7_powerOf_48 : decode cX7_powerOf 48 = .ok (.lload 6, 2) := by decide +kernel
theorem dX7_powerOf_50 : decode cX7_powerOf 50 = .ok (.lload 6, 2) := by decide +kernel
theorem dX7_powerOf_52 : decode cX7_powerOf 52 = .ok (.lmul, 1) := by decide +kernel
theorem dX7_powerOf_53 : decode cX7_powerOf 53 = .ok (.iload_n 0, 1) := by decide +kernel
theorem dX7_powerOf_54 : decode cX7_powerOf 54 = .ok (.i2l, 1) := by decide +kernel
theorem dX7_powerOf_55 : decode cX7_powerOf 55 = .ok (.lrem, 1) := by decide +kernel
theorem dX7_powerOf_56 : decode cX7_powerOf 56 = .ok (.lstore 6, 2) := by decide +kernel
theorem dX7_powerOf_58 : decode cX7_powerOf 58 = .ok (.lload 8, 2) := by decide +kernel
theorem dX7_powerOf_60 : decode cX7_powerOf 60 = .ok (.ldc2_w 56, 3) := by decide +kernel
theorem dX7_powerOf_63 : decode cX7_powerOf 63 = .ok (.ldiv, 1) := by decide +kernel
theorem dX7_powerOf_64 : decode cX7_powerOf 64 = .ok (.lstore 8, 2) := by decide +kernel
theorem dX7_powerOf_66 : decode cX7_powerOf 66 = .ok (.goto (-51), 3) := by decide +kernel
theorem dX7_powerOf_69 : decode cX7_powerOf 69 = .ok (.lload 4, 2) := by decide +kernel
theorem dX7_powerOf_71 : decode cX7_powerOf 71 = .ok (.l2i, 1) := by decide +kernel
theorem dX7_powerOf_72 : decode cX7_powerOf 72 = .ok (.ireturn, 1) := by decide +kernel
set_option maxRecDepth 20000 in
theorem ggX7_units_X7_isBy : GoodIn wsX7_units wsX7_isBy := goodIn_r _ [4, 5, 6, 7, 8, 3, 9] (by decide +kernel) (by decide +kernel)
set_option maxRecDepth 20000 in
theorem gX7_units_X7_isBy : GoodIn wsX7_units (va_wsS RX7 68 yX7_isBy wsX7_isBy) := goodIn_app (goodIn_of _ (by decide +kernel)) ggX7_units_X7_isBy
set_option maxRecDepth 20000 in
theorem ggX7_units_X7_isUnit : GoodIn wsX7_units wsX7_isUnit := goodIn_r _ [12, 13, 14, 3, 15] (by decide +kernel) (by decide +kernel)
set_option maxRecDepth 20000 in
theorem gX7_units_X7_isUnit : GoodIn wsX7_units (va_wsS RX7 72 yX7_isUnit wsX7_isUnit) := goodIn_app (goodIn_of _ (by decide +kernel)) ggX7_units_X7_isUnit
theorem dX7_units_0 : decode cX7_units 0 = .ok (.iload_n 1, 1) := by decide +kernel
theorem dX7_units_1 : decode cX7_units 1 = .ok (.invokestatic 68, 3) := by decide +kernel
theorem dX7_units_4 : decode cX7_units 4 = .ok (.ifCond .eq 8, 3) := by decide +kernel
theorem dX7_units_7 : decode cX7_units 7 = .ok (.iload_n 2, 1) := by decide +kernel
theorem dX7_units_8 : decode cX7_units 8 = .ok (.iconst (-1), 1) := by decide +kernel
theorem dX7_units_9 : decode cX7_units 9 = .ok (.if_icmp .ge 5, 3) := by decide +kernel
theorem dX7_units_12 : decode cX7_units 12 = .ok (.iconst (-1), 1) := by decide +kernel
theorem dX7_units_13 : decode cX7_units 13 = .ok (.ireturn, 1) := by decide +kernel
theorem dX7_units_14 : decode cX7_units 14 = .ok (.iconst 0, 1) := by decide +kernel
theorem dX7_units_15 : decode cX7_units 15 = .ok (.istore_n 3, 1) := by decide +kernel
theorem dX7_units_16 : decode cX7_units 16 = .ok (.iconst 0, 1) := by decide +kernel
theorem dX7_units_17 : decode cX7_units 17 = .ok (.istore 4, 2) := by decide +kernel
theorem dX7_units_19 : decode cX7_units 19 = .ok (.iload 4, 2) := by decide +kernel
theorem dX7_units_21 : decode cX7_units 21 = .ok (.iload_n 1, 1) := by decide +kernel
theorem dX7_units_22 : decode cX7_units 22 = .ok (.if_icmp .ge 29, 3) := by decide +kernel
theorem dX7_units_25 : decode cX7_units 25 = .ok (.iload_n 1, 1) := by decide +kernel
theorem dX7_units_26 : decode cX7_units 26 = .ok (.iload 4, 2) := by decide +kernel
theorem dX7_units_28 : decode cX7_units 28 = .ok (.invokestatic 72, 3) := by decide +kernel
theorem dX7_units_31 : decode cX7_units 31 = .ok (.ifCond .eq 14, 3) := by decide +kernel
theorem dX7_units_34 : decode cX7_units 34 = .ok (.iload_n 3, 1) := by decide +kernel
theorem dX7_units_35 : decode cX7_units 35 = .ok (.iload_n 2, 1) := by decide +kernel
theorem dX7_units_36 : decode cX7_units 36 = .ok (.if_icmp .ne 6, 3) := by decide +kernel
theorem dX7_units_39 : decode cX7_units 39 = .ok (.iload 4, 2) := by decide +kernel
theorem dX7_units_41 : decode cX7_units 41 = .ok (.ireturn, 1) := by decide +kernel
theorem dX7_units_42 : decode cX7_units 42 = .ok (.iinc 3 1, 3) := by decide +kernel
theorem dX7_units_45 : decode cX7_units 45 = .ok (.iinc 4 1, 3) := by decide +kernel
theorem dX7_units_48 : decode cX7_units 48 = .ok (.goto (-29), 3) := by decide +kernel
theorem dX7_units_51 : decode cX7_units 51 = .ok (.iload_n 2, 1) := by decide +kernel
theorem dX7_units_52 : decode cX7_units 52 = .ok (.ifCond .ge 7, 3) := by decide +kernel
theorem dX7_units_55 : decode cX7_units 55 = .ok (.iload_n 3, 1) := by decide +kernel
theorem dX7_units_56 : decode cX7_units 56 = .ok (.goto 5, 3) := by decide +kernel
theorem dX7_units_59 : decode cX7_units 59 = .ok (.bipush (-4), 2) := by decide +kernel
theorem dX7_units_61 : decode cX7_units 61 = .ok (.ireturn, 1) := by decide +kernel
theorem dX7_orderOf_0 : decode cX7_orderOf 0 = .ok (.iload_n 1, 1) := by decide +kernel
theorem dX7_orderOf_1 : decode cX7_orderOf 1 = .ok (.i2l, 1) := by decide +kernel
theorem dX7_orderOf_2 : decode cX7_orderOf 2 = .ok (.lstore_n 2, 1) := by decide +kernel
theorem dX7_orderOf_3 : decode cX7_orderOf 3 = .ok (.iconst 1, 1) := by decide +kernel
theorem dX7_orderOf_4 : decode cX7_orderOf 4 = .ok (.istore 4, 2) := by decide +kernel
theorem dX7_orderOf_6 : decode cX7_orderOf 6 = .ok (.lload_n 2, 1) := by decide +kernel
theorem dX7_orderOf_7 : decode cX7_orderOf 7 = .ok (.lconst 1, 1) := by decide +kernel
theorem dX7_orderOf_8 : decode cX7_orderOf 8 = .ok (.lcmp, 1) := by decide +kernel
theorem dX7_orderOf_9 : decode cX7_orderOf 9 = .ok (.ifCond .eq 17, 3) := by decide +kernel
theorem dX7_orderOf_12 : decode cX7_orderOf 12 = .ok (.lload_n 2, 1) := by decide +kernel
theorem dX7_orderOf_13 : decode cX7_orderOf 13 = .ok (.iload_n 1, 1) := by decide +kernel
theorem dX7_orderOf_14 : decode cX7_orderOf 14 = .ok (.i2l, 1) := by decide +kernel
theorem dX7_orderOf_15 : decode cX7_orderOf 15 = .ok (.lmul, 1) := by decide +kernel
theorem dX7_orderOf_16 : decode cX7_orderOf 16 = .ok (.iload_n 0, 1) := by decide +kernel
theorem dX7_orderOf_17 : decode cX7_orderOf 17 = .ok (.i2l, 1) := by decide +kernel
theorem dX7_orderOf_18 : decode cX7_orderOf 18 = .ok (.lrem, 1) := by decide +kernel
theorem dX7_orderOf_19 : decode cX7_orderOf 19 = .ok (.lstore_n 2, 1) := by decide +kernel
theorem dX7_orderOf_20 : decode cX7_orderOf 20 = .ok (.iinc 4 1, 3) := by decide +kernel
theorem dX7_orderOf_23 : decode cX7_orderOf 23 = .ok (.goto (-17), 3) := by decide +kernel
theorem dX7_orderOf_26 : decode cX7_orderOf 26 = .ok (.iload 4, 2) := by decide +kernel
theorem dX7_orderOf_28 : decode cX7_orderOf 28 = .ok (.ireturn, 1) := by decide +kernel
set_option maxRecDepth 20000 in
theorem ggX7_order_X7_isBy : GoodIn wsX7_order wsX7_isBy := goodIn_r _ [4, 5, 6, 7, 8, 3, 9] (by decide +kernel) (by decide +kernel)
set_option maxRecDepth 20000 in
theorem gX7_order_X7_isBy : GoodIn wsX7_order (va_wsS RX7 68 yX7_isBy wsX7_isBy) := goodIn_app (goodIn_of _ (by decide +kernel)) ggX7_order_X7_isBy
set_option maxRecDepth 20000 in
theorem ggX7_order_X7_isRest : GoodIn wsX7_order wsX7_isRest := goodIn_r _ [12, 7, 8, 3, 9] (by decide +kernel) (by decide +kernel)
set_option maxRecDepth 20000 in
theorem gX7_order_X7_isRest : GoodIn wsX7_order (va_wsS RX7 76 yX7_isRest wsX7_isRest) := goodIn_app (goodIn_of _ (by decide +kernel)) ggX7_order_X7_isRest
set_option maxRecDepth 20000 in
theorem ggX7_order_X7_isUnit : GoodIn wsX7_order wsX7_isUnit := goodIn_r _ [15, 16, 17, 3, 18] (by decide +kernel) (by decide +kernel)
set_option maxRecDepth 20000 in
theorem gX7_order_X7_isUnit : GoodIn wsX7_order (va_wsS RX7 72 yX7_isUnit wsX7_isUnit) := goodIn_app (goodIn_of _ (by decide +kernel)) ggX7_order_X7_isUnit
set_option maxRecDepth 20000 in
theorem ggX7_order_X7_orderOf : GoodIn wsX7_order wsX7_orderOf := goodIn_r _ [21] (by decide +kernel) (by decide +kernel)
set_option maxRecDepth 20000 in
theorem gX7_order_X7_orderOf : GoodIn wsX7_order (va_wsS RX7 79 yX7_orderOf wsX7_orderOf) := goodIn_app (goodIn_of _ (by decide +kernel)) ggX7_order_X7_orderOf
theorem dX7_order_0 : decode cX7_order 0 = .ok (.iload_n 1, 1) := by decide +kernel
theorem dX7_order_1 : decode cX7_order 1 = .ok (.invokestatic 68, 3) := by decide +kernel
theorem dX7_order_4 : decode cX7_order 4 = .ok (.ifCond .eq 11, 3) := by decide +kernel
theorem dX7_order_7 : decode cX7_order 7 = .ok (.iload_n 1, 1) := by decide +kernel
theorem dX7_order_8 : decode cX7_order 8 = .ok (.iload_n 2, 1) := by decide +kernel
theorem dX7_order_9 : decode cX7_order 9 = .ok (.invokestatic 76, 3) := by decide +kernel
theorem dX7_order_12 : decode cX7_order 12 = .ok (.ifCond .ne 5, 3) := by decide +kernel
theorem dX7_order_15 : decode cX7_order 15 = .ok (.iconst (-1), 1) := by decide +kernel
theorem dX7_order_16 : decode cX7_order 16 = .ok (.ireturn, 1) := by decide +kernel
theorem dX7_order_17 : decode cX7_order 17 = .ok (.iload_n 1, 1) := by decide +kernel
theorem dX7_order_18 : decode cX7_order 18 = .ok (.iload_n 2, 1) := by decide +kernel
theorem dX7_order_19 : decode cX7_order 19 = .ok (.invokestatic 72, 3) := by decide +kernel
theorem dX7_order_22 : decode cX7_order 22 = .ok (.ifCond .eq 11, 3) := by decide +kernel
theorem dX7_order_25 : decode cX7_order 25 = .ok (.iload_n 1, 1) := by decide +kernel
theorem dX7_order_26 : decode cX7_order 26 = .ok (.iload_n 2, 1) := by decide +kernel
theorem dX7_order_27 : decode cX7_order 27 = .ok (.invokestatic 79, 3) := by decide +kernel
theorem dX7_order_30 : decode cX7_order 30 = .ok (.goto 5, 3) := by decide +kernel
theorem dX7_order_33 : decode cX7_order 33 = .ok (.bipush (-2), 2) := by decide +kernel
theorem dX7_order_35 : decode cX7_order 35 = .ok (.ireturn, 1) := by decide +kernel
set_option maxRecDepth 20000 in
theorem ggX7_walks_X7_isUnit : GoodIn wsX7_walks wsX7_isUnit := goodIn_r _ [5, 6, 7, 4, 8] (by decide +kernel) (by decide +kernel)
set_option maxRecDepth 20000 in
theorem gX7_walks_X7_isUnit : GoodIn wsX7_walks (va_wsS RX7 72 yX7_isUnit wsX7_isUnit) := goodIn_app (goodIn_of _ (by decide +kernel)) ggX7_walks_X7_isUnit
set_option maxRecDepth 20000 in
theorem ggX7_walks_X7_orderOf : GoodIn wsX7_walks wsX7_orderOf := goodIn_r _ [11] (by decide +kernel) (by decide +kernel)
set_option maxRecDepth 20000 in
theorem gX7_walks_X7_orderOf : GoodIn wsX7_walks (va_wsS RX7 79 yX7_orderOf wsX7_orderOf) := goodIn_app (goodIn_of _ (by decide +kernel)) ggX7_walks_X7_orderOf
set_option maxRecDepth 20000 in
theorem ggX7_walks_X7_common : GoodIn wsX7_walks wsX7_common := goodIn_r _ [8] (by decide +kernel) (by decide +kernel)
set_option maxRecDepth 20000 in
theorem gX7_walks_X7_common : GoodIn wsX7_walks (va_wsS RX7 64 yX7_common wsX7_common) := goodIn_app (goodIn_of _ (by decide +kernel)) ggX7_walks_X7_common
theorem dX7_walks_0 : decode cX7_walks 0 = .ok (.iconst 0, 1) := by decide +kernel
theorem dX7_walks_1 : decode cX7_walks 1 = .ok (.istore_n 2, 1) := by decide +kernel
theorem dX7_walks_2 : decode cX7_walks 2 = .ok (.iload_n 2, 1) := by decide +kernel
theorem dX7_walks_3 : decode cX7_walks 3 = .ok (.iload_n 1, 1) := by decide +kernel
theorem dX7_walks_4 : decode cX7_walks 4 = .ok (.if_icmp .ge 16, 3) := by decide +kernel
theorem dX7_walks_7 : decode cX7_walks 7 = .ok (.aload_n 0, 1) := by decide +kernel
theorem dX7_walks_8 : decode cX7_walks 8 = .ok (.getfield 43, 3) := by decide +kernel
theorem dX7_walks_11 : decode cX7_walks 11 = .ok (.iload_n 2, 1) := by decide +kernel
theorem dX7_walks_12 : decode cX7_walks 12 = .ok (.iconst 0, 1) := by decide +kernel
theorem dX7_walks_13 : decode cX7_walks 13 = .ok (.iastore, 1) := by decide +kernel
theorem dX7_walks_14 : decode cX7_walks 14 = .ok (.iinc 2 1, 3) := by decide +kernel
theorem dX7_walks_17 : decode cX7_walks 17 = .ok (.goto (-15), 3) := by decide +kernel
theorem dX7_walks_20 : decode cX7_walks 20 = .ok (.iconst 0, 1) := by decide +kernel
theorem dX7_walks_21 : decode cX7_walks 21 = .ok (.istore_n 2, 1) := by decide +kernel
theorem dX7_walks_22 : decode cX7_walks 22 = .ok (.iconst 0, 1) := by decide +kernel
theorem dX7_walks_23 : decode cX7_walks 23 = .ok (.istore_n 3, 1) := by decide +kernel
theorem dX7_walks_24 : decode cX7_walks 24 = .ok (.iload_n 3, 1) := by decide +kernel
theorem dX7_walks_25 : decode cX7_walks 25 = .ok (.iload_n 1, 1) := by decide +kernel
theorem dX7_walks_26 : decode cX7_walks 26 = .ok (.if_icmp .ge 86, 3) := by decide +kernel
theorem dX7_walks_29 : decode cX7_walks 29 = .ok (.iload_n 1, 1) := by decide +kernel
theorem dX7_walks_30 : decode cX7_walks 30 = .ok (.iload_n 3, 1) := by decide +kernel
theorem dX7_walks_31 : decode cX7_walks 31 = .ok (.invokestatic 72, 3) := by decide +kernel
theorem dX7_walks_34 : decode cX7_walks 34 = .ok (.ifCond .ne 6, 3) := by decide +kernel
theorem dX7_walks_37 : decode cX7_walks 37 = .ok (.goto 69, 3) := by decide +kernel
theorem dX7_walks_40 : decode cX7_walks 40 = .ok (.iinc 2 1, 3) := by decide +kernel
theorem dX7_walks_43 : decode cX7_walks 43 = .ok (.aload_n 0, 1) := by decide +kernel
theorem dX7_walks_44 : decode cX7_walks 44 = .ok (.getfield 43, 3) := by decide +kernel
theorem dX7_walks_47 : decode cX7_walks 47 = .ok (.iload_n 3, 1) := by decide +kernel
theorem dX7_walks_48 : decode cX7_walks 48 = .ok (.iaload, 1) := by decide +kernel
theorem dX7_walks_49 : decode cX7_walks 49 = .ok (.ifCond .ne 57, 3) := by decide +kernel
theorem dX7_walks_52 : decode cX7_walks 52 = .ok (.iload_n 1, 1) := by decide +kernel
theorem dX7_walks_53 : decode cX7_walks 53 = .ok (.iload_n 3, 1) := by decide +kernel
theorem dX7_walks_54 : decode cX7_walks 54 = .ok (.invokestatic 79, 3) := by decide +kernel
theorem dX7_walks_57 : decode cX7_walks 57 = .ok (.istore 4, 2) := by decide +kernel
theorem dX7_walks_59 : decode cX7_walks 59 = .ok (.lconst 1, 1) := by decide +kernel
theorem dX7_walks_60 : decode cX7_walks 60 = .ok (.lstore 5, 2) := by decide +kernel
theorem dX7_walks_62 : decode cX7_walks 62 = .ok (.iconst 1, 1) := by decide +kernel
theorem dX7_walks_63 : decode cX7_walks 63 = .ok (.istore 7, 2) := by decide +kernel
theorem dX7_walks_65 : decode cX7_walks 65 = .ok (.iload 7, 2) := by decide +kernel
theorem dX7_walks_67 : decode cX7_walks 67 = .ok (.iload 4, 2) := by decide +kernel
theorem dX7_walks_69 : decode cX7_walks 69 = .ok (.if_icmp .gt 37, 3) := by decide +kernel
theorem dX7_walks_72 : decode cX7_walks 72 = .ok (.lload 5, 2) := by decide +kernel
theorem dX7_walks_74 : decode cX7_walks 74 = .ok (.iload_n 3, 1) := by decide +kernel
theorem dX7_walks_75 : decode cX7_walks 75 = .ok (.i2l, 1) := by decide +kernel
theorem dX7_walks_76 : decode cX7_walks 76 = .ok (.lmul, 1) := by decide +kernel
theorem dX7_walks_77 : decode cX7_walks 77 = .ok (.iload_n 1, 1) := by decide +kernel
theorem dX7_walks_78 : decode cX7_walks 78 = .ok (.i2l, 1) := by decide +kernel
theorem dX7_walks_79 : decode cX7_walks 79 = .ok (.lrem, 1) := by decide +kernel
theorem dX7_walks_80 : decode cX7_walks 80 = .ok (.lstore 5, 2) := by decide +kernel
theorem dX7_walks_82 : decode cX7_walks 82 = .ok (.aload_n 0, 1) := by decide +kernel
theorem dX7_walks_83 : decode cX7_walks 83 = .ok (.getfield 43, 3) := by decide +kernel
theorem dX7_walks_86 : decode cX7_walks 86 = .ok (.lload 5, 2) := by decide +kernel
theorem dX7_walks_88 : decode cX7_walks 88 = .ok (.l2i, 1) := by decide +kernel
theorem dX7_walks_89 : decode cX7_walks 89 = .ok (.iload 4, 2) := by decide +kernel
theorem dX7_walks_91 : decode cX7_walks 91 = .ok (.iload 4, 2) := by decide +kernel
theorem dX7_walks_93 : decode cX7_walks 93 = .ok (.iload 7, 2) := by decide +kernel
theorem dX7_walks_95 : decode cX7_walks 95 = .ok (.invokestatic 64, 3) := by decide +kernel
theorem dX7_walks_98 : decode cX7_walks 98 = .ok (.idiv, 1) := by decide +kernel
theorem dX7_walks_99 : decode cX7_walks 99 = .ok (.iastore, 1) := by decide +kernel
theorem dX7_walks_100 : decode cX7_walks 100 = .ok (.iinc 7 1, 3) := by decide +kernel
theorem dX7_walks_103 : decode cX7_walks 103 = .ok (.goto (-38), 3) := by decide +kernel
theorem dX7_walks_106 : decode cX7_walks 106 = .ok (.iinc 3 1, 3) := by decide +kernel
theorem dX7_walks_109 : decode cX7_walks 109 = .ok (.goto (-85), 3) := by decide +kernel
theorem dX7_walks_112 : decode cX7_walks 112 = .ok (.iload_n 2, 1) := by decide +kernel
theorem dX7_walks_113 : decode cX7_walks 113 = .ok (.ireturn, 1) := by decide +kernel
set_option maxRecDepth 20000 in
theorem ggX7_orders_X7_isBy : GoodIn wsX7_orders wsX7_isBy := goodIn_r _ [6, 7, 1, 8, 9, 5, 10] (by decide +kernel) (by decide +kernel)
set_option maxRecDepth 20000 in
theorem gX7_orders_X7_isBy : GoodIn wsX7_orders (va_wsS RX7 68 yX7_isBy wsX7_isBy) := goodIn_app (goodIn_of _ (by decide +kernel)) ggX7_orders_X7_isBy
set_option maxRecDepth 20000 in
theorem ggX7_orders_X7_in : GoodIn wsX7_orders wsX7_in := goodIn_r _ [10] (by decide +kernel) (by decide +kernel)
set_option maxRecDepth 20000 in
theorem gX7_orders_X7_in : GoodIn wsX7_orders (va_wsS RX7 60 yX7_in wsX7_in) := goodIn_app (goodIn_of _ (by decide +kernel)) ggX7_orders_X7_in
set_option maxRecDepth 20000 in
theorem ggX7_orders_X7_walks : GoodIn wsX7_orders wsX7_walks := goodIn_r _ [14, 2, 15, 16, 5, 17, 18, 19, 20, 21, 22, 23, 24, 25, 26, 27, 28, 29, 30, 31, 32, 33, 34, 35, 36, 37, 38, 39, 40, 41] (by decide +kernel) (by decide +kernel)
set_option maxRecDepth 20000 in
theorem gX7_orders_X7_walks : GoodIn wsX7_orders (wsV RX7 82 RX7 yX7_walks wsX7_walks) := goodIn_app (goodIn_of _ (by decide +kernel)) ggX7_orders_X7_walks
theorem dX7_orders_0 : decode cX7_orders 0 = .ok (.iload_n 1, 1) := by decide +kernel
theorem dX7_orders_1 : decode cX7_orders 1 = .ok (.invokestatic 68, 3) := by decide +kernel
theorem dX7_orders_4 : decode cX7_orders 4 = .ok (.ifCond .eq 30, 3) := by decide +kernel
theorem dX7_orders_7 : decode cX7_orders 7 = .ok (.iload_n 3, 1) := by decide +kernel
theorem dX7_orders_8 : decode cX7_orders 8 = .ok (.i2l, 1) := by decide +kernel
theorem dX7_orders_9 : decode cX7_orders 9 = .ok (.lconst 0, 1) := by decide +kernel
theorem dX7_orders_10 : decode cX7_orders 10 = .ok (.lconst 1, 1) := by decide +kernel
theorem dX7_orders_11 : decode cX7_orders 11 = .ok (.invokestatic 60, 3) := by decide +kernel
theorem dX7_orders_14 : decode cX7_orders 14 = .ok (.ifCond .eq 20, 3) := by decide +kernel
theorem dX7_orders_17 : decode cX7_orders 17 = .ok (.iload_n 3, 1) := by decide +kernel
theorem dX7_orders_18 : decode cX7_orders 18 = .ok (.iconst 1, 1) := by decide +kernel
theorem dX7_orders_19 : decode cX7_orders 19 = .ok (.if_icmp .ne 17, 3) := by decide +kernel
theorem dX7_orders_22 : decode cX7_orders 22 = .ok (.iload_n 2, 1) := by decide +kernel
theorem dX7_orders_23 : decode cX7_orders 23 = .ok (.i2l, 1) := by decide +kernel
theorem dX7_orders_24 : decode cX7_orders 24 = .ok (.lconst 1, 1) := by decide +kernel
theorem dX7_orders_25 : decode cX7_orders 25 = .ok (.ldc2_w 58, 3) := by decide +kernel
theorem dX7_orders_28 : decode cX7_orders 28 = .ok (.invokestatic 60, 3) := by decide +kernel
theorem dX7_orders_31 : decode cX7_orders 31 = .ok (.ifCond .ne 5, 3) := by decide +kernel
theorem dX7_orders_34 : decode cX7_orders 34 = .ok (.iconst (-1), 1) := by decide +kernel
theorem dX7_orders_35 : decode cX7_orders 35 = .ok (.ireturn, 1) := by decide +kernel
theorem dX7_orders_36 : decode cX7_orders 36 = .ok (.aload_n 0, 1) := by decide +kernel
theorem dX7_orders_37 : decode cX7_orders 37 = .ok (.iload_n 1, 1) := by decide +kernel
theorem dX7_orders_38 : decode cX7_orders 38 = .ok (.invokevirtual 82, 3) := by decide +kernel
theorem dX7_orders_41 : decode cX7_orders 41 = .ok (.pop, 1) := by decide +kernel
theorem dX7_orders_42 : decode cX7_orders 42 = .ok (.iconst 0, 1) := by decide +kernel
theorem dX7_orders_43 : decode cX7_orders 43 = .ok (.istore 4, 2) := by decide +kernel
theorem dX7_orders_45 : decode cX7_orders 45 = .ok (.iconst 0, 1) := by decide +kernel
theorem dX7_orders_46 : decode cX7_orders 46 = .ok (.istore 5, 2) := by decide +kernel
theorem dX7_orders_48 : decode cX7_orders 48 = .ok (.iconst 0, 1) := by decide +kernel
theorem dX7_orders_49 : decode cX7_orders 49 = .ok (.istore 6, 2) := by decide +kernel
theorem dX7_orders_51 : decode cX7_orders 51 = .ok (.iload 6, 2) := by decide +kernel
theorem dX7_orders_53 : decode cX7_orders 53 = .ok (.iload_n 1, 1) := by decide +kernel
theorem dX7_orders_54 : decode cX7_orders 54 = .ok (.if_icmp .ge 56, 3) := by decide +kernel
theorem dX7_orders_57 : decode cX7_orders 57 = .ok (.aload_n 0, 1) := by decide +kernel
theorem dX7_orders_58 : decode cX7_orders 58 = .ok (.getfield 43, 3) := by decide +kernel
theorem dX7_orders_61 : decode cX7_orders 61 = .ok (.iload 6, 2) := by decide +kernel
theorem dX7_orders_63 : decode cX7_orders 63 = .ok (.iaload, 1) := by decide +kernel
theorem dX7_orders_64 : decode cX7_orders 64 = .ok (.iload 4, 2) := by decide +kernel
theorem dX7_orders_66 : decode cX7_orders 66 = .ok (.if_icmp .le 13, 3) := by decide +kernel
theorem dX7_orders_69 : decode cX7_orders 69 = .ok (.aload_n 0, 1) := by decide +kernel
theorem dX7_orders_70 : decode cX7_orders 70 = .ok (.getfield 43, 3) := by decide +kernel
