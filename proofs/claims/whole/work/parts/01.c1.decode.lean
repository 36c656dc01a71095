theorem dX6_init_5 : decode cX6_init 5 = .ok (.new 7, 3) := by decide +kernel
theorem dX6_init_8 : decode cX6_init 8 = .ok (.dup, 1) := by decide +kernel
theorem dX6_init_9 : decode cX6_init 9 = .ok (.invokespecial 9, 3) := by decide +kernel
theorem dX6_init_12 : decode cX6_init 12 = .ok (.putfield 10, 3) := by decide +kernel
theorem dX6_init_15 : decode cX6_init 15 = .ok (.aload_n 0, 1) := by decide +kernel
theorem dX6_init_16 : decode cX6_init 16 = .ok (.new 7, 3) := by decide +kernel
theorem dX6_init_19 : decode cX6_init 19 = .ok (.dup, 1) := by decide +kernel
theorem dX6_init_20 : decode cX6_init 20 = .ok (.invokespecial 9, 3) := by decide +kernel
theorem dX6_init_23 : decode cX6_init 23 = .ok (.putfield 16, 3) := by decide +kernel
theorem dX6_init_26 : decode cX6_init 26 = .ok (.aload_n 0, 1) := by decide +kernel
theorem dX6_init_27 : decode cX6_init 27 = .ok (.new 19, 3) := by decide +kernel
theorem dX6_init_30 : decode cX6_init 30 = .ok (.dup, 1) := by decide +kernel
theorem dX6_init_31 : decode cX6_init 31 = .ok (.invokespecial 21, 3) := by decide +kernel
theorem dX6_init_34 : decode cX6_init 34 = .ok (.putfield 22, 3) := by decide +kernel
theorem dX6_init_37 : decode cX6_init 37 = .ok (.aload_n 0, 1) := by decide +kernel
theorem dX6_init_38 : decode cX6_init 38 = .ok (.new 26, 3) := by decide +kernel
theorem dX6_init_41 : decode cX6_init 41 = .ok (.dup, 1) := by decide +kernel
theorem dX6_init_42 : decode cX6_init 42 = .ok (.invokespecial 28, 3) := by decide +kernel
theorem dX6_init_45 : decode cX6_init 45 = .ok (.putfield 29, 3) := by decide +kernel
theorem dX6_init_48 : decode cX6_init 48 = .ok (.aload_n 0, 1) := by decide +kernel
theorem dX6_init_49 : decode cX6_init 49 = .ok (.new 33, 3) := by decide +kernel
theorem dX6_init_52 : decode cX6_init 52 = .ok (.dup, 1) := by decide +kernel
theorem dX6_init_53 : decode cX6_init 53 = .ok (.invokespecial 35, 3) := by decide +kernel
theorem dX6_init_56 : decode cX6_init 56 = .ok (.putfield 36, 3) := by decide +kernel
theorem dX6_init_59 : decode cX6_init 59 = .ok (.aload_n 0, 1) := by decide +kernel
theorem dX6_init_60 : decode cX6_init 60 = .ok (.new 40, 3) := by decide +kernel
theorem dX6_init_63 : decode cX6_init 63 = .ok (.dup, 1) := by decide +kernel
theorem dX6_init_64 : decode cX6_init 64 = .ok (.invokespecial 42, 3) := by decide +kernel
theorem dX6_init_67 : decode cX6_init 67 = .ok (.putfield 43, 3) := by decide +kernel
theorem dX6_init_70 : decode cX6_init 70 = .ok (.aload_n 0, 1) := by decide +kernel
theorem dX6_init_71 : decode cX6_init 71 = .ok (.bipush 7, 2) := by decide +kernel
theorem dX6_init_73 : decode cX6_init 73 = .ok (.newarray .int, 2) := by decide +kernel
theorem dX6_init_75 : decode cX6_init 75 = .ok (.putfield 47, 3) := by decide +kernel
theorem dX6_init_78 : decode cX6_init 78 = .ok (.aload_n 0, 1) := by decide +kernel
theorem dX6_init_79 : decode cX6_init 79 = .ok (.bipush 16, 2) := by decide +kernel
theorem dX6_init_81 : decode cX6_init 81 = .ok (.newarray .int, 2) := by decide +kernel
theorem dX6_init_83 : decode cX6_init 83 = .ok (.putfield 51, 3) := by decide +kernel
theorem dX6_init_86 : decode cX6_init 86 = .ok (.return_, 1) := by decide +kernel
set_option maxRecDepth 20000 in
theorem ggX6_units_X6_isDivisor : GoodIn wsX6_units wsX6_isDivisor := goodIn_r _ [5, 6] (by decide +kernel) (by decide +kernel)
set_option maxRecDepth 20000 in
theorem gX6_units_X6_isDivisor : GoodIn wsX6_units (va_wsS RX6 54 yX6_isDivisor wsX6_isDivisor) := goodIn_app (goodIn_of _ (by decide +kernel)) ggX6_units_X6_isDivisor
set_option maxRecDepth 20000 in
theorem ggX6_units_X0_split : GoodIn wsX6_units wsX0_split := goodIn_r _ [11, 12, 13, 14, 15, 10, 16, 17, 18, 45, 46, 47] (by decide +kernel) (by decide +kernel)
set_option maxRecDepth 20000 in
theorem gX6_units_X0_split : GoodIn wsX6_units (wsV RX6 58 RX0 yX0_split wsX0_split) := goodIn_app (goodIn_of _ (by decide +kernel)) ggX6_units_X0_split
set_option maxRecDepth 20000 in
theorem ggX6_units_X0_unitCount : GoodIn wsX6_units wsX0_unitCount := goodIn_r _ [22, 12, 23, 24, 25, 10, 26, 17, 18, 45, 46, 47] (by decide +kernel) (by decide +kernel)
set_option maxRecDepth 20000 in
theorem gX6_units_X0_unitCount : GoodIn wsX6_units (wsV RX6 62 RX0 yX0_unitCount wsX0_unitCount) := goodIn_app (goodIn_of _ (by decide +kernel)) ggX6_units_X0_unitCount
set_option maxRecDepth 20000 in
theorem ggX6_units_X0_sharesWith : GoodIn wsX6_units wsX0_sharesWith := goodIn_r _ [30, 12, 17, 31, 32, 33, 34, 45, 46, 47] (by decide +kernel) (by decide +kernel)
set_option maxRecDepth 20000 in
theorem gX6_units_X0_sharesWith : GoodIn wsX6_units (wsV RX6 66 RX0 yX0_sharesWith wsX0_sharesWith) := goodIn_app (goodIn_of _ (by decide +kernel)) ggX6_units_X0_sharesWith
theorem dX6_units_0 : decode cX6_units 0 = .ok (.iload_n 1, 1) := by decide +kernel
theorem dX6_units_1 : decode cX6_units 1 = .ok (.invokestatic 54, 3) := by decide +kernel
theorem dX6_units_4 : decode cX6_units 4 = .ok (.ifCond .eq 8, 3) := by decide +kernel
theorem dX6_units_7 : decode cX6_units 7 = .ok (.iload_n 2, 1) := by decide +kernel
theorem dX6_units_8 : decode cX6_units 8 = .ok (.iconst (-1), 1) := by decide +kernel
theorem dX6_units_9 : decode cX6_units 9 = .ok (.if_icmp .ge 5, 3) := by decide +kernel
theorem dX6_units_12 : decode cX6_units 12 = .ok (.iconst (-1), 1) := by decide +kernel
theorem dX6_units_13 : decode cX6_units 13 = .ok (.ireturn, 1) := by decide +kernel
theorem dX6_units_14 : decode cX6_units 14 = .ok (.aload_n 0, 1) := by decide +kernel
theorem dX6_units_15 : decode cX6_units 15 = .ok (.getfield 10, 3) := by decide +kernel
theorem dX6_units_18 : decode cX6_units 18 = .ok (.iload_n 1, 1) := by decide +kernel
theorem dX6_units_19 : decode cX6_units 19 = .ok (.invokevirtual 58, 3) := by decide +kernel
theorem dX6_units_22 : decode cX6_units 22 = .ok (.iload_n 2, 1) := by decide +kernel
theorem dX6_units_23 : decode cX6_units 23 = .ok (.iconst (-1), 1) := by decide +kernel
theorem dX6_units_24 : decode cX6_units 24 = .ok (.if_icmp .ne 11, 3) := by decide +kernel
theorem dX6_units_27 : decode cX6_units 27 = .ok (.aload_n 0, 1) := by decide +kernel
theorem dX6_units_28 : decode cX6_units 28 = .ok (.getfield 10, 3) := by decide +kernel
theorem dX6_units_31 : decode cX6_units 31 = .ok (.invokevirtual 62, 3) := by decide +kernel
theorem dX6_units_34 : decode cX6_units 34 = .ok (.ireturn, 1) := by decide +kernel
theorem dX6_units_35 : decode cX6_units 35 = .ok (.iconst 0, 1) := by decide +kernel
theorem dX6_units_36 : decode cX6_units 36 = .ok (.istore_n 3, 1) := by decide +kernel
theorem dX6_units_37 : decode cX6_units 37 = .ok (.iconst 1, 1) := by decide +kernel
theorem dX6_units_38 : decode cX6_units 38 = .ok (.istore 4, 2) := by decide +kernel
theorem dX6_units_40 : decode cX6_units 40 = .ok (.iload 4, 2) := by decide +kernel
theorem dX6_units_42 : decode cX6_units 42 = .ok (.iload_n 1, 1) := by decide +kernel
theorem dX6_units_43 : decode cX6_units 43 = .ok (.if_icmp .ge 32, 3) := by decide +kernel
theorem dX6_units_46 : decode cX6_units 46 = .ok (.aload_n 0, 1) := by decide +kernel
theorem dX6_units_47 : decode cX6_units 47 = .ok (.getfield 10, 3) := by decide +kernel
theorem dX6_units_50 : decode cX6_units 50 = .ok (.iload 4, 2) := by decide +kernel
theorem dX6_units_52 : decode cX6_units 52 = .ok (.invokevirtual 66, 3) := by decide +kernel
theorem dX6_units_55 : decode cX6_units 55 = .ok (.ifCond .ne 14, 3) := by decide +kernel
theorem dX6_units_58 : decode cX6_units 58 = .ok (.iload_n 3, 1) := by decide +kernel
theorem dX6_units_59 : decode cX6_units 59 = .ok (.iload_n 2, 1) := by decide +kernel
theorem dX6_units_60 : decode cX6_units 60 = .ok (.if_icmp .ne 6, 3) := by decide +kernel
theorem dX6_units_63 : decode cX6_units 63 = .ok (.iload 4, 2) := by decide +kernel
theorem dX6_units_65 : decode cX6_units 65 = .ok (.ireturn, 1) := by decide +kernel
theorem dX6_units_66 : decode cX6_units 66 = .ok (.iinc 3 1, 3) := by decide +kernel
theorem dX6_units_69 : decode cX6_units 69 = .ok (.iinc 4 1, 3) := by decide +kernel
theorem dX6_units_72 : decode cX6_units 72 = .ok (.goto (-32), 3) := by decide +kernel
theorem dX6_units_75 : decode cX6_units 75 = .ok (.bipush (-4), 2) := by decide +kernel
theorem dX6_units_77 : decode cX6_units 77 = .ok (.ireturn, 1) := by decide +kernel
set_option maxRecDepth 20000 in
theorem ggX6_order_X6_isDivisor : GoodIn wsX6_order wsX6_isDivisor := goodIn_r _ [5, 6] (by decide +kernel) (by decide +kernel)
set_option maxRecDepth 20000 in
theorem gX6_order_X6_isDivisor : GoodIn wsX6_order (va_wsS RX6 54 yX6_isDivisor wsX6_isDivisor) := goodIn_app (goodIn_of _ (by decide +kernel)) ggX6_order_X6_isDivisor
set_option maxRecDepth 20000 in
theorem ggX6_order_X6_isRest : GoodIn wsX6_order wsX6_isRest := goodIn_r _ [9] (by decide +kernel) (by decide +kernel)
set_option maxRecDepth 20000 in
theorem gX6_order_X6_isRest : GoodIn wsX6_order (va_wsS RX6 69 yX6_isRest wsX6_isRest) := goodIn_app (goodIn_of _ (by decide +kernel)) ggX6_order_X6_isRest
set_option maxRecDepth 20000 in
theorem ggX6_order_X0_split : GoodIn wsX6_order wsX0_split := goodIn_r _ [14, 15, 16, 17, 18, 13, 19, 20, 21, 66, 67, 68] (by decide +kernel) (by decide +kernel)
set_option maxRecDepth 20000 in
theorem gX6_order_X0_split : GoodIn wsX6_order (wsV RX6 58 RX0 yX0_split wsX0_split) := goodIn_app (goodIn_of _ (by decide +kernel)) ggX6_order_X0_split
set_option maxRecDepth 20000 in
theorem ggX6_order_X0_sharesWith : GoodIn wsX6_order wsX0_sharesWith := goodIn_r _ [25, 15, 20, 26, 27, 28, 29, 66, 67, 68] (by decide +kernel) (by decide +kernel)
set_option maxRecDepth 20000 in
theorem gX6_order_X0_sharesWith : GoodIn wsX6_order (wsV RX6 66 RX0 yX0_sharesWith wsX0_sharesWith) := goodIn_app (goodIn_of _ (by decide +kernel)) ggX6_order_X0_sharesWith
set_option maxRecDepth 20000 in
theorem ggX6_order_X6_leastExponent : GoodIn wsX6_order wsX6_leastExponent := goodIn_r _ [33, 1, 34, 10, 11, 12, 13, 14, 15, 16, 17, 18, 19, 20, 21, 35, 36, 37, 38, 39, 40, 41, 42, 43, 44, 45, 46, 47, 48, 28, 49, 50, 51, 52, 53, 54, 55, 56, 57, 58, 59, 60, 61, 62, 63, 64, 65, 66, 67, 68] (by decide +kernel) (by decide +kernel)
set_option maxRecDepth 20000 in
theorem gX6_order_X6_leastExponent : GoodIn wsX6_order (wsV RX6 73 RX6 yX6_leastExponent wsX6_leastExponent) := goodIn_app (goodIn_of _ (by decide +kernel)) ggX6_order_X6_leastExponent
theorem dX6_order_0 : decode cX6_order 0 = .ok (.iload_n 1, 1) := by decide +kernel
theorem dX6_order_1 : decode cX6_order 1 = .ok (.invokestatic 54, 3) := by decide +kernel
theorem dX6_order_4 : decode cX6_order 4 = .ok (.ifCond .eq 11, 3) := by decide +kernel
theorem dX6_order_7 : decode cX6_order 7 = .ok (.iload_n 2, 1) := by decide +kernel
theorem dX6_order_8 : decode cX6_order 8 = .ok (.iload_n 1, 1) := by decide +kernel
theorem dX6_order_9 : decode cX6_order 9 = .ok (.invokestatic 69, 3) := by decide +kernel
theorem dX6_order_12 : decode cX6_order 12 = .ok (.ifCond .ne 5, 3) := by decide +kernel
theorem dX6_order_15 : decode cX6_order 15 = .ok (.iconst (-1), 1) := by decide +kernel
theorem dX6_order_16 : decode cX6_order 16 = .ok (.ireturn, 1) := by decide +kernel
theorem dX6_order_17 : decode cX6_order 17 = .ok (.aload_n 0, 1) := by decide +kernel
theorem dX6_order_18 : decode cX6_order 18 = .ok (.getfield 10, 3) := by decide +kernel
theorem dX6_order_21 : decode cX6_order 21 = .ok (.iload_n 1, 1) := by decide +kernel
theorem dX6_order_22 : decode cX6_order 22 = .ok (.invokevirtual 58, 3) := by decide +kernel
theorem dX6_order_25 : decode cX6_order 25 = .ok (.aload_n 0, 1) := by decide +kernel
theorem dX6_order_26 : decode cX6_order 26 = .ok (.getfield 10, 3) := by decide +kernel
theorem dX6_order_29 : decode cX6_order 29 = .ok (.iload_n 2, 1) := by decide +kernel
theorem dX6_order_30 : decode cX6_order 30 = .ok (.invokevirtual 66, 3) := by decide +kernel
theorem dX6_order_33 : decode cX6_order 33 = .ok (.ifCond .eq 8, 3) := by decide +kernel
theorem dX6_order_36 : decode cX6_order 36 = .ok (.bipush (-2), 2) := by decide +kernel
theorem dX6_order_38 : decode cX6_order 38 = .ok (.goto 9, 3) := by decide +kernel
theorem dX6_order_41 : decode cX6_order 41 = .ok (.aload_n 0, 1) := by decide +kernel
theorem dX6_order_42 : decode cX6_order 42 = .ok (.iload_n 2, 1) := by decide +kernel
theorem dX6_order_43 : decode cX6_order 43 = .ok (.iload_n 1, 1) := by decide +kernel
theorem dX6_order_44 : decode cX6_order 44 = .ok (.invokevirtual 73, 3) := by decide +kernel
theorem dX6_order_47 : decode cX6_order 47 = .ok (.ireturn, 1) := by decide +kernel
set_option maxRecDepth 20000 in
theorem ggX6_orders_X6_isDivisor : GoodIn wsX6_orders wsX6_isDivisor := goodIn_r _ [6, 1] (by decide +kernel) (by decide +kernel)
set_option maxRecDepth 20000 in
theorem gX6_orders_X6_isDivisor : GoodIn wsX6_orders (va_wsS RX6 54 yX6_isDivisor wsX6_isDivisor) := goodIn_app (goodIn_of _ (by decide +kernel)) ggX6_orders_X6_isDivisor
set_option maxRecDepth 20000 in
theorem ggX6_orders_X0_split : GoodIn wsX6_orders wsX0_split := goodIn_r _ [11, 12, 13, 14, 15, 10, 16, 17, 18, 58, 59, 60] (by decide +kernel) (by decide +kernel)
set_option maxRecDepth 20000 in
theorem gX6_orders_X0_split : GoodIn wsX6_orders (wsV RX6 58 RX0 yX0_split wsX0_split) := goodIn_app (goodIn_of _ (by decide +kernel)) ggX6_orders_X0_split
set_option maxRecDepth 20000 in
theorem ggX6_orders_X0_greatestOrder : GoodIn wsX6_orders wsX0_greatestOrder := goodIn_r _ [22, 12, 23, 24, 25, 10, 26, 17, 18, 27, 28, 29, 30, 31, 32, 33, 34, 35, 36, 37, 58, 59, 60] (by decide +kernel) (by decide +kernel)
set_option maxRecDepth 20000 in
theorem gX6_orders_X0_greatestOrder : GoodIn wsX6_orders (wsV RX6 78 RX0 yX0_greatestOrder wsX0_greatestOrder) := goodIn_app (goodIn_of _ (by decide +kernel)) ggX6_orders_X0_greatestOrder
set_option maxRecDepth 20000 in
theorem ggX6_orders_X6_unitsOfOrder : GoodIn wsX6_orders wsX6_unitsOfOrder := goodIn_r _ [41, 42, 2, 7, 8, 9, 10, 11, 12, 13, 14, 15, 16, 17, 18, 43, 44, 45, 46, 23, 24, 25, 26, 47, 36, 33, 37, 27, 28, 29, 30, 48, 49, 50, 51, 52, 53, 54, 55, 56, 57, 58, 59, 60] (by decide +kernel) (by decide +kernel)
set_option maxRecDepth 20000 in
theorem gX6_orders_X6_unitsOfOrder : GoodIn wsX6_orders (wsV RX6 81 RX6 yX6_unitsOfOrder wsX6_unitsOfOrder) := goodIn_app (goodIn_of _ (by decide +kernel)) ggX6_orders_X6_unitsOfOrder
theorem dX6_orders_0 : decode cX6_orders 0 = .ok (.iload_n 1, 1) := by decide +kernel
theorem dX6_orders_1 : decode cX6_orders 1 = .ok (.invokestatic 54, 3) := by decide +kernel
theorem dX6_orders_4 : decode cX6_orders 4 = .ok (.ifCond .eq 12, 3) := by decide +kernel
theorem dX6_orders_7 : decode cX6_orders 7 = .ok (.iload_n 3, 1) := by decide +kernel
theorem dX6_orders_8 : decode cX6_orders 8 = .ok (.ifCond .lt 8, 3) := by decide +kernel
theorem dX6_orders_11 : decode cX6_orders 11 = .ok (.iload_n 3, 1) := by decide +kernel
theorem dX6_orders_12 : decode cX6_orders 12 = .ok (.iconst 1, 1) := by decide +kernel
theorem dX6_orders_13 : decode cX6_orders 13 = .ok (.if_icmp .le 5, 3) := by decide +kernel
theorem dX6_orders_16 : decode cX6_orders 16 = .ok (.iconst (-1), 1) := by decide +kernel
theorem dX6_orders_17 : decode cX6_orders 17 = .ok (.ireturn, 1) := by decide +kernel
theorem dX6_orders_18 : decode cX6_orders 18 = .ok (.iload_n 3, 1) := by decide +kernel
theorem dX6_orders_19 : decode cX6_orders 19 = .ok (.iconst 1, 1) := by decide +kernel
theorem dX6_orders_20 : decode cX6_orders 20 = .ok (.if_icmp .ne 16, 3) := by decide +kernel
theorem dX6_orders_23 : decode cX6_orders 23 = .ok (.iload_n 2, 1) := by decide +kernel
theorem dX6_orders_24 : decode cX6_orders 24 = .ok (.iconst 1, 1) := by decide +kernel
theorem dX6_orders_25 : decode cX6_orders 25 = .ok (.if_icmp .lt 9, 3) := by decide +kernel
theorem dX6_orders_28 : decode cX6_orders 28 = .ok (.iload_n 2, 1) := by decide +kernel
theorem dX6_orders_29 : decode cX6_orders 29 = .ok (.ldc 77, 2) := by decide +kernel
theorem dX6_orders_31 : decode cX6_orders 31 = .ok (.if_icmp .le 5, 3) := by decide +kernel
theorem dX6_orders_34 : decode cX6_orders 34 = .ok (.iconst (-1), 1) := by decide +kernel
theorem dX6_orders_35 : decode cX6_orders 35 = .ok (.ireturn, 1) := by decide +kernel
theorem dX6_orders_36 : decode cX6_orders 36 = .ok (.aload_n 0, 1) := by decide +kernel
theorem dX6_orders_37 : decode cX6_orders 37 = .ok (.getfield 10, 3) := by decide +kernel
theorem dX6_orders_40 : decode cX6_orders 40 = .ok (.iload_n 1, 1) := by decide +kernel
theorem dX6_orders_41 : decode cX6_orders 41 = .ok (.invokevirtual 58, 3) := by decide +kernel
theorem dX6_orders_44 : decode cX6_orders 44 = .ok (.iload_n 3, 1) := by decide +kernel
theorem dX6_orders_45 : decode cX6_orders 45 = .ok (.ifCond .ne 13, 3) := by decide +kernel
theorem dX6_orders_48 : decode cX6_orders 48 = .ok (.aload_n 0, 1) := by decide +kernel
theorem dX6_orders_49 : decode cX6_orders 49 = .ok (.getfield 10, 3) := by decide +kernel
theorem dX6_orders_52 : decode cX6_orders 52 = .ok (.invokevirtual 78, 3) := by decide +kernel
theorem dX6_orders_55 : decode cX6_orders 55 = .ok (.goto 8, 3) := by decide +kernel
theorem dX6_orders_58 : decode cX6_orders 58 = .ok (.aload_n 0, 1) := by decide +kernel
theorem dX6_orders_59 : decode cX6_orders 59 = .ok (.iload_n 2, 1) := by decide +kernel
theorem dX6_orders_60 : decode cX6_orders 60 = .ok (.invokevirtual 81, 3) := by decide +kernel
theorem dX6_orders_63 : decode cX6_orders 63 = .ok (.ireturn, 1) := by decide +kernel
set_option maxRecDepth 20000 in
theorem ggX6_makers_X6_isDivisor : GoodIn wsX6_makers wsX6_isDivisor := goodIn_r _ [7, 8] (by decide +kernel) (by decide +kernel)
set_option maxRecDepth 20000 in
theorem gX6_makers_X6_isDivisor : GoodIn wsX6_makers (va_wsS RX6 54 yX6_isDivisor wsX6_isDivisor) := goodIn_app (goodIn_of _ (by decide +kernel)) ggX6_makers_X6_isDivisor
set_option maxRecDepth 20000 in
theorem ggX6_makers_X0_split : GoodIn wsX6_makers wsX0_split := goodIn_r _ [13, 14, 15, 16, 17, 12, 18, 19, 20, 95, 96, 97] (by decide +kernel) (by decide +kernel)
set_option maxRecDepth 20000 in
theorem gX6_makers_X0_split : GoodIn wsX6_makers (wsV RX6 58 RX0 yX0_split wsX0_split) := goodIn_app (goodIn_of _ (by decide +kernel)) ggX6_makers_X0_split
set_option maxRecDepth 20000 in
theorem ggX6_makers_X0_unitCount : GoodIn wsX6_makers wsX0_unitCount := goodIn_r _ [24, 14, 25, 26, 27, 12, 28, 19, 20, 95, 96, 97] (by decide +kernel) (by decide +kernel)
set_option maxRecDepth 20000 in
theorem gX6_makers_X0_unitCount : GoodIn wsX6_makers (wsV RX6 62 RX0 yX0_unitCount wsX0_unitCount) := goodIn_app (goodIn_of _ (by decide +kernel)) ggX6_makers_X0_unitCount
set_option maxRecDepth 20000 in
theorem ggX6_makers_X0_greatestOrder : GoodIn wsX6_makers wsX0_greatestOrder := goodIn_r _ [32, 14, 33, 34, 35, 12, 36, 19, 20, 25, 26, 27, 28, 37, 38, 39, 40, 41, 42, 43, 95, 96, 97] (by decide +kernel) (by decide +kernel)
set_option maxRecDepth 20000 in
theorem gX6_makers_X0_greatestOrder : GoodIn wsX6_makers (wsV RX6 78 RX0 yX0_greatestOrder wsX0_greatestOrder) := goodIn_app (goodIn_of _ (by decide +kernel)) ggX6_makers_X0_greatestOrder
set_option maxRecDepth 20000 in
theorem ggX6_makers_X6_markMakers : GoodIn wsX6_makers wsX6_markMakers := goodIn_r _ [47, 3, 2, 48, 49, 50, 6, 51, 52, 53, 54, 55, 56, 57, 39, 58, 59, 60, 61, 62, 63, 64, 65, 66, 67, 12, 68, 14, 19, 69, 70, 71, 72, 73, 74, 75, 76, 85, 86, 87, 88, 89, 90, 91, 92, 93, 94, 95, 96, 97, 98] (by decide +kernel) (by decide +kernel)
set_option maxRecDepth 20000 in
theorem gX6_makers_X6_markMakers : GoodIn wsX6_makers (wsV RX6 85 RX6 yX6_markMakers wsX6_markMakers) := goodIn_app (goodIn_of _ (by decide +kernel)) ggX6_makers_X6_markMakers
set_option maxRecDepth 20000 in
theorem ggX6_makers_X3_pick : GoodIn wsX6_makers wsX3_pick := goodIn_r _ [80, 81, 82, 83, 62, 84, 64, 98] (by decide +kernel) (by decide +kernel)
set_option maxRecDepth 20000 in
theorem gX6_makers_X3_pick : GoodIn wsX6_makers (wsV RX6 89 RX3 yX3_pick wsX3_pick) := goodIn_app (goodIn_of _ (by decide +kernel)) ggX6_makers_X3_pick
theorem dX6_makers_0 : decode cX6_makers 0 = .ok (.iload_n 1, 1) := by decide +kernel
theorem dX6_makers_1 : decode cX6_makers 1 = .ok (.invokestatic 54, 3) := by decide +kernel
theorem dX6_makers_4 : decode cX6_makers 4 = .ok (.ifCond .eq 8, 3) := by decide +kernel
theorem dX6_makers_7 : decode cX6_makers 7 = .ok (.iload_n 2, 1) := by decide +kernel
theorem dX6_makers_8 : decode cX6_makers 8 = .ok (.iconst (-1), 1) := by decide +kernel
theorem dX6_makers_9 : decode cX6_makers 9 = .ok (.if_icmp .ge 5, 3) := by decide +kernel
theorem dX6_makers_12 : decode cX6_makers 12 = .ok (.iconst (-1), 1) := by decide +kernel
theorem dX6_makers_13 : decode cX6_makers 13 = .ok (.ireturn, 1) := by decide +kernel
theorem dX6_makers_14 : decode cX6_makers 14 = .ok (.aload_n 0, 1) := by decide +kernel
theorem dX6_makers_15 : decode cX6_makers 15 = .ok (.getfield 10, 3) := by decide +kernel
theorem dX6_makers_18 : decode cX6_makers 18 = .ok (.iload_n 1, 1) := by decide +kernel
theorem dX6_makers_19 : decode cX6_makers 19 = .ok (.invokevirtual 58, 3) := by decide +kernel
theorem dX6_makers_22 : decode cX6_makers 22 = .ok (.aload_n 0, 1) := by decide +kernel
theorem dX6_makers_23 : decode cX6_makers 23 = .ok (.getfield 10, 3) := by decide +kernel
theorem dX6_makers_26 : decode cX6_makers 26 = .ok (.invokevirtual 62, 3) := by decide +kernel
theorem dX6_makers_29 : decode cX6_makers 29 = .ok (.istore_n 3, 1) := by decide +kernel
theorem dX6_makers_30 : decode cX6_makers 30 = .ok (.aload_n 0, 1) := by decide +kernel
theorem dX6_makers_31 : decode cX6_makers 31 = .ok (.getfield 16, 3) := by decide +kernel
theorem dX6_makers_34 : decode cX6_makers 34 = .ok (.iload_n 3, 1) := by decide +kernel
theorem dX6_makers_35 : decode cX6_makers 35 = .ok (.invokevirtual 58, 3) := by decide +kernel
theorem dX6_makers_38 : decode cX6_makers 38 = .ok (.aload_n 0, 1) := by decide +kernel
theorem dX6_makers_39 : decode cX6_makers 39 = .ok (.getfield 10, 3) := by decide +kernel
theorem dX6_makers_42 : decode cX6_makers 42 = .ok (.invokevirtual 78, 3) := by decide +kernel
theorem dX6_makers_45 : decode cX6_makers 45 = .ok (.iload_n 3, 1) := by decide +kernel
theorem dX6_makers_46 : decode cX6_makers 46 = .ok (.if_icmp .ne 13, 3) := by decide +kernel
theorem dX6_makers_49 : decode cX6_makers 49 = .ok (.aload_n 0, 1) := by decide +kernel
theorem dX6_makers_50 : decode cX6_makers 50 = .ok (.getfield 16, 3) := by decide +kernel
theorem dX6_makers_53 : decode cX6_makers 53 = .ok (.invokevirtual 62, 3) := by decide +kernel
theorem dX6_makers_56 : decode cX6_makers 56 = .ok (.goto 4, 3) := by decide +kernel
theorem dX6_makers_59 : decode cX6_makers 59 = .ok (.iconst 0, 1) := by decide +kernel
theorem dX6_makers_60 : decode cX6_makers 60 = .ok (.istore 4, 2) := by decide +kernel
theorem dX6_makers_62 : decode cX6_makers 62 = .ok (.iload_n 2, 1) := by decide +kernel
theorem dX6_makers_63 : decode cX6_makers 63 = .ok (.iconst (-1), 1) := by decide +kernel
theorem dX6_makers_64 : decode cX6_makers 64 = .ok (.if_icmp .ne 6, 3) := by decide +kernel
theorem dX6_makers_67 : decode cX6_makers 67 = .ok (.iload 4, 2) := by decide +kernel
theorem dX6_makers_69 : decode cX6_makers 69 = .ok (.ireturn, 1) := by decide +kernel
theorem dX6_makers_70 : decode cX6_makers 70 = .ok (.iload_n 2, 1) := by decide +kernel
theorem dX6_makers_71 : decode cX6_makers 71 = .ok (.iload 4, 2) := by decide +kernel
theorem dX6_makers_73 : decode cX6_makers 73 = .ok (.if_icmp .lt 6, 3) := by decide +kernel
theorem dX6_makers_76 : decode cX6_makers 76 = .ok (.bipush (-4), 2) := by decide +kernel
theorem dX6_makers_78 : decode cX6_makers 78 = .ok (.ireturn, 1) := by decide +kernel
theorem dX6_makers_79 : decode cX6_makers 79 = .ok (.aload_n 0, 1) := by decide +kernel
theorem dX6_makers_80 : decode cX6_makers 80 = .ok (.iload_n 1, 1) := by decide +kernel
theorem dX6_makers_81 : decode cX6_makers 81 = .ok (.iload_n 3, 1) := by decide +kernel
theorem dX6_makers_82 : decode cX6_makers 82 = .ok (.invokevirtual 85, 3) := by decide +kernel
theorem dX6_makers_85 : decode cX6_makers 85 = .ok (.aload_n 0, 1) := by decide +kernel
theorem dX6_makers_86 : decode cX6_makers 86 = .ok (.getfield 22, 3) := by decide +kernel
theorem dX6_makers_89 : decode cX6_makers 89 = .ok (.iload_n 2, 1) := by decide +kernel
theorem dX6_makers_90 : decode cX6_makers 90 = .ok (.iload_n 1, 1) := by decide +kernel
theorem dX6_makers_91 : decode cX6_makers 91 = .ok (.invokevirtual 89, 3) := by decide +kernel
theorem dX6_makers_94 : decode cX6_makers 94 = .ok (.ireturn, 1) := by decide +kernel
set_option maxRecDepth 20000 in
theorem ggX6_power_X6_isDivisor : GoodIn wsX6_power wsX6_isDivisor := goodIn_r _ [5, 6] (by decide +kernel) (by decide +kernel)
set_option maxRecDepth 20000 in
theorem gX6_power_X6_isDivisor : GoodIn wsX6_power (va_wsS RX6 54 yX6_isDivisor wsX6_isDivisor) := goodIn_app (goodIn_of _ (by decide +kernel)) ggX6_power_X6_isDivisor
set_option maxRecDepth 20000 in
theorem ggX6_power_X6_isRest : GoodIn wsX6_power wsX6_isRest := goodIn_r _ [9] (by decide +kernel) (by decide +kernel)
set_option maxRecDepth 20000 in
theorem gX6_power_X6_isRest : GoodIn wsX6_power (va_wsS RX6 69 yX6_isRest wsX6_isRest) := goodIn_app (goodIn_of _ (by decide +kernel)) ggX6_power_X6_isRest
set_option maxRecDepth 20000 in
theorem ggX6_power_X4_raise : GoodIn wsX6_power wsX4_raise := goodIn_r _ [13] (by decide +kernel) (by decide +kernel)
set_option maxRecDepth 20000 in
theorem gX6_power_X4_raise : GoodIn wsX6_power (va_wsS RX6 94 yX4_raise wsX4_raise) := goodIn_app (goodIn_of _ (by decide +kernel)) ggX6_power_X4_raise
theorem dX6_power_0 : decode cX6_power 0 = .ok (.iload_n 1, 1) := by decide +kernel
theorem dX6_power_1 : decode cX6_power 1 = .ok (.invokestatic 54, 3) := by decide +kernel
theorem dX6_power_4 : decode cX6_power 4 = .ok (.ifCond .eq 25, 3) := by decide +kernel
theorem dX6_power_7 : decode cX6_power 7 = .ok (.iload_n 2, 1) := by decide +kernel
theorem dX6_power_8 : decode cX6_power 8 = .ok (.iload_n 1, 1) := by decide +kernel
theorem dX6_power_9 : decode cX6_power 9 = .ok (.invokestatic 69, 3) := by decide +kernel
theorem dX6_power_12 : decode cX6_power 12 = .ok (.ifCond .eq 17, 3) := by decide +kernel
theorem dX6_power_15 : decode cX6_power 15 = .ok (.lload_n 3, 1) := by decide +kernel
theorem dX6_power_16 : decode cX6_power 16 = .ok (.lconst 0, 1) := by decide +kernel
theorem dX6_power_17 : decode cX6_power 17 = .ok (.lcmp, 1) := by decide +kernel
theorem dX6_power_18 : decode cX6_power 18 = .ok (.ifCond .lt 11, 3) := by decide +kernel
theorem dX6_power_21 : decode cX6_power 21 = .ok (.lload_n 3, 1) := by decide +kernel
theorem dX6_power_22 : decode cX6_power 22 = .ok (.ldc2_w 92, 3) := by decide +kernel
theorem dX6_power_25 : decode cX6_power 25 = .ok (.lcmp, 1) := by decide +kernel
theorem dX6_power_26 : decode cX6_power 26 = .ok (.ifCond .le 5, 3) := by decide +kernel
theorem dX6_power_29 : decode cX6_power 29 = .ok (.iconst (-1), 1) := by decide +kernel
theorem dX6_power_30 : decode cX6_power 30 = .ok (.ireturn, 1) := by decide +kernel
theorem dX6_power_31 : decode cX6_power 31 = .ok (.iload_n 2, 1) := by decide +kernel
theorem dX6_power_32 : decode cX6_power 32 = .ok (.i2l, 1) := by decide +kernel
theorem dX6_power_33 : decode cX6_power 33 = .ok (.lload_n 3, 1) := by decide +kernel
theorem dX6_power_34 : decode cX6_power 34 = .ok (.iload_n 1, 1) := by decide +kernel
theorem dX6_power_35 : decode cX6_power 35 = .ok (.invokestatic 94, 3) := by decide +kernel
theorem dX6_power_38 : decode cX6_power 38 = .ok (.ireturn, 1) := by decide +kernel
set_option maxRecDepth 20000 in
theorem ggX6_log_X6_isDivisor : GoodIn wsX6_log wsX6_isDivisor := goodIn_r _ [4, 5] (by decide +kernel) (by decide +kernel)
set_option maxRecDepth 20000 in
theorem gX6_log_X6_isDivisor : GoodIn wsX6_log (va_wsS RX6 54 yX6_isDivisor wsX6_isDivisor) := goodIn_app (goodIn_of _ (by decide +kernel)) ggX6_log_X6_isDivisor
set_option maxRecDepth 20000 in
theorem ggX6_log_X6_isRest : GoodIn wsX6_log wsX6_isRest := goodIn_r _ [8] (by decide +kernel) (by decide +kernel)
set_option maxRecDepth 20000 in
theorem gX6_log_X6_isRest : GoodIn wsX6_log (va_wsS RX6 69 yX6_isRest wsX6_isRest) := goodIn_app (goodIn_of _ (by decide +kernel)) ggX6_log_X6_isRest
set_option maxRecDepth 20000 in
theorem ggX6_log_X6_leastLog : GoodIn wsX6_log wsX6_leastLog := goodIn_r _ [11, 12, 13, 14, 15] (by decide +kernel) (by decide +kernel)
set_option maxRecDepth 20000 in
theorem gX6_log_X6_leastLog : GoodIn wsX6_log (va_wsS RX6 100 yX6_leastLog wsX6_leastLog) := goodIn_app (goodIn_of _ (by decide +kernel)) ggX6_log_X6_leastLog
theorem dX6_log_0 : decode cX6_log 0 = .ok (.iload_n 1, 1) := by decide +kernel
theorem dX6_log_1 : decode cX6_log 1 = .ok (.invokestatic 54, 3) := by decide +kernel
theorem dX6_log_4 : decode cX6_log 4 = .ok (.ifCond .eq 19, 3) := by decide +kernel
theorem dX6_log_7 : decode cX6_log 7 = .ok (.iload_n 2, 1) := by decide +kernel
theorem dX6_log_8 : decode cX6_log 8 = .ok (.iload_n 1, 1) := by decide +kernel
theorem dX6_log_9 : decode cX6_log 9 = .ok (.invokestatic 69, 3) := by decide +kernel
theorem dX6_log_12 : decode cX6_log 12 = .ok (.ifCond .eq 11, 3) := by decide +kernel
theorem dX6_log_15 : decode cX6_log 15 = .ok (.iload_n 3, 1) := by decide +kernel
theorem dX6_log_16 : decode cX6_log 16 = .ok (.iload_n 1, 1) := by decide +kernel
theorem dX6_log_17 : decode cX6_log 17 = .ok (.invokestatic 69, 3) := by decide +kernel
theorem dX6_log_20 : decode cX6_log 20 = .ok (.ifCond .ne 5, 3) := by decide +kernel
theorem dX6_log_23 : decode cX6_log 23 = .ok (.iconst (-1), 1) := by decide +kernel
theorem dX6_log_24 : decode cX6_log 24 = .ok (.ireturn, 1) := by decide +kernel
theorem dX6_log_25 : decode cX6_log 25 = .ok (.iload_n 1, 1) := by decide +kernel
theorem dX6_log_26 : decode cX6_log 26 = .ok (.iload_n 2, 1) := by decide +kernel
theorem dX6_log_27 : decode cX6_log 27 = .ok (.iload_n 3, 1) := by decide +kernel
theorem dX6_log_28 : decode cX6_log 28 = .ok (.invokestatic 100, 3) := by decide +kernel
theorem dX6_log_31 : decode cX6_log 31 = .ok (.ireturn, 1) := by decide +kernel
set_option maxRecDepth 20000 in
theorem ggX6_roots_X6_isDivisor : GoodIn wsX6_roots wsX6_isDivisor := goodIn_r _ [4, 5] (by decide +kernel) (by decide +kernel)
set_option maxRecDepth 20000 in
theorem gX6_roots_X6_isDivisor : GoodIn wsX6_roots (va_wsS RX6 54 yX6_isDivisor wsX6_isDivisor) := goodIn_app (goodIn_of _ (by decide +kernel)) ggX6_roots_X6_isDivisor
set_option maxRecDepth 20000 in
theorem ggX6_roots_X6_isRest : GoodIn wsX6_roots wsX6_isRest := goodIn_r _ [8] (by decide +kernel) (by decide +kernel)
set_option maxRecDepth 20000 in
theorem gX6_roots_X6_isRest : GoodIn wsX6_roots (va_wsS RX6 69 yX6_isRest wsX6_isRest) := goodIn_app (goodIn_of _ (by decide +kernel)) ggX6_roots_X6_isRest
set_option maxRecDepth 20000 in
theorem ggX6_roots_X4_raise : GoodIn wsX6_roots wsX4_raise := goodIn_r _ [12] (by decide +kernel) (by decide +kernel)
set_option maxRecDepth 20000 in
theorem gX6_roots_X4_raise : GoodIn wsX6_roots (va_wsS RX6 94 yX4_raise wsX4_raise) := goodIn_app (goodIn_of _ (by decide +kernel)) ggX6_roots_X4_raise
theorem dX6_roots_0 : decode cX6_roots 0 = .ok (.iload_n 1, 1) := by decide +kernel
theorem dX6_roots_1 : decode cX6_roots 1 = .ok (.invokestatic 54, 3) := by decide +kernel
theorem dX6_roots_4 : decode cX6_roots 4 = .ok (.ifCond .eq 28, 3) := by decide +kernel
theorem dX6_roots_7 : decode cX6_roots 7 = .ok (.iload_n 2, 1) := by decide +kernel
theorem dX6_roots_8 : decode cX6_roots 8 = .ok (.iload_n 1, 1) := by decide +kernel
theorem dX6_roots_9 : decode cX6_roots 9 = .ok (.invokestatic 69, 3) := by decide +kernel
theorem dX6_roots_12 : decode cX6_roots 12 = .ok (.ifCond .eq 20, 3) := by decide +kernel
theorem dX6_roots_15 : decode cX6_roots 15 = .ok (.iload_n 3, 1) := by decide +kernel
theorem dX6_roots_16 : decode cX6_roots 16 = .ok (.iconst 1, 1) := by decide +kernel
theorem dX6_roots_17 : decode cX6_roots 17 = .ok (.if_icmp .lt 15, 3) := by decide +kernel
theorem dX6_roots_20 : decode cX6_roots 20 = .ok (.iload_n 3, 1) := by decide +kernel
theorem dX6_roots_21 : decode cX6_roots 21 = .ok (.bipush 100, 2) := by decide +kernel
theorem dX6_roots_23 : decode cX6_roots 23 = .ok (.if_icmp .gt 9, 3) := by decide +kernel
theorem dX6_roots_26 : decode cX6_roots 26 = .ok (.iload 4, 2) := by decide +kernel
theorem dX6_roots_28 : decode cX6_roots 28 = .ok (.iconst (-1), 1) := by decide +kernel
theorem dX6_roots_29 : decode cX6_roots 29 = .ok (.if_icmp .ge 5, 3) := by decide +kernel
theorem dX6_roots_32 : decode cX6_roots 32 = .ok (.iconst (-1), 1) := by decide +kernel
theorem dX6_roots_33 : decode cX6_roots 33 = .ok (.ireturn, 1) := by decide +kernel
theorem dX6_roots_34 : decode cX6_roots 34 = .ok (.iconst 0, 1) := by decide +kernel
theorem dX6_roots_35 : decode cX6_roots 35 = .ok (.istore 5, 2) := by decide +kernel
theorem dX6_roots_37 : decode cX6_roots 37 = .ok (.iconst 0, 1) := by decide +kernel
theorem dX6_roots_38 : decode cX6_roots 38 = .ok (.istore 6, 2) := by decide +kernel
theorem dX6_roots_40 : decode cX6_roots 40 = .ok (.iload 6, 2) := by decide +kernel
theorem dX6_roots_42 : decode cX6_roots 42 = .ok (.iload_n 1, 1) := by decide +kernel
theorem dX6_roots_43 : decode cX6_roots 43 = .ok (.if_icmp .ge 35, 3) := by decide +kernel
theorem dX6_roots_46 : decode cX6_roots 46 = .ok (.iload 6, 2) := by decide +kernel
theorem dX6_roots_48 : decode cX6_roots 48 = .ok (.i2l, 1) := by decide +kernel
theorem dX6_roots_49 : decode cX6_roots 49 = .ok (.iload_n 3, 1) := by decide +kernel
theorem dX6_roots_50 : decode cX6_roots 50 = .ok (.i2l, 1) := by decide +kernel
theorem dX6_roots_51 : decode cX6_roots 51 = .ok (.iload_n 1, 1) := by decide +kernel
theorem dX6_roots_52 : decode cX6_roots 52 = .ok (.invokestatic 94, 3) := by decide +kernel
theorem dX6_roots_55 : decode cX6_roots 55 = .ok (.iload_n 2, 1) := by decide +kernel
theorem dX6_roots_56 : decode cX6_roots 56 = .ok (.if_icmp .ne 16, 3) := by decide +kernel
theorem dX6_roots_59 : decode cX6_roots 59 = .ok (.iload 5, 2) := by decide +kernel
theorem dX6_roots_61 : decode cX6_roots 61 = .ok (.iload 4, 2) := by decide +kernel
theorem dX6_roots_63 : decode cX6_roots 63 = .ok (.if_icmp .ne 6, 3) := by decide +kernel
theorem dX6_roots_66 : decode cX6_roots 66 = .ok (.iload 6, 2) := by decide +kernel
theorem dX6_roots_68 : decode cX6_roots 68 = .ok (.ireturn, 1) := by decide +kernel
theorem dX6_roots_69 : decode cX6_roots 69 = .ok (.iinc 5 1, 3) := by decide +kernel
theorem dX6_roots_72 : decode cX6_roots 72 = .ok (.iinc 6 1, 3) := by decide +kernel
theorem dX6_roots_75 : decode cX6_roots 75 = .ok (.goto (-35), 3) := by decide +kernel
theorem dX6_roots_78 : decode cX6_roots 78 = .ok (.iload 4, 2) := by decide +kernel
theorem dX6_roots_80 : decode cX6_roots 80 = .ok (.iconst (-1), 1) := by decide +kernel
theorem dX6_roots_81 : decode cX6_roots 81 = .ok (.if_icmp .ne 8, 3) := by decide +kernel
theorem dX6_roots_84 : decode cX6_roots 84 = .ok (.iload 5, 2) := by decide +kernel
theorem dX6_roots_86 : decode cX6_roots 86 = .ok (.goto 5, 3) := by decide +kernel
theorem dX6_roots_89 : decode cX6_roots 89 = .ok (.bipush (-4), 2) := by decide +kernel
theorem dX6_roots_91 : decode cX6_roots 91 = .ok (.ireturn, 1) := by decide +kernel
set_option maxRecDepth 20000 in
theorem ggX6_squares_X6_isDivisor : GoodIn wsX6_squares wsX6_isDivisor := goodIn_r _ [5, 6] (by decide +kernel) (by decide +kernel)
set_option maxRecDepth 20000 in
theorem gX6_squares_X6_isDivisor : GoodIn wsX6_squares (va_wsS RX6 54 yX6_isDivisor wsX6_isDivisor) := goodIn_app (goodIn_of _ (by decide +kernel)) ggX6_squares_X6_isDivisor
set_option maxRecDepth 20000 in
theorem ggX6_squares_X0_split : GoodIn wsX6_squares wsX0_split := goodIn_r _ [11, 12, 13, 14, 15, 10, 16, 17, 18, 66, 67, 68] (by decide +kernel) (by decide +kernel)
set_option maxRecDepth 20000 in
theorem gX6_squares_X0_split : GoodIn wsX6_squares (wsV RX6 58 RX0 yX0_split wsX0_split) := goodIn_app (goodIn_of _ (by decide +kernel)) ggX6_squares_X0_split
set_option maxRecDepth 20000 in
theorem ggX6_squares_X6_markSquares : GoodIn wsX6_squares wsX6_markSquares := goodIn_r _ [22, 23, 24, 25, 26, 27, 28, 29, 30, 31, 32, 33, 34, 35, 36, 37, 38, 56, 57, 58, 59, 60, 61, 62, 63, 64, 65, 69] (by decide +kernel) (by decide +kernel)
set_option maxRecDepth 20000 in
theorem gX6_squares_X6_markSquares : GoodIn wsX6_squares (wsV RX6 104 RX6 yX6_markSquares wsX6_markSquares) := goodIn_app (goodIn_of _ (by decide +kernel)) ggX6_squares_X6_markSquares
set_option maxRecDepth 20000 in
theorem ggX6_squares_X6_firstNoSquare : GoodIn wsX6_squares wsX6_firstNoSquare := goodIn_r _ [42, 23, 1, 43, 44, 45, 28, 46, 30, 47, 48, 49, 10, 50, 12, 17, 51, 32, 33, 34, 56, 57, 58, 59, 60, 61, 62, 63, 64, 65, 69, 66, 67, 68] (by decide +kernel) (by decide +kernel)
set_option maxRecDepth 20000 in
theorem gX6_squares_X6_firstNoSquare : GoodIn wsX6_squares (wsV RX6 107 RX6 yX6_firstNoSquare wsX6_firstNoSquare) := goodIn_app (goodIn_of _ (by decide +kernel)) ggX6_squares_X6_firstNoSquare
set_option maxRecDepth 20000 in
theorem ggX6_squares_X6_runsOfSquares : GoodIn wsX6_squares wsX6_runsOfSquares := goodIn_r _ [55, 23, 1, 43, 44, 45, 28, 46, 30, 47, 48, 49, 10, 50, 12, 17, 51, 32, 33, 34, 56, 57, 58, 59, 60, 61, 62, 63, 64, 65, 69, 66, 67, 68] (by decide +kernel) (by decide +kernel)
set_option maxRecDepth 20000 in
theorem gX6_squares_X6_runsOfSquares : GoodIn wsX6_squares (wsV RX6 110 RX6 yX6_runsOfSquares wsX6_runsOfSquares) := goodIn_app (goodIn_of _ (by decide +kernel)) ggX6_squares_X6_runsOfSquares
theorem dX6_squares_0 : decode cX6_squares 0 = .ok (.iload_n 1, 1) := by decide +kernel
theorem dX6_squares_1 : decode cX6_squares 1 = .ok (.invokestatic 54, 3) := by decide +kernel
theorem dX6_squares_4 : decode cX6_squares 4 = .ok (.ifCond .eq 12, 3) := by decide +kernel
theorem dX6_squares_7 : decode cX6_squares 7 = .ok (.iload_n 2, 1) := by decide +kernel
theorem dX6_squares_8 : decode cX6_squares 8 = .ok (.ifCond .lt 8, 3) := by decide +kernel
theorem dX6_squares_11 : decode cX6_squares 11 = .ok (.iload_n 2, 1) := by decide +kernel
theorem dX6_squares_12 : decode cX6_squares 12 = .ok (.iconst 3, 1) := by decide +kernel
theorem dX6_squares_13 : decode cX6_squares 13 = .ok (.if_icmp .le 5, 3) := by decide +kernel
theorem dX6_squares_16 : decode cX6_squares 16 = .ok (.iconst (-1), 1) := by decide +kernel
theorem dX6_squares_17 : decode cX6_squares 17 = .ok (.ireturn, 1) := by decide +kernel
theorem dX6_squares_18 : decode cX6_squares 18 = .ok (.aload_n 0, 1) := by decide +kernel
theorem dX6_squares_19 : decode cX6_squares 19 = .ok (.getfield 10, 3) := by decide +kernel
theorem dX6_squares_22 : decode cX6_squares 22 = .ok (.iload_n 1, 1) := by decide +kernel
theorem dX6_squares_23 : decode cX6_squares 23 = .ok (.invokevirtual 58, 3) := by decide +kernel
theorem dX6_squares_26 : decode cX6_squares 26 = .ok (.aload_n 0, 1) := by decide +kernel
theorem dX6_squares_27 : decode cX6_squares 27 = .ok (.iload_n 1, 1) := by decide +kernel
theorem dX6_squares_28 : decode cX6_squares 28 = .ok (.invokevirtual 104, 3) := by decide +kernel
theorem dX6_squares_31 : decode cX6_squares 31 = .ok (.iload_n 2, 1) := by decide +kernel
theorem dX6_squares_32 : decode cX6_squares 32 = .ok (.iconst 3, 1) := by decide +kernel
theorem dX6_squares_33 : decode cX6_squares 33 = .ok (.if_icmp .ne 11, 3) := by decide +kernel
theorem dX6_squares_36 : decode cX6_squares 36 = .ok (.aload_n 0, 1) := by decide +kernel
theorem dX6_squares_37 : decode cX6_squares 37 = .ok (.iload_n 1, 1) := by decide +kernel
theorem dX6_squares_38 : decode cX6_squares 38 = .ok (.invokevirtual 107, 3) := by decide +kernel
theorem dX6_squares_41 : decode cX6_squares 41 = .ok (.goto 9, 3) := by decide +kernel
theorem dX6_squares_44 : decode cX6_squares 44 = .ok (.aload_n 0, 1) := by decide +kernel
theorem dX6_squares_45 : decode cX6_squares 45 = .ok (.iload_n 1, 1) := by decide +kernel
theorem dX6_squares_46 : decode cX6_squares 46 = .ok (.iload_n 2, 1) := by decide +kernel
theorem dX6_squares_47 : decode cX6_squares 47 = .ok (.invokevirtual 110, 3) := by decide +kernel
theorem dX6_squares_50 : decode cX6_squares 50 = .ok (.ireturn, 1) := by decide +kernel
set_option maxRecDepth 20000 in
theorem ggX6_sign_X0_split : GoodIn wsX6_sign wsX0_split := goodIn_r _ [8, 9, 10, 11, 12, 7, 13, 14, 15, 37, 38, 39] (by decide +kernel) (by decide +kernel)
set_option maxRecDepth 20000 in
theorem gX6_sign_X0_split : GoodIn wsX6_sign (wsV RX6 58 RX0 yX0_split wsX0_split) := goodIn_app (goodIn_of _ (by decide +kernel)) ggX6_sign_X0_split
set_option maxRecDepth 20000 in
theorem ggX6_sign_X6_signByPrime : GoodIn wsX6_sign wsX6_signByPrime := goodIn_r _ [19, 20, 21, 22, 23, 24, 25, 26] (by decide +kernel) (by decide +kernel)
set_option maxRecDepth 20000 in
theorem gX6_sign_X6_signByPrime : GoodIn wsX6_sign (va_wsS RX6 122 yX6_signByPrime wsX6_signByPrime) := goodIn_app (goodIn_of _ (by decide +kernel)) ggX6_sign_X6_signByPrime
theorem dX6_sign_0 : decode cX6_sign 0 = .ok (.iload_n 1, 1) := by decide +kernel
theorem dX6_sign_1 : decode cX6_sign 1 = .ok (.ifCond .lt 26, 3) := by decide +kernel
theorem dX6_sign_4 : decode cX6_sign 4 = .ok (.iload_n 1, 1) := by decide +kernel
theorem dX6_sign_5 : decode cX6_sign 5 = .ok (.ldc 113, 2) := by decide +kernel
theorem dX6_sign_7 : decode cX6_sign 7 = .ok (.if_icmp .gt 20, 3) := by decide +kernel
theorem dX6_sign_10 : decode cX6_sign 10 = .ok (.iload_n 2, 1) := by decide +kernel
theorem dX6_sign_11 : decode cX6_sign 11 = .ok (.iconst 1, 1) := by decide +kernel
theorem dX6_sign_12 : decode cX6_sign 12 = .ok (.if_icmp .lt 15, 3) := by decide +kernel
theorem dX6_sign_15 : decode cX6_sign 15 = .ok (.iload_n 2, 1) := by decide +kernel
theorem dX6_sign_16 : decode cX6_sign 16 = .ok (.ldc 114, 2) := by decide +kernel
theorem dX6_sign_18 : decode cX6_sign 18 = .ok (.if_icmp .gt 9, 3) := by decide +kernel
theorem dX6_sign_21 : decode cX6_sign 21 = .ok (.iload_n 2, 1) := by decide +kernel
theorem dX6_sign_22 : decode cX6_sign 22 = .ok (.iconst 2, 1) := by decide +kernel
theorem dX6_sign_23 : decode cX6_sign 23 = .ok (.irem, 1) := by decide +kernel
theorem dX6_sign_24 : decode cX6_sign 24 = .ok (.ifCond .ne 6, 3) := by decide +kernel
theorem dX6_sign_27 : decode cX6_sign 27 = .ok (.bipush (-100), 2) := by decide +kernel
theorem dX6_sign_29 : decode cX6_sign 29 = .ok (.ireturn, 1) := by decide +kernel
theorem dX6_sign_30 : decode cX6_sign 30 = .ok (.aload_n 0, 1) := by decide +kernel
theorem dX6_sign_31 : decode cX6_sign 31 = .ok (.getfield 10, 3) := by decide +kernel
theorem dX6_sign_34 : decode cX6_sign 34 = .ok (.iload_n 2, 1) := by decide +kernel
theorem dX6_sign_35 : decode cX6_sign 35 = .ok (.invokevirtual 58, 3) := by decide +kernel
theorem dX6_sign_38 : decode cX6_sign 38 = .ok (.iconst 1, 1) := by decide +kernel
theorem dX6_sign_39 : decode cX6_sign 39 = .ok (.istore_n 3, 1) := by decide +kernel
theorem dX6_sign_40 : decode cX6_sign 40 = .ok (.iconst 0, 1) := by decide +kernel
theorem dX6_sign_41 : decode cX6_sign 41 = .ok (.istore 4, 2) := by decide +kernel
theorem dX6_sign_43 : decode cX6_sign 43 = .ok (.iload 4, 2) := by decide +kernel
theorem dX6_sign_45 : decode cX6_sign 45 = .ok (.aload_n 0, 1) := by decide +kernel
theorem dX6_sign_46 : decode cX6_sign 46 = .ok (.getfield 10, 3) := by decide +kernel
theorem dX6_sign_49 : decode cX6_sign 49 = .ok (.getfield 115, 3) := by decide +kernel
theorem dX6_sign_52 : decode cX6_sign 52 = .ok (.if_icmp .ge 57, 3) := by decide +kernel
theorem dX6_sign_55 : decode cX6_sign 55 = .ok (.aload_n 0, 1) := by decide +kernel
theorem dX6_sign_56 : decode cX6_sign 56 = .ok (.getfield 10, 3) := by decide +kernel
theorem dX6_sign_59 : decode cX6_sign 59 = .ok (.getfield 119, 3) := by decide +kernel
theorem dX6_sign_62 : decode cX6_sign 62 = .ok (.iload 4, 2) := by decide +kernel
theorem dX6_sign_64 : decode cX6_sign 64 = .ok (.iaload, 1) := by decide +kernel
theorem dX6_sign_65 : decode cX6_sign 65 = .ok (.istore 5, 2) := by decide +kernel
theorem dX6_sign_67 : decode cX6_sign 67 = .ok (.iload_n 1, 1) := by decide +kernel
theorem dX6_sign_68 : decode cX6_sign 68 = .ok (.iload 5, 2) := by decide +kernel
theorem dX6_sign_70 : decode cX6_sign 70 = .ok (.invokestatic 122, 3) := by decide +kernel
theorem dX6_sign_73 : decode cX6_sign 73 = .ok (.istore 6, 2) := by decide +kernel
theorem dX6_sign_75 : decode cX6_sign 75 = .ok (.iload_n 3, 1) := by decide +kernel
theorem dX6_sign_76 : decode cX6_sign 76 = .ok (.aload_n 0, 1) := by decide +kernel
theorem dX6_sign_77 : decode cX6_sign 77 = .ok (.getfield 10, 3) := by decide +kernel
theorem dX6_sign_80 : decode cX6_sign 80 = .ok (.getfield 125, 3) := by decide +kernel
theorem dX6_sign_83 : decode cX6_sign 83 = .ok (.iload 4, 2) := by decide +kernel
theorem dX6_sign_85 : decode cX6_sign 85 = .ok (.iaload, 1) := by decide +kernel
theorem dX6_sign_86 : decode cX6_sign 86 = .ok (.iconst 2, 1) := by decide +kernel
theorem dX6_sign_87 : decode cX6_sign 87 = .ok (.irem, 1) := by decide +kernel
theorem dX6_sign_88 : decode cX6_sign 88 = .ok (.ifCond .ne 11, 3) := by decide +kernel
theorem dX6_sign_91 : decode cX6_sign 91 = .ok (.iload 6, 2) := by decide +kernel
theorem dX6_sign_93 : decode cX6_sign 93 = .ok (.iload 6, 2) := by decide +kernel
theorem dX6_sign_95 : decode cX6_sign 95 = .ok (.imul, 1) := by decide +kernel
theorem dX6_sign_96 : decode cX6_sign 96 = .ok (.goto 5, 3) := by decide +kernel
theorem dX6_sign_99 : decode cX6_sign 99 = .ok (.iload 6, 2) := by decide +kernel
theorem dX6_sign_101 : decode cX6_sign 101 = .ok (.imul, 1) := by decide +kernel
theorem dX6_sign_102 : decode cX6_sign 102 = .ok (.istore_n 3, 1) := by decide +kernel
theorem dX6_sign_103 : decode cX6_sign 103 = .ok (.iinc 4 1, 3) := by decide +kernel
theorem dX6_sign_106 : decode cX6_sign 106 = .ok (.goto (-63), 3) := by decide +kernel
theorem dX6_sign_109 : decode cX6_sign 109 = .ok (.iload_n 3, 1) := by decide +kernel
theorem dX6_sign_110 : decode cX6_sign 110 = .ok (.ireturn, 1) := by decide +kernel
set_option maxRecDepth 20000 in
theorem ggX6_write_X5_hasRoom : GoodIn wsX6_write wsX5_hasRoom := goodIn_r _ [6, 7, 8, 23, 24] (by decide +kernel) (by decide +kernel)
set_option maxRecDepth 20000 in
theorem gX6_write_X5_hasRoom : GoodIn wsX6_write (wsV RX6 128 RX5 yX5_hasRoom wsX5_hasRoom) := goodIn_app (goodIn_of _ (by decide +kernel)) ggX6_write_X5_hasRoom
set_option maxRecDepth 20000 in
theorem ggX6_write_X5_append : GoodIn wsX6_write wsX5_append := goodIn_r _ [12, 7, 8, 23, 24] (by decide +kernel) (by decide +kernel)
set_option maxRecDepth 20000 in
theorem gX6_write_X5_append : GoodIn wsX6_write (wsV RX6 131 RX5 yX5_append wsX5_append) := goodIn_app (goodIn_of _ (by decide +kernel)) ggX6_write_X5_append
theorem dX6_write_0 : decode cX6_write 0 = .ok (.iload_n 1, 1) := by decide +kernel
theorem dX6_write_1 : decode cX6_write 1 = .ok (.iconst 1, 1) := by decide +kernel
theorem dX6_write_2 : decode cX6_write 2 = .ok (.if_icmp .lt 9, 3) := by decide +kernel
theorem dX6_write_5 : decode cX6_write 5 = .ok (.iload_n 1, 1) := by decide +kernel
theorem dX6_write_6 : decode cX6_write 6 = .ok (.bipush 8, 2) := by decide +kernel
theorem dX6_write_8 : decode cX6_write 8 = .ok (.if_icmp .le 5, 3) := by decide +kernel
theorem dX6_write_11 : decode cX6_write 11 = .ok (.iconst (-1), 1) := by decide +kernel
theorem dX6_write_12 : decode cX6_write 12 = .ok (.ireturn, 1) := by decide +kernel
theorem dX6_write_13 : decode cX6_write 13 = .ok (.aload_n 0, 1) := by decide +kernel
theorem dX6_write_14 : decode cX6_write 14 = .ok (.getfield 29, 3) := by decide +kernel
theorem dX6_write_17 : decode cX6_write 17 = .ok (.iload_n 1, 1) := by decide +kernel
theorem dX6_write_18 : decode cX6_write 18 = .ok (.invokevirtual 128, 3) := by decide +kernel
theorem dX6_write_21 : decode cX6_write 21 = .ok (.ifCond .ne 6, 3) := by decide +kernel
theorem dX6_write_24 : decode cX6_write 24 = .ok (.bipush (-3), 2) := by decide +kernel
theorem dX6_write_26 : decode cX6_write 26 = .ok (.ireturn, 1) := by decide +kernel
theorem dX6_write_27 : decode cX6_write 27 = .ok (.aload_n 0, 1) := by decide +kernel
theorem dX6_write_28 : decode cX6_write 28 = .ok (.getfield 29, 3) := by decide +kernel
theorem dX6_write_31 : decode cX6_write 31 = .ok (.iload_n 1, 1) := by decide +kernel
theorem dX6_write_32 : decode cX6_write 32 = .ok (.lload_n 2, 1) := by decide +kernel
theorem dX6_write_33 : decode cX6_write 33 = .ok (.invokevirtual 131, 3) := by decide +kernel
theorem dX6_write_36 : decode cX6_write 36 = .ok (.aload_n 0, 1) := by decide +kernel
theorem dX6_write_37 : decode cX6_write 37 = .ok (.getfield 29, 3) := by decide +kernel
theorem dX6_write_40 : decode cX6_write 40 = .ok (.getfield 135, 3) := by decide +kernel
theorem dX6_write_43 : decode cX6_write 43 = .ok (.ireturn, 1) := by decide +kernel
theorem dX6_wipe_0 : decode cX6_wipe 0 = .ok (.aload_n 0, 1) := by decide +kernel
theorem dX6_wipe_1 : decode cX6_wipe 1 = .ok (.getfield 29, 3) := by decide +kernel
theorem dX6_wipe_4 : decode cX6_wipe 4 = .ok (.getfield 135, 3) := by decide +kernel
theorem dX6_wipe_7 : decode cX6_wipe 7 = .ok (.istore_n 1, 1) := by decide +kernel
theorem dX6_wipe_8 : decode cX6_wipe 8 = .ok (.aload_n 0, 1) := by decide +kernel
theorem dX6_wipe_9 : decode cX6_wipe 9 = .ok (.getfield 29, 3) := by decide +kernel
theorem dX6_wipe_12 : decode cX6_wipe 12 = .ok (.iconst 0, 1) := by decide +kernel
theorem dX6_wipe_13 : decode cX6_wipe 13 = .ok (.putfield 135, 3) := by decide +kernel
theorem dX6_wipe_16 : decode cX6_wipe 16 = .ok (.iload_n 1, 1) := by decide +kernel
theorem dX6_wipe_17 : decode cX6_wipe 17 = .ok (.ireturn, 1) := by decide +kernel
set_option maxRecDepth 20000 in
theorem ggX6_fault_X1_read : GoodIn wsX6_fault wsX1_read := goodIn_r _ [7, 8, 9, 10, 11, 12, 13, 14, 15, 16, 17, 18, 19, 20, 21, 22, 6, 23, 24, 25, 26, 27, 40, 41, 42, 43, 44, 38, 39] (by decide +kernel) (by decide +kernel)
set_option maxRecDepth 20000 in
theorem gX6_fault_X1_read : GoodIn wsX6_fault (wsV RX6 138 RX1 yX1_read wsX1_read) := goodIn_app (goodIn_of _ (by decide +kernel)) ggX6_fault_X1_read
theorem dX6_fault_0 : decode cX6_fault 0 = .ok (.iconst 0, 1) := by decide +kernel
theorem dX6_fault_1 : decode cX6_fault 1 = .ok (.istore_n 1, 1) := by decide +kernel
theorem dX6_fault_2 : decode cX6_fault 2 = .ok (.iconst 0, 1) := by decide +kernel
theorem dX6_fault_3 : decode cX6_fault 3 = .ok (.istore_n 2, 1) := by decide +kernel
theorem dX6_fault_4 : decode cX6_fault 4 = .ok (.iload_n 2, 1) := by decide +kernel
theorem dX6_fault_5 : decode cX6_fault 5 = .ok (.bipush 8, 2) := by decide +kernel
theorem dX6_fault_7 : decode cX6_fault 7 = .ok (.if_icmp .ge 45, 3) := by decide +kernel
theorem dX6_fault_10 : decode cX6_fault 10 = .ok (.iload_n 1, 1) := by decide +kernel
theorem dX6_fault_11 : decode cX6_fault 11 = .ok (.aload_n 0, 1) := by decide +kernel
theorem dX6_fault_12 : decode cX6_fault 12 = .ok (.getfield 29, 3) := by decide +kernel
theorem dX6_fault_15 : decode cX6_fault 15 = .ok (.getfield 135, 3) := by decide +kernel
theorem dX6_fault_18 : decode cX6_fault 18 = .ok (.if_icmp .ge 34, 3) := by decide +kernel
theorem dX6_fault_21 : decode cX6_fault 21 = .ok (.aload_n 0, 1) := by decide +kernel
theorem dX6_fault_22 : decode cX6_fault 22 = .ok (.getfield 36, 3) := by decide +kernel
theorem dX6_fault_25 : decode cX6_fault 25 = .ok (.aload_n 0, 1) := by decide +kernel
theorem dX6_fault_26 : decode cX6_fault 26 = .ok (.getfield 29, 3) := by decide +kernel
theorem dX6_fault_29 : decode cX6_fault 29 = .ok (.iload_n 1, 1) := by decide +kernel
theorem dX6_fault_30 : decode cX6_fault 30 = .ok (.invokevirtual 138, 3) := by decide +kernel
theorem dX6_fault_33 : decode cX6_fault 33 = .ok (.ifCond .ne 5, 3) := by decide +kernel
theorem dX6_fault_36 : decode cX6_fault 36 = .ok (.iload_n 1, 1) := by decide +kernel
theorem dX6_fault_37 : decode cX6_fault 37 = .ok (.ireturn, 1) := by decide +kernel
theorem dX6_fault_38 : decode cX6_fault 38 = .ok (.aload_n 0, 1) := by decide +kernel
theorem dX6_fault_39 : decode cX6_fault 39 = .ok (.getfield 36, 3) := by decide +kernel
theorem dX6_fault_42 : decode cX6_fault 42 = .ok (.getfield 142, 3) := by decide +kernel
theorem dX6_fault_45 : decode cX6_fault 45 = .ok (.istore_n 1, 1) := by decide +kernel
theorem dX6_fault_46 : decode cX6_fault 46 = .ok (.iinc 2 1, 3) := by decide +kernel
theorem dX6_fault_49 : decode cX6_fault 49 = .ok (.goto (-45), 3) := by decide +kernel
theorem dX6_fault_52 : decode cX6_fault 52 = .ok (.iload_n 1, 1) := by decide +kernel
theorem dX6_fault_53 : decode cX6_fault 53 = .ok (.aload_n 0, 1) := by decide +kernel
theorem dX6_fault_54 : decode cX6_fault 54 = .ok (.getfield 29, 3) := by decide +kernel
theorem dX6_fault_57 : decode cX6_fault 57 = .ok (.getfield 135, 3) := by decide +kernel
theorem dX6_fault_60 : decode cX6_fault 60 = .ok (.if_icmp .ge 7, 3) := by decide +kernel
theorem dX6_fault_63 : decode cX6_fault 63 = .ok (.iload_n 1, 1) := by decide +kernel
theorem dX6_fault_64 : decode cX6_fault 64 = .ok (.goto 5, 3) := by decide +kernel
theorem dX6_fault_67 : decode cX6_fault 67 = .ok (.bipush (-4), 2) := by decide +kernel
theorem dX6_fault_69 : decode cX6_fault 69 = .ok (.ireturn, 1) := by decide +kernel
set_option maxRecDepth 20000 in
theorem ggX6_lay_X6_fault : GoodIn wsX6_lay wsX6_fault := goodIn_r _ [9, 4, 3, 10, 11, 12, 13, 14, 15, 16, 17, 18, 19, 20, 21, 22, 23, 24, 25, 26, 27, 28, 29, 30, 31, 32, 33, 34, 91, 92, 93, 94, 95, 96, 97, 98, 99, 100, 106, 107, 101, 102, 103, 104, 105] (by decide +kernel) (by decide +kernel)
set_option maxRecDepth 20000 in
theorem gX6_lay_X6_fault : GoodIn wsX6_lay (wsV RX6 145 RX6 yX6_fault wsX6_fault) := goodIn_app (goodIn_of _ (by decide +kernel)) ggX6_lay_X6_fault
set_option maxRecDepth 20000 in
theorem ggX6_lay_X6_periodOfText : GoodIn wsX6_lay wsX6_periodOfText := goodIn_r _ [38, 1, 3, 4, 10, 11, 12, 13, 14, 15, 16, 17, 18, 19, 20, 21, 22, 23, 24, 25, 26, 27, 28, 29, 30, 31, 32, 33, 34, 39, 40, 41, 42, 43, 44, 45, 91, 92, 93, 94, 95, 96, 97, 98, 99, 100, 101, 102, 103, 104, 105, 106, 107] (by decide +kernel) (by decide +kernel)
set_option maxRecDepth 20000 in
theorem gX6_lay_X6_periodOfText : GoodIn wsX6_lay (wsV RX6 148 RX6 yX6_periodOfText wsX6_periodOfText) := goodIn_app (goodIn_of _ (by decide +kernel)) ggX6_lay_X6_periodOfText
set_option maxRecDepth 20000 in
theorem ggX6_lay_X2_clear : GoodIn wsX6_lay wsX2_clear := goodIn_r _ [50, 51, 108, 109, 110, 111, 112, 113] (by decide +kernel) (by decide +kernel)
set_option maxRecDepth 20000 in
theorem gX6_lay_X2_clear : GoodIn wsX6_lay (wsV RX6 152 RX2 yX2_clear wsX2_clear) := goodIn_app (goodIn_of _ (by decide +kernel)) ggX6_lay_X2_clear
set_option maxRecDepth 20000 in
theorem ggX6_lay_X1_read : GoodIn wsX6_lay wsX1_read := goodIn_r _ [14, 15, 16, 17, 18, 19, 20, 21, 22, 23, 24, 25, 26, 27, 28, 29, 13, 30, 31, 32, 33, 34, 101, 102, 103, 104, 105, 106, 107] (by decide +kernel) (by decide +kernel)
set_option maxRecDepth 20000 in
theorem gX6_lay_X1_read : GoodIn wsX6_lay (wsV RX6 138 RX1 yX1_read wsX1_read) := goodIn_app (goodIn_of _ (by decide +kernel)) ggX6_lay_X1_read
set_option maxRecDepth 20000 in
theorem ggX6_lay_X2_add : GoodIn wsX6_lay wsX2_add := goodIn_r _ [55, 51, 56, 57, 58, 59, 60, 61, 13, 62, 15, 19, 17, 18, 63, 64, 41, 65, 108, 109, 110, 111, 112, 113, 101, 102, 103, 104, 105] (by decide +kernel) (by decide +kernel)
set_option maxRecDepth 20000 in
theorem gX6_lay_X2_add : GoodIn wsX6_lay (wsV RX6 155 RX2 yX2_add wsX2_add) := goodIn_app (goodIn_of _ (by decide +kernel)) ggX6_lay_X2_add
set_option maxRecDepth 20000 in
theorem ggX6_lay_X2_close : GoodIn wsX6_lay wsX2_close := goodIn_r _ [69, 70, 71, 72, 73, 74, 75, 49, 76, 51, 77, 78, 79, 80, 57, 58, 81, 82, 41, 83, 84, 85, 86, 87, 88, 89, 90, 108, 109, 110, 111, 112, 113] (by decide +kernel) (by decide +kernel)
set_option maxRecDepth 20000 in
theorem gX6_lay_X2_close : GoodIn wsX6_lay (wsV RX6 159 RX2 yX2_close wsX2_close) := goodIn_app (goodIn_of _ (by decide +kernel)) ggX6_lay_X2_close
theorem dX6_lay_0 : decode cX6_lay 0 = .ok (.aload_n 0, 1) := by decide +kernel
theorem dX6_lay_1 : decode cX6_lay 1 = .ok (.invokevirtual 145, 3) := by decide +kernel
theorem dX6_lay_4 : decode cX6_lay 4 = .ok (.bipush (-4), 2) := by decide +kernel
theorem dX6_lay_6 : decode cX6_lay 6 = .ok (.if_icmp .eq 6, 3) := by decide +kernel
theorem dX6_lay_9 : decode cX6_lay 9 = .ok (.bipush (-2), 2) := by decide +kernel
theorem dX6_lay_11 : decode cX6_lay 11 = .ok (.ireturn, 1) := by decide +kernel
theorem dX6_lay_12 : decode cX6_lay 12 = .ok (.aload_n 0, 1) := by decide +kernel
theorem dX6_lay_13 : decode cX6_lay 13 = .ok (.invokevirtual 148, 3) := by decide +kernel
theorem dX6_lay_16 : decode cX6_lay 16 = .ok (.istore_n 1, 1) := by decide +kernel
theorem dX6_lay_17 : decode cX6_lay 17 = .ok (.iload_n 1, 1) := by decide +kernel
theorem dX6_lay_18 : decode cX6_lay 18 = .ok (.ldc 151, 2) := by decide +kernel
theorem dX6_lay_20 : decode cX6_lay 20 = .ok (.if_icmp .le 6, 3) := by decide +kernel
theorem dX6_lay_23 : decode cX6_lay 23 = .ok (.bipush (-2), 2) := by decide +kernel
theorem dX6_lay_25 : decode cX6_lay 25 = .ok (.ireturn, 1) := by decide +kernel
theorem dX6_lay_26 : decode cX6_lay 26 = .ok (.aload_n 0, 1) := by decide +kernel
theorem dX6_lay_27 : decode cX6_lay 27 = .ok (.getfield 43, 3) := by decide +kernel
theorem dX6_lay_30 : decode cX6_lay 30 = .ok (.invokevirtual 152, 3) := by decide +kernel
theorem dX6_lay_33 : decode cX6_lay 33 = .ok (.iconst 0, 1) := by decide +kernel
theorem dX6_lay_34 : decode cX6_lay 34 = .ok (.istore_n 2, 1) := by decide +kernel
theorem dX6_lay_35 : decode cX6_lay 35 = .ok (.iconst 0, 1) := by decide +kernel
theorem dX6_lay_36 : decode cX6_lay 36 = .ok (.istore_n 3, 1) := by decide +kernel
theorem dX6_lay_37 : decode cX6_lay 37 = .ok (.iload_n 3, 1) := by decide +kernel
theorem dX6_lay_38 : decode cX6_lay 38 = .ok (.bipush 8, 2) := by decide +kernel
theorem dX6_lay_40 : decode cX6_lay 40 = .ok (.if_icmp .ge 43, 3) := by decide +kernel
theorem dX6_lay_43 : decode cX6_lay 43 = .ok (.aload_n 0, 1) := by decide +kernel
theorem dX6_lay_44 : decode cX6_lay 44 = .ok (.getfield 36, 3) := by decide +kernel
theorem dX6_lay_47 : decode cX6_lay 47 = .ok (.aload_n 0, 1) := by decide +kernel
theorem dX6_lay_48 : decode cX6_lay 48 = .ok (.getfield 29, 3) := by decide +kernel
theorem dX6_lay_51 : decode cX6_lay 51 = .ok (.iload_n 2, 1) := by decide +kernel
theorem dX6_lay_52 : decode cX6_lay 52 = .ok (.invokevirtual 138, 3) := by decide +kernel
theorem dX6_lay_55 : decode cX6_lay 55 = .ok (.ifCond .eq 28, 3) := by decide +kernel
theorem dX6_lay_58 : decode cX6_lay 58 = .ok (.aload_n 0, 1) := by decide +kernel
theorem dX6_lay_59 : decode cX6_lay 59 = .ok (.getfield 43, 3) := by decide +kernel
theorem dX6_lay_62 : decode cX6_lay 62 = .ok (.aload_n 0, 1) := by decide +kernel
theorem dX6_lay_63 : decode cX6_lay 63 = .ok (.getfield 36, 3) := by decide +kernel
theorem dX6_lay_66 : decode cX6_lay 66 = .ok (.invokevirtual 155, 3) := by decide +kernel
theorem dX6_lay_69 : decode cX6_lay 69 = .ok (.aload_n 0, 1) := by decide +kernel
theorem dX6_lay_70 : decode cX6_lay 70 = .ok (.getfield 36, 3) := by decide +kernel
theorem dX6_lay_73 : decode cX6_lay 73 = .ok (.getfield 142, 3) := by decide +kernel
theorem dX6_lay_76 : decode cX6_lay 76 = .ok (.istore_n 2, 1) := by decide +kernel
theorem dX6_lay_77 : decode cX6_lay 77 = .ok (.iinc 3 1, 3) := by decide +kernel
theorem dX6_lay_80 : decode cX6_lay 80 = .ok (.goto (-43), 3) := by decide +kernel
theorem dX6_lay_83 : decode cX6_lay 83 = .ok (.aload_n 0, 1) := by decide +kernel
theorem dX6_lay_84 : decode cX6_lay 84 = .ok (.getfield 43, 3) := by decide +kernel
theorem dX6_lay_87 : decode cX6_lay 87 = .ok (.iload_n 1, 1) := by decide +kernel
theorem dX6_lay_88 : decode cX6_lay 88 = .ok (.invokevirtual 159, 3) := by decide +kernel
theorem dX6_lay_91 : decode cX6_lay 91 = .ok (.iload_n 1, 1) := by decide +kernel
theorem dX6_lay_92 : decode cX6_lay 92 = .ok (.ireturn, 1) := by decide +kernel
theorem dX6_left_0 : decode cX6_left 0 = .ok (.aload_n 0, 1) := by decide +kernel
theorem dX6_left_1 : decode cX6_left 1 = .ok (.getfield 43, 3) := by decide +kernel
theorem dX6_left_4 : decode cX6_left 4 = .ok (.getfield 162, 3) := by decide +kernel
theorem dX6_left_7 : decode cX6_left 7 = .ok (.ireturn, 1) := by decide +kernel
set_option maxRecDepth 20000 in
theorem ggX6_ith_X2_leftAt : GoodIn wsX6_ith wsX2_leftAt := goodIn_r _ [8, 9, 10, 11, 12, 13, 14, 15, 7, 16, 17, 18, 19, 20, 21, 22, 23, 24, 25, 26, 27, 28, 29, 30, 31, 32, 33, 34, 35, 36, 37, 38, 39, 40, 41, 52, 53, 54, 55, 56, 57] (by decide +kernel) (by decide +kernel)
set_option maxRecDepth 20000 in
theorem gX6_ith_X2_leftAt : GoodIn wsX6_ith (wsV RX6 169 RX2 yX2_leftAt wsX2_leftAt) := goodIn_app (goodIn_of _ (by decide +kernel)) ggX6_ith_X2_leftAt
theorem dX6_ith_0 : decode cX6_ith 0 = .ok (.lload_n 1, 1) := by decide +kernel
theorem dX6_ith_1 : decode cX6_ith 1 = .ok (.lconst 0, 1) := by decide +kernel
theorem dX6_ith_2 : decode cX6_ith 2 = .ok (.lcmp, 1) := by decide +kernel
theorem dX6_ith_3 : decode cX6_ith 3 = .ok (.ifCond .lt 11, 3) := by decide +kernel
theorem dX6_ith_6 : decode cX6_ith 6 = .ok (.lload_n 1, 1) := by decide +kernel
theorem dX6_ith_7 : decode cX6_ith 7 = .ok (.ldc2_w 165, 3) := by decide +kernel
theorem dX6_ith_10 : decode cX6_ith 10 = .ok (.lcmp, 1) := by decide +kernel
theorem dX6_ith_11 : decode cX6_ith 11 = .ok (.ifCond .le 7, 3) := by decide +kernel
theorem dX6_ith_14 : decode cX6_ith 14 = .ok (.ldc2_w 167, 3) := by decide +kernel
theorem dX6_ith_17 : decode cX6_ith 17 = .ok (.lreturn, 1) := by decide +kernel
theorem dX6_ith_18 : decode cX6_ith 18 = .ok (.aload_n 0, 1) := by decide +kernel
theorem dX6_ith_19 : decode cX6_ith 19 = .ok (.getfield 43, 3) := by decide +kernel
theorem dX6_ith_22 : decode cX6_ith 22 = .ok (.lload_n 1, 1) := by decide +kernel
theorem dX6_ith_23 : decode cX6_ith 23 = .ok (.invokevirtual 169, 3) := by decide +kernel
theorem dX6_ith_26 : decode cX6_ith 26 = .ok (.lreturn, 1) := by decide +kernel
set_option maxRecDepth 20000 in
theorem ggX6_from_X2_leastFrom : GoodIn wsX6_from wsX2_leastFrom := goodIn_r _ [8, 9, 10, 11, 12, 13, 14, 15, 16, 7, 17, 18, 19, 20, 21, 22, 23, 24, 25, 26, 27, 28, 29, 30, 31, 32, 33, 34, 35, 36, 37, 38, 49, 50, 51, 52, 53, 54] (by decide +kernel) (by decide +kernel)
set_option maxRecDepth 20000 in
theorem gX6_from_X2_leastFrom : GoodIn wsX6_from (wsV RX6 175 RX2 yX2_leastFrom wsX2_leastFrom) := goodIn_app (goodIn_of _ (by decide +kernel)) ggX6_from_X2_leastFrom
theorem dX6_from_0 : decode cX6_from 0 = .ok (.lload_n 1, 1) := by decide +kernel
theorem dX6_from_1 : decode cX6_from 1 = .ok (.lconst 0, 1) := by decide +kernel
theorem dX6_from_2 : decode cX6_from 2 = .ok (.lcmp, 1) := by decide +kernel
theorem dX6_from_3 : decode cX6_from 3 = .ok (.ifCond .lt 11, 3) := by decide +kernel
theorem dX6_from_6 : decode cX6_from 6 = .ok (.lload_n 1, 1) := by decide +kernel
theorem dX6_from_7 : decode cX6_from 7 = .ok (.ldc2_w 173, 3) := by decide +kernel
theorem dX6_from_10 : decode cX6_from 10 = .ok (.lcmp, 1) := by decide +kernel
theorem dX6_from_11 : decode cX6_from 11 = .ok (.ifCond .le 7, 3) := by decide +kernel
theorem dX6_from_14 : decode cX6_from 14 = .ok (.ldc2_w 167, 3) := by decide +kernel
theorem dX6_from_17 : decode cX6_from 17 = .ok (.lreturn, 1) := by decide +kernel
theorem dX6_from_18 : decode cX6_from 18 = .ok (.aload_n 0, 1) := by decide +kernel
theorem dX6_from_19 : decode cX6_from 19 = .ok (.getfield 43, 3) := by decide +kernel
theorem dX6_from_22 : decode cX6_from 22 = .ok (.lload_n 1, 1) := by decide +kernel
theorem dX6_from_23 : decode cX6_from 23 = .ok (.invokevirtual 175, 3) := by decide +kernel
theorem dX6_from_26 : decode cX6_from 26 = .ok (.lreturn, 1) := by decide +kernel
set_option maxRecDepth 20000 in
theorem ggX6_needless_X2_saysNothingNew : GoodIn wsX6_needless wsX2_saysNothingNew := goodIn_r _ [6, 7, 8, 9, 10, 5, 11, 12, 13, 14, 15, 16, 17, 18, 19, 20, 21, 22, 23, 34, 35, 36, 37, 38, 39] (by decide +kernel) (by decide +kernel)
set_option maxRecDepth 20000 in
theorem gX6_needless_X2_saysNothingNew : GoodIn wsX6_needless (wsV RX6 181 RX2 yX2_saysNothingNew wsX2_saysNothingNew) := goodIn_app (goodIn_of _ (by decide +kernel)) ggX6_needless_X2_saysNothingNew
theorem dX6_needless_0 : decode cX6_needless 0 = .ok (.iload_n 1, 1) := by decide +kernel
theorem dX6_needless_1 : decode cX6_needless 1 = .ok (.ifCond .lt 14, 3) := by decide +kernel
theorem dX6_needless_4 : decode cX6_needless 4 = .ok (.iload_n 1, 1) := by decide +kernel
theorem dX6_needless_5 : decode cX6_needless 5 = .ok (.aload_n 0, 1) := by decide +kernel
theorem dX6_needless_6 : decode cX6_needless 6 = .ok (.getfield 43, 3) := by decide +kernel
theorem dX6_needless_9 : decode cX6_needless 9 = .ok (.getfield 178, 3) := by decide +kernel
theorem dX6_needless_12 : decode cX6_needless 12 = .ok (.if_icmp .lt 5, 3) := by decide +kernel
theorem dX6_needless_15 : decode cX6_needless 15 = .ok (.iconst (-1), 1) := by decide +kernel
theorem dX6_needless_16 : decode cX6_needless 16 = .ok (.ireturn, 1) := by decide +kernel
theorem dX6_needless_17 : decode cX6_needless 17 = .ok (.aload_n 0, 1) := by decide +kernel
theorem dX6_needless_18 : decode cX6_needless 18 = .ok (.getfield 43, 3) := by decide +kernel
theorem dX6_needless_21 : decode cX6_needless 21 = .ok (.iload_n 1, 1) := by decide +kernel
theorem dX6_needless_22 : decode cX6_needless 22 = .ok (.invokevirtual 181, 3) := by decide +kernel
theorem dX6_needless_25 : decode cX6_needless 25 = .ok (.ifCond .eq 7, 3) := by decide +kernel
theorem dX6_needless_28 : decode cX6_needless 28 = .ok (.iconst 1, 1) := by decide +kernel
theorem dX6_needless_29 : decode cX6_needless 29 = .ok (.goto 4, 3) := by decide +kernel
theorem dX6_needless_32 : decode cX6_needless 32 = .ok (.iconst 0, 1) := by decide +kernel
theorem dX6_needless_33 : decode cX6_needless 33 = .ok (.ireturn, 1) := by decide +kernel
set_option maxRecDepth 20000 in
theorem ggX6_lone_X2_leastEmptySet : GoodIn wsX6_lone wsX2_leastEmptySet := goodIn_r _ [6, 7, 8, 9, 10, 11, 5, 12, 13, 14, 15, 16, 17, 18, 19, 20, 21, 22, 23, 24, 25, 26, 27, 28, 29, 30, 31, 32, 33, 34, 35, 36, 37, 38, 39, 40, 41, 42, 43, 44, 55, 56, 57, 58, 59, 60] (by decide +kernel) (by decide +kernel)
set_option maxRecDepth 20000 in
theorem gX6_lone_X2_leastEmptySet : GoodIn wsX6_lone (wsV RX6 184 RX2 yX2_leastEmptySet wsX2_leastEmptySet) := goodIn_app (goodIn_of _ (by decide +kernel)) ggX6_lone_X2_leastEmptySet
theorem dX6_lone_0 : decode cX6_lone 0 = .ok (.aload_n 0, 1) := by decide +kernel
theorem dX6_lone_1 : decode cX6_lone 1 = .ok (.getfield 43, 3) := by decide +kernel
theorem dX6_lone_4 : decode cX6_lone 4 = .ok (.invokevirtual 184, 3) := by decide +kernel
theorem dX6_lone_7 : decode cX6_lone 7 = .ok (.ireturn, 1) := by decide +kernel
set_option maxRecDepth 20000 in
theorem ggX6_looks_X6_isOddOne : GoodIn wsX6_looks wsX6_isOddOne := goodIn_r _ [4, 5] (by decide +kernel) (by decide +kernel)
set_option maxRecDepth 20000 in
theorem gX6_looks_X6_isOddOne : GoodIn wsX6_looks (va_wsS RX6 187 yX6_isOddOne wsX6_isOddOne) := goodIn_app (goodIn_of _ (by decide +kernel)) ggX6_looks_X6_isOddOne
set_option maxRecDepth 20000 in
theorem ggX6_looks_X4_looksStrongly : GoodIn wsX6_looks wsX4_looksStrongly := goodIn_r _ [9, 10, 11, 8, 12, 13, 14, 15, 16, 17, 18] (by decide +kernel) (by decide +kernel)
set_option maxRecDepth 20000 in
theorem gX6_looks_X4_looksStrongly : GoodIn wsX6_looks (va_wsS RX6 190 yX4_looksStrongly wsX4_looksStrongly) := goodIn_app (goodIn_of _ (by decide +kernel)) ggX6_looks_X4_looksStrongly
set_option maxRecDepth 20000 in
theorem ggX6_looks_X4_raise : GoodIn wsX6_looks wsX4_raise := goodIn_r _ [18] (by decide +kernel) (by decide +kernel)
set_option maxRecDepth 20000 in
theorem gX6_looks_X4_raise : GoodIn wsX6_looks (va_wsS RX6 94 yX4_raise wsX4_raise) := goodIn_app (goodIn_of _ (by decide +kernel)) ggX6_looks_X4_raise
set_option maxRecDepth 20000 in
theorem ggX6_looks_X4_isPrime : GoodIn wsX6_looks wsX4_isPrime := goodIn_r _ [22] (by decide +kernel) (by decide +kernel)
set_option maxRecDepth 20000 in
theorem gX6_looks_X4_isPrime : GoodIn wsX6_looks (va_wsS RX6 193 yX4_isPrime wsX4_isPrime) := goodIn_app (goodIn_of _ (by decide +kernel)) ggX6_looks_X4_isPrime
theorem dX6_looks_0 : decode cX6_looks 0 = .ok (.iload_n 1, 1) := by decide +kernel
theorem dX6_looks_1 : decode cX6_looks 1 = .ok (.invokestatic 187, 3) := by decide +kernel
theorem dX6_looks_4 : decode cX6_looks 4 = .ok (.ifCond .eq 22, 3) := by decide +kernel
theorem dX6_looks_7 : decode cX6_looks 7 = .ok (.iload_n 2, 1) := by decide +kernel
theorem dX6_looks_8 : decode cX6_looks 8 = .ok (.iconst 1, 1) := by decide +kernel
theorem dX6_looks_9 : decode cX6_looks 9 = .ok (.if_icmp .lt 17, 3) := by decide +kernel
theorem dX6_looks_12 : decode cX6_looks 12 = .ok (.iload_n 2, 1) := by decide +kernel
theorem dX6_looks_13 : decode cX6_looks 13 = .ok (.iload_n 1, 1) := by decide +kernel
theorem dX6_looks_14 : decode cX6_looks 14 = .ok (.if_icmp .ge 12, 3) := by decide +kernel
theorem dX6_looks_17 : decode cX6_looks 17 = .ok (.iload_n 3, 1) := by decide +kernel
theorem dX6_looks_18 : decode cX6_looks 18 = .ok (.ifCond .lt 8, 3) := by decide +kernel
theorem dX6_looks_21 : decode cX6_looks 21 = .ok (.iload_n 3, 1) := by decide +kernel
theorem dX6_looks_22 : decode cX6_looks 22 = .ok (.iconst 2, 1) := by decide +kernel
theorem dX6_looks_23 : decode cX6_looks 23 = .ok (.if_icmp .le 5, 3) := by decide +kernel
theorem dX6_looks_26 : decode cX6_looks 26 = .ok (.iconst (-1), 1) := by decide +kernel
theorem dX6_looks_27 : decode cX6_looks 27 = .ok (.ireturn, 1) := by decide +kernel
theorem dX6_looks_28 : decode cX6_looks 28 = .ok (.iload_n 3, 1) := by decide +kernel
theorem dX6_looks_29 : decode cX6_looks 29 = .ok (.iconst 1, 1) := by decide +kernel
theorem dX6_looks_30 : decode cX6_looks 30 = .ok (.if_icmp .ne 13, 3) := by decide +kernel
theorem dX6_looks_33 : decode cX6_looks 33 = .ok (.iload_n 1, 1) := by decide +kernel
theorem dX6_looks_34 : decode cX6_looks 34 = .ok (.iload_n 2, 1) := by decide +kernel
theorem dX6_looks_35 : decode cX6_looks 35 = .ok (.invokestatic 190, 3) := by decide +kernel
theorem dX6_looks_38 : decode cX6_looks 38 = .ok (.istore 4, 2) := by decide +kernel
theorem dX6_looks_40 : decode cX6_looks 40 = .ok (.goto 35, 3) := by decide +kernel
theorem dX6_looks_43 : decode cX6_looks 43 = .ok (.iload_n 2, 1) := by decide +kernel
theorem dX6_looks_44 : decode cX6_looks 44 = .ok (.i2l, 1) := by decide +kernel
theorem dX6_looks_45 : decode cX6_looks 45 = .ok (.iload_n 1, 1) := by decide +kernel
theorem dX6_looks_46 : decode cX6_looks 46 = .ok (.iconst 1, 1) := by decide +kernel
theorem dX6_looks_47 : decode cX6_looks 47 = .ok (.isub, 1) := by decide +kernel
theorem dX6_looks_48 : decode cX6_looks 48 = .ok (.i2l, 1) := by decide +kernel
theorem dX6_looks_49 : decode cX6_looks 49 = .ok (.iload_n 1, 1) := by decide +kernel
theorem dX6_looks_50 : decode cX6_looks 50 = .ok (.invokestatic 94, 3) := by decide +kernel
theorem dX6_looks_53 : decode cX6_looks 53 = .ok (.iconst 1, 1) := by decide +kernel
theorem dX6_looks_54 : decode cX6_looks 54 = .ok (.if_icmp .ne 18, 3) := by decide +kernel
theorem dX6_looks_57 : decode cX6_looks 57 = .ok (.iload_n 3, 1) := by decide +kernel
theorem dX6_looks_58 : decode cX6_looks 58 = .ok (.ifCond .eq 10, 3) := by decide +kernel
theorem dX6_looks_61 : decode cX6_looks 61 = .ok (.iload_n 1, 1) := by decide +kernel
theorem dX6_looks_62 : decode cX6_looks 62 = .ok (.invokestatic 193, 3) := by decide +kernel
theorem dX6_looks_65 : decode cX6_looks 65 = .ok (.ifCond .ne 7, 3) := by decide +kernel
theorem dX6_looks_68 : decode cX6_looks 68 = .ok (.iconst 1, 1) := by decide +kernel
theorem dX6_looks_69 : decode cX6_looks 69 = .ok (.goto 4, 3) := by decide +kernel
theorem dX6_looks_72 : decode cX6_looks 72 = .ok (.iconst 0, 1) := by decide +kernel
theorem dX6_looks_73 : decode cX6_looks 73 = .ok (.istore 4, 2) := by decide +kernel
theorem dX6_looks_75 : decode cX6_looks 75 = .ok (.iload 4, 2) := by decide +kernel
theorem dX6_looks_77 : decode cX6_looks 77 = .ok (.ifCond .eq 7, 3) := by decide +kernel
theorem dX6_looks_80 : decode cX6_looks 80 = .ok (.iconst 1, 1) := by decide +kernel
theorem dX6_looks_81 : decode cX6_looks 81 = .ok (.goto 4, 3) := by decide +kernel
theorem dX6_looks_84 : decode cX6_looks 84 = .ok (.iconst 0, 1) := by decide +kernel
theorem dX6_looks_85 : decode cX6_looks 85 = .ok (.ireturn, 1) := by decide +kernel
set_option maxRecDepth 20000 in
theorem ggX6_lied_X6_isOddOne : GoodIn wsX6_lied wsX6_isOddOne := goodIn_r _ [5, 6] (by decide +kernel) (by decide +kernel)
set_option maxRecDepth 20000 in
theorem gX6_lied_X6_isOddOne : GoodIn wsX6_lied (va_wsS RX6 187 yX6_isOddOne wsX6_isOddOne) := goodIn_app (goodIn_of _ (by decide +kernel)) ggX6_lied_X6_isOddOne
set_option maxRecDepth 20000 in
theorem ggX6_lied_X6_leastWitness : GoodIn wsX6_lied wsX6_leastWitness := goodIn_r _ [9, 10, 11, 12, 13, 14, 15, 16, 17, 18, 19, 20, 21, 22, 23, 24, 25] (by decide +kernel) (by decide +kernel)
set_option maxRecDepth 20000 in
theorem gX6_lied_X6_leastWitness : GoodIn wsX6_lied (va_wsS RX6 196 yX6_leastWitness wsX6_leastWitness) := goodIn_app (goodIn_of _ (by decide +kernel)) ggX6_lied_X6_leastWitness
set_option maxRecDepth 20000 in
theorem ggX6_lied_X0_split : GoodIn wsX6_lied wsX0_split := goodIn_r _ [30, 31, 32, 33, 34, 29, 35, 36, 37, 65, 66, 67] (by decide +kernel) (by decide +kernel)
set_option maxRecDepth 20000 in
theorem gX6_lied_X0_split : GoodIn wsX6_lied (wsV RX6 58 RX0 yX0_split wsX0_split) := goodIn_app (goodIn_of _ (by decide +kernel)) ggX6_lied_X0_split
set_option maxRecDepth 20000 in
theorem ggX6_lied_X6_looksPrimeTo : GoodIn wsX6_lied wsX6_looksPrimeTo := goodIn_r _ [41, 1, 42, 43, 12, 44, 55, 56, 57, 58, 59, 60, 61, 62, 63, 64, 65, 66, 67] (by decide +kernel) (by decide +kernel)
set_option maxRecDepth 20000 in
theorem gX6_lied_X6_looksPrimeTo : GoodIn wsX6_lied (wsV RX6 199 RX6 yX6_looksPrimeTo wsX6_looksPrimeTo) := goodIn_app (goodIn_of _ (by decide +kernel)) ggX6_lied_X6_looksPrimeTo
set_option maxRecDepth 20000 in
theorem ggX6_lied_X6_looksStronglyTo : GoodIn wsX6_lied wsX6_looksStronglyTo := goodIn_r _ [48, 1, 49, 50, 51, 52, 53, 21, 12, 22, 17, 18, 19, 42, 43, 44, 54, 55, 56, 57, 58, 59, 60, 61, 62, 63, 64, 65, 66, 67] (by decide +kernel) (by decide +kernel)
set_option maxRecDepth 20000 in
theorem gX6_lied_X6_looksStronglyTo : GoodIn wsX6_lied (wsV RX6 202 RX6 yX6_looksStronglyTo wsX6_looksStronglyTo) := goodIn_app (goodIn_of _ (by decide +kernel)) ggX6_lied_X6_looksStronglyTo
theorem dX6_lied_0 : decode cX6_lied 0 = .ok (.iload_n 1, 1) := by decide +kernel
theorem dX6_lied_1 : decode cX6_lied 1 = .ok (.invokestatic 187, 3) := by decide +kernel
theorem dX6_lied_4 : decode cX6_lied 4 = .ok (.ifCond .eq 12, 3) := by decide +kernel
theorem dX6_lied_7 : decode cX6_lied 7 = .ok (.iload_n 2, 1) := by decide +kernel
theorem dX6_lied_8 : decode cX6_lied 8 = .ok (.ifCond .lt 8, 3) := by decide +kernel
theorem dX6_lied_11 : decode cX6_lied 11 = .ok (.iload_n 2, 1) := by decide +kernel
theorem dX6_lied_12 : decode cX6_lied 12 = .ok (.iconst 2, 1) := by decide +kernel
theorem dX6_lied_13 : decode cX6_lied 13 = .ok (.if_icmp .le 5, 3) := by decide +kernel
theorem dX6_lied_16 : decode cX6_lied 16 = .ok (.iconst (-1), 1) := by decide +kernel
theorem dX6_lied_17 : decode cX6_lied 17 = .ok (.ireturn, 1) := by decide +kernel
theorem dX6_lied_18 : decode cX6_lied 18 = .ok (.iload_n 2, 1) := by decide +kernel
theorem dX6_lied_19 : decode cX6_lied 19 = .ok (.iconst 2, 1) := by decide +kernel
theorem dX6_lied_20 : decode cX6_lied 20 = .ok (.if_icmp .ne 8, 3) := by decide +kernel
theorem dX6_lied_23 : decode cX6_lied 23 = .ok (.iload_n 1, 1) := by decide +kernel
theorem dX6_lied_24 : decode cX6_lied 24 = .ok (.invokestatic 196, 3) := by decide +kernel
theorem dX6_lied_27 : decode cX6_lied 27 = .ok (.ireturn, 1) := by decide +kernel
theorem dX6_lied_28 : decode cX6_lied 28 = .ok (.aload_n 0, 1) := by decide +kernel
theorem dX6_lied_29 : decode cX6_lied 29 = .ok (.getfield 10, 3) := by decide +kernel
theorem dX6_lied_32 : decode cX6_lied 32 = .ok (.iload_n 1, 1) := by decide +kernel
theorem dX6_lied_33 : decode cX6_lied 33 = .ok (.invokevirtual 58, 3) := by decide +kernel
theorem dX6_lied_36 : decode cX6_lied 36 = .ok (.iload_n 2, 1) := by decide +kernel
theorem dX6_lied_37 : decode cX6_lied 37 = .ok (.ifCond .ne 11, 3) := by decide +kernel
theorem dX6_lied_40 : decode cX6_lied 40 = .ok (.aload_n 0, 1) := by decide +kernel
theorem dX6_lied_41 : decode cX6_lied 41 = .ok (.iload_n 1, 1) := by decide +kernel
theorem dX6_lied_42 : decode cX6_lied 42 = .ok (.invokevirtual 199, 3) := by decide +kernel
theorem dX6_lied_45 : decode cX6_lied 45 = .ok (.goto 8, 3) := by decide +kernel
theorem dX6_lied_48 : decode cX6_lied 48 = .ok (.aload_n 0, 1) := by decide +kernel
theorem dX6_lied_49 : decode cX6_lied 49 = .ok (.iload_n 1, 1) := by decide +kernel
theorem dX6_lied_50 : decode cX6_lied 50 = .ok (.invokevirtual 202, 3) := by decide +kernel
theorem dX6_lied_53 : decode cX6_lied 53 = .ok (.ireturn, 1) := by decide +kernel
set_option maxRecDepth 20000 in
theorem ggX6_falseOnes_X6_liesToAll : GoodIn wsX6_falseOnes wsX6_liesToAll := goodIn_r _ [5, 6, 7, 8, 9, 10, 11, 12, 13, 14, 15, 16, 17, 18, 19, 20, 21, 22, 23, 24, 25, 26, 27, 28, 29, 30, 31] (by decide +kernel) (by decide +kernel)
set_option maxRecDepth 20000 in
theorem gX6_falseOnes_X6_liesToAll : GoodIn wsX6_falseOnes (wsV RX6 205 RX6 yX6_liesToAll wsX6_liesToAll) := goodIn_app (goodIn_of _ (by decide +kernel)) ggX6_falseOnes_X6_liesToAll
theorem dX6_falseOnes_0 : decode cX6_falseOnes 0 = .ok (.iload_n 1, 1) := by decide +kernel
theorem dX6_falseOnes_1 : decode cX6_falseOnes 1 = .ok (.iconst 3, 1) := by decide +kernel
theorem dX6_falseOnes_2 : decode cX6_falseOnes 2 = .ok (.if_icmp .lt 15, 3) := by decide +kernel
theorem dX6_falseOnes_5 : decode cX6_falseOnes 5 = .ok (.iload_n 1, 1) := by decide +kernel
theorem dX6_falseOnes_6 : decode cX6_falseOnes 6 = .ok (.sipush 5000, 3) := by decide +kernel
theorem dX6_falseOnes_9 : decode cX6_falseOnes 9 = .ok (.if_icmp .gt 8, 3) := by decide +kernel
theorem dX6_falseOnes_12 : decode cX6_falseOnes 12 = .ok (.iload_n 2, 1) := by decide +kernel
theorem dX6_falseOnes_13 : decode cX6_falseOnes 13 = .ok (.iconst (-1), 1) := by decide +kernel
theorem dX6_falseOnes_14 : decode cX6_falseOnes 14 = .ok (.if_icmp .ge 5, 3) := by decide +kernel
theorem dX6_falseOnes_17 : decode cX6_falseOnes 17 = .ok (.iconst (-1), 1) := by decide +kernel
theorem dX6_falseOnes_18 : decode cX6_falseOnes 18 = .ok (.ireturn, 1) := by decide +kernel
theorem dX6_falseOnes_19 : decode cX6_falseOnes 19 = .ok (.iconst 0, 1) := by decide +kernel
theorem dX6_falseOnes_20 : decode cX6_falseOnes 20 = .ok (.istore_n 3, 1) := by decide +kernel
theorem dX6_falseOnes_21 : decode cX6_falseOnes 21 = .ok (.iconst 3, 1) := by decide +kernel
theorem dX6_falseOnes_22 : decode cX6_falseOnes 22 = .ok (.istore 4, 2) := by decide +kernel
theorem dX6_falseOnes_24 : decode cX6_falseOnes 24 = .ok (.iload 4, 2) := by decide +kernel
theorem dX6_falseOnes_26 : decode cX6_falseOnes 26 = .ok (.iload_n 1, 1) := by decide +kernel
theorem dX6_falseOnes_27 : decode cX6_falseOnes 27 = .ok (.if_icmp .gt 29, 3) := by decide +kernel
theorem dX6_falseOnes_30 : decode cX6_falseOnes 30 = .ok (.aload_n 0, 1) := by decide +kernel
theorem dX6_falseOnes_31 : decode cX6_falseOnes 31 = .ok (.iload 4, 2) := by decide +kernel
theorem dX6_falseOnes_33 : decode cX6_falseOnes 33 = .ok (.invokevirtual 205, 3) := by decide +kernel
theorem dX6_falseOnes_36 : decode cX6_falseOnes 36 = .ok (.ifCond .eq 14, 3) := by decide +kernel
theorem dX6_falseOnes_39 : decode cX6_falseOnes 39 = .ok (.iload_n 3, 1) := by decide +kernel
theorem dX6_falseOnes_40 : decode cX6_falseOnes 40 = .ok (.iload_n 2, 1) := by decide +kernel
theorem dX6_falseOnes_41 : decode cX6_falseOnes 41 = .ok (.if_icmp .ne 6, 3) := by decide +kernel
theorem dX6_falseOnes_44 : decode cX6_falseOnes 44 = .ok (.iload 4, 2) := by decide +kernel
theorem dX6_falseOnes_46 : decode cX6_falseOnes 46 = .ok (.ireturn, 1) := by decide +kernel
theorem dX6_falseOnes_47 : decode cX6_falseOnes 47 = .ok (.iinc 3 1, 3) := by decide +kernel
theorem dX6_falseOnes_50 : decode cX6_falseOnes 50 = .ok (.iinc 4 2, 3) := by decide +kernel
theorem dX6_falseOnes_53 : decode cX6_falseOnes 53 = .ok (.goto (-29), 3) := by decide +kernel
theorem dX6_falseOnes_56 : decode cX6_falseOnes 56 = .ok (.iload_n 2, 1) := by decide +kernel
theorem dX6_falseOnes_57 : decode cX6_falseOnes 57 = .ok (.iconst (-1), 1) := by decide +kernel
theorem dX6_falseOnes_58 : decode cX6_falseOnes 58 = .ok (.if_icmp .ne 7, 3) := by decide +kernel
theorem dX6_falseOnes_61 : decode cX6_falseOnes 61 = .ok (.iload_n 3, 1) := by decide +kernel
theorem dX6_falseOnes_62 : decode cX6_falseOnes 62 = .ok (.goto 5, 3) := by decide +kernel
theorem dX6_falseOnes_65 : decode cX6_falseOnes 65 = .ok (.bipush (-4), 2) := by decide +kernel
theorem dX6_falseOnes_67 : decode cX6_falseOnes 67 = .ok (.ireturn, 1) := by decide +kernel
set_option maxRecDepth 20000 in
theorem ggX6_fooled_X6_findLiarsToTwo : GoodIn wsX6_fooled wsX6_findLiarsToTwo := goodIn_r _ [8, 9, 1, 2, 3, 10, 11, 12, 13, 14, 15, 16, 17, 18, 19, 20, 21, 22, 23, 24, 25, 29, 30, 31, 32, 33, 34, 35, 36, 37, 38] (by decide +kernel) (by decide +kernel)
set_option maxRecDepth 20000 in
theorem gX6_fooled_X6_findLiarsToTwo : GoodIn wsX6_fooled (wsV RX6 209 RX6 yX6_findLiarsToTwo wsX6_findLiarsToTwo) := goodIn_app (goodIn_of _ (by decide +kernel)) ggX6_fooled_X6_findLiarsToTwo
set_option maxRecDepth 20000 in
theorem ggX6_fooled_X6_looksStronglyUpTo : GoodIn wsX6_fooled wsX6_looksStronglyUpTo := goodIn_r _ [28, 10, 11, 12, 13, 14, 15, 16, 17, 18, 19, 20, 21, 22] (by decide +kernel) (by decide +kernel)
set_option maxRecDepth 20000 in
theorem gX6_fooled_X6_looksStronglyUpTo : GoodIn wsX6_fooled (va_wsS RX6 215 yX6_looksStronglyUpTo wsX6_looksStronglyUpTo) := goodIn_app (goodIn_of _ (by decide +kernel)) ggX6_fooled_X6_looksStronglyUpTo
theorem dX6_fooled_0 : decode cX6_fooled 0 = .ok (.iload_n 1, 1) := by decide +kernel
theorem dX6_fooled_1 : decode cX6_fooled 1 = .ok (.iconst 2, 1) := by decide +kernel
theorem dX6_fooled_2 : decode cX6_fooled 2 = .ok (.if_icmp .lt 25, 3) := by decide +kernel
theorem dX6_fooled_5 : decode cX6_fooled 5 = .ok (.iload_n 1, 1) := by decide +kernel
theorem dX6_fooled_6 : decode cX6_fooled 6 = .ok (.bipush 7, 2) := by decide +kernel
theorem dX6_fooled_8 : decode cX6_fooled 8 = .ok (.if_icmp .gt 19, 3) := by decide +kernel
theorem dX6_fooled_11 : decode cX6_fooled 11 = .ok (.iload_n 2, 1) := by decide +kernel
theorem dX6_fooled_12 : decode cX6_fooled 12 = .ok (.iconst 3, 1) := by decide +kernel
theorem dX6_fooled_13 : decode cX6_fooled 13 = .ok (.if_icmp .lt 14, 3) := by decide +kernel
theorem dX6_fooled_16 : decode cX6_fooled 16 = .ok (.iload_n 2, 1) := by decide +kernel
theorem dX6_fooled_17 : decode cX6_fooled 17 = .ok (.ldc 208, 2) := by decide +kernel
theorem dX6_fooled_19 : decode cX6_fooled 19 = .ok (.if_icmp .gt 8, 3) := by decide +kernel
theorem dX6_fooled_22 : decode cX6_fooled 22 = .ok (.iload_n 3, 1) := by decide +kernel
theorem dX6_fooled_23 : decode cX6_fooled 23 = .ok (.iconst (-1), 1) := by decide +kernel
theorem dX6_fooled_24 : decode cX6_fooled 24 = .ok (.if_icmp .ge 5, 3) := by decide +kernel
theorem dX6_fooled_27 : decode cX6_fooled 27 = .ok (.iconst (-1), 1) := by decide +kernel
theorem dX6_fooled_28 : decode cX6_fooled 28 = .ok (.ireturn, 1) := by decide +kernel
theorem dX6_fooled_29 : decode cX6_fooled 29 = .ok (.aload_n 0, 1) := by decide +kernel
theorem dX6_fooled_30 : decode cX6_fooled 30 = .ok (.invokevirtual 209, 3) := by decide +kernel
theorem dX6_fooled_33 : decode cX6_fooled 33 = .ok (.iconst 0, 1) := by decide +kernel
theorem dX6_fooled_34 : decode cX6_fooled 34 = .ok (.istore 4, 2) := by decide +kernel
theorem dX6_fooled_36 : decode cX6_fooled 36 = .ok (.iconst 0, 1) := by decide +kernel
theorem dX6_fooled_37 : decode cX6_fooled 37 = .ok (.istore 5, 2) := by decide +kernel
theorem dX6_fooled_39 : decode cX6_fooled 39 = .ok (.iload 5, 2) := by decide +kernel
theorem dX6_fooled_41 : decode cX6_fooled 41 = .ok (.aload_n 0, 1) := by decide +kernel
theorem dX6_fooled_42 : decode cX6_fooled 42 = .ok (.getfield 212, 3) := by decide +kernel
theorem dX6_fooled_45 : decode cX6_fooled 45 = .ok (.if_icmp .ge 51, 3) := by decide +kernel
theorem dX6_fooled_48 : decode cX6_fooled 48 = .ok (.aload_n 0, 1) := by decide +kernel
theorem dX6_fooled_49 : decode cX6_fooled 49 = .ok (.getfield 51, 3) := by decide +kernel
theorem dX6_fooled_52 : decode cX6_fooled 52 = .ok (.iload 5, 2) := by decide +kernel
theorem dX6_fooled_54 : decode cX6_fooled 54 = .ok (.iaload, 1) := by decide +kernel
theorem dX6_fooled_55 : decode cX6_fooled 55 = .ok (.iload_n 2, 1) := by decide +kernel
theorem dX6_fooled_56 : decode cX6_fooled 56 = .ok (.if_icmp .gt 40, 3) := by decide +kernel
theorem dX6_fooled_59 : decode cX6_fooled 59 = .ok (.aload_n 0, 1) := by decide +kernel
theorem dX6_fooled_60 : decode cX6_fooled 60 = .ok (.getfield 51, 3) := by decide +kernel
theorem dX6_fooled_63 : decode cX6_fooled 63 = .ok (.iload 5, 2) := by decide +kernel
theorem dX6_fooled_65 : decode cX6_fooled 65 = .ok (.iaload, 1) := by decide +kernel
theorem dX6_fooled_66 : decode cX6_fooled 66 = .ok (.iload_n 1, 1) := by decide +kernel
theorem dX6_fooled_67 : decode cX6_fooled 67 = .ok (.invokestatic 215, 3) := by decide +kernel
theorem dX6_fooled_70 : decode cX6_fooled 70 = .ok (.ifCond .eq 20, 3) := by decide +kernel
theorem dX6_fooled_73 : decode cX6_fooled 73 = .ok (.iload 4, 2) := by decide +kernel
theorem dX6_fooled_75 : decode cX6_fooled 75 = .ok (.iload_n 3, 1) := by decide +kernel
theorem dX6_fooled_76 : decode cX6_fooled 76 = .ok (.if_icmp .ne 11, 3) := by decide +kernel
theorem dX6_fooled_79 : decode cX6_fooled 79 = .ok (.aload_n 0, 1) := by decide +kernel
theorem dX6_fooled_80 : decode cX6_fooled 80 = .ok (.getfield 51, 3) := by decide +kernel
theorem dX6_fooled_83 : decode cX6_fooled 83 = .ok (.iload 5, 2) := by decide +kernel
theorem dX6_fooled_85 : decode cX6_fooled 85 = .ok (.iaload, 1) := by decide +kernel
theorem dX6_fooled_86 : decode cX6_fooled 86 = .ok (.ireturn, 1) := by decide +kernel
theorem dX6_fooled_87 : decode cX6_fooled 87 = .ok (.iinc 4 1, 3) := by decide +kernel
theorem dX6_fooled_90 : decode cX6_fooled 90 = .ok (.iinc 5 1, 3) := by decide +kernel
theorem dX6_fooled_93 : decode cX6_fooled 93 = .ok (.goto (-54), 3) := by decide +kernel
theorem dX6_fooled_96 : decode cX6_fooled 96 = .ok (.iload_n 3, 1) := by decide +kernel
theorem dX6_fooled_97 : decode cX6_fooled 97 = .ok (.iconst (-1), 1) := by decide +kernel
theorem dX6_fooled_98 : decode cX6_fooled 98 = .ok (.if_icmp .ne 8, 3) := by decide +kernel
theorem dX6_fooled_101 : decode cX6_fooled 101 = .ok (.iload 4, 2) := by decide +kernel
theorem dX6_fooled_103 : decode cX6_fooled 103 = .ok (.goto 5, 3) := by decide +kernel
theorem dX6_fooled_106 : decode cX6_fooled 106 = .ok (.bipush (-4), 2) := by decide +kernel
theorem dX6_fooled_108 : decode cX6_fooled 108 = .ok (.ireturn, 1) := by decide +kernel
set_option maxRecDepth 20000 in
theorem ggX6_broken_X6_isBase : GoodIn wsX6_broken wsX6_isBase := goodIn_r _ [4] (by decide +kernel) (by decide +kernel)
set_option maxRecDepth 20000 in
theorem gX6_broken_X6_isBase : GoodIn wsX6_broken (va_wsS RX6 218 yX6_isBase wsX6_isBase) := goodIn_app (goodIn_of _ (by decide +kernel)) ggX6_broken_X6_isBase
set_option maxRecDepth 20000 in
theorem ggX6_broken_X6_isDivisor : GoodIn wsX6_broken wsX6_isDivisor := goodIn_r _ [7, 8] (by decide +kernel) (by decide +kernel)
set_option maxRecDepth 20000 in
theorem gX6_broken_X6_isDivisor : GoodIn wsX6_broken (va_wsS RX6 54 yX6_isDivisor wsX6_isDivisor) := goodIn_app (goodIn_of _ (by decide +kernel)) ggX6_broken_X6_isDivisor
set_option maxRecDepth 20000 in
theorem ggX6_broken_X6_aheadOf : GoodIn wsX6_broken wsX6_aheadOf := goodIn_r _ [11, 12, 13, 3, 14, 15, 16, 17, 18, 19, 20, 21] (by decide +kernel) (by decide +kernel)
set_option maxRecDepth 20000 in
theorem gX6_broken_X6_aheadOf : GoodIn wsX6_broken (va_wsS RX6 221 yX6_aheadOf wsX6_aheadOf) := goodIn_app (goodIn_of _ (by decide +kernel)) ggX6_broken_X6_aheadOf
set_option maxRecDepth 20000 in
theorem ggX6_broken_X6_roundOf : GoodIn wsX6_broken wsX6_roundOf := goodIn_r _ [25, 12, 13, 3, 14, 15, 16, 17, 18, 26, 27, 28, 29, 30, 31, 32, 33, 34, 35, 36, 37, 38, 39, 40, 41, 42, 43, 44, 45, 46, 47, 48, 49, 50, 51, 52, 53, 54, 55, 56, 57, 58, 59, 19, 20, 21, 60, 61, 62, 63, 64, 65, 66, 67, 68, 69, 70, 71, 72] (by decide +kernel) (by decide +kernel)
set_option maxRecDepth 20000 in
theorem gX6_broken_X6_roundOf : GoodIn wsX6_broken (wsV RX6 224 RX6 yX6_roundOf wsX6_roundOf) := goodIn_app (goodIn_of _ (by decide +kernel)) ggX6_broken_X6_roundOf
theorem dX6_broken_0 : decode cX6_broken 0 = .ok (.iload_n 1, 1) := by decide +kernel
theorem dX6_broken_1 : decode cX6_broken 1 = .ok (.invokestatic 218, 3) := by decide +kernel
theorem dX6_broken_4 : decode cX6_broken 4 = .ok (.ifCond .eq 19, 3) := by decide +kernel
theorem dX6_broken_7 : decode cX6_broken 7 = .ok (.iload_n 2, 1) := by decide +kernel
theorem dX6_broken_8 : decode cX6_broken 8 = .ok (.invokestatic 54, 3) := by decide +kernel
theorem dX6_broken_11 : decode cX6_broken 11 = .ok (.ifCond .eq 12, 3) := by decide +kernel
theorem dX6_broken_14 : decode cX6_broken 14 = .ok (.iload_n 3, 1) := by decide +kernel
theorem dX6_broken_15 : decode cX6_broken 15 = .ok (.ifCond .lt 8, 3) := by decide +kernel
theorem dX6_broken_18 : decode cX6_broken 18 = .ok (.iload_n 3, 1) := by decide +kernel
theorem dX6_broken_19 : decode cX6_broken 19 = .ok (.iconst 1, 1) := by decide +kernel
theorem dX6_broken_20 : decode cX6_broken 20 = .ok (.if_icmp .le 5, 3) := by decide +kernel
theorem dX6_broken_23 : decode cX6_broken 23 = .ok (.iconst (-1), 1) := by decide +kernel
theorem dX6_broken_24 : decode cX6_broken 24 = .ok (.ireturn, 1) := by decide +kernel
theorem dX6_broken_25 : decode cX6_broken 25 = .ok (.iload_n 3, 1) := by decide +kernel
theorem dX6_broken_26 : decode cX6_broken 26 = .ok (.ifCond .ne 11, 3) := by decide +kernel
theorem dX6_broken_29 : decode cX6_broken 29 = .ok (.iload_n 1, 1) := by decide +kernel
theorem dX6_broken_30 : decode cX6_broken 30 = .ok (.iload_n 2, 1) := by decide +kernel
theorem dX6_broken_31 : decode cX6_broken 31 = .ok (.invokestatic 221, 3) := by decide +kernel
theorem dX6_broken_34 : decode cX6_broken 34 = .ok (.goto 9, 3) := by decide +kernel
theorem dX6_broken_37 : decode cX6_broken 37 = .ok (.aload_n 0, 1) := by decide +kernel
theorem dX6_broken_38 : decode cX6_broken 38 = .ok (.iload_n 1, 1) := by decide +kernel
theorem dX6_broken_39 : decode cX6_broken 39 = .ok (.iload_n 2, 1) := by decide +kernel
theorem dX6_broken_40 : decode cX6_broken 40 = .ok (.invokevirtual 224, 3) := by decide +kernel
theorem dX6_broken_43 : decode cX6_broken 43 = .ok (.ireturn, 1) := by decide +kernel
set_option maxRecDepth 20000 in
theorem ggX6_figure_X6_isBase : GoodIn wsX6_figure wsX6_isBase := goodIn_r _ [5] (by decide +kernel) (by decide +kernel)
set_option maxRecDepth 20000 in
theorem gX6_figure_X6_isBase : GoodIn wsX6_figure (va_wsS RX6 218 yX6_isBase wsX6_isBase) := goodIn_app (goodIn_of _ (by decide +kernel)) ggX6_figure_X6_isBase
set_option maxRecDepth 20000 in
theorem ggX6_figure_X6_isDivisor : GoodIn wsX6_figure wsX6_isDivisor := goodIn_r _ [8, 9] (by decide +kernel) (by decide +kernel)
set_option maxRecDepth 20000 in
theorem gX6_figure_X6_isDivisor : GoodIn wsX6_figure (va_wsS RX6 54 yX6_isDivisor wsX6_isDivisor) := goodIn_app (goodIn_of _ (by decide +kernel)) ggX6_figure_X6_isDivisor
set_option maxRecDepth 20000 in
theorem ggX6_figure_X4_raise : GoodIn wsX6_figure wsX4_raise := goodIn_r _ [13] (by decide +kernel) (by decide +kernel)
set_option maxRecDepth 20000 in
theorem gX6_figure_X4_raise : GoodIn wsX6_figure (va_wsS RX6 94 yX4_raise wsX4_raise) := goodIn_app (goodIn_of _ (by decide +kernel)) ggX6_figure_X4_raise
theorem dX6_figure_0 : decode cX6_figure 0 = .ok (.iload_n 1, 1) := by decide +kernel
theorem dX6_figure_1 : decode cX6_figure 1 = .ok (.invokestatic 218, 3) := by decide +kernel
theorem dX6_figure_4 : decode cX6_figure 4 = .ok (.ifCond .eq 20, 3) := by decide +kernel
theorem dX6_figure_7 : decode cX6_figure 7 = .ok (.iload_n 2, 1) := by decide +kernel
theorem dX6_figure_8 : decode cX6_figure 8 = .ok (.invokestatic 54, 3) := by decide +kernel
theorem dX6_figure_11 : decode cX6_figure 11 = .ok (.ifCond .eq 13, 3) := by decide +kernel
theorem dX6_figure_14 : decode cX6_figure 14 = .ok (.iload_n 3, 1) := by decide +kernel
theorem dX6_figure_15 : decode cX6_figure 15 = .ok (.ifCond .lt 9, 3) := by decide +kernel
theorem dX6_figure_18 : decode cX6_figure 18 = .ok (.iload_n 3, 1) := by decide +kernel
theorem dX6_figure_19 : decode cX6_figure 19 = .ok (.ldc 113, 2) := by decide +kernel
theorem dX6_figure_21 : decode cX6_figure 21 = .ok (.if_icmp .le 5, 3) := by decide +kernel
theorem dX6_figure_24 : decode cX6_figure 24 = .ok (.iconst (-1), 1) := by decide +kernel
theorem dX6_figure_25 : decode cX6_figure 25 = .ok (.ireturn, 1) := by decide +kernel
theorem dX6_figure_26 : decode cX6_figure 26 = .ok (.iload_n 1, 1) := by decide +kernel
theorem dX6_figure_27 : decode cX6_figure 27 = .ok (.iload_n 1, 1) := by decide +kernel
theorem dX6_figure_28 : decode cX6_figure 28 = .ok (.i2l, 1) := by decide +kernel
theorem dX6_figure_29 : decode cX6_figure 29 = .ok (.iload_n 3, 1) := by decide +kernel
theorem dX6_figure_30 : decode cX6_figure 30 = .ok (.i2l, 1) := by decide +kernel
theorem dX6_figure_31 : decode cX6_figure 31 = .ok (.iload_n 2, 1) := by decide +kernel
theorem dX6_figure_32 : decode cX6_figure 32 = .ok (.invokestatic 94, 3) := by decide +kernel
theorem dX6_figure_35 : decode cX6_figure 35 = .ok (.imul, 1) := by decide +kernel
theorem dX6_figure_36 : decode cX6_figure 36 = .ok (.iload_n 2, 1) := by decide +kernel
theorem dX6_figure_37 : decode cX6_figure 37 = .ok (.idiv, 1) := by decide +kernel
theorem dX6_figure_38 : decode cX6_figure 38 = .ok (.ireturn, 1) := by decide +kernel
set_option maxRecDepth 20000 in
theorem ggX6_soLong_X6_isBase : GoodIn wsX6_soLong wsX6_isBase := goodIn_r _ [5] (by decide +kernel) (by decide +kernel)
set_option maxRecDepth 20000 in
theorem gX6_soLong_X6_isBase : GoodIn wsX6_soLong (va_wsS RX6 218 yX6_isBase wsX6_isBase) := goodIn_app (goodIn_of _ (by decide +kernel)) ggX6_soLong_X6_isBase
set_option maxRecDepth 20000 in
theorem ggX6_soLong_X0_split : GoodIn wsX6_soLong wsX0_split := goodIn_r _ [10, 11, 12, 13, 14, 9, 15, 16, 17, 46, 47, 48] (by decide +kernel) (by decide +kernel)
set_option maxRecDepth 20000 in
theorem gX6_soLong_X0_split : GoodIn wsX6_soLong (wsV RX6 58 RX0 yX0_split wsX0_split) := goodIn_app (goodIn_of _ (by decide +kernel)) ggX6_soLong_X0_split
set_option maxRecDepth 20000 in
theorem ggX6_soLong_X6_hasRound : GoodIn wsX6_soLong wsX6_hasRound := goodIn_r _ [21, 22, 23, 4, 24, 25, 26, 27, 28, 29, 30, 31, 32, 1, 33, 34, 35, 36, 37, 38, 39, 40, 41, 42, 43, 44, 45, 46, 47, 48] (by decide +kernel) (by decide +kernel)
set_option maxRecDepth 20000 in
theorem gX6_soLong_X6_hasRound : GoodIn wsX6_soLong (wsV RX6 227 RX6 yX6_hasRound wsX6_hasRound) := goodIn_app (goodIn_of _ (by decide +kernel)) ggX6_soLong_X6_hasRound
theorem dX6_soLong_0 : decode cX6_soLong 0 = .ok (.iload_n 1, 1) := by decide +kernel
theorem dX6_soLong_1 : decode cX6_soLong 1 = .ok (.invokestatic 218, 3) := by decide +kernel
theorem dX6_soLong_4 : decode cX6_soLong 4 = .ok (.ifCond .eq 32, 3) := by decide +kernel
theorem dX6_soLong_7 : decode cX6_soLong 7 = .ok (.iload_n 2, 1) := by decide +kernel
theorem dX6_soLong_8 : decode cX6_soLong 8 = .ok (.ifCond .lt 28, 3) := by decide +kernel
theorem dX6_soLong_11 : decode cX6_soLong 11 = .ok (.iload_n 2, 1) := by decide +kernel
theorem dX6_soLong_12 : decode cX6_soLong 12 = .ok (.sipush 3000, 3) := by decide +kernel
theorem dX6_soLong_15 : decode cX6_soLong 15 = .ok (.if_icmp .gt 21, 3) := by decide +kernel
theorem dX6_soLong_18 : decode cX6_soLong 18 = .ok (.iload_n 3, 1) := by decide +kernel
theorem dX6_soLong_19 : decode cX6_soLong 19 = .ok (.iconst 2, 1) := by decide +kernel
theorem dX6_soLong_20 : decode cX6_soLong 20 = .ok (.if_icmp .lt 16, 3) := by decide +kernel
theorem dX6_soLong_23 : decode cX6_soLong 23 = .ok (.iload_n 3, 1) := by decide +kernel
theorem dX6_soLong_24 : decode cX6_soLong 24 = .ok (.sipush 3000, 3) := by decide +kernel
theorem dX6_soLong_27 : decode cX6_soLong 27 = .ok (.if_icmp .gt 9, 3) := by decide +kernel
theorem dX6_soLong_30 : decode cX6_soLong 30 = .ok (.iload 4, 2) := by decide +kernel
theorem dX6_soLong_32 : decode cX6_soLong 32 = .ok (.iconst (-1), 1) := by decide +kernel
theorem dX6_soLong_33 : decode cX6_soLong 33 = .ok (.if_icmp .ge 5, 3) := by decide +kernel
theorem dX6_soLong_36 : decode cX6_soLong 36 = .ok (.iconst (-1), 1) := by decide +kernel
theorem dX6_soLong_37 : decode cX6_soLong 37 = .ok (.ireturn, 1) := by decide +kernel
theorem dX6_soLong_38 : decode cX6_soLong 38 = .ok (.aload_n 0, 1) := by decide +kernel
theorem dX6_soLong_39 : decode cX6_soLong 39 = .ok (.getfield 16, 3) := by decide +kernel
theorem dX6_soLong_42 : decode cX6_soLong 42 = .ok (.iload_n 2, 1) := by decide +kernel
theorem dX6_soLong_43 : decode cX6_soLong 43 = .ok (.invokevirtual 58, 3) := by decide +kernel
theorem dX6_soLong_46 : decode cX6_soLong 46 = .ok (.iconst 0, 1) := by decide +kernel
theorem dX6_soLong_47 : decode cX6_soLong 47 = .ok (.istore 5, 2) := by decide +kernel
theorem dX6_soLong_49 : decode cX6_soLong 49 = .ok (.iconst 2, 1) := by decide +kernel
theorem dX6_soLong_50 : decode cX6_soLong 50 = .ok (.istore 6, 2) := by decide +kernel
theorem dX6_soLong_52 : decode cX6_soLong 52 = .ok (.iload 6, 2) := by decide +kernel
theorem dX6_soLong_54 : decode cX6_soLong 54 = .ok (.iload_n 3, 1) := by decide +kernel
theorem dX6_soLong_55 : decode cX6_soLong 55 = .ok (.if_icmp .gt 33, 3) := by decide +kernel
theorem dX6_soLong_58 : decode cX6_soLong 58 = .ok (.aload_n 0, 1) := by decide +kernel
theorem dX6_soLong_59 : decode cX6_soLong 59 = .ok (.iload_n 1, 1) := by decide +kernel
theorem dX6_soLong_60 : decode cX6_soLong 60 = .ok (.iload 6, 2) := by decide +kernel
theorem dX6_soLong_62 : decode cX6_soLong 62 = .ok (.iload_n 2, 1) := by decide +kernel
theorem dX6_soLong_63 : decode cX6_soLong 63 = .ok (.invokevirtual 227, 3) := by decide +kernel
theorem dX6_soLong_66 : decode cX6_soLong 66 = .ok (.ifCond .eq 16, 3) := by decide +kernel
theorem dX6_soLong_69 : decode cX6_soLong 69 = .ok (.iload 5, 2) := by decide +kernel
theorem dX6_soLong_71 : decode cX6_soLong 71 = .ok (.iload 4, 2) := by decide +kernel
theorem dX6_soLong_73 : decode cX6_soLong 73 = .ok (.if_icmp .ne 6, 3) := by decide +kernel
theorem dX6_soLong_76 : decode cX6_soLong 76 = .ok (.iload 6, 2) := by decide +kernel
theorem dX6_soLong_78 : decode cX6_soLong 78 = .ok (.ireturn, 1) := by decide +kernel
theorem dX6_soLong_79 : decode cX6_soLong 79 = .ok (.iinc 5 1, 3) := by decide +kernel
theorem dX6_soLong_82 : decode cX6_soLong 82 = .ok (.iinc 6 1, 3) := by decide +kernel
theorem dX6_soLong_85 : decode cX6_soLong 85 = .ok (.goto (-33), 3) := by decide +kernel
theorem dX6_soLong_88 : decode cX6_soLong 88 = .ok (.iload 4, 2) := by decide +kernel
theorem dX6_soLong_90 : decode cX6_soLong 90 = .ok (.iconst (-1), 1) := by decide +kernel
theorem dX6_soLong_91 : decode cX6_soLong 91 = .ok (.if_icmp .ne 8, 3) := by decide +kernel
theorem dX6_soLong_94 : decode cX6_soLong 94 = .ok (.iload 5, 2) := by decide +kernel
theorem dX6_soLong_96 : decode cX6_soLong 96 = .ok (.goto 5, 3) := by decide +kernel
theorem dX6_soLong_99 : decode cX6_soLong 99 = .ok (.bipush (-4), 2) := by decide +kernel
theorem dX6_soLong_101 : decode cX6_soLong 101 = .ok (.ireturn, 1) := by decide +kernel
set_option maxRecDepth 20000 in
theorem ggX6_turning_X6_isBase : GoodIn wsX6_turning wsX6_isBase := goodIn_r _ [4] (by decide +kernel) (by decide +kernel)
set_option maxRecDepth 20000 in
theorem gX6_turning_X6_isBase : GoodIn wsX6_turning (va_wsS RX6 218 yX6_isBase wsX6_isBase) := goodIn_app (goodIn_of _ (by decide +kernel)) ggX6_turning_X6_isBase
set_option maxRecDepth 20000 in
theorem ggX6_turning_X6_isDivisor : GoodIn wsX6_turning wsX6_isDivisor := goodIn_r _ [7, 8] (by decide +kernel) (by decide +kernel)
set_option maxRecDepth 20000 in
theorem gX6_turning_X6_isDivisor : GoodIn wsX6_turning (va_wsS RX6 54 yX6_isDivisor wsX6_isDivisor) := goodIn_app (goodIn_of _ (by decide +kernel)) ggX6_turning_X6_isDivisor
set_option maxRecDepth 20000 in
theorem ggX6_turning_X4_isPrime : GoodIn wsX6_turning wsX4_isPrime := goodIn_r _ [12] (by decide +kernel) (by decide +kernel)
set_option maxRecDepth 20000 in
theorem gX6_turning_X4_isPrime : GoodIn wsX6_turning (va_wsS RX6 193 yX4_isPrime wsX4_isPrime) := goodIn_app (goodIn_of _ (by decide +kernel)) ggX6_turning_X4_isPrime
set_option maxRecDepth 20000 in
theorem ggX6_turning_X6_roundOf : GoodIn wsX6_turning wsX6_roundOf := goodIn_r _ [16, 17, 18, 3, 19, 20, 21, 11, 22, 23, 24, 25, 26, 27, 28, 29, 30, 31, 32, 33, 34, 35, 36, 37, 38, 39, 40, 41, 42, 43, 44, 45, 46, 47, 48, 49, 50, 51, 52, 53, 54, 55, 56, 57, 58, 59, 66, 67, 68, 69, 70, 71, 72, 73, 74, 75, 76, 77, 78] (by decide +kernel) (by decide +kernel)
set_option maxRecDepth 20000 in
theorem gX6_turning_X6_roundOf : GoodIn wsX6_turning (wsV RX6 224 RX6 yX6_roundOf wsX6_roundOf) := goodIn_app (goodIn_of _ (by decide +kernel)) ggX6_turning_X6_roundOf
set_option maxRecDepth 20000 in
theorem ggX6_turning_X6_leastLog : GoodIn wsX6_turning wsX6_leastLog := goodIn_r _ [62, 63, 64, 11, 65] (by decide +kernel) (by decide +kernel)
set_option maxRecDepth 20000 in
theorem gX6_turning_X6_leastLog : GoodIn wsX6_turning (va_wsS RX6 100 yX6_leastLog wsX6_leastLog) := goodIn_app (goodIn_of _ (by decide +kernel)) ggX6_turning_X6_leastLog
theorem dX6_turning_0 : decode cX6_turning 0 = .ok (.iload_n 1, 1) := by decide +kernel
theorem dX6_turning_1 : decode cX6_turning 1 = .ok (.invokestatic 218, 3) := by decide +kernel
theorem dX6_turning_4 : decode cX6_turning 4 = .ok (.ifCond .eq 20, 3) := by decide +kernel
theorem dX6_turning_7 : decode cX6_turning 7 = .ok (.iload_n 2, 1) := by decide +kernel
theorem dX6_turning_8 : decode cX6_turning 8 = .ok (.invokestatic 54, 3) := by decide +kernel
theorem dX6_turning_11 : decode cX6_turning 11 = .ok (.ifCond .eq 13, 3) := by decide +kernel
theorem dX6_turning_14 : decode cX6_turning 14 = .ok (.iload_n 3, 1) := by decide +kernel
theorem dX6_turning_15 : decode cX6_turning 15 = .ok (.iconst 1, 1) := by decide +kernel
theorem dX6_turning_16 : decode cX6_turning 16 = .ok (.if_icmp .lt 8, 3) := by decide +kernel
theorem dX6_turning_19 : decode cX6_turning 19 = .ok (.iload_n 3, 1) := by decide +kernel
theorem dX6_turning_20 : decode cX6_turning 20 = .ok (.iload_n 2, 1) := by decide +kernel
theorem dX6_turning_21 : decode cX6_turning 21 = .ok (.if_icmp .lt 5, 3) := by decide +kernel
theorem dX6_turning_24 : decode cX6_turning 24 = .ok (.iconst (-1), 1) := by decide +kernel
theorem dX6_turning_25 : decode cX6_turning 25 = .ok (.ireturn, 1) := by decide +kernel
theorem dX6_turning_26 : decode cX6_turning 26 = .ok (.iload_n 2, 1) := by decide +kernel
theorem dX6_turning_27 : decode cX6_turning 27 = .ok (.invokestatic 193, 3) := by decide +kernel
theorem dX6_turning_30 : decode cX6_turning 30 = .ok (.ifCond .eq 21, 3) := by decide +kernel
theorem dX6_turning_33 : decode cX6_turning 33 = .ok (.iload_n 1, 1) := by decide +kernel
theorem dX6_turning_34 : decode cX6_turning 34 = .ok (.iload_n 2, 1) := by decide +kernel
theorem dX6_turning_35 : decode cX6_turning 35 = .ok (.irem, 1) := by decide +kernel
theorem dX6_turning_36 : decode cX6_turning 36 = .ok (.ifCond .eq 15, 3) := by decide +kernel
theorem dX6_turning_39 : decode cX6_turning 39 = .ok (.aload_n 0, 1) := by decide +kernel
theorem dX6_turning_40 : decode cX6_turning 40 = .ok (.iload_n 1, 1) := by decide +kernel
theorem dX6_turning_41 : decode cX6_turning 41 = .ok (.iload_n 2, 1) := by decide +kernel
theorem dX6_turning_42 : decode cX6_turning 42 = .ok (.invokevirtual 224, 3) := by decide +kernel
theorem dX6_turning_45 : decode cX6_turning 45 = .ok (.iload_n 2, 1) := by decide +kernel
theorem dX6_turning_46 : decode cX6_turning 46 = .ok (.iconst 1, 1) := by decide +kernel
theorem dX6_turning_47 : decode cX6_turning 47 = .ok (.isub, 1) := by decide +kernel
theorem dX6_turning_48 : decode cX6_turning 48 = .ok (.if_icmp .eq 6, 3) := by decide +kernel
theorem dX6_turning_51 : decode cX6_turning 51 = .ok (.bipush (-2), 2) := by decide +kernel
theorem dX6_turning_53 : decode cX6_turning 53 = .ok (.ireturn, 1) := by decide +kernel
theorem dX6_turning_54 : decode cX6_turning 54 = .ok (.iload_n 2, 1) := by decide +kernel
theorem dX6_turning_55 : decode cX6_turning 55 = .ok (.iload_n 1, 1) := by decide +kernel
theorem dX6_turning_56 : decode cX6_turning 56 = .ok (.iload_n 2, 1) := by decide +kernel
theorem dX6_turning_57 : decode cX6_turning 57 = .ok (.irem, 1) := by decide +kernel
theorem dX6_turning_58 : decode cX6_turning 58 = .ok (.iload_n 3, 1) := by decide +kernel
theorem dX6_turning_59 : decode cX6_turning 59 = .ok (.invokestatic 100, 3) := by decide +kernel
theorem dX6_turning_62 : decode cX6_turning 62 = .ok (.ireturn, 1) := by decide +kernel
set_option maxRecDepth 20000 in
theorem ggX6_tower_X6_isDivisor : GoodIn wsX6_tower wsX6_isDivisor := goodIn_r _ [4, 5] (by decide +kernel) (by decide +kernel)
set_option maxRecDepth 20000 in
theorem gX6_tower_X6_isDivisor : GoodIn wsX6_tower (va_wsS RX6 54 yX6_isDivisor wsX6_isDivisor) := goodIn_app (goodIn_of _ (by decide +kernel)) ggX6_tower_X6_isDivisor
set_option maxRecDepth 20000 in
theorem ggX6_tower_X6_towerNumber : GoodIn wsX6_tower wsX6_towerNumber := goodIn_r _ [8] (by decide +kernel) (by decide +kernel)
set_option maxRecDepth 20000 in
theorem gX6_tower_X6_towerNumber : GoodIn wsX6_tower (va_wsS RX6 231 yX6_towerNumber wsX6_towerNumber) := goodIn_app (goodIn_of _ (by decide +kernel)) ggX6_tower_X6_towerNumber
set_option maxRecDepth 20000 in
theorem ggX6_tower_X6_towerRest : GoodIn wsX6_tower wsX6_towerRest := goodIn_r _ [12, 13, 14, 15, 16, 17, 3, 18, 19, 20, 21, 22, 23, 24, 25, 26, 27, 28, 29, 30, 31, 32, 33, 34, 35, 36, 37, 38, 39, 6, 7, 8, 40, 41, 42, 43, 44, 45, 46, 47, 48, 49, 50, 51, 52, 53, 54, 55, 56, 57, 58, 59, 60, 61, 62, 63] (by decide +kernel) (by decide +kernel)
set_option maxRecDepth 20000 in
theorem gX6_tower_X6_towerRest : GoodIn wsX6_tower (wsV RX6 235 RX6 yX6_towerRest wsX6_towerRest) := goodIn_app (goodIn_of _ (by decide +kernel)) ggX6_tower_X6_towerRest
theorem dX6_tower_0 : decode cX6_tower 0 = .ok (.iload_n 1, 1) := by decide +kernel
theorem dX6_tower_1 : decode cX6_tower 1 = .ok (.invokestatic 54, 3) := by decide +kernel
theorem dX6_tower_4 : decode cX6_tower 4 = .ok (.ifCond .eq 25, 3) := by decide +kernel
theorem dX6_tower_7 : decode cX6_tower 7 = .ok (.iload_n 2, 1) := by decide +kernel
theorem dX6_tower_8 : decode cX6_tower 8 = .ok (.iconst 1, 1) := by decide +kernel
theorem dX6_tower_9 : decode cX6_tower 9 = .ok (.if_icmp .lt 20, 3) := by decide +kernel
theorem dX6_tower_12 : decode cX6_tower 12 = .ok (.iload_n 2, 1) := by decide +kernel
theorem dX6_tower_13 : decode cX6_tower 13 = .ok (.bipush 6, 2) := by decide +kernel
theorem dX6_tower_15 : decode cX6_tower 15 = .ok (.if_icmp .gt 14, 3) := by decide +kernel
theorem dX6_tower_18 : decode cX6_tower 18 = .ok (.lload_n 3, 1) := by decide +kernel
theorem dX6_tower_19 : decode cX6_tower 19 = .ok (.bipush 10, 2) := by decide +kernel
theorem dX6_tower_21 : decode cX6_tower 21 = .ok (.iload_n 2, 1) := by decide +kernel
theorem dX6_tower_22 : decode cX6_tower 22 = .ok (.imul, 1) := by decide +kernel
theorem dX6_tower_23 : decode cX6_tower 23 = .ok (.lushr, 1) := by decide +kernel
theorem dX6_tower_24 : decode cX6_tower 24 = .ok (.lconst 0, 1) := by decide +kernel
theorem dX6_tower_25 : decode cX6_tower 25 = .ok (.lcmp, 1) := by decide +kernel
theorem dX6_tower_26 : decode cX6_tower 26 = .ok (.ifCond .eq 5, 3) := by decide +kernel
theorem dX6_tower_29 : decode cX6_tower 29 = .ok (.iconst (-1), 1) := by decide +kernel
theorem dX6_tower_30 : decode cX6_tower 30 = .ok (.ireturn, 1) := by decide +kernel
theorem dX6_tower_31 : decode cX6_tower 31 = .ok (.iconst 0, 1) := by decide +kernel
theorem dX6_tower_32 : decode cX6_tower 32 = .ok (.istore 5, 2) := by decide +kernel
theorem dX6_tower_34 : decode cX6_tower 34 = .ok (.iload 5, 2) := by decide +kernel
theorem dX6_tower_36 : decode cX6_tower 36 = .ok (.iload_n 2, 1) := by decide +kernel
theorem dX6_tower_37 : decode cX6_tower 37 = .ok (.if_icmp .ge 34, 3) := by decide +kernel
theorem dX6_tower_40 : decode cX6_tower 40 = .ok (.iload 5, 2) := by decide +kernel
theorem dX6_tower_42 : decode cX6_tower 42 = .ok (.iload_n 2, 1) := by decide +kernel
theorem dX6_tower_43 : decode cX6_tower 43 = .ok (.lload_n 3, 1) := by decide +kernel
theorem dX6_tower_44 : decode cX6_tower 44 = .ok (.invokestatic 231, 3) := by decide +kernel
theorem dX6_tower_47 : decode cX6_tower 47 = .ok (.istore 6, 2) := by decide +kernel
theorem dX6_tower_49 : decode cX6_tower 49 = .ok (.iload 6, 2) := by decide +kernel
theorem dX6_tower_51 : decode cX6_tower 51 = .ok (.iconst 1, 1) := by decide +kernel
theorem dX6_tower_52 : decode cX6_tower 52 = .ok (.if_icmp .lt 11, 3) := by decide +kernel
theorem dX6_tower_55 : decode cX6_tower 55 = .ok (.iload 6, 2) := by decide +kernel
theorem dX6_tower_57 : decode cX6_tower 57 = .ok (.sipush 1000, 3) := by decide +kernel
theorem dX6_tower_60 : decode cX6_tower 60 = .ok (.if_icmp .le 5, 3) := by decide +kernel
theorem dX6_tower_63 : decode cX6_tower 63 = .ok (.iconst (-1), 1) := by decide +kernel
theorem dX6_tower_64 : decode cX6_tower 64 = .ok (.ireturn, 1) := by decide +kernel
theorem dX6_tower_65 : decode cX6_tower 65 = .ok (.iinc 5 1, 3) := by decide +kernel
theorem dX6_tower_68 : decode cX6_tower 68 = .ok (.goto (-34), 3) := by decide +kernel
theorem dX6_tower_71 : decode cX6_tower 71 = .ok (.aload_n 0, 1) := by decide +kernel
theorem dX6_tower_72 : decode cX6_tower 72 = .ok (.iload_n 2, 1) := by decide +kernel
theorem dX6_tower_73 : decode cX6_tower 73 = .ok (.lload_n 3, 1) := by decide +kernel
theorem dX6_tower_74 : decode cX6_tower 74 = .ok (.iload_n 1, 1) := by decide +kernel
theorem dX6_tower_75 : decode cX6_tower 75 = .ok (.invokevirtual 235, 3) := by decide +kernel
theorem dX6_tower_78 : decode cX6_tower 78 = .ok (.ireturn, 1) := by decide +kernel
set_option maxRecDepth 20000 in
theorem ggX6_back_X6_areKeys : GoodIn wsX6_back wsX6_areKeys := goodIn_r _ [5, 6, 7, 8, 4, 9, 10, 11, 12, 13] (by decide +kernel) (by decide +kernel)
set_option maxRecDepth 20000 in
theorem gX6_back_X6_areKeys : GoodIn wsX6_back (va_wsS RX6 239 yX6_areKeys wsX6_areKeys) := goodIn_app (goodIn_of _ (by decide +kernel)) ggX6_back_X6_areKeys
set_option maxRecDepth 20000 in
theorem ggX6_back_X6_keySharesDivisor : GoodIn wsX6_back wsX6_keySharesDivisor := goodIn_r _ [16, 17, 18, 12, 19] (by decide +kernel) (by decide +kernel)
set_option maxRecDepth 20000 in
theorem gX6_back_X6_keySharesDivisor : GoodIn wsX6_back (va_wsS RX6 242 yX6_keySharesDivisor wsX6_keySharesDivisor) := goodIn_app (goodIn_of _ (by decide +kernel)) ggX6_back_X6_keySharesDivisor
set_option maxRecDepth 20000 in
theorem ggX6_back_X4_commonMultiple : GoodIn wsX6_back wsX4_commonMultiple := goodIn_r _ [22, 23, 18, 12, 19] (by decide +kernel) (by decide +kernel)
set_option maxRecDepth 20000 in
theorem gX6_back_X4_commonMultiple : GoodIn wsX6_back (va_wsS RX6 245 yX4_commonMultiple wsX4_commonMultiple) := goodIn_app (goodIn_of _ (by decide +kernel)) ggX6_back_X4_commonMultiple
set_option maxRecDepth 20000 in
theorem ggX6_back_X0_split : GoodIn wsX6_back wsX0_split := goodIn_r _ [28, 29, 30, 31, 32, 27, 33, 34, 35, 62, 63, 64] (by decide +kernel) (by decide +kernel)
set_option maxRecDepth 20000 in
theorem gX6_back_X0_split : GoodIn wsX6_back (wsV RX6 58 RX0 yX0_split wsX0_split) := goodIn_app (goodIn_of _ (by decide +kernel)) ggX6_back_X0_split
set_option maxRecDepth 20000 in
theorem ggX6_back_X0_greatestOrder : GoodIn wsX6_back wsX0_greatestOrder := goodIn_r _ [39, 29, 40, 41, 42, 27, 43, 34, 35, 44, 45, 46, 47, 48, 21, 12, 22, 23, 18, 19, 62, 63, 64] (by decide +kernel) (by decide +kernel)
set_option maxRecDepth 20000 in
theorem gX6_back_X0_greatestOrder : GoodIn wsX6_back (wsV RX6 78 RX0 yX0_greatestOrder wsX0_greatestOrder) := goodIn_app (goodIn_of _ (by decide +kernel)) ggX6_back_X0_greatestOrder
set_option maxRecDepth 20000 in
theorem ggX6_back_X4_raise : GoodIn wsX6_back wsX4_raise := goodIn_r _ [51] (by decide +kernel) (by decide +kernel)
set_option maxRecDepth 20000 in
theorem gX6_back_X4_raise : GoodIn wsX6_back (va_wsS RX6 94 yX4_raise wsX4_raise) := goodIn_app (goodIn_of _ (by decide +kernel)) ggX6_back_X4_raise
theorem dX6_back_0 : decode cX6_back 0 = .ok (.iload_n 1, 1) := by decide +kernel
theorem dX6_back_1 : decode cX6_back 1 = .ok (.iload_n 2, 1) := by decide +kernel
theorem dX6_back_2 : decode cX6_back 2 = .ok (.iload_n 3, 1) := by decide +kernel
theorem dX6_back_3 : decode cX6_back 3 = .ok (.invokestatic 239, 3) := by decide +kernel
theorem dX6_back_6 : decode cX6_back 6 = .ok (.ifCond .ne 5, 3) := by decide +kernel
theorem dX6_back_9 : decode cX6_back 9 = .ok (.iconst (-1), 1) := by decide +kernel
theorem dX6_back_10 : decode cX6_back 10 = .ok (.ireturn, 1) := by decide +kernel
theorem dX6_back_11 : decode cX6_back 11 = .ok (.iload_n 1, 1) := by decide +kernel
theorem dX6_back_12 : decode cX6_back 12 = .ok (.iload_n 2, 1) := by decide +kernel
theorem dX6_back_13 : decode cX6_back 13 = .ok (.iload_n 3, 1) := by decide +kernel
theorem dX6_back_14 : decode cX6_back 14 = .ok (.invokestatic 242, 3) := by decide +kernel
theorem dX6_back_17 : decode cX6_back 17 = .ok (.ifCond .eq 6, 3) := by decide +kernel
theorem dX6_back_20 : decode cX6_back 20 = .ok (.bipush (-2), 2) := by decide +kernel
theorem dX6_back_22 : decode cX6_back 22 = .ok (.ireturn, 1) := by decide +kernel
theorem dX6_back_23 : decode cX6_back 23 = .ok (.iload_n 1, 1) := by decide +kernel
theorem dX6_back_24 : decode cX6_back 24 = .ok (.iconst 1, 1) := by decide +kernel
theorem dX6_back_25 : decode cX6_back 25 = .ok (.isub, 1) := by decide +kernel
theorem dX6_back_26 : decode cX6_back 26 = .ok (.iload_n 2, 1) := by decide +kernel
theorem dX6_back_27 : decode cX6_back 27 = .ok (.iconst 1, 1) := by decide +kernel
theorem dX6_back_28 : decode cX6_back 28 = .ok (.isub, 1) := by decide +kernel
theorem dX6_back_29 : decode cX6_back 29 = .ok (.invokestatic 245, 3) := by decide +kernel
theorem dX6_back_32 : decode cX6_back 32 = .ok (.istore 4, 2) := by decide +kernel
theorem dX6_back_34 : decode cX6_back 34 = .ok (.aload_n 0, 1) := by decide +kernel
theorem dX6_back_35 : decode cX6_back 35 = .ok (.getfield 10, 3) := by decide +kernel
theorem dX6_back_38 : decode cX6_back 38 = .ok (.iload 4, 2) := by decide +kernel
theorem dX6_back_40 : decode cX6_back 40 = .ok (.invokevirtual 58, 3) := by decide +kernel
theorem dX6_back_43 : decode cX6_back 43 = .ok (.iload_n 3, 1) := by decide +kernel
theorem dX6_back_44 : decode cX6_back 44 = .ok (.i2l, 1) := by decide +kernel
theorem dX6_back_45 : decode cX6_back 45 = .ok (.aload_n 0, 1) := by decide +kernel
theorem dX6_back_46 : decode cX6_back 46 = .ok (.getfield 10, 3) := by decide +kernel
theorem dX6_back_49 : decode cX6_back 49 = .ok (.invokevirtual 78, 3) := by decide +kernel
theorem dX6_back_52 : decode cX6_back 52 = .ok (.iconst 1, 1) := by decide +kernel
theorem dX6_back_53 : decode cX6_back 53 = .ok (.isub, 1) := by decide +kernel
theorem dX6_back_54 : decode cX6_back 54 = .ok (.i2l, 1) := by decide +kernel
theorem dX6_back_55 : decode cX6_back 55 = .ok (.iload 4, 2) := by decide +kernel
theorem dX6_back_57 : decode cX6_back 57 = .ok (.invokestatic 94, 3) := by decide +kernel
theorem dX6_back_60 : decode cX6_back 60 = .ok (.ireturn, 1) := by decide +kernel
set_option maxRecDepth 20000 in
theorem ggX6_stay_X6_areKeys : GoodIn wsX6_stay wsX6_areKeys := goodIn_r _ [5, 6, 7, 8, 4, 9, 10, 11, 12, 13] (by decide +kernel) (by decide +kernel)
set_option maxRecDepth 20000 in
theorem gX6_stay_X6_areKeys : GoodIn wsX6_stay (va_wsS RX6 239 yX6_areKeys wsX6_areKeys) := goodIn_app (goodIn_of _ (by decide +kernel)) ggX6_stay_X6_areKeys
set_option maxRecDepth 20000 in
theorem ggX6_stay_X6_keySharesDivisor : GoodIn wsX6_stay wsX6_keySharesDivisor := goodIn_r _ [16, 17, 18, 12, 19] (by decide +kernel) (by decide +kernel)
set_option maxRecDepth 20000 in
theorem gX6_stay_X6_keySharesDivisor : GoodIn wsX6_stay (va_wsS RX6 242 yX6_keySharesDivisor wsX6_keySharesDivisor) := goodIn_app (goodIn_of _ (by decide +kernel)) ggX6_stay_X6_keySharesDivisor
set_option maxRecDepth 20000 in
theorem ggX6_stay_X3_wipeAll : GoodIn wsX6_stay wsX3_wipeAll := goodIn_r _ [24, 25, 58] (by decide +kernel) (by decide +kernel)
set_option maxRecDepth 20000 in
theorem gX6_stay_X3_wipeAll : GoodIn wsX6_stay (wsV RX6 248 RX3 yX3_wipeAll wsX3_wipeAll) := goodIn_app (goodIn_of _ (by decide +kernel)) ggX6_stay_X3_wipeAll
set_option maxRecDepth 20000 in
theorem ggX6_stay_X6_markStaying : GoodIn wsX6_stay wsX6_markStaying := goodIn_r _ [29, 1, 30, 31, 12, 32, 33, 34, 35, 23, 36, 25, 48, 49, 50, 51, 52, 53, 54, 55, 56, 57, 58] (by decide +kernel) (by decide +kernel)
set_option maxRecDepth 20000 in
theorem gX6_stay_X6_markStaying : GoodIn wsX6_stay (wsV RX6 251 RX6 yX6_markStaying wsX6_markStaying) := goodIn_app (goodIn_of _ (by decide +kernel)) ggX6_stay_X6_markStaying
set_option maxRecDepth 20000 in
theorem ggX6_stay_X6_stayingLetter : GoodIn wsX6_stay wsX6_stayingLetter := goodIn_r _ [40, 1, 41, 42, 12, 43, 44, 45, 46, 23, 47, 25, 48, 49, 50, 51, 52, 53, 54, 55, 56, 57, 58] (by decide +kernel) (by decide +kernel)
set_option maxRecDepth 20000 in
theorem gX6_stay_X6_stayingLetter : GoodIn wsX6_stay (wsV RX6 254 RX6 yX6_stayingLetter wsX6_stayingLetter) := goodIn_app (goodIn_of _ (by decide +kernel)) ggX6_stay_X6_stayingLetter
theorem dX6_stay_0 : decode cX6_stay 0 = .ok (.iload_n 1, 1) := by decide +kernel
theorem dX6_stay_1 : decode cX6_stay 1 = .ok (.iload_n 2, 1) := by decide +kernel
theorem dX6_stay_2 : decode cX6_stay 2 = .ok (.iload_n 3, 1) := by decide +kernel
theorem dX6_stay_3 : decode cX6_stay 3 = .ok (.invokestatic 239, 3) := by decide +kernel
theorem dX6_stay_6 : decode cX6_stay 6 = .ok (.ifCond .eq 9, 3) := by decide +kernel
theorem dX6_stay_9 : decode cX6_stay 9 = .ok (.iload 4, 2) := by decide +kernel
theorem dX6_stay_11 : decode cX6_stay 11 = .ok (.iconst (-1), 1) := by decide +kernel
theorem dX6_stay_12 : decode cX6_stay 12 = .ok (.if_icmp .ge 5, 3) := by decide +kernel
theorem dX6_stay_15 : decode cX6_stay 15 = .ok (.iconst (-1), 1) := by decide +kernel
theorem dX6_stay_16 : decode cX6_stay 16 = .ok (.ireturn, 1) := by decide +kernel
theorem dX6_stay_17 : decode cX6_stay 17 = .ok (.iload_n 1, 1) := by decide +kernel
theorem dX6_stay_18 : decode cX6_stay 18 = .ok (.iload_n 2, 1) := by decide +kernel
theorem dX6_stay_19 : decode cX6_stay 19 = .ok (.iload_n 3, 1) := by decide +kernel
theorem dX6_stay_20 : decode cX6_stay 20 = .ok (.invokestatic 242, 3) := by decide +kernel
theorem dX6_stay_23 : decode cX6_stay 23 = .ok (.ifCond .eq 6, 3) := by decide +kernel
theorem dX6_stay_26 : decode cX6_stay 26 = .ok (.bipush (-2), 2) := by decide +kernel
theorem dX6_stay_28 : decode cX6_stay 28 = .ok (.ireturn, 1) := by decide +kernel
theorem dX6_stay_29 : decode cX6_stay 29 = .ok (.aload_n 0, 1) := by decide +kernel
theorem dX6_stay_30 : decode cX6_stay 30 = .ok (.getfield 22, 3) := by decide +kernel
theorem dX6_stay_33 : decode cX6_stay 33 = .ok (.invokevirtual 248, 3) := by decide +kernel
theorem dX6_stay_36 : decode cX6_stay 36 = .ok (.aload_n 0, 1) := by decide +kernel
theorem dX6_stay_37 : decode cX6_stay 37 = .ok (.iload_n 1, 1) := by decide +kernel
theorem dX6_stay_38 : decode cX6_stay 38 = .ok (.iload_n 3, 1) := by decide +kernel
theorem dX6_stay_39 : decode cX6_stay 39 = .ok (.iconst 0, 1) := by decide +kernel
theorem dX6_stay_40 : decode cX6_stay 40 = .ok (.invokevirtual 251, 3) := by decide +kernel
theorem dX6_stay_43 : decode cX6_stay 43 = .ok (.aload_n 0, 1) := by decide +kernel
theorem dX6_stay_44 : decode cX6_stay 44 = .ok (.iload_n 2, 1) := by decide +kernel
theorem dX6_stay_45 : decode cX6_stay 45 = .ok (.iload_n 3, 1) := by decide +kernel
theorem dX6_stay_46 : decode cX6_stay 46 = .ok (.iload_n 1, 1) := by decide +kernel
theorem dX6_stay_47 : decode cX6_stay 47 = .ok (.invokevirtual 251, 3) := by decide +kernel
theorem dX6_stay_50 : decode cX6_stay 50 = .ok (.imul, 1) := by decide +kernel
theorem dX6_stay_51 : decode cX6_stay 51 = .ok (.istore 5, 2) := by decide +kernel
theorem dX6_stay_53 : decode cX6_stay 53 = .ok (.iload 4, 2) := by decide +kernel
theorem dX6_stay_55 : decode cX6_stay 55 = .ok (.iconst (-1), 1) := by decide +kernel
theorem dX6_stay_56 : decode cX6_stay 56 = .ok (.if_icmp .ne 6, 3) := by decide +kernel
theorem dX6_stay_59 : decode cX6_stay 59 = .ok (.iload 5, 2) := by decide +kernel
theorem dX6_stay_61 : decode cX6_stay 61 = .ok (.ireturn, 1) := by decide +kernel
theorem dX6_stay_62 : decode cX6_stay 62 = .ok (.iload 4, 2) := by decide +kernel
theorem dX6_stay_64 : decode cX6_stay 64 = .ok (.iload 5, 2) := by decide +kernel
theorem dX6_stay_66 : decode cX6_stay 66 = .ok (.if_icmp .ge 14, 3) := by decide +kernel
theorem dX6_stay_69 : decode cX6_stay 69 = .ok (.aload_n 0, 1) := by decide +kernel
theorem dX6_stay_70 : decode cX6_stay 70 = .ok (.iload_n 1, 1) := by decide +kernel
theorem dX6_stay_71 : decode cX6_stay 71 = .ok (.iload_n 2, 1) := by decide +kernel
theorem dX6_stay_72 : decode cX6_stay 72 = .ok (.iload 4, 2) := by decide +kernel
theorem dX6_stay_74 : decode cX6_stay 74 = .ok (.invokevirtual 254, 3) := by decide +kernel
theorem dX6_stay_77 : decode cX6_stay 77 = .ok (.goto 5, 3) := by decide +kernel
theorem dX6_stay_80 : decode cX6_stay 80 = .ok (.bipush (-4), 2) := by decide +kernel
theorem dX6_stay_82 : decode cX6_stay 82 = .ok (.ireturn, 1) := by decide +kernel
set_option maxRecDepth 20000 in
theorem ggX6_rounds_X6_areKeys : GoodIn wsX6_rounds wsX6_areKeys := goodIn_r _ [4, 5, 6, 7, 3, 8, 9, 10, 11, 12] (by decide +kernel) (by decide +kernel)
set_option maxRecDepth 20000 in
theorem gX6_rounds_X6_areKeys : GoodIn wsX6_rounds (va_wsS RX6 239 yX6_areKeys wsX6_areKeys) := goodIn_app (goodIn_of _ (by decide +kernel)) ggX6_rounds_X6_areKeys
set_option maxRecDepth 20000 in
theorem ggX6_rounds_X6_keySharesDivisor : GoodIn wsX6_rounds wsX6_keySharesDivisor := goodIn_r _ [15, 16, 17, 11, 18] (by decide +kernel) (by decide +kernel)
set_option maxRecDepth 20000 in
theorem gX6_rounds_X6_keySharesDivisor : GoodIn wsX6_rounds (va_wsS RX6 242 yX6_keySharesDivisor wsX6_keySharesDivisor) := goodIn_app (goodIn_of _ (by decide +kernel)) ggX6_rounds_X6_keySharesDivisor
set_option maxRecDepth 20000 in
theorem ggX6_rounds_X6_turnBy : GoodIn wsX6_rounds wsX6_turnBy := goodIn_r _ [22, 23, 24, 11, 25, 26, 27, 28, 3, 29, 30, 31, 32, 33, 34, 35, 36, 37, 38, 39, 40, 41, 42, 43, 44, 45, 46, 47, 48, 49, 50, 51, 52, 53, 54, 55, 56, 57, 58, 59, 17, 18, 60, 61, 62, 64, 65, 66, 67, 68, 69, 70, 71, 72, 73, 74, 75, 76] (by decide +kernel) (by decide +kernel)
set_option maxRecDepth 20000 in
theorem gX6_rounds_X6_turnBy : GoodIn wsX6_rounds (wsV RX6 257 RX6 yX6_turnBy wsX6_turnBy) := goodIn_app (goodIn_of _ (by decide +kernel)) ggX6_rounds_X6_turnBy
set_option maxRecDepth 20000 in
theorem ggX6_rounds_X4_commonMultiple : GoodIn wsX6_rounds wsX4_commonMultiple := goodIn_r _ [58, 59, 17, 11, 18] (by decide +kernel) (by decide +kernel)
set_option maxRecDepth 20000 in
theorem gX6_rounds_X4_commonMultiple : GoodIn wsX6_rounds (va_wsS RX6 245 yX4_commonMultiple wsX4_commonMultiple) := goodIn_app (goodIn_of _ (by decide +kernel)) ggX6_rounds_X4_commonMultiple
set_option maxRecDepth 20000 in
theorem ggX6_rounds_X6_leastExponent : GoodIn wsX6_rounds wsX6_leastExponent := goodIn_r _ [29, 30, 31, 32, 33, 34, 35, 36, 37, 38, 39, 40, 41, 42, 43, 44, 45, 46, 47, 48, 49, 50, 51, 52, 53, 54, 55, 56, 57, 11, 58, 59, 17, 18, 60, 61, 62, 64, 65, 66, 67, 68, 69, 70, 71, 72, 73, 74, 75, 76] (by decide +kernel) (by decide +kernel)
set_option maxRecDepth 20000 in
theorem gX6_rounds_X6_leastExponent : GoodIn wsX6_rounds (wsV RX6 73 RX6 yX6_leastExponent wsX6_leastExponent) := goodIn_app (goodIn_of _ (by decide +kernel)) ggX6_rounds_X6_leastExponent
theorem dX6_rounds_0 : decode cX6_rounds 0 = .ok (.iload_n 1, 1) := by decide +kernel
theorem dX6_rounds_1 : decode cX6_rounds 1 = .ok (.iload_n 2, 1) := by decide +kernel
theorem dX6_rounds_2 : decode cX6_rounds 2 = .ok (.iload_n 3, 1) := by decide +kernel
theorem dX6_rounds_3 : decode cX6_rounds 3 = .ok (.invokestatic 239, 3) := by decide +kernel
theorem dX6_rounds_6 : decode cX6_rounds 6 = .ok (.ifCond .eq 17, 3) := by decide +kernel
theorem dX6_rounds_9 : decode cX6_rounds 9 = .ok (.iload 4, 2) := by decide +kernel
theorem dX6_rounds_11 : decode cX6_rounds 11 = .ok (.iconst (-1), 1) := by decide +kernel
theorem dX6_rounds_12 : decode cX6_rounds 12 = .ok (.if_icmp .lt 11, 3) := by decide +kernel
theorem dX6_rounds_15 : decode cX6_rounds 15 = .ok (.iload 4, 2) := by decide +kernel
theorem dX6_rounds_17 : decode cX6_rounds 17 = .ok (.iload_n 1, 1) := by decide +kernel
theorem dX6_rounds_18 : decode cX6_rounds 18 = .ok (.iload_n 2, 1) := by decide +kernel
theorem dX6_rounds_19 : decode cX6_rounds 19 = .ok (.imul, 1) := by decide +kernel
theorem dX6_rounds_20 : decode cX6_rounds 20 = .ok (.if_icmp .lt 5, 3) := by decide +kernel
theorem dX6_rounds_23 : decode cX6_rounds 23 = .ok (.iconst (-1), 1) := by decide +kernel
theorem dX6_rounds_24 : decode cX6_rounds 24 = .ok (.ireturn, 1) := by decide +kernel
theorem dX6_rounds_25 : decode cX6_rounds 25 = .ok (.iload_n 1, 1) := by decide +kernel
theorem dX6_rounds_26 : decode cX6_rounds 26 = .ok (.iload_n 2, 1) := by decide +kernel
theorem dX6_rounds_27 : decode cX6_rounds 27 = .ok (.iload_n 3, 1) := by decide +kernel
theorem dX6_rounds_28 : decode cX6_rounds 28 = .ok (.invokestatic 242, 3) := by decide +kernel
theorem dX6_rounds_31 : decode cX6_rounds 31 = .ok (.ifCond .eq 6, 3) := by decide +kernel
theorem dX6_rounds_34 : decode cX6_rounds 34 = .ok (.bipush (-2), 2) := by decide +kernel
theorem dX6_rounds_36 : decode cX6_rounds 36 = .ok (.ireturn, 1) := by decide +kernel
theorem dX6_rounds_37 : decode cX6_rounds 37 = .ok (.aload_n 0, 1) := by decide +kernel
theorem dX6_rounds_38 : decode cX6_rounds 38 = .ok (.iload_n 1, 1) := by decide +kernel
theorem dX6_rounds_39 : decode cX6_rounds 39 = .ok (.iload 4, 2) := by decide +kernel
theorem dX6_rounds_41 : decode cX6_rounds 41 = .ok (.invokevirtual 257, 3) := by decide +kernel
theorem dX6_rounds_44 : decode cX6_rounds 44 = .ok (.aload_n 0, 1) := by decide +kernel
theorem dX6_rounds_45 : decode cX6_rounds 45 = .ok (.iload_n 2, 1) := by decide +kernel
theorem dX6_rounds_46 : decode cX6_rounds 46 = .ok (.iload 4, 2) := by decide +kernel
theorem dX6_rounds_48 : decode cX6_rounds 48 = .ok (.invokevirtual 257, 3) := by decide +kernel
theorem dX6_rounds_51 : decode cX6_rounds 51 = .ok (.invokestatic 245, 3) := by decide +kernel
theorem dX6_rounds_54 : decode cX6_rounds 54 = .ok (.istore 5, 2) := by decide +kernel
theorem dX6_rounds_56 : decode cX6_rounds 56 = .ok (.aload_n 0, 1) := by decide +kernel
theorem dX6_rounds_57 : decode cX6_rounds 57 = .ok (.iload_n 3, 1) := by decide +kernel
theorem dX6_rounds_58 : decode cX6_rounds 58 = .ok (.iload 5, 2) := by decide +kernel
theorem dX6_rounds_60 : decode cX6_rounds 60 = .ok (.invokevirtual 73, 3) := by decide +kernel
theorem dX6_rounds_63 : decode cX6_rounds 63 = .ok (.ireturn, 1) := by decide +kernel
theorem dX6_count_0 : decode cX6_count 0 = .ok (.iload_n 1, 1) := by decide +kernel
theorem dX6_count_1 : decode cX6_count 1 = .ok (.tableswitch 51 0 2 #[27, 35, 43], 27) := by decide +kernel
theorem dX6_count_28 : decode cX6_count 28 = .ok (.aload_n 0, 1) := by decide +kernel
theorem dX6_count_29 : decode cX6_count 29 = .ok (.getfield 29, 3) := by decide +kernel
theorem dX6_count_32 : decode cX6_count 32 = .ok (.getfield 135, 3) := by decide +kernel
theorem dX6_count_35 : decode cX6_count 35 = .ok (.ireturn, 1) := by decide +kernel
theorem dX6_count_36 : decode cX6_count 36 = .ok (.aload_n 0, 1) := by decide +kernel
theorem dX6_count_37 : decode cX6_count 37 = .ok (.getfield 43, 3) := by decide +kernel
theorem dX6_count_40 : decode cX6_count 40 = .ok (.getfield 178, 3) := by decide +kernel
theorem dX6_count_43 : decode cX6_count 43 = .ok (.ireturn, 1) := by decide +kernel
theorem dX6_count_44 : decode cX6_count 44 = .ok (.aload_n 0, 1) := by decide +kernel
theorem dX6_count_45 : decode cX6_count 45 = .ok (.getfield 43, 3) := by decide +kernel
theorem dX6_count_48 : decode cX6_count 48 = .ok (.getfield 260, 3) := by decide +kernel
theorem dX6_count_51 : decode cX6_count 51 = .ok (.ireturn, 1) := by decide +kernel
theorem dX6_count_52 : decode cX6_count 52 = .ok (.iconst (-1), 1) := by decide +kernel
theorem dX6_count_53 : decode cX6_count 53 = .ok (.ireturn, 1) := by decide +kernel
theorem dX6_isDivisor_0 : decode cX6_isDivisor 0 = .ok (.iload_n 0, 1) := by decide +kernel
theorem dX6_isDivisor_1 : decode cX6_isDivisor 1 = .ok (.iconst 2, 1) := by decide +kernel
theorem dX6_isDivisor_2 : decode cX6_isDivisor 2 = .ok (.if_icmp .lt 13, 3) := by decide +kernel
theorem dX6_isDivisor_5 : decode cX6_isDivisor 5 = .ok (.iload_n 0, 1) := by decide +kernel
theorem dX6_isDivisor_6 : decode cX6_isDivisor 6 = .ok (.ldc 77, 2) := by decide +kernel
theorem dX6_isDivisor_8 : decode cX6_isDivisor 8 = .ok (.if_icmp .gt 7, 3) := by decide +kernel
theorem dX6_isDivisor_11 : decode cX6_isDivisor 11 = .ok (.iconst 1, 1) := by decide +kernel
theorem dX6_isDivisor_12 : decode cX6_isDivisor 12 = .ok (.goto 4, 3) := by decide +kernel
theorem dX6_isDivisor_15 : decode cX6_isDivisor 15 = .ok (.iconst 0, 1) := by decide +kernel
theorem dX6_isDivisor_16 : decode cX6_isDivisor 16 = .ok (.ireturn, 1) := by decide +kernel
theorem dX6_isRest_0 : decode cX6_isRest 0 = .ok (.iload_n 0, 1) := by decide +kernel
theorem dX6_isRest_1 : decode cX6_isRest 1 = .ok (.ifCond .lt 12, 3) := by decide +kernel
theorem dX6_isRest_4 : decode cX6_isRest 4 = .ok (.iload_n 0, 1) := by decide +kernel
theorem dX6_isRest_5 : decode cX6_isRest 5 = .ok (.iload_n 1, 1) := by decide +kernel
theorem dX6_isRest_6 : decode cX6_isRest 6 = .ok (.if_icmp .ge 7, 3) := by decide +kernel
theorem dX6_isRest_9 : decode cX6_isRest 9 = .ok (.iconst 1, 1) := by decide +kernel
theorem dX6_isRest_10 : decode cX6_isRest 10 = .ok (.goto 4, 3) := by decide +kernel
theorem dX6_isRest_13 : decode cX6_isRest 13 = .ok (.iconst 0, 1) := by decide +kernel
theorem dX6_isRest_14 : decode cX6_isRest 14 = .ok (.ireturn, 1) := by decide +kernel
theorem dX6_isOddOne_0 : decode cX6_isOddOne 0 = .ok (.iload_n 0, 1) := by decide +kernel
theorem dX6_isOddOne_1 : decode cX6_isOddOne 1 = .ok (.iconst 3, 1) := by decide +kernel
theorem dX6_isOddOne_2 : decode cX6_isOddOne 2 = .ok (.if_icmp .lt 20, 3) := by decide +kernel
theorem dX6_isOddOne_5 : decode cX6_isOddOne 5 = .ok (.iload_n 0, 1) := by decide +kernel
theorem dX6_isOddOne_6 : decode cX6_isOddOne 6 = .ok (.ldc 208, 2) := by decide +kernel
theorem dX6_isOddOne_8 : decode cX6_isOddOne 8 = .ok (.if_icmp .gt 14, 3) := by decide +kernel
theorem dX6_isOddOne_11 : decode cX6_isOddOne 11 = .ok (.iload_n 0, 1) := by decide +kernel
theorem dX6_isOddOne_12 : decode cX6_isOddOne 12 = .ok (.iconst 2, 1) := by decide +kernel
theorem dX6_isOddOne_13 : decode cX6_isOddOne 13 = .ok (.irem, 1) := by decide +kernel
theorem dX6_isOddOne_14 : decode cX6_isOddOne 14 = .ok (.iconst 1, 1) := by decide +kernel
theorem dX6_isOddOne_15 : decode cX6_isOddOne 15 = .ok (.if_icmp .ne 7, 3) := by decide +kernel
theorem dX6_isOddOne_18 : decode cX6_isOddOne 18 = .ok (.iconst 1, 1) := by decide +kernel
theorem dX6_isOddOne_19 : decode cX6_isOddOne 19 = .ok (.goto 4, 3) := by decide +kernel
theorem dX6_isOddOne_22 : decode cX6_isOddOne 22 = .ok (.iconst 0, 1) := by decide +kernel
theorem dX6_isOddOne_23 : decode cX6_isOddOne 23 = .ok (.ireturn, 1) := by decide +kernel
theorem dX6_isBase_0 : decode cX6_isBase 0 = .ok (.iload_n 0, 1) := by decide +kernel
theorem dX6_isBase_1 : decode cX6_isBase 1 = .ok (.iconst 2, 1) := by decide +kernel
theorem dX6_isBase_2 : decode cX6_isBase 2 = .ok (.if_icmp .lt 13, 3) := by decide +kernel
theorem dX6_isBase_5 : decode cX6_isBase 5 = .ok (.iload_n 0, 1) := by decide +kernel
theorem dX6_isBase_6 : decode cX6_isBase 6 = .ok (.bipush 36, 2) := by decide +kernel
theorem dX6_isBase_8 : decode cX6_isBase 8 = .ok (.if_icmp .gt 7, 3) := by decide +kernel
theorem dX6_isBase_11 : decode cX6_isBase 11 = .ok (.iconst 1, 1) := by decide +kernel
theorem dX6_isBase_12 : decode cX6_isBase 12 = .ok (.goto 4, 3) := by decide +kernel
theorem dX6_isBase_15 : decode cX6_isBase 15 = .ok (.iconst 0, 1) := by decide +kernel
theorem dX6_isBase_16 : decode cX6_isBase 16 = .ok (.ireturn, 1) := by decide +kernel
set_option maxRecDepth 20000 in
theorem ggX6_areKeys_X6_isKeyPrime : GoodIn wsX6_areKeys wsX6_isKeyPrime := goodIn_r _ [5, 6, 7, 8, 9] (by decide +kernel) (by decide +kernel)
set_option maxRecDepth 20000 in
theorem gX6_areKeys_X6_isKeyPrime : GoodIn wsX6_areKeys (va_wsS RX6 263 yX6_isKeyPrime wsX6_isKeyPrime) := goodIn_app (goodIn_of _ (by decide +kernel)) ggX6_areKeys_X6_isKeyPrime
theorem dX6_areKeys_0 : decode cX6_areKeys 0 = .ok (.iload_n 0, 1) := by decide +kernel
theorem dX6_areKeys_1 : decode cX6_areKeys 1 = .ok (.invokestatic 263, 3) := by decide +kernel
theorem dX6_areKeys_4 : decode cX6_areKeys 4 = .ok (.ifCond .eq 31, 3) := by decide +kernel
theorem dX6_areKeys_7 : decode cX6_areKeys 7 = .ok (.iload_n 1, 1) := by decide +kernel
theorem dX6_areKeys_8 : decode cX6_areKeys 8 = .ok (.invokestatic 263, 3) := by decide +kernel
theorem dX6_areKeys_11 : decode cX6_areKeys 11 = .ok (.ifCond .eq 24, 3) := by decide +kernel
theorem dX6_areKeys_14 : decode cX6_areKeys 14 = .ok (.iload_n 0, 1) := by decide +kernel
theorem dX6_areKeys_15 : decode cX6_areKeys 15 = .ok (.iload_n 1, 1) := by decide +kernel
theorem dX6_areKeys_16 : decode cX6_areKeys 16 = .ok (.if_icmp .eq 19, 3) := by decide +kernel
theorem dX6_areKeys_19 : decode cX6_areKeys 19 = .ok (.iload_n 2, 1) := by decide +kernel
theorem dX6_areKeys_20 : decode cX6_areKeys 20 = .ok (.iconst 1, 1) := by decide +kernel
theorem dX6_areKeys_21 : decode cX6_areKeys 21 = .ok (.if_icmp .lt 14, 3) := by decide +kernel
theorem dX6_areKeys_24 : decode cX6_areKeys 24 = .ok (.iload_n 2, 1) := by decide +kernel
theorem dX6_areKeys_25 : decode cX6_areKeys 25 = .ok (.ldc_w 266, 3) := by decide +kernel
theorem dX6_areKeys_28 : decode cX6_areKeys 28 = .ok (.if_icmp .gt 7, 3) := by decide +kernel
theorem dX6_areKeys_31 : decode cX6_areKeys 31 = .ok (.iconst 1, 1) := by decide +kernel
theorem dX6_areKeys_32 : decode cX6_areKeys 32 = .ok (.goto 4, 3) := by decide +kernel
theorem dX6_areKeys_35 : decode cX6_areKeys 35 = .ok (.iconst 0, 1) := by decide +kernel
theorem dX6_areKeys_36 : decode cX6_areKeys 36 = .ok (.ireturn, 1) := by decide +kernel
set_option maxRecDepth 20000 in
theorem ggX6_isKeyPrime_X4_isPrime : GoodIn wsX6_isKeyPrime wsX4_isPrime := goodIn_r _ [4] (by decide +kernel) (by decide +kernel)
set_option maxRecDepth 20000 in
theorem gX6_isKeyPrime_X4_isPrime : GoodIn wsX6_isKeyPrime (va_wsS RX6 193 yX4_isPrime wsX4_isPrime) := goodIn_app (goodIn_of _ (by decide +kernel)) ggX6_isKeyPrime_X4_isPrime
theorem dX6_isKeyPrime_0 : decode cX6_isKeyPrime 0 = .ok (.iload_n 0, 1) := by decide +kernel
theorem dX6_isKeyPrime_1 : decode cX6_isKeyPrime 1 = .ok (.sipush 199, 3) := by decide +kernel
theorem dX6_isKeyPrime_4 : decode cX6_isKeyPrime 4 = .ok (.if_icmp .gt 14, 3) := by decide +kernel
theorem dX6_isKeyPrime_7 : decode cX6_isKeyPrime 7 = .ok (.iload_n 0, 1) := by decide +kernel
theorem dX6_isKeyPrime_8 : decode cX6_isKeyPrime 8 = .ok (.invokestatic 193, 3) := by decide +kernel
theorem dX6_isKeyPrime_11 : decode cX6_isKeyPrime 11 = .ok (.ifCond .eq 7, 3) := by decide +kernel
theorem dX6_isKeyPrime_14 : decode cX6_isKeyPrime 14 = .ok (.iconst 1, 1) := by decide +kernel
theorem dX6_isKeyPrime_15 : decode cX6_isKeyPrime 15 = .ok (.goto 4, 3) := by decide +kernel
theorem dX6_isKeyPrime_18 : decode cX6_isKeyPrime 18 = .ok (.iconst 0, 1) := by decide +kernel
theorem dX6_isKeyPrime_19 : decode cX6_isKeyPrime 19 = .ok (.ireturn, 1) := by decide +kernel
set_option maxRecDepth 20000 in
theorem ggX6_keySharesDivisor_X4_commonDivisor : GoodIn wsX6_keySharesDivisor wsX4_commonDivisor := goodIn_r _ [4] (by decide +kernel) (by decide +kernel)
set_option maxRecDepth 20000 in
theorem gX6_keySharesDivisor_X4_commonDivisor : GoodIn wsX6_keySharesDivisor (va_wsS RX6 267 yX4_commonDivisor wsX4_commonDivisor) := goodIn_app (goodIn_of _ (by decide +kernel)) ggX6_keySharesDivisor_X4_commonDivisor
theorem dX6_keySharesDivisor_0 : decode cX6_keySharesDivisor 0 = .ok (.iload_n 0, 1) := by decide +kernel
theorem dX6_keySharesDivisor_1 : decode cX6_keySharesDivisor 1 = .ok (.iconst 1, 1) := by decide +kernel
theorem dX6_keySharesDivisor_2 : decode cX6_keySharesDivisor 2 = .ok (.isub, 1) := by decide +kernel
