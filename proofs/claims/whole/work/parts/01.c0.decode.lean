theorem dX0_init_0 : decode cX0_init 0 = .ok (.aload_n 0, 1) := by decide +kernel
theorem dX0_init_1 : decode cX0_init 1 = .ok (.invokespecial 1, 3) := by decide +kernel
theorem dX0_init_4 : decode cX0_init 4 = .ok (.aload_n 0, 1) := by decide +kernel
theorem dX0_init_5 : decode cX0_init 5 = .ok (.bipush 8, 2) := by decide +kernel
theorem dX0_init_7 : decode cX0_init 7 = .ok (.newarray .int, 2) := by decide +kernel
theorem dX0_init_9 : decode cX0_init 9 = .ok (.putfield 9, 3) := by decide +kernel
theorem dX0_init_12 : decode cX0_init 12 = .ok (.aload_n 0, 1) := by decide +kernel
theorem dX0_init_13 : decode cX0_init 13 = .ok (.bipush 8, 2) := by decide +kernel
theorem dX0_init_15 : decode cX0_init 15 = .ok (.newarray .int, 2) := by decide +kernel
theorem dX0_init_17 : decode cX0_init 17 = .ok (.putfield 13, 3) := by decide +kernel
theorem dX0_init_20 : decode cX0_init 20 = .ok (.return_, 1) := by decide +kernel
set_option maxRecDepth 20000 in
theorem ggX0_split_X0_takeOut : GoodIn wsX0_split wsX0_takeOut := goodIn_r _ [6, 1, 7, 8, 9, 10, 11] (by decide +kernel) (by decide +kernel)
set_option maxRecDepth 20000 in
theorem gX0_split_X0_takeOut : GoodIn wsX0_split (wsV RX0 20 RX0 yX0_takeOut wsX0_takeOut) := goodIn_app (goodIn_of _ (by decide +kernel)) ggX0_split_X0_takeOut
theorem dX0_split_0 : decode cX0_split 0 = .ok (.aload_n 0, 1) := by decide +kernel
theorem dX0_split_1 : decode cX0_split 1 = .ok (.iconst 0, 1) := by decide +kernel
theorem dX0_split_2 : decode cX0_split 2 = .ok (.putfield 16, 3) := by decide +kernel
theorem dX0_split_5 : decode cX0_split 5 = .ok (.iload_n 1, 1) := by decide +kernel
theorem dX0_split_6 : decode cX0_split 6 = .ok (.istore_n 2, 1) := by decide +kernel
theorem dX0_split_7 : decode cX0_split 7 = .ok (.iconst 2, 1) := by decide +kernel
theorem dX0_split_8 : decode cX0_split 8 = .ok (.istore_n 3, 1) := by decide +kernel
theorem dX0_split_9 : decode cX0_split 9 = .ok (.iload_n 3, 1) := by decide +kernel
theorem dX0_split_10 : decode cX0_split 10 = .ok (.sipush 1000, 3) := by decide +kernel
theorem dX0_split_13 : decode cX0_split 13 = .ok (.if_icmp .ge 29, 3) := by decide +kernel
theorem dX0_split_16 : decode cX0_split 16 = .ok (.iload_n 3, 1) := by decide +kernel
theorem dX0_split_17 : decode cX0_split 17 = .ok (.iload_n 3, 1) := by decide +kernel
theorem dX0_split_18 : decode cX0_split 18 = .ok (.imul, 1) := by decide +kernel
theorem dX0_split_19 : decode cX0_split 19 = .ok (.iload_n 2, 1) := by decide +kernel
theorem dX0_split_20 : decode cX0_split 20 = .ok (.if_icmp .gt 22, 3) := by decide +kernel
theorem dX0_split_23 : decode cX0_split 23 = .ok (.iload_n 2, 1) := by decide +kernel
theorem dX0_split_24 : decode cX0_split 24 = .ok (.iload_n 3, 1) := by decide +kernel
theorem dX0_split_25 : decode cX0_split 25 = .ok (.irem, 1) := by decide +kernel
theorem dX0_split_26 : decode cX0_split 26 = .ok (.ifCond .ne 10, 3) := by decide +kernel
theorem dX0_split_29 : decode cX0_split 29 = .ok (.aload_n 0, 1) := by decide +kernel
theorem dX0_split_30 : decode cX0_split 30 = .ok (.iload_n 3, 1) := by decide +kernel
theorem dX0_split_31 : decode cX0_split 31 = .ok (.iload_n 2, 1) := by decide +kernel
theorem dX0_split_32 : decode cX0_split 32 = .ok (.invokevirtual 20, 3) := by decide +kernel
theorem dX0_split_35 : decode cX0_split 35 = .ok (.istore_n 2, 1) := by decide +kernel
theorem dX0_split_36 : decode cX0_split 36 = .ok (.iinc 3 1, 3) := by decide +kernel
theorem dX0_split_39 : decode cX0_split 39 = .ok (.goto (-30), 3) := by decide +kernel
theorem dX0_split_42 : decode cX0_split 42 = .ok (.iload_n 2, 1) := by decide +kernel
theorem dX0_split_43 : decode cX0_split 43 = .ok (.iconst 1, 1) := by decide +kernel
theorem dX0_split_44 : decode cX0_split 44 = .ok (.if_icmp .le 10, 3) := by decide +kernel
theorem dX0_split_47 : decode cX0_split 47 = .ok (.aload_n 0, 1) := by decide +kernel
theorem dX0_split_48 : decode cX0_split 48 = .ok (.iload_n 2, 1) := by decide +kernel
theorem dX0_split_49 : decode cX0_split 49 = .ok (.iload_n 2, 1) := by decide +kernel
theorem dX0_split_50 : decode cX0_split 50 = .ok (.invokevirtual 20, 3) := by decide +kernel
theorem dX0_split_53 : decode cX0_split 53 = .ok (.pop, 1) := by decide +kernel
theorem dX0_split_54 : decode cX0_split 54 = .ok (.return_, 1) := by decide +kernel
theorem dX0_takeOut_0 : decode cX0_takeOut 0 = .ok (.iload_n 2, 1) := by decide +kernel
theorem dX0_takeOut_1 : decode cX0_takeOut 1 = .ok (.istore_n 3, 1) := by decide +kernel
theorem dX0_takeOut_2 : decode cX0_takeOut 2 = .ok (.iconst 0, 1) := by decide +kernel
theorem dX0_takeOut_3 : decode cX0_takeOut 3 = .ok (.istore 4, 2) := by decide +kernel
theorem dX0_takeOut_5 : decode cX0_takeOut 5 = .ok (.iconst 0, 1) := by decide +kernel
theorem dX0_takeOut_6 : decode cX0_takeOut 6 = .ok (.istore 5, 2) := by decide +kernel
theorem dX0_takeOut_8 : decode cX0_takeOut 8 = .ok (.iload 5, 2) := by decide +kernel
theorem dX0_takeOut_10 : decode cX0_takeOut 10 = .ok (.bipush 32, 2) := by decide +kernel
theorem dX0_takeOut_12 : decode cX0_takeOut 12 = .ok (.if_icmp .ge 27, 3) := by decide +kernel
theorem dX0_takeOut_15 : decode cX0_takeOut 15 = .ok (.iload_n 1, 1) := by decide +kernel
theorem dX0_takeOut_16 : decode cX0_takeOut 16 = .ok (.iconst 1, 1) := by decide +kernel
theorem dX0_takeOut_17 : decode cX0_takeOut 17 = .ok (.if_icmp .le 22, 3) := by decide +kernel
theorem dX0_takeOut_20 : decode cX0_takeOut 20 = .ok (.iload_n 3, 1) := by decide +kernel
theorem dX0_takeOut_21 : decode cX0_takeOut 21 = .ok (.iload_n 1, 1) := by decide +kernel
theorem dX0_takeOut_22 : decode cX0_takeOut 22 = .ok (.irem, 1) := by decide +kernel
theorem dX0_takeOut_23 : decode cX0_takeOut 23 = .ok (.ifCond .ne 16, 3) := by decide +kernel
theorem dX0_takeOut_26 : decode cX0_takeOut 26 = .ok (.iload_n 3, 1) := by decide +kernel
theorem dX0_takeOut_27 : decode cX0_takeOut 27 = .ok (.iload_n 1, 1) := by decide +kernel
theorem dX0_takeOut_28 : decode cX0_takeOut 28 = .ok (.idiv, 1) := by decide +kernel
theorem dX0_takeOut_29 : decode cX0_takeOut 29 = .ok (.istore_n 3, 1) := by decide +kernel
theorem dX0_takeOut_30 : decode cX0_takeOut 30 = .ok (.iinc 4 1, 3) := by decide +kernel
theorem dX0_takeOut_33 : decode cX0_takeOut 33 = .ok (.iinc 5 1, 3) := by decide +kernel
theorem dX0_takeOut_36 : decode cX0_takeOut 36 = .ok (.goto (-28), 3) := by decide +kernel
theorem dX0_takeOut_39 : decode cX0_takeOut 39 = .ok (.aload_n 0, 1) := by decide +kernel
theorem dX0_takeOut_40 : decode cX0_takeOut 40 = .ok (.getfield 16, 3) := by decide +kernel
theorem dX0_takeOut_43 : decode cX0_takeOut 43 = .ok (.bipush 8, 2) := by decide +kernel
theorem dX0_takeOut_45 : decode cX0_takeOut 45 = .ok (.if_icmp .ge 34, 3) := by decide +kernel
theorem dX0_takeOut_48 : decode cX0_takeOut 48 = .ok (.aload_n 0, 1) := by decide +kernel
theorem dX0_takeOut_49 : decode cX0_takeOut 49 = .ok (.getfield 9, 3) := by decide +kernel
theorem dX0_takeOut_52 : decode cX0_takeOut 52 = .ok (.aload_n 0, 1) := by decide +kernel
theorem dX0_takeOut_53 : decode cX0_takeOut 53 = .ok (.getfield 16, 3) := by decide +kernel
theorem dX0_takeOut_56 : decode cX0_takeOut 56 = .ok (.iload_n 1, 1) := by decide +kernel
theorem dX0_takeOut_57 : decode cX0_takeOut 57 = .ok (.iastore, 1) := by decide +kernel
theorem dX0_takeOut_58 : decode cX0_takeOut 58 = .ok (.aload_n 0, 1) := by decide +kernel
theorem dX0_takeOut_59 : decode cX0_takeOut 59 = .ok (.getfield 13, 3) := by decide +kernel
theorem dX0_takeOut_62 : decode cX0_takeOut 62 = .ok (.aload_n 0, 1) := by decide +kernel
theorem dX0_takeOut_63 : decode cX0_takeOut 63 = .ok (.getfield 16, 3) := by decide +kernel
theorem dX0_takeOut_66 : decode cX0_takeOut 66 = .ok (.iload 4, 2) := by decide +kernel
theorem dX0_takeOut_68 : decode cX0_takeOut 68 = .ok (.iastore, 1) := by decide +kernel
theorem dX0_takeOut_69 : decode cX0_takeOut 69 = .ok (.aload_n 0, 1) := by decide +kernel
theorem dX0_takeOut_70 : decode cX0_takeOut 70 = .ok (.dup, 1) := by decide +kernel
theorem dX0_takeOut_71 : decode cX0_takeOut 71 = .ok (.getfield 16, 3) := by decide +kernel
theorem dX0_takeOut_74 : decode cX0_takeOut 74 = .ok (.iconst 1, 1) := by decide +kernel
theorem dX0_takeOut_75 : decode cX0_takeOut 75 = .ok (.iadd, 1) := by decide +kernel
theorem dX0_takeOut_76 : decode cX0_takeOut 76 = .ok (.putfield 16, 3) := by decide +kernel
theorem dX0_takeOut_79 : decode cX0_takeOut 79 = .ok (.iload_n 3, 1) := by decide +kernel
theorem dX0_takeOut_80 : decode cX0_takeOut 80 = .ok (.ireturn, 1) := by decide +kernel
set_option maxRecDepth 20000 in
theorem ggX0_sharesWith_X4_rest : GoodIn wsX0_sharesWith wsX4_rest := goodIn_r _ [6] (by decide +kernel) (by decide +kernel)
set_option maxRecDepth 20000 in
theorem gX0_sharesWith_X4_rest : GoodIn wsX0_sharesWith (va_wsS RX0 24 yX4_rest wsX4_rest) := goodIn_app (goodIn_of _ (by decide +kernel)) ggX0_sharesWith_X4_rest
theorem dX0_sharesWith_0 : decode cX0_sharesWith 0 = .ok (.iconst 0, 1) := by decide +kernel
theorem dX0_sharesWith_1 : decode cX0_sharesWith 1 = .ok (.istore_n 2, 1) := by decide +kernel
theorem dX0_sharesWith_2 : decode cX0_sharesWith 2 = .ok (.iload_n 2, 1) := by decide +kernel
theorem dX0_sharesWith_3 : decode cX0_sharesWith 3 = .ok (.aload_n 0, 1) := by decide +kernel
theorem dX0_sharesWith_4 : decode cX0_sharesWith 4 = .ok (.getfield 16, 3) := by decide +kernel
theorem dX0_sharesWith_7 : decode cX0_sharesWith 7 = .ok (.if_icmp .ge 25, 3) := by decide +kernel
theorem dX0_sharesWith_10 : decode cX0_sharesWith 10 = .ok (.iload_n 1, 1) := by decide +kernel
theorem dX0_sharesWith_11 : decode cX0_sharesWith 11 = .ok (.i2l, 1) := by decide +kernel
theorem dX0_sharesWith_12 : decode cX0_sharesWith 12 = .ok (.aload_n 0, 1) := by decide +kernel
theorem dX0_sharesWith_13 : decode cX0_sharesWith 13 = .ok (.getfield 9, 3) := by decide +kernel
theorem dX0_sharesWith_16 : decode cX0_sharesWith 16 = .ok (.iload_n 2, 1) := by decide +kernel
theorem dX0_sharesWith_17 : decode cX0_sharesWith 17 = .ok (.iaload, 1) := by decide +kernel
theorem dX0_sharesWith_18 : decode cX0_sharesWith 18 = .ok (.invokestatic 24, 3) := by decide +kernel
theorem dX0_sharesWith_21 : decode cX0_sharesWith 21 = .ok (.ifCond .ne 5, 3) := by decide +kernel
theorem dX0_sharesWith_24 : decode cX0_sharesWith 24 = .ok (.iconst 1, 1) := by decide +kernel
theorem dX0_sharesWith_25 : decode cX0_sharesWith 25 = .ok (.ireturn, 1) := by decide +kernel
theorem dX0_sharesWith_26 : decode cX0_sharesWith 26 = .ok (.iinc 2 1, 3) := by decide +kernel
theorem dX0_sharesWith_29 : decode cX0_sharesWith 29 = .ok (.goto (-27), 3) := by decide +kernel
theorem dX0_sharesWith_32 : decode cX0_sharesWith 32 = .ok (.iconst 0, 1) := by decide +kernel
theorem dX0_sharesWith_33 : decode cX0_sharesWith 33 = .ok (.ireturn, 1) := by decide +kernel
theorem dX0_unitsAt_0 : decode cX0_unitsAt 0 = .ok (.aload_n 0, 1) := by decide +kernel
theorem dX0_unitsAt_1 : decode cX0_unitsAt 1 = .ok (.getfield 9, 3) := by decide +kernel
theorem dX0_unitsAt_4 : decode cX0_unitsAt 4 = .ok (.iload_n 1, 1) := by decide +kernel
theorem dX0_unitsAt_5 : decode cX0_unitsAt 5 = .ok (.iaload, 1) := by decide +kernel
theorem dX0_unitsAt_6 : decode cX0_unitsAt 6 = .ok (.iconst 1, 1) := by decide +kernel
theorem dX0_unitsAt_7 : decode cX0_unitsAt 7 = .ok (.isub, 1) := by decide +kernel
theorem dX0_unitsAt_8 : decode cX0_unitsAt 8 = .ok (.istore_n 2, 1) := by decide +kernel
theorem dX0_unitsAt_9 : decode cX0_unitsAt 9 = .ok (.iconst 1, 1) := by decide +kernel
theorem dX0_unitsAt_10 : decode cX0_unitsAt 10 = .ok (.istore_n 3, 1) := by decide +kernel
theorem dX0_unitsAt_11 : decode cX0_unitsAt 11 = .ok (.iload_n 3, 1) := by decide +kernel
theorem dX0_unitsAt_12 : decode cX0_unitsAt 12 = .ok (.aload_n 0, 1) := by decide +kernel
theorem dX0_unitsAt_13 : decode cX0_unitsAt 13 = .ok (.getfield 13, 3) := by decide +kernel
theorem dX0_unitsAt_16 : decode cX0_unitsAt 16 = .ok (.iload_n 1, 1) := by decide +kernel
theorem dX0_unitsAt_17 : decode cX0_unitsAt 17 = .ok (.iaload, 1) := by decide +kernel
theorem dX0_unitsAt_18 : decode cX0_unitsAt 18 = .ok (.if_icmp .ge 18, 3) := by decide +kernel
theorem dX0_unitsAt_21 : decode cX0_unitsAt 21 = .ok (.iload_n 2, 1) := by decide +kernel
theorem dX0_unitsAt_22 : decode cX0_unitsAt 22 = .ok (.aload_n 0, 1) := by decide +kernel
theorem dX0_unitsAt_23 : decode cX0_unitsAt 23 = .ok (.getfield 9, 3) := by decide +kernel
theorem dX0_unitsAt_26 : decode cX0_unitsAt 26 = .ok (.iload_n 1, 1) := by decide +kernel
theorem dX0_unitsAt_27 : decode cX0_unitsAt 27 = .ok (.iaload, 1) := by decide +kernel
theorem dX0_unitsAt_28 : decode cX0_unitsAt 28 = .ok (.imul, 1) := by decide +kernel
theorem dX0_unitsAt_29 : decode cX0_unitsAt 29 = .ok (.istore_n 2, 1) := by decide +kernel
theorem dX0_unitsAt_30 : decode cX0_unitsAt 30 = .ok (.iinc 3 1, 3) := by decide +kernel
theorem dX0_unitsAt_33 : decode cX0_unitsAt 33 = .ok (.goto (-22), 3) := by decide +kernel
theorem dX0_unitsAt_36 : decode cX0_unitsAt 36 = .ok (.iload_n 2, 1) := by decide +kernel
theorem dX0_unitsAt_37 : decode cX0_unitsAt 37 = .ok (.ireturn, 1) := by decide +kernel
set_option maxRecDepth 20000 in
theorem ggX0_unitCount_X0_unitsAt : GoodIn wsX0_unitCount wsX0_unitsAt := goodIn_r _ [6, 7, 8, 9, 10, 11] (by decide +kernel) (by decide +kernel)
set_option maxRecDepth 20000 in
theorem gX0_unitCount_X0_unitsAt : GoodIn wsX0_unitCount (wsV RX0 30 RX0 yX0_unitsAt wsX0_unitsAt) := goodIn_app (goodIn_of _ (by decide +kernel)) ggX0_unitCount_X0_unitsAt
theorem dX0_unitCount_0 : decode cX0_unitCount 0 = .ok (.iconst 1, 1) := by decide +kernel
theorem dX0_unitCount_1 : decode cX0_unitCount 1 = .ok (.istore_n 1, 1) := by decide +kernel
theorem dX0_unitCount_2 : decode cX0_unitCount 2 = .ok (.iconst 0, 1) := by decide +kernel
theorem dX0_unitCount_3 : decode cX0_unitCount 3 = .ok (.istore_n 2, 1) := by decide +kernel
theorem dX0_unitCount_4 : decode cX0_unitCount 4 = .ok (.iload_n 2, 1) := by decide +kernel
theorem dX0_unitCount_5 : decode cX0_unitCount 5 = .ok (.aload_n 0, 1) := by decide +kernel
theorem dX0_unitCount_6 : decode cX0_unitCount 6 = .ok (.getfield 16, 3) := by decide +kernel
theorem dX0_unitCount_9 : decode cX0_unitCount 9 = .ok (.if_icmp .ge 17, 3) := by decide +kernel
theorem dX0_unitCount_12 : decode cX0_unitCount 12 = .ok (.iload_n 1, 1) := by decide +kernel
theorem dX0_unitCount_13 : decode cX0_unitCount 13 = .ok (.aload_n 0, 1) := by decide +kernel
theorem dX0_unitCount_14 : decode cX0_unitCount 14 = .ok (.iload_n 2, 1) := by decide +kernel
theorem dX0_unitCount_15 : decode cX0_unitCount 15 = .ok (.invokevirtual 30, 3) := by decide +kernel
theorem dX0_unitCount_18 : decode cX0_unitCount 18 = .ok (.imul, 1) := by decide +kernel
theorem dX0_unitCount_19 : decode cX0_unitCount 19 = .ok (.istore_n 1, 1) := by decide +kernel
theorem dX0_unitCount_20 : decode cX0_unitCount 20 = .ok (.iinc 2 1, 3) := by decide +kernel
theorem dX0_unitCount_23 : decode cX0_unitCount 23 = .ok (.goto (-19), 3) := by decide +kernel
theorem dX0_unitCount_26 : decode cX0_unitCount 26 = .ok (.iload_n 1, 1) := by decide +kernel
theorem dX0_unitCount_27 : decode cX0_unitCount 27 = .ok (.ireturn, 1) := by decide +kernel
theorem dX0_hasTwoCycles_0 : decode cX0_hasTwoCycles 0 = .ok (.aload_n 0, 1) := by decide +kernel
theorem dX0_hasTwoCycles_1 : decode cX0_hasTwoCycles 1 = .ok (.getfield 9, 3) := by decide +kernel
theorem dX0_hasTwoCycles_4 : decode cX0_hasTwoCycles 4 = .ok (.iload_n 1, 1) := by decide +kernel
theorem dX0_hasTwoCycles_5 : decode cX0_hasTwoCycles 5 = .ok (.iaload, 1) := by decide +kernel
theorem dX0_hasTwoCycles_6 : decode cX0_hasTwoCycles 6 = .ok (.iconst 2, 1) := by decide +kernel
theorem dX0_hasTwoCycles_7 : decode cX0_hasTwoCycles 7 = .ok (.if_icmp .ne 17, 3) := by decide +kernel
theorem dX0_hasTwoCycles_10 : decode cX0_hasTwoCycles 10 = .ok (.aload_n 0, 1) := by decide +kernel
theorem dX0_hasTwoCycles_11 : decode cX0_hasTwoCycles 11 = .ok (.getfield 13, 3) := by decide +kernel
theorem dX0_hasTwoCycles_14 : decode cX0_hasTwoCycles 14 = .ok (.iload_n 1, 1) := by decide +kernel
theorem dX0_hasTwoCycles_15 : decode cX0_hasTwoCycles 15 = .ok (.iaload, 1) := by decide +kernel
theorem dX0_hasTwoCycles_16 : decode cX0_hasTwoCycles 16 = .ok (.iconst 2, 1) := by decide +kernel
theorem dX0_hasTwoCycles_17 : decode cX0_hasTwoCycles 17 = .ok (.if_icmp .le 7, 3) := by decide +kernel
theorem dX0_hasTwoCycles_20 : decode cX0_hasTwoCycles 20 = .ok (.iconst 1, 1) := by decide +kernel
theorem dX0_hasTwoCycles_21 : decode cX0_hasTwoCycles 21 = .ok (.goto 4, 3) := by decide +kernel
theorem dX0_hasTwoCycles_24 : decode cX0_hasTwoCycles 24 = .ok (.iconst 0, 1) := by decide +kernel
theorem dX0_hasTwoCycles_25 : decode cX0_hasTwoCycles 25 = .ok (.ireturn, 1) := by decide +kernel
set_option maxRecDepth 20000 in
theorem ggX0_greatestOrder_X0_hasTwoCycles : GoodIn wsX0_greatestOrder wsX0_hasTwoCycles := goodIn_r _ [6, 7, 8, 20, 21, 22] (by decide +kernel) (by decide +kernel)
set_option maxRecDepth 20000 in
theorem gX0_greatestOrder_X0_hasTwoCycles : GoodIn wsX0_greatestOrder (wsV RX0 34 RX0 yX0_hasTwoCycles wsX0_hasTwoCycles) := goodIn_app (goodIn_of _ (by decide +kernel)) ggX0_greatestOrder_X0_hasTwoCycles
set_option maxRecDepth 20000 in
theorem ggX0_greatestOrder_X0_unitsAt : GoodIn wsX0_greatestOrder wsX0_unitsAt := goodIn_r _ [12, 7, 8, 20, 21, 22] (by decide +kernel) (by decide +kernel)
set_option maxRecDepth 20000 in
theorem gX0_greatestOrder_X0_unitsAt : GoodIn wsX0_greatestOrder (wsV RX0 30 RX0 yX0_unitsAt wsX0_unitsAt) := goodIn_app (goodIn_of _ (by decide +kernel)) ggX0_greatestOrder_X0_unitsAt
set_option maxRecDepth 20000 in
theorem ggX0_greatestOrder_X4_commonMultiple : GoodIn wsX0_greatestOrder wsX4_commonMultiple := goodIn_r _ [16, 17, 18, 15, 19] (by decide +kernel) (by decide +kernel)
set_option maxRecDepth 20000 in
theorem gX0_greatestOrder_X4_commonMultiple : GoodIn wsX0_greatestOrder (va_wsS RX0 38 yX4_commonMultiple wsX4_commonMultiple) := goodIn_app (goodIn_of _ (by decide +kernel)) ggX0_greatestOrder_X4_commonMultiple
theorem dX0_greatestOrder_0 : decode cX0_greatestOrder 0 = .ok (.iconst 1, 1) := by decide +kernel
theorem dX0_greatestOrder_1 : decode cX0_greatestOrder 1 = .ok (.istore_n 1, 1) := by decide +kernel
theorem dX0_greatestOrder_2 : decode cX0_greatestOrder 2 = .ok (.iconst 0, 1) := by decide +kernel
theorem dX0_greatestOrder_3 : decode cX0_greatestOrder 3 = .ok (.istore_n 2, 1) := by decide +kernel
theorem dX0_greatestOrder_4 : decode cX0_greatestOrder 4 = .ok (.iload_n 2, 1) := by decide +kernel
theorem dX0_greatestOrder_5 : decode cX0_greatestOrder 5 = .ok (.aload_n 0, 1) := by decide +kernel
theorem dX0_greatestOrder_6 : decode cX0_greatestOrder 6 = .ok (.getfield 16, 3) := by decide +kernel
theorem dX0_greatestOrder_9 : decode cX0_greatestOrder 9 = .ok (.if_icmp .ge 39, 3) := by decide +kernel
theorem dX0_greatestOrder_12 : decode cX0_greatestOrder 12 = .ok (.aload_n 0, 1) := by decide +kernel
theorem dX0_greatestOrder_13 : decode cX0_greatestOrder 13 = .ok (.iload_n 2, 1) := by decide +kernel
theorem dX0_greatestOrder_14 : decode cX0_greatestOrder 14 = .ok (.invokevirtual 34, 3) := by decide +kernel
theorem dX0_greatestOrder_17 : decode cX0_greatestOrder 17 = .ok (.ifCond .eq 13, 3) := by decide +kernel
theorem dX0_greatestOrder_20 : decode cX0_greatestOrder 20 = .ok (.aload_n 0, 1) := by decide +kernel
theorem dX0_greatestOrder_21 : decode cX0_greatestOrder 21 = .ok (.iload_n 2, 1) := by decide +kernel
theorem dX0_greatestOrder_22 : decode cX0_greatestOrder 22 = .ok (.invokevirtual 30, 3) := by decide +kernel
theorem dX0_greatestOrder_25 : decode cX0_greatestOrder 25 = .ok (.iconst 2, 1) := by decide +kernel
theorem dX0_greatestOrder_26 : decode cX0_greatestOrder 26 = .ok (.idiv, 1) := by decide +kernel
theorem dX0_greatestOrder_27 : decode cX0_greatestOrder 27 = .ok (.goto 8, 3) := by decide +kernel
theorem dX0_greatestOrder_30 : decode cX0_greatestOrder 30 = .ok (.aload_n 0, 1) := by decide +kernel
theorem dX0_greatestOrder_31 : decode cX0_greatestOrder 31 = .ok (.iload_n 2, 1) := by decide +kernel
theorem dX0_greatestOrder_32 : decode cX0_greatestOrder 32 = .ok (.invokevirtual 30, 3) := by decide +kernel
theorem dX0_greatestOrder_35 : decode cX0_greatestOrder 35 = .ok (.istore_n 3, 1) := by decide +kernel
theorem dX0_greatestOrder_36 : decode cX0_greatestOrder 36 = .ok (.iload_n 1, 1) := by decide +kernel
theorem dX0_greatestOrder_37 : decode cX0_greatestOrder 37 = .ok (.iload_n 3, 1) := by decide +kernel
theorem dX0_greatestOrder_38 : decode cX0_greatestOrder 38 = .ok (.invokestatic 38, 3) := by decide +kernel
theorem dX0_greatestOrder_41 : decode cX0_greatestOrder 41 = .ok (.istore_n 1, 1) := by decide +kernel
theorem dX0_greatestOrder_42 : decode cX0_greatestOrder 42 = .ok (.iinc 2 1, 3) := by decide +kernel
theorem dX0_greatestOrder_45 : decode cX0_greatestOrder 45 = .ok (.goto (-41), 3) := by decide +kernel
theorem dX0_greatestOrder_48 : decode cX0_greatestOrder 48 = .ok (.iload_n 1, 1) := by decide +kernel
theorem dX0_greatestOrder_49 : decode cX0_greatestOrder 49 = .ok (.ireturn, 1) := by decide +kernel
set_option maxRecDepth 20000 in
theorem ggX0_rootsOfOne_X0_hasTwoCycles : GoodIn wsX0_rootsOfOne wsX0_hasTwoCycles := goodIn_r _ [6, 7, 8, 17, 18, 19] (by decide +kernel) (by decide +kernel)
set_option maxRecDepth 20000 in
theorem gX0_rootsOfOne_X0_hasTwoCycles : GoodIn wsX0_rootsOfOne (wsV RX0 34 RX0 yX0_hasTwoCycles wsX0_hasTwoCycles) := goodIn_app (goodIn_of _ (by decide +kernel)) ggX0_rootsOfOne_X0_hasTwoCycles
set_option maxRecDepth 20000 in
theorem ggX0_rootsOfOne_X4_commonDivisor : GoodIn wsX0_rootsOfOne wsX4_commonDivisor := goodIn_r _ [12] (by decide +kernel) (by decide +kernel)
set_option maxRecDepth 20000 in
theorem gX0_rootsOfOne_X4_commonDivisor : GoodIn wsX0_rootsOfOne (va_wsS RX0 41 yX4_commonDivisor wsX4_commonDivisor) := goodIn_app (goodIn_of _ (by decide +kernel)) ggX0_rootsOfOne_X4_commonDivisor
set_option maxRecDepth 20000 in
theorem ggX0_rootsOfOne_X0_unitsAt : GoodIn wsX0_rootsOfOne wsX0_unitsAt := goodIn_r _ [16, 7, 8, 17, 18, 19] (by decide +kernel) (by decide +kernel)
set_option maxRecDepth 20000 in
theorem gX0_rootsOfOne_X0_unitsAt : GoodIn wsX0_rootsOfOne (wsV RX0 30 RX0 yX0_unitsAt wsX0_unitsAt) := goodIn_app (goodIn_of _ (by decide +kernel)) ggX0_rootsOfOne_X0_unitsAt
theorem dX0_rootsOfOne_0 : decode cX0_rootsOfOne 0 = .ok (.iconst 1, 1) := by decide +kernel
theorem dX0_rootsOfOne_1 : decode cX0_rootsOfOne 1 = .ok (.istore_n 2, 1) := by decide +kernel
theorem dX0_rootsOfOne_2 : decode cX0_rootsOfOne 2 = .ok (.iconst 0, 1) := by decide +kernel
theorem dX0_rootsOfOne_3 : decode cX0_rootsOfOne 3 = .ok (.istore_n 3, 1) := by decide +kernel
theorem dX0_rootsOfOne_4 : decode cX0_rootsOfOne 4 = .ok (.iload_n 3, 1) := by decide +kernel
theorem dX0_rootsOfOne_5 : decode cX0_rootsOfOne 5 = .ok (.aload_n 0, 1) := by decide +kernel
theorem dX0_rootsOfOne_6 : decode cX0_rootsOfOne 6 = .ok (.getfield 16, 3) := by decide +kernel
theorem dX0_rootsOfOne_9 : decode cX0_rootsOfOne 9 = .ok (.if_icmp .ge 52, 3) := by decide +kernel
theorem dX0_rootsOfOne_12 : decode cX0_rootsOfOne 12 = .ok (.aload_n 0, 1) := by decide +kernel
theorem dX0_rootsOfOne_13 : decode cX0_rootsOfOne 13 = .ok (.iload_n 3, 1) := by decide +kernel
theorem dX0_rootsOfOne_14 : decode cX0_rootsOfOne 14 = .ok (.invokevirtual 34, 3) := by decide +kernel
theorem dX0_rootsOfOne_17 : decode cX0_rootsOfOne 17 = .ok (.ifCond .eq 26, 3) := by decide +kernel
theorem dX0_rootsOfOne_20 : decode cX0_rootsOfOne 20 = .ok (.iload_n 2, 1) := by decide +kernel
theorem dX0_rootsOfOne_21 : decode cX0_rootsOfOne 21 = .ok (.iload_n 1, 1) := by decide +kernel
theorem dX0_rootsOfOne_22 : decode cX0_rootsOfOne 22 = .ok (.iconst 2, 1) := by decide +kernel
theorem dX0_rootsOfOne_23 : decode cX0_rootsOfOne 23 = .ok (.invokestatic 41, 3) := by decide +kernel
theorem dX0_rootsOfOne_26 : decode cX0_rootsOfOne 26 = .ok (.iload_n 1, 1) := by decide +kernel
theorem dX0_rootsOfOne_27 : decode cX0_rootsOfOne 27 = .ok (.aload_n 0, 1) := by decide +kernel
theorem dX0_rootsOfOne_28 : decode cX0_rootsOfOne 28 = .ok (.iload_n 3, 1) := by decide +kernel
theorem dX0_rootsOfOne_29 : decode cX0_rootsOfOne 29 = .ok (.invokevirtual 30, 3) := by decide +kernel
theorem dX0_rootsOfOne_32 : decode cX0_rootsOfOne 32 = .ok (.iconst 2, 1) := by decide +kernel
theorem dX0_rootsOfOne_33 : decode cX0_rootsOfOne 33 = .ok (.idiv, 1) := by decide +kernel
theorem dX0_rootsOfOne_34 : decode cX0_rootsOfOne 34 = .ok (.invokestatic 41, 3) := by decide +kernel
theorem dX0_rootsOfOne_37 : decode cX0_rootsOfOne 37 = .ok (.imul, 1) := by decide +kernel
theorem dX0_rootsOfOne_38 : decode cX0_rootsOfOne 38 = .ok (.imul, 1) := by decide +kernel
theorem dX0_rootsOfOne_39 : decode cX0_rootsOfOne 39 = .ok (.istore_n 2, 1) := by decide +kernel
theorem dX0_rootsOfOne_40 : decode cX0_rootsOfOne 40 = .ok (.goto 15, 3) := by decide +kernel
theorem dX0_rootsOfOne_43 : decode cX0_rootsOfOne 43 = .ok (.iload_n 2, 1) := by decide +kernel
theorem dX0_rootsOfOne_44 : decode cX0_rootsOfOne 44 = .ok (.iload_n 1, 1) := by decide +kernel
theorem dX0_rootsOfOne_45 : decode cX0_rootsOfOne 45 = .ok (.aload_n 0, 1) := by decide +kernel
theorem dX0_rootsOfOne_46 : decode cX0_rootsOfOne 46 = .ok (.iload_n 3, 1) := by decide +kernel
theorem dX0_rootsOfOne_47 : decode cX0_rootsOfOne 47 = .ok (.invokevirtual 30, 3) := by decide +kernel
theorem dX0_rootsOfOne_50 : decode cX0_rootsOfOne 50 = .ok (.invokestatic 41, 3) := by decide +kernel
theorem dX0_rootsOfOne_53 : decode cX0_rootsOfOne 53 = .ok (.imul, 1) := by decide +kernel
theorem dX0_rootsOfOne_54 : decode cX0_rootsOfOne 54 = .ok (.istore_n 2, 1) := by decide +kernel
theorem dX0_rootsOfOne_55 : decode cX0_rootsOfOne 55 = .ok (.iinc 3 1, 3) := by decide +kernel
theorem dX0_rootsOfOne_58 : decode cX0_rootsOfOne 58 = .ok (.goto (-54), 3) := by decide +kernel
theorem dX0_rootsOfOne_61 : decode cX0_rootsOfOne 61 = .ok (.iload_n 2, 1) := by decide +kernel
theorem dX0_rootsOfOne_62 : decode cX0_rootsOfOne 62 = .ok (.ireturn, 1) := by decide +kernel
theorem dX1_init_0 : decode cX1_init 0 = .ok (.aload_n 0, 1) := by decide +kernel
theorem dX1_init_1 : decode cX1_init 1 = .ok (.invokespecial 1, 3) := by decide +kernel
theorem dX1_init_4 : decode cX1_init 4 = .ok (.return_, 1) := by decide +kernel
set_option maxRecDepth 20000 in
theorem ggX1_read_X5_at : GoodIn wsX1_read wsX5_at := goodIn_r _ [10, 11, 12, 27, 28] (by decide +kernel) (by decide +kernel)
set_option maxRecDepth 20000 in
theorem gX1_read_X5_at : GoodIn wsX1_read (wsV RX1 7 RX5 yX5_at wsX5_at) := goodIn_app (goodIn_of _ (by decide +kernel)) ggX1_read_X5_at
set_option maxRecDepth 20000 in
theorem ggX1_read_X1_number : GoodIn wsX1_read wsX1_number := goodIn_r _ [17, 2, 6, 7, 8, 9, 10, 11, 12, 22, 23, 24, 25, 26, 27, 28] (by decide +kernel) (by decide +kernel)
set_option maxRecDepth 20000 in
theorem gX1_read_X1_number : GoodIn wsX1_read (wsV RX1 25 RX1 yX1_number wsX1_number) := goodIn_app (goodIn_of _ (by decide +kernel)) ggX1_read_X1_number
set_option maxRecDepth 20000 in
theorem ggX1_read_X1_isInBounds : GoodIn wsX1_read wsX1_isInBounds := goodIn_r _ [21, 1, 3, 5, 4, 22, 23, 24, 25, 26] (by decide +kernel) (by decide +kernel)
set_option maxRecDepth 20000 in
theorem gX1_read_X1_isInBounds : GoodIn wsX1_read (wsV RX1 35 RX1 yX1_isInBounds wsX1_isInBounds) := goodIn_app (goodIn_of _ (by decide +kernel)) ggX1_read_X1_isInBounds
theorem dX1_read_0 : decode cX1_read 0 = .ok (.aload_n 0, 1) := by decide +kernel
theorem dX1_read_1 : decode cX1_read 1 = .ok (.aload_n 1, 1) := by decide +kernel
theorem dX1_read_2 : decode cX1_read 2 = .ok (.iload_n 2, 1) := by decide +kernel
theorem dX1_read_3 : decode cX1_read 3 = .ok (.invokevirtual 7, 3) := by decide +kernel
theorem dX1_read_6 : decode cX1_read 6 = .ok (.putfield 13, 3) := by decide +kernel
theorem dX1_read_9 : decode cX1_read 9 = .ok (.aload_n 0, 1) := by decide +kernel
theorem dX1_read_10 : decode cX1_read 10 = .ok (.iload_n 2, 1) := by decide +kernel
theorem dX1_read_11 : decode cX1_read 11 = .ok (.iconst 1, 1) := by decide +kernel
theorem dX1_read_12 : decode cX1_read 12 = .ok (.iadd, 1) := by decide +kernel
theorem dX1_read_13 : decode cX1_read 13 = .ok (.putfield 19, 3) := by decide +kernel
theorem dX1_read_16 : decode cX1_read 16 = .ok (.aload_n 0, 1) := by decide +kernel
theorem dX1_read_17 : decode cX1_read 17 = .ok (.iconst 0, 1) := by decide +kernel
theorem dX1_read_18 : decode cX1_read 18 = .ok (.putfield 22, 3) := by decide +kernel
theorem dX1_read_21 : decode cX1_read 21 = .ok (.aload_n 0, 1) := by decide +kernel
theorem dX1_read_22 : decode cX1_read 22 = .ok (.getfield 13, 3) := by decide +kernel
theorem dX1_read_25 : decode cX1_read 25 = .ok (.bipush 108, 2) := by decide +kernel
theorem dX1_read_27 : decode cX1_read 27 = .ok (.if_icmp .eq 32, 3) := by decide +kernel
theorem dX1_read_30 : decode cX1_read 30 = .ok (.aload_n 0, 1) := by decide +kernel
theorem dX1_read_31 : decode cX1_read 31 = .ok (.getfield 13, 3) := by decide +kernel
theorem dX1_read_34 : decode cX1_read 34 = .ok (.bipush 112, 2) := by decide +kernel
theorem dX1_read_36 : decode cX1_read 36 = .ok (.if_icmp .eq 23, 3) := by decide +kernel
theorem dX1_read_39 : decode cX1_read 39 = .ok (.aload_n 0, 1) := by decide +kernel
theorem dX1_read_40 : decode cX1_read 40 = .ok (.getfield 13, 3) := by decide +kernel
theorem dX1_read_43 : decode cX1_read 43 = .ok (.bipush 110, 2) := by decide +kernel
theorem dX1_read_45 : decode cX1_read 45 = .ok (.if_icmp .eq 14, 3) := by decide +kernel
theorem dX1_read_48 : decode cX1_read 48 = .ok (.aload_n 0, 1) := by decide +kernel
theorem dX1_read_49 : decode cX1_read 49 = .ok (.getfield 13, 3) := by decide +kernel
theorem dX1_read_52 : decode cX1_read 52 = .ok (.bipush 98, 2) := by decide +kernel
theorem dX1_read_54 : decode cX1_read 54 = .ok (.if_icmp .eq 5, 3) := by decide +kernel
theorem dX1_read_57 : decode cX1_read 57 = .ok (.iconst 0, 1) := by decide +kernel
theorem dX1_read_58 : decode cX1_read 58 = .ok (.ireturn, 1) := by decide +kernel
theorem dX1_read_59 : decode cX1_read 59 = .ok (.aload_n 0, 1) := by decide +kernel
theorem dX1_read_60 : decode cX1_read 60 = .ok (.getfield 13, 3) := by decide +kernel
theorem dX1_read_63 : decode cX1_read 63 = .ok (.bipush 110, 2) := by decide +kernel
theorem dX1_read_65 : decode cX1_read 65 = .ok (.if_icmp .eq 14, 3) := by decide +kernel
theorem dX1_read_68 : decode cX1_read 68 = .ok (.aload_n 0, 1) := by decide +kernel
theorem dX1_read_69 : decode cX1_read 69 = .ok (.aload_n 0, 1) := by decide +kernel
theorem dX1_read_70 : decode cX1_read 70 = .ok (.aload_n 1, 1) := by decide +kernel
theorem dX1_read_71 : decode cX1_read 71 = .ok (.bipush 44, 2) := by decide +kernel
theorem dX1_read_73 : decode cX1_read 73 = .ok (.invokevirtual 25, 3) := by decide +kernel
theorem dX1_read_76 : decode cX1_read 76 = .ok (.putfield 22, 3) := by decide +kernel
theorem dX1_read_79 : decode cX1_read 79 = .ok (.aload_n 0, 1) := by decide +kernel
theorem dX1_read_80 : decode cX1_read 80 = .ok (.aload_n 0, 1) := by decide +kernel
theorem dX1_read_81 : decode cX1_read 81 = .ok (.aload_n 1, 1) := by decide +kernel
theorem dX1_read_82 : decode cX1_read 82 = .ok (.bipush 44, 2) := by decide +kernel
theorem dX1_read_84 : decode cX1_read 84 = .ok (.invokevirtual 25, 3) := by decide +kernel
theorem dX1_read_87 : decode cX1_read 87 = .ok (.putfield 29, 3) := by decide +kernel
theorem dX1_read_90 : decode cX1_read 90 = .ok (.aload_n 0, 1) := by decide +kernel
theorem dX1_read_91 : decode cX1_read 91 = .ok (.aload_n 0, 1) := by decide +kernel
theorem dX1_read_92 : decode cX1_read 92 = .ok (.aload_n 1, 1) := by decide +kernel
theorem dX1_read_93 : decode cX1_read 93 = .ok (.bipush 59, 2) := by decide +kernel
theorem dX1_read_95 : decode cX1_read 95 = .ok (.invokevirtual 25, 3) := by decide +kernel
theorem dX1_read_98 : decode cX1_read 98 = .ok (.putfield 32, 3) := by decide +kernel
theorem dX1_read_101 : decode cX1_read 101 = .ok (.aload_n 0, 1) := by decide +kernel
theorem dX1_read_102 : decode cX1_read 102 = .ok (.getfield 22, 3) := by decide +kernel
theorem dX1_read_105 : decode cX1_read 105 = .ok (.ifCond .lt 39, 3) := by decide +kernel
theorem dX1_read_108 : decode cX1_read 108 = .ok (.aload_n 0, 1) := by decide +kernel
theorem dX1_read_109 : decode cX1_read 109 = .ok (.getfield 29, 3) := by decide +kernel
theorem dX1_read_112 : decode cX1_read 112 = .ok (.ifCond .lt 32, 3) := by decide +kernel
theorem dX1_read_115 : decode cX1_read 115 = .ok (.aload_n 0, 1) := by decide +kernel
theorem dX1_read_116 : decode cX1_read 116 = .ok (.getfield 32, 3) := by decide +kernel
theorem dX1_read_119 : decode cX1_read 119 = .ok (.iconst 2, 1) := by decide +kernel
theorem dX1_read_120 : decode cX1_read 120 = .ok (.if_icmp .lt 24, 3) := by decide +kernel
theorem dX1_read_123 : decode cX1_read 123 = .ok (.aload_n 0, 1) := by decide +kernel
theorem dX1_read_124 : decode cX1_read 124 = .ok (.getfield 32, 3) := by decide +kernel
theorem dX1_read_127 : decode cX1_read 127 = .ok (.sipush 200, 3) := by decide +kernel
theorem dX1_read_130 : decode cX1_read 130 = .ok (.if_icmp .gt 14, 3) := by decide +kernel
theorem dX1_read_133 : decode cX1_read 133 = .ok (.aload_n 0, 1) := by decide +kernel
theorem dX1_read_134 : decode cX1_read 134 = .ok (.invokevirtual 35, 3) := by decide +kernel
theorem dX1_read_137 : decode cX1_read 137 = .ok (.ifCond .eq 7, 3) := by decide +kernel
theorem dX1_read_140 : decode cX1_read 140 = .ok (.iconst 1, 1) := by decide +kernel
theorem dX1_read_141 : decode cX1_read 141 = .ok (.goto 4, 3) := by decide +kernel
theorem dX1_read_144 : decode cX1_read 144 = .ok (.iconst 0, 1) := by decide +kernel
theorem dX1_read_145 : decode cX1_read 145 = .ok (.ireturn, 1) := by decide +kernel
set_option maxRecDepth 20000 in
theorem ggX1_number_X5_at : GoodIn wsX1_number wsX5_at := goodIn_r _ [6, 7, 8, 14, 15] (by decide +kernel) (by decide +kernel)
set_option maxRecDepth 20000 in
theorem gX1_number_X5_at : GoodIn wsX1_number (wsV RX1 7 RX5 yX5_at wsX5_at) := goodIn_app (goodIn_of _ (by decide +kernel)) ggX1_number_X5_at
theorem dX1_number_0 : decode cX1_number 0 = .ok (.iconst 0, 1) := by decide +kernel
theorem dX1_number_1 : decode cX1_number 1 = .ok (.istore_n 3, 1) := by decide +kernel
theorem dX1_number_2 : decode cX1_number 2 = .ok (.iconst 0, 1) := by decide +kernel
theorem dX1_number_3 : decode cX1_number 3 = .ok (.istore 4, 2) := by decide +kernel
theorem dX1_number_5 : decode cX1_number 5 = .ok (.iload 4, 2) := by decide +kernel
theorem dX1_number_7 : decode cX1_number 7 = .ok (.iconst 5, 1) := by decide +kernel
theorem dX1_number_8 : decode cX1_number 8 = .ok (.if_icmp .ge 62, 3) := by decide +kernel
theorem dX1_number_11 : decode cX1_number 11 = .ok (.aload_n 1, 1) := by decide +kernel
theorem dX1_number_12 : decode cX1_number 12 = .ok (.aload_n 0, 1) := by decide +kernel
theorem dX1_number_13 : decode cX1_number 13 = .ok (.getfield 19, 3) := by decide +kernel
theorem dX1_number_16 : decode cX1_number 16 = .ok (.invokevirtual 7, 3) := by decide +kernel
theorem dX1_number_19 : decode cX1_number 19 = .ok (.bipush 48, 2) := by decide +kernel
theorem dX1_number_21 : decode cX1_number 21 = .ok (.if_icmp .lt 49, 3) := by decide +kernel
theorem dX1_number_24 : decode cX1_number 24 = .ok (.aload_n 1, 1) := by decide +kernel
theorem dX1_number_25 : decode cX1_number 25 = .ok (.aload_n 0, 1) := by decide +kernel
theorem dX1_number_26 : decode cX1_number 26 = .ok (.getfield 19, 3) := by decide +kernel
theorem dX1_number_29 : decode cX1_number 29 = .ok (.invokevirtual 7, 3) := by decide +kernel
theorem dX1_number_32 : decode cX1_number 32 = .ok (.bipush 57, 2) := by decide +kernel
theorem dX1_number_34 : decode cX1_number 34 = .ok (.if_icmp .gt 36, 3) := by decide +kernel
theorem dX1_number_37 : decode cX1_number 37 = .ok (.bipush 10, 2) := by decide +kernel
theorem dX1_number_39 : decode cX1_number 39 = .ok (.iload_n 3, 1) := by decide +kernel
theorem dX1_number_40 : decode cX1_number 40 = .ok (.imul, 1) := by decide +kernel
theorem dX1_number_41 : decode cX1_number 41 = .ok (.aload_n 1, 1) := by decide +kernel
theorem dX1_number_42 : decode cX1_number 42 = .ok (.aload_n 0, 1) := by decide +kernel
theorem dX1_number_43 : decode cX1_number 43 = .ok (.getfield 19, 3) := by decide +kernel
theorem dX1_number_46 : decode cX1_number 46 = .ok (.invokevirtual 7, 3) := by decide +kernel
theorem dX1_number_49 : decode cX1_number 49 = .ok (.iadd, 1) := by decide +kernel
theorem dX1_number_50 : decode cX1_number 50 = .ok (.bipush 48, 2) := by decide +kernel
theorem dX1_number_52 : decode cX1_number 52 = .ok (.isub, 1) := by decide +kernel
theorem dX1_number_53 : decode cX1_number 53 = .ok (.istore_n 3, 1) := by decide +kernel
theorem dX1_number_54 : decode cX1_number 54 = .ok (.aload_n 0, 1) := by decide +kernel
theorem dX1_number_55 : decode cX1_number 55 = .ok (.dup, 1) := by decide +kernel
theorem dX1_number_56 : decode cX1_number 56 = .ok (.getfield 19, 3) := by decide +kernel
theorem dX1_number_59 : decode cX1_number 59 = .ok (.iconst 1, 1) := by decide +kernel
theorem dX1_number_60 : decode cX1_number 60 = .ok (.iadd, 1) := by decide +kernel
theorem dX1_number_61 : decode cX1_number 61 = .ok (.putfield 19, 3) := by decide +kernel
theorem dX1_number_64 : decode cX1_number 64 = .ok (.iinc 4 1, 3) := by decide +kernel
theorem dX1_number_67 : decode cX1_number 67 = .ok (.goto (-62), 3) := by decide +kernel
theorem dX1_number_70 : decode cX1_number 70 = .ok (.iload 4, 2) := by decide +kernel
theorem dX1_number_72 : decode cX1_number 72 = .ok (.iconst 1, 1) := by decide +kernel
theorem dX1_number_73 : decode cX1_number 73 = .ok (.if_icmp .lt 25, 3) := by decide +kernel
theorem dX1_number_76 : decode cX1_number 76 = .ok (.iload 4, 2) := by decide +kernel
theorem dX1_number_78 : decode cX1_number 78 = .ok (.iconst 4, 1) := by decide +kernel
theorem dX1_number_79 : decode cX1_number 79 = .ok (.if_icmp .gt 19, 3) := by decide +kernel
theorem dX1_number_82 : decode cX1_number 82 = .ok (.aload_n 1, 1) := by decide +kernel
theorem dX1_number_83 : decode cX1_number 83 = .ok (.aload_n 0, 1) := by decide +kernel
theorem dX1_number_84 : decode cX1_number 84 = .ok (.getfield 19, 3) := by decide +kernel
theorem dX1_number_87 : decode cX1_number 87 = .ok (.invokevirtual 7, 3) := by decide +kernel
theorem dX1_number_90 : decode cX1_number 90 = .ok (.iload_n 2, 1) := by decide +kernel
theorem dX1_number_91 : decode cX1_number 91 = .ok (.if_icmp .ne 7, 3) := by decide +kernel
theorem dX1_number_94 : decode cX1_number 94 = .ok (.iconst 1, 1) := by decide +kernel
theorem dX1_number_95 : decode cX1_number 95 = .ok (.goto 4, 3) := by decide +kernel
theorem dX1_number_98 : decode cX1_number 98 = .ok (.iconst 0, 1) := by decide +kernel
theorem dX1_number_99 : decode cX1_number 99 = .ok (.istore 5, 2) := by decide +kernel
theorem dX1_number_101 : decode cX1_number 101 = .ok (.aload_n 0, 1) := by decide +kernel
theorem dX1_number_102 : decode cX1_number 102 = .ok (.dup, 1) := by decide +kernel
theorem dX1_number_103 : decode cX1_number 103 = .ok (.getfield 19, 3) := by decide +kernel
theorem dX1_number_106 : decode cX1_number 106 = .ok (.iconst 1, 1) := by decide +kernel
theorem dX1_number_107 : decode cX1_number 107 = .ok (.iadd, 1) := by decide +kernel
theorem dX1_number_108 : decode cX1_number 108 = .ok (.putfield 19, 3) := by decide +kernel
theorem dX1_number_111 : decode cX1_number 111 = .ok (.iload 5, 2) := by decide +kernel
theorem dX1_number_113 : decode cX1_number 113 = .ok (.ifCond .eq 7, 3) := by decide +kernel
theorem dX1_number_116 : decode cX1_number 116 = .ok (.iload_n 3, 1) := by decide +kernel
theorem dX1_number_117 : decode cX1_number 117 = .ok (.goto 4, 3) := by decide +kernel
theorem dX1_number_120 : decode cX1_number 120 = .ok (.iconst (-1), 1) := by decide +kernel
theorem dX1_number_121 : decode cX1_number 121 = .ok (.ireturn, 1) := by decide +kernel
theorem dX1_isInBounds_0 : decode cX1_isInBounds 0 = .ok (.aload_n 0, 1) := by decide +kernel
theorem dX1_isInBounds_1 : decode cX1_isInBounds 1 = .ok (.getfield 13, 3) := by decide +kernel
theorem dX1_isInBounds_4 : decode cX1_isInBounds 4 = .ok (.tableswitch 115 108 112 #[36, 115, 98, 115, 64], 36) := by decide +kernel
theorem dX1_isInBounds_40 : decode cX1_isInBounds 40 = .ok (.aload_n 0, 1) := by decide +kernel
theorem dX1_isInBounds_41 : decode cX1_isInBounds 41 = .ok (.getfield 22, 3) := by decide +kernel
theorem dX1_isInBounds_44 : decode cX1_isInBounds 44 = .ok (.aload_n 0, 1) := by decide +kernel
theorem dX1_isInBounds_45 : decode cX1_isInBounds 45 = .ok (.getfield 32, 3) := by decide +kernel
theorem dX1_isInBounds_48 : decode cX1_isInBounds 48 = .ok (.if_icmp .ge 18, 3) := by decide +kernel
theorem dX1_isInBounds_51 : decode cX1_isInBounds 51 = .ok (.aload_n 0, 1) := by decide +kernel
theorem dX1_isInBounds_52 : decode cX1_isInBounds 52 = .ok (.getfield 29, 3) := by decide +kernel
theorem dX1_isInBounds_55 : decode cX1_isInBounds 55 = .ok (.aload_n 0, 1) := by decide +kernel
theorem dX1_isInBounds_56 : decode cX1_isInBounds 56 = .ok (.getfield 32, 3) := by decide +kernel
theorem dX1_isInBounds_59 : decode cX1_isInBounds 59 = .ok (.if_icmp .ge 7, 3) := by decide +kernel
theorem dX1_isInBounds_62 : decode cX1_isInBounds 62 = .ok (.iconst 1, 1) := by decide +kernel
theorem dX1_isInBounds_63 : decode cX1_isInBounds 63 = .ok (.goto 4, 3) := by decide +kernel
theorem dX1_isInBounds_66 : decode cX1_isInBounds 66 = .ok (.iconst 0, 1) := by decide +kernel
theorem dX1_isInBounds_67 : decode cX1_isInBounds 67 = .ok (.ireturn, 1) := by decide +kernel
theorem dX1_isInBounds_68 : decode cX1_isInBounds 68 = .ok (.aload_n 0, 1) := by decide +kernel
theorem dX1_isInBounds_69 : decode cX1_isInBounds 69 = .ok (.getfield 22, 3) := by decide +kernel
theorem dX1_isInBounds_72 : decode cX1_isInBounds 72 = .ok (.iconst 1, 1) := by decide +kernel
theorem dX1_isInBounds_73 : decode cX1_isInBounds 73 = .ok (.if_icmp .lt 27, 3) := by decide +kernel
theorem dX1_isInBounds_76 : decode cX1_isInBounds 76 = .ok (.aload_n 0, 1) := by decide +kernel
theorem dX1_isInBounds_77 : decode cX1_isInBounds 77 = .ok (.getfield 22, 3) := by decide +kernel
theorem dX1_isInBounds_80 : decode cX1_isInBounds 80 = .ok (.bipush 9, 2) := by decide +kernel
theorem dX1_isInBounds_82 : decode cX1_isInBounds 82 = .ok (.if_icmp .gt 18, 3) := by decide +kernel
theorem dX1_isInBounds_85 : decode cX1_isInBounds 85 = .ok (.aload_n 0, 1) := by decide +kernel
theorem dX1_isInBounds_86 : decode cX1_isInBounds 86 = .ok (.getfield 29, 3) := by decide +kernel
theorem dX1_isInBounds_89 : decode cX1_isInBounds 89 = .ok (.aload_n 0, 1) := by decide +kernel
theorem dX1_isInBounds_90 : decode cX1_isInBounds 90 = .ok (.getfield 32, 3) := by decide +kernel
theorem dX1_isInBounds_93 : decode cX1_isInBounds 93 = .ok (.if_icmp .ge 7, 3) := by decide +kernel
theorem dX1_isInBounds_96 : decode cX1_isInBounds 96 = .ok (.iconst 1, 1) := by decide +kernel
theorem dX1_isInBounds_97 : decode cX1_isInBounds 97 = .ok (.goto 4, 3) := by decide +kernel
theorem dX1_isInBounds_100 : decode cX1_isInBounds 100 = .ok (.iconst 0, 1) := by decide +kernel
theorem dX1_isInBounds_101 : decode cX1_isInBounds 101 = .ok (.ireturn, 1) := by decide +kernel
theorem dX1_isInBounds_102 : decode cX1_isInBounds 102 = .ok (.aload_n 0, 1) := by decide +kernel
theorem dX1_isInBounds_103 : decode cX1_isInBounds 103 = .ok (.getfield 29, 3) := by decide +kernel
theorem dX1_isInBounds_106 : decode cX1_isInBounds 106 = .ok (.aload_n 0, 1) := by decide +kernel
theorem dX1_isInBounds_107 : decode cX1_isInBounds 107 = .ok (.getfield 32, 3) := by decide +kernel
theorem dX1_isInBounds_110 : decode cX1_isInBounds 110 = .ok (.if_icmp .ge 7, 3) := by decide +kernel
theorem dX1_isInBounds_113 : decode cX1_isInBounds 113 = .ok (.iconst 1, 1) := by decide +kernel
theorem dX1_isInBounds_114 : decode cX1_isInBounds 114 = .ok (.goto 4, 3) := by decide +kernel
theorem dX1_isInBounds_117 : decode cX1_isInBounds 117 = .ok (.iconst 0, 1) := by decide +kernel
theorem dX1_isInBounds_118 : decode cX1_isInBounds 118 = .ok (.ireturn, 1) := by decide +kernel
theorem dX1_isInBounds_119 : decode cX1_isInBounds 119 = .ok (.aload_n 0, 1) := by decide +kernel
theorem dX1_isInBounds_120 : decode cX1_isInBounds 120 = .ok (.getfield 22, 3) := by decide +kernel
theorem dX1_isInBounds_123 : decode cX1_isInBounds 123 = .ok (.aload_n 0, 1) := by decide +kernel
theorem dX1_isInBounds_124 : decode cX1_isInBounds 124 = .ok (.getfield 29, 3) := by decide +kernel
theorem dX1_isInBounds_127 : decode cX1_isInBounds 127 = .ok (.if_icmp .gt 18, 3) := by decide +kernel
theorem dX1_isInBounds_130 : decode cX1_isInBounds 130 = .ok (.aload_n 0, 1) := by decide +kernel
theorem dX1_isInBounds_131 : decode cX1_isInBounds 131 = .ok (.getfield 29, 3) := by decide +kernel
theorem dX1_isInBounds_134 : decode cX1_isInBounds 134 = .ok (.aload_n 0, 1) := by decide +kernel
theorem dX1_isInBounds_135 : decode cX1_isInBounds 135 = .ok (.getfield 32, 3) := by decide +kernel
theorem dX1_isInBounds_138 : decode cX1_isInBounds 138 = .ok (.if_icmp .ge 7, 3) := by decide +kernel
theorem dX1_isInBounds_141 : decode cX1_isInBounds 141 = .ok (.iconst 1, 1) := by decide +kernel
theorem dX1_isInBounds_142 : decode cX1_isInBounds 142 = .ok (.goto 4, 3) := by decide +kernel
theorem dX1_isInBounds_145 : decode cX1_isInBounds 145 = .ok (.iconst 0, 1) := by decide +kernel
theorem dX1_isInBounds_146 : decode cX1_isInBounds 146 = .ok (.ireturn, 1) := by decide +kernel
set_option maxRecDepth 20000 in
theorem ggX1_allows_X4_raise : GoodIn wsX1_allows wsX4_raise := goodIn_r _ [8] (by decide +kernel) (by decide +kernel)
set_option maxRecDepth 20000 in
theorem gX1_allows_X4_raise : GoodIn wsX1_allows (va_wsS RX1 39 yX4_raise wsX4_raise) := goodIn_app (goodIn_of _ (by decide +kernel)) ggX1_allows_X4_raise
theorem dX1_allows_0 : decode cX1_allows 0 = .ok (.aload_n 0, 1) := by decide +kernel
theorem dX1_allows_1 : decode cX1_allows 1 = .ok (.getfield 13, 3) := by decide +kernel
theorem dX1_allows_4 : decode cX1_allows 4 = .ok (.tableswitch 108 108 112 #[36, 108, 94, 108, 67], 36) := by decide +kernel
theorem dX1_allows_40 : decode cX1_allows 40 = .ok (.aload_n 0, 1) := by decide +kernel
theorem dX1_allows_41 : decode cX1_allows 41 = .ok (.getfield 32, 3) := by decide +kernel
theorem dX1_allows_44 : decode cX1_allows 44 = .ok (.ifCond .le 25, 3) := by decide +kernel
theorem dX1_allows_47 : decode cX1_allows 47 = .ok (.aload_n 0, 1) := by decide +kernel
theorem dX1_allows_48 : decode cX1_allows 48 = .ok (.getfield 22, 3) := by decide +kernel
theorem dX1_allows_51 : decode cX1_allows 51 = .ok (.iload_n 1, 1) := by decide +kernel
theorem dX1_allows_52 : decode cX1_allows 52 = .ok (.imul, 1) := by decide +kernel
theorem dX1_allows_53 : decode cX1_allows 53 = .ok (.aload_n 0, 1) := by decide +kernel
theorem dX1_allows_54 : decode cX1_allows 54 = .ok (.getfield 32, 3) := by decide +kernel
theorem dX1_allows_57 : decode cX1_allows 57 = .ok (.irem, 1) := by decide +kernel
theorem dX1_allows_58 : decode cX1_allows 58 = .ok (.aload_n 0, 1) := by decide +kernel
theorem dX1_allows_59 : decode cX1_allows 59 = .ok (.getfield 29, 3) := by decide +kernel
theorem dX1_allows_62 : decode cX1_allows 62 = .ok (.if_icmp .ne 7, 3) := by decide +kernel
theorem dX1_allows_65 : decode cX1_allows 65 = .ok (.iconst 1, 1) := by decide +kernel
theorem dX1_allows_66 : decode cX1_allows 66 = .ok (.goto 4, 3) := by decide +kernel
theorem dX1_allows_69 : decode cX1_allows 69 = .ok (.iconst 0, 1) := by decide +kernel
theorem dX1_allows_70 : decode cX1_allows 70 = .ok (.ireturn, 1) := by decide +kernel
theorem dX1_allows_71 : decode cX1_allows 71 = .ok (.iload_n 1, 1) := by decide +kernel
theorem dX1_allows_72 : decode cX1_allows 72 = .ok (.i2l, 1) := by decide +kernel
theorem dX1_allows_73 : decode cX1_allows 73 = .ok (.aload_n 0, 1) := by decide +kernel
theorem dX1_allows_74 : decode cX1_allows 74 = .ok (.getfield 22, 3) := by decide +kernel
theorem dX1_allows_77 : decode cX1_allows 77 = .ok (.i2l, 1) := by decide +kernel
theorem dX1_allows_78 : decode cX1_allows 78 = .ok (.aload_n 0, 1) := by decide +kernel
theorem dX1_allows_79 : decode cX1_allows 79 = .ok (.getfield 32, 3) := by decide +kernel
theorem dX1_allows_82 : decode cX1_allows 82 = .ok (.invokestatic 39, 3) := by decide +kernel
theorem dX1_allows_85 : decode cX1_allows 85 = .ok (.aload_n 0, 1) := by decide +kernel
theorem dX1_allows_86 : decode cX1_allows 86 = .ok (.getfield 29, 3) := by decide +kernel
theorem dX1_allows_89 : decode cX1_allows 89 = .ok (.if_icmp .ne 7, 3) := by decide +kernel
theorem dX1_allows_92 : decode cX1_allows 92 = .ok (.iconst 1, 1) := by decide +kernel
theorem dX1_allows_93 : decode cX1_allows 93 = .ok (.goto 4, 3) := by decide +kernel
theorem dX1_allows_96 : decode cX1_allows 96 = .ok (.iconst 0, 1) := by decide +kernel
theorem dX1_allows_97 : decode cX1_allows 97 = .ok (.ireturn, 1) := by decide +kernel
theorem dX1_allows_98 : decode cX1_allows 98 = .ok (.iload_n 1, 1) := by decide +kernel
theorem dX1_allows_99 : decode cX1_allows 99 = .ok (.aload_n 0, 1) := by decide +kernel
theorem dX1_allows_100 : decode cX1_allows 100 = .ok (.getfield 29, 3) := by decide +kernel
theorem dX1_allows_103 : decode cX1_allows 103 = .ok (.if_icmp .eq 7, 3) := by decide +kernel
theorem dX1_allows_106 : decode cX1_allows 106 = .ok (.iconst 1, 1) := by decide +kernel
theorem dX1_allows_107 : decode cX1_allows 107 = .ok (.goto 4, 3) := by decide +kernel
theorem dX1_allows_110 : decode cX1_allows 110 = .ok (.iconst 0, 1) := by decide +kernel
theorem dX1_allows_111 : decode cX1_allows 111 = .ok (.ireturn, 1) := by decide +kernel
theorem dX1_allows_112 : decode cX1_allows 112 = .ok (.aload_n 0, 1) := by decide +kernel
theorem dX1_allows_113 : decode cX1_allows 113 = .ok (.getfield 22, 3) := by decide +kernel
theorem dX1_allows_116 : decode cX1_allows 116 = .ok (.iload_n 1, 1) := by decide +kernel
theorem dX1_allows_117 : decode cX1_allows 117 = .ok (.if_icmp .gt 15, 3) := by decide +kernel
theorem dX1_allows_120 : decode cX1_allows 120 = .ok (.iload_n 1, 1) := by decide +kernel
theorem dX1_allows_121 : decode cX1_allows 121 = .ok (.aload_n 0, 1) := by decide +kernel
theorem dX1_allows_122 : decode cX1_allows 122 = .ok (.getfield 29, 3) := by decide +kernel
theorem dX1_allows_125 : decode cX1_allows 125 = .ok (.if_icmp .gt 7, 3) := by decide +kernel
theorem dX1_allows_128 : decode cX1_allows 128 = .ok (.iconst 1, 1) := by decide +kernel
theorem dX1_allows_129 : decode cX1_allows 129 = .ok (.goto 4, 3) := by decide +kernel
theorem dX1_allows_132 : decode cX1_allows 132 = .ok (.iconst 0, 1) := by decide +kernel
theorem dX1_allows_133 : decode cX1_allows 133 = .ok (.ireturn, 1) := by decide +kernel
theorem dX2_init_0 : decode cX2_init 0 = .ok (.aload_n 0, 1) := by decide +kernel
theorem dX2_init_1 : decode cX2_init 1 = .ok (.invokespecial 3, 3) := by decide +kernel
theorem dX2_init_4 : decode cX2_init 4 = .ok (.aload_n 0, 1) := by decide +kernel
theorem dX2_init_5 : decode cX2_init 5 = .ok (.bipush 8, 2) := by decide +kernel
theorem dX2_init_7 : decode cX2_init 7 = .ok (.sipush 200, 3) := by decide +kernel
theorem dX2_init_10 : decode cX2_init 10 = .ok (.multianewarray 11 2, 4) := by decide +kernel
theorem dX2_init_14 : decode cX2_init 14 = .ok (.putfield 13, 3) := by decide +kernel
theorem dX2_init_17 : decode cX2_init 17 = .ok (.aload_n 0, 1) := by decide +kernel
theorem dX2_init_18 : decode cX2_init 18 = .ok (.bipush 8, 2) := by decide +kernel
theorem dX2_init_20 : decode cX2_init 20 = .ok (.newarray .int, 2) := by decide +kernel
theorem dX2_init_22 : decode cX2_init 22 = .ok (.putfield 16, 3) := by decide +kernel
theorem dX2_init_25 : decode cX2_init 25 = .ok (.aload_n 0, 1) := by decide +kernel
theorem dX2_init_26 : decode cX2_init 26 = .ok (.sipush 200, 3) := by decide +kernel
theorem dX2_init_29 : decode cX2_init 29 = .ok (.newarray .boolean, 2) := by decide +kernel
theorem dX2_init_31 : decode cX2_init 31 = .ok (.putfield 20, 3) := by decide +kernel
theorem dX2_init_34 : decode cX2_init 34 = .ok (.aload_n 0, 1) := by decide +kernel
theorem dX2_init_35 : decode cX2_init 35 = .ok (.iconst 1, 1) := by decide +kernel
theorem dX2_init_36 : decode cX2_init 36 = .ok (.putfield 24, 3) := by decide +kernel
theorem dX2_init_39 : decode cX2_init 39 = .ok (.aload_n 0, 1) := by decide +kernel
theorem dX2_init_40 : decode cX2_init 40 = .ok (.iconst 1, 1) := by decide +kernel
theorem dX2_init_41 : decode cX2_init 41 = .ok (.putfield 28, 3) := by decide +kernel
theorem dX2_init_44 : decode cX2_init 44 = .ok (.return_, 1) := by decide +kernel
theorem dX2_clear_0 : decode cX2_clear 0 = .ok (.aload_n 0, 1) := by decide +kernel
theorem dX2_clear_1 : decode cX2_clear 1 = .ok (.iconst 0, 1) := by decide +kernel
theorem dX2_clear_2 : decode cX2_clear 2 = .ok (.putfield 31, 3) := by decide +kernel
theorem dX2_clear_5 : decode cX2_clear 5 = .ok (.return_, 1) := by decide +kernel
set_option maxRecDepth 20000 in
theorem ggX2_add_X1_allows : GoodIn wsX2_add wsX1_allows := goodIn_r _ [9, 10, 11, 12, 13, 14, 15, 16, 17, 24, 25, 26, 27, 28] (by decide +kernel) (by decide +kernel)
set_option maxRecDepth 20000 in
theorem gX2_add_X1_allows : GoodIn wsX2_add (wsV RX2 39 RX1 yX1_allows wsX1_allows) := goodIn_app (goodIn_of _ (by decide +kernel)) ggX2_add_X1_allows
theorem dX2_add_0 : decode cX2_add 0 = .ok (.aload_n 0, 1) := by decide +kernel
theorem dX2_add_1 : decode cX2_add 1 = .ok (.getfield 31, 3) := by decide +kernel
theorem dX2_add_4 : decode cX2_add 4 = .ok (.bipush 8, 2) := by decide +kernel
theorem dX2_add_6 : decode cX2_add 6 = .ok (.if_icmp .ge 21, 3) := by decide +kernel
theorem dX2_add_9 : decode cX2_add 9 = .ok (.aload_n 1, 1) := by decide +kernel
theorem dX2_add_10 : decode cX2_add 10 = .ok (.getfield 34, 3) := by decide +kernel
theorem dX2_add_13 : decode cX2_add 13 = .ok (.iconst 2, 1) := by decide +kernel
theorem dX2_add_14 : decode cX2_add 14 = .ok (.if_icmp .lt 13, 3) := by decide +kernel
theorem dX2_add_17 : decode cX2_add 17 = .ok (.aload_n 1, 1) := by decide +kernel
theorem dX2_add_18 : decode cX2_add 18 = .ok (.getfield 34, 3) := by decide +kernel
theorem dX2_add_21 : decode cX2_add 21 = .ok (.sipush 200, 3) := by decide +kernel
theorem dX2_add_24 : decode cX2_add 24 = .ok (.if_icmp .le 4, 3) := by decide +kernel
theorem dX2_add_27 : decode cX2_add 27 = .ok (.return_, 1) := by decide +kernel
theorem dX2_add_28 : decode cX2_add 28 = .ok (.iconst 0, 1) := by decide +kernel
theorem dX2_add_29 : decode cX2_add 29 = .ok (.istore_n 2, 1) := by decide +kernel
theorem dX2_add_30 : decode cX2_add 30 = .ok (.iload_n 2, 1) := by decide +kernel
theorem dX2_add_31 : decode cX2_add 31 = .ok (.aload_n 1, 1) := by decide +kernel
theorem dX2_add_32 : decode cX2_add 32 = .ok (.getfield 34, 3) := by decide +kernel
theorem dX2_add_35 : decode cX2_add 35 = .ok (.if_icmp .ge 20, 3) := by decide +kernel
theorem dX2_add_38 : decode cX2_add 38 = .ok (.aload_n 0, 1) := by decide +kernel
theorem dX2_add_39 : decode cX2_add 39 = .ok (.getfield 20, 3) := by decide +kernel
theorem dX2_add_42 : decode cX2_add 42 = .ok (.iload_n 2, 1) := by decide +kernel
theorem dX2_add_43 : decode cX2_add 43 = .ok (.aload_n 1, 1) := by decide +kernel
theorem dX2_add_44 : decode cX2_add 44 = .ok (.iload_n 2, 1) := by decide +kernel
theorem dX2_add_45 : decode cX2_add 45 = .ok (.invokevirtual 39, 3) := by decide +kernel
theorem dX2_add_48 : decode cX2_add 48 = .ok (.bastore, 1) := by decide +kernel
theorem dX2_add_49 : decode cX2_add 49 = .ok (.iinc 2 1, 3) := by decide +kernel
theorem dX2_add_52 : decode cX2_add 52 = .ok (.goto (-22), 3) := by decide +kernel
theorem dX2_add_55 : decode cX2_add 55 = .ok (.iconst 0, 1) := by decide +kernel
theorem dX2_add_56 : decode cX2_add 56 = .ok (.istore_n 2, 1) := by decide +kernel
theorem dX2_add_57 : decode cX2_add 57 = .ok (.iconst 0, 1) := by decide +kernel
theorem dX2_add_58 : decode cX2_add 58 = .ok (.istore_n 3, 1) := by decide +kernel
theorem dX2_add_59 : decode cX2_add 59 = .ok (.iload_n 3, 1) := by decide +kernel
theorem dX2_add_60 : decode cX2_add 60 = .ok (.aload_n 1, 1) := by decide +kernel
theorem dX2_add_61 : decode cX2_add 61 = .ok (.getfield 34, 3) := by decide +kernel
theorem dX2_add_64 : decode cX2_add 64 = .ok (.if_icmp .ge 77, 3) := by decide +kernel
theorem dX2_add_67 : decode cX2_add 67 = .ok (.lconst 0, 1) := by decide +kernel
theorem dX2_add_68 : decode cX2_add 68 = .ok (.lstore 4, 2) := by decide +kernel
theorem dX2_add_70 : decode cX2_add 70 = .ok (.iconst 0, 1) := by decide +kernel
theorem dX2_add_71 : decode cX2_add 71 = .ok (.istore 6, 2) := by decide +kernel
theorem dX2_add_73 : decode cX2_add 73 = .ok (.iload 6, 2) := by decide +kernel
theorem dX2_add_75 : decode cX2_add 75 = .ok (.bipush 64, 2) := by decide +kernel
theorem dX2_add_77 : decode cX2_add 77 = .ok (.if_icmp .ge 45, 3) := by decide +kernel
theorem dX2_add_80 : decode cX2_add 80 = .ok (.aload_n 0, 1) := by decide +kernel
theorem dX2_add_81 : decode cX2_add 81 = .ok (.getfield 20, 3) := by decide +kernel
theorem dX2_add_84 : decode cX2_add 84 = .ok (.iload_n 2, 1) := by decide +kernel
theorem dX2_add_85 : decode cX2_add 85 = .ok (.baload, 1) := by decide +kernel
theorem dX2_add_86 : decode cX2_add 86 = .ok (.ifCond .eq 12, 3) := by decide +kernel
theorem dX2_add_89 : decode cX2_add 89 = .ok (.lload 4, 2) := by decide +kernel
theorem dX2_add_91 : decode cX2_add 91 = .ok (.lconst 1, 1) := by decide +kernel
theorem dX2_add_92 : decode cX2_add 92 = .ok (.iload 6, 2) := by decide +kernel
theorem dX2_add_94 : decode cX2_add 94 = .ok (.lshl, 1) := by decide +kernel
theorem dX2_add_95 : decode cX2_add 95 = .ok (.lor, 1) := by decide +kernel
theorem dX2_add_96 : decode cX2_add 96 = .ok (.lstore 4, 2) := by decide +kernel
theorem dX2_add_98 : decode cX2_add 98 = .ok (.iload_n 2, 1) := by decide +kernel
theorem dX2_add_99 : decode cX2_add 99 = .ok (.iconst 1, 1) := by decide +kernel
theorem dX2_add_100 : decode cX2_add 100 = .ok (.iadd, 1) := by decide +kernel
theorem dX2_add_101 : decode cX2_add 101 = .ok (.aload_n 1, 1) := by decide +kernel
theorem dX2_add_102 : decode cX2_add 102 = .ok (.getfield 34, 3) := by decide +kernel
theorem dX2_add_105 : decode cX2_add 105 = .ok (.if_icmp .ge 9, 3) := by decide +kernel
theorem dX2_add_108 : decode cX2_add 108 = .ok (.iload_n 2, 1) := by decide +kernel
theorem dX2_add_109 : decode cX2_add 109 = .ok (.iconst 1, 1) := by decide +kernel
theorem dX2_add_110 : decode cX2_add 110 = .ok (.iadd, 1) := by decide +kernel
theorem dX2_add_111 : decode cX2_add 111 = .ok (.goto 4, 3) := by decide +kernel
theorem dX2_add_114 : decode cX2_add 114 = .ok (.iconst 0, 1) := by decide +kernel
theorem dX2_add_115 : decode cX2_add 115 = .ok (.istore_n 2, 1) := by decide +kernel
theorem dX2_add_116 : decode cX2_add 116 = .ok (.iinc 6 1, 3) := by decide +kernel
theorem dX2_add_119 : decode cX2_add 119 = .ok (.goto (-46), 3) := by decide +kernel
theorem dX2_add_122 : decode cX2_add 122 = .ok (.aload_n 0, 1) := by decide +kernel
theorem dX2_add_123 : decode cX2_add 123 = .ok (.getfield 13, 3) := by decide +kernel
theorem dX2_add_126 : decode cX2_add 126 = .ok (.aload_n 0, 1) := by decide +kernel
theorem dX2_add_127 : decode cX2_add 127 = .ok (.getfield 31, 3) := by decide +kernel
theorem dX2_add_130 : decode cX2_add 130 = .ok (.aaload, 1) := by decide +kernel
theorem dX2_add_131 : decode cX2_add 131 = .ok (.iload_n 3, 1) := by decide +kernel
theorem dX2_add_132 : decode cX2_add 132 = .ok (.lload 4, 2) := by decide +kernel
theorem dX2_add_134 : decode cX2_add 134 = .ok (.lastore, 1) := by decide +kernel
theorem dX2_add_135 : decode cX2_add 135 = .ok (.iinc 3 1, 3) := by decide +kernel
theorem dX2_add_138 : decode cX2_add 138 = .ok (.goto (-79), 3) := by decide +kernel
theorem dX2_add_141 : decode cX2_add 141 = .ok (.aload_n 0, 1) := by decide +kernel
theorem dX2_add_142 : decode cX2_add 142 = .ok (.getfield 16, 3) := by decide +kernel
theorem dX2_add_145 : decode cX2_add 145 = .ok (.aload_n 0, 1) := by decide +kernel
theorem dX2_add_146 : decode cX2_add 146 = .ok (.getfield 31, 3) := by decide +kernel
theorem dX2_add_149 : decode cX2_add 149 = .ok (.aload_n 1, 1) := by decide +kernel
theorem dX2_add_150 : decode cX2_add 150 = .ok (.getfield 34, 3) := by decide +kernel
theorem dX2_add_153 : decode cX2_add 153 = .ok (.iastore, 1) := by decide +kernel
theorem dX2_add_154 : decode cX2_add 154 = .ok (.aload_n 0, 1) := by decide +kernel
theorem dX2_add_155 : decode cX2_add 155 = .ok (.dup, 1) := by decide +kernel
theorem dX2_add_156 : decode cX2_add 156 = .ok (.getfield 31, 3) := by decide +kernel
theorem dX2_add_159 : decode cX2_add 159 = .ok (.iconst 1, 1) := by decide +kernel
theorem dX2_add_160 : decode cX2_add 160 = .ok (.iadd, 1) := by decide +kernel
theorem dX2_add_161 : decode cX2_add 161 = .ok (.putfield 31, 3) := by decide +kernel
theorem dX2_add_164 : decode cX2_add 164 = .ok (.return_, 1) := by decide +kernel
set_option maxRecDepth 20000 in
theorem ggX2_close_X2_all : GoodIn wsX2_close wsX2_all := goodIn_r _ [8, 9, 27, 28, 29, 30, 31, 32] (by decide +kernel) (by decide +kernel)
set_option maxRecDepth 20000 in
theorem gX2_close_X2_all : GoodIn wsX2_close (wsV RX2 45 RX2 yX2_all wsX2_all) := goodIn_app (goodIn_of _ (by decide +kernel)) ggX2_close_X2_all
set_option maxRecDepth 20000 in
theorem ggX2_close_X2_wordOf : GoodIn wsX2_close wsX2_wordOf := goodIn_r _ [13, 3, 9, 14, 15, 16, 17, 18, 19, 27, 28, 29, 30, 31, 32] (by decide +kernel) (by decide +kernel)
set_option maxRecDepth 20000 in
theorem gX2_close_X2_wordOf : GoodIn wsX2_close (wsV RX2 49 RX2 yX2_wordOf wsX2_wordOf) := goodIn_app (goodIn_of _ (by decide +kernel)) ggX2_close_X2_wordOf
set_option maxRecDepth 20000 in
theorem ggX2_close_J13_bitCount_95d88 : GoodIn wsX2_close wsJ13_bitCount_95d88 := goodIn_r _ [23, 24, 25, 26] (by decide +kernel) (by decide +kernel)
set_option maxRecDepth 20000 in
theorem gX2_close_J13_bitCount_95d88 : GoodIn wsX2_close (va_wsS RX2 53 yJ13_bitCount_95d88 wsJ13_bitCount_95d88) := goodIn_app (goodIn_of _ (by decide +kernel)) ggX2_close_J13_bitCount_95d88
theorem dX2_close_0 : decode cX2_close 0 = .ok (.aload_n 0, 1) := by decide +kernel
theorem dX2_close_1 : decode cX2_close 1 = .ok (.iload_n 1, 1) := by decide +kernel
theorem dX2_close_2 : decode cX2_close 2 = .ok (.putfield 24, 3) := by decide +kernel
theorem dX2_close_5 : decode cX2_close 5 = .ok (.aload_n 0, 1) := by decide +kernel
theorem dX2_close_6 : decode cX2_close 6 = .ok (.iconst 0, 1) := by decide +kernel
theorem dX2_close_7 : decode cX2_close 7 = .ok (.putfield 28, 3) := by decide +kernel
theorem dX2_close_10 : decode cX2_close 10 = .ok (.iconst 0, 1) := by decide +kernel
theorem dX2_close_11 : decode cX2_close 11 = .ok (.istore_n 2, 1) := by decide +kernel
theorem dX2_close_12 : decode cX2_close 12 = .ok (.bipush 64, 2) := by decide +kernel
theorem dX2_close_14 : decode cX2_close 14 = .ok (.iload_n 2, 1) := by decide +kernel
theorem dX2_close_15 : decode cX2_close 15 = .ok (.imul, 1) := by decide +kernel
theorem dX2_close_16 : decode cX2_close 16 = .ok (.aload_n 0, 1) := by decide +kernel
theorem dX2_close_17 : decode cX2_close 17 = .ok (.getfield 24, 3) := by decide +kernel
theorem dX2_close_20 : decode cX2_close 20 = .ok (.if_icmp .ge 63, 3) := by decide +kernel
theorem dX2_close_23 : decode cX2_close 23 = .ok (.aload_n 0, 1) := by decide +kernel
theorem dX2_close_24 : decode cX2_close 24 = .ok (.getfield 24, 3) := by decide +kernel
theorem dX2_close_27 : decode cX2_close 27 = .ok (.bipush 64, 2) := by decide +kernel
theorem dX2_close_29 : decode cX2_close 29 = .ok (.iload_n 2, 1) := by decide +kernel
theorem dX2_close_30 : decode cX2_close 30 = .ok (.imul, 1) := by decide +kernel
theorem dX2_close_31 : decode cX2_close 31 = .ok (.isub, 1) := by decide +kernel
theorem dX2_close_32 : decode cX2_close 32 = .ok (.istore_n 3, 1) := by decide +kernel
theorem dX2_close_33 : decode cX2_close 33 = .ok (.iload_n 3, 1) := by decide +kernel
theorem dX2_close_34 : decode cX2_close 34 = .ok (.bipush 64, 2) := by decide +kernel
theorem dX2_close_36 : decode cX2_close 36 = .ok (.if_icmp .ge 11, 3) := by decide +kernel
theorem dX2_close_39 : decode cX2_close 39 = .ok (.lconst 1, 1) := by decide +kernel
theorem dX2_close_40 : decode cX2_close 40 = .ok (.iload_n 3, 1) := by decide +kernel
theorem dX2_close_41 : decode cX2_close 41 = .ok (.lshl, 1) := by decide +kernel
theorem dX2_close_42 : decode cX2_close 42 = .ok (.lconst 1, 1) := by decide +kernel
theorem dX2_close_43 : decode cX2_close 43 = .ok (.lsub, 1) := by decide +kernel
theorem dX2_close_44 : decode cX2_close 44 = .ok (.goto 6, 3) := by decide +kernel
theorem dX2_close_47 : decode cX2_close 47 = .ok (.ldc2_w 43, 3) := by decide +kernel
theorem dX2_close_50 : decode cX2_close 50 = .ok (.lstore 4, 2) := by decide +kernel
theorem dX2_close_52 : decode cX2_close 52 = .ok (.aload_n 0, 1) := by decide +kernel
theorem dX2_close_53 : decode cX2_close 53 = .ok (.dup, 1) := by decide +kernel
theorem dX2_close_54 : decode cX2_close 54 = .ok (.getfield 28, 3) := by decide +kernel
theorem dX2_close_57 : decode cX2_close 57 = .ok (.aload_n 0, 1) := by decide +kernel
theorem dX2_close_58 : decode cX2_close 58 = .ok (.iload_n 2, 1) := by decide +kernel
theorem dX2_close_59 : decode cX2_close 59 = .ok (.i2l, 1) := by decide +kernel
theorem dX2_close_60 : decode cX2_close 60 = .ok (.aload_n 0, 1) := by decide +kernel
theorem dX2_close_61 : decode cX2_close 61 = .ok (.invokevirtual 45, 3) := by decide +kernel
theorem dX2_close_64 : decode cX2_close 64 = .ok (.invokevirtual 49, 3) := by decide +kernel
theorem dX2_close_67 : decode cX2_close 67 = .ok (.lload 4, 2) := by decide +kernel
theorem dX2_close_69 : decode cX2_close 69 = .ok (.land, 1) := by decide +kernel
theorem dX2_close_70 : decode cX2_close 70 = .ok (.invokestatic 53, 3) := by decide +kernel
theorem dX2_close_73 : decode cX2_close 73 = .ok (.iadd, 1) := by decide +kernel
theorem dX2_close_74 : decode cX2_close 74 = .ok (.putfield 28, 3) := by decide +kernel
theorem dX2_close_77 : decode cX2_close 77 = .ok (.iinc 2 1, 3) := by decide +kernel
theorem dX2_close_80 : decode cX2_close 80 = .ok (.goto (-68), 3) := by decide +kernel
theorem dX2_close_83 : decode cX2_close 83 = .ok (.return_, 1) := by decide +kernel
theorem dX2_all_0 : decode cX2_all 0 = .ok (.iconst 1, 1) := by decide +kernel
theorem dX2_all_1 : decode cX2_all 1 = .ok (.aload_n 0, 1) := by decide +kernel
theorem dX2_all_2 : decode cX2_all 2 = .ok (.getfield 31, 3) := by decide +kernel
theorem dX2_all_5 : decode cX2_all 5 = .ok (.ishl, 1) := by decide +kernel
theorem dX2_all_6 : decode cX2_all 6 = .ok (.iconst 1, 1) := by decide +kernel
theorem dX2_all_7 : decode cX2_all 7 = .ok (.isub, 1) := by decide +kernel
theorem dX2_all_8 : decode cX2_all 8 = .ok (.ireturn, 1) := by decide +kernel
set_option maxRecDepth 20000 in
theorem ggX2_wordOf_X4_rest : GoodIn wsX2_wordOf wsX4_rest := goodIn_r _ [8] (by decide +kernel) (by decide +kernel)
set_option maxRecDepth 20000 in
theorem gX2_wordOf_X4_rest : GoodIn wsX2_wordOf (va_wsS RX2 59 yX4_rest wsX4_rest) := goodIn_app (goodIn_of _ (by decide +kernel)) ggX2_wordOf_X4_rest
theorem dX2_wordOf_0 : decode cX2_wordOf 0 = .ok (.ldc2_w 43, 3) := by decide +kernel
theorem dX2_wordOf_3 : decode cX2_wordOf 3 = .ok (.lstore 4, 2) := by decide +kernel
theorem dX2_wordOf_5 : decode cX2_wordOf 5 = .ok (.iconst 0, 1) := by decide +kernel
theorem dX2_wordOf_6 : decode cX2_wordOf 6 = .ok (.istore 6, 2) := by decide +kernel
theorem dX2_wordOf_8 : decode cX2_wordOf 8 = .ok (.iload 6, 2) := by decide +kernel
theorem dX2_wordOf_10 : decode cX2_wordOf 10 = .ok (.aload_n 0, 1) := by decide +kernel
theorem dX2_wordOf_11 : decode cX2_wordOf 11 = .ok (.getfield 31, 3) := by decide +kernel
theorem dX2_wordOf_14 : decode cX2_wordOf 14 = .ok (.if_icmp .ge 50, 3) := by decide +kernel
theorem dX2_wordOf_17 : decode cX2_wordOf 17 = .ok (.lload 4, 2) := by decide +kernel
theorem dX2_wordOf_19 : decode cX2_wordOf 19 = .ok (.lconst 0, 1) := by decide +kernel
theorem dX2_wordOf_20 : decode cX2_wordOf 20 = .ok (.lcmp, 1) := by decide +kernel
theorem dX2_wordOf_21 : decode cX2_wordOf 21 = .ok (.ifCond .eq 43, 3) := by decide +kernel
theorem dX2_wordOf_24 : decode cX2_wordOf 24 = .ok (.iload_n 3, 1) := by decide +kernel
theorem dX2_wordOf_25 : decode cX2_wordOf 25 = .ok (.iload 6, 2) := by decide +kernel
theorem dX2_wordOf_27 : decode cX2_wordOf 27 = .ok (.ishr, 1) := by decide +kernel
theorem dX2_wordOf_28 : decode cX2_wordOf 28 = .ok (.iconst 1, 1) := by decide +kernel
theorem dX2_wordOf_29 : decode cX2_wordOf 29 = .ok (.iand, 1) := by decide +kernel
theorem dX2_wordOf_30 : decode cX2_wordOf 30 = .ok (.iconst 1, 1) := by decide +kernel
theorem dX2_wordOf_31 : decode cX2_wordOf 31 = .ok (.if_icmp .ne 27, 3) := by decide +kernel
theorem dX2_wordOf_34 : decode cX2_wordOf 34 = .ok (.lload 4, 2) := by decide +kernel
theorem dX2_wordOf_36 : decode cX2_wordOf 36 = .ok (.aload_n 0, 1) := by decide +kernel
theorem dX2_wordOf_37 : decode cX2_wordOf 37 = .ok (.getfield 13, 3) := by decide +kernel
theorem dX2_wordOf_40 : decode cX2_wordOf 40 = .ok (.iload 6, 2) := by decide +kernel
theorem dX2_wordOf_42 : decode cX2_wordOf 42 = .ok (.aaload, 1) := by decide +kernel
theorem dX2_wordOf_43 : decode cX2_wordOf 43 = .ok (.lload_n 1, 1) := by decide +kernel
theorem dX2_wordOf_44 : decode cX2_wordOf 44 = .ok (.aload_n 0, 1) := by decide +kernel
theorem dX2_wordOf_45 : decode cX2_wordOf 45 = .ok (.getfield 16, 3) := by decide +kernel
theorem dX2_wordOf_48 : decode cX2_wordOf 48 = .ok (.iload 6, 2) := by decide +kernel
theorem dX2_wordOf_50 : decode cX2_wordOf 50 = .ok (.iaload, 1) := by decide +kernel
theorem dX2_wordOf_51 : decode cX2_wordOf 51 = .ok (.invokestatic 59, 3) := by decide +kernel
theorem dX2_wordOf_54 : decode cX2_wordOf 54 = .ok (.laload, 1) := by decide +kernel
theorem dX2_wordOf_55 : decode cX2_wordOf 55 = .ok (.land, 1) := by decide +kernel
theorem dX2_wordOf_56 : decode cX2_wordOf 56 = .ok (.lstore 4, 2) := by decide +kernel
theorem dX2_wordOf_58 : decode cX2_wordOf 58 = .ok (.iinc 6 1, 3) := by decide +kernel
theorem dX2_wordOf_61 : decode cX2_wordOf 61 = .ok (.goto (-53), 3) := by decide +kernel
theorem dX2_wordOf_64 : decode cX2_wordOf 64 = .ok (.lload 4, 2) := by decide +kernel
theorem dX2_wordOf_66 : decode cX2_wordOf 66 = .ok (.lreturn, 1) := by decide +kernel
set_option maxRecDepth 20000 in
theorem ggX2_lowestBit_J13_bitCount_95d88 : GoodIn wsX2_lowestBit wsJ13_bitCount_95d88 := goodIn_r _ [4, 5, 6, 7] (by decide +kernel) (by decide +kernel)
set_option maxRecDepth 20000 in
theorem gX2_lowestBit_J13_bitCount_95d88 : GoodIn wsX2_lowestBit (va_wsS RX2 53 yJ13_bitCount_95d88 wsJ13_bitCount_95d88) := goodIn_app (goodIn_of _ (by decide +kernel)) ggX2_lowestBit_J13_bitCount_95d88
theorem dX2_lowestBit_0 : decode cX2_lowestBit 0 = .ok (.lload_n 0, 1) := by decide +kernel
theorem dX2_lowestBit_1 : decode cX2_lowestBit 1 = .ok (.lload_n 0, 1) := by decide +kernel
theorem dX2_lowestBit_2 : decode cX2_lowestBit 2 = .ok (.lneg, 1) := by decide +kernel
theorem dX2_lowestBit_3 : decode cX2_lowestBit 3 = .ok (.land, 1) := by decide +kernel
theorem dX2_lowestBit_4 : decode cX2_lowestBit 4 = .ok (.lconst 1, 1) := by decide +kernel
theorem dX2_lowestBit_5 : decode cX2_lowestBit 5 = .ok (.lsub, 1) := by decide +kernel
theorem dX2_lowestBit_6 : decode cX2_lowestBit 6 = .ok (.invokestatic 53, 3) := by decide +kernel
theorem dX2_lowestBit_9 : decode cX2_lowestBit 9 = .ok (.ireturn, 1) := by decide +kernel
set_option maxRecDepth 20000 in
theorem ggX2_leftAt_X2_all : GoodIn wsX2_leftAt wsX2_all := goodIn_r _ [9, 10, 35, 36, 37, 38, 39, 40] (by decide +kernel) (by decide +kernel)
set_option maxRecDepth 20000 in
theorem gX2_leftAt_X2_all : GoodIn wsX2_leftAt (wsV RX2 45 RX2 yX2_all wsX2_all) := goodIn_app (goodIn_of _ (by decide +kernel)) ggX2_leftAt_X2_all
set_option maxRecDepth 20000 in
theorem ggX2_leftAt_X2_wordOf : GoodIn wsX2_leftAt wsX2_wordOf := goodIn_r _ [14, 15, 10, 16, 17, 18, 19, 20, 21, 35, 36, 37, 38, 39, 40] (by decide +kernel) (by decide +kernel)
set_option maxRecDepth 20000 in
theorem gX2_leftAt_X2_wordOf : GoodIn wsX2_leftAt (wsV RX2 49 RX2 yX2_wordOf wsX2_wordOf) := goodIn_app (goodIn_of _ (by decide +kernel)) ggX2_leftAt_X2_wordOf
set_option maxRecDepth 20000 in
theorem ggX2_leftAt_J13_bitCount_95d88 : GoodIn wsX2_leftAt wsJ13_bitCount_95d88 := goodIn_r _ [25, 26, 27, 28] (by decide +kernel) (by decide +kernel)
set_option maxRecDepth 20000 in
theorem gX2_leftAt_J13_bitCount_95d88 : GoodIn wsX2_leftAt (va_wsS RX2 53 yJ13_bitCount_95d88 wsJ13_bitCount_95d88) := goodIn_app (goodIn_of _ (by decide +kernel)) ggX2_leftAt_J13_bitCount_95d88
set_option maxRecDepth 20000 in
theorem ggX2_leftAt_X2_bitAt : GoodIn wsX2_leftAt wsX2_bitAt := goodIn_r _ [31, 32, 33, 8, 34, 22, 23, 24, 25, 26, 27, 28] (by decide +kernel) (by decide +kernel)
set_option maxRecDepth 20000 in
theorem gX2_leftAt_X2_bitAt : GoodIn wsX2_leftAt (va_wsS RX2 69 yX2_bitAt wsX2_bitAt) := goodIn_app (goodIn_of _ (by decide +kernel)) ggX2_leftAt_X2_bitAt
theorem dX2_leftAt_0 : decode cX2_leftAt 0 = .ok (.aload_n 0, 1) := by decide +kernel
theorem dX2_leftAt_1 : decode cX2_leftAt 1 = .ok (.getfield 28, 3) := by decide +kernel
theorem dX2_leftAt_4 : decode cX2_leftAt 4 = .ok (.iconst 1, 1) := by decide +kernel
theorem dX2_leftAt_5 : decode cX2_leftAt 5 = .ok (.if_icmp .ge 7, 3) := by decide +kernel
theorem dX2_leftAt_8 : decode cX2_leftAt 8 = .ok (.ldc2_w 65, 3) := by decide +kernel
theorem dX2_leftAt_11 : decode cX2_leftAt 11 = .ok (.lreturn, 1) := by decide +kernel
theorem dX2_leftAt_12 : decode cX2_leftAt 12 = .ok (.lload_n 1, 1) := by decide +kernel
theorem dX2_leftAt_13 : decode cX2_leftAt 13 = .ok (.aload_n 0, 1) := by decide +kernel
theorem dX2_leftAt_14 : decode cX2_leftAt 14 = .ok (.getfield 28, 3) := by decide +kernel
theorem dX2_leftAt_17 : decode cX2_leftAt 17 = .ok (.i2l, 1) := by decide +kernel
theorem dX2_leftAt_18 : decode cX2_leftAt 18 = .ok (.ldiv, 1) := by decide +kernel
theorem dX2_leftAt_19 : decode cX2_leftAt 19 = .ok (.aload_n 0, 1) := by decide +kernel
theorem dX2_leftAt_20 : decode cX2_leftAt 20 = .ok (.getfield 24, 3) := by decide +kernel
theorem dX2_leftAt_23 : decode cX2_leftAt 23 = .ok (.i2l, 1) := by decide +kernel
theorem dX2_leftAt_24 : decode cX2_leftAt 24 = .ok (.lmul, 1) := by decide +kernel
theorem dX2_leftAt_25 : decode cX2_leftAt 25 = .ok (.lstore_n 3, 1) := by decide +kernel
theorem dX2_leftAt_26 : decode cX2_leftAt 26 = .ok (.lload_n 1, 1) := by decide +kernel
theorem dX2_leftAt_27 : decode cX2_leftAt 27 = .ok (.aload_n 0, 1) := by decide +kernel
theorem dX2_leftAt_28 : decode cX2_leftAt 28 = .ok (.getfield 28, 3) := by decide +kernel
theorem dX2_leftAt_31 : decode cX2_leftAt 31 = .ok (.i2l, 1) := by decide +kernel
theorem dX2_leftAt_32 : decode cX2_leftAt 32 = .ok (.lrem, 1) := by decide +kernel
theorem dX2_leftAt_33 : decode cX2_leftAt 33 = .ok (.l2i, 1) := by decide +kernel
theorem dX2_leftAt_34 : decode cX2_leftAt 34 = .ok (.istore 5, 2) := by decide +kernel
theorem dX2_leftAt_36 : decode cX2_leftAt 36 = .ok (.iconst 0, 1) := by decide +kernel
theorem dX2_leftAt_37 : decode cX2_leftAt 37 = .ok (.istore 6, 2) := by decide +kernel
theorem dX2_leftAt_39 : decode cX2_leftAt 39 = .ok (.bipush 64, 2) := by decide +kernel
theorem dX2_leftAt_41 : decode cX2_leftAt 41 = .ok (.iload 6, 2) := by decide +kernel
theorem dX2_leftAt_43 : decode cX2_leftAt 43 = .ok (.imul, 1) := by decide +kernel
theorem dX2_leftAt_44 : decode cX2_leftAt 44 = .ok (.aload_n 0, 1) := by decide +kernel
theorem dX2_leftAt_45 : decode cX2_leftAt 45 = .ok (.getfield 24, 3) := by decide +kernel
theorem dX2_leftAt_48 : decode cX2_leftAt 48 = .ok (.if_icmp .ge 62, 3) := by decide +kernel
theorem dX2_leftAt_51 : decode cX2_leftAt 51 = .ok (.aload_n 0, 1) := by decide +kernel
theorem dX2_leftAt_52 : decode cX2_leftAt 52 = .ok (.iload 6, 2) := by decide +kernel
theorem dX2_leftAt_54 : decode cX2_leftAt 54 = .ok (.i2l, 1) := by decide +kernel
theorem dX2_leftAt_55 : decode cX2_leftAt 55 = .ok (.aload_n 0, 1) := by decide +kernel
theorem dX2_leftAt_56 : decode cX2_leftAt 56 = .ok (.invokevirtual 45, 3) := by decide +kernel
theorem dX2_leftAt_59 : decode cX2_leftAt 59 = .ok (.invokevirtual 49, 3) := by decide +kernel
theorem dX2_leftAt_62 : decode cX2_leftAt 62 = .ok (.lstore 7, 2) := by decide +kernel
theorem dX2_leftAt_64 : decode cX2_leftAt 64 = .ok (.lload 7, 2) := by decide +kernel
theorem dX2_leftAt_66 : decode cX2_leftAt 66 = .ok (.invokestatic 53, 3) := by decide +kernel
theorem dX2_leftAt_69 : decode cX2_leftAt 69 = .ok (.istore 9, 2) := by decide +kernel
theorem dX2_leftAt_71 : decode cX2_leftAt 71 = .ok (.iload 5, 2) := by decide +kernel
theorem dX2_leftAt_73 : decode cX2_leftAt 73 = .ok (.iload 9, 2) := by decide +kernel
theorem dX2_leftAt_75 : decode cX2_leftAt 75 = .ok (.if_icmp .ge 22, 3) := by decide +kernel
theorem dX2_leftAt_78 : decode cX2_leftAt 78 = .ok (.lload_n 3, 1) := by decide +kernel
theorem dX2_leftAt_79 : decode cX2_leftAt 79 = .ok (.ldc2_w 67, 3) := by decide +kernel
theorem dX2_leftAt_82 : decode cX2_leftAt 82 = .ok (.iload 6, 2) := by decide +kernel
theorem dX2_leftAt_84 : decode cX2_leftAt 84 = .ok (.i2l, 1) := by decide +kernel
theorem dX2_leftAt_85 : decode cX2_leftAt 85 = .ok (.lmul, 1) := by decide +kernel
theorem dX2_leftAt_86 : decode cX2_leftAt 86 = .ok (.ladd, 1) := by decide +kernel
theorem dX2_leftAt_87 : decode cX2_leftAt 87 = .ok (.lload 7, 2) := by decide +kernel
theorem dX2_leftAt_89 : decode cX2_leftAt 89 = .ok (.iload 5, 2) := by decide +kernel
theorem dX2_leftAt_91 : decode cX2_leftAt 91 = .ok (.invokestatic 69, 3) := by decide +kernel
theorem dX2_leftAt_94 : decode cX2_leftAt 94 = .ok (.i2l, 1) := by decide +kernel
theorem dX2_leftAt_95 : decode cX2_leftAt 95 = .ok (.ladd, 1) := by decide +kernel
theorem dX2_leftAt_96 : decode cX2_leftAt 96 = .ok (.lreturn, 1) := by decide +kernel
theorem dX2_leftAt_97 : decode cX2_leftAt 97 = .ok (.iload 5, 2) := by decide +kernel
theorem dX2_leftAt_99 : decode cX2_leftAt 99 = .ok (.iload 9, 2) := by decide +kernel
theorem dX2_leftAt_101 : decode cX2_leftAt 101 = .ok (.isub, 1) := by decide +kernel
theorem dX2_leftAt_102 : decode cX2_leftAt 102 = .ok (.istore 5, 2) := by decide +kernel
theorem dX2_leftAt_104 : decode cX2_leftAt 104 = .ok (.iinc 6 1, 3) := by decide +kernel
theorem dX2_leftAt_107 : decode cX2_leftAt 107 = .ok (.goto (-68), 3) := by decide +kernel
theorem dX2_leftAt_110 : decode cX2_leftAt 110 = .ok (.ldc2_w 65, 3) := by decide +kernel
theorem dX2_leftAt_113 : decode cX2_leftAt 113 = .ok (.lreturn, 1) := by decide +kernel
set_option maxRecDepth 20000 in
theorem ggX2_bitAt_X2_lowestBit : GoodIn wsX2_bitAt wsX2_lowestBit := goodIn_r _ [4, 5, 6, 7, 8, 9, 10, 11] (by decide +kernel) (by decide +kernel)
set_option maxRecDepth 20000 in
theorem gX2_bitAt_X2_lowestBit : GoodIn wsX2_bitAt (va_wsS RX2 72 yX2_lowestBit wsX2_lowestBit) := goodIn_app (goodIn_of _ (by decide +kernel)) ggX2_bitAt_X2_lowestBit
theorem dX2_bitAt_0 : decode cX2_bitAt 0 = .ok (.lload_n 0, 1) := by decide +kernel
theorem dX2_bitAt_1 : decode cX2_bitAt 1 = .ok (.lstore_n 3, 1) := by decide +kernel
theorem dX2_bitAt_2 : decode cX2_bitAt 2 = .ok (.iconst 0, 1) := by decide +kernel
theorem dX2_bitAt_3 : decode cX2_bitAt 3 = .ok (.istore 5, 2) := by decide +kernel
theorem dX2_bitAt_5 : decode cX2_bitAt 5 = .ok (.iload 5, 2) := by decide +kernel
theorem dX2_bitAt_7 : decode cX2_bitAt 7 = .ok (.iload_n 2, 1) := by decide +kernel
theorem dX2_bitAt_8 : decode cX2_bitAt 8 = .ok (.if_icmp .ge 15, 3) := by decide +kernel
theorem dX2_bitAt_11 : decode cX2_bitAt 11 = .ok (.lload_n 3, 1) := by decide +kernel
theorem dX2_bitAt_12 : decode cX2_bitAt 12 = .ok (.lload_n 3, 1) := by decide +kernel
theorem dX2_bitAt_13 : decode cX2_bitAt 13 = .ok (.lconst 1, 1) := by decide +kernel
theorem dX2_bitAt_14 : decode cX2_bitAt 14 = .ok (.lsub, 1) := by decide +kernel
theorem dX2_bitAt_15 : decode cX2_bitAt 15 = .ok (.land, 1) := by decide +kernel
theorem dX2_bitAt_16 : decode cX2_bitAt 16 = .ok (.lstore_n 3, 1) := by decide +kernel
theorem dX2_bitAt_17 : decode cX2_bitAt 17 = .ok (.iinc 5 1, 3) := by decide +kernel
theorem dX2_bitAt_20 : decode cX2_bitAt 20 = .ok (.goto (-15), 3) := by decide +kernel
theorem dX2_bitAt_23 : decode cX2_bitAt 23 = .ok (.lload_n 3, 1) := by decide +kernel
theorem dX2_bitAt_24 : decode cX2_bitAt 24 = .ok (.invokestatic 72, 3) := by decide +kernel
theorem dX2_bitAt_27 : decode cX2_bitAt 27 = .ok (.ireturn, 1) := by decide +kernel
set_option maxRecDepth 20000 in
theorem ggX2_leastFrom_X2_all : GoodIn wsX2_leastFrom wsX2_all := goodIn_r _ [10, 11, 32, 33, 34, 35, 36, 37] (by decide +kernel) (by decide +kernel)
set_option maxRecDepth 20000 in
theorem gX2_leastFrom_X2_all : GoodIn wsX2_leastFrom (wsV RX2 45 RX2 yX2_all wsX2_all) := goodIn_app (goodIn_of _ (by decide +kernel)) ggX2_leastFrom_X2_all
set_option maxRecDepth 20000 in
theorem ggX2_leastFrom_X2_wordOf : GoodIn wsX2_leastFrom wsX2_wordOf := goodIn_r _ [15, 4, 11, 16, 17, 18, 19, 20, 21, 32, 33, 34, 35, 36, 37] (by decide +kernel) (by decide +kernel)
set_option maxRecDepth 20000 in
theorem gX2_leastFrom_X2_wordOf : GoodIn wsX2_leastFrom (wsV RX2 49 RX2 yX2_wordOf wsX2_wordOf) := goodIn_app (goodIn_of _ (by decide +kernel)) ggX2_leastFrom_X2_wordOf
set_option maxRecDepth 20000 in
theorem ggX2_leastFrom_X2_lowestBit : GoodIn wsX2_leastFrom wsX2_lowestBit := goodIn_r _ [24, 25, 26, 27, 28, 29, 30, 31] (by decide +kernel) (by decide +kernel)
set_option maxRecDepth 20000 in
theorem gX2_leastFrom_X2_lowestBit : GoodIn wsX2_leastFrom (va_wsS RX2 72 yX2_lowestBit wsX2_lowestBit) := goodIn_app (goodIn_of _ (by decide +kernel)) ggX2_leastFrom_X2_lowestBit
theorem dX2_leastFrom_0 : decode cX2_leastFrom 0 = .ok (.aload_n 0, 1) := by decide +kernel
theorem dX2_leastFrom_1 : decode cX2_leastFrom 1 = .ok (.getfield 28, 3) := by decide +kernel
theorem dX2_leastFrom_4 : decode cX2_leastFrom 4 = .ok (.iconst 1, 1) := by decide +kernel
theorem dX2_leastFrom_5 : decode cX2_leastFrom 5 = .ok (.if_icmp .ge 7, 3) := by decide +kernel
theorem dX2_leastFrom_8 : decode cX2_leastFrom 8 = .ok (.ldc2_w 65, 3) := by decide +kernel
theorem dX2_leastFrom_11 : decode cX2_leastFrom 11 = .ok (.lreturn, 1) := by decide +kernel
theorem dX2_leastFrom_12 : decode cX2_leastFrom 12 = .ok (.lload_n 1, 1) := by decide +kernel
theorem dX2_leastFrom_13 : decode cX2_leastFrom 13 = .ok (.ldc2_w 67, 3) := by decide +kernel
theorem dX2_leastFrom_16 : decode cX2_leastFrom 16 = .ok (.ldiv, 1) := by decide +kernel
theorem dX2_leastFrom_17 : decode cX2_leastFrom 17 = .ok (.lstore_n 3, 1) := by decide +kernel
theorem dX2_leastFrom_18 : decode cX2_leastFrom 18 = .ok (.aload_n 0, 1) := by decide +kernel
theorem dX2_leastFrom_19 : decode cX2_leastFrom 19 = .ok (.lload_n 3, 1) := by decide +kernel
theorem dX2_leastFrom_20 : decode cX2_leastFrom 20 = .ok (.aload_n 0, 1) := by decide +kernel
theorem dX2_leastFrom_21 : decode cX2_leastFrom 21 = .ok (.invokevirtual 45, 3) := by decide +kernel
theorem dX2_leastFrom_24 : decode cX2_leastFrom 24 = .ok (.invokevirtual 49, 3) := by decide +kernel
theorem dX2_leastFrom_27 : decode cX2_leastFrom 27 = .ok (.ldc2_w 43, 3) := by decide +kernel
theorem dX2_leastFrom_30 : decode cX2_leastFrom 30 = .ok (.lload_n 1, 1) := by decide +kernel
theorem dX2_leastFrom_31 : decode cX2_leastFrom 31 = .ok (.ldc2_w 67, 3) := by decide +kernel
theorem dX2_leastFrom_34 : decode cX2_leastFrom 34 = .ok (.lrem, 1) := by decide +kernel
theorem dX2_leastFrom_35 : decode cX2_leastFrom 35 = .ok (.l2i, 1) := by decide +kernel
theorem dX2_leastFrom_36 : decode cX2_leastFrom 36 = .ok (.lshl, 1) := by decide +kernel
theorem dX2_leastFrom_37 : decode cX2_leastFrom 37 = .ok (.land, 1) := by decide +kernel
theorem dX2_leastFrom_38 : decode cX2_leastFrom 38 = .ok (.lstore 5, 2) := by decide +kernel
theorem dX2_leastFrom_40 : decode cX2_leastFrom 40 = .ok (.iconst 0, 1) := by decide +kernel
theorem dX2_leastFrom_41 : decode cX2_leastFrom 41 = .ok (.istore 7, 2) := by decide +kernel
theorem dX2_leastFrom_43 : decode cX2_leastFrom 43 = .ok (.iload 7, 2) := by decide +kernel
theorem dX2_leastFrom_45 : decode cX2_leastFrom 45 = .ok (.aload_n 0, 1) := by decide +kernel
theorem dX2_leastFrom_46 : decode cX2_leastFrom 46 = .ok (.getfield 24, 3) := by decide +kernel
theorem dX2_leastFrom_49 : decode cX2_leastFrom 49 = .ok (.bipush 64, 2) := by decide +kernel
theorem dX2_leastFrom_51 : decode cX2_leastFrom 51 = .ok (.idiv, 1) := by decide +kernel
theorem dX2_leastFrom_52 : decode cX2_leastFrom 52 = .ok (.iconst 2, 1) := by decide +kernel
theorem dX2_leastFrom_53 : decode cX2_leastFrom 53 = .ok (.iadd, 1) := by decide +kernel
theorem dX2_leastFrom_54 : decode cX2_leastFrom 54 = .ok (.if_icmp .ge 31, 3) := by decide +kernel
theorem dX2_leastFrom_57 : decode cX2_leastFrom 57 = .ok (.lload 5, 2) := by decide +kernel
theorem dX2_leastFrom_59 : decode cX2_leastFrom 59 = .ok (.lconst 0, 1) := by decide +kernel
theorem dX2_leastFrom_60 : decode cX2_leastFrom 60 = .ok (.lcmp, 1) := by decide +kernel
theorem dX2_leastFrom_61 : decode cX2_leastFrom 61 = .ok (.ifCond .ne 24, 3) := by decide +kernel
theorem dX2_leastFrom_64 : decode cX2_leastFrom 64 = .ok (.lload_n 3, 1) := by decide +kernel
theorem dX2_leastFrom_65 : decode cX2_leastFrom 65 = .ok (.lconst 1, 1) := by decide +kernel
theorem dX2_leastFrom_66 : decode cX2_leastFrom 66 = .ok (.ladd, 1) := by decide +kernel
theorem dX2_leastFrom_67 : decode cX2_leastFrom 67 = .ok (.lstore_n 3, 1) := by decide +kernel
theorem dX2_leastFrom_68 : decode cX2_leastFrom 68 = .ok (.aload_n 0, 1) := by decide +kernel
theorem dX2_leastFrom_69 : decode cX2_leastFrom 69 = .ok (.lload_n 3, 1) := by decide +kernel
theorem dX2_leastFrom_70 : decode cX2_leastFrom 70 = .ok (.aload_n 0, 1) := by decide +kernel
theorem dX2_leastFrom_71 : decode cX2_leastFrom 71 = .ok (.invokevirtual 45, 3) := by decide +kernel
theorem dX2_leastFrom_74 : decode cX2_leastFrom 74 = .ok (.invokevirtual 49, 3) := by decide +kernel
theorem dX2_leastFrom_77 : decode cX2_leastFrom 77 = .ok (.lstore 5, 2) := by decide +kernel
theorem dX2_leastFrom_79 : decode cX2_leastFrom 79 = .ok (.iinc 7 1, 3) := by decide +kernel
theorem dX2_leastFrom_82 : decode cX2_leastFrom 82 = .ok (.goto (-39), 3) := by decide +kernel
theorem dX2_leastFrom_85 : decode cX2_leastFrom 85 = .ok (.lload 5, 2) := by decide +kernel
theorem dX2_leastFrom_87 : decode cX2_leastFrom 87 = .ok (.lconst 0, 1) := by decide +kernel
theorem dX2_leastFrom_88 : decode cX2_leastFrom 88 = .ok (.lcmp, 1) := by decide +kernel
theorem dX2_leastFrom_89 : decode cX2_leastFrom 89 = .ok (.ifCond .ne 9, 3) := by decide +kernel
theorem dX2_leastFrom_92 : decode cX2_leastFrom 92 = .ok (.ldc2_w 65, 3) := by decide +kernel
theorem dX2_leastFrom_95 : decode cX2_leastFrom 95 = .ok (.goto 15, 3) := by decide +kernel
theorem dX2_leastFrom_98 : decode cX2_leastFrom 98 = .ok (.ldc2_w 67, 3) := by decide +kernel
theorem dX2_leastFrom_101 : decode cX2_leastFrom 101 = .ok (.lload_n 3, 1) := by decide +kernel
theorem dX2_leastFrom_102 : decode cX2_leastFrom 102 = .ok (.lmul, 1) := by decide +kernel
theorem dX2_leastFrom_103 : decode cX2_leastFrom 103 = .ok (.lload 5, 2) := by decide +kernel
theorem dX2_leastFrom_105 : decode cX2_leastFrom 105 = .ok (.invokestatic 72, 3) := by decide +kernel
theorem dX2_leastFrom_108 : decode cX2_leastFrom 108 = .ok (.i2l, 1) := by decide +kernel
theorem dX2_leastFrom_109 : decode cX2_leastFrom 109 = .ok (.ladd, 1) := by decide +kernel
theorem dX2_leastFrom_110 : decode cX2_leastFrom 110 = .ok (.lreturn, 1) := by decide +kernel
set_option maxRecDepth 20000 in
theorem ggX2_saysNothingNew_X2_all : GoodIn wsX2_saysNothingNew wsX2_all := goodIn_r _ [6, 7, 19, 20, 21, 22, 23, 24] (by decide +kernel) (by decide +kernel)
set_option maxRecDepth 20000 in
theorem gX2_saysNothingNew_X2_all : GoodIn wsX2_saysNothingNew (wsV RX2 45 RX2 yX2_all wsX2_all) := goodIn_app (goodIn_of _ (by decide +kernel)) ggX2_saysNothingNew_X2_all
set_option maxRecDepth 20000 in
theorem ggX2_saysNothingNew_X2_wordOf : GoodIn wsX2_saysNothingNew wsX2_wordOf := goodIn_r _ [11, 12, 7, 13, 14, 15, 16, 17, 18, 19, 20, 21, 22, 23, 24] (by decide +kernel) (by decide +kernel)
set_option maxRecDepth 20000 in
theorem gX2_saysNothingNew_X2_wordOf : GoodIn wsX2_saysNothingNew (wsV RX2 49 RX2 yX2_wordOf wsX2_wordOf) := goodIn_app (goodIn_of _ (by decide +kernel)) ggX2_saysNothingNew_X2_wordOf
theorem dX2_saysNothingNew_0 : decode cX2_saysNothingNew 0 = .ok (.aload_n 0, 1) := by decide +kernel
theorem dX2_saysNothingNew_1 : decode cX2_saysNothingNew 1 = .ok (.invokevirtual 45, 3) := by decide +kernel
theorem dX2_saysNothingNew_4 : decode cX2_saysNothingNew 4 = .ok (.iconst 1, 1) := by decide +kernel
theorem dX2_saysNothingNew_5 : decode cX2_saysNothingNew 5 = .ok (.iload_n 1, 1) := by decide +kernel
theorem dX2_saysNothingNew_6 : decode cX2_saysNothingNew 6 = .ok (.ishl, 1) := by decide +kernel
theorem dX2_saysNothingNew_7 : decode cX2_saysNothingNew 7 = .ok (.iconst (-1), 1) := by decide +kernel
theorem dX2_saysNothingNew_8 : decode cX2_saysNothingNew 8 = .ok (.ixor, 1) := by decide +kernel
theorem dX2_saysNothingNew_9 : decode cX2_saysNothingNew 9 = .ok (.iand, 1) := by decide +kernel
theorem dX2_saysNothingNew_10 : decode cX2_saysNothingNew 10 = .ok (.istore_n 2, 1) := by decide +kernel
theorem dX2_saysNothingNew_11 : decode cX2_saysNothingNew 11 = .ok (.iconst 0, 1) := by decide +kernel
theorem dX2_saysNothingNew_12 : decode cX2_saysNothingNew 12 = .ok (.istore_n 3, 1) := by decide +kernel
theorem dX2_saysNothingNew_13 : decode cX2_saysNothingNew 13 = .ok (.bipush 64, 2) := by decide +kernel
theorem dX2_saysNothingNew_15 : decode cX2_saysNothingNew 15 = .ok (.iload_n 3, 1) := by decide +kernel
theorem dX2_saysNothingNew_16 : decode cX2_saysNothingNew 16 = .ok (.imul, 1) := by decide +kernel
theorem dX2_saysNothingNew_17 : decode cX2_saysNothingNew 17 = .ok (.aload_n 0, 1) := by decide +kernel
theorem dX2_saysNothingNew_18 : decode cX2_saysNothingNew 18 = .ok (.getfield 24, 3) := by decide +kernel
theorem dX2_saysNothingNew_21 : decode cX2_saysNothingNew 21 = .ok (.if_icmp .ge 32, 3) := by decide +kernel
theorem dX2_saysNothingNew_24 : decode cX2_saysNothingNew 24 = .ok (.aload_n 0, 1) := by decide +kernel
theorem dX2_saysNothingNew_25 : decode cX2_saysNothingNew 25 = .ok (.iload_n 3, 1) := by decide +kernel
theorem dX2_saysNothingNew_26 : decode cX2_saysNothingNew 26 = .ok (.i2l, 1) := by decide +kernel
theorem dX2_saysNothingNew_27 : decode cX2_saysNothingNew 27 = .ok (.iload_n 2, 1) := by decide +kernel
theorem dX2_saysNothingNew_28 : decode cX2_saysNothingNew 28 = .ok (.invokevirtual 49, 3) := by decide +kernel
theorem dX2_saysNothingNew_31 : decode cX2_saysNothingNew 31 = .ok (.aload_n 0, 1) := by decide +kernel
theorem dX2_saysNothingNew_32 : decode cX2_saysNothingNew 32 = .ok (.iload_n 3, 1) := by decide +kernel
theorem dX2_saysNothingNew_33 : decode cX2_saysNothingNew 33 = .ok (.i2l, 1) := by decide +kernel
theorem dX2_saysNothingNew_34 : decode cX2_saysNothingNew 34 = .ok (.aload_n 0, 1) := by decide +kernel
theorem dX2_saysNothingNew_35 : decode cX2_saysNothingNew 35 = .ok (.invokevirtual 45, 3) := by decide +kernel
theorem dX2_saysNothingNew_38 : decode cX2_saysNothingNew 38 = .ok (.invokevirtual 49, 3) := by decide +kernel
theorem dX2_saysNothingNew_41 : decode cX2_saysNothingNew 41 = .ok (.lcmp, 1) := by decide +kernel
theorem dX2_saysNothingNew_42 : decode cX2_saysNothingNew 42 = .ok (.ifCond .eq 5, 3) := by decide +kernel
theorem dX2_saysNothingNew_45 : decode cX2_saysNothingNew 45 = .ok (.iconst 0, 1) := by decide +kernel
theorem dX2_saysNothingNew_46 : decode cX2_saysNothingNew 46 = .ok (.ireturn, 1) := by decide +kernel
theorem dX2_saysNothingNew_47 : decode cX2_saysNothingNew 47 = .ok (.iinc 3 1, 3) := by decide +kernel
theorem dX2_saysNothingNew_50 : decode cX2_saysNothingNew 50 = .ok (.goto (-37), 3) := by decide +kernel
theorem dX2_saysNothingNew_53 : decode cX2_saysNothingNew 53 = .ok (.iconst 1, 1) := by decide +kernel
theorem dX2_saysNothingNew_54 : decode cX2_saysNothingNew 54 = .ok (.ireturn, 1) := by decide +kernel
set_option maxRecDepth 20000 in
theorem ggX2_leastEmptySet_X2_all : GoodIn wsX2_leastEmptySet wsX2_all := goodIn_r _ [7, 2, 40, 41, 42, 43, 44, 45] (by decide +kernel) (by decide +kernel)
set_option maxRecDepth 20000 in
theorem gX2_leastEmptySet_X2_all : GoodIn wsX2_leastEmptySet (wsV RX2 45 RX2 yX2_all wsX2_all) := goodIn_app (goodIn_of _ (by decide +kernel)) ggX2_leastEmptySet_X2_all
set_option maxRecDepth 20000 in
theorem ggX2_leastEmptySet_J6_bitCount_0f7a4 : GoodIn wsX2_leastEmptySet wsJ6_bitCount_0f7a4 := goodIn_r _ [11, 12, 13, 14] (by decide +kernel) (by decide +kernel)
set_option maxRecDepth 20000 in
theorem gX2_leastEmptySet_J6_bitCount_0f7a4 : GoodIn wsX2_leastEmptySet (va_wsS RX2 75 yJ6_bitCount_0f7a4 wsJ6_bitCount_0f7a4) := goodIn_app (goodIn_of _ (by decide +kernel)) ggX2_leastEmptySet_J6_bitCount_0f7a4
set_option maxRecDepth 20000 in
theorem ggX2_leastEmptySet_X2_leavesNothing : GoodIn wsX2_leastEmptySet wsX2_leavesNothing := goodIn_r _ [18, 19, 20, 21, 6, 22, 2, 23, 24, 25, 26, 27, 28, 29, 30, 31, 32, 33, 34, 35, 36, 37, 38, 39, 40, 41, 42, 43, 44, 45] (by decide +kernel) (by decide +kernel)
set_option maxRecDepth 20000 in
theorem gX2_leastEmptySet_X2_leavesNothing : GoodIn wsX2_leastEmptySet (wsV RX2 80 RX2 yX2_leavesNothing wsX2_leavesNothing) := goodIn_app (goodIn_of _ (by decide +kernel)) ggX2_leastEmptySet_X2_leavesNothing
theorem dX2_leastEmptySet_0 : decode cX2_leastEmptySet 0 = .ok (.aload_n 0, 1) := by decide +kernel
theorem dX2_leastEmptySet_1 : decode cX2_leastEmptySet 1 = .ok (.getfield 28, 3) := by decide +kernel
theorem dX2_leastEmptySet_4 : decode cX2_leastEmptySet 4 = .ok (.ifCond .le 6, 3) := by decide +kernel
theorem dX2_leastEmptySet_7 : decode cX2_leastEmptySet 7 = .ok (.bipush (-4), 2) := by decide +kernel
theorem dX2_leastEmptySet_9 : decode cX2_leastEmptySet 9 = .ok (.ireturn, 1) := by decide +kernel
theorem dX2_leastEmptySet_10 : decode cX2_leastEmptySet 10 = .ok (.iconst 1, 1) := by decide +kernel
theorem dX2_leastEmptySet_11 : decode cX2_leastEmptySet 11 = .ok (.istore_n 1, 1) := by decide +kernel
theorem dX2_leastEmptySet_12 : decode cX2_leastEmptySet 12 = .ok (.iload_n 1, 1) := by decide +kernel
theorem dX2_leastEmptySet_13 : decode cX2_leastEmptySet 13 = .ok (.aload_n 0, 1) := by decide +kernel
theorem dX2_leastEmptySet_14 : decode cX2_leastEmptySet 14 = .ok (.getfield 31, 3) := by decide +kernel
theorem dX2_leastEmptySet_17 : decode cX2_leastEmptySet 17 = .ok (.if_icmp .gt 43, 3) := by decide +kernel
theorem dX2_leastEmptySet_20 : decode cX2_leastEmptySet 20 = .ok (.iconst 1, 1) := by decide +kernel
theorem dX2_leastEmptySet_21 : decode cX2_leastEmptySet 21 = .ok (.istore_n 2, 1) := by decide +kernel
theorem dX2_leastEmptySet_22 : decode cX2_leastEmptySet 22 = .ok (.iload_n 2, 1) := by decide +kernel
theorem dX2_leastEmptySet_23 : decode cX2_leastEmptySet 23 = .ok (.aload_n 0, 1) := by decide +kernel
theorem dX2_leastEmptySet_24 : decode cX2_leastEmptySet 24 = .ok (.invokevirtual 45, 3) := by decide +kernel
theorem dX2_leastEmptySet_27 : decode cX2_leastEmptySet 27 = .ok (.if_icmp .gt 27, 3) := by decide +kernel
theorem dX2_leastEmptySet_30 : decode cX2_leastEmptySet 30 = .ok (.iload_n 2, 1) := by decide +kernel
theorem dX2_leastEmptySet_31 : decode cX2_leastEmptySet 31 = .ok (.invokestatic 75, 3) := by decide +kernel
theorem dX2_leastEmptySet_34 : decode cX2_leastEmptySet 34 = .ok (.iload_n 1, 1) := by decide +kernel
theorem dX2_leastEmptySet_35 : decode cX2_leastEmptySet 35 = .ok (.if_icmp .ne 13, 3) := by decide +kernel
theorem dX2_leastEmptySet_38 : decode cX2_leastEmptySet 38 = .ok (.aload_n 0, 1) := by decide +kernel
theorem dX2_leastEmptySet_39 : decode cX2_leastEmptySet 39 = .ok (.iload_n 2, 1) := by decide +kernel
theorem dX2_leastEmptySet_40 : decode cX2_leastEmptySet 40 = .ok (.invokevirtual 80, 3) := by decide +kernel
theorem dX2_leastEmptySet_43 : decode cX2_leastEmptySet 43 = .ok (.ifCond .eq 5, 3) := by decide +kernel
theorem dX2_leastEmptySet_46 : decode cX2_leastEmptySet 46 = .ok (.iload_n 2, 1) := by decide +kernel
theorem dX2_leastEmptySet_47 : decode cX2_leastEmptySet 47 = .ok (.ireturn, 1) := by decide +kernel
theorem dX2_leastEmptySet_48 : decode cX2_leastEmptySet 48 = .ok (.iinc 2 1, 3) := by decide +kernel
theorem dX2_leastEmptySet_51 : decode cX2_leastEmptySet 51 = .ok (.goto (-29), 3) := by decide +kernel
theorem dX2_leastEmptySet_54 : decode cX2_leastEmptySet 54 = .ok (.iinc 1 1, 3) := by decide +kernel
theorem dX2_leastEmptySet_57 : decode cX2_leastEmptySet 57 = .ok (.goto (-45), 3) := by decide +kernel
theorem dX2_leastEmptySet_60 : decode cX2_leastEmptySet 60 = .ok (.bipush (-4), 2) := by decide +kernel
theorem dX2_leastEmptySet_62 : decode cX2_leastEmptySet 62 = .ok (.ireturn, 1) := by decide +kernel
set_option maxRecDepth 20000 in
theorem ggX2_leavesNothing_X2_periodOf : GoodIn wsX2_leavesNothing wsX2_periodOf := goodIn_r _ [5, 6, 7, 8, 9, 10, 11, 12, 13, 14, 24, 25, 26, 27, 28, 29] (by decide +kernel) (by decide +kernel)
set_option maxRecDepth 20000 in
theorem gX2_leavesNothing_X2_periodOf : GoodIn wsX2_leavesNothing (wsV RX2 83 RX2 yX2_periodOf wsX2_periodOf) := goodIn_app (goodIn_of _ (by decide +kernel)) ggX2_leavesNothing_X2_periodOf
set_option maxRecDepth 20000 in
theorem ggX2_leavesNothing_X2_wordOf : GoodIn wsX2_leavesNothing wsX2_wordOf := goodIn_r _ [18, 19, 6, 20, 7, 21, 22, 10, 23, 24, 25, 26, 27, 28, 29] (by decide +kernel) (by decide +kernel)
set_option maxRecDepth 20000 in
theorem gX2_leavesNothing_X2_wordOf : GoodIn wsX2_leavesNothing (wsV RX2 49 RX2 yX2_wordOf wsX2_wordOf) := goodIn_app (goodIn_of _ (by decide +kernel)) ggX2_leavesNothing_X2_wordOf
theorem dX2_leavesNothing_0 : decode cX2_leavesNothing 0 = .ok (.aload_n 0, 1) := by decide +kernel
theorem dX2_leavesNothing_1 : decode cX2_leavesNothing 1 = .ok (.iload_n 1, 1) := by decide +kernel
theorem dX2_leavesNothing_2 : decode cX2_leavesNothing 2 = .ok (.invokevirtual 83, 3) := by decide +kernel
theorem dX2_leavesNothing_5 : decode cX2_leavesNothing 5 = .ok (.istore_n 2, 1) := by decide +kernel
theorem dX2_leavesNothing_6 : decode cX2_leavesNothing 6 = .ok (.iconst 0, 1) := by decide +kernel
theorem dX2_leavesNothing_7 : decode cX2_leavesNothing 7 = .ok (.istore_n 3, 1) := by decide +kernel
theorem dX2_leavesNothing_8 : decode cX2_leavesNothing 8 = .ok (.bipush 64, 2) := by decide +kernel
theorem dX2_leavesNothing_10 : decode cX2_leavesNothing 10 = .ok (.iload_n 3, 1) := by decide +kernel
theorem dX2_leavesNothing_11 : decode cX2_leavesNothing 11 = .ok (.imul, 1) := by decide +kernel
theorem dX2_leavesNothing_12 : decode cX2_leavesNothing 12 = .ok (.iload_n 2, 1) := by decide +kernel
theorem dX2_leavesNothing_13 : decode cX2_leavesNothing 13 = .ok (.if_icmp .ge 23, 3) := by decide +kernel
theorem dX2_leavesNothing_16 : decode cX2_leavesNothing 16 = .ok (.aload_n 0, 1) := by decide +kernel
theorem dX2_leavesNothing_17 : decode cX2_leavesNothing 17 = .ok (.iload_n 3, 1) := by decide +kernel
theorem dX2_leavesNothing_18 : decode cX2_leavesNothing 18 = .ok (.i2l, 1) := by decide +kernel
theorem dX2_leavesNothing_19 : decode cX2_leavesNothing 19 = .ok (.iload_n 1, 1) := by decide +kernel
theorem dX2_leavesNothing_20 : decode cX2_leavesNothing 20 = .ok (.invokevirtual 49, 3) := by decide +kernel
theorem dX2_leavesNothing_23 : decode cX2_leavesNothing 23 = .ok (.lconst 0, 1) := by decide +kernel
theorem dX2_leavesNothing_24 : decode cX2_leavesNothing 24 = .ok (.lcmp, 1) := by decide +kernel
theorem dX2_leavesNothing_25 : decode cX2_leavesNothing 25 = .ok (.ifCond .eq 5, 3) := by decide +kernel
theorem dX2_leavesNothing_28 : decode cX2_leavesNothing 28 = .ok (.iconst 0, 1) := by decide +kernel
theorem dX2_leavesNothing_29 : decode cX2_leavesNothing 29 = .ok (.ireturn, 1) := by decide +kernel
theorem dX2_leavesNothing_30 : decode cX2_leavesNothing 30 = .ok (.iinc 3 1, 3) := by decide +kernel
theorem dX2_leavesNothing_33 : decode cX2_leavesNothing 33 = .ok (.goto (-25), 3) := by decide +kernel
theorem dX2_leavesNothing_36 : decode cX2_leavesNothing 36 = .ok (.iconst 1, 1) := by decide +kernel
theorem dX2_leavesNothing_37 : decode cX2_leavesNothing 37 = .ok (.ireturn, 1) := by decide +kernel
set_option maxRecDepth 20000 in
theorem ggX2_periodOf_X4_commonMultiple : GoodIn wsX2_periodOf wsX4_commonMultiple := goodIn_r _ [6, 7, 8, 5, 9] (by decide +kernel) (by decide +kernel)
set_option maxRecDepth 20000 in
theorem gX2_periodOf_X4_commonMultiple : GoodIn wsX2_periodOf (va_wsS RX2 86 yX4_commonMultiple wsX4_commonMultiple) := goodIn_app (goodIn_of _ (by decide +kernel)) ggX2_periodOf_X4_commonMultiple
theorem dX2_periodOf_0 : decode cX2_periodOf 0 = .ok (.iconst 1, 1) := by decide +kernel
theorem dX2_periodOf_1 : decode cX2_periodOf 1 = .ok (.istore_n 2, 1) := by decide +kernel
theorem dX2_periodOf_2 : decode cX2_periodOf 2 = .ok (.iconst 0, 1) := by decide +kernel
theorem dX2_periodOf_3 : decode cX2_periodOf 3 = .ok (.istore_n 3, 1) := by decide +kernel
theorem dX2_periodOf_4 : decode cX2_periodOf 4 = .ok (.iload_n 3, 1) := by decide +kernel
theorem dX2_periodOf_5 : decode cX2_periodOf 5 = .ok (.aload_n 0, 1) := by decide +kernel
theorem dX2_periodOf_6 : decode cX2_periodOf 6 = .ok (.getfield 31, 3) := by decide +kernel
theorem dX2_periodOf_9 : decode cX2_periodOf 9 = .ok (.if_icmp .ge 29, 3) := by decide +kernel
theorem dX2_periodOf_12 : decode cX2_periodOf 12 = .ok (.iload_n 1, 1) := by decide +kernel
theorem dX2_periodOf_13 : decode cX2_periodOf 13 = .ok (.iload_n 3, 1) := by decide +kernel
theorem dX2_periodOf_14 : decode cX2_periodOf 14 = .ok (.ishr, 1) := by decide +kernel
theorem dX2_periodOf_15 : decode cX2_periodOf 15 = .ok (.iconst 1, 1) := by decide +kernel
theorem dX2_periodOf_16 : decode cX2_periodOf 16 = .ok (.iand, 1) := by decide +kernel
theorem dX2_periodOf_17 : decode cX2_periodOf 17 = .ok (.iconst 1, 1) := by decide +kernel
theorem dX2_periodOf_18 : decode cX2_periodOf 18 = .ok (.if_icmp .ne 14, 3) := by decide +kernel
theorem dX2_periodOf_21 : decode cX2_periodOf 21 = .ok (.iload_n 2, 1) := by decide +kernel
theorem dX2_periodOf_22 : decode cX2_periodOf 22 = .ok (.aload_n 0, 1) := by decide +kernel
theorem dX2_periodOf_23 : decode cX2_periodOf 23 = .ok (.getfield 16, 3) := by decide +kernel
theorem dX2_periodOf_26 : decode cX2_periodOf 26 = .ok (.iload_n 3, 1) := by decide +kernel
theorem dX2_periodOf_27 : decode cX2_periodOf 27 = .ok (.iaload, 1) := by decide +kernel
theorem dX2_periodOf_28 : decode cX2_periodOf 28 = .ok (.invokestatic 86, 3) := by decide +kernel
theorem dX2_periodOf_31 : decode cX2_periodOf 31 = .ok (.istore_n 2, 1) := by decide +kernel
theorem dX2_periodOf_32 : decode cX2_periodOf 32 = .ok (.iinc 3 1, 3) := by decide +kernel
theorem dX2_periodOf_35 : decode cX2_periodOf 35 = .ok (.goto (-31), 3) := by decide +kernel
theorem dX2_periodOf_38 : decode cX2_periodOf 38 = .ok (.iload_n 2, 1) := by decide +kernel
theorem dX2_periodOf_39 : decode cX2_periodOf 39 = .ok (.ireturn, 1) := by decide +kernel
theorem dX3_init_0 : decode cX3_init 0 = .ok (.aload_n 0, 1) := by decide +kernel
theorem dX3_init_1 : decode cX3_init 1 = .ok (.invokespecial 3, 3) := by decide +kernel
theorem dX3_init_4 : decode cX3_init 4 = .ok (.aload_n 0, 1) := by decide +kernel
theorem dX3_init_5 : decode cX3_init 5 = .ok (.sipush 782, 3) := by decide +kernel
theorem dX3_init_8 : decode cX3_init 8 = .ok (.newarray .long, 2) := by decide +kernel
theorem dX3_init_10 : decode cX3_init 10 = .ok (.putfield 9, 3) := by decide +kernel
theorem dX3_init_13 : decode cX3_init 13 = .ok (.return_, 1) := by decide +kernel
theorem dX3_wipeAll_0 : decode cX3_wipeAll 0 = .ok (.iconst 0, 1) := by decide +kernel
theorem dX3_wipeAll_1 : decode cX3_wipeAll 1 = .ok (.istore_n 1, 1) := by decide +kernel
theorem dX3_wipeAll_2 : decode cX3_wipeAll 2 = .ok (.iload_n 1, 1) := by decide +kernel
theorem dX3_wipeAll_3 : decode cX3_wipeAll 3 = .ok (.aload_n 0, 1) := by decide +kernel
theorem dX3_wipeAll_4 : decode cX3_wipeAll 4 = .ok (.getfield 9, 3) := by decide +kernel
theorem dX3_wipeAll_7 : decode cX3_wipeAll 7 = .ok (.arraylength, 1) := by decide +kernel
theorem dX3_wipeAll_8 : decode cX3_wipeAll 8 = .ok (.if_icmp .ge 16, 3) := by decide +kernel
theorem dX3_wipeAll_11 : decode cX3_wipeAll 11 = .ok (.aload_n 0, 1) := by decide +kernel
theorem dX3_wipeAll_12 : decode cX3_wipeAll 12 = .ok (.getfield 9, 3) := by decide +kernel
theorem dX3_wipeAll_15 : decode cX3_wipeAll 15 = .ok (.iload_n 1, 1) := by decide +kernel
theorem dX3_wipeAll_16 : decode cX3_wipeAll 16 = .ok (.lconst 0, 1) := by decide +kernel
theorem dX3_wipeAll_17 : decode cX3_wipeAll 17 = .ok (.lastore, 1) := by decide +kernel
theorem dX3_wipeAll_18 : decode cX3_wipeAll 18 = .ok (.iinc 1 1, 3) := by decide +kernel
theorem dX3_wipeAll_21 : decode cX3_wipeAll 21 = .ok (.goto (-19), 3) := by decide +kernel
theorem dX3_wipeAll_24 : decode cX3_wipeAll 24 = .ok (.return_, 1) := by decide +kernel
theorem dX3_put_0 : decode cX3_put 0 = .ok (.iload_n 1, 1) := by decide +kernel
theorem dX3_put_1 : decode cX3_put 1 = .ok (.bipush 6, 2) := by decide +kernel
theorem dX3_put_3 : decode cX3_put 3 = .ok (.ishr, 1) := by decide +kernel
theorem dX3_put_4 : decode cX3_put 4 = .ok (.istore_n 2, 1) := by decide +kernel
theorem dX3_put_5 : decode cX3_put 5 = .ok (.iload_n 2, 1) := by decide +kernel
theorem dX3_put_6 : decode cX3_put 6 = .ok (.ifCond .lt 27, 3) := by decide +kernel
theorem dX3_put_9 : decode cX3_put 9 = .ok (.iload_n 2, 1) := by decide +kernel
theorem dX3_put_10 : decode cX3_put 10 = .ok (.aload_n 0, 1) := by decide +kernel
theorem dX3_put_11 : decode cX3_put 11 = .ok (.getfield 9, 3) := by decide +kernel
theorem dX3_put_14 : decode cX3_put 14 = .ok (.arraylength, 1) := by decide +kernel
theorem dX3_put_15 : decode cX3_put 15 = .ok (.if_icmp .ge 18, 3) := by decide +kernel
theorem dX3_put_18 : decode cX3_put 18 = .ok (.aload_n 0, 1) := by decide +kernel
theorem dX3_put_19 : decode cX3_put 19 = .ok (.getfield 9, 3) := by decide +kernel
theorem dX3_put_22 : decode cX3_put 22 = .ok (.iload_n 2, 1) := by decide +kernel
theorem dX3_put_23 : decode cX3_put 23 = .ok (.dup2, 1) := by decide +kernel
theorem dX3_put_24 : decode cX3_put 24 = .ok (.laload, 1) := by decide +kernel
theorem dX3_put_25 : decode cX3_put 25 = .ok (.lconst 1, 1) := by decide +kernel
theorem dX3_put_26 : decode cX3_put 26 = .ok (.iload_n 1, 1) := by decide +kernel
theorem dX3_put_27 : decode cX3_put 27 = .ok (.bipush 63, 2) := by decide +kernel
theorem dX3_put_29 : decode cX3_put 29 = .ok (.iand, 1) := by decide +kernel
theorem dX3_put_30 : decode cX3_put 30 = .ok (.lshl, 1) := by decide +kernel
theorem dX3_put_31 : decode cX3_put 31 = .ok (.lor, 1) := by decide +kernel
theorem dX3_put_32 : decode cX3_put 32 = .ok (.lastore, 1) := by decide +kernel
theorem dX3_put_33 : decode cX3_put 33 = .ok (.return_, 1) := by decide +kernel
theorem dX3_has_0 : decode cX3_has 0 = .ok (.iload_n 1, 1) := by decide +kernel
theorem dX3_has_1 : decode cX3_has 1 = .ok (.bipush 6, 2) := by decide +kernel
theorem dX3_has_3 : decode cX3_has 3 = .ok (.ishr, 1) := by decide +kernel
theorem dX3_has_4 : decode cX3_has 4 = .ok (.istore_n 2, 1) := by decide +kernel
theorem dX3_has_5 : decode cX3_has 5 = .ok (.iload_n 2, 1) := by decide +kernel
theorem dX3_has_6 : decode cX3_has 6 = .ok (.ifCond .lt 34, 3) := by decide +kernel
theorem dX3_has_9 : decode cX3_has 9 = .ok (.iload_n 2, 1) := by decide +kernel
theorem dX3_has_10 : decode cX3_has 10 = .ok (.aload_n 0, 1) := by decide +kernel
theorem dX3_has_11 : decode cX3_has 11 = .ok (.getfield 9, 3) := by decide +kernel
theorem dX3_has_14 : decode cX3_has 14 = .ok (.arraylength, 1) := by decide +kernel
theorem dX3_has_15 : decode cX3_has 15 = .ok (.if_icmp .ge 25, 3) := by decide +kernel
theorem dX3_has_18 : decode cX3_has 18 = .ok (.aload_n 0, 1) := by decide +kernel
theorem dX3_has_19 : decode cX3_has 19 = .ok (.getfield 9, 3) := by decide +kernel
theorem dX3_has_22 : decode cX3_has 22 = .ok (.iload_n 2, 1) := by decide +kernel
theorem dX3_has_23 : decode cX3_has 23 = .ok (.laload, 1) := by decide +kernel
theorem dX3_has_24 : decode cX3_has 24 = .ok (.iload_n 1, 1) := by decide +kernel
theorem dX3_has_25 : decode cX3_has 25 = .ok (.bipush 63, 2) := by decide +kernel
theorem dX3_has_27 : decode cX3_has 27 = .ok (.iand, 1) := by decide +kernel
theorem dX3_has_28 : decode cX3_has 28 = .ok (.lshr, 1) := by decide +kernel
theorem dX3_has_29 : decode cX3_has 29 = .ok (.lconst 1, 1) := by decide +kernel
theorem dX3_has_30 : decode cX3_has 30 = .ok (.land, 1) := by decide +kernel
theorem dX3_has_31 : decode cX3_has 31 = .ok (.lconst 1, 1) := by decide +kernel
theorem dX3_has_32 : decode cX3_has 32 = .ok (.lcmp, 1) := by decide +kernel
theorem dX3_has_33 : decode cX3_has 33 = .ok (.ifCond .ne 7, 3) := by decide +kernel
theorem dX3_has_36 : decode cX3_has 36 = .ok (.iconst 1, 1) := by decide +kernel
theorem dX3_has_37 : decode cX3_has 37 = .ok (.goto 4, 3) := by decide +kernel
theorem dX3_has_40 : decode cX3_has 40 = .ok (.iconst 0, 1) := by decide +kernel
theorem dX3_has_41 : decode cX3_has 41 = .ok (.ireturn, 1) := by decide +kernel
set_option maxRecDepth 20000 in
theorem ggX3_pick_X3_has : GoodIn wsX3_pick wsX3_has := goodIn_r _ [5, 6, 7] (by decide +kernel) (by decide +kernel)
set_option maxRecDepth 20000 in
theorem gX3_pick_X3_has : GoodIn wsX3_pick (wsV RX3 15 RX3 yX3_has wsX3_has) := goodIn_app (goodIn_of _ (by decide +kernel)) ggX3_pick_X3_has
theorem dX3_pick_0 : decode cX3_pick 0 = .ok (.iconst 0, 1) := by decide +kernel
theorem dX3_pick_1 : decode cX3_pick 1 = .ok (.istore_n 3, 1) := by decide +kernel
theorem dX3_pick_2 : decode cX3_pick 2 = .ok (.iconst 0, 1) := by decide +kernel
theorem dX3_pick_3 : decode cX3_pick 3 = .ok (.istore 4, 2) := by decide +kernel
theorem dX3_pick_5 : decode cX3_pick 5 = .ok (.iload 4, 2) := by decide +kernel
theorem dX3_pick_7 : decode cX3_pick 7 = .ok (.iload_n 2, 1) := by decide +kernel
theorem dX3_pick_8 : decode cX3_pick 8 = .ok (.if_icmp .ge 29, 3) := by decide +kernel
theorem dX3_pick_11 : decode cX3_pick 11 = .ok (.aload_n 0, 1) := by decide +kernel
theorem dX3_pick_12 : decode cX3_pick 12 = .ok (.iload 4, 2) := by decide +kernel
theorem dX3_pick_14 : decode cX3_pick 14 = .ok (.invokevirtual 15, 3) := by decide +kernel
theorem dX3_pick_17 : decode cX3_pick 17 = .ok (.ifCond .eq 14, 3) := by decide +kernel
theorem dX3_pick_20 : decode cX3_pick 20 = .ok (.iload_n 3, 1) := by decide +kernel
theorem dX3_pick_21 : decode cX3_pick 21 = .ok (.iload_n 1, 1) := by decide +kernel
theorem dX3_pick_22 : decode cX3_pick 22 = .ok (.if_icmp .ne 6, 3) := by decide +kernel
theorem dX3_pick_25 : decode cX3_pick 25 = .ok (.iload 4, 2) := by decide +kernel
theorem dX3_pick_27 : decode cX3_pick 27 = .ok (.ireturn, 1) := by decide +kernel
theorem dX3_pick_28 : decode cX3_pick 28 = .ok (.iinc 3 1, 3) := by decide +kernel
theorem dX3_pick_31 : decode cX3_pick 31 = .ok (.iinc 4 1, 3) := by decide +kernel
theorem dX3_pick_34 : decode cX3_pick 34 = .ok (.goto (-29), 3) := by decide +kernel
theorem dX3_pick_37 : decode cX3_pick 37 = .ok (.bipush (-4), 2) := by decide +kernel
theorem dX3_pick_39 : decode cX3_pick 39 = .ok (.ireturn, 1) := by decide +kernel
theorem dX4_rest_0 : decode cX4_rest 0 = .ok (.iload_n 2, 1) := by decide +kernel
theorem dX4_rest_1 : decode cX4_rest 1 = .ok (.iconst 1, 1) := by decide +kernel
theorem dX4_rest_2 : decode cX4_rest 2 = .ok (.if_icmp .ge 7, 3) := by decide +kernel
theorem dX4_rest_5 : decode cX4_rest 5 = .ok (.iconst 0, 1) := by decide +kernel
theorem dX4_rest_6 : decode cX4_rest 6 = .ok (.goto 8, 3) := by decide +kernel
theorem dX4_rest_9 : decode cX4_rest 9 = .ok (.lload_n 0, 1) := by decide +kernel
theorem dX4_rest_10 : decode cX4_rest 10 = .ok (.iload_n 2, 1) := by decide +kernel
theorem dX4_rest_11 : decode cX4_rest 11 = .ok (.i2l, 1) := by decide +kernel
theorem dX4_rest_12 : decode cX4_rest 12 = .ok (.lrem, 1) := by decide +kernel
theorem dX4_rest_13 : decode cX4_rest 13 = .ok (.l2i, 1) := by decide +kernel
theorem dX4_rest_14 : decode cX4_rest 14 = .ok (.ireturn, 1) := by decide +kernel
theorem dX4_raise_0 : decode cX4_raise 0 = .ok (.iload 4, 2) := by decide +kernel
theorem dX4_raise_2 : decode cX4_raise 2 = .ok (.iconst 1, 1) := by decide +kernel
theorem dX4_raise_3 : decode cX4_raise 3 = .ok (.if_icmp .ge 5, 3) := by decide +kernel
theorem dX4_raise_6 : decode cX4_raise 6 = .ok (.iconst 0, 1) := by decide +kernel
theorem dX4_raise_7 : decode cX4_raise 7 = .ok (.ireturn, 1) := by decide +kernel
theorem dX4_raise_8 : decode cX4_raise 8 = .ok (.iconst 1, 1) := by decide +kernel
theorem dX4_raise_9 : decode cX4_raise 9 = .ok (.iload 4, 2) := by decide +kernel
theorem dX4_raise_11 : decode cX4_raise 11 = .ok (.irem, 1) := by decide +kernel
theorem dX4_raise_12 : decode cX4_raise 12 = .ok (.i2l, 1) := by decide +kernel
theorem dX4_raise_13 : decode cX4_raise 13 = .ok (.lstore 5, 2) := by decide +kernel
theorem dX4_raise_15 : decode cX4_raise 15 = .ok (.lload_n 0, 1) := by decide +kernel
theorem dX4_raise_16 : decode cX4_raise 16 = .ok (.iload 4, 2) := by decide +kernel
theorem dX4_raise_18 : decode cX4_raise 18 = .ok (.i2l, 1) := by decide +kernel
theorem dX4_raise_19 : decode cX4_raise 19 = .ok (.lrem, 1) := by decide +kernel
theorem dX4_raise_20 : decode cX4_raise 20 = .ok (.lstore 7, 2) := by decide +kernel
theorem dX4_raise_22 : decode cX4_raise 22 = .ok (.lload_n 2, 1) := by decide +kernel
theorem dX4_raise_23 : decode cX4_raise 23 = .ok (.lstore 9, 2) := by decide +kernel
theorem dX4_raise_25 : decode cX4_raise 25 = .ok (.iconst 0, 1) := by decide +kernel
theorem dX4_raise_26 : decode cX4_raise 26 = .ok (.istore 11, 2) := by decide +kernel
theorem dX4_raise_28 : decode cX4_raise 28 = .ok (.iload 11, 2) := by decide +kernel
theorem dX4_raise_30 : decode cX4_raise 30 = .ok (.bipush 63, 2) := by decide +kernel
theorem dX4_raise_32 : decode cX4_raise 32 = .ok (.if_icmp .ge 53, 3) := by decide +kernel
theorem dX4_raise_35 : decode cX4_raise 35 = .ok (.lload 9, 2) := by decide +kernel
theorem dX4_raise_37 : decode cX4_raise 37 = .ok (.lconst 0, 1) := by decide +kernel
theorem dX4_raise_38 : decode cX4_raise 38 = .ok (.lcmp, 1) := by decide +kernel
theorem dX4_raise_39 : decode cX4_raise 39 = .ok (.ifCond .le 46, 3) := by decide +kernel
theorem dX4_raise_42 : decode cX4_raise 42 = .ok (.lload 9, 2) := by decide +kernel
theorem dX4_raise_44 : decode cX4_raise 44 = .ok (.lconst 1, 1) := by decide +kernel
theorem dX4_raise_45 : decode cX4_raise 45 = .ok (.land, 1) := by decide +kernel
theorem dX4_raise_46 : decode cX4_raise 46 = .ok (.lconst 1, 1) := by decide +kernel
theorem dX4_raise_47 : decode cX4_raise 47 = .ok (.lcmp, 1) := by decide +kernel
theorem dX4_raise_48 : decode cX4_raise 48 = .ok (.ifCond .ne 14, 3) := by decide +kernel
theorem dX4_raise_51 : decode cX4_raise 51 = .ok (.lload 5, 2) := by decide +kernel
theorem dX4_raise_53 : decode cX4_raise 53 = .ok (.lload 7, 2) := by decide +kernel
theorem dX4_raise_55 : decode cX4_raise 55 = .ok (.lmul, 1) := by decide +kernel
theorem dX4_raise_56 : decode cX4_raise 56 = .ok (.iload 4, 2) := by decide +kernel
theorem dX4_raise_58 : decode cX4_raise 58 = .ok (.i2l, 1) := by decide +kernel
theorem dX4_raise_59 : decode cX4_raise 59 = .ok (.lrem, 1) := by decide +kernel
theorem dX4_raise_60 : decode cX4_raise 60 = .ok (.lstore 5, 2) := by decide +kernel
theorem dX4_raise_62 : decode cX4_raise 62 = .ok (.lload 7, 2) := by decide +kernel
theorem dX4_raise_64 : decode cX4_raise 64 = .ok (.lload 7, 2) := by decide +kernel
theorem dX4_raise_66 : decode cX4_raise 66 = .ok (.lmul, 1) := by decide +kernel
theorem dX4_raise_67 : decode cX4_raise 67 = .ok (.iload 4, 2) := by decide +kernel
theorem dX4_raise_69 : decode cX4_raise 69 = .ok (.i2l, 1) := by decide +kernel
theorem dX4_raise_70 : decode cX4_raise 70 = .ok (.lrem, 1) := by decide +kernel
theorem dX4_raise_71 : decode cX4_raise 71 = .ok (.lstore 7, 2) := by decide +kernel
theorem dX4_raise_73 : decode cX4_raise 73 = .ok (.lload 9, 2) := by decide +kernel
theorem dX4_raise_75 : decode cX4_raise 75 = .ok (.iconst 1, 1) := by decide +kernel
theorem dX4_raise_76 : decode cX4_raise 76 = .ok (.lshr, 1) := by decide +kernel
theorem dX4_raise_77 : decode cX4_raise 77 = .ok (.lstore 9, 2) := by decide +kernel
theorem dX4_raise_79 : decode cX4_raise 79 = .ok (.iinc 11 1, 3) := by decide +kernel
theorem dX4_raise_82 : decode cX4_raise 82 = .ok (.goto (-54), 3) := by decide +kernel
theorem dX4_raise_85 : decode cX4_raise 85 = .ok (.lload 5, 2) := by decide +kernel
theorem dX4_raise_87 : decode cX4_raise 87 = .ok (.l2i, 1) := by decide +kernel
theorem dX4_raise_88 : decode cX4_raise 88 = .ok (.ireturn, 1) := by decide +kernel
theorem dX4_commonDivisor_0 : decode cX4_commonDivisor 0 = .ok (.iload_n 0, 1) := by decide +kernel
theorem dX4_commonDivisor_1 : decode cX4_commonDivisor 1 = .ok (.istore_n 2, 1) := by decide +kernel
theorem dX4_commonDivisor_2 : decode cX4_commonDivisor 2 = .ok (.iload_n 1, 1) := by decide +kernel
theorem dX4_commonDivisor_3 : decode cX4_commonDivisor 3 = .ok (.istore_n 3, 1) := by decide +kernel
theorem dX4_commonDivisor_4 : decode cX4_commonDivisor 4 = .ok (.iconst 0, 1) := by decide +kernel
theorem dX4_commonDivisor_5 : decode cX4_commonDivisor 5 = .ok (.istore 4, 2) := by decide +kernel
theorem dX4_commonDivisor_7 : decode cX4_commonDivisor 7 = .ok (.iload 4, 2) := by decide +kernel
theorem dX4_commonDivisor_9 : decode cX4_commonDivisor 9 = .ok (.bipush 64, 2) := by decide +kernel
theorem dX4_commonDivisor_11 : decode cX4_commonDivisor 11 = .ok (.if_icmp .ge 23, 3) := by decide +kernel
theorem dX4_commonDivisor_14 : decode cX4_commonDivisor 14 = .ok (.iload_n 3, 1) := by decide +kernel
theorem dX4_commonDivisor_15 : decode cX4_commonDivisor 15 = .ok (.ifCond .eq 19, 3) := by decide +kernel
theorem dX4_commonDivisor_18 : decode cX4_commonDivisor 18 = .ok (.iload_n 2, 1) := by decide +kernel
theorem dX4_commonDivisor_19 : decode cX4_commonDivisor 19 = .ok (.iload_n 3, 1) := by decide +kernel
theorem dX4_commonDivisor_20 : decode cX4_commonDivisor 20 = .ok (.irem, 1) := by decide +kernel
theorem dX4_commonDivisor_21 : decode cX4_commonDivisor 21 = .ok (.istore 5, 2) := by decide +kernel
theorem dX4_commonDivisor_23 : decode cX4_commonDivisor 23 = .ok (.iload_n 3, 1) := by decide +kernel
theorem dX4_commonDivisor_24 : decode cX4_commonDivisor 24 = .ok (.istore_n 2, 1) := by decide +kernel
theorem dX4_commonDivisor_25 : decode cX4_commonDivisor 25 = .ok (.iload 5, 2) := by decide +kernel
theorem dX4_commonDivisor_27 : decode cX4_commonDivisor 27 = .ok (.istore_n 3, 1) := by decide +kernel
theorem dX4_commonDivisor_28 : decode cX4_commonDivisor 28 = .ok (.iinc 4 1, 3) := by decide +kernel
theorem dX4_commonDivisor_31 : decode cX4_commonDivisor 31 = .ok (.goto (-24), 3) := by decide +kernel
theorem dX4_commonDivisor_34 : decode cX4_commonDivisor 34 = .ok (.iload_n 2, 1) := by decide +kernel
theorem dX4_commonDivisor_35 : decode cX4_commonDivisor 35 = .ok (.ireturn, 1) := by decide +kernel
set_option maxRecDepth 20000 in
theorem ggX4_commonMultiple_X4_commonDivisor : GoodIn wsX4_commonMultiple wsX4_commonDivisor := goodIn_r _ [4] (by decide +kernel) (by decide +kernel)
set_option maxRecDepth 20000 in
theorem gX4_commonMultiple_X4_commonDivisor : GoodIn wsX4_commonMultiple (va_wsS RX4 7 yX4_commonDivisor wsX4_commonDivisor) := goodIn_app (goodIn_of _ (by decide +kernel)) ggX4_commonMultiple_X4_commonDivisor
theorem dX4_commonMultiple_0 : decode cX4_commonMultiple 0 = .ok (.iload_n 0, 1) := by decide +kernel
theorem dX4_commonMultiple_1 : decode cX4_commonMultiple 1 = .ok (.iload_n 1, 1) := by decide +kernel
theorem dX4_commonMultiple_2 : decode cX4_commonMultiple 2 = .ok (.invokestatic 7, 3) := by decide +kernel
theorem dX4_commonMultiple_5 : decode cX4_commonMultiple 5 = .ok (.istore_n 2, 1) := by decide +kernel
theorem dX4_commonMultiple_6 : decode cX4_commonMultiple 6 = .ok (.iload_n 2, 1) := by decide +kernel
theorem dX4_commonMultiple_7 : decode cX4_commonMultiple 7 = .ok (.iconst 1, 1) := by decide +kernel
theorem dX4_commonMultiple_8 : decode cX4_commonMultiple 8 = .ok (.if_icmp .ge 7, 3) := by decide +kernel
theorem dX4_commonMultiple_11 : decode cX4_commonMultiple 11 = .ok (.iconst 0, 1) := by decide +kernel
theorem dX4_commonMultiple_12 : decode cX4_commonMultiple 12 = .ok (.goto 8, 3) := by decide +kernel
theorem dX4_commonMultiple_15 : decode cX4_commonMultiple 15 = .ok (.iload_n 0, 1) := by decide +kernel
theorem dX4_commonMultiple_16 : decode cX4_commonMultiple 16 = .ok (.iload_n 2, 1) := by decide +kernel
theorem dX4_commonMultiple_17 : decode cX4_commonMultiple 17 = .ok (.idiv, 1) := by decide +kernel
theorem dX4_commonMultiple_18 : decode cX4_commonMultiple 18 = .ok (.iload_n 1, 1) := by decide +kernel
theorem dX4_commonMultiple_19 : decode cX4_commonMultiple 19 = .ok (.imul, 1) := by decide +kernel
theorem dX4_commonMultiple_20 : decode cX4_commonMultiple 20 = .ok (.ireturn, 1) := by decide +kernel
theorem dX4_isPrime_0 : decode cX4_isPrime 0 = .ok (.iconst 2, 1) := by decide +kernel
theorem dX4_isPrime_1 : decode cX4_isPrime 1 = .ok (.istore_n 1, 1) := by decide +kernel
theorem dX4_isPrime_2 : decode cX4_isPrime 2 = .ok (.iload_n 1, 1) := by decide +kernel
theorem dX4_isPrime_3 : decode cX4_isPrime 3 = .ok (.sipush 1000, 3) := by decide +kernel
theorem dX4_isPrime_6 : decode cX4_isPrime 6 = .ok (.if_icmp .ge 24, 3) := by decide +kernel
theorem dX4_isPrime_9 : decode cX4_isPrime 9 = .ok (.iload_n 1, 1) := by decide +kernel
theorem dX4_isPrime_10 : decode cX4_isPrime 10 = .ok (.iload_n 1, 1) := by decide +kernel
theorem dX4_isPrime_11 : decode cX4_isPrime 11 = .ok (.imul, 1) := by decide +kernel
theorem dX4_isPrime_12 : decode cX4_isPrime 12 = .ok (.iload_n 0, 1) := by decide +kernel
theorem dX4_isPrime_13 : decode cX4_isPrime 13 = .ok (.if_icmp .gt 17, 3) := by decide +kernel
theorem dX4_isPrime_16 : decode cX4_isPrime 16 = .ok (.iload_n 0, 1) := by decide +kernel
theorem dX4_isPrime_17 : decode cX4_isPrime 17 = .ok (.iload_n 1, 1) := by decide +kernel
theorem dX4_isPrime_18 : decode cX4_isPrime 18 = .ok (.irem, 1) := by decide +kernel
theorem dX4_isPrime_19 : decode cX4_isPrime 19 = .ok (.ifCond .ne 5, 3) := by decide +kernel
theorem dX4_isPrime_22 : decode cX4_isPrime 22 = .ok (.iconst 0, 1) := by decide +kernel
theorem dX4_isPrime_23 : decode cX4_isPrime 23 = .ok (.ireturn, 1) := by decide +kernel
theorem dX4_isPrime_24 : decode cX4_isPrime 24 = .ok (.iinc 1 1, 3) := by decide +kernel
theorem dX4_isPrime_27 : decode cX4_isPrime 27 = .ok (.goto (-25), 3) := by decide +kernel
theorem dX4_isPrime_30 : decode cX4_isPrime 30 = .ok (.iload_n 0, 1) := by decide +kernel
theorem dX4_isPrime_31 : decode cX4_isPrime 31 = .ok (.iconst 1, 1) := by decide +kernel
theorem dX4_isPrime_32 : decode cX4_isPrime 32 = .ok (.if_icmp .le 7, 3) := by decide +kernel
theorem dX4_isPrime_35 : decode cX4_isPrime 35 = .ok (.iconst 1, 1) := by decide +kernel
theorem dX4_isPrime_36 : decode cX4_isPrime 36 = .ok (.goto 4, 3) := by decide +kernel
theorem dX4_isPrime_39 : decode cX4_isPrime 39 = .ok (.iconst 0, 1) := by decide +kernel
theorem dX4_isPrime_40 : decode cX4_isPrime 40 = .ok (.ireturn, 1) := by decide +kernel
theorem dX4_twosOf_0 : decode cX4_twosOf 0 = .ok (.iload_n 0, 1) := by decide +kernel
theorem dX4_twosOf_1 : decode cX4_twosOf 1 = .ok (.istore_n 1, 1) := by decide +kernel
theorem dX4_twosOf_2 : decode cX4_twosOf 2 = .ok (.iconst 0, 1) := by decide +kernel
theorem dX4_twosOf_3 : decode cX4_twosOf 3 = .ok (.istore_n 2, 1) := by decide +kernel
theorem dX4_twosOf_4 : decode cX4_twosOf 4 = .ok (.iload_n 2, 1) := by decide +kernel
theorem dX4_twosOf_5 : decode cX4_twosOf 5 = .ok (.bipush 31, 2) := by decide +kernel
theorem dX4_twosOf_7 : decode cX4_twosOf 7 = .ok (.if_icmp .ge 21, 3) := by decide +kernel
theorem dX4_twosOf_10 : decode cX4_twosOf 10 = .ok (.iload_n 1, 1) := by decide +kernel
theorem dX4_twosOf_11 : decode cX4_twosOf 11 = .ok (.iconst 2, 1) := by decide +kernel
theorem dX4_twosOf_12 : decode cX4_twosOf 12 = .ok (.irem, 1) := by decide +kernel
theorem dX4_twosOf_13 : decode cX4_twosOf 13 = .ok (.ifCond .eq 5, 3) := by decide +kernel
theorem dX4_twosOf_16 : decode cX4_twosOf 16 = .ok (.iload_n 2, 1) := by decide +kernel
theorem dX4_twosOf_17 : decode cX4_twosOf 17 = .ok (.ireturn, 1) := by decide +kernel
theorem dX4_twosOf_18 : decode cX4_twosOf 18 = .ok (.iload_n 1, 1) := by decide +kernel
theorem dX4_twosOf_19 : decode cX4_twosOf 19 = .ok (.iconst 2, 1) := by decide +kernel
theorem dX4_twosOf_20 : decode cX4_twosOf 20 = .ok (.idiv, 1) := by decide +kernel
theorem dX4_twosOf_21 : decode cX4_twosOf 21 = .ok (.istore_n 1, 1) := by decide +kernel
theorem dX4_twosOf_22 : decode cX4_twosOf 22 = .ok (.iinc 2 1, 3) := by decide +kernel
theorem dX4_twosOf_25 : decode cX4_twosOf 25 = .ok (.goto (-21), 3) := by decide +kernel
theorem dX4_twosOf_28 : decode cX4_twosOf 28 = .ok (.bipush 31, 2) := by decide +kernel
theorem dX4_twosOf_30 : decode cX4_twosOf 30 = .ok (.ireturn, 1) := by decide +kernel
set_option maxRecDepth 20000 in
theorem ggX4_oddPart_X4_twosOf : GoodIn wsX4_oddPart wsX4_twosOf := goodIn_r _ [4] (by decide +kernel) (by decide +kernel)
set_option maxRecDepth 20000 in
theorem gX4_oddPart_X4_twosOf : GoodIn wsX4_oddPart (va_wsS RX4 13 yX4_twosOf wsX4_twosOf) := goodIn_app (goodIn_of _ (by decide +kernel)) ggX4_oddPart_X4_twosOf
theorem dX4_oddPart_0 : decode cX4_oddPart 0 = .ok (.iload_n 0, 1) := by decide +kernel
theorem dX4_oddPart_1 : decode cX4_oddPart 1 = .ok (.iload_n 0, 1) := by decide +kernel
theorem dX4_oddPart_2 : decode cX4_oddPart 2 = .ok (.invokestatic 13, 3) := by decide +kernel
theorem dX4_oddPart_5 : decode cX4_oddPart 5 = .ok (.ishr, 1) := by decide +kernel
theorem dX4_oddPart_6 : decode cX4_oddPart 6 = .ok (.ireturn, 1) := by decide +kernel
set_option maxRecDepth 20000 in
theorem ggX4_looksStrongly_X4_twosOf : GoodIn wsX4_looksStrongly wsX4_twosOf := goodIn_r _ [4] (by decide +kernel) (by decide +kernel)
set_option maxRecDepth 20000 in
theorem gX4_looksStrongly_X4_twosOf : GoodIn wsX4_looksStrongly (va_wsS RX4 13 yX4_twosOf wsX4_twosOf) := goodIn_app (goodIn_of _ (by decide +kernel)) ggX4_looksStrongly_X4_twosOf
set_option maxRecDepth 20000 in
theorem ggX4_looksStrongly_X4_oddPart : GoodIn wsX4_looksStrongly wsX4_oddPart := goodIn_r _ [7, 1, 2, 3, 4] (by decide +kernel) (by decide +kernel)
set_option maxRecDepth 20000 in
theorem gX4_looksStrongly_X4_oddPart : GoodIn wsX4_looksStrongly (va_wsS RX4 17 yX4_oddPart wsX4_oddPart) := goodIn_app (goodIn_of _ (by decide +kernel)) ggX4_looksStrongly_X4_oddPart
set_option maxRecDepth 20000 in
theorem ggX4_looksStrongly_X4_raise : GoodIn wsX4_looksStrongly wsX4_raise := goodIn_r _ [10] (by decide +kernel) (by decide +kernel)
set_option maxRecDepth 20000 in
theorem gX4_looksStrongly_X4_raise : GoodIn wsX4_looksStrongly (va_wsS RX4 20 yX4_raise wsX4_raise) := goodIn_app (goodIn_of _ (by decide +kernel)) ggX4_looksStrongly_X4_raise
theorem dX4_looksStrongly_0 : decode cX4_looksStrongly 0 = .ok (.iload_n 0, 1) := by decide +kernel
theorem dX4_looksStrongly_1 : decode cX4_looksStrongly 1 = .ok (.iconst 1, 1) := by decide +kernel
theorem dX4_looksStrongly_2 : decode cX4_looksStrongly 2 = .ok (.isub, 1) := by decide +kernel
theorem dX4_looksStrongly_3 : decode cX4_looksStrongly 3 = .ok (.invokestatic 13, 3) := by decide +kernel
theorem dX4_looksStrongly_6 : decode cX4_looksStrongly 6 = .ok (.istore_n 2, 1) := by decide +kernel
theorem dX4_looksStrongly_7 : decode cX4_looksStrongly 7 = .ok (.iload_n 1, 1) := by decide +kernel
theorem dX4_looksStrongly_8 : decode cX4_looksStrongly 8 = .ok (.i2l, 1) := by decide +kernel
theorem dX4_looksStrongly_9 : decode cX4_looksStrongly 9 = .ok (.iload_n 0, 1) := by decide +kernel
theorem dX4_looksStrongly_10 : decode cX4_looksStrongly 10 = .ok (.iconst 1, 1) := by decide +kernel
theorem dX4_looksStrongly_11 : decode cX4_looksStrongly 11 = .ok (.isub, 1) := by decide +kernel
theorem dX4_looksStrongly_12 : decode cX4_looksStrongly 12 = .ok (.invokestatic 17, 3) := by decide +kernel
theorem dX4_looksStrongly_15 : decode cX4_looksStrongly 15 = .ok (.i2l, 1) := by decide +kernel
theorem dX4_looksStrongly_16 : decode cX4_looksStrongly 16 = .ok (.iload_n 0, 1) := by decide +kernel
theorem dX4_looksStrongly_17 : decode cX4_looksStrongly 17 = .ok (.invokestatic 20, 3) := by decide +kernel
theorem dX4_looksStrongly_20 : decode cX4_looksStrongly 20 = .ok (.i2l, 1) := by decide +kernel
theorem dX4_looksStrongly_21 : decode cX4_looksStrongly 21 = .ok (.lstore_n 3, 1) := by decide +kernel
theorem dX4_looksStrongly_22 : decode cX4_looksStrongly 22 = .ok (.lload_n 3, 1) := by decide +kernel
theorem dX4_looksStrongly_23 : decode cX4_looksStrongly 23 = .ok (.lconst 1, 1) := by decide +kernel
theorem dX4_looksStrongly_24 : decode cX4_looksStrongly 24 = .ok (.lcmp, 1) := by decide +kernel
theorem dX4_looksStrongly_25 : decode cX4_looksStrongly 25 = .ok (.ifCond .ne 5, 3) := by decide +kernel
theorem dX4_looksStrongly_28 : decode cX4_looksStrongly 28 = .ok (.iconst 1, 1) := by decide +kernel
theorem dX4_looksStrongly_29 : decode cX4_looksStrongly 29 = .ok (.ireturn, 1) := by decide +kernel
theorem dX4_looksStrongly_30 : decode cX4_looksStrongly 30 = .ok (.iconst 0, 1) := by decide +kernel
theorem dX4_looksStrongly_31 : decode cX4_looksStrongly 31 = .ok (.istore 5, 2) := by decide +kernel
theorem dX4_looksStrongly_33 : decode cX4_looksStrongly 33 = .ok (.iload 5, 2) := by decide +kernel
theorem dX4_looksStrongly_35 : decode cX4_looksStrongly 35 = .ok (.iload_n 2, 1) := by decide +kernel
theorem dX4_looksStrongly_36 : decode cX4_looksStrongly 36 = .ok (.if_icmp .ge 31, 3) := by decide +kernel
theorem dX4_looksStrongly_39 : decode cX4_looksStrongly 39 = .ok (.iload_n 0, 1) := by decide +kernel
theorem dX4_looksStrongly_40 : decode cX4_looksStrongly 40 = .ok (.ifCond .le 27, 3) := by decide +kernel
theorem dX4_looksStrongly_43 : decode cX4_looksStrongly 43 = .ok (.lload_n 3, 1) := by decide +kernel
theorem dX4_looksStrongly_44 : decode cX4_looksStrongly 44 = .ok (.iload_n 0, 1) := by decide +kernel
theorem dX4_looksStrongly_45 : decode cX4_looksStrongly 45 = .ok (.iconst 1, 1) := by decide +kernel
theorem dX4_looksStrongly_46 : decode cX4_looksStrongly 46 = .ok (.isub, 1) := by decide +kernel
theorem dX4_looksStrongly_47 : decode cX4_looksStrongly 47 = .ok (.i2l, 1) := by decide +kernel
theorem dX4_looksStrongly_48 : decode cX4_looksStrongly 48 = .ok (.lcmp, 1) := by decide +kernel
theorem dX4_looksStrongly_49 : decode cX4_looksStrongly 49 = .ok (.ifCond .ne 5, 3) := by decide +kernel
theorem dX4_looksStrongly_52 : decode cX4_looksStrongly 52 = .ok (.iconst 1, 1) := by decide +kernel
theorem dX4_looksStrongly_53 : decode cX4_looksStrongly 53 = .ok (.ireturn, 1) := by decide +kernel
theorem dX4_looksStrongly_54 : decode cX4_looksStrongly 54 = .ok (.lload_n 3, 1) := by decide +kernel
theorem dX4_looksStrongly_55 : decode cX4_looksStrongly 55 = .ok (.lload_n 3, 1) := by decide +kernel
theorem dX4_looksStrongly_56 : decode cX4_looksStrongly 56 = .ok (.lmul, 1) := by decide +kernel
theorem dX4_looksStrongly_57 : decode cX4_looksStrongly 57 = .ok (.iload_n 0, 1) := by decide +kernel
theorem dX4_looksStrongly_58 : decode cX4_looksStrongly 58 = .ok (.i2l, 1) := by decide +kernel
theorem dX4_looksStrongly_59 : decode cX4_looksStrongly 59 = .ok (.lrem, 1) := by decide +kernel
theorem dX4_looksStrongly_60 : decode cX4_looksStrongly 60 = .ok (.lstore_n 3, 1) := by decide +kernel
theorem dX4_looksStrongly_61 : decode cX4_looksStrongly 61 = .ok (.iinc 5 1, 3) := by decide +kernel
theorem dX4_looksStrongly_64 : decode cX4_looksStrongly 64 = .ok (.goto (-31), 3) := by decide +kernel
theorem dX4_looksStrongly_67 : decode cX4_looksStrongly 67 = .ok (.iconst 0, 1) := by decide +kernel
theorem dX4_looksStrongly_68 : decode cX4_looksStrongly 68 = .ok (.ireturn, 1) := by decide +kernel
theorem dX5_init_0 : decode cX5_init 0 = .ok (.aload_n 0, 1) := by decide +kernel
theorem dX5_init_1 : decode cX5_init 1 = .ok (.invokespecial 1, 3) := by decide +kernel
theorem dX5_init_4 : decode cX5_init 4 = .ok (.aload_n 0, 1) := by decide +kernel
theorem dX5_init_5 : decode cX5_init 5 = .ok (.sipush 200, 3) := by decide +kernel
theorem dX5_init_8 : decode cX5_init 8 = .ok (.newarray .int, 2) := by decide +kernel
theorem dX5_init_10 : decode cX5_init 10 = .ok (.putfield 7, 3) := by decide +kernel
theorem dX5_init_13 : decode cX5_init 13 = .ok (.return_, 1) := by decide +kernel
theorem dX5_hasRoom_0 : decode cX5_hasRoom 0 = .ok (.aload_n 0, 1) := by decide +kernel
theorem dX5_hasRoom_1 : decode cX5_hasRoom 1 = .ok (.getfield 13, 3) := by decide +kernel
theorem dX5_hasRoom_4 : decode cX5_hasRoom 4 = .ok (.iload_n 1, 1) := by decide +kernel
theorem dX5_hasRoom_5 : decode cX5_hasRoom 5 = .ok (.iadd, 1) := by decide +kernel
theorem dX5_hasRoom_6 : decode cX5_hasRoom 6 = .ok (.aload_n 0, 1) := by decide +kernel
theorem dX5_hasRoom_7 : decode cX5_hasRoom 7 = .ok (.getfield 7, 3) := by decide +kernel
theorem dX5_hasRoom_10 : decode cX5_hasRoom 10 = .ok (.arraylength, 1) := by decide +kernel
theorem dX5_hasRoom_11 : decode cX5_hasRoom 11 = .ok (.if_icmp .gt 7, 3) := by decide +kernel
theorem dX5_hasRoom_14 : decode cX5_hasRoom 14 = .ok (.iconst 1, 1) := by decide +kernel
theorem dX5_hasRoom_15 : decode cX5_hasRoom 15 = .ok (.goto 4, 3) := by decide +kernel
theorem dX5_hasRoom_18 : decode cX5_hasRoom 18 = .ok (.iconst 0, 1) := by decide +kernel
theorem dX5_hasRoom_19 : decode cX5_hasRoom 19 = .ok (.ireturn, 1) := by decide +kernel
theorem dX5_append_0 : decode cX5_append 0 = .ok (.iload_n 1, 1) := by decide +kernel
theorem dX5_append_1 : decode cX5_append 1 = .ok (.iconst 1, 1) := by decide +kernel
theorem dX5_append_2 : decode cX5_append 2 = .ok (.isub, 1) := by decide +kernel
theorem dX5_append_3 : decode cX5_append 3 = .ok (.istore 4, 2) := by decide +kernel
theorem dX5_append_5 : decode cX5_append 5 = .ok (.iload 4, 2) := by decide +kernel
theorem dX5_append_7 : decode cX5_append 7 = .ok (.ifCond .lt 52, 3) := by decide +kernel
theorem dX5_append_10 : decode cX5_append 10 = .ok (.aload_n 0, 1) := by decide +kernel
theorem dX5_append_11 : decode cX5_append 11 = .ok (.getfield 13, 3) := by decide +kernel
theorem dX5_append_14 : decode cX5_append 14 = .ok (.aload_n 0, 1) := by decide +kernel
theorem dX5_append_15 : decode cX5_append 15 = .ok (.getfield 7, 3) := by decide +kernel
theorem dX5_append_18 : decode cX5_append 18 = .ok (.arraylength, 1) := by decide +kernel
theorem dX5_append_19 : decode cX5_append 19 = .ok (.if_icmp .ge 40, 3) := by decide +kernel
theorem dX5_append_22 : decode cX5_append 22 = .ok (.aload_n 0, 1) := by decide +kernel
theorem dX5_append_23 : decode cX5_append 23 = .ok (.getfield 7, 3) := by decide +kernel
theorem dX5_append_26 : decode cX5_append 26 = .ok (.aload_n 0, 1) := by decide +kernel
theorem dX5_append_27 : decode cX5_append 27 = .ok (.getfield 13, 3) := by decide +kernel
theorem dX5_append_30 : decode cX5_append 30 = .ok (.lload_n 2, 1) := by decide +kernel
theorem dX5_append_31 : decode cX5_append 31 = .ok (.bipush 8, 2) := by decide +kernel
theorem dX5_append_33 : decode cX5_append 33 = .ok (.iload 4, 2) := by decide +kernel
theorem dX5_append_35 : decode cX5_append 35 = .ok (.imul, 1) := by decide +kernel
theorem dX5_append_36 : decode cX5_append 36 = .ok (.lushr, 1) := by decide +kernel
theorem dX5_append_37 : decode cX5_append 37 = .ok (.l2i, 1) := by decide +kernel
theorem dX5_append_38 : decode cX5_append 38 = .ok (.sipush 255, 3) := by decide +kernel
theorem dX5_append_41 : decode cX5_append 41 = .ok (.iand, 1) := by decide +kernel
theorem dX5_append_42 : decode cX5_append 42 = .ok (.iastore, 1) := by decide +kernel
theorem dX5_append_43 : decode cX5_append 43 = .ok (.aload_n 0, 1) := by decide +kernel
theorem dX5_append_44 : decode cX5_append 44 = .ok (.dup, 1) := by decide +kernel
theorem dX5_append_45 : decode cX5_append 45 = .ok (.getfield 13, 3) := by decide +kernel
theorem dX5_append_48 : decode cX5_append 48 = .ok (.iconst 1, 1) := by decide +kernel
theorem dX5_append_49 : decode cX5_append 49 = .ok (.iadd, 1) := by decide +kernel
theorem dX5_append_50 : decode cX5_append 50 = .ok (.putfield 13, 3) := by decide +kernel
theorem dX5_append_53 : decode cX5_append 53 = .ok (.iinc 4 (-1), 3) := by decide +kernel
theorem dX5_append_56 : decode cX5_append 56 = .ok (.goto (-51), 3) := by decide +kernel
theorem dX5_append_59 : decode cX5_append 59 = .ok (.return_, 1) := by decide +kernel
theorem dX5_at_0 : decode cX5_at 0 = .ok (.iload_n 1, 1) := by decide +kernel
theorem dX5_at_1 : decode cX5_at 1 = .ok (.ifCond .lt 20, 3) := by decide +kernel
theorem dX5_at_4 : decode cX5_at 4 = .ok (.iload_n 1, 1) := by decide +kernel
theorem dX5_at_5 : decode cX5_at 5 = .ok (.aload_n 0, 1) := by decide +kernel
theorem dX5_at_6 : decode cX5_at 6 = .ok (.getfield 13, 3) := by decide +kernel
theorem dX5_at_9 : decode cX5_at 9 = .ok (.if_icmp .ge 12, 3) := by decide +kernel
theorem dX5_at_12 : decode cX5_at 12 = .ok (.aload_n 0, 1) := by decide +kernel
theorem dX5_at_13 : decode cX5_at 13 = .ok (.getfield 7, 3) := by decide +kernel
theorem dX5_at_16 : decode cX5_at 16 = .ok (.iload_n 1, 1) := by decide +kernel
theorem dX5_at_17 : decode cX5_at 17 = .ok (.iaload, 1) := by decide +kernel
theorem dX5_at_18 : decode cX5_at 18 = .ok (.goto 4, 3) := by decide +kernel
theorem dX5_at_21 : decode cX5_at 21 = .ok (.iconst (-1), 1) := by decide +kernel
theorem dX5_at_22 : decode cX5_at 22 = .ok (.ireturn, 1) := by decide +kernel
set_option maxRecDepth 20000 in
theorem ggX6_init_X0_init : GoodIn wsX6_init wsX0_init := goodIn_r _ [29, 30, 2, 3, 25, 31, 32, 55, 56, 57] (by decide +kernel) (by decide +kernel)
set_option maxRecDepth 20000 in
theorem gX6_init_X0_init_n9 : GoodIn wsX6_init (wsX0_init) := ggX6_init_X0_init
set_option maxRecDepth 20000 in
theorem ggX6_init_X3_init : GoodIn wsX6_init wsX3_init := goodIn_r _ [34, 35, 2, 3, 36, 37, 68] (by decide +kernel) (by decide +kernel)
set_option maxRecDepth 20000 in
theorem gX6_init_X3_init_n21 : GoodIn wsX6_init (wsX3_init) := ggX6_init_X3_init
set_option maxRecDepth 20000 in
theorem ggX6_init_X5_init : GoodIn wsX6_init wsX5_init := goodIn_r _ [39, 40, 2, 3, 25, 41, 69, 70] (by decide +kernel) (by decide +kernel)
set_option maxRecDepth 20000 in
theorem gX6_init_X5_init_n28 : GoodIn wsX6_init (wsX5_init) := ggX6_init_X5_init
set_option maxRecDepth 20000 in
theorem ggX6_init_X1_init : GoodIn wsX6_init wsX1_init := goodIn_r _ [43, 44, 2, 3] (by decide +kernel) (by decide +kernel)
set_option maxRecDepth 20000 in
theorem gX6_init_X1_init_n35 : GoodIn wsX6_init (wsX1_init) := ggX6_init_X1_init
set_option maxRecDepth 20000 in
theorem ggX6_init_X2_init : GoodIn wsX6_init wsX2_init := goodIn_r _ [46, 47, 2, 3, 48, 36, 49, 25, 50, 51, 52, 53, 54, 76, 77, 78, 79, 80, 81] (by decide +kernel) (by decide +kernel)
set_option maxRecDepth 20000 in
theorem gX6_init_X2_init_n42 : GoodIn wsX6_init (wsX2_init) := ggX6_init_X2_init
theorem dX6_init_0 : decode cX6_init 0 = .ok (.aload_n 0, 1) := by decide +kernel
theorem dX6_init_1 : decode cX6_init 1 = .ok (.invokespecial 1, 3) := by decide +kernel
theorem dX6_init_4 : decode cX6_init 4 = .ok (.aload_n 0, 1) := by decide +kernel
