theorem dX7_lied_61 : decode cX7_lied 61 = .ok (.ifCond .le 16, 3) := by decide +kernel
theorem dX7_lied_64 : decode cX7_lied 64 = .ok (.iload_n 1, 1) := by decide +kernel
theorem dX7_lied_65 : decode cX7_lied 65 = .ok (.iload 6, 2) := by decide +kernel
theorem dX7_lied_67 : decode cX7_lied 67 = .ok (.invokestatic 168, 3) := by decide +kernel
theorem dX7_lied_70 : decode cX7_lied 70 = .ok (.ifCond .eq 7, 3) := by decide +kernel
theorem dX7_lied_73 : decode cX7_lied 73 = .ok (.iconst 1, 1) := by decide +kernel
theorem dX7_lied_74 : decode cX7_lied 74 = .ok (.goto 4, 3) := by decide +kernel
theorem dX7_lied_77 : decode cX7_lied 77 = .ok (.iconst 0, 1) := by decide +kernel
theorem dX7_lied_78 : decode cX7_lied 78 = .ok (.istore 7, 2) := by decide +kernel
theorem dX7_lied_80 : decode cX7_lied 80 = .ok (.iload 4, 2) := by decide +kernel
theorem dX7_lied_82 : decode cX7_lied 82 = .ok (.iload 7, 2) := by decide +kernel
theorem dX7_lied_84 : decode cX7_lied 84 = .ok (.ifCond .eq 7, 3) := by decide +kernel
theorem dX7_lied_87 : decode cX7_lied 87 = .ok (.iconst 1, 1) := by decide +kernel
theorem dX7_lied_88 : decode cX7_lied 88 = .ok (.goto 4, 3) := by decide +kernel
theorem dX7_lied_91 : decode cX7_lied 91 = .ok (.iconst 0, 1) := by decide +kernel
theorem dX7_lied_92 : decode cX7_lied 92 = .ok (.iadd, 1) := by decide +kernel
theorem dX7_lied_93 : decode cX7_lied 93 = .ok (.istore 4, 2) := by decide +kernel
theorem dX7_lied_95 : decode cX7_lied 95 = .ok (.iload_n 2, 1) := by decide +kernel
theorem dX7_lied_96 : decode cX7_lied 96 = .ok (.iconst 2, 1) := by decide +kernel
theorem dX7_lied_97 : decode cX7_lied 97 = .ok (.if_icmp .ne 25, 3) := by decide +kernel
theorem dX7_lied_100 : decode cX7_lied 100 = .ok (.iload 7, 2) := by decide +kernel
theorem dX7_lied_102 : decode cX7_lied 102 = .ok (.ifCond .ne 20, 3) := by decide +kernel
theorem dX7_lied_105 : decode cX7_lied 105 = .ok (.iload 6, 2) := by decide +kernel
theorem dX7_lied_107 : decode cX7_lied 107 = .ok (.iconst 1, 1) := by decide +kernel
theorem dX7_lied_108 : decode cX7_lied 108 = .ok (.if_icmp .le 14, 3) := by decide +kernel
theorem dX7_lied_111 : decode cX7_lied 111 = .ok (.iload 6, 2) := by decide +kernel
theorem dX7_lied_113 : decode cX7_lied 113 = .ok (.iload_n 1, 1) := by decide +kernel
theorem dX7_lied_114 : decode cX7_lied 114 = .ok (.iconst 1, 1) := by decide +kernel
theorem dX7_lied_115 : decode cX7_lied 115 = .ok (.isub, 1) := by decide +kernel
theorem dX7_lied_116 : decode cX7_lied 116 = .ok (.if_icmp .ge 6, 3) := by decide +kernel
theorem dX7_lied_119 : decode cX7_lied 119 = .ok (.iload 6, 2) := by decide +kernel
theorem dX7_lied_121 : decode cX7_lied 121 = .ok (.ireturn, 1) := by decide +kernel
theorem dX7_lied_122 : decode cX7_lied 122 = .ok (.iinc 6 1, 3) := by decide +kernel
theorem dX7_lied_125 : decode cX7_lied 125 = .ok (.goto (-92), 3) := by decide +kernel
theorem dX7_lied_128 : decode cX7_lied 128 = .ok (.iload_n 2, 1) := by decide +kernel
theorem dX7_lied_129 : decode cX7_lied 129 = .ok (.ifCond .ne 7, 3) := by decide +kernel
theorem dX7_lied_132 : decode cX7_lied 132 = .ok (.iload_n 3, 1) := by decide +kernel
theorem dX7_lied_133 : decode cX7_lied 133 = .ok (.goto 15, 3) := by decide +kernel
theorem dX7_lied_136 : decode cX7_lied 136 = .ok (.iload_n 2, 1) := by decide +kernel
theorem dX7_lied_137 : decode cX7_lied 137 = .ok (.iconst 1, 1) := by decide +kernel
theorem dX7_lied_138 : decode cX7_lied 138 = .ok (.if_icmp .ne 8, 3) := by decide +kernel
theorem dX7_lied_141 : decode cX7_lied 141 = .ok (.iload 4, 2) := by decide +kernel
theorem dX7_lied_143 : decode cX7_lied 143 = .ok (.goto 5, 3) := by decide +kernel
theorem dX7_lied_146 : decode cX7_lied 146 = .ok (.iload 5, 2) := by decide +kernel
theorem dX7_lied_148 : decode cX7_lied 148 = .ok (.ireturn, 1) := by decide +kernel
set_option maxRecDepth 20000 in
theorem ggX7_isFalse_X7_isPrime : GoodIn wsX7_isFalse wsX7_isPrime := goodIn_r _ [4] (by decide +kernel) (by decide +kernel)
set_option maxRecDepth 20000 in
theorem gX7_isFalse_X7_isPrime : GoodIn wsX7_isFalse (va_wsS RX7 174 yX7_isPrime wsX7_isPrime) := goodIn_app (goodIn_of _ (by decide +kernel)) ggX7_isFalse_X7_isPrime
set_option maxRecDepth 20000 in
theorem ggX7_isFalse_X7_isUnit : GoodIn wsX7_isFalse wsX7_isUnit := goodIn_r _ [7, 8, 9, 3, 10] (by decide +kernel) (by decide +kernel)
set_option maxRecDepth 20000 in
theorem gX7_isFalse_X7_isUnit : GoodIn wsX7_isFalse (va_wsS RX7 72 yX7_isUnit wsX7_isUnit) := goodIn_app (goodIn_of _ (by decide +kernel)) ggX7_isFalse_X7_isUnit
set_option maxRecDepth 20000 in
theorem ggX7_isFalse_X7_looksSo : GoodIn wsX7_isFalse wsX7_looksSo := goodIn_r _ [13, 14, 15, 3, 16, 17] (by decide +kernel) (by decide +kernel)
set_option maxRecDepth 20000 in
theorem gX7_isFalse_X7_looksSo : GoodIn wsX7_isFalse (va_wsS RX7 171 yX7_looksSo wsX7_looksSo) := goodIn_app (goodIn_of _ (by decide +kernel)) ggX7_isFalse_X7_looksSo
theorem dX7_isFalse_0 : decode cX7_isFalse 0 = .ok (.iload_n 0, 1) := by decide +kernel
theorem dX7_isFalse_1 : decode cX7_isFalse 1 = .ok (.invokestatic 174, 3) := by decide +kernel
theorem dX7_isFalse_4 : decode cX7_isFalse 4 = .ok (.ifCond .eq 5, 3) := by decide +kernel
theorem dX7_isFalse_7 : decode cX7_isFalse 7 = .ok (.iconst 0, 1) := by decide +kernel
theorem dX7_isFalse_8 : decode cX7_isFalse 8 = .ok (.ireturn, 1) := by decide +kernel
theorem dX7_isFalse_9 : decode cX7_isFalse 9 = .ok (.iconst 1, 1) := by decide +kernel
theorem dX7_isFalse_10 : decode cX7_isFalse 10 = .ok (.istore_n 1, 1) := by decide +kernel
theorem dX7_isFalse_11 : decode cX7_isFalse 11 = .ok (.iconst 1, 1) := by decide +kernel
theorem dX7_isFalse_12 : decode cX7_isFalse 12 = .ok (.istore_n 2, 1) := by decide +kernel
theorem dX7_isFalse_13 : decode cX7_isFalse 13 = .ok (.iload_n 2, 1) := by decide +kernel
theorem dX7_isFalse_14 : decode cX7_isFalse 14 = .ok (.iload_n 0, 1) := by decide +kernel
theorem dX7_isFalse_15 : decode cX7_isFalse 15 = .ok (.if_icmp .ge 35, 3) := by decide +kernel
theorem dX7_isFalse_18 : decode cX7_isFalse 18 = .ok (.iload_n 1, 1) := by decide +kernel
theorem dX7_isFalse_19 : decode cX7_isFalse 19 = .ok (.ifCond .eq 31, 3) := by decide +kernel
theorem dX7_isFalse_22 : decode cX7_isFalse 22 = .ok (.iload_n 0, 1) := by decide +kernel
theorem dX7_isFalse_23 : decode cX7_isFalse 23 = .ok (.iload_n 2, 1) := by decide +kernel
theorem dX7_isFalse_24 : decode cX7_isFalse 24 = .ok (.invokestatic 72, 3) := by decide +kernel
theorem dX7_isFalse_27 : decode cX7_isFalse 27 = .ok (.ifCond .eq 11, 3) := by decide +kernel
theorem dX7_isFalse_30 : decode cX7_isFalse 30 = .ok (.iload_n 0, 1) := by decide +kernel
theorem dX7_isFalse_31 : decode cX7_isFalse 31 = .ok (.iload_n 2, 1) := by decide +kernel
theorem dX7_isFalse_32 : decode cX7_isFalse 32 = .ok (.invokestatic 171, 3) := by decide +kernel
theorem dX7_isFalse_35 : decode cX7_isFalse 35 = .ok (.ifCond .eq 7, 3) := by decide +kernel
theorem dX7_isFalse_38 : decode cX7_isFalse 38 = .ok (.iconst 1, 1) := by decide +kernel
theorem dX7_isFalse_39 : decode cX7_isFalse 39 = .ok (.goto 4, 3) := by decide +kernel
theorem dX7_isFalse_42 : decode cX7_isFalse 42 = .ok (.iconst 0, 1) := by decide +kernel
theorem dX7_isFalse_43 : decode cX7_isFalse 43 = .ok (.istore_n 1, 1) := by decide +kernel
theorem dX7_isFalse_44 : decode cX7_isFalse 44 = .ok (.iinc 2 1, 3) := by decide +kernel
theorem dX7_isFalse_47 : decode cX7_isFalse 47 = .ok (.goto (-34), 3) := by decide +kernel
theorem dX7_isFalse_50 : decode cX7_isFalse 50 = .ok (.iload_n 1, 1) := by decide +kernel
theorem dX7_isFalse_51 : decode cX7_isFalse 51 = .ok (.ireturn, 1) := by decide +kernel
set_option maxRecDepth 20000 in
theorem ggX7_falseOnes_X7_in : GoodIn wsX7_falseOnes wsX7_in := goodIn_r _ [6] (by decide +kernel) (by decide +kernel)
set_option maxRecDepth 20000 in
theorem gX7_falseOnes_X7_in : GoodIn wsX7_falseOnes (va_wsS RX7 60 yX7_in wsX7_in) := goodIn_app (goodIn_of _ (by decide +kernel)) ggX7_falseOnes_X7_in
set_option maxRecDepth 20000 in
theorem ggX7_falseOnes_X7_isFalse : GoodIn wsX7_falseOnes wsX7_isFalse := goodIn_r _ [9, 10, 11, 5, 12, 13, 14, 15, 16, 17, 18, 19, 20, 21, 22, 23, 24, 25] (by decide +kernel) (by decide +kernel)
set_option maxRecDepth 20000 in
theorem gX7_falseOnes_X7_isFalse : GoodIn wsX7_falseOnes (va_wsS RX7 179 yX7_isFalse wsX7_isFalse) := goodIn_app (goodIn_of _ (by decide +kernel)) ggX7_falseOnes_X7_isFalse
theorem dX7_falseOnes_0 : decode cX7_falseOnes 0 = .ok (.iload_n 1, 1) := by decide +kernel
theorem dX7_falseOnes_1 : decode cX7_falseOnes 1 = .ok (.i2l, 1) := by decide +kernel
theorem dX7_falseOnes_2 : decode cX7_falseOnes 2 = .ok (.ldc2_w 94, 3) := by decide +kernel
theorem dX7_falseOnes_5 : decode cX7_falseOnes 5 = .ok (.ldc2_w 177, 3) := by decide +kernel
theorem dX7_falseOnes_8 : decode cX7_falseOnes 8 = .ok (.invokestatic 60, 3) := by decide +kernel
theorem dX7_falseOnes_11 : decode cX7_falseOnes 11 = .ok (.ifCond .eq 8, 3) := by decide +kernel
theorem dX7_falseOnes_14 : decode cX7_falseOnes 14 = .ok (.iload_n 2, 1) := by decide +kernel
theorem dX7_falseOnes_15 : decode cX7_falseOnes 15 = .ok (.iconst (-1), 1) := by decide +kernel
theorem dX7_falseOnes_16 : decode cX7_falseOnes 16 = .ok (.if_icmp .ge 5, 3) := by decide +kernel
theorem dX7_falseOnes_19 : decode cX7_falseOnes 19 = .ok (.iconst (-1), 1) := by decide +kernel
theorem dX7_falseOnes_20 : decode cX7_falseOnes 20 = .ok (.ireturn, 1) := by decide +kernel
theorem dX7_falseOnes_21 : decode cX7_falseOnes 21 = .ok (.iconst 0, 1) := by decide +kernel
theorem dX7_falseOnes_22 : decode cX7_falseOnes 22 = .ok (.istore_n 3, 1) := by decide +kernel
theorem dX7_falseOnes_23 : decode cX7_falseOnes 23 = .ok (.iconst 3, 1) := by decide +kernel
theorem dX7_falseOnes_24 : decode cX7_falseOnes 24 = .ok (.istore 4, 2) := by decide +kernel
theorem dX7_falseOnes_26 : decode cX7_falseOnes 26 = .ok (.iload 4, 2) := by decide +kernel
theorem dX7_falseOnes_28 : decode cX7_falseOnes 28 = .ok (.iload_n 1, 1) := by decide +kernel
theorem dX7_falseOnes_29 : decode cX7_falseOnes 29 = .ok (.if_icmp .gt 28, 3) := by decide +kernel
theorem dX7_falseOnes_32 : decode cX7_falseOnes 32 = .ok (.iload 4, 2) := by decide +kernel
theorem dX7_falseOnes_34 : decode cX7_falseOnes 34 = .ok (.invokestatic 179, 3) := by decide +kernel
theorem dX7_falseOnes_37 : decode cX7_falseOnes 37 = .ok (.ifCond .eq 14, 3) := by decide +kernel
theorem dX7_falseOnes_40 : decode cX7_falseOnes 40 = .ok (.iload_n 3, 1) := by decide +kernel
theorem dX7_falseOnes_41 : decode cX7_falseOnes 41 = .ok (.iload_n 2, 1) := by decide +kernel
theorem dX7_falseOnes_42 : decode cX7_falseOnes 42 = .ok (.if_icmp .ne 6, 3) := by decide +kernel
theorem dX7_falseOnes_45 : decode cX7_falseOnes 45 = .ok (.iload 4, 2) := by decide +kernel
theorem dX7_falseOnes_47 : decode cX7_falseOnes 47 = .ok (.ireturn, 1) := by decide +kernel
theorem dX7_falseOnes_48 : decode cX7_falseOnes 48 = .ok (.iinc 3 1, 3) := by decide +kernel
theorem dX7_falseOnes_51 : decode cX7_falseOnes 51 = .ok (.iinc 4 2, 3) := by decide +kernel
theorem dX7_falseOnes_54 : decode cX7_falseOnes 54 = .ok (.goto (-28), 3) := by decide +kernel
theorem dX7_falseOnes_57 : decode cX7_falseOnes 57 = .ok (.iload_n 2, 1) := by decide +kernel
theorem dX7_falseOnes_58 : decode cX7_falseOnes 58 = .ok (.ifCond .ge 7, 3) := by decide +kernel
theorem dX7_falseOnes_61 : decode cX7_falseOnes 61 = .ok (.iload_n 3, 1) := by decide +kernel
theorem dX7_falseOnes_62 : decode cX7_falseOnes 62 = .ok (.goto 5, 3) := by decide +kernel
theorem dX7_falseOnes_65 : decode cX7_falseOnes 65 = .ok (.bipush (-4), 2) := by decide +kernel
theorem dX7_falseOnes_67 : decode cX7_falseOnes 67 = .ok (.ireturn, 1) := by decide +kernel
set_option maxRecDepth 20000 in
theorem ggX7_fooled_X7_in : GoodIn wsX7_fooled wsX7_in := goodIn_r _ [8] (by decide +kernel) (by decide +kernel)
set_option maxRecDepth 20000 in
theorem gX7_fooled_X7_in : GoodIn wsX7_fooled (va_wsS RX7 60 yX7_in wsX7_in) := goodIn_app (goodIn_of _ (by decide +kernel)) ggX7_fooled_X7_in
set_option maxRecDepth 20000 in
theorem ggX7_fooled_X7_isPrime : GoodIn wsX7_fooled wsX7_isPrime := goodIn_r _ [11] (by decide +kernel) (by decide +kernel)
set_option maxRecDepth 20000 in
theorem gX7_fooled_X7_isPrime : GoodIn wsX7_fooled (va_wsS RX7 174 yX7_isPrime wsX7_isPrime) := goodIn_app (goodIn_of _ (by decide +kernel)) ggX7_fooled_X7_isPrime
set_option maxRecDepth 20000 in
theorem ggX7_fooled_X7_isStrong : GoodIn wsX7_fooled wsX7_isStrong := goodIn_r _ [14, 15, 16, 7, 17, 1] (by decide +kernel) (by decide +kernel)
set_option maxRecDepth 20000 in
theorem gX7_fooled_X7_isStrong : GoodIn wsX7_fooled (va_wsS RX7 168 yX7_isStrong wsX7_isStrong) := goodIn_app (goodIn_of _ (by decide +kernel)) ggX7_fooled_X7_isStrong
theorem dX7_fooled_0 : decode cX7_fooled 0 = .ok (.iload_n 1, 1) := by decide +kernel
theorem dX7_fooled_1 : decode cX7_fooled 1 = .ok (.i2l, 1) := by decide +kernel
theorem dX7_fooled_2 : decode cX7_fooled 2 = .ok (.ldc2_w 56, 3) := by decide +kernel
theorem dX7_fooled_5 : decode cX7_fooled 5 = .ok (.ldc2_w 182, 3) := by decide +kernel
theorem dX7_fooled_8 : decode cX7_fooled 8 = .ok (.invokestatic 60, 3) := by decide +kernel
theorem dX7_fooled_11 : decode cX7_fooled 11 = .ok (.ifCond .eq 22, 3) := by decide +kernel
theorem dX7_fooled_14 : decode cX7_fooled 14 = .ok (.iload_n 2, 1) := by decide +kernel
theorem dX7_fooled_15 : decode cX7_fooled 15 = .ok (.i2l, 1) := by decide +kernel
theorem dX7_fooled_16 : decode cX7_fooled 16 = .ok (.ldc2_w 94, 3) := by decide +kernel
theorem dX7_fooled_19 : decode cX7_fooled 19 = .ok (.ldc2_w 163, 3) := by decide +kernel
theorem dX7_fooled_22 : decode cX7_fooled 22 = .ok (.invokestatic 60, 3) := by decide +kernel
theorem dX7_fooled_25 : decode cX7_fooled 25 = .ok (.ifCond .eq 8, 3) := by decide +kernel
theorem dX7_fooled_28 : decode cX7_fooled 28 = .ok (.iload_n 3, 1) := by decide +kernel
theorem dX7_fooled_29 : decode cX7_fooled 29 = .ok (.iconst (-1), 1) := by decide +kernel
theorem dX7_fooled_30 : decode cX7_fooled 30 = .ok (.if_icmp .ge 5, 3) := by decide +kernel
theorem dX7_fooled_33 : decode cX7_fooled 33 = .ok (.iconst (-1), 1) := by decide +kernel
theorem dX7_fooled_34 : decode cX7_fooled 34 = .ok (.ireturn, 1) := by decide +kernel
theorem dX7_fooled_35 : decode cX7_fooled 35 = .ok (.iconst 0, 1) := by decide +kernel
theorem dX7_fooled_36 : decode cX7_fooled 36 = .ok (.istore 4, 2) := by decide +kernel
theorem dX7_fooled_38 : decode cX7_fooled 38 = .ok (.iconst 3, 1) := by decide +kernel
theorem dX7_fooled_39 : decode cX7_fooled 39 = .ok (.istore 5, 2) := by decide +kernel
theorem dX7_fooled_41 : decode cX7_fooled 41 = .ok (.iload 5, 2) := by decide +kernel
theorem dX7_fooled_43 : decode cX7_fooled 43 = .ok (.iload_n 2, 1) := by decide +kernel
theorem dX7_fooled_44 : decode cX7_fooled 44 = .ok (.if_icmp .gt 70, 3) := by decide +kernel
theorem dX7_fooled_47 : decode cX7_fooled 47 = .ok (.iload 5, 2) := by decide +kernel
theorem dX7_fooled_49 : decode cX7_fooled 49 = .ok (.invokestatic 174, 3) := by decide +kernel
theorem dX7_fooled_52 : decode cX7_fooled 52 = .ok (.ifCond .ne 7, 3) := by decide +kernel
theorem dX7_fooled_55 : decode cX7_fooled 55 = .ok (.iconst 1, 1) := by decide +kernel
theorem dX7_fooled_56 : decode cX7_fooled 56 = .ok (.goto 4, 3) := by decide +kernel
theorem dX7_fooled_59 : decode cX7_fooled 59 = .ok (.iconst 0, 1) := by decide +kernel
theorem dX7_fooled_60 : decode cX7_fooled 60 = .ok (.istore 6, 2) := by decide +kernel
theorem dX7_fooled_62 : decode cX7_fooled 62 = .ok (.iconst 2, 1) := by decide +kernel
theorem dX7_fooled_63 : decode cX7_fooled 63 = .ok (.istore 7, 2) := by decide +kernel
theorem dX7_fooled_65 : decode cX7_fooled 65 = .ok (.iload 7, 2) := by decide +kernel
theorem dX7_fooled_67 : decode cX7_fooled 67 = .ok (.iload_n 1, 1) := by decide +kernel
theorem dX7_fooled_68 : decode cX7_fooled 68 = .ok (.if_icmp .gt 23, 3) := by decide +kernel
theorem dX7_fooled_71 : decode cX7_fooled 71 = .ok (.iload 6, 2) := by decide +kernel
theorem dX7_fooled_73 : decode cX7_fooled 73 = .ok (.ifCond .eq 18, 3) := by decide +kernel
theorem dX7_fooled_76 : decode cX7_fooled 76 = .ok (.iload 5, 2) := by decide +kernel
theorem dX7_fooled_78 : decode cX7_fooled 78 = .ok (.iload 7, 2) := by decide +kernel
theorem dX7_fooled_80 : decode cX7_fooled 80 = .ok (.invokestatic 168, 3) := by decide +kernel
theorem dX7_fooled_83 : decode cX7_fooled 83 = .ok (.istore 6, 2) := by decide +kernel
theorem dX7_fooled_85 : decode cX7_fooled 85 = .ok (.iinc 7 1, 3) := by decide +kernel
theorem dX7_fooled_88 : decode cX7_fooled 88 = .ok (.goto (-23), 3) := by decide +kernel
theorem dX7_fooled_91 : decode cX7_fooled 91 = .ok (.iload 6, 2) := by decide +kernel
theorem dX7_fooled_93 : decode cX7_fooled 93 = .ok (.ifCond .eq 15, 3) := by decide +kernel
theorem dX7_fooled_96 : decode cX7_fooled 96 = .ok (.iload 4, 2) := by decide +kernel
theorem dX7_fooled_98 : decode cX7_fooled 98 = .ok (.iload_n 3, 1) := by decide +kernel
theorem dX7_fooled_99 : decode cX7_fooled 99 = .ok (.if_icmp .ne 6, 3) := by decide +kernel
theorem dX7_fooled_102 : decode cX7_fooled 102 = .ok (.iload 5, 2) := by decide +kernel
theorem dX7_fooled_104 : decode cX7_fooled 104 = .ok (.ireturn, 1) := by decide +kernel
theorem dX7_fooled_105 : decode cX7_fooled 105 = .ok (.iinc 4 1, 3) := by decide +kernel
theorem dX7_fooled_108 : decode cX7_fooled 108 = .ok (.iinc 5 2, 3) := by decide +kernel
theorem dX7_fooled_111 : decode cX7_fooled 111 = .ok (.goto (-70), 3) := by decide +kernel
theorem dX7_fooled_114 : decode cX7_fooled 114 = .ok (.iload_n 3, 1) := by decide +kernel
theorem dX7_fooled_115 : decode cX7_fooled 115 = .ok (.ifCond .ge 8, 3) := by decide +kernel
theorem dX7_fooled_118 : decode cX7_fooled 118 = .ok (.iload 4, 2) := by decide +kernel
theorem dX7_fooled_120 : decode cX7_fooled 120 = .ok (.goto 5, 3) := by decide +kernel
theorem dX7_fooled_123 : decode cX7_fooled 123 = .ok (.bipush (-4), 2) := by decide +kernel
theorem dX7_fooled_125 : decode cX7_fooled 125 = .ok (.ireturn, 1) := by decide +kernel
set_option maxRecDepth 20000 in
theorem ggX7_isBase_X7_in : GoodIn wsX7_isBase wsX7_in := goodIn_r _ [6] (by decide +kernel) (by decide +kernel)
set_option maxRecDepth 20000 in
theorem gX7_isBase_X7_in : GoodIn wsX7_isBase (va_wsS RX7 60 yX7_in wsX7_in) := goodIn_app (goodIn_of _ (by decide +kernel)) ggX7_isBase_X7_in
theorem dX7_isBase_0 : decode cX7_isBase 0 = .ok (.iload_n 0, 1) := by decide +kernel
theorem dX7_isBase_1 : decode cX7_isBase 1 = .ok (.i2l, 1) := by decide +kernel
theorem dX7_isBase_2 : decode cX7_isBase 2 = .ok (.ldc2_w 56, 3) := by decide +kernel
theorem dX7_isBase_5 : decode cX7_isBase 5 = .ok (.ldc2_w 184, 3) := by decide +kernel
theorem dX7_isBase_8 : decode cX7_isBase 8 = .ok (.invokestatic 60, 3) := by decide +kernel
theorem dX7_isBase_11 : decode cX7_isBase 11 = .ok (.ireturn, 1) := by decide +kernel
set_option maxRecDepth 20000 in
theorem ggX7_aheadOf_X7_common : GoodIn wsX7_aheadOf wsX7_common := goodIn_r _ [4] (by decide +kernel) (by decide +kernel)
set_option maxRecDepth 20000 in
theorem gX7_aheadOf_X7_common : GoodIn wsX7_aheadOf (va_wsS RX7 64 yX7_common wsX7_common) := goodIn_app (goodIn_of _ (by decide +kernel)) ggX7_aheadOf_X7_common
theorem dX7_aheadOf_0 : decode cX7_aheadOf 0 = .ok (.iload_n 1, 1) := by decide +kernel
theorem dX7_aheadOf_1 : decode cX7_aheadOf 1 = .ok (.istore_n 2, 1) := by decide +kernel
theorem dX7_aheadOf_2 : decode cX7_aheadOf 2 = .ok (.iconst 0, 1) := by decide +kernel
theorem dX7_aheadOf_3 : decode cX7_aheadOf 3 = .ok (.istore_n 3, 1) := by decide +kernel
theorem dX7_aheadOf_4 : decode cX7_aheadOf 4 = .ok (.iload_n 2, 1) := by decide +kernel
theorem dX7_aheadOf_5 : decode cX7_aheadOf 5 = .ok (.iload_n 0, 1) := by decide +kernel
theorem dX7_aheadOf_6 : decode cX7_aheadOf 6 = .ok (.invokestatic 64, 3) := by decide +kernel
theorem dX7_aheadOf_9 : decode cX7_aheadOf 9 = .ok (.iconst 1, 1) := by decide +kernel
theorem dX7_aheadOf_10 : decode cX7_aheadOf 10 = .ok (.if_icmp .le 17, 3) := by decide +kernel
theorem dX7_aheadOf_13 : decode cX7_aheadOf 13 = .ok (.iload_n 2, 1) := by decide +kernel
theorem dX7_aheadOf_14 : decode cX7_aheadOf 14 = .ok (.iload_n 2, 1) := by decide +kernel
theorem dX7_aheadOf_15 : decode cX7_aheadOf 15 = .ok (.iload_n 0, 1) := by decide +kernel
theorem dX7_aheadOf_16 : decode cX7_aheadOf 16 = .ok (.invokestatic 64, 3) := by decide +kernel
theorem dX7_aheadOf_19 : decode cX7_aheadOf 19 = .ok (.idiv, 1) := by decide +kernel
theorem dX7_aheadOf_20 : decode cX7_aheadOf 20 = .ok (.istore_n 2, 1) := by decide +kernel
theorem dX7_aheadOf_21 : decode cX7_aheadOf 21 = .ok (.iinc 3 1, 3) := by decide +kernel
theorem dX7_aheadOf_24 : decode cX7_aheadOf 24 = .ok (.goto (-20), 3) := by decide +kernel
theorem dX7_aheadOf_27 : decode cX7_aheadOf 27 = .ok (.iload_n 3, 1) := by decide +kernel
theorem dX7_aheadOf_28 : decode cX7_aheadOf 28 = .ok (.ireturn, 1) := by decide +kernel
set_option maxRecDepth 20000 in
theorem ggX7_roundOf_X7_common : GoodIn wsX7_roundOf wsX7_common := goodIn_r _ [4] (by decide +kernel) (by decide +kernel)
set_option maxRecDepth 20000 in
theorem gX7_roundOf_X7_common : GoodIn wsX7_roundOf (va_wsS RX7 64 yX7_common wsX7_common) := goodIn_app (goodIn_of _ (by decide +kernel)) ggX7_roundOf_X7_common
set_option maxRecDepth 20000 in
theorem ggX7_roundOf_X7_orderOf : GoodIn wsX7_roundOf wsX7_orderOf := goodIn_r _ [7] (by decide +kernel) (by decide +kernel)
set_option maxRecDepth 20000 in
theorem gX7_roundOf_X7_orderOf : GoodIn wsX7_roundOf (va_wsS RX7 79 yX7_orderOf wsX7_orderOf) := goodIn_app (goodIn_of _ (by decide +kernel)) ggX7_roundOf_X7_orderOf
theorem dX7_roundOf_0 : decode cX7_roundOf 0 = .ok (.iload_n 1, 1) := by decide +kernel
theorem dX7_roundOf_1 : decode cX7_roundOf 1 = .ok (.istore_n 2, 1) := by decide +kernel
theorem dX7_roundOf_2 : decode cX7_roundOf 2 = .ok (.iload_n 2, 1) := by decide +kernel
theorem dX7_roundOf_3 : decode cX7_roundOf 3 = .ok (.iload_n 0, 1) := by decide +kernel
theorem dX7_roundOf_4 : decode cX7_roundOf 4 = .ok (.invokestatic 64, 3) := by decide +kernel
theorem dX7_roundOf_7 : decode cX7_roundOf 7 = .ok (.iconst 1, 1) := by decide +kernel
theorem dX7_roundOf_8 : decode cX7_roundOf 8 = .ok (.if_icmp .le 14, 3) := by decide +kernel
theorem dX7_roundOf_11 : decode cX7_roundOf 11 = .ok (.iload_n 2, 1) := by decide +kernel
theorem dX7_roundOf_12 : decode cX7_roundOf 12 = .ok (.iload_n 2, 1) := by decide +kernel
theorem dX7_roundOf_13 : decode cX7_roundOf 13 = .ok (.iload_n 0, 1) := by decide +kernel
theorem dX7_roundOf_14 : decode cX7_roundOf 14 = .ok (.invokestatic 64, 3) := by decide +kernel
theorem dX7_roundOf_17 : decode cX7_roundOf 17 = .ok (.idiv, 1) := by decide +kernel
theorem dX7_roundOf_18 : decode cX7_roundOf 18 = .ok (.istore_n 2, 1) := by decide +kernel
theorem dX7_roundOf_19 : decode cX7_roundOf 19 = .ok (.goto (-17), 3) := by decide +kernel
theorem dX7_roundOf_22 : decode cX7_roundOf 22 = .ok (.iload_n 2, 1) := by decide +kernel
theorem dX7_roundOf_23 : decode cX7_roundOf 23 = .ok (.iconst 1, 1) := by decide +kernel
theorem dX7_roundOf_24 : decode cX7_roundOf 24 = .ok (.if_icmp .ne 7, 3) := by decide +kernel
theorem dX7_roundOf_27 : decode cX7_roundOf 27 = .ok (.iconst 0, 1) := by decide +kernel
theorem dX7_roundOf_28 : decode cX7_roundOf 28 = .ok (.goto 10, 3) := by decide +kernel
theorem dX7_roundOf_31 : decode cX7_roundOf 31 = .ok (.iload_n 2, 1) := by decide +kernel
theorem dX7_roundOf_32 : decode cX7_roundOf 32 = .ok (.iload_n 0, 1) := by decide +kernel
theorem dX7_roundOf_33 : decode cX7_roundOf 33 = .ok (.iload_n 2, 1) := by decide +kernel
theorem dX7_roundOf_34 : decode cX7_roundOf 34 = .ok (.irem, 1) := by decide +kernel
theorem dX7_roundOf_35 : decode cX7_roundOf 35 = .ok (.invokestatic 79, 3) := by decide +kernel
theorem dX7_roundOf_38 : decode cX7_roundOf 38 = .ok (.ireturn, 1) := by decide +kernel
set_option maxRecDepth 20000 in
theorem ggX7_broken_X7_isBase : GoodIn wsX7_broken wsX7_isBase := goodIn_r _ [4, 5, 6, 7, 8, 3, 9] (by decide +kernel) (by decide +kernel)
set_option maxRecDepth 20000 in
theorem gX7_broken_X7_isBase : GoodIn wsX7_broken (va_wsS RX7 186 yX7_isBase wsX7_isBase) := goodIn_app (goodIn_of _ (by decide +kernel)) ggX7_broken_X7_isBase
set_option maxRecDepth 20000 in
theorem ggX7_broken_X7_isBy : GoodIn wsX7_broken wsX7_isBy := goodIn_r _ [12, 5, 13, 7, 8, 3, 9] (by decide +kernel) (by decide +kernel)
set_option maxRecDepth 20000 in
theorem gX7_broken_X7_isBy : GoodIn wsX7_broken (va_wsS RX7 68 yX7_isBy wsX7_isBy) := goodIn_app (goodIn_of _ (by decide +kernel)) ggX7_broken_X7_isBy
set_option maxRecDepth 20000 in
theorem ggX7_broken_X7_in : GoodIn wsX7_broken wsX7_in := goodIn_r _ [9] (by decide +kernel) (by decide +kernel)
set_option maxRecDepth 20000 in
theorem gX7_broken_X7_in : GoodIn wsX7_broken (va_wsS RX7 60 yX7_in wsX7_in) := goodIn_app (goodIn_of _ (by decide +kernel)) ggX7_broken_X7_in
set_option maxRecDepth 20000 in
theorem ggX7_broken_X7_aheadOf : GoodIn wsX7_broken wsX7_aheadOf := goodIn_r _ [16, 17, 18, 3, 19] (by decide +kernel) (by decide +kernel)
set_option maxRecDepth 20000 in
theorem gX7_broken_X7_aheadOf : GoodIn wsX7_broken (va_wsS RX7 189 yX7_aheadOf wsX7_aheadOf) := goodIn_app (goodIn_of _ (by decide +kernel)) ggX7_broken_X7_aheadOf
set_option maxRecDepth 20000 in
theorem ggX7_broken_X7_roundOf : GoodIn wsX7_broken wsX7_roundOf := goodIn_r _ [22, 17, 18, 3, 19, 23, 24, 25] (by decide +kernel) (by decide +kernel)
set_option maxRecDepth 20000 in
theorem gX7_broken_X7_roundOf : GoodIn wsX7_broken (va_wsS RX7 192 yX7_roundOf wsX7_roundOf) := goodIn_app (goodIn_of _ (by decide +kernel)) ggX7_broken_X7_roundOf
theorem dX7_broken_0 : decode cX7_broken 0 = .ok (.iload_n 1, 1) := by decide +kernel
theorem dX7_broken_1 : decode cX7_broken 1 = .ok (.invokestatic 186, 3) := by decide +kernel
theorem dX7_broken_4 : decode cX7_broken 4 = .ok (.ifCond .eq 20, 3) := by decide +kernel
theorem dX7_broken_7 : decode cX7_broken 7 = .ok (.iload_n 2, 1) := by decide +kernel
theorem dX7_broken_8 : decode cX7_broken 8 = .ok (.invokestatic 68, 3) := by decide +kernel
theorem dX7_broken_11 : decode cX7_broken 11 = .ok (.ifCond .eq 13, 3) := by decide +kernel
theorem dX7_broken_14 : decode cX7_broken 14 = .ok (.iload_n 3, 1) := by decide +kernel
theorem dX7_broken_15 : decode cX7_broken 15 = .ok (.i2l, 1) := by decide +kernel
theorem dX7_broken_16 : decode cX7_broken 16 = .ok (.lconst 0, 1) := by decide +kernel
theorem dX7_broken_17 : decode cX7_broken 17 = .ok (.lconst 1, 1) := by decide +kernel
theorem dX7_broken_18 : decode cX7_broken 18 = .ok (.invokestatic 60, 3) := by decide +kernel
theorem dX7_broken_21 : decode cX7_broken 21 = .ok (.ifCond .ne 5, 3) := by decide +kernel
theorem dX7_broken_24 : decode cX7_broken 24 = .ok (.iconst (-1), 1) := by decide +kernel
theorem dX7_broken_25 : decode cX7_broken 25 = .ok (.ireturn, 1) := by decide +kernel
theorem dX7_broken_26 : decode cX7_broken 26 = .ok (.iload_n 3, 1) := by decide +kernel
theorem dX7_broken_27 : decode cX7_broken 27 = .ok (.ifCond .ne 11, 3) := by decide +kernel
theorem dX7_broken_30 : decode cX7_broken 30 = .ok (.iload_n 1, 1) := by decide +kernel
theorem dX7_broken_31 : decode cX7_broken 31 = .ok (.iload_n 2, 1) := by decide +kernel
theorem dX7_broken_32 : decode cX7_broken 32 = .ok (.invokestatic 189, 3) := by decide +kernel
theorem dX7_broken_35 : decode cX7_broken 35 = .ok (.goto 8, 3) := by decide +kernel
theorem dX7_broken_38 : decode cX7_broken 38 = .ok (.iload_n 1, 1) := by decide +kernel
theorem dX7_broken_39 : decode cX7_broken 39 = .ok (.iload_n 2, 1) := by decide +kernel
theorem dX7_broken_40 : decode cX7_broken 40 = .ok (.invokestatic 192, 3) := by decide +kernel
theorem dX7_broken_43 : decode cX7_broken 43 = .ok (.ireturn, 1) := by decide +kernel
set_option maxRecDepth 20000 in
theorem ggX7_figure_X7_isBase : GoodIn wsX7_figure wsX7_isBase := goodIn_r _ [5, 6, 7, 8, 9, 4, 10] (by decide +kernel) (by decide +kernel)
set_option maxRecDepth 20000 in
theorem gX7_figure_X7_isBase : GoodIn wsX7_figure (va_wsS RX7 186 yX7_isBase wsX7_isBase) := goodIn_app (goodIn_of _ (by decide +kernel)) ggX7_figure_X7_isBase
set_option maxRecDepth 20000 in
theorem ggX7_figure_X7_isBy : GoodIn wsX7_figure wsX7_isBy := goodIn_r _ [13, 6, 14, 8, 9, 4, 10] (by decide +kernel) (by decide +kernel)
set_option maxRecDepth 20000 in
theorem gX7_figure_X7_isBy : GoodIn wsX7_figure (va_wsS RX7 68 yX7_isBy wsX7_isBy) := goodIn_app (goodIn_of _ (by decide +kernel)) ggX7_figure_X7_isBy
set_option maxRecDepth 20000 in
theorem ggX7_figure_X7_in : GoodIn wsX7_figure wsX7_in := goodIn_r _ [10] (by decide +kernel) (by decide +kernel)
set_option maxRecDepth 20000 in
theorem gX7_figure_X7_in : GoodIn wsX7_figure (va_wsS RX7 60 yX7_in wsX7_in) := goodIn_app (goodIn_of _ (by decide +kernel)) ggX7_figure_X7_in
set_option maxRecDepth 20000 in
theorem ggX7_figure_X7_powerOf : GoodIn wsX7_figure wsX7_powerOf := goodIn_r _ [17, 6] (by decide +kernel) (by decide +kernel)
set_option maxRecDepth 20000 in
theorem gX7_figure_X7_powerOf : GoodIn wsX7_figure (va_wsS RX7 88 yX7_powerOf wsX7_powerOf) := goodIn_app (goodIn_of _ (by decide +kernel)) ggX7_figure_X7_powerOf
theorem dX7_figure_0 : decode cX7_figure 0 = .ok (.iload_n 1, 1) := by decide +kernel
theorem dX7_figure_1 : decode cX7_figure 1 = .ok (.invokestatic 186, 3) := by decide +kernel
theorem dX7_figure_4 : decode cX7_figure 4 = .ok (.ifCond .eq 22, 3) := by decide +kernel
theorem dX7_figure_7 : decode cX7_figure 7 = .ok (.iload_n 2, 1) := by decide +kernel
theorem dX7_figure_8 : decode cX7_figure 8 = .ok (.invokestatic 68, 3) := by decide +kernel
theorem dX7_figure_11 : decode cX7_figure 11 = .ok (.ifCond .eq 15, 3) := by decide +kernel
theorem dX7_figure_14 : decode cX7_figure 14 = .ok (.iload_n 3, 1) := by decide +kernel
theorem dX7_figure_15 : decode cX7_figure 15 = .ok (.i2l, 1) := by decide +kernel
theorem dX7_figure_16 : decode cX7_figure 16 = .ok (.lconst 0, 1) := by decide +kernel
theorem dX7_figure_17 : decode cX7_figure 17 = .ok (.ldc2_w 96, 3) := by decide +kernel
theorem dX7_figure_20 : decode cX7_figure 20 = .ok (.invokestatic 60, 3) := by decide +kernel
theorem dX7_figure_23 : decode cX7_figure 23 = .ok (.ifCond .ne 5, 3) := by decide +kernel
theorem dX7_figure_26 : decode cX7_figure 26 = .ok (.iconst (-1), 1) := by decide +kernel
theorem dX7_figure_27 : decode cX7_figure 27 = .ok (.ireturn, 1) := by decide +kernel
theorem dX7_figure_28 : decode cX7_figure 28 = .ok (.iload_n 1, 1) := by decide +kernel
theorem dX7_figure_29 : decode cX7_figure 29 = .ok (.iload_n 2, 1) := by decide +kernel
theorem dX7_figure_30 : decode cX7_figure 30 = .ok (.iload_n 1, 1) := by decide +kernel
theorem dX7_figure_31 : decode cX7_figure 31 = .ok (.iload_n 3, 1) := by decide +kernel
theorem dX7_figure_32 : decode cX7_figure 32 = .ok (.i2l, 1) := by decide +kernel
theorem dX7_figure_33 : decode cX7_figure 33 = .ok (.invokestatic 88, 3) := by decide +kernel
theorem dX7_figure_36 : decode cX7_figure 36 = .ok (.imul, 1) := by decide +kernel
theorem dX7_figure_37 : decode cX7_figure 37 = .ok (.iload_n 2, 1) := by decide +kernel
theorem dX7_figure_38 : decode cX7_figure 38 = .ok (.idiv, 1) := by decide +kernel
theorem dX7_figure_39 : decode cX7_figure 39 = .ok (.ireturn, 1) := by decide +kernel
set_option maxRecDepth 20000 in
theorem ggX7_soLong_X7_isBase : GoodIn wsX7_soLong wsX7_isBase := goodIn_r _ [6, 2, 7, 8, 9, 5, 10] (by decide +kernel) (by decide +kernel)
set_option maxRecDepth 20000 in
theorem gX7_soLong_X7_isBase : GoodIn wsX7_soLong (va_wsS RX7 186 yX7_isBase wsX7_isBase) := goodIn_app (goodIn_of _ (by decide +kernel)) ggX7_soLong_X7_isBase
set_option maxRecDepth 20000 in
theorem ggX7_soLong_X7_in : GoodIn wsX7_soLong wsX7_in := goodIn_r _ [10] (by decide +kernel) (by decide +kernel)
set_option maxRecDepth 20000 in
theorem gX7_soLong_X7_in : GoodIn wsX7_soLong (va_wsS RX7 60 yX7_in wsX7_in) := goodIn_app (goodIn_of _ (by decide +kernel)) ggX7_soLong_X7_in
set_option maxRecDepth 20000 in
theorem ggX7_soLong_X7_roundOf : GoodIn wsX7_soLong wsX7_roundOf := goodIn_r _ [13, 14, 15, 5, 16, 17, 18, 19] (by decide +kernel) (by decide +kernel)
set_option maxRecDepth 20000 in
theorem gX7_soLong_X7_roundOf : GoodIn wsX7_soLong (va_wsS RX7 192 yX7_roundOf wsX7_roundOf) := goodIn_app (goodIn_of _ (by decide +kernel)) ggX7_soLong_X7_roundOf
theorem dX7_soLong_0 : decode cX7_soLong 0 = .ok (.iload_n 1, 1) := by decide +kernel
theorem dX7_soLong_1 : decode cX7_soLong 1 = .ok (.invokestatic 186, 3) := by decide +kernel
theorem dX7_soLong_4 : decode cX7_soLong 4 = .ok (.ifCond .eq 35, 3) := by decide +kernel
theorem dX7_soLong_7 : decode cX7_soLong 7 = .ok (.iload_n 2, 1) := by decide +kernel
theorem dX7_soLong_8 : decode cX7_soLong 8 = .ok (.i2l, 1) := by decide +kernel
theorem dX7_soLong_9 : decode cX7_soLong 9 = .ok (.lconst 0, 1) := by decide +kernel
theorem dX7_soLong_10 : decode cX7_soLong 10 = .ok (.ldc2_w 195, 3) := by decide +kernel
theorem dX7_soLong_13 : decode cX7_soLong 13 = .ok (.invokestatic 60, 3) := by decide +kernel
theorem dX7_soLong_16 : decode cX7_soLong 16 = .ok (.ifCond .eq 23, 3) := by decide +kernel
theorem dX7_soLong_19 : decode cX7_soLong 19 = .ok (.iload_n 3, 1) := by decide +kernel
theorem dX7_soLong_20 : decode cX7_soLong 20 = .ok (.i2l, 1) := by decide +kernel
theorem dX7_soLong_21 : decode cX7_soLong 21 = .ok (.ldc2_w 56, 3) := by decide +kernel
theorem dX7_soLong_24 : decode cX7_soLong 24 = .ok (.ldc2_w 195, 3) := by decide +kernel
theorem dX7_soLong_27 : decode cX7_soLong 27 = .ok (.invokestatic 60, 3) := by decide +kernel
theorem dX7_soLong_30 : decode cX7_soLong 30 = .ok (.ifCond .eq 9, 3) := by decide +kernel
theorem dX7_soLong_33 : decode cX7_soLong 33 = .ok (.iload 4, 2) := by decide +kernel
theorem dX7_soLong_35 : decode cX7_soLong 35 = .ok (.iconst (-1), 1) := by decide +kernel
theorem dX7_soLong_36 : decode cX7_soLong 36 = .ok (.if_icmp .ge 5, 3) := by decide +kernel
theorem dX7_soLong_39 : decode cX7_soLong 39 = .ok (.iconst (-1), 1) := by decide +kernel
theorem dX7_soLong_40 : decode cX7_soLong 40 = .ok (.ireturn, 1) := by decide +kernel
theorem dX7_soLong_41 : decode cX7_soLong 41 = .ok (.iconst 0, 1) := by decide +kernel
theorem dX7_soLong_42 : decode cX7_soLong 42 = .ok (.istore 5, 2) := by decide +kernel
theorem dX7_soLong_44 : decode cX7_soLong 44 = .ok (.iconst 2, 1) := by decide +kernel
theorem dX7_soLong_45 : decode cX7_soLong 45 = .ok (.istore 6, 2) := by decide +kernel
theorem dX7_soLong_47 : decode cX7_soLong 47 = .ok (.iload 6, 2) := by decide +kernel
theorem dX7_soLong_49 : decode cX7_soLong 49 = .ok (.iload_n 3, 1) := by decide +kernel
theorem dX7_soLong_50 : decode cX7_soLong 50 = .ok (.if_icmp .gt 32, 3) := by decide +kernel
theorem dX7_soLong_53 : decode cX7_soLong 53 = .ok (.iload_n 1, 1) := by decide +kernel
theorem dX7_soLong_54 : decode cX7_soLong 54 = .ok (.iload 6, 2) := by decide +kernel
theorem dX7_soLong_56 : decode cX7_soLong 56 = .ok (.invokestatic 192, 3) := by decide +kernel
theorem dX7_soLong_59 : decode cX7_soLong 59 = .ok (.iload_n 2, 1) := by decide +kernel
theorem dX7_soLong_60 : decode cX7_soLong 60 = .ok (.if_icmp .ne 16, 3) := by decide +kernel
theorem dX7_soLong_63 : decode cX7_soLong 63 = .ok (.iload 5, 2) := by decide +kernel
theorem dX7_soLong_65 : decode cX7_soLong 65 = .ok (.iload 4, 2) := by decide +kernel
theorem dX7_soLong_67 : decode cX7_soLong 67 = .ok (.if_icmp .ne 6, 3) := by decide +kernel
theorem dX7_soLong_70 : decode cX7_soLong 70 = .ok (.iload 6, 2) := by decide +kernel
theorem dX7_soLong_72 : decode cX7_soLong 72 = .ok (.ireturn, 1) := by decide +kernel
theorem dX7_soLong_73 : decode cX7_soLong 73 = .ok (.iinc 5 1, 3) := by decide +kernel
theorem dX7_soLong_76 : decode cX7_soLong 76 = .ok (.iinc 6 1, 3) := by decide +kernel
theorem dX7_soLong_79 : decode cX7_soLong 79 = .ok (.goto (-32), 3) := by decide +kernel
theorem dX7_soLong_82 : decode cX7_soLong 82 = .ok (.iload 4, 2) := by decide +kernel
theorem dX7_soLong_84 : decode cX7_soLong 84 = .ok (.ifCond .ge 8, 3) := by decide +kernel
theorem dX7_soLong_87 : decode cX7_soLong 87 = .ok (.iload 5, 2) := by decide +kernel
theorem dX7_soLong_89 : decode cX7_soLong 89 = .ok (.goto 5, 3) := by decide +kernel
theorem dX7_soLong_92 : decode cX7_soLong 92 = .ok (.bipush (-4), 2) := by decide +kernel
theorem dX7_soLong_94 : decode cX7_soLong 94 = .ok (.ireturn, 1) := by decide +kernel
set_option maxRecDepth 20000 in
theorem ggX7_turning_X7_isBase : GoodIn wsX7_turning wsX7_isBase := goodIn_r _ [4, 5, 6, 7, 8, 3, 9] (by decide +kernel) (by decide +kernel)
set_option maxRecDepth 20000 in
theorem gX7_turning_X7_isBase : GoodIn wsX7_turning (va_wsS RX7 186 yX7_isBase wsX7_isBase) := goodIn_app (goodIn_of _ (by decide +kernel)) ggX7_turning_X7_isBase
set_option maxRecDepth 20000 in
theorem ggX7_turning_X7_isBy : GoodIn wsX7_turning wsX7_isBy := goodIn_r _ [12, 5, 13, 7, 8, 3, 9] (by decide +kernel) (by decide +kernel)
set_option maxRecDepth 20000 in
theorem gX7_turning_X7_isBy : GoodIn wsX7_turning (va_wsS RX7 68 yX7_isBy wsX7_isBy) := goodIn_app (goodIn_of _ (by decide +kernel)) ggX7_turning_X7_isBy
set_option maxRecDepth 20000 in
theorem ggX7_turning_X7_in : GoodIn wsX7_turning wsX7_in := goodIn_r _ [9] (by decide +kernel) (by decide +kernel)
set_option maxRecDepth 20000 in
theorem gX7_turning_X7_in : GoodIn wsX7_turning (va_wsS RX7 60 yX7_in wsX7_in) := goodIn_app (goodIn_of _ (by decide +kernel)) ggX7_turning_X7_in
set_option maxRecDepth 20000 in
theorem ggX7_turning_X7_isPrime : GoodIn wsX7_turning wsX7_isPrime := goodIn_r _ [16] (by decide +kernel) (by decide +kernel)
set_option maxRecDepth 20000 in
theorem gX7_turning_X7_isPrime : GoodIn wsX7_turning (va_wsS RX7 174 yX7_isPrime wsX7_isPrime) := goodIn_app (goodIn_of _ (by decide +kernel)) ggX7_turning_X7_isPrime
set_option maxRecDepth 20000 in
theorem ggX7_turning_X7_roundOf : GoodIn wsX7_turning wsX7_roundOf := goodIn_r _ [19, 20, 21, 3, 22, 23, 24, 25] (by decide +kernel) (by decide +kernel)
set_option maxRecDepth 20000 in
theorem gX7_turning_X7_roundOf : GoodIn wsX7_turning (va_wsS RX7 192 yX7_roundOf wsX7_roundOf) := goodIn_app (goodIn_of _ (by decide +kernel)) ggX7_turning_X7_roundOf
theorem dX7_turning_0 : decode cX7_turning 0 = .ok (.iload_n 1, 1) := by decide +kernel
theorem dX7_turning_1 : decode cX7_turning 1 = .ok (.invokestatic 186, 3) := by decide +kernel
theorem dX7_turning_4 : decode cX7_turning 4 = .ok (.ifCond .eq 23, 3) := by decide +kernel
theorem dX7_turning_7 : decode cX7_turning 7 = .ok (.iload_n 2, 1) := by decide +kernel
theorem dX7_turning_8 : decode cX7_turning 8 = .ok (.invokestatic 68, 3) := by decide +kernel
theorem dX7_turning_11 : decode cX7_turning 11 = .ok (.ifCond .eq 16, 3) := by decide +kernel
theorem dX7_turning_14 : decode cX7_turning 14 = .ok (.iload_n 3, 1) := by decide +kernel
theorem dX7_turning_15 : decode cX7_turning 15 = .ok (.i2l, 1) := by decide +kernel
theorem dX7_turning_16 : decode cX7_turning 16 = .ok (.lconst 1, 1) := by decide +kernel
theorem dX7_turning_17 : decode cX7_turning 17 = .ok (.iload_n 2, 1) := by decide +kernel
theorem dX7_turning_18 : decode cX7_turning 18 = .ok (.iconst 1, 1) := by decide +kernel
theorem dX7_turning_19 : decode cX7_turning 19 = .ok (.isub, 1) := by decide +kernel
theorem dX7_turning_20 : decode cX7_turning 20 = .ok (.i2l, 1) := by decide +kernel
theorem dX7_turning_21 : decode cX7_turning 21 = .ok (.invokestatic 60, 3) := by decide +kernel
theorem dX7_turning_24 : decode cX7_turning 24 = .ok (.ifCond .ne 5, 3) := by decide +kernel
theorem dX7_turning_27 : decode cX7_turning 27 = .ok (.iconst (-1), 1) := by decide +kernel
theorem dX7_turning_28 : decode cX7_turning 28 = .ok (.ireturn, 1) := by decide +kernel
theorem dX7_turning_29 : decode cX7_turning 29 = .ok (.iload_n 2, 1) := by decide +kernel
theorem dX7_turning_30 : decode cX7_turning 30 = .ok (.invokestatic 174, 3) := by decide +kernel
theorem dX7_turning_33 : decode cX7_turning 33 = .ok (.ifCond .eq 20, 3) := by decide +kernel
theorem dX7_turning_36 : decode cX7_turning 36 = .ok (.iload_n 1, 1) := by decide +kernel
theorem dX7_turning_37 : decode cX7_turning 37 = .ok (.iload_n 2, 1) := by decide +kernel
theorem dX7_turning_38 : decode cX7_turning 38 = .ok (.irem, 1) := by decide +kernel
theorem dX7_turning_39 : decode cX7_turning 39 = .ok (.ifCond .eq 14, 3) := by decide +kernel
theorem dX7_turning_42 : decode cX7_turning 42 = .ok (.iload_n 1, 1) := by decide +kernel
theorem dX7_turning_43 : decode cX7_turning 43 = .ok (.iload_n 2, 1) := by decide +kernel
theorem dX7_turning_44 : decode cX7_turning 44 = .ok (.invokestatic 192, 3) := by decide +kernel
theorem dX7_turning_47 : decode cX7_turning 47 = .ok (.iload_n 2, 1) := by decide +kernel
theorem dX7_turning_48 : decode cX7_turning 48 = .ok (.iconst 1, 1) := by decide +kernel
theorem dX7_turning_49 : decode cX7_turning 49 = .ok (.isub, 1) := by decide +kernel
theorem dX7_turning_50 : decode cX7_turning 50 = .ok (.if_icmp .eq 6, 3) := by decide +kernel
theorem dX7_turning_53 : decode cX7_turning 53 = .ok (.bipush (-2), 2) := by decide +kernel
theorem dX7_turning_55 : decode cX7_turning 55 = .ok (.ireturn, 1) := by decide +kernel
theorem dX7_turning_56 : decode cX7_turning 56 = .ok (.lconst 1, 1) := by decide +kernel
theorem dX7_turning_57 : decode cX7_turning 57 = .ok (.lstore 4, 2) := by decide +kernel
theorem dX7_turning_59 : decode cX7_turning 59 = .ok (.iconst 0, 1) := by decide +kernel
theorem dX7_turning_60 : decode cX7_turning 60 = .ok (.istore 6, 2) := by decide +kernel
theorem dX7_turning_62 : decode cX7_turning 62 = .ok (.lload 4, 2) := by decide +kernel
theorem dX7_turning_64 : decode cX7_turning 64 = .ok (.iload_n 3, 1) := by decide +kernel
theorem dX7_turning_65 : decode cX7_turning 65 = .ok (.i2l, 1) := by decide +kernel
theorem dX7_turning_66 : decode cX7_turning 66 = .ok (.lcmp, 1) := by decide +kernel
theorem dX7_turning_67 : decode cX7_turning 67 = .ok (.ifCond .eq 19, 3) := by decide +kernel
theorem dX7_turning_70 : decode cX7_turning 70 = .ok (.lload 4, 2) := by decide +kernel
theorem dX7_turning_72 : decode cX7_turning 72 = .ok (.iload_n 1, 1) := by decide +kernel
theorem dX7_turning_73 : decode cX7_turning 73 = .ok (.i2l, 1) := by decide +kernel
theorem dX7_turning_74 : decode cX7_turning 74 = .ok (.lmul, 1) := by decide +kernel
theorem dX7_turning_75 : decode cX7_turning 75 = .ok (.iload_n 2, 1) := by decide +kernel
theorem dX7_turning_76 : decode cX7_turning 76 = .ok (.i2l, 1) := by decide +kernel
theorem dX7_turning_77 : decode cX7_turning 77 = .ok (.lrem, 1) := by decide +kernel
theorem dX7_turning_78 : decode cX7_turning 78 = .ok (.lstore 4, 2) := by decide +kernel
theorem dX7_turning_80 : decode cX7_turning 80 = .ok (.iinc 6 1, 3) := by decide +kernel
theorem dX7_turning_83 : decode cX7_turning 83 = .ok (.goto (-21), 3) := by decide +kernel
theorem dX7_turning_86 : decode cX7_turning 86 = .ok (.iload 6, 2) := by decide +kernel
theorem dX7_turning_88 : decode cX7_turning 88 = .ok (.ireturn, 1) := by decide +kernel
theorem dX7_share_0 : decode cX7_share 0 = .ok (.iload_n 0, 1) := by decide +kernel
theorem dX7_share_1 : decode cX7_share 1 = .ok (.istore_n 1, 1) := by decide +kernel
theorem dX7_share_2 : decode cX7_share 2 = .ok (.iload_n 0, 1) := by decide +kernel
theorem dX7_share_3 : decode cX7_share 3 = .ok (.istore_n 2, 1) := by decide +kernel
theorem dX7_share_4 : decode cX7_share 4 = .ok (.iconst 2, 1) := by decide +kernel
theorem dX7_share_5 : decode cX7_share 5 = .ok (.istore_n 3, 1) := by decide +kernel
theorem dX7_share_6 : decode cX7_share 6 = .ok (.iload_n 3, 1) := by decide +kernel
theorem dX7_share_7 : decode cX7_share 7 = .ok (.iload_n 3, 1) := by decide +kernel
theorem dX7_share_8 : decode cX7_share 8 = .ok (.imul, 1) := by decide +kernel
theorem dX7_share_9 : decode cX7_share 9 = .ok (.iload_n 2, 1) := by decide +kernel
theorem dX7_share_10 : decode cX7_share 10 = .ok (.if_icmp .gt 36, 3) := by decide +kernel
theorem dX7_share_13 : decode cX7_share 13 = .ok (.iload_n 2, 1) := by decide +kernel
theorem dX7_share_14 : decode cX7_share 14 = .ok (.iload_n 3, 1) := by decide +kernel
theorem dX7_share_15 : decode cX7_share 15 = .ok (.irem, 1) := by decide +kernel
theorem dX7_share_16 : decode cX7_share 16 = .ok (.ifCond .ne 24, 3) := by decide +kernel
theorem dX7_share_19 : decode cX7_share 19 = .ok (.iload_n 1, 1) := by decide +kernel
theorem dX7_share_20 : decode cX7_share 20 = .ok (.iload_n 3, 1) := by decide +kernel
theorem dX7_share_21 : decode cX7_share 21 = .ok (.idiv, 1) := by decide +kernel
theorem dX7_share_22 : decode cX7_share 22 = .ok (.iload_n 3, 1) := by decide +kernel
theorem dX7_share_23 : decode cX7_share 23 = .ok (.iconst 1, 1) := by decide +kernel
theorem dX7_share_24 : decode cX7_share 24 = .ok (.isub, 1) := by decide +kernel
theorem dX7_share_25 : decode cX7_share 25 = .ok (.imul, 1) := by decide +kernel
theorem dX7_share_26 : decode cX7_share 26 = .ok (.istore_n 1, 1) := by decide +kernel
theorem dX7_share_27 : decode cX7_share 27 = .ok (.iload_n 2, 1) := by decide +kernel
theorem dX7_share_28 : decode cX7_share 28 = .ok (.iload_n 3, 1) := by decide +kernel
theorem dX7_share_29 : decode cX7_share 29 = .ok (.irem, 1) := by decide +kernel
theorem dX7_share_30 : decode cX7_share 30 = .ok (.ifCond .ne 10, 3) := by decide +kernel
theorem dX7_share_33 : decode cX7_share 33 = .ok (.iload_n 2, 1) := by decide +kernel
theorem dX7_share_34 : decode cX7_share 34 = .ok (.iload_n 3, 1) := by decide +kernel
theorem dX7_share_35 : decode cX7_share 35 = .ok (.idiv, 1) := by decide +kernel
theorem dX7_share_36 : decode cX7_share 36 = .ok (.istore_n 2, 1) := by decide +kernel
theorem dX7_share_37 : decode cX7_share 37 = .ok (.goto (-10), 3) := by decide +kernel
theorem dX7_share_40 : decode cX7_share 40 = .ok (.iinc 3 1, 3) := by decide +kernel
theorem dX7_share_43 : decode cX7_share 43 = .ok (.goto (-37), 3) := by decide +kernel
theorem dX7_share_46 : decode cX7_share 46 = .ok (.iload_n 2, 1) := by decide +kernel
theorem dX7_share_47 : decode cX7_share 47 = .ok (.iconst 1, 1) := by decide +kernel
theorem dX7_share_48 : decode cX7_share 48 = .ok (.if_icmp .le 13, 3) := by decide +kernel
theorem dX7_share_51 : decode cX7_share 51 = .ok (.iload_n 1, 1) := by decide +kernel
theorem dX7_share_52 : decode cX7_share 52 = .ok (.iload_n 2, 1) := by decide +kernel
theorem dX7_share_53 : decode cX7_share 53 = .ok (.idiv, 1) := by decide +kernel
theorem dX7_share_54 : decode cX7_share 54 = .ok (.iload_n 2, 1) := by decide +kernel
theorem dX7_share_55 : decode cX7_share 55 = .ok (.iconst 1, 1) := by decide +kernel
theorem dX7_share_56 : decode cX7_share 56 = .ok (.isub, 1) := by decide +kernel
theorem dX7_share_57 : decode cX7_share 57 = .ok (.imul, 1) := by decide +kernel
theorem dX7_share_58 : decode cX7_share 58 = .ok (.goto 4, 3) := by decide +kernel
theorem dX7_share_61 : decode cX7_share 61 = .ok (.iload_n 1, 1) := by decide +kernel
theorem dX7_share_62 : decode cX7_share 62 = .ok (.ireturn, 1) := by decide +kernel
theorem dX7_lift_0 : decode cX7_lift 0 = .ok (.lload_n 0, 1) := by decide +kernel
theorem dX7_lift_1 : decode cX7_lift 1 = .ok (.lload_n 2, 1) := by decide +kernel
theorem dX7_lift_2 : decode cX7_lift 2 = .ok (.lcmp, 1) := by decide +kernel
theorem dX7_lift_3 : decode cX7_lift 3 = .ok (.ifCond .ge 7, 3) := by decide +kernel
theorem dX7_lift_6 : decode cX7_lift 6 = .ok (.lload_n 0, 1) := by decide +kernel
theorem dX7_lift_7 : decode cX7_lift 7 = .ok (.goto 8, 3) := by decide +kernel
theorem dX7_lift_10 : decode cX7_lift 10 = .ok (.lload_n 0, 1) := by decide +kernel
theorem dX7_lift_11 : decode cX7_lift 11 = .ok (.lload_n 2, 1) := by decide +kernel
theorem dX7_lift_12 : decode cX7_lift 12 = .ok (.lrem, 1) := by decide +kernel
theorem dX7_lift_13 : decode cX7_lift 13 = .ok (.lload_n 2, 1) := by decide +kernel
theorem dX7_lift_14 : decode cX7_lift 14 = .ok (.ladd, 1) := by decide +kernel
theorem dX7_lift_15 : decode cX7_lift 15 = .ok (.lreturn, 1) := by decide +kernel
set_option maxRecDepth 20000 in
theorem ggX7_tower_X7_isBy : GoodIn wsX7_tower wsX7_isBy := goodIn_r _ [9, 5, 10, 11, 12, 8, 13] (by decide +kernel) (by decide +kernel)
set_option maxRecDepth 20000 in
theorem gX7_tower_X7_isBy : GoodIn wsX7_tower (va_wsS RX7 68 yX7_isBy wsX7_isBy) := goodIn_app (goodIn_of _ (by decide +kernel)) ggX7_tower_X7_isBy
set_option maxRecDepth 20000 in
theorem ggX7_tower_X7_in : GoodIn wsX7_tower wsX7_in := goodIn_r _ [13] (by decide +kernel) (by decide +kernel)
set_option maxRecDepth 20000 in
theorem gX7_tower_X7_in : GoodIn wsX7_tower (va_wsS RX7 60 yX7_in wsX7_in) := goodIn_app (goodIn_of _ (by decide +kernel)) ggX7_tower_X7_in
set_option maxRecDepth 20000 in
theorem ggX7_tower_X7_share : GoodIn wsX7_tower wsX7_share := goodIn_r _ [16] (by decide +kernel) (by decide +kernel)
set_option maxRecDepth 20000 in
theorem gX7_tower_X7_share : GoodIn wsX7_tower (va_wsS RX7 203 yX7_share wsX7_share) := goodIn_app (goodIn_of _ (by decide +kernel)) ggX7_tower_X7_share
set_option maxRecDepth 20000 in
theorem ggX7_tower_X7_lift : GoodIn wsX7_tower wsX7_lift := goodIn_r _ [19] (by decide +kernel) (by decide +kernel)
set_option maxRecDepth 20000 in
theorem gX7_tower_X7_lift : GoodIn wsX7_tower (va_wsS RX7 206 yX7_lift wsX7_lift) := goodIn_app (goodIn_of _ (by decide +kernel)) ggX7_tower_X7_lift
theorem dX7_tower_0 : decode cX7_tower 0 = .ok (.iload_n 1, 1) := by decide +kernel
theorem dX7_tower_1 : decode cX7_tower 1 = .ok (.invokestatic 68, 3) := by decide +kernel
theorem dX7_tower_4 : decode cX7_tower 4 = .ok (.ifCond .eq 32, 3) := by decide +kernel
theorem dX7_tower_7 : decode cX7_tower 7 = .ok (.iload_n 2, 1) := by decide +kernel
theorem dX7_tower_8 : decode cX7_tower 8 = .ok (.i2l, 1) := by decide +kernel
theorem dX7_tower_9 : decode cX7_tower 9 = .ok (.lconst 1, 1) := by decide +kernel
theorem dX7_tower_10 : decode cX7_tower 10 = .ok (.ldc2_w 197, 3) := by decide +kernel
theorem dX7_tower_13 : decode cX7_tower 13 = .ok (.invokestatic 60, 3) := by decide +kernel
theorem dX7_tower_16 : decode cX7_tower 16 = .ok (.ifCond .eq 20, 3) := by decide +kernel
theorem dX7_tower_19 : decode cX7_tower 19 = .ok (.lload_n 3, 1) := by decide +kernel
theorem dX7_tower_20 : decode cX7_tower 20 = .ok (.lconst 0, 1) := by decide +kernel
theorem dX7_tower_21 : decode cX7_tower 21 = .ok (.lcmp, 1) := by decide +kernel
theorem dX7_tower_22 : decode cX7_tower 22 = .ok (.ifCond .lt 14, 3) := by decide +kernel
theorem dX7_tower_25 : decode cX7_tower 25 = .ok (.lload_n 3, 1) := by decide +kernel
theorem dX7_tower_26 : decode cX7_tower 26 = .ok (.bipush 10, 2) := by decide +kernel
theorem dX7_tower_28 : decode cX7_tower 28 = .ok (.iload_n 2, 1) := by decide +kernel
theorem dX7_tower_29 : decode cX7_tower 29 = .ok (.imul, 1) := by decide +kernel
theorem dX7_tower_30 : decode cX7_tower 30 = .ok (.lshr, 1) := by decide +kernel
theorem dX7_tower_31 : decode cX7_tower 31 = .ok (.lconst 0, 1) := by decide +kernel
theorem dX7_tower_32 : decode cX7_tower 32 = .ok (.lcmp, 1) := by decide +kernel
theorem dX7_tower_33 : decode cX7_tower 33 = .ok (.ifCond .eq 5, 3) := by decide +kernel
theorem dX7_tower_36 : decode cX7_tower 36 = .ok (.iconst (-1), 1) := by decide +kernel
theorem dX7_tower_37 : decode cX7_tower 37 = .ok (.ireturn, 1) := by decide +kernel
theorem dX7_tower_38 : decode cX7_tower 38 = .ok (.aload_n 0, 1) := by decide +kernel
theorem dX7_tower_39 : decode cX7_tower 39 = .ok (.getfield 53, 3) := by decide +kernel
theorem dX7_tower_42 : decode cX7_tower 42 = .ok (.iconst 0, 1) := by decide +kernel
theorem dX7_tower_43 : decode cX7_tower 43 = .ok (.iload_n 1, 1) := by decide +kernel
theorem dX7_tower_44 : decode cX7_tower 44 = .ok (.iastore, 1) := by decide +kernel
theorem dX7_tower_45 : decode cX7_tower 45 = .ok (.iconst 0, 1) := by decide +kernel
theorem dX7_tower_46 : decode cX7_tower 46 = .ok (.istore 5, 2) := by decide +kernel
theorem dX7_tower_48 : decode cX7_tower 48 = .ok (.iload 5, 2) := by decide +kernel
theorem dX7_tower_50 : decode cX7_tower 50 = .ok (.iload_n 2, 1) := by decide +kernel
theorem dX7_tower_51 : decode cX7_tower 51 = .ok (.if_icmp .ge 60, 3) := by decide +kernel
theorem dX7_tower_54 : decode cX7_tower 54 = .ok (.lload_n 3, 1) := by decide +kernel
theorem dX7_tower_55 : decode cX7_tower 55 = .ok (.bipush 10, 2) := by decide +kernel
theorem dX7_tower_57 : decode cX7_tower 57 = .ok (.iload_n 2, 1) := by decide +kernel
theorem dX7_tower_58 : decode cX7_tower 58 = .ok (.iconst 1, 1) := by decide +kernel
theorem dX7_tower_59 : decode cX7_tower 59 = .ok (.isub, 1) := by decide +kernel
theorem dX7_tower_60 : decode cX7_tower 60 = .ok (.iload 5, 2) := by decide +kernel
theorem dX7_tower_62 : decode cX7_tower 62 = .ok (.isub, 1) := by decide +kernel
theorem dX7_tower_63 : decode cX7_tower 63 = .ok (.imul, 1) := by decide +kernel
theorem dX7_tower_64 : decode cX7_tower 64 = .ok (.lshr, 1) := by decide +kernel
theorem dX7_tower_65 : decode cX7_tower 65 = .ok (.ldc2_w 199, 3) := by decide +kernel
theorem dX7_tower_68 : decode cX7_tower 68 = .ok (.land, 1) := by decide +kernel
theorem dX7_tower_69 : decode cX7_tower 69 = .ok (.lconst 1, 1) := by decide +kernel
theorem dX7_tower_70 : decode cX7_tower 70 = .ok (.ldc2_w 201, 3) := by decide +kernel
theorem dX7_tower_73 : decode cX7_tower 73 = .ok (.invokestatic 60, 3) := by decide +kernel
theorem dX7_tower_76 : decode cX7_tower 76 = .ok (.ifCond .ne 5, 3) := by decide +kernel
theorem dX7_tower_79 : decode cX7_tower 79 = .ok (.iconst (-1), 1) := by decide +kernel
theorem dX7_tower_80 : decode cX7_tower 80 = .ok (.ireturn, 1) := by decide +kernel
theorem dX7_tower_81 : decode cX7_tower 81 = .ok (.iload 5, 2) := by decide +kernel
theorem dX7_tower_83 : decode cX7_tower 83 = .ok (.ifCond .le 22, 3) := by decide +kernel
theorem dX7_tower_86 : decode cX7_tower 86 = .ok (.aload_n 0, 1) := by decide +kernel
theorem dX7_tower_87 : decode cX7_tower 87 = .ok (.getfield 53, 3) := by decide +kernel
theorem dX7_tower_90 : decode cX7_tower 90 = .ok (.iload 5, 2) := by decide +kernel
theorem dX7_tower_92 : decode cX7_tower 92 = .ok (.aload_n 0, 1) := by decide +kernel
theorem dX7_tower_93 : decode cX7_tower 93 = .ok (.getfield 53, 3) := by decide +kernel
theorem dX7_tower_96 : decode cX7_tower 96 = .ok (.iload 5, 2) := by decide +kernel
theorem dX7_tower_98 : decode cX7_tower 98 = .ok (.iconst 1, 1) := by decide +kernel
theorem dX7_tower_99 : decode cX7_tower 99 = .ok (.isub, 1) := by decide +kernel
theorem dX7_tower_100 : decode cX7_tower 100 = .ok (.iaload, 1) := by decide +kernel
theorem dX7_tower_101 : decode cX7_tower 101 = .ok (.invokestatic 203, 3) := by decide +kernel
theorem dX7_tower_104 : decode cX7_tower 104 = .ok (.iastore, 1) := by decide +kernel
theorem dX7_tower_105 : decode cX7_tower 105 = .ok (.iinc 5 1, 3) := by decide +kernel
theorem dX7_tower_108 : decode cX7_tower 108 = .ok (.goto (-60), 3) := by decide +kernel
theorem dX7_tower_111 : decode cX7_tower 111 = .ok (.lconst 1, 1) := by decide +kernel
theorem dX7_tower_112 : decode cX7_tower 112 = .ok (.lstore 5, 2) := by decide +kernel
theorem dX7_tower_114 : decode cX7_tower 114 = .ok (.iload_n 2, 1) := by decide +kernel
theorem dX7_tower_115 : decode cX7_tower 115 = .ok (.iconst 1, 1) := by decide +kernel
theorem dX7_tower_116 : decode cX7_tower 116 = .ok (.isub, 1) := by decide +kernel
theorem dX7_tower_117 : decode cX7_tower 117 = .ok (.istore 7, 2) := by decide +kernel
theorem dX7_tower_119 : decode cX7_tower 119 = .ok (.iload 7, 2) := by decide +kernel
theorem dX7_tower_121 : decode cX7_tower 121 = .ok (.ifCond .lt 110, 3) := by decide +kernel
theorem dX7_tower_124 : decode cX7_tower 124 = .ok (.aload_n 0, 1) := by decide +kernel
theorem dX7_tower_125 : decode cX7_tower 125 = .ok (.getfield 53, 3) := by decide +kernel
theorem dX7_tower_128 : decode cX7_tower 128 = .ok (.iload 7, 2) := by decide +kernel
theorem dX7_tower_130 : decode cX7_tower 130 = .ok (.iaload, 1) := by decide +kernel
theorem dX7_tower_131 : decode cX7_tower 131 = .ok (.i2l, 1) := by decide +kernel
theorem dX7_tower_132 : decode cX7_tower 132 = .ok (.lstore 8, 2) := by decide +kernel
theorem dX7_tower_134 : decode cX7_tower 134 = .ok (.lload_n 3, 1) := by decide +kernel
theorem dX7_tower_135 : decode cX7_tower 135 = .ok (.bipush 10, 2) := by decide +kernel
theorem dX7_tower_137 : decode cX7_tower 137 = .ok (.iload_n 2, 1) := by decide +kernel
theorem dX7_tower_138 : decode cX7_tower 138 = .ok (.iconst 1, 1) := by decide +kernel
theorem dX7_tower_139 : decode cX7_tower 139 = .ok (.isub, 1) := by decide +kernel
theorem dX7_tower_140 : decode cX7_tower 140 = .ok (.iload 7, 2) := by decide +kernel
theorem dX7_tower_142 : decode cX7_tower 142 = .ok (.isub, 1) := by decide +kernel
theorem dX7_tower_143 : decode cX7_tower 143 = .ok (.imul, 1) := by decide +kernel
theorem dX7_tower_144 : decode cX7_tower 144 = .ok (.lshr, 1) := by decide +kernel
theorem dX7_tower_145 : decode cX7_tower 145 = .ok (.ldc2_w 199, 3) := by decide +kernel
theorem dX7_tower_148 : decode cX7_tower 148 = .ok (.land, 1) := by decide +kernel
theorem dX7_tower_149 : decode cX7_tower 149 = .ok (.lload 8, 2) := by decide +kernel
theorem dX7_tower_151 : decode cX7_tower 151 = .ok (.invokestatic 206, 3) := by decide +kernel
theorem dX7_tower_154 : decode cX7_tower 154 = .ok (.lstore 10, 2) := by decide +kernel
theorem dX7_tower_156 : decode cX7_tower 156 = .ok (.lconst 1, 1) := by decide +kernel
theorem dX7_tower_157 : decode cX7_tower 157 = .ok (.lstore 12, 2) := by decide +kernel
theorem dX7_tower_159 : decode cX7_tower 159 = .ok (.lload 5, 2) := by decide +kernel
theorem dX7_tower_161 : decode cX7_tower 161 = .ok (.lstore 14, 2) := by decide +kernel
theorem dX7_tower_163 : decode cX7_tower 163 = .ok (.lload 14, 2) := by decide +kernel
theorem dX7_tower_165 : decode cX7_tower 165 = .ok (.lconst 0, 1) := by decide +kernel
theorem dX7_tower_166 : decode cX7_tower 166 = .ok (.lcmp, 1) := by decide +kernel
theorem dX7_tower_167 : decode cX7_tower 167 = .ok (.ifCond .le 54, 3) := by decide +kernel
theorem dX7_tower_170 : decode cX7_tower 170 = .ok (.lload 14, 2) := by decide +kernel
theorem dX7_tower_172 : decode cX7_tower 172 = .ok (.ldc2_w 56, 3) := by decide +kernel
theorem dX7_tower_175 : decode cX7_tower 175 = .ok (.lrem, 1) := by decide +kernel
theorem dX7_tower_176 : decode cX7_tower 176 = .ok (.lconst 1, 1) := by decide +kernel
theorem dX7_tower_177 : decode cX7_tower 177 = .ok (.lcmp, 1) := by decide +kernel
theorem dX7_tower_178 : decode cX7_tower 178 = .ok (.ifCond .ne 16, 3) := by decide +kernel
theorem dX7_tower_181 : decode cX7_tower 181 = .ok (.lload 12, 2) := by decide +kernel
theorem dX7_tower_183 : decode cX7_tower 183 = .ok (.lload 10, 2) := by decide +kernel
theorem dX7_tower_185 : decode cX7_tower 185 = .ok (.lmul, 1) := by decide +kernel
theorem dX7_tower_186 : decode cX7_tower 186 = .ok (.lload 8, 2) := by decide +kernel
theorem dX7_tower_188 : decode cX7_tower 188 = .ok (.invokestatic 206, 3) := by decide +kernel
theorem dX7_tower_191 : decode cX7_tower 191 = .ok (.goto 5, 3) := by decide +kernel
theorem dX7_tower_194 : decode cX7_tower 194 = .ok (.lload 12, 2) := by decide +kernel
theorem dX7_tower_196 : decode cX7_tower 196 = .ok (.lstore 12, 2) := by decide +kernel
theorem dX7_tower_198 : decode cX7_tower 198 = .ok (.lload 10, 2) := by decide +kernel
theorem dX7_tower_200 : decode cX7_tower 200 = .ok (.lload 10, 2) := by decide +kernel
theorem dX7_tower_202 : decode cX7_tower 202 = .ok (.lmul, 1) := by decide +kernel
theorem dX7_tower_203 : decode cX7_tower 203 = .ok (.lload 8, 2) := by decide +kernel
theorem dX7_tower_205 : decode cX7_tower 205 = .ok (.invokestatic 206, 3) := by decide +kernel
theorem dX7_tower_208 : decode cX7_tower 208 = .ok (.lstore 10, 2) := by decide +kernel
theorem dX7_tower_210 : decode cX7_tower 210 = .ok (.lload 14, 2) := by decide +kernel
theorem dX7_tower_212 : decode cX7_tower 212 = .ok (.ldc2_w 56, 3) := by decide +kernel
theorem dX7_tower_215 : decode cX7_tower 215 = .ok (.ldiv, 1) := by decide +kernel
theorem dX7_tower_216 : decode cX7_tower 216 = .ok (.lstore 14, 2) := by decide +kernel
theorem dX7_tower_218 : decode cX7_tower 218 = .ok (.goto (-55), 3) := by decide +kernel
theorem dX7_tower_221 : decode cX7_tower 221 = .ok (.lload 12, 2) := by decide +kernel
theorem dX7_tower_223 : decode cX7_tower 223 = .ok (.lstore 5, 2) := by decide +kernel
theorem dX7_tower_225 : decode cX7_tower 225 = .ok (.iinc 7 (-1), 3) := by decide +kernel
theorem dX7_tower_228 : decode cX7_tower 228 = .ok (.goto (-109), 3) := by decide +kernel
theorem dX7_tower_231 : decode cX7_tower 231 = .ok (.lload 5, 2) := by decide +kernel
theorem dX7_tower_233 : decode cX7_tower 233 = .ok (.iload_n 1, 1) := by decide +kernel
theorem dX7_tower_234 : decode cX7_tower 234 = .ok (.i2l, 1) := by decide +kernel
theorem dX7_tower_235 : decode cX7_tower 235 = .ok (.lrem, 1) := by decide +kernel
theorem dX7_tower_236 : decode cX7_tower 236 = .ok (.l2i, 1) := by decide +kernel
theorem dX7_tower_237 : decode cX7_tower 237 = .ok (.ireturn, 1) := by decide +kernel
set_option maxRecDepth 20000 in
theorem ggX7_isPair_X7_in : GoodIn wsX7_isPair wsX7_in := goodIn_r _ [6] (by decide +kernel) (by decide +kernel)
set_option maxRecDepth 20000 in
theorem gX7_isPair_X7_in : GoodIn wsX7_isPair (va_wsS RX7 60 yX7_in wsX7_in) := goodIn_app (goodIn_of _ (by decide +kernel)) ggX7_isPair_X7_in
set_option maxRecDepth 20000 in
theorem ggX7_isPair_X7_isPrime : GoodIn wsX7_isPair wsX7_isPrime := goodIn_r _ [9] (by decide +kernel) (by decide +kernel)
set_option maxRecDepth 20000 in
theorem gX7_isPair_X7_isPrime : GoodIn wsX7_isPair (va_wsS RX7 174 yX7_isPrime wsX7_isPrime) := goodIn_app (goodIn_of _ (by decide +kernel)) ggX7_isPair_X7_isPrime
theorem dX7_isPair_0 : decode cX7_isPair 0 = .ok (.iload_n 0, 1) := by decide +kernel
theorem dX7_isPair_1 : decode cX7_isPair 1 = .ok (.i2l, 1) := by decide +kernel
theorem dX7_isPair_2 : decode cX7_isPair 2 = .ok (.ldc2_w 56, 3) := by decide +kernel
theorem dX7_isPair_5 : decode cX7_isPair 5 = .ok (.ldc2_w 210, 3) := by decide +kernel
theorem dX7_isPair_8 : decode cX7_isPair 8 = .ok (.invokestatic 60, 3) := by decide +kernel
theorem dX7_isPair_11 : decode cX7_isPair 11 = .ok (.ifCond .eq 40, 3) := by decide +kernel
theorem dX7_isPair_14 : decode cX7_isPair 14 = .ok (.iload_n 1, 1) := by decide +kernel
theorem dX7_isPair_15 : decode cX7_isPair 15 = .ok (.i2l, 1) := by decide +kernel
theorem dX7_isPair_16 : decode cX7_isPair 16 = .ok (.ldc2_w 56, 3) := by decide +kernel
theorem dX7_isPair_19 : decode cX7_isPair 19 = .ok (.ldc2_w 210, 3) := by decide +kernel
theorem dX7_isPair_22 : decode cX7_isPair 22 = .ok (.invokestatic 60, 3) := by decide +kernel
theorem dX7_isPair_25 : decode cX7_isPair 25 = .ok (.ifCond .eq 26, 3) := by decide +kernel
theorem dX7_isPair_28 : decode cX7_isPair 28 = .ok (.iload_n 0, 1) := by decide +kernel
theorem dX7_isPair_29 : decode cX7_isPair 29 = .ok (.iload_n 1, 1) := by decide +kernel
theorem dX7_isPair_30 : decode cX7_isPair 30 = .ok (.if_icmp .eq 21, 3) := by decide +kernel
theorem dX7_isPair_33 : decode cX7_isPair 33 = .ok (.iload_n 0, 1) := by decide +kernel
theorem dX7_isPair_34 : decode cX7_isPair 34 = .ok (.invokestatic 174, 3) := by decide +kernel
theorem dX7_isPair_37 : decode cX7_isPair 37 = .ok (.ifCond .eq 14, 3) := by decide +kernel
theorem dX7_isPair_40 : decode cX7_isPair 40 = .ok (.iload_n 1, 1) := by decide +kernel
theorem dX7_isPair_41 : decode cX7_isPair 41 = .ok (.invokestatic 174, 3) := by decide +kernel
theorem dX7_isPair_44 : decode cX7_isPair 44 = .ok (.ifCond .eq 7, 3) := by decide +kernel
theorem dX7_isPair_47 : decode cX7_isPair 47 = .ok (.iconst 1, 1) := by decide +kernel
theorem dX7_isPair_48 : decode cX7_isPair 48 = .ok (.goto 4, 3) := by decide +kernel
theorem dX7_isPair_51 : decode cX7_isPair 51 = .ok (.iconst 0, 1) := by decide +kernel
theorem dX7_isPair_52 : decode cX7_isPair 52 = .ok (.ireturn, 1) := by decide +kernel
set_option maxRecDepth 20000 in
theorem ggX7_isFree_X7_common : GoodIn wsX7_isFree wsX7_common := goodIn_r _ [4] (by decide +kernel) (by decide +kernel)
set_option maxRecDepth 20000 in
theorem gX7_isFree_X7_common : GoodIn wsX7_isFree (va_wsS RX7 64 yX7_common wsX7_common) := goodIn_app (goodIn_of _ (by decide +kernel)) ggX7_isFree_X7_common
theorem dX7_isFree_0 : decode cX7_isFree 0 = .ok (.iload_n 0, 1) := by decide +kernel
theorem dX7_isFree_1 : decode cX7_isFree 1 = .ok (.iconst 1, 1) := by decide +kernel
theorem dX7_isFree_2 : decode cX7_isFree 2 = .ok (.isub, 1) := by decide +kernel
theorem dX7_isFree_3 : decode cX7_isFree 3 = .ok (.iload_n 1, 1) := by decide +kernel
theorem dX7_isFree_4 : decode cX7_isFree 4 = .ok (.iconst 1, 1) := by decide +kernel
theorem dX7_isFree_5 : decode cX7_isFree 5 = .ok (.isub, 1) := by decide +kernel
theorem dX7_isFree_6 : decode cX7_isFree 6 = .ok (.imul, 1) := by decide +kernel
theorem dX7_isFree_7 : decode cX7_isFree 7 = .ok (.iload_n 2, 1) := by decide +kernel
theorem dX7_isFree_8 : decode cX7_isFree 8 = .ok (.invokestatic 64, 3) := by decide +kernel
theorem dX7_isFree_11 : decode cX7_isFree 11 = .ok (.iconst 1, 1) := by decide +kernel
theorem dX7_isFree_12 : decode cX7_isFree 12 = .ok (.if_icmp .ne 7, 3) := by decide +kernel
theorem dX7_isFree_15 : decode cX7_isFree 15 = .ok (.iconst 1, 1) := by decide +kernel
theorem dX7_isFree_16 : decode cX7_isFree 16 = .ok (.goto 4, 3) := by decide +kernel
theorem dX7_isFree_19 : decode cX7_isFree 19 = .ok (.iconst 0, 1) := by decide +kernel
theorem dX7_isFree_20 : decode cX7_isFree 20 = .ok (.ireturn, 1) := by decide +kernel
set_option maxRecDepth 20000 in
theorem ggX7_both_X7_common : GoodIn wsX7_both wsX7_common := goodIn_r _ [4] (by decide +kernel) (by decide +kernel)
set_option maxRecDepth 20000 in
theorem gX7_both_X7_common : GoodIn wsX7_both (va_wsS RX7 64 yX7_common wsX7_common) := goodIn_app (goodIn_of _ (by decide +kernel)) ggX7_both_X7_common
theorem dX7_both_0 : decode cX7_both 0 = .ok (.iload_n 0, 1) := by decide +kernel
theorem dX7_both_1 : decode cX7_both 1 = .ok (.iconst 1, 1) := by decide +kernel
theorem dX7_both_2 : decode cX7_both 2 = .ok (.isub, 1) := by decide +kernel
theorem dX7_both_3 : decode cX7_both 3 = .ok (.iload_n 0, 1) := by decide +kernel
theorem dX7_both_4 : decode cX7_both 4 = .ok (.iconst 1, 1) := by decide +kernel
theorem dX7_both_5 : decode cX7_both 5 = .ok (.isub, 1) := by decide +kernel
theorem dX7_both_6 : decode cX7_both 6 = .ok (.iload_n 1, 1) := by decide +kernel
theorem dX7_both_7 : decode cX7_both 7 = .ok (.iconst 1, 1) := by decide +kernel
theorem dX7_both_8 : decode cX7_both 8 = .ok (.isub, 1) := by decide +kernel
theorem dX7_both_9 : decode cX7_both 9 = .ok (.invokestatic 64, 3) := by decide +kernel
theorem dX7_both_12 : decode cX7_both 12 = .ok (.idiv, 1) := by decide +kernel
theorem dX7_both_13 : decode cX7_both 13 = .ok (.iload_n 1, 1) := by decide +kernel
theorem dX7_both_14 : decode cX7_both 14 = .ok (.iconst 1, 1) := by decide +kernel
theorem dX7_both_15 : decode cX7_both 15 = .ok (.isub, 1) := by decide +kernel
theorem dX7_both_16 : decode cX7_both 16 = .ok (.imul, 1) := by decide +kernel
theorem dX7_both_17 : decode cX7_both 17 = .ok (.ireturn, 1) := by decide +kernel
set_option maxRecDepth 20000 in
theorem ggX7_back_X7_isPair : GoodIn wsX7_back wsX7_isPair := goodIn_r _ [5, 6, 7, 8, 9, 4, 10, 11, 12, 13] (by decide +kernel) (by decide +kernel)
set_option maxRecDepth 20000 in
theorem gX7_back_X7_isPair : GoodIn wsX7_back (va_wsS RX7 212 yX7_isPair wsX7_isPair) := goodIn_app (goodIn_of _ (by decide +kernel)) ggX7_back_X7_isPair
set_option maxRecDepth 20000 in
theorem ggX7_back_X7_in : GoodIn wsX7_back wsX7_in := goodIn_r _ [10] (by decide +kernel) (by decide +kernel)
set_option maxRecDepth 20000 in
theorem gX7_back_X7_in : GoodIn wsX7_back (va_wsS RX7 60 yX7_in wsX7_in) := goodIn_app (goodIn_of _ (by decide +kernel)) ggX7_back_X7_in
set_option maxRecDepth 20000 in
theorem ggX7_back_X7_isFree : GoodIn wsX7_back wsX7_isFree := goodIn_r _ [16, 17, 18, 4, 19] (by decide +kernel) (by decide +kernel)
set_option maxRecDepth 20000 in
theorem gX7_back_X7_isFree : GoodIn wsX7_back (va_wsS RX7 217 yX7_isFree wsX7_isFree) := goodIn_app (goodIn_of _ (by decide +kernel)) ggX7_back_X7_isFree
set_option maxRecDepth 20000 in
theorem ggX7_back_X7_both : GoodIn wsX7_back wsX7_both := goodIn_r _ [22, 17, 18, 4, 19] (by decide +kernel) (by decide +kernel)
set_option maxRecDepth 20000 in
theorem gX7_back_X7_both : GoodIn wsX7_back (va_wsS RX7 221 yX7_both wsX7_both) := goodIn_app (goodIn_of _ (by decide +kernel)) ggX7_back_X7_both
theorem dX7_back_0 : decode cX7_back 0 = .ok (.iload_n 1, 1) := by decide +kernel
theorem dX7_back_1 : decode cX7_back 1 = .ok (.iload_n 2, 1) := by decide +kernel
theorem dX7_back_2 : decode cX7_back 2 = .ok (.invokestatic 212, 3) := by decide +kernel
theorem dX7_back_5 : decode cX7_back 5 = .ok (.ifCond .eq 15, 3) := by decide +kernel
theorem dX7_back_8 : decode cX7_back 8 = .ok (.iload_n 3, 1) := by decide +kernel
theorem dX7_back_9 : decode cX7_back 9 = .ok (.i2l, 1) := by decide +kernel
theorem dX7_back_10 : decode cX7_back 10 = .ok (.lconst 1, 1) := by decide +kernel
theorem dX7_back_11 : decode cX7_back 11 = .ok (.ldc2_w 215, 3) := by decide +kernel
theorem dX7_back_14 : decode cX7_back 14 = .ok (.invokestatic 60, 3) := by decide +kernel
theorem dX7_back_17 : decode cX7_back 17 = .ok (.ifCond .ne 5, 3) := by decide +kernel
theorem dX7_back_20 : decode cX7_back 20 = .ok (.iconst (-1), 1) := by decide +kernel
theorem dX7_back_21 : decode cX7_back 21 = .ok (.ireturn, 1) := by decide +kernel
theorem dX7_back_22 : decode cX7_back 22 = .ok (.iload_n 1, 1) := by decide +kernel
theorem dX7_back_23 : decode cX7_back 23 = .ok (.iload_n 2, 1) := by decide +kernel
theorem dX7_back_24 : decode cX7_back 24 = .ok (.iload_n 3, 1) := by decide +kernel
theorem dX7_back_25 : decode cX7_back 25 = .ok (.invokestatic 217, 3) := by decide +kernel
theorem dX7_back_28 : decode cX7_back 28 = .ok (.ifCond .ne 6, 3) := by decide +kernel
theorem dX7_back_31 : decode cX7_back 31 = .ok (.bipush (-2), 2) := by decide +kernel
theorem dX7_back_33 : decode cX7_back 33 = .ok (.ireturn, 1) := by decide +kernel
theorem dX7_back_34 : decode cX7_back 34 = .ok (.iload_n 1, 1) := by decide +kernel
theorem dX7_back_35 : decode cX7_back 35 = .ok (.iload_n 2, 1) := by decide +kernel
theorem dX7_back_36 : decode cX7_back 36 = .ok (.invokestatic 221, 3) := by decide +kernel
theorem dX7_back_39 : decode cX7_back 39 = .ok (.istore 4, 2) := by decide +kernel
theorem dX7_back_41 : decode cX7_back 41 = .ok (.iconst 1, 1) := by decide +kernel
theorem dX7_back_42 : decode cX7_back 42 = .ok (.istore 5, 2) := by decide +kernel
theorem dX7_back_44 : decode cX7_back 44 = .ok (.iload 5, 2) := by decide +kernel
theorem dX7_back_46 : decode cX7_back 46 = .ok (.i2l, 1) := by decide +kernel
theorem dX7_back_47 : decode cX7_back 47 = .ok (.iload_n 3, 1) := by decide +kernel
theorem dX7_back_48 : decode cX7_back 48 = .ok (.i2l, 1) := by decide +kernel
theorem dX7_back_49 : decode cX7_back 49 = .ok (.lmul, 1) := by decide +kernel
theorem dX7_back_50 : decode cX7_back 50 = .ok (.iload 4, 2) := by decide +kernel
theorem dX7_back_52 : decode cX7_back 52 = .ok (.i2l, 1) := by decide +kernel
theorem dX7_back_53 : decode cX7_back 53 = .ok (.lrem, 1) := by decide +kernel
theorem dX7_back_54 : decode cX7_back 54 = .ok (.iconst 1, 1) := by decide +kernel
theorem dX7_back_55 : decode cX7_back 55 = .ok (.iload 4, 2) := by decide +kernel
theorem dX7_back_57 : decode cX7_back 57 = .ok (.irem, 1) := by decide +kernel
theorem dX7_back_58 : decode cX7_back 58 = .ok (.i2l, 1) := by decide +kernel
theorem dX7_back_59 : decode cX7_back 59 = .ok (.lcmp, 1) := by decide +kernel
theorem dX7_back_60 : decode cX7_back 60 = .ok (.ifCond .eq 9, 3) := by decide +kernel
theorem dX7_back_63 : decode cX7_back 63 = .ok (.iinc 5 1, 3) := by decide +kernel
theorem dX7_back_66 : decode cX7_back 66 = .ok (.goto (-22), 3) := by decide +kernel
theorem dX7_back_69 : decode cX7_back 69 = .ok (.iload 5, 2) := by decide +kernel
theorem dX7_back_71 : decode cX7_back 71 = .ok (.ireturn, 1) := by decide +kernel
set_option maxRecDepth 20000 in
theorem ggX7_stay_X7_isPair : GoodIn wsX7_stay wsX7_isPair := goodIn_r _ [5, 6, 7, 8, 9, 4, 10, 11, 12, 13] (by decide +kernel) (by decide +kernel)
set_option maxRecDepth 20000 in
theorem gX7_stay_X7_isPair : GoodIn wsX7_stay (va_wsS RX7 212 yX7_isPair wsX7_isPair) := goodIn_app (goodIn_of _ (by decide +kernel)) ggX7_stay_X7_isPair
set_option maxRecDepth 20000 in
theorem ggX7_stay_X7_in : GoodIn wsX7_stay wsX7_in := goodIn_r _ [10] (by decide +kernel) (by decide +kernel)
set_option maxRecDepth 20000 in
theorem gX7_stay_X7_in : GoodIn wsX7_stay (va_wsS RX7 60 yX7_in wsX7_in) := goodIn_app (goodIn_of _ (by decide +kernel)) ggX7_stay_X7_in
set_option maxRecDepth 20000 in
theorem ggX7_stay_X7_isFree : GoodIn wsX7_stay wsX7_isFree := goodIn_r _ [16, 17, 18, 4, 19] (by decide +kernel) (by decide +kernel)
set_option maxRecDepth 20000 in
theorem gX7_stay_X7_isFree : GoodIn wsX7_stay (va_wsS RX7 217 yX7_isFree wsX7_isFree) := goodIn_app (goodIn_of _ (by decide +kernel)) ggX7_stay_X7_isFree
set_option maxRecDepth 20000 in
theorem ggX7_stay_X7_powerOf : GoodIn wsX7_stay wsX7_powerOf := goodIn_r _ [22, 6] (by decide +kernel) (by decide +kernel)
set_option maxRecDepth 20000 in
theorem gX7_stay_X7_powerOf : GoodIn wsX7_stay (va_wsS RX7 88 yX7_powerOf wsX7_powerOf) := goodIn_app (goodIn_of _ (by decide +kernel)) ggX7_stay_X7_powerOf
theorem dX7_stay_0 : decode cX7_stay 0 = .ok (.iload_n 1, 1) := by decide +kernel
theorem dX7_stay_1 : decode cX7_stay 1 = .ok (.iload_n 2, 1) := by decide +kernel
theorem dX7_stay_2 : decode cX7_stay 2 = .ok (.invokestatic 212, 3) := by decide +kernel
theorem dX7_stay_5 : decode cX7_stay 5 = .ok (.ifCond .eq 21, 3) := by decide +kernel
theorem dX7_stay_8 : decode cX7_stay 8 = .ok (.iload_n 3, 1) := by decide +kernel
theorem dX7_stay_9 : decode cX7_stay 9 = .ok (.i2l, 1) := by decide +kernel
theorem dX7_stay_10 : decode cX7_stay 10 = .ok (.lconst 1, 1) := by decide +kernel
theorem dX7_stay_11 : decode cX7_stay 11 = .ok (.ldc2_w 215, 3) := by decide +kernel
theorem dX7_stay_14 : decode cX7_stay 14 = .ok (.invokestatic 60, 3) := by decide +kernel
theorem dX7_stay_17 : decode cX7_stay 17 = .ok (.ifCond .eq 9, 3) := by decide +kernel
theorem dX7_stay_20 : decode cX7_stay 20 = .ok (.iload 4, 2) := by decide +kernel
theorem dX7_stay_22 : decode cX7_stay 22 = .ok (.iconst (-1), 1) := by decide +kernel
theorem dX7_stay_23 : decode cX7_stay 23 = .ok (.if_icmp .ge 5, 3) := by decide +kernel
theorem dX7_stay_26 : decode cX7_stay 26 = .ok (.iconst (-1), 1) := by decide +kernel
theorem dX7_stay_27 : decode cX7_stay 27 = .ok (.ireturn, 1) := by decide +kernel
theorem dX7_stay_28 : decode cX7_stay 28 = .ok (.iload_n 1, 1) := by decide +kernel
theorem dX7_stay_29 : decode cX7_stay 29 = .ok (.iload_n 2, 1) := by decide +kernel
theorem dX7_stay_30 : decode cX7_stay 30 = .ok (.iload_n 3, 1) := by decide +kernel
theorem dX7_stay_31 : decode cX7_stay 31 = .ok (.invokestatic 217, 3) := by decide +kernel
theorem dX7_stay_34 : decode cX7_stay 34 = .ok (.ifCond .ne 6, 3) := by decide +kernel
theorem dX7_stay_37 : decode cX7_stay 37 = .ok (.bipush (-2), 2) := by decide +kernel
theorem dX7_stay_39 : decode cX7_stay 39 = .ok (.ireturn, 1) := by decide +kernel
theorem dX7_stay_40 : decode cX7_stay 40 = .ok (.iconst 0, 1) := by decide +kernel
theorem dX7_stay_41 : decode cX7_stay 41 = .ok (.istore 5, 2) := by decide +kernel
theorem dX7_stay_43 : decode cX7_stay 43 = .ok (.iconst 0, 1) := by decide +kernel
theorem dX7_stay_44 : decode cX7_stay 44 = .ok (.istore 6, 2) := by decide +kernel
theorem dX7_stay_46 : decode cX7_stay 46 = .ok (.iload 6, 2) := by decide +kernel
theorem dX7_stay_48 : decode cX7_stay 48 = .ok (.iload_n 1, 1) := by decide +kernel
theorem dX7_stay_49 : decode cX7_stay 49 = .ok (.iload_n 2, 1) := by decide +kernel
theorem dX7_stay_50 : decode cX7_stay 50 = .ok (.imul, 1) := by decide +kernel
theorem dX7_stay_51 : decode cX7_stay 51 = .ok (.if_icmp .ge 37, 3) := by decide +kernel
theorem dX7_stay_54 : decode cX7_stay 54 = .ok (.iload_n 1, 1) := by decide +kernel
theorem dX7_stay_55 : decode cX7_stay 55 = .ok (.iload_n 2, 1) := by decide +kernel
theorem dX7_stay_56 : decode cX7_stay 56 = .ok (.imul, 1) := by decide +kernel
theorem dX7_stay_57 : decode cX7_stay 57 = .ok (.iload 6, 2) := by decide +kernel
theorem dX7_stay_59 : decode cX7_stay 59 = .ok (.iload_n 3, 1) := by decide +kernel
theorem dX7_stay_60 : decode cX7_stay 60 = .ok (.i2l, 1) := by decide +kernel
theorem dX7_stay_61 : decode cX7_stay 61 = .ok (.invokestatic 88, 3) := by decide +kernel
theorem dX7_stay_64 : decode cX7_stay 64 = .ok (.iload 6, 2) := by decide +kernel
theorem dX7_stay_66 : decode cX7_stay 66 = .ok (.if_icmp .ne 16, 3) := by decide +kernel
theorem dX7_stay_69 : decode cX7_stay 69 = .ok (.iload 5, 2) := by decide +kernel
theorem dX7_stay_71 : decode cX7_stay 71 = .ok (.iload 4, 2) := by decide +kernel
theorem dX7_stay_73 : decode cX7_stay 73 = .ok (.if_icmp .ne 6, 3) := by decide +kernel
theorem dX7_stay_76 : decode cX7_stay 76 = .ok (.iload 6, 2) := by decide +kernel
theorem dX7_stay_78 : decode cX7_stay 78 = .ok (.ireturn, 1) := by decide +kernel
theorem dX7_stay_79 : decode cX7_stay 79 = .ok (.iinc 5 1, 3) := by decide +kernel
theorem dX7_stay_82 : decode cX7_stay 82 = .ok (.iinc 6 1, 3) := by decide +kernel
theorem dX7_stay_85 : decode cX7_stay 85 = .ok (.goto (-39), 3) := by decide +kernel
theorem dX7_stay_88 : decode cX7_stay 88 = .ok (.iload 4, 2) := by decide +kernel
theorem dX7_stay_90 : decode cX7_stay 90 = .ok (.ifCond .ge 8, 3) := by decide +kernel
theorem dX7_stay_93 : decode cX7_stay 93 = .ok (.iload 5, 2) := by decide +kernel
theorem dX7_stay_95 : decode cX7_stay 95 = .ok (.goto 5, 3) := by decide +kernel
theorem dX7_stay_98 : decode cX7_stay 98 = .ok (.bipush (-4), 2) := by decide +kernel
theorem dX7_stay_100 : decode cX7_stay 100 = .ok (.ireturn, 1) := by decide +kernel
set_option maxRecDepth 20000 in
theorem ggX7_rounds_X7_isPair : GoodIn wsX7_rounds wsX7_isPair := goodIn_r _ [6, 7, 8, 9, 10, 5, 11, 12, 13, 14] (by decide +kernel) (by decide +kernel)
set_option maxRecDepth 20000 in
theorem gX7_rounds_X7_isPair : GoodIn wsX7_rounds (va_wsS RX7 212 yX7_isPair wsX7_isPair) := goodIn_app (goodIn_of _ (by decide +kernel)) ggX7_rounds_X7_isPair
set_option maxRecDepth 20000 in
theorem ggX7_rounds_X7_in : GoodIn wsX7_rounds wsX7_in := goodIn_r _ [11] (by decide +kernel) (by decide +kernel)
set_option maxRecDepth 20000 in
theorem gX7_rounds_X7_in : GoodIn wsX7_rounds (va_wsS RX7 60 yX7_in wsX7_in) := goodIn_app (goodIn_of _ (by decide +kernel)) ggX7_rounds_X7_in
set_option maxRecDepth 20000 in
theorem ggX7_rounds_X7_isFree : GoodIn wsX7_rounds wsX7_isFree := goodIn_r _ [17, 18, 19, 5, 20] (by decide +kernel) (by decide +kernel)
set_option maxRecDepth 20000 in
theorem gX7_rounds_X7_isFree : GoodIn wsX7_rounds (va_wsS RX7 217 yX7_isFree wsX7_isFree) := goodIn_app (goodIn_of _ (by decide +kernel)) ggX7_rounds_X7_isFree
set_option maxRecDepth 20000 in
theorem ggX7_rounds_X7_both : GoodIn wsX7_rounds wsX7_both := goodIn_r _ [23, 18, 19, 5, 20] (by decide +kernel) (by decide +kernel)
set_option maxRecDepth 20000 in
theorem gX7_rounds_X7_both : GoodIn wsX7_rounds (va_wsS RX7 221 yX7_both wsX7_both) := goodIn_app (goodIn_of _ (by decide +kernel)) ggX7_rounds_X7_both
set_option maxRecDepth 20000 in
theorem ggX7_rounds_X7_powerOf : GoodIn wsX7_rounds wsX7_powerOf := goodIn_r _ [26, 7] (by decide +kernel) (by decide +kernel)
set_option maxRecDepth 20000 in
theorem gX7_rounds_X7_powerOf : GoodIn wsX7_rounds (va_wsS RX7 88 yX7_powerOf wsX7_powerOf) := goodIn_app (goodIn_of _ (by decide +kernel)) ggX7_rounds_X7_powerOf
theorem dX7_rounds_0 : decode cX7_rounds 0 = .ok (.iload_n 1, 1) := by decide +kernel
theorem dX7_rounds_1 : decode cX7_rounds 1 = .ok (.iload_n 2, 1) := by decide +kernel
theorem dX7_rounds_2 : decode cX7_rounds 2 = .ok (.invokestatic 212, 3) := by decide +kernel
theorem dX7_rounds_5 : decode cX7_rounds 5 = .ok (.ifCond .eq 33, 3) := by decide +kernel
theorem dX7_rounds_8 : decode cX7_rounds 8 = .ok (.iload_n 3, 1) := by decide +kernel
theorem dX7_rounds_9 : decode cX7_rounds 9 = .ok (.i2l, 1) := by decide +kernel
theorem dX7_rounds_10 : decode cX7_rounds 10 = .ok (.lconst 1, 1) := by decide +kernel
theorem dX7_rounds_11 : decode cX7_rounds 11 = .ok (.ldc2_w 215, 3) := by decide +kernel
theorem dX7_rounds_14 : decode cX7_rounds 14 = .ok (.invokestatic 60, 3) := by decide +kernel
theorem dX7_rounds_17 : decode cX7_rounds 17 = .ok (.ifCond .eq 21, 3) := by decide +kernel
theorem dX7_rounds_20 : decode cX7_rounds 20 = .ok (.iload 4, 2) := by decide +kernel
theorem dX7_rounds_22 : decode cX7_rounds 22 = .ok (.i2l, 1) := by decide +kernel
theorem dX7_rounds_23 : decode cX7_rounds 23 = .ok (.ldc2_w 151, 3) := by decide +kernel
theorem dX7_rounds_26 : decode cX7_rounds 26 = .ok (.iload_n 1, 1) := by decide +kernel
theorem dX7_rounds_27 : decode cX7_rounds 27 = .ok (.iload_n 2, 1) := by decide +kernel
theorem dX7_rounds_28 : decode cX7_rounds 28 = .ok (.imul, 1) := by decide +kernel
theorem dX7_rounds_29 : decode cX7_rounds 29 = .ok (.iconst 1, 1) := by decide +kernel
theorem dX7_rounds_30 : decode cX7_rounds 30 = .ok (.isub, 1) := by decide +kernel
theorem dX7_rounds_31 : decode cX7_rounds 31 = .ok (.i2l, 1) := by decide +kernel
theorem dX7_rounds_32 : decode cX7_rounds 32 = .ok (.invokestatic 60, 3) := by decide +kernel
theorem dX7_rounds_35 : decode cX7_rounds 35 = .ok (.ifCond .ne 5, 3) := by decide +kernel
theorem dX7_rounds_38 : decode cX7_rounds 38 = .ok (.iconst (-1), 1) := by decide +kernel
theorem dX7_rounds_39 : decode cX7_rounds 39 = .ok (.ireturn, 1) := by decide +kernel
theorem dX7_rounds_40 : decode cX7_rounds 40 = .ok (.iload_n 1, 1) := by decide +kernel
theorem dX7_rounds_41 : decode cX7_rounds 41 = .ok (.iload_n 2, 1) := by decide +kernel
theorem dX7_rounds_42 : decode cX7_rounds 42 = .ok (.iload_n 3, 1) := by decide +kernel
theorem dX7_rounds_43 : decode cX7_rounds 43 = .ok (.invokestatic 217, 3) := by decide +kernel
theorem dX7_rounds_46 : decode cX7_rounds 46 = .ok (.ifCond .ne 6, 3) := by decide +kernel
theorem dX7_rounds_49 : decode cX7_rounds 49 = .ok (.bipush (-2), 2) := by decide +kernel
theorem dX7_rounds_51 : decode cX7_rounds 51 = .ok (.ireturn, 1) := by decide +kernel
theorem dX7_rounds_52 : decode cX7_rounds 52 = .ok (.iload_n 1, 1) := by decide +kernel
theorem dX7_rounds_53 : decode cX7_rounds 53 = .ok (.iload_n 2, 1) := by decide +kernel
theorem dX7_rounds_54 : decode cX7_rounds 54 = .ok (.invokestatic 221, 3) := by decide +kernel
theorem dX7_rounds_57 : decode cX7_rounds 57 = .ok (.istore 5, 2) := by decide +kernel
theorem dX7_rounds_59 : decode cX7_rounds 59 = .ok (.iconst 1, 1) := by decide +kernel
theorem dX7_rounds_60 : decode cX7_rounds 60 = .ok (.istore 6, 2) := by decide +kernel
theorem dX7_rounds_62 : decode cX7_rounds 62 = .ok (.iload 4, 2) := by decide +kernel
theorem dX7_rounds_64 : decode cX7_rounds 64 = .ok (.ifCond .ge 44, 3) := by decide +kernel
theorem dX7_rounds_67 : decode cX7_rounds 67 = .ok (.iload_n 3, 1) := by decide +kernel
theorem dX7_rounds_68 : decode cX7_rounds 68 = .ok (.iload 5, 2) := by decide +kernel
theorem dX7_rounds_70 : decode cX7_rounds 70 = .ok (.irem, 1) := by decide +kernel
theorem dX7_rounds_71 : decode cX7_rounds 71 = .ok (.i2l, 1) := by decide +kernel
theorem dX7_rounds_72 : decode cX7_rounds 72 = .ok (.lstore 7, 2) := by decide +kernel
theorem dX7_rounds_74 : decode cX7_rounds 74 = .ok (.lload 7, 2) := by decide +kernel
theorem dX7_rounds_76 : decode cX7_rounds 76 = .ok (.iconst 1, 1) := by decide +kernel
theorem dX7_rounds_77 : decode cX7_rounds 77 = .ok (.iload 5, 2) := by decide +kernel
theorem dX7_rounds_79 : decode cX7_rounds 79 = .ok (.irem, 1) := by decide +kernel
theorem dX7_rounds_80 : decode cX7_rounds 80 = .ok (.i2l, 1) := by decide +kernel
theorem dX7_rounds_81 : decode cX7_rounds 81 = .ok (.lcmp, 1) := by decide +kernel
theorem dX7_rounds_82 : decode cX7_rounds 82 = .ok (.ifCond .eq 23, 3) := by decide +kernel
theorem dX7_rounds_85 : decode cX7_rounds 85 = .ok (.lload 7, 2) := by decide +kernel
theorem dX7_rounds_87 : decode cX7_rounds 87 = .ok (.iload_n 3, 1) := by decide +kernel
theorem dX7_rounds_88 : decode cX7_rounds 88 = .ok (.iload 5, 2) := by decide +kernel
theorem dX7_rounds_90 : decode cX7_rounds 90 = .ok (.irem, 1) := by decide +kernel
theorem dX7_rounds_91 : decode cX7_rounds 91 = .ok (.i2l, 1) := by decide +kernel
theorem dX7_rounds_92 : decode cX7_rounds 92 = .ok (.lmul, 1) := by decide +kernel
theorem dX7_rounds_93 : decode cX7_rounds 93 = .ok (.iload 5, 2) := by decide +kernel
theorem dX7_rounds_95 : decode cX7_rounds 95 = .ok (.i2l, 1) := by decide +kernel
theorem dX7_rounds_96 : decode cX7_rounds 96 = .ok (.lrem, 1) := by decide +kernel
theorem dX7_rounds_97 : decode cX7_rounds 97 = .ok (.lstore 7, 2) := by decide +kernel
theorem dX7_rounds_99 : decode cX7_rounds 99 = .ok (.iinc 6 1, 3) := by decide +kernel
theorem dX7_rounds_102 : decode cX7_rounds 102 = .ok (.goto (-28), 3) := by decide +kernel
theorem dX7_rounds_105 : decode cX7_rounds 105 = .ok (.iload 6, 2) := by decide +kernel
theorem dX7_rounds_107 : decode cX7_rounds 107 = .ok (.ireturn, 1) := by decide +kernel
theorem dX7_rounds_108 : decode cX7_rounds 108 = .ok (.iload_n 1, 1) := by decide +kernel
theorem dX7_rounds_109 : decode cX7_rounds 109 = .ok (.iload_n 2, 1) := by decide +kernel
theorem dX7_rounds_110 : decode cX7_rounds 110 = .ok (.imul, 1) := by decide +kernel
theorem dX7_rounds_111 : decode cX7_rounds 111 = .ok (.iload 4, 2) := by decide +kernel
theorem dX7_rounds_113 : decode cX7_rounds 113 = .ok (.iload_n 3, 1) := by decide +kernel
theorem dX7_rounds_114 : decode cX7_rounds 114 = .ok (.i2l, 1) := by decide +kernel
theorem dX7_rounds_115 : decode cX7_rounds 115 = .ok (.invokestatic 88, 3) := by decide +kernel
theorem dX7_rounds_118 : decode cX7_rounds 118 = .ok (.istore 7, 2) := by decide +kernel
theorem dX7_rounds_120 : decode cX7_rounds 120 = .ok (.iload 7, 2) := by decide +kernel
theorem dX7_rounds_122 : decode cX7_rounds 122 = .ok (.iload 4, 2) := by decide +kernel
theorem dX7_rounds_124 : decode cX7_rounds 124 = .ok (.if_icmp .eq 21, 3) := by decide +kernel
theorem dX7_rounds_127 : decode cX7_rounds 127 = .ok (.iload_n 1, 1) := by decide +kernel
theorem dX7_rounds_128 : decode cX7_rounds 128 = .ok (.iload_n 2, 1) := by decide +kernel
theorem dX7_rounds_129 : decode cX7_rounds 129 = .ok (.imul, 1) := by decide +kernel
theorem dX7_rounds_130 : decode cX7_rounds 130 = .ok (.iload 7, 2) := by decide +kernel
theorem dX7_rounds_132 : decode cX7_rounds 132 = .ok (.iload_n 3, 1) := by decide +kernel
theorem dX7_rounds_133 : decode cX7_rounds 133 = .ok (.i2l, 1) := by decide +kernel
theorem dX7_rounds_134 : decode cX7_rounds 134 = .ok (.invokestatic 88, 3) := by decide +kernel
theorem dX7_rounds_137 : decode cX7_rounds 137 = .ok (.istore 7, 2) := by decide +kernel
theorem dX7_rounds_139 : decode cX7_rounds 139 = .ok (.iinc 6 1, 3) := by decide +kernel
theorem dX7_rounds_142 : decode cX7_rounds 142 = .ok (.goto (-22), 3) := by decide +kernel
theorem dX7_rounds_145 : decode cX7_rounds 145 = .ok (.iload 6, 2) := by decide +kernel
theorem dX7_rounds_147 : decode cX7_rounds 147 = .ok (.ireturn, 1) := by decide +kernel
theorem dX7_count_0 : decode cX7_count 0 = .ok (.iload_n 1, 1) := by decide +kernel
theorem dX7_count_1 : decode cX7_count 1 = .ok (.ifCond .ne 10, 3) := by decide +kernel
theorem dX7_count_4 : decode cX7_count 4 = .ok (.aload_n 0, 1) := by decide +kernel
theorem dX7_count_5 : decode cX7_count 5 = .ok (.getfield 102, 3) := by decide +kernel
theorem dX7_count_8 : decode cX7_count 8 = .ok (.goto 28, 3) := by decide +kernel
theorem dX7_count_11 : decode cX7_count 11 = .ok (.iload_n 1, 1) := by decide +kernel
theorem dX7_count_12 : decode cX7_count 12 = .ok (.iconst 1, 1) := by decide +kernel
theorem dX7_count_13 : decode cX7_count 13 = .ok (.if_icmp .ne 10, 3) := by decide +kernel
theorem dX7_count_16 : decode cX7_count 16 = .ok (.aload_n 0, 1) := by decide +kernel
theorem dX7_count_17 : decode cX7_count 17 = .ok (.getfield 137, 3) := by decide +kernel
theorem dX7_count_20 : decode cX7_count 20 = .ok (.goto 16, 3) := by decide +kernel
theorem dX7_count_23 : decode cX7_count 23 = .ok (.iload_n 1, 1) := by decide +kernel
theorem dX7_count_24 : decode cX7_count 24 = .ok (.iconst 2, 1) := by decide +kernel
theorem dX7_count_25 : decode cX7_count 25 = .ok (.if_icmp .ne 10, 3) := by decide +kernel
theorem dX7_count_28 : decode cX7_count 28 = .ok (.aload_n 0, 1) := by decide +kernel
theorem dX7_count_29 : decode cX7_count 29 = .ok (.getfield 13, 3) := by decide +kernel
theorem dX7_count_32 : decode cX7_count 32 = .ok (.goto 4, 3) := by decide +kernel
theorem dX7_count_35 : decode cX7_count 35 = .ok (.iconst (-1), 1) := by decide +kernel
theorem dX7_count_36 : decode cX7_count 36 = .ok (.ireturn, 1) := by decide +kernel
theorem dJ6_bitCount_0f7a4_0 : decode cJ6_bitCount_0f7a4 0 = .ok (.iload_n 0, 1) := by decide +kernel
theorem dJ6_bitCount_0f7a4_1 : decode cJ6_bitCount_0f7a4 1 = .ok (.iload_n 0, 1) := by decide +kernel
theorem dJ6_bitCount_0f7a4_2 : decode cJ6_bitCount_0f7a4 2 = .ok (.iconst 1, 1) := by decide +kernel
theorem dJ6_bitCount_0f7a4_3 : decode cJ6_bitCount_0f7a4 3 = .ok (.iushr, 1) := by decide +kernel
theorem dJ6_bitCount_0f7a4_4 : decode cJ6_bitCount_0f7a4 4 = .ok (.ldc_w 265, 3) := by decide +kernel
theorem dJ6_bitCount_0f7a4_7 : decode cJ6_bitCount_0f7a4 7 = .ok (.iand, 1) := by decide +kernel
theorem dJ6_bitCount_0f7a4_8 : decode cJ6_bitCount_0f7a4 8 = .ok (.isub, 1) := by decide +kernel
theorem dJ6_bitCount_0f7a4_9 : decode cJ6_bitCount_0f7a4 9 = .ok (.istore_n 0, 1) := by decide +kernel
theorem dJ6_bitCount_0f7a4_10 : decode cJ6_bitCount_0f7a4 10 = .ok (.iload_n 0, 1) := by decide +kernel
theorem dJ6_bitCount_0f7a4_11 : decode cJ6_bitCount_0f7a4 11 = .ok (.ldc_w 266, 3) := by decide +kernel
theorem dJ6_bitCount_0f7a4_14 : decode cJ6_bitCount_0f7a4 14 = .ok (.iand, 1) := by decide +kernel
theorem dJ6_bitCount_0f7a4_15 : decode cJ6_bitCount_0f7a4 15 = .ok (.iload_n 0, 1) := by decide +kernel
theorem dJ6_bitCount_0f7a4_16 : decode cJ6_bitCount_0f7a4 16 = .ok (.iconst 2, 1) := by decide +kernel
theorem dJ6_bitCount_0f7a4_17 : decode cJ6_bitCount_0f7a4 17 = .ok (.iushr, 1) := by decide +kernel
theorem dJ6_bitCount_0f7a4_18 : decode cJ6_bitCount_0f7a4 18 = .ok (.ldc_w 266, 3) := by decide +kernel
theorem dJ6_bitCount_0f7a4_21 : decode cJ6_bitCount_0f7a4 21 = .ok (.iand, 1) := by decide +kernel
theorem dJ6_bitCount_0f7a4_22 : decode cJ6_bitCount_0f7a4 22 = .ok (.iadd, 1) := by decide +kernel
theorem dJ6_bitCount_0f7a4_23 : decode cJ6_bitCount_0f7a4 23 = .ok (.istore_n 0, 1) := by decide +kernel
theorem dJ6_bitCount_0f7a4_24 : decode cJ6_bitCount_0f7a4 24 = .ok (.iload_n 0, 1) := by decide +kernel
theorem dJ6_bitCount_0f7a4_25 : decode cJ6_bitCount_0f7a4 25 = .ok (.iload_n 0, 1) := by decide +kernel
theorem dJ6_bitCount_0f7a4_26 : decode cJ6_bitCount_0f7a4 26 = .ok (.iconst 4, 1) := by decide +kernel
theorem dJ6_bitCount_0f7a4_27 : decode cJ6_bitCount_0f7a4 27 = .ok (.iushr, 1) := by decide +kernel
theorem dJ6_bitCount_0f7a4_28 : decode cJ6_bitCount_0f7a4 28 = .ok (.iadd, 1) := by decide +kernel
theorem dJ6_bitCount_0f7a4_29 : decode cJ6_bitCount_0f7a4 29 = .ok (.ldc_w 267, 3) := by decide +kernel
theorem dJ6_bitCount_0f7a4_32 : decode cJ6_bitCount_0f7a4 32 = .ok (.iand, 1) := by decide +kernel
theorem dJ6_bitCount_0f7a4_33 : decode cJ6_bitCount_0f7a4 33 = .ok (.istore_n 0, 1) := by decide +kernel
theorem dJ6_bitCount_0f7a4_34 : decode cJ6_bitCount_0f7a4 34 = .ok (.iload_n 0, 1) := by decide +kernel
theorem dJ6_bitCount_0f7a4_35 : decode cJ6_bitCount_0f7a4 35 = .ok (.iload_n 0, 1) := by decide +kernel
theorem dJ6_bitCount_0f7a4_36 : decode cJ6_bitCount_0f7a4 36 = .ok (.bipush 8, 2) := by decide +kernel
theorem dJ6_bitCount_0f7a4_38 : decode cJ6_bitCount_0f7a4 38 = .ok (.iushr, 1) := by decide +kernel
theorem dJ6_bitCount_0f7a4_39 : decode cJ6_bitCount_0f7a4 39 = .ok (.iadd, 1) := by decide +kernel
theorem dJ6_bitCount_0f7a4_40 : decode cJ6_bitCount_0f7a4 40 = .ok (.istore_n 0, 1) := by decide +kernel
theorem dJ6_bitCount_0f7a4_41 : decode cJ6_bitCount_0f7a4 41 = .ok (.iload_n 0, 1) := by decide +kernel
theorem dJ6_bitCount_0f7a4_42 : decode cJ6_bitCount_0f7a4 42 = .ok (.iload_n 0, 1) := by decide +kernel
theorem dJ6_bitCount_0f7a4_43 : decode cJ6_bitCount_0f7a4 43 = .ok (.bipush 16, 2) := by decide +kernel
theorem dJ6_bitCount_0f7a4_45 : decode cJ6_bitCount_0f7a4 45 = .ok (.iushr, 1) := by decide +kernel
theorem dJ6_bitCount_0f7a4_46 : decode cJ6_bitCount_0f7a4 46 = .ok (.iadd, 1) := by decide +kernel
theorem dJ6_bitCount_0f7a4_47 : decode cJ6_bitCount_0f7a4 47 = .ok (.istore_n 0, 1) := by decide +kernel
theorem dJ6_bitCount_0f7a4_48 : decode cJ6_bitCount_0f7a4 48 = .ok (.iload_n 0, 1) := by decide +kernel
theorem dJ6_bitCount_0f7a4_49 : decode cJ6_bitCount_0f7a4 49 = .ok (.bipush 63, 2) := by decide +kernel
theorem dJ6_bitCount_0f7a4_51 : decode cJ6_bitCount_0f7a4 51 = .ok (.iand, 1) := by decide +kernel
theorem dJ6_bitCount_0f7a4_52 : decode cJ6_bitCount_0f7a4 52 = .ok (.ireturn, 1) := by decide +kernel
theorem dJ13_bitCount_95d88_0 : decode cJ13_bitCount_95d88 0 = .ok (.lload_n 0, 1) := by decide +kernel
theorem dJ13_bitCount_95d88_1 : decode cJ13_bitCount_95d88 1 = .ok (.lload_n 0, 1) := by decide +kernel
theorem dJ13_bitCount_95d88_2 : decode cJ13_bitCount_95d88 2 = .ok (.iconst 1, 1) := by decide +kernel
theorem dJ13_bitCount_95d88_3 : decode cJ13_bitCount_95d88 3 = .ok (.lushr, 1) := by decide +kernel
theorem dJ13_bitCount_95d88_4 : decode cJ13_bitCount_95d88 4 = .ok (.ldc2_w 314, 3) := by decide +kernel
theorem dJ13_bitCount_95d88_7 : decode cJ13_bitCount_95d88 7 = .ok (.land, 1) := by decide +kernel
theorem dJ13_bitCount_95d88_8 : decode cJ13_bitCount_95d88 8 = .ok (.lsub, 1) := by decide +kernel
theorem dJ13_bitCount_95d88_9 : decode cJ13_bitCount_95d88 9 = .ok (.lstore_n 0, 1) := by decide +kernel
theorem dJ13_bitCount_95d88_10 : decode cJ13_bitCount_95d88 10 = .ok (.lload_n 0, 1) := by decide +kernel
theorem dJ13_bitCount_95d88_11 : decode cJ13_bitCount_95d88 11 = .ok (.ldc2_w 316, 3) := by decide +kernel
theorem dJ13_bitCount_95d88_14 : decode cJ13_bitCount_95d88 14 = .ok (.land, 1) := by decide +kernel
theorem dJ13_bitCount_95d88_15 : decode cJ13_bitCount_95d88 15 = .ok (.lload_n 0, 1) := by decide +kernel
theorem dJ13_bitCount_95d88_16 : decode cJ13_bitCount_95d88 16 = .ok (.iconst 2, 1) := by decide +kernel
theorem dJ13_bitCount_95d88_17 : decode cJ13_bitCount_95d88 17 = .ok (.lushr, 1) := by decide +kernel
theorem dJ13_bitCount_95d88_18 : decode cJ13_bitCount_95d88 18 = .ok (.ldc2_w 316, 3) := by decide +kernel
theorem dJ13_bitCount_95d88_21 : decode cJ13_bitCount_95d88 21 = .ok (.land, 1) := by decide +kernel
theorem dJ13_bitCount_95d88_22 : decode cJ13_bitCount_95d88 22 = .ok (.ladd, 1) := by decide +kernel
theorem dJ13_bitCount_95d88_23 : decode cJ13_bitCount_95d88 23 = .ok (.lstore_n 0, 1) := by decide +kernel
theorem dJ13_bitCount_95d88_24 : decode cJ13_bitCount_95d88 24 = .ok (.lload_n 0, 1) := by decide +kernel
theorem dJ13_bitCount_95d88_25 : decode cJ13_bitCount_95d88 25 = .ok (.lload_n 0, 1) := by decide +kernel
theorem dJ13_bitCount_95d88_26 : decode cJ13_bitCount_95d88 26 = .ok (.iconst 4, 1) := by decide +kernel
theorem dJ13_bitCount_95d88_27 : decode cJ13_bitCount_95d88 27 = .ok (.lushr, 1) := by decide +kernel
theorem dJ13_bitCount_95d88_28 : decode cJ13_bitCount_95d88 28 = .ok (.ladd, 1) := by decide +kernel
theorem dJ13_bitCount_95d88_29 : decode cJ13_bitCount_95d88 29 = .ok (.ldc2_w 318, 3) := by decide +kernel
theorem dJ13_bitCount_95d88_32 : decode cJ13_bitCount_95d88 32 = .ok (.land, 1) := by decide +kernel
theorem dJ13_bitCount_95d88_33 : decode cJ13_bitCount_95d88 33 = .ok (.lstore_n 0, 1) := by decide +kernel
theorem dJ13_bitCount_95d88_34 : decode cJ13_bitCount_95d88 34 = .ok (.lload_n 0, 1) := by decide +kernel
theorem dJ13_bitCount_95d88_35 : decode cJ13_bitCount_95d88 35 = .ok (.lload_n 0, 1) := by decide +kernel
theorem dJ13_bitCount_95d88_36 : decode cJ13_bitCount_95d88 36 = .ok (.bipush 8, 2) := by decide +kernel
theorem dJ13_bitCount_95d88_38 : decode cJ13_bitCount_95d88 38 = .ok (.lushr, 1) := by decide +kernel
theorem dJ13_bitCount_95d88_39 : decode cJ13_bitCount_95d88 39 = .ok (.ladd, 1) := by decide +kernel
theorem dJ13_bitCount_95d88_40 : decode cJ13_bitCount_95d88 40 = .ok (.lstore_n 0, 1) := by decide +kernel
theorem dJ13_bitCount_95d88_41 : decode cJ13_bitCount_95d88 41 = .ok (.lload_n 0, 1) := by decide +kernel
theorem dJ13_bitCount_95d88_42 : decode cJ13_bitCount_95d88 42 = .ok (.lload_n 0, 1) := by decide +kernel
theorem dJ13_bitCount_95d88_43 : decode cJ13_bitCount_95d88 43 = .ok (.bipush 16, 2) := by decide +kernel
theorem dJ13_bitCount_95d88_45 : decode cJ13_bitCount_95d88 45 = .ok (.lushr, 1) := by decide +kernel
theorem dJ13_bitCount_95d88_46 : decode cJ13_bitCount_95d88 46 = .ok (.ladd, 1) := by decide +kernel
theorem dJ13_bitCount_95d88_47 : decode cJ13_bitCount_95d88 47 = .ok (.lstore_n 0, 1) := by decide +kernel
theorem dJ13_bitCount_95d88_48 : decode cJ13_bitCount_95d88 48 = .ok (.lload_n 0, 1) := by decide +kernel
theorem dJ13_bitCount_95d88_49 : decode cJ13_bitCount_95d88 49 = .ok (.lload_n 0, 1) := by decide +kernel
theorem dJ13_bitCount_95d88_50 : decode cJ13_bitCount_95d88 50 = .ok (.bipush 32, 2) := by decide +kernel
theorem dJ13_bitCount_95d88_52 : decode cJ13_bitCount_95d88 52 = .ok (.lushr, 1) := by decide +kernel
theorem dJ13_bitCount_95d88_53 : decode cJ13_bitCount_95d88 53 = .ok (.ladd, 1) := by decide +kernel
theorem dJ13_bitCount_95d88_54 : decode cJ13_bitCount_95d88 54 = .ok (.lstore_n 0, 1) := by decide +kernel
theorem dJ13_bitCount_95d88_55 : decode cJ13_bitCount_95d88 55 = .ok (.lload_n 0, 1) := by decide +kernel
theorem dJ13_bitCount_95d88_56 : decode cJ13_bitCount_95d88 56 = .ok (.l2i, 1) := by decide +kernel
theorem dJ13_bitCount_95d88_57 : decode cJ13_bitCount_95d88 57 = .ok (.bipush 127, 2) := by decide +kernel
theorem dJ13_bitCount_95d88_59 : decode cJ13_bitCount_95d88 59 = .ok (.iand, 1) := by decide +kernel
theorem dJ13_bitCount_95d88_60 : decode cJ13_bitCount_95d88 60 = .ok (.ireturn, 1) := by decide +kernel
theorem dJ9_min_7cf53_0 : decode cJ9_min_7cf53 0 = .ok (.iload_n 0, 1) := by decide +kernel
theorem dJ9_min_7cf53_1 : decode cJ9_min_7cf53 1 = .ok (.iload_n 1, 1) := by decide +kernel
theorem dJ9_min_7cf53_2 : decode cJ9_min_7cf53 2 = .ok (.if_icmp .gt 7, 3) := by decide +kernel
theorem dJ9_min_7cf53_5 : decode cJ9_min_7cf53 5 = .ok (.iload_n 0, 1) := by decide +kernel
theorem dJ9_min_7cf53_6 : decode cJ9_min_7cf53 6 = .ok (.goto 4, 3) := by decide +kernel
theorem dJ9_min_7cf53_9 : decode cJ9_min_7cf53 9 = .ok (.iload_n 1, 1) := by decide +kernel
theorem dJ9_min_7cf53_10 : decode cJ9_min_7cf53 10 = .ok (.ireturn, 1) := by decide +kernel
theorem dJ9_min_f86c9_0 : decode cJ9_min_f86c9 0 = .ok (.lload_n 0, 1) := by decide +kernel
theorem dJ9_min_f86c9_1 : decode cJ9_min_f86c9 1 = .ok (.lload_n 2, 1) := by decide +kernel
theorem dJ9_min_f86c9_2 : decode cJ9_min_f86c9 2 = .ok (.lcmp, 1) := by decide +kernel
theorem dJ9_min_f86c9_3 : decode cJ9_min_f86c9 3 = .ok (.ifCond .gt 7, 3) := by decide +kernel
theorem dJ9_min_f86c9_6 : decode cJ9_min_f86c9 6 = .ok (.lload_n 0, 1) := by decide +kernel
theorem dJ9_min_f86c9_7 : decode cJ9_min_f86c9 7 = .ok (.goto 4, 3) := by decide +kernel
theorem dJ9_min_f86c9_10 : decode cJ9_min_f86c9 10 = .ok (.lload_n 2, 1) := by decide +kernel
theorem dJ9_min_f86c9_11 : decode cJ9_min_f86c9 11 = .ok (.lreturn, 1) := by decide +kernel
