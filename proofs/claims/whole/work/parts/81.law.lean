def wsL_law : List Cond := (wsL_law_r1 ++ (wsL_law_r2 ++ (wsL_law_r3 ++ (wsL_law_r4 ++ (wsL_law_r5 ++ (wsL_law_r6 ++ (wsL_law_r7 ++ (wsL_law_r8 ++ (wsL_law_r9 ++ (wsL_law_r10 ++ (wsL_law_r11 ++ (wsL_law_r12 ++ (wsL_law_r13 ++ (wsL_law_r14 ++ (wsL_law_r15 ++ (wsL_law_r16 ++ (wsL_law_r17 ++ (wsL_law_r18 ++ (wsL_law_r19 ++ (wsL_law_r20 ++ (wsL_law_r21 ++ (wsL_law_r22 ++ (wsL_law_r23 ++ (wsL_law_r24 ++ (wsL_law_r25 ++ (wsL_law_r26 ++ (wsL_law_r27 ++ (wsL_law_r28 ++ (wsL_law_r29 ++ (wsL_law_r30 ++ (wsL_law_r31 ++ (wsL_law_r32 ++ (wsL_law_r33 ++ wsL_law_r34))))))))))))))))))))))))))))))))) ++ wsX60 ++ wsX70 ++ wsX00 ++ wsX30 ++ wsX50 ++ wsX10 ++ wsX20 ++ ([] : List Cond)
theorem memA {a b : List Cond} (ha : ∀ w ∈ a, w ∈ lw_tbl) (hb : ∀ w ∈ b, w ∈ lw_tbl) : ∀ w ∈ a ++ b, w ∈ lw_tbl := fun w h => (List.mem_append.mp h).elim (ha w) (hb w)
set_option maxRecDepth 20000 in
theorem inX6 : ∀ w ∈ wsX60, w ∈ lw_tbl := by decide +kernel
set_option maxRecDepth 20000 in
theorem inX7 : ∀ w ∈ wsX70, w ∈ lw_tbl := by decide +kernel
set_option maxRecDepth 20000 in
theorem inX0 : ∀ w ∈ wsX00, w ∈ lw_tbl := by decide +kernel
set_option maxRecDepth 20000 in
theorem inX3 : ∀ w ∈ wsX30, w ∈ lw_tbl := by decide +kernel
set_option maxRecDepth 20000 in
theorem inX5 : ∀ w ∈ wsX50, w ∈ lw_tbl := by decide +kernel
set_option maxRecDepth 20000 in
theorem inX1 : ∀ w ∈ wsX10, w ∈ lw_tbl := by decide +kernel
set_option maxRecDepth 20000 in
theorem inX2 : ∀ w ∈ wsX20, w ∈ lw_tbl := by decide +kernel
set_option maxRecDepth 20000 in
theorem inX4 : ∀ w ∈ wsX40, w ∈ lw_tbl := by decide +kernel
theorem inJ6 : ∀ w ∈ wsJ60, w ∈ lw_tbl := by decide +kernel
theorem inJ13 : ∀ w ∈ wsJ130, w ∈ lw_tbl := by decide +kernel
theorem inJ9 : ∀ w ∈ wsJ90, w ∈ lw_tbl := by decide +kernel
theorem wsL_law_in : ∀ w ∈ wsL_law, w ∈ lw_tbl := memA (memA (memA (memA (memA (memA (memA (memA (memA wsL_law_r1_in (memA wsL_law_r2_in (memA wsL_law_r3_in (memA wsL_law_r4_in (memA wsL_law_r5_in (memA wsL_law_r6_in (memA wsL_law_r7_in (memA wsL_law_r8_in (memA wsL_law_r9_in (memA wsL_law_r10_in (memA wsL_law_r11_in (memA wsL_law_r12_in (memA wsL_law_r13_in (memA wsL_law_r14_in (memA wsL_law_r15_in (memA wsL_law_r16_in (memA wsL_law_r17_in (memA wsL_law_r18_in (memA wsL_law_r19_in (memA wsL_law_r20_in (memA wsL_law_r21_in (memA wsL_law_r22_in (memA wsL_law_r23_in (memA wsL_law_r24_in (memA wsL_law_r25_in (memA wsL_law_r26_in (memA wsL_law_r27_in (memA wsL_law_r28_in (memA wsL_law_r29_in (memA wsL_law_r30_in (memA wsL_law_r31_in (memA wsL_law_r32_in (memA wsL_law_r33_in wsL_law_r34_in))))))))))))))))))))))))))))))))) inX6) inX7) inX0) inX3) inX5) inX1) inX2) (fun _ h => absurd h List.not_mem_nil)
set_option maxRecDepth 20000 in
theorem ggL_law_X6_units : GoodIn wsL_law wsX6_units := goodIn_r _ [87, 16, 88, 89, 2, 90, 91, 92, 93, 94, 15, 95, 96, 97, 98, 99, 100, 40, 41, 101, 102, 103, 104, 105, 106, 107, 108, 109, 110, 111, 112, 113, 114, 115, 116, 794, 795, 796, 797, 798, 799, 800, 801, 802, 803, 822, 823, 824] (by decide +kernel) (by decide +kernel)
set_option maxRecDepth 20000 in
theorem gL_law_X6_units : GoodIn wsL_law (wsV RL 13 RX6 yX6_units wsX6_units) := goodIn_app (goodIn_of _ (by decide +kernel)) ggL_law_X6_units
set_option maxRecDepth 20000 in
theorem ggL_law_X6_tower : GoodIn wsL_law wsX6_tower := goodIn_r _ [697, 88, 89, 2, 90, 91, 698, 699, 700, 701, 702, 703, 704, 35, 705, 706, 707, 708, 709, 16, 92, 93, 94, 15, 95, 96, 97, 98, 99, 100, 40, 41, 101, 102, 103, 104, 105, 106, 107, 108, 160, 161, 115, 162, 710, 711, 712, 713, 714, 592, 715, 794, 795, 796, 797, 798, 799, 800, 801, 802, 803, 822, 823, 824] (by decide +kernel) (by decide +kernel)
set_option maxRecDepth 20000 in
theorem gL_law_X6_tower : GoodIn wsL_law (wsV RL 127 RX6 yX6_tower wsX6_tower) := goodIn_app (goodIn_of _ (by decide +kernel)) ggL_law_X6_tower
