/-! the law's words lie in the tables -/
theorem tb_1 : ∀ w ∈ wsL_law0_r1, w ∈ lw_tbl := fun w h => (goodIn_p wsL_law0_r1 [32, 35] (by decide +kernel) (by decide +kernel) w h).1
theorem tb_2 : ∀ w ∈ wsL_law0_r2, w ∈ lw_tbl := fun w h => (goodIn_p wsL_law0_r2 [40, 46] (by decide +kernel) (by decide +kernel) w h).1
theorem tb_3 : ∀ w ∈ wsL_law0_r3, w ∈ lw_tbl := fun w h => (goodIn_p wsL_law0_r3 [73, 104, 156, 173, 205] (by decide +kernel) (by decide +kernel) w h).1
theorem tb_4 : ∀ w ∈ wsL_law0_r4, w ∈ lw_tbl := fun w h => (goodIn_p wsL_law0_r4 [210, 315, 318, 338] (by decide +kernel) (by decide +kernel) w h).1
theorem tb_5 : ∀ w ∈ wsL_law0_r5, w ∈ lw_tbl := fun w h => (goodIn_p wsL_law0_r5 [342, 349, 346, 353, 357] (by decide +kernel) (by decide +kernel) w h).1
theorem tb_6 : ∀ w ∈ wsL_law0_r6, w ∈ lw_tbl := fun w h => (goodIn_p wsL_law0_r6 [362, 366, 369, 379] (by decide +kernel) (by decide +kernel) w h).1
theorem tb_7 : ∀ w ∈ wsL_law0_r7, w ∈ lw_tbl := fun w h => (goodIn_p wsL_law0_r7 [382, 402, 406, 410, 414] (by decide +kernel) (by decide +kernel) w h).1
theorem tb_8 : ∀ w ∈ wsL_law0_r8, w ∈ lw_tbl := fun w h => (goodIn_p wsL_law0_r8 [418, 422, 429] (by decide +kernel) (by decide +kernel) w h).1
theorem tb_9 : ∀ w ∈ wsL_law0_r9, w ∈ lw_tbl := fun w h => (goodIn_p wsL_law0_r9 [437, 442, 446, 453] (by decide +kernel) (by decide +kernel) w h).1
theorem tb_10 : ∀ w ∈ wsL_law0_r10, w ∈ lw_tbl := fun w h => (goodIn_p wsL_law0_r10 [457, 464, 468, 472] (by decide +kernel) (by decide +kernel) w h).1
theorem tb_11 : ∀ w ∈ wsL_law0_r11, w ∈ lw_tbl := fun w h => (goodIn_p wsL_law0_r11 [295, 299, 303, 307] (by decide +kernel) (by decide +kernel) w h).1
theorem tb_12 : ∀ w ∈ wsL_law0_r12, w ∈ lw_tbl := fun w h => (goodIn_p wsL_law0_r12 [476, 483, 480, 490, 494] (by decide +kernel) (by decide +kernel) w h).1
theorem tb_13 : ∀ w ∈ wsL_law0_r13, w ∈ lw_tbl := fun w h => (goodIn_p wsL_law0_r13 [501, 509, 512] (by decide +kernel) (by decide +kernel) w h).1
theorem tb_14 : ∀ w ∈ wsL_law0_r14, w ∈ lw_tbl := fun w h => (goodIn_p wsL_law0_r14 [521, 529, 533, 539, 543] (by decide +kernel) (by decide +kernel) w h).1
theorem tb_15 : ∀ w ∈ wsL_law0_r15, w ∈ lw_tbl := fun w h => (goodIn_p wsL_law0_r15 [547, 551, 555, 559, 564] (by decide +kernel) (by decide +kernel) w h).1
theorem tb_16 : ∀ w ∈ wsL_law0_r16, w ∈ lw_tbl := fun w h => (goodIn_p wsL_law0_r16 [219, 291, 567, 570, 573, 576, 579] (by decide +kernel) (by decide +kernel) w h).1
theorem tb_17 : ∀ w ∈ wsL_law0_r17, w ∈ lw_tbl := fun w h => (goodIn_p wsL_law0_r17 [582, 585, 588, 591, 594, 597, 601] (by decide +kernel) (by decide +kernel) w h).1
theorem tb_18 : ∀ w ∈ wsL_law0_r18, w ∈ lw_tbl := fun w h => (goodIn_p wsL_law0_r18 [605, 609, 613, 616, 623, 627] (by decide +kernel) (by decide +kernel) w h).1
theorem tb_19 : ∀ w ∈ wsL_law0_r19, w ∈ lw_tbl := fun w h => (goodIn_p wsL_law0_r19 [634, 638] (by decide +kernel) (by decide +kernel) w h).1
theorem tb_x0 : ∀ w ∈ (vx_atS RX6 228 "java/lang/IndexOutOfBoundsException" ["java/lang/RuntimeException", "java/lang/Exception"]).filter goodWord, w ∈ lw_tbl := by decide +kernel
theorem tb_x1 : ∀ w ∈ (vx_atS RX6 137 "java/lang/IllegalArgumentException" ["java/lang/RuntimeException", "java/lang/Exception"]).filter goodWord, w ∈ lw_tbl := by decide +kernel
theorem tb_x2 : ∀ w ∈ (vx_atS RX6 99 "java/lang/IllegalStateException" ["java/lang/RuntimeException", "java/lang/Exception"]).filter goodWord, w ∈ lw_tbl := by decide +kernel
