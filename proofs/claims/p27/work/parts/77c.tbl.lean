/-! the law's words lie in the tables -/
theorem tb_16 : ∀ w ∈ wsL_law0_r16, w ∈ lw_tbl := fun w h => (goodIn_p wsL_law0_r16 [219, 291, 567, 570, 573, 576, 579] (by decide +kernel) (by decide +kernel) w h).1
theorem tb_18 : ∀ w ∈ wsL_law0_r18, w ∈ lw_tbl := fun w h => (goodIn_p wsL_law0_r18 [605, 609, 613, 616, 623, 627] (by decide +kernel) (by decide +kernel) w h).1
theorem tb_19 : ∀ w ∈ wsL_law0_r19, w ∈ lw_tbl := fun w h => (goodIn_p wsL_law0_r19 [634, 638] (by decide +kernel) (by decide +kernel) w h).1
theorem tb_x0 : ∀ w ∈ (vx_atS RX6 228 "java/lang/IndexOutOfBoundsException" ["java/lang/RuntimeException", "java/lang/Exception"]).filter goodWord, w ∈ lw_tbl := by decide +kernel
theorem tb_x1 : ∀ w ∈ (vx_atS RX6 137 "java/lang/IllegalArgumentException" ["java/lang/RuntimeException", "java/lang/Exception"]).filter goodWord, w ∈ lw_tbl := by decide +kernel
theorem tb_x2 : ∀ w ∈ (vx_atS RX6 99 "java/lang/IllegalStateException" ["java/lang/RuntimeException", "java/lang/Exception"]).filter goodWord, w ∈ lw_tbl := by decide +kernel
