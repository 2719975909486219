/-! the law's words lie in the tables -/
theorem tb_1 : ∀ w ∈ wsL_law0_r1, w ∈ lw_tbl := fun w h => (goodIn_p wsL_law0_r1 [32, 35] (by decide +kernel) (by decide +kernel) w h).1
theorem tb_2 : ∀ w ∈ wsL_law0_r2, w ∈ lw_tbl := fun w h => (goodIn_p wsL_law0_r2 [40, 46] (by decide +kernel) (by decide +kernel) w h).1
theorem tb_3 : ∀ w ∈ wsL_law0_r3, w ∈ lw_tbl := fun w h => (goodIn_p wsL_law0_r3 [73, 104, 156, 173, 205] (by decide +kernel) (by decide +kernel) w h).1
theorem tb_4 : ∀ w ∈ wsL_law0_r4, w ∈ lw_tbl := fun w h => (goodIn_p wsL_law0_r4 [210, 315, 318, 338] (by decide +kernel) (by decide +kernel) w h).1
theorem tb_5 : ∀ w ∈ wsL_law0_r5, w ∈ lw_tbl := fun w h => (goodIn_p wsL_law0_r5 [342, 349, 346, 353, 357] (by decide +kernel) (by decide +kernel) w h).1
theorem tb_6 : ∀ w ∈ wsL_law0_r6, w ∈ lw_tbl := fun w h => (goodIn_p wsL_law0_r6 [362, 366, 369, 379] (by decide +kernel) (by decide +kernel) w h).1
theorem tb_7 : ∀ w ∈ wsL_law0_r7, w ∈ lw_tbl := fun w h => (goodIn_p wsL_law0_r7 [382, 402, 406, 410, 414] (by decide +kernel) (by decide +kernel) w h).1
theorem tb_8 : ∀ w ∈ wsL_law0_r8, w ∈ lw_tbl := fun w h => (goodIn_p wsL_law0_r8 [418, 422, 429] (by decide +kernel) (by decide +kernel) w h).1
