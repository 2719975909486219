/-! the law's words lie in the tables -/
theorem tb_9 : ∀ w ∈ wsL_law0_r9, w ∈ lw_tbl := fun w h => (goodIn_p wsL_law0_r9 [437, 442, 446, 453] (by decide +kernel) (by decide +kernel) w h).1
theorem tb_10 : ∀ w ∈ wsL_law0_r10, w ∈ lw_tbl := fun w h => (goodIn_p wsL_law0_r10 [457, 464, 468, 472] (by decide +kernel) (by decide +kernel) w h).1
theorem tb_11 : ∀ w ∈ wsL_law0_r11, w ∈ lw_tbl := fun w h => (goodIn_p wsL_law0_r11 [295, 299, 303, 307] (by decide +kernel) (by decide +kernel) w h).1
theorem tb_12 : ∀ w ∈ wsL_law0_r12, w ∈ lw_tbl := fun w h => (goodIn_p wsL_law0_r12 [476, 483, 480, 490, 494] (by decide +kernel) (by decide +kernel) w h).1
theorem tb_13 : ∀ w ∈ wsL_law0_r13, w ∈ lw_tbl := fun w h => (goodIn_p wsL_law0_r13 [501, 509, 512] (by decide +kernel) (by decide +kernel) w h).1
theorem tb_14 : ∀ w ∈ wsL_law0_r14, w ∈ lw_tbl := fun w h => (goodIn_p wsL_law0_r14 [521, 529, 533, 539, 543] (by decide +kernel) (by decide +kernel) w h).1
theorem tb_15 : ∀ w ∈ wsL_law0_r15, w ∈ lw_tbl := fun w h => (goodIn_p wsL_law0_r15 [547, 551, 555, 559, 564] (by decide +kernel) (by decide +kernel) w h).1
