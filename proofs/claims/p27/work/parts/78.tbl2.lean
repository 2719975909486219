/-! the law's words lie in the tables: all of them -/
theorem tb_c6 : ∀ w ∈ wsX60, w ∈ lw_tbl := by decide +kernel
theorem tb_c1 : ∀ w ∈ wsX10, w ∈ lw_tbl := by decide +kernel
theorem tb_c3 : ∀ w ∈ wsX30, w ∈ lw_tbl := by decide +kernel
theorem tb_c5 : ∀ w ∈ wsX50, w ∈ lw_tbl := by decide +kernel
theorem tb_c0 : ∀ w ∈ wsX00, w ∈ lw_tbl := by decide +kernel
theorem tb_c4 : ∀ w ∈ wsX40, w ∈ lw_tbl := by decide +kernel
theorem tb_c2 : ∀ w ∈ wsX20, w ∈ lw_tbl := by decide +kernel
theorem tb_r : ∀ w ∈ (wsL_law0_r1 ++ (wsL_law0_r2 ++ (wsL_law0_r3 ++ (wsL_law0_r4 ++ (wsL_law0_r5 ++ (wsL_law0_r6 ++ (wsL_law0_r7 ++ (wsL_law0_r8 ++ (wsL_law0_r9 ++ (wsL_law0_r10 ++ (wsL_law0_r11 ++ (wsL_law0_r12 ++ (wsL_law0_r13 ++ (wsL_law0_r14 ++ (wsL_law0_r15 ++ (wsL_law0_r16 ++ (wsL_law0_r17 ++ (wsL_law0_r18 ++ (wsL_law0_r19))))))))))))))))))), w ∈ lw_tbl := by
  exact List.forall_mem_append.mpr ⟨tb_1, List.forall_mem_append.mpr ⟨tb_2, List.forall_mem_append.mpr ⟨tb_3, List.forall_mem_append.mpr ⟨tb_4, List.forall_mem_append.mpr ⟨tb_5, List.forall_mem_append.mpr ⟨tb_6, List.forall_mem_append.mpr ⟨tb_7, List.forall_mem_append.mpr ⟨tb_8, List.forall_mem_append.mpr ⟨tb_9, List.forall_mem_append.mpr ⟨tb_10, List.forall_mem_append.mpr ⟨tb_11, List.forall_mem_append.mpr ⟨tb_12, List.forall_mem_append.mpr ⟨tb_13, List.forall_mem_append.mpr ⟨tb_14, List.forall_mem_append.mpr ⟨tb_15, List.forall_mem_append.mpr ⟨tb_16, List.forall_mem_append.mpr ⟨tb_17, List.forall_mem_append.mpr ⟨tb_18, tb_19⟩⟩⟩⟩⟩⟩⟩⟩⟩⟩⟩⟩⟩⟩⟩⟩⟩⟩
theorem tb_0 : ∀ w ∈ wsL_law0, w ∈ lw_tbl := by
  unfold wsL_law0
  exact List.forall_mem_append.mpr ⟨List.forall_mem_append.mpr ⟨List.forall_mem_append.mpr ⟨List.forall_mem_append.mpr ⟨List.forall_mem_append.mpr ⟨List.forall_mem_append.mpr ⟨List.forall_mem_append.mpr ⟨List.forall_mem_append.mpr ⟨tb_r, tb_c6⟩, tb_c1⟩, tb_c3⟩, tb_c5⟩, tb_c0⟩, tb_c4⟩, tb_c2⟩, fun w h => absurd h List.not_mem_nil⟩
theorem tb_in : ∀ w ∈ wsL_law, w ∈ lw_tbl := by
  unfold wsL_law
  exact List.forall_mem_append.mpr ⟨List.forall_mem_append.mpr ⟨List.forall_mem_append.mpr ⟨tb_0, tb_x0⟩, tb_x1⟩, tb_x2⟩
