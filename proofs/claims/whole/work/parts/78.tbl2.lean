/-! the law's words lie in the tables: all of them -/
theorem tb_c6 : ∀ w ∈ wsX60, w ∈ lw_tbl := by decide +kernel
theorem tb_c7 : ∀ w ∈ wsX70, w ∈ lw_tbl := by decide +kernel
theorem tb_c1 : ∀ w ∈ wsX10, w ∈ lw_tbl := by decide +kernel
theorem tb_c3 : ∀ w ∈ wsX30, w ∈ lw_tbl := by decide +kernel
theorem tb_c5 : ∀ w ∈ wsX50, w ∈ lw_tbl := by decide +kernel
theorem tb_c0 : ∀ w ∈ wsX00, w ∈ lw_tbl := by decide +kernel
theorem tb_c4 : ∀ w ∈ wsX40, w ∈ lw_tbl := by decide +kernel
theorem tb_c2 : ∀ w ∈ wsX20, w ∈ lw_tbl := by decide +kernel
theorem tb_r : ∀ w ∈ (wsL_law0_r1 ++ (wsL_law0_r2 ++ (wsL_law0_r3 ++ (wsL_law0_r4 ++ (wsL_law0_r5 ++ (wsL_law0_r6 ++ (wsL_law0_r7 ++ (wsL_law0_r8 ++ (wsL_law0_r9 ++ (wsL_law0_r10 ++ (wsL_law0_r11 ++ (wsL_law0_r12 ++ (wsL_law0_r13 ++ (wsL_law0_r14 ++ (wsL_law0_r15 ++ (wsL_law0_r16 ++ (wsL_law0_r17 ++ (wsL_law0_r18 ++ (wsL_law0_r19 ++ (wsL_law0_r20 ++ (wsL_law0_r21 ++ (wsL_law0_r22 ++ (wsL_law0_r23 ++ (wsL_law0_r24 ++ (wsL_law0_r25 ++ (wsL_law0_r26 ++ (wsL_law0_r27 ++ (wsL_law0_r28 ++ (wsL_law0_r29 ++ (wsL_law0_r30 ++ (wsL_law0_r31 ++ (wsL_law0_r32 ++ (wsL_law0_r33 ++ (wsL_law0_r34 ++ (wsL_law0_r35 ++ (wsL_law0_r36)))))))))))))))))))))))))))))))))))), w ∈ lw_tbl := by
  exact List.forall_mem_append.mpr ⟨tb_1, List.forall_mem_append.mpr ⟨tb_2, List.forall_mem_append.mpr ⟨tb_3, List.forall_mem_append.mpr ⟨tb_4, List.forall_mem_append.mpr ⟨tb_5, List.forall_mem_append.mpr ⟨tb_6, List.forall_mem_append.mpr ⟨tb_7, List.forall_mem_append.mpr ⟨tb_8, List.forall_mem_append.mpr ⟨tb_9, List.forall_mem_append.mpr ⟨tb_10, List.forall_mem_append.mpr ⟨tb_11, List.forall_mem_append.mpr ⟨tb_12, List.forall_mem_append.mpr ⟨tb_13, List.forall_mem_append.mpr ⟨tb_14, List.forall_mem_append.mpr ⟨tb_15, List.forall_mem_append.mpr ⟨tb_16, List.forall_mem_append.mpr ⟨tb_17, List.forall_mem_append.mpr ⟨tb_18, List.forall_mem_append.mpr ⟨tb_19, List.forall_mem_append.mpr ⟨tb_20, List.forall_mem_append.mpr ⟨tb_21, List.forall_mem_append.mpr ⟨tb_22, List.forall_mem_append.mpr ⟨tb_23, List.forall_mem_append.mpr ⟨tb_24, List.forall_mem_append.mpr ⟨tb_25, List.forall_mem_append.mpr ⟨tb_26, List.forall_mem_append.mpr ⟨tb_27, List.forall_mem_append.mpr ⟨tb_28, List.forall_mem_append.mpr ⟨tb_29, List.forall_mem_append.mpr ⟨tb_30, List.forall_mem_append.mpr ⟨tb_31, List.forall_mem_append.mpr ⟨tb_32, List.forall_mem_append.mpr ⟨tb_33, List.forall_mem_append.mpr ⟨tb_34, List.forall_mem_append.mpr ⟨tb_35, tb_36⟩⟩⟩⟩⟩⟩⟩⟩⟩⟩⟩⟩⟩⟩⟩⟩⟩⟩⟩⟩⟩⟩⟩⟩⟩⟩⟩⟩⟩⟩⟩⟩⟩⟩⟩
theorem tb_0 : ∀ w ∈ wsL_law0, w ∈ lw_tbl := by
  unfold wsL_law0
  exact List.forall_mem_append.mpr ⟨List.forall_mem_append.mpr ⟨List.forall_mem_append.mpr ⟨List.forall_mem_append.mpr ⟨List.forall_mem_append.mpr ⟨List.forall_mem_append.mpr ⟨List.forall_mem_append.mpr ⟨List.forall_mem_append.mpr ⟨List.forall_mem_append.mpr ⟨tb_r, tb_c6⟩, tb_c7⟩, tb_c1⟩, tb_c3⟩, tb_c5⟩, tb_c0⟩, tb_c4⟩, tb_c2⟩, fun w h => absurd h List.not_mem_nil⟩
theorem tb_in : ∀ w ∈ wsL_law, w ∈ lw_tbl := by
  unfold wsL_law
  exact List.forall_mem_append.mpr ⟨List.forall_mem_append.mpr ⟨List.forall_mem_append.mpr ⟨tb_0, tb_x0⟩, tb_x1⟩, tb_x2⟩
