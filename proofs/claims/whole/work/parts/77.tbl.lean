/-! the law's words lie in the tables -/
theorem tb_1 : ∀ w ∈ wsL_law0_r1, w ∈ lw_tbl := fun w h => (goodIn_p wsL_law0_r1 [80, 83] (by decide +kernel) (by decide +kernel) w h).1
theorem tb_2 : ∀ w ∈ wsL_law0_r2, w ∈ lw_tbl := fun w h => (goodIn_p wsL_law0_r2 [88] (by decide +kernel) (by decide +kernel) w h).1
theorem tb_3 : ∀ w ∈ wsL_law0_r3, w ∈ lw_tbl := fun w h => (goodIn_p wsL_law0_r3 [94, 121, 152, 206, 223] (by decide +kernel) (by decide +kernel) w h).1
theorem tb_4 : ∀ w ∈ wsL_law0_r4, w ∈ lw_tbl := fun w h => (goodIn_p wsL_law0_r4 [784, 433, 436] (by decide +kernel) (by decide +kernel) w h).1
theorem tb_5 : ∀ w ∈ wsL_law0_r5, w ∈ lw_tbl := fun w h => (goodIn_p wsL_law0_r5 [507, 527, 531, 535] (by decide +kernel) (by decide +kernel) w h).1
theorem tb_6 : ∀ w ∈ wsL_law0_r6, w ∈ lw_tbl := fun w h => (goodIn_p wsL_law0_r6 [406, 540, 544, 548] (by decide +kernel) (by decide +kernel) w h).1
theorem tb_7 : ∀ w ∈ wsL_law0_r7, w ∈ lw_tbl := fun w h => (goodIn_p wsL_law0_r7 [555, 321, 552, 351] (by decide +kernel) (by decide +kernel) w h).1
theorem tb_8 : ∀ w ∈ wsL_law0_r8, w ∈ lw_tbl := fun w h => (goodIn_p wsL_law0_r8 [358, 355, 862, 865, 850, 843] (by decide +kernel) (by decide +kernel) w h).1
theorem tb_9 : ∀ w ∈ wsL_law0_r9, w ∈ lw_tbl := fun w h => (goodIn_p wsL_law0_r9 [858, 869, 873, 877, 881, 885] (by decide +kernel) (by decide +kernel) w h).1
theorem tb_10 : ∀ w ∈ wsL_law0_r10, w ∈ lw_tbl := fun w h => (goodIn_p wsL_law0_r10 [889, 835, 562, 566, 893] (by decide +kernel) (by decide +kernel) w h).1
theorem tb_11 : ∀ w ∈ wsL_law0_r11, w ∈ lw_tbl := fun w h => (goodIn_p wsL_law0_r11 [897, 573, 901] (by decide +kernel) (by decide +kernel) w h).1
theorem tb_12 : ∀ w ∈ wsL_law0_r12, w ∈ lw_tbl := fun w h => (goodIn_p wsL_law0_r12 [581, 584, 593, 905, 909] (by decide +kernel) (by decide +kernel) w h).1
theorem tb_13 : ∀ w ∈ wsL_law0_r13, w ∈ lw_tbl := fun w h => (goodIn_p wsL_law0_r13 [616, 620, 626, 630, 410] (by decide +kernel) (by decide +kernel) w h).1
theorem tb_14 : ∀ w ∈ wsL_law0_r14, w ∈ lw_tbl := fun w h => (goodIn_p wsL_law0_r14 [414, 635, 392, 371, 639] (by decide +kernel) (by decide +kernel) w h).1
theorem tb_15 : ∀ w ∈ wsL_law0_r15, w ∈ lw_tbl := fun w h => (goodIn_p wsL_law0_r15 [644, 913, 918, 922, 926] (by decide +kernel) (by decide +kernel) w h).1
theorem tb_16 : ∀ w ∈ wsL_law0_r16, w ∈ lw_tbl := fun w h => (goodIn_p wsL_law0_r16 [930, 934, 938, 942, 946] (by decide +kernel) (by decide +kernel) w h).1
theorem tb_17 : ∀ w ∈ wsL_law0_r17, w ∈ lw_tbl := fun w h => (goodIn_p wsL_law0_r17 [651, 655, 660, 950, 258] (by decide +kernel) (by decide +kernel) w h).1
theorem tb_18 : ∀ w ∈ wsL_law0_r18, w ∈ lw_tbl := fun w h => (goodIn_p wsL_law0_r18 [954, 262, 266, 269, 272, 275, 278, 281] (by decide +kernel) (by decide +kernel) w h).1
theorem tb_19 : ∀ w ∈ wsL_law0_r19, w ∈ lw_tbl := fun w h => (goodIn_p wsL_law0_r19 [958, 962, 966, 970, 974] (by decide +kernel) (by decide +kernel) w h).1
theorem tb_20 : ∀ w ∈ wsL_law0_r20, w ∈ lw_tbl := fun w h => (goodIn_p wsL_law0_r20 [978, 982, 986, 990, 667] (by decide +kernel) (by decide +kernel) w h).1
theorem tb_21 : ∀ w ∈ wsL_law0_r21, w ∈ lw_tbl := fun w h => (goodIn_p wsL_law0_r21 [671, 676, 424, 681, 685, 689] (by decide +kernel) (by decide +kernel) w h).1
theorem tb_22 : ∀ w ∈ wsL_law0_r22, w ∈ lw_tbl := fun w h => (goodIn_p wsL_law0_r22 [694, 994, 998, 701] (by decide +kernel) (by decide +kernel) w h).1
theorem tb_23 : ∀ w ∈ wsL_law0_r23, w ∈ lw_tbl := fun w h => (goodIn_p wsL_law0_r23 [847, 709, 854, 717] (by decide +kernel) (by decide +kernel) w h).1
theorem tb_24 : ∀ w ∈ wsL_law0_r24, w ∈ lw_tbl := fun w h => (goodIn_p wsL_law0_r24 [722, 839, 729, 317, 1002, 1006] (by decide +kernel) (by decide +kernel) w h).1
theorem tb_25 : ∀ w ∈ wsL_law0_r25, w ∈ lw_tbl := fun w h => (goodIn_p wsL_law0_r25 [736, 388, 1010, 1014, 1018] (by decide +kernel) (by decide +kernel) w h).1
theorem tb_26 : ∀ w ∈ wsL_law0_r26, w ∈ lw_tbl := fun w h => (goodIn_p wsL_law0_r26 [744, 330, 334, 338, 313] (by decide +kernel) (by decide +kernel) w h).1
theorem tb_27 : ∀ w ∈ wsL_law0_r27, w ∈ lw_tbl := fun w h => (goodIn_p wsL_law0_r27 [1022, 1026, 1030, 751, 1034] (by decide +kernel) (by decide +kernel) w h).1
theorem tb_28 : ∀ w ∈ wsL_law0_r28, w ∈ lw_tbl := fun w h => (goodIn_p wsL_law0_r28 [758, 400, 383, 1038] (by decide +kernel) (by decide +kernel) w h).1
theorem tb_29 : ∀ w ∈ wsL_law0_r29, w ∈ lw_tbl := fun w h => (goodIn_p wsL_law0_r29 [1042, 1046, 765, 1050, 1054] (by decide +kernel) (by decide +kernel) w h).1
theorem tb_30 : ∀ w ∈ wsL_law0_r30, w ∈ lw_tbl := fun w h => (goodIn_p wsL_law0_r30 [772, 362, 367, 1058, 1062] (by decide +kernel) (by decide +kernel) w h).1
theorem tb_31 : ∀ w ∈ wsL_law0_r31, w ∈ lw_tbl := fun w h => (goodIn_p wsL_law0_r31 [779, 375, 379, 1066, 1070] (by decide +kernel) (by decide +kernel) w h).1
theorem tb_32 : ∀ w ∈ wsL_law0_r32, w ∈ lw_tbl := fun w h => (goodIn_p wsL_law0_r32 [1074, 285, 289, 1078, 1082, 293] (by decide +kernel) (by decide +kernel) w h).1
theorem tb_33 : ∀ w ∈ wsL_law0_r33, w ∈ lw_tbl := fun w h => (goodIn_p wsL_law0_r33 [297, 301, 1086, 1090, 305, 309] (by decide +kernel) (by decide +kernel) w h).1
theorem tb_34 : ∀ w ∈ wsL_law0_r34, w ∈ lw_tbl := fun w h => (goodIn_p wsL_law0_r34 [1094, 1098, 325, 341, 346, 396] (by decide +kernel) (by decide +kernel) w h).1
theorem tb_35 : ∀ w ∈ wsL_law0_r35, w ∈ lw_tbl := fun w h => (goodIn_p wsL_law0_r35 [418, 1102, 1107, 1112, 1115] (by decide +kernel) (by decide +kernel) w h).1
theorem tb_36 : ∀ w ∈ wsL_law0_r36, w ∈ lw_tbl := fun w h => (goodIn_p wsL_law0_r36 [1118] (by decide +kernel) (by decide +kernel) w h).1
theorem tb_x0 : ∀ w ∈ (vx_atS RX6 228 "java/lang/IndexOutOfBoundsException" ["java/lang/RuntimeException", "java/lang/Exception"]).filter goodWord, w ∈ lw_tbl := by decide +kernel
theorem tb_x1 : ∀ w ∈ (vx_atS RX6 137 "java/lang/IllegalArgumentException" ["java/lang/RuntimeException", "java/lang/Exception"]).filter goodWord, w ∈ lw_tbl := by decide +kernel
theorem tb_x2 : ∀ w ∈ (vx_atS RX6 99 "java/lang/IllegalStateException" ["java/lang/RuntimeException", "java/lang/Exception"]).filter goodWord, w ∈ lw_tbl := by decide +kernel
