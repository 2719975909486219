theorem dX2_init_0 : decode cX2_init 0 = .ok (.aload_n 0, 1) := by decide +kernel
theorem dX2_init_1 : decode cX2_init 1 = .ok (.invokespecial 1, 3) := by decide +kernel
theorem dX2_init_4 : decode cX2_init 4 = .ok (.return_, 1) := by decide +kernel
theorem dX2_copyFrom_0 : decode cX2_copyFrom 0 = .ok (.aload_n 0, 1) := by decide +kernel
theorem dX2_copyFrom_1 : decode cX2_copyFrom 1 = .ok (.aload_n 1, 1) := by decide +kernel
theorem dX2_copyFrom_2 : decode cX2_copyFrom 2 = .ok (.getfield 7, 3) := by decide +kernel
theorem dX2_copyFrom_5 : decode cX2_copyFrom 5 = .ok (.putfield 7, 3) := by decide +kernel
theorem dX2_copyFrom_8 : decode cX2_copyFrom 8 = .ok (.aload_n 0, 1) := by decide +kernel
theorem dX2_copyFrom_9 : decode cX2_copyFrom 9 = .ok (.aload_n 1, 1) := by decide +kernel
theorem dX2_copyFrom_10 : decode cX2_copyFrom 10 = .ok (.getfield 13, 3) := by decide +kernel
theorem dX2_copyFrom_13 : decode cX2_copyFrom 13 = .ok (.putfield 13, 3) := by decide +kernel
theorem dX2_copyFrom_16 : decode cX2_copyFrom 16 = .ok (.aload_n 0, 1) := by decide +kernel
theorem dX2_copyFrom_17 : decode cX2_copyFrom 17 = .ok (.aload_n 1, 1) := by decide +kernel
theorem dX2_copyFrom_18 : decode cX2_copyFrom 18 = .ok (.getfield 16, 3) := by decide +kernel
theorem dX2_copyFrom_21 : decode cX2_copyFrom 21 = .ok (.putfield 16, 3) := by decide +kernel
theorem dX2_copyFrom_24 : decode cX2_copyFrom 24 = .ok (.aload_n 0, 1) := by decide +kernel
theorem dX2_copyFrom_25 : decode cX2_copyFrom 25 = .ok (.aload_n 1, 1) := by decide +kernel
theorem dX2_copyFrom_26 : decode cX2_copyFrom 26 = .ok (.getfield 19, 3) := by decide +kernel
theorem dX2_copyFrom_29 : decode cX2_copyFrom 29 = .ok (.putfield 19, 3) := by decide +kernel
theorem dX2_copyFrom_32 : decode cX2_copyFrom 32 = .ok (.aload_n 0, 1) := by decide +kernel
theorem dX2_copyFrom_33 : decode cX2_copyFrom 33 = .ok (.aload_n 1, 1) := by decide +kernel
theorem dX2_copyFrom_34 : decode cX2_copyFrom 34 = .ok (.getfield 22, 3) := by decide +kernel
theorem dX2_copyFrom_37 : decode cX2_copyFrom 37 = .ok (.putfield 22, 3) := by decide +kernel
theorem dX2_copyFrom_40 : decode cX2_copyFrom 40 = .ok (.return_, 1) := by decide +kernel
theorem dX2_comesTo_0 : decode cX2_comesTo 0 = .ok (.aload_n 0, 1) := by decide +kernel
theorem dX2_comesTo_1 : decode cX2_comesTo 1 = .ok (.getfield 13, 3) := by decide +kernel
theorem dX2_comesTo_4 : decode cX2_comesTo 4 = .ok (.iload_n 1, 1) := by decide +kernel
theorem dX2_comesTo_5 : decode cX2_comesTo 5 = .ok (.if_icmp .ne 15, 3) := by decide +kernel
theorem dX2_comesTo_8 : decode cX2_comesTo 8 = .ok (.aload_n 0, 1) := by decide +kernel
theorem dX2_comesTo_9 : decode cX2_comesTo 9 = .ok (.getfield 19, 3) := by decide +kernel
theorem dX2_comesTo_12 : decode cX2_comesTo 12 = .ok (.iload_n 2, 1) := by decide +kernel
theorem dX2_comesTo_13 : decode cX2_comesTo 13 = .ok (.if_icmp .ne 7, 3) := by decide +kernel
theorem dX2_comesTo_16 : decode cX2_comesTo 16 = .ok (.iconst 1, 1) := by decide +kernel
theorem dX2_comesTo_17 : decode cX2_comesTo 17 = .ok (.goto 4, 3) := by decide +kernel
theorem dX2_comesTo_20 : decode cX2_comesTo 20 = .ok (.iconst 0, 1) := by decide +kernel
theorem dX2_comesTo_21 : decode cX2_comesTo 21 = .ok (.ireturn, 1) := by decide +kernel
theorem dX3_init_0 : decode cX3_init 0 = .ok (.aload_n 0, 1) := by decide +kernel
theorem dX3_init_1 : decode cX3_init 1 = .ok (.invokespecial 1, 3) := by decide +kernel
theorem dX3_init_4 : decode cX3_init 4 = .ok (.aload_n 0, 1) := by decide +kernel
theorem dX3_init_5 : decode cX3_init 5 = .ok (.bipush 6, 2) := by decide +kernel
theorem dX3_init_7 : decode cX3_init 7 = .ok (.anewarray 9, 3) := by decide +kernel
theorem dX3_init_10 : decode cX3_init 10 = .ok (.putfield 11, 3) := by decide +kernel
theorem dX3_init_13 : decode cX3_init 13 = .ok (.iconst 0, 1) := by decide +kernel
theorem dX3_init_14 : decode cX3_init 14 = .ok (.istore_n 1, 1) := by decide +kernel
theorem dX3_init_15 : decode cX3_init 15 = .ok (.iload_n 1, 1) := by decide +kernel
theorem dX3_init_16 : decode cX3_init 16 = .ok (.bipush 6, 2) := by decide +kernel
theorem dX3_init_18 : decode cX3_init 18 = .ok (.if_icmp .ge 22, 3) := by decide +kernel
theorem dX3_init_21 : decode cX3_init 21 = .ok (.aload_n 0, 1) := by decide +kernel
theorem dX3_init_22 : decode cX3_init 22 = .ok (.getfield 11, 3) := by decide +kernel
theorem dX3_init_25 : decode cX3_init 25 = .ok (.iload_n 1, 1) := by decide +kernel
theorem dX3_init_26 : decode cX3_init 26 = .ok (.new 9, 3) := by decide +kernel
theorem dX3_init_29 : decode cX3_init 29 = .ok (.dup, 1) := by decide +kernel
theorem dX3_init_30 : decode cX3_init 30 = .ok (.invokespecial 15, 3) := by decide +kernel
theorem dX3_init_33 : decode cX3_init 33 = .ok (.aastore, 1) := by decide +kernel
theorem dX3_init_34 : decode cX3_init 34 = .ok (.iinc 1 1, 3) := by decide +kernel
theorem dX3_init_37 : decode cX3_init 37 = .ok (.goto (-22), 3) := by decide +kernel
theorem dX3_init_40 : decode cX3_init 40 = .ok (.return_, 1) := by decide +kernel
theorem dX3_save_0 : decode cX3_save 0 = .ok (.aload_n 0, 1) := by decide +kernel
theorem dX3_save_1 : decode cX3_save 1 = .ok (.getfield 16, 3) := by decide +kernel
theorem dX3_save_4 : decode cX3_save 4 = .ok (.bipush 6, 2) := by decide +kernel
theorem dX3_save_6 : decode cX3_save 6 = .ok (.if_icmp .lt 7, 3) := by decide +kernel
theorem dX3_save_9 : decode cX3_save 9 = .ok (.aload_n 0, 1) := by decide +kernel
theorem dX3_save_10 : decode cX3_save 10 = .ok (.invokevirtual 20, 3) := by decide +kernel
theorem dX3_save_13 : decode cX3_save 13 = .ok (.aload_n 0, 1) := by decide +kernel
theorem dX3_save_14 : decode cX3_save 14 = .ok (.getfield 11, 3) := by decide +kernel
theorem dX3_save_17 : decode cX3_save 17 = .ok (.aload_n 0, 1) := by decide +kernel
theorem dX3_save_18 : decode cX3_save 18 = .ok (.getfield 16, 3) := by decide +kernel
theorem dX3_save_21 : decode cX3_save 21 = .ok (.aaload, 1) := by decide +kernel
theorem dX3_save_22 : decode cX3_save 22 = .ok (.aload_n 1, 1) := by decide +kernel
theorem dX3_save_23 : decode cX3_save 23 = .ok (.invokevirtual 23, 3) := by decide +kernel
theorem dX3_save_26 : decode cX3_save 26 = .ok (.aload_n 0, 1) := by decide +kernel
theorem dX3_save_27 : decode cX3_save 27 = .ok (.dup, 1) := by decide +kernel
theorem dX3_save_28 : decode cX3_save 28 = .ok (.getfield 16, 3) := by decide +kernel
theorem dX3_save_31 : decode cX3_save 31 = .ok (.iconst 1, 1) := by decide +kernel
theorem dX3_save_32 : decode cX3_save 32 = .ok (.iadd, 1) := by decide +kernel
theorem dX3_save_33 : decode cX3_save 33 = .ok (.putfield 16, 3) := by decide +kernel
theorem dX3_save_36 : decode cX3_save 36 = .ok (.return_, 1) := by decide +kernel
theorem dX3_dropOldest_0 : decode cX3_dropOldest 0 = .ok (.aload_n 0, 1) := by decide +kernel
theorem dX3_dropOldest_1 : decode cX3_dropOldest 1 = .ok (.getfield 11, 3) := by decide +kernel
theorem dX3_dropOldest_4 : decode cX3_dropOldest 4 = .ok (.iconst 0, 1) := by decide +kernel
theorem dX3_dropOldest_5 : decode cX3_dropOldest 5 = .ok (.aaload, 1) := by decide +kernel
theorem dX3_dropOldest_6 : decode cX3_dropOldest 6 = .ok (.astore_n 1, 1) := by decide +kernel
theorem dX3_dropOldest_7 : decode cX3_dropOldest 7 = .ok (.iconst 1, 1) := by decide +kernel
theorem dX3_dropOldest_8 : decode cX3_dropOldest 8 = .ok (.istore_n 2, 1) := by decide +kernel
theorem dX3_dropOldest_9 : decode cX3_dropOldest 9 = .ok (.iload_n 2, 1) := by decide +kernel
theorem dX3_dropOldest_10 : decode cX3_dropOldest 10 = .ok (.bipush 6, 2) := by decide +kernel
theorem dX3_dropOldest_12 : decode cX3_dropOldest 12 = .ok (.if_icmp .ge 23, 3) := by decide +kernel
theorem dX3_dropOldest_15 : decode cX3_dropOldest 15 = .ok (.aload_n 0, 1) := by decide +kernel
theorem dX3_dropOldest_16 : decode cX3_dropOldest 16 = .ok (.getfield 11, 3) := by decide +kernel
theorem dX3_dropOldest_19 : decode cX3_dropOldest 19 = .ok (.iload_n 2, 1) := by decide +kernel
theorem dX3_dropOldest_20 : decode cX3_dropOldest 20 = .ok (.iconst 1, 1) := by decide +kernel
theorem dX3_dropOldest_21 : decode cX3_dropOldest 21 = .ok (.isub, 1) := by decide +kernel
theorem dX3_dropOldest_22 : decode cX3_dropOldest 22 = .ok (.aload_n 0, 1) := by decide +kernel
theorem dX3_dropOldest_23 : decode cX3_dropOldest 23 = .ok (.getfield 11, 3) := by decide +kernel
theorem dX3_dropOldest_26 : decode cX3_dropOldest 26 = .ok (.iload_n 2, 1) := by decide +kernel
theorem dX3_dropOldest_27 : decode cX3_dropOldest 27 = .ok (.aaload, 1) := by decide +kernel
theorem dX3_dropOldest_28 : decode cX3_dropOldest 28 = .ok (.aastore, 1) := by decide +kernel
theorem dX3_dropOldest_29 : decode cX3_dropOldest 29 = .ok (.iinc 2 1, 3) := by decide +kernel
theorem dX3_dropOldest_32 : decode cX3_dropOldest 32 = .ok (.goto (-23), 3) := by decide +kernel
theorem dX3_dropOldest_35 : decode cX3_dropOldest 35 = .ok (.aload_n 0, 1) := by decide +kernel
theorem dX3_dropOldest_36 : decode cX3_dropOldest 36 = .ok (.getfield 11, 3) := by decide +kernel
theorem dX3_dropOldest_39 : decode cX3_dropOldest 39 = .ok (.iconst 5, 1) := by decide +kernel
theorem dX3_dropOldest_40 : decode cX3_dropOldest 40 = .ok (.aload_n 1, 1) := by decide +kernel
theorem dX3_dropOldest_41 : decode cX3_dropOldest 41 = .ok (.aastore, 1) := by decide +kernel
theorem dX3_dropOldest_42 : decode cX3_dropOldest 42 = .ok (.aload_n 0, 1) := by decide +kernel
theorem dX3_dropOldest_43 : decode cX3_dropOldest 43 = .ok (.iconst 5, 1) := by decide +kernel
theorem dX3_dropOldest_44 : decode cX3_dropOldest 44 = .ok (.putfield 16, 3) := by decide +kernel
theorem dX3_dropOldest_47 : decode cX3_dropOldest 47 = .ok (.return_, 1) := by decide +kernel
theorem dX3_restoreLatest_0 : decode cX3_restoreLatest 0 = .ok (.aload_n 0, 1) := by decide +kernel
theorem dX3_restoreLatest_1 : decode cX3_restoreLatest 1 = .ok (.getfield 16, 3) := by decide +kernel
theorem dX3_restoreLatest_4 : decode cX3_restoreLatest 4 = .ok (.ifCond .gt 4, 3) := by decide +kernel
theorem dX3_restoreLatest_7 : decode cX3_restoreLatest 7 = .ok (.return_, 1) := by decide +kernel
theorem dX3_restoreLatest_8 : decode cX3_restoreLatest 8 = .ok (.aload_n 0, 1) := by decide +kernel
theorem dX3_restoreLatest_9 : decode cX3_restoreLatest 9 = .ok (.dup, 1) := by decide +kernel
theorem dX3_restoreLatest_10 : decode cX3_restoreLatest 10 = .ok (.getfield 16, 3) := by decide +kernel
theorem dX3_restoreLatest_13 : decode cX3_restoreLatest 13 = .ok (.iconst 1, 1) := by decide +kernel
theorem dX3_restoreLatest_14 : decode cX3_restoreLatest 14 = .ok (.isub, 1) := by decide +kernel
theorem dX3_restoreLatest_15 : decode cX3_restoreLatest 15 = .ok (.putfield 16, 3) := by decide +kernel
theorem dX3_restoreLatest_18 : decode cX3_restoreLatest 18 = .ok (.aload_n 1, 1) := by decide +kernel
theorem dX3_restoreLatest_19 : decode cX3_restoreLatest 19 = .ok (.aload_n 0, 1) := by decide +kernel
theorem dX3_restoreLatest_20 : decode cX3_restoreLatest 20 = .ok (.getfield 11, 3) := by decide +kernel
theorem dX3_restoreLatest_23 : decode cX3_restoreLatest 23 = .ok (.aload_n 0, 1) := by decide +kernel
theorem dX3_restoreLatest_24 : decode cX3_restoreLatest 24 = .ok (.getfield 16, 3) := by decide +kernel
theorem dX3_restoreLatest_27 : decode cX3_restoreLatest 27 = .ok (.aaload, 1) := by decide +kernel
theorem dX3_restoreLatest_28 : decode cX3_restoreLatest 28 = .ok (.invokevirtual 23, 3) := by decide +kernel
theorem dX3_restoreLatest_31 : decode cX3_restoreLatest 31 = .ok (.return_, 1) := by decide +kernel
theorem dX4_init_0 : decode cX4_init 0 = .ok (.aload_n 0, 1) := by decide +kernel
theorem dX4_init_1 : decode cX4_init 1 = .ok (.invokespecial 1, 3) := by decide +kernel
theorem dX4_init_4 : decode cX4_init 4 = .ok (.aload_n 0, 1) := by decide +kernel
theorem dX4_init_5 : decode cX4_init 5 = .ok (.iload_n 1, 1) := by decide +kernel
theorem dX4_init_6 : decode cX4_init 6 = .ok (.putfield 7, 3) := by decide +kernel
theorem dX4_init_9 : decode cX4_init 9 = .ok (.return_, 1) := by decide +kernel
theorem dX4_copyFrom_0 : decode cX4_copyFrom 0 = .ok (.aload_n 0, 1) := by decide +kernel
theorem dX4_copyFrom_1 : decode cX4_copyFrom 1 = .ok (.aload_n 1, 1) := by decide +kernel
theorem dX4_copyFrom_2 : decode cX4_copyFrom 2 = .ok (.getfield 7, 3) := by decide +kernel
theorem dX4_copyFrom_5 : decode cX4_copyFrom 5 = .ok (.putfield 7, 3) := by decide +kernel
theorem dX4_copyFrom_8 : decode cX4_copyFrom 8 = .ok (.aload_n 0, 1) := by decide +kernel
theorem dX4_copyFrom_9 : decode cX4_copyFrom 9 = .ok (.aload_n 1, 1) := by decide +kernel
theorem dX4_copyFrom_10 : decode cX4_copyFrom 10 = .ok (.getfield 13, 3) := by decide +kernel
theorem dX4_copyFrom_13 : decode cX4_copyFrom 13 = .ok (.putfield 13, 3) := by decide +kernel
theorem dX4_copyFrom_16 : decode cX4_copyFrom 16 = .ok (.aload_n 0, 1) := by decide +kernel
theorem dX4_copyFrom_17 : decode cX4_copyFrom 17 = .ok (.aload_n 1, 1) := by decide +kernel
theorem dX4_copyFrom_18 : decode cX4_copyFrom 18 = .ok (.getfield 16, 3) := by decide +kernel
theorem dX4_copyFrom_21 : decode cX4_copyFrom 21 = .ok (.putfield 16, 3) := by decide +kernel
theorem dX4_copyFrom_24 : decode cX4_copyFrom 24 = .ok (.aload_n 0, 1) := by decide +kernel
theorem dX4_copyFrom_25 : decode cX4_copyFrom 25 = .ok (.aload_n 1, 1) := by decide +kernel
theorem dX4_copyFrom_26 : decode cX4_copyFrom 26 = .ok (.getfield 19, 3) := by decide +kernel
theorem dX4_copyFrom_29 : decode cX4_copyFrom 29 = .ok (.putfield 19, 3) := by decide +kernel
theorem dX4_copyFrom_32 : decode cX4_copyFrom 32 = .ok (.aload_n 0, 1) := by decide +kernel
theorem dX4_copyFrom_33 : decode cX4_copyFrom 33 = .ok (.aload_n 1, 1) := by decide +kernel
theorem dX4_copyFrom_34 : decode cX4_copyFrom 34 = .ok (.getfield 22, 3) := by decide +kernel
theorem dX4_copyFrom_37 : decode cX4_copyFrom 37 = .ok (.putfield 22, 3) := by decide +kernel
theorem dX4_copyFrom_40 : decode cX4_copyFrom 40 = .ok (.aload_n 0, 1) := by decide +kernel
theorem dX4_copyFrom_41 : decode cX4_copyFrom 41 = .ok (.aload_n 1, 1) := by decide +kernel
theorem dX4_copyFrom_42 : decode cX4_copyFrom 42 = .ok (.getfield 25, 3) := by decide +kernel
theorem dX4_copyFrom_45 : decode cX4_copyFrom 45 = .ok (.putfield 25, 3) := by decide +kernel
theorem dX4_copyFrom_48 : decode cX4_copyFrom 48 = .ok (.return_, 1) := by decide +kernel
theorem dX5_init_0 : decode cX5_init 0 = .ok (.aload_n 0, 1) := by decide +kernel
theorem dX5_init_1 : decode cX5_init 1 = .ok (.invokespecial 3, 3) := by decide +kernel
theorem dX5_init_4 : decode cX5_init 4 = .ok (.aload_n 0, 1) := by decide +kernel
theorem dX5_init_5 : decode cX5_init 5 = .ok (.bipush 60, 2) := by decide +kernel
theorem dX5_init_7 : decode cX5_init 7 = .ok (.newarray .int, 2) := by decide +kernel
theorem dX5_init_9 : decode cX5_init 9 = .ok (.putfield 11, 3) := by decide +kernel
theorem dX5_init_12 : decode cX5_init 12 = .ok (.return_, 1) := by decide +kernel
theorem dX6_init_0 : decode cX6_init 0 = .ok (.aload_n 0, 1) := by decide +kernel
theorem dX6_init_1 : decode cX6_init 1 = .ok (.invokespecial 1, 3) := by decide +kernel
theorem dX6_init_4 : decode cX6_init 4 = .ok (.aload_n 0, 1) := by decide +kernel
theorem dX6_init_5 : decode cX6_init 5 = .ok (.new 7, 3) := by decide +kernel
theorem dX6_init_8 : decode cX6_init 8 = .ok (.dup, 1) := by decide +kernel
theorem dX6_init_9 : decode cX6_init 9 = .ok (.invokespecial 9, 3) := by decide +kernel
theorem dX6_init_12 : decode cX6_init 12 = .ok (.putfield 10, 3) := by decide +kernel
theorem dX6_init_15 : decode cX6_init 15 = .ok (.aload_n 0, 1) := by decide +kernel
theorem dX6_init_16 : decode cX6_init 16 = .ok (.new 16, 3) := by decide +kernel
theorem dX6_init_19 : decode cX6_init 19 = .ok (.dup, 1) := by decide +kernel
theorem dX6_init_20 : decode cX6_init 20 = .ok (.invokespecial 18, 3) := by decide +kernel
theorem dX6_init_23 : decode cX6_init 23 = .ok (.putfield 19, 3) := by decide +kernel
theorem dX6_init_26 : decode cX6_init 26 = .ok (.aload_n 0, 1) := by decide +kernel
theorem dX6_init_27 : decode cX6_init 27 = .ok (.iconst 2, 1) := by decide +kernel
theorem dX6_init_28 : decode cX6_init 28 = .ok (.anewarray 7, 3) := by decide +kernel
theorem dX6_init_31 : decode cX6_init 31 = .ok (.putfield 23, 3) := by decide +kernel
theorem dX6_init_34 : decode cX6_init 34 = .ok (.aload_n 0, 1) := by decide +kernel
theorem dX6_init_35 : decode cX6_init 35 = .ok (.iconst 2, 1) := by decide +kernel
theorem dX6_init_36 : decode cX6_init 36 = .ok (.newarray .boolean, 2) := by decide +kernel
theorem dX6_init_38 : decode cX6_init 38 = .ok (.putfield 27, 3) := by decide +kernel
theorem dX6_init_41 : decode cX6_init 41 = .ok (.aload_n 0, 1) := by decide +kernel
theorem dX6_init_42 : decode cX6_init 42 = .ok (.new 31, 3) := by decide +kernel
theorem dX6_init_45 : decode cX6_init 45 = .ok (.dup, 1) := by decide +kernel
theorem dX6_init_46 : decode cX6_init 46 = .ok (.invokespecial 33, 3) := by decide +kernel
theorem dX6_init_49 : decode cX6_init 49 = .ok (.putfield 34, 3) := by decide +kernel
theorem dX6_init_52 : decode cX6_init 52 = .ok (.aload_n 0, 1) := by decide +kernel
theorem dX6_init_53 : decode cX6_init 53 = .ok (.new 38, 3) := by decide +kernel
theorem dX6_init_56 : decode cX6_init 56 = .ok (.dup, 1) := by decide +kernel
theorem dX6_init_57 : decode cX6_init 57 = .ok (.invokespecial 40, 3) := by decide +kernel
theorem dX6_init_60 : decode cX6_init 60 = .ok (.putfield 41, 3) := by decide +kernel
theorem dX6_init_63 : decode cX6_init 63 = .ok (.iconst 0, 1) := by decide +kernel
theorem dX6_init_64 : decode cX6_init 64 = .ok (.istore_n 1, 1) := by decide +kernel
theorem dX6_init_65 : decode cX6_init 65 = .ok (.iload_n 1, 1) := by decide +kernel
theorem dX6_init_66 : decode cX6_init 66 = .ok (.iconst 2, 1) := by decide +kernel
theorem dX6_init_67 : decode cX6_init 67 = .ok (.if_icmp .ge 22, 3) := by decide +kernel
theorem dX6_init_70 : decode cX6_init 70 = .ok (.aload_n 0, 1) := by decide +kernel
theorem dX6_init_71 : decode cX6_init 71 = .ok (.getfield 23, 3) := by decide +kernel
theorem dX6_init_74 : decode cX6_init 74 = .ok (.iload_n 1, 1) := by decide +kernel
theorem dX6_init_75 : decode cX6_init 75 = .ok (.new 7, 3) := by decide +kernel
theorem dX6_init_78 : decode cX6_init 78 = .ok (.dup, 1) := by decide +kernel
theorem dX6_init_79 : decode cX6_init 79 = .ok (.invokespecial 9, 3) := by decide +kernel
theorem dX6_init_82 : decode cX6_init 82 = .ok (.aastore, 1) := by decide +kernel
theorem dX6_init_83 : decode cX6_init 83 = .ok (.iinc 1 1, 3) := by decide +kernel
theorem dX6_init_86 : decode cX6_init 86 = .ok (.goto (-21), 3) := by decide +kernel
theorem dX6_init_89 : decode cX6_init 89 = .ok (.return_, 1) := by decide +kernel
theorem dX6_call_0 : decode cX6_call 0 = .ok (.iload_n 1, 1) := by decide +kernel
theorem dX6_call_1 : decode cX6_call 1 = .ok (.invokestatic 45, 3) := by decide +kernel
theorem dX6_call_4 : decode cX6_call 4 = .ok (.iload_n 2, 1) := by decide +kernel
theorem dX6_call_5 : decode cX6_call 5 = .ok (.iconst 0, 1) := by decide +kernel
theorem dX6_call_6 : decode cX6_call 6 = .ok (.bipush 9, 2) := by decide +kernel
theorem dX6_call_8 : decode cX6_call 8 = .ok (.invokestatic 49, 3) := by decide +kernel
theorem dX6_call_11 : decode cX6_call 11 = .ok (.aload_n 0, 1) := by decide +kernel
theorem dX6_call_12 : decode cX6_call 12 = .ok (.getfield 19, 3) := by decide +kernel
theorem dX6_call_15 : decode cX6_call 15 = .ok (.aload_n 0, 1) := by decide +kernel
theorem dX6_call_16 : decode cX6_call 16 = .ok (.getfield 10, 3) := by decide +kernel
theorem dX6_call_19 : decode cX6_call 19 = .ok (.invokevirtual 53, 3) := by decide +kernel
theorem dX6_call_22 : decode cX6_call 22 = .ok (.aload_n 0, 1) := by decide +kernel
theorem dX6_call_23 : decode cX6_call 23 = .ok (.getfield 10, 3) := by decide +kernel
theorem dX6_call_26 : decode cX6_call 26 = .ok (.iload_n 1, 1) := by decide +kernel
theorem dX6_call_27 : decode cX6_call 27 = .ok (.iload_n 2, 1) := by decide +kernel
theorem dX6_call_28 : decode cX6_call 28 = .ok (.invokevirtual 57, 3) := by decide +kernel
theorem dX6_call_31 : decode cX6_call 31 = .ok (.ireturn, 1) := by decide +kernel
theorem dX6_walk_0 : decode cX6_walk 0 = .ok (.iload_n 1, 1) := by decide +kernel
theorem dX6_walk_1 : decode cX6_walk 1 = .ok (.invokestatic 45, 3) := by decide +kernel
theorem dX6_walk_4 : decode cX6_walk 4 = .ok (.iload_n 2, 1) := by decide +kernel
theorem dX6_walk_5 : decode cX6_walk 5 = .ok (.bipush (-9), 2) := by decide +kernel
theorem dX6_walk_7 : decode cX6_walk 7 = .ok (.bipush 9, 2) := by decide +kernel
theorem dX6_walk_9 : decode cX6_walk 9 = .ok (.invokestatic 49, 3) := by decide +kernel
theorem dX6_walk_12 : decode cX6_walk 12 = .ok (.aload_n 0, 1) := by decide +kernel
theorem dX6_walk_13 : decode cX6_walk 13 = .ok (.getfield 19, 3) := by decide +kernel
theorem dX6_walk_16 : decode cX6_walk 16 = .ok (.aload_n 0, 1) := by decide +kernel
theorem dX6_walk_17 : decode cX6_walk 17 = .ok (.getfield 10, 3) := by decide +kernel
theorem dX6_walk_20 : decode cX6_walk 20 = .ok (.invokevirtual 53, 3) := by decide +kernel
theorem dX6_walk_23 : decode cX6_walk 23 = .ok (.aload_n 0, 1) := by decide +kernel
theorem dX6_walk_24 : decode cX6_walk 24 = .ok (.getfield 10, 3) := by decide +kernel
theorem dX6_walk_27 : decode cX6_walk 27 = .ok (.iload_n 1, 1) := by decide +kernel
theorem dX6_walk_28 : decode cX6_walk 28 = .ok (.iload_n 2, 1) := by decide +kernel
theorem dX6_walk_29 : decode cX6_walk 29 = .ok (.invokevirtual 61, 3) := by decide +kernel
theorem dX6_walk_32 : decode cX6_walk 32 = .ok (.ireturn, 1) := by decide +kernel
theorem dX6_throwBall_0 : decode cX6_throwBall 0 = .ok (.iload_n 1, 1) := by decide +kernel
theorem dX6_throwBall_1 : decode cX6_throwBall 1 = .ok (.iconst 0, 1) := by decide +kernel
theorem dX6_throwBall_2 : decode cX6_throwBall 2 = .ok (.aload_n 0, 1) := by decide +kernel
theorem dX6_throwBall_3 : decode cX6_throwBall 3 = .ok (.getfield 10, 3) := by decide +kernel
theorem dX6_throwBall_6 : decode cX6_throwBall 6 = .ok (.invokevirtual 64, 3) := by decide +kernel
theorem dX6_throwBall_9 : decode cX6_throwBall 9 = .ok (.invokestatic 49, 3) := by decide +kernel
theorem dX6_throwBall_12 : decode cX6_throwBall 12 = .ok (.iload_n 2, 1) := by decide +kernel
theorem dX6_throwBall_13 : decode cX6_throwBall 13 = .ok (.iconst 1, 1) := by decide +kernel
theorem dX6_throwBall_14 : decode cX6_throwBall 14 = .ok (.bipush 9, 2) := by decide +kernel
theorem dX6_throwBall_16 : decode cX6_throwBall 16 = .ok (.invokestatic 49, 3) := by decide +kernel
theorem dX6_throwBall_19 : decode cX6_throwBall 19 = .ok (.aload_n 0, 1) := by decide +kernel
theorem dX6_throwBall_20 : decode cX6_throwBall 20 = .ok (.getfield 19, 3) := by decide +kernel
theorem dX6_throwBall_23 : decode cX6_throwBall 23 = .ok (.aload_n 0, 1) := by decide +kernel
theorem dX6_throwBall_24 : decode cX6_throwBall 24 = .ok (.getfield 10, 3) := by decide +kernel
theorem dX6_throwBall_27 : decode cX6_throwBall 27 = .ok (.invokevirtual 53, 3) := by decide +kernel
theorem dX6_throwBall_30 : decode cX6_throwBall 30 = .ok (.aload_n 0, 1) := by decide +kernel
theorem dX6_throwBall_31 : decode cX6_throwBall 31 = .ok (.getfield 10, 3) := by decide +kernel
theorem dX6_throwBall_34 : decode cX6_throwBall 34 = .ok (.getfield 68, 3) := by decide +kernel
theorem dX6_throwBall_37 : decode cX6_throwBall 37 = .ok (.getfield 71, 3) := by decide +kernel
theorem dX6_throwBall_40 : decode cX6_throwBall 40 = .ok (.istore 4, 2) := by decide +kernel
theorem dX6_throwBall_42 : decode cX6_throwBall 42 = .ok (.aload_n 0, 1) := by decide +kernel
theorem dX6_throwBall_43 : decode cX6_throwBall 43 = .ok (.getfield 10, 3) := by decide +kernel
theorem dX6_throwBall_46 : decode cX6_throwBall 46 = .ok (.getfield 68, 3) := by decide +kernel
theorem dX6_throwBall_49 : decode cX6_throwBall 49 = .ok (.iload_n 1, 1) := by decide +kernel
theorem dX6_throwBall_50 : decode cX6_throwBall 50 = .ok (.putfield 71, 3) := by decide +kernel
theorem dX6_throwBall_53 : decode cX6_throwBall 53 = .ok (.aload_n 0, 1) := by decide +kernel
theorem dX6_throwBall_54 : decode cX6_throwBall 54 = .ok (.getfield 10, 3) := by decide +kernel
theorem dX6_throwBall_57 : decode cX6_throwBall 57 = .ok (.getfield 68, 3) := by decide +kernel
theorem dX6_throwBall_60 : decode cX6_throwBall 60 = .ok (.iload_n 2, 1) := by decide +kernel
theorem dX6_throwBall_61 : decode cX6_throwBall 61 = .ok (.putfield 75, 3) := by decide +kernel
theorem dX6_throwBall_64 : decode cX6_throwBall 64 = .ok (.aload_n 0, 1) := by decide +kernel
theorem dX6_throwBall_65 : decode cX6_throwBall 65 = .ok (.getfield 10, 3) := by decide +kernel
theorem dX6_throwBall_68 : decode cX6_throwBall 68 = .ok (.getfield 68, 3) := by decide +kernel
theorem dX6_throwBall_71 : decode cX6_throwBall 71 = .ok (.iload_n 3, 1) := by decide +kernel
theorem dX6_throwBall_72 : decode cX6_throwBall 72 = .ok (.putfield 78, 3) := by decide +kernel
theorem dX6_throwBall_75 : decode cX6_throwBall 75 = .ok (.iload 4, 2) := by decide +kernel
theorem dX6_throwBall_77 : decode cX6_throwBall 77 = .ok (.ireturn, 1) := by decide +kernel
theorem dX6_set_0 : decode cX6_set 0 = .ok (.iload_n 1, 1) := by decide +kernel
theorem dX6_set_1 : decode cX6_set 1 = .ok (.invokestatic 82, 3) := by decide +kernel
theorem dX6_set_4 : decode cX6_set 4 = .ok (.iload_n 2, 1) := by decide +kernel
theorem dX6_set_5 : decode cX6_set 5 = .ok (.getstatic 85, 3) := by decide +kernel
theorem dX6_set_8 : decode cX6_set 8 = .ok (.iload_n 1, 1) := by decide +kernel
theorem dX6_set_9 : decode cX6_set 9 = .ok (.iaload, 1) := by decide +kernel
theorem dX6_set_10 : decode cX6_set 10 = .ok (.getstatic 89, 3) := by decide +kernel
theorem dX6_set_13 : decode cX6_set 13 = .ok (.iload_n 1, 1) := by decide +kernel
theorem dX6_set_14 : decode cX6_set 14 = .ok (.iaload, 1) := by decide +kernel
theorem dX6_set_15 : decode cX6_set 15 = .ok (.invokestatic 49, 3) := by decide +kernel
theorem dX6_set_18 : decode cX6_set 18 = .ok (.iload_n 1, 1) := by decide +kernel
theorem dX6_set_19 : decode cX6_set 19 = .ok (.ifCond .ne 24, 3) := by decide +kernel
theorem dX6_set_22 : decode cX6_set 22 = .ok (.iload_n 2, 1) := by decide +kernel
theorem dX6_set_23 : decode cX6_set 23 = .ok (.aload_n 0, 1) := by decide +kernel
theorem dX6_set_24 : decode cX6_set 24 = .ok (.getfield 10, 3) := by decide +kernel
theorem dX6_set_27 : decode cX6_set 27 = .ok (.invokevirtual 92, 3) := by decide +kernel
theorem dX6_set_30 : decode cX6_set 30 = .ok (.if_icmp .ge 13, 3) := by decide +kernel
theorem dX6_set_33 : decode cX6_set 33 = .ok (.new 95, 3) := by decide +kernel
theorem dX6_set_36 : decode cX6_set 36 = .ok (.dup, 1) := by decide +kernel
theorem dX6_set_37 : decode cX6_set 37 = .ok (.ldc 97, 2) := by decide +kernel
theorem dX6_set_39 : decode cX6_set 39 = .ok (.invokespecial 99, 3) := by decide +kernel
theorem dX6_set_42 : decode cX6_set 42 = .ok (.athrow, 1) := by decide +kernel
theorem dX6_set_43 : decode cX6_set 43 = .ok (.aload_n 0, 1) := by decide +kernel
theorem dX6_set_44 : decode cX6_set 44 = .ok (.getfield 19, 3) := by decide +kernel
theorem dX6_set_47 : decode cX6_set 47 = .ok (.aload_n 0, 1) := by decide +kernel
theorem dX6_set_48 : decode cX6_set 48 = .ok (.getfield 10, 3) := by decide +kernel
theorem dX6_set_51 : decode cX6_set 51 = .ok (.invokevirtual 53, 3) := by decide +kernel
theorem dX6_set_54 : decode cX6_set 54 = .ok (.aload_n 0, 1) := by decide +kernel
theorem dX6_set_55 : decode cX6_set 55 = .ok (.getfield 10, 3) := by decide +kernel
theorem dX6_set_58 : decode cX6_set 58 = .ok (.getfield 102, 3) := by decide +kernel
theorem dX6_set_61 : decode cX6_set 61 = .ok (.iload_n 1, 1) := by decide +kernel
theorem dX6_set_62 : decode cX6_set 62 = .ok (.iaload, 1) := by decide +kernel
theorem dX6_set_63 : decode cX6_set 63 = .ok (.istore_n 3, 1) := by decide +kernel
theorem dX6_set_64 : decode cX6_set 64 = .ok (.aload_n 0, 1) := by decide +kernel
theorem dX6_set_65 : decode cX6_set 65 = .ok (.getfield 10, 3) := by decide +kernel
theorem dX6_set_68 : decode cX6_set 68 = .ok (.getfield 102, 3) := by decide +kernel
theorem dX6_set_71 : decode cX6_set 71 = .ok (.iload_n 1, 1) := by decide +kernel
theorem dX6_set_72 : decode cX6_set 72 = .ok (.iload_n 2, 1) := by decide +kernel
theorem dX6_set_73 : decode cX6_set 73 = .ok (.iastore, 1) := by decide +kernel
theorem dX6_set_74 : decode cX6_set 74 = .ok (.iload_n 3, 1) := by decide +kernel
theorem dX6_set_75 : decode cX6_set 75 = .ok (.ireturn, 1) := by decide +kernel
theorem dX6_pass_0 : decode cX6_pass 0 = .ok (.iload_n 1, 1) := by decide +kernel
theorem dX6_pass_1 : decode cX6_pass 1 = .ok (.iconst 1, 1) := by decide +kernel
theorem dX6_pass_2 : decode cX6_pass 2 = .ok (.bipush 99, 2) := by decide +kernel
theorem dX6_pass_4 : decode cX6_pass 4 = .ok (.invokestatic 49, 3) := by decide +kernel
theorem dX6_pass_7 : decode cX6_pass 7 = .ok (.aload_n 0, 1) := by decide +kernel
theorem dX6_pass_8 : decode cX6_pass 8 = .ok (.getfield 10, 3) := by decide +kernel
theorem dX6_pass_11 : decode cX6_pass 11 = .ok (.iload_n 1, 1) := by decide +kernel
theorem dX6_pass_12 : decode cX6_pass 12 = .ok (.invokevirtual 105, 3) := by decide +kernel
theorem dX6_pass_15 : decode cX6_pass 15 = .ok (.ifCond .ne 13, 3) := by decide +kernel
theorem dX6_pass_18 : decode cX6_pass 18 = .ok (.new 95, 3) := by decide +kernel
theorem dX6_pass_21 : decode cX6_pass 21 = .ok (.dup, 1) := by decide +kernel
theorem dX6_pass_22 : decode cX6_pass 22 = .ok (.ldc 109, 2) := by decide +kernel
theorem dX6_pass_24 : decode cX6_pass 24 = .ok (.invokespecial 99, 3) := by decide +kernel
theorem dX6_pass_27 : decode cX6_pass 27 = .ok (.athrow, 1) := by decide +kernel
theorem dX6_pass_28 : decode cX6_pass 28 = .ok (.aload_n 0, 1) := by decide +kernel
theorem dX6_pass_29 : decode cX6_pass 29 = .ok (.getfield 19, 3) := by decide +kernel
theorem dX6_pass_32 : decode cX6_pass 32 = .ok (.aload_n 0, 1) := by decide +kernel
theorem dX6_pass_33 : decode cX6_pass 33 = .ok (.getfield 10, 3) := by decide +kernel
theorem dX6_pass_36 : decode cX6_pass 36 = .ok (.invokevirtual 53, 3) := by decide +kernel
theorem dX6_pass_39 : decode cX6_pass 39 = .ok (.aload_n 0, 1) := by decide +kernel
theorem dX6_pass_40 : decode cX6_pass 40 = .ok (.getfield 10, 3) := by decide +kernel
theorem dX6_pass_43 : decode cX6_pass 43 = .ok (.iload_n 1, 1) := by decide +kernel
theorem dX6_pass_44 : decode cX6_pass 44 = .ok (.invokevirtual 111, 3) := by decide +kernel
theorem dX6_pass_47 : decode cX6_pass 47 = .ok (.ireturn, 1) := by decide +kernel
theorem dX6_undo_0 : decode cX6_undo 0 = .ok (.aload_n 0, 1) := by decide +kernel
theorem dX6_undo_1 : decode cX6_undo 1 = .ok (.getfield 19, 3) := by decide +kernel
theorem dX6_undo_4 : decode cX6_undo 4 = .ok (.getfield 152, 3) := by decide +kernel
theorem dX6_undo_7 : decode cX6_undo 7 = .ok (.ifCond .gt 13, 3) := by decide +kernel
theorem dX6_undo_10 : decode cX6_undo 10 = .ok (.new 95, 3) := by decide +kernel
theorem dX6_undo_13 : decode cX6_undo 13 = .ok (.dup, 1) := by decide +kernel
theorem dX6_undo_14 : decode cX6_undo 14 = .ok (.ldc 155, 2) := by decide +kernel
theorem dX6_undo_16 : decode cX6_undo 16 = .ok (.invokespecial 99, 3) := by decide +kernel
theorem dX6_undo_19 : decode cX6_undo 19 = .ok (.athrow, 1) := by decide +kernel
theorem dX6_undo_20 : decode cX6_undo 20 = .ok (.aload_n 0, 1) := by decide +kernel
theorem dX6_undo_21 : decode cX6_undo 21 = .ok (.getfield 19, 3) := by decide +kernel
theorem dX6_undo_24 : decode cX6_undo 24 = .ok (.aload_n 0, 1) := by decide +kernel
theorem dX6_undo_25 : decode cX6_undo 25 = .ok (.getfield 10, 3) := by decide +kernel
theorem dX6_undo_28 : decode cX6_undo 28 = .ok (.invokevirtual 157, 3) := by decide +kernel
theorem dX6_undo_31 : decode cX6_undo 31 = .ok (.aload_n 0, 1) := by decide +kernel
theorem dX6_undo_32 : decode cX6_undo 32 = .ok (.getfield 19, 3) := by decide +kernel
theorem dX6_undo_35 : decode cX6_undo 35 = .ok (.getfield 152, 3) := by decide +kernel
theorem dX6_undo_38 : decode cX6_undo 38 = .ok (.ireturn, 1) := by decide +kernel
theorem dX6_playerOf_0 : decode cX6_playerOf 0 = .ok (.iload_n 1, 1) := by decide +kernel
theorem dX6_playerOf_1 : decode cX6_playerOf 1 = .ok (.invokestatic 45, 3) := by decide +kernel
theorem dX6_playerOf_4 : decode cX6_playerOf 4 = .ok (.iload_n 2, 1) := by decide +kernel
theorem dX6_playerOf_5 : decode cX6_playerOf 5 = .ok (.iconst 0, 1) := by decide +kernel
theorem dX6_playerOf_6 : decode cX6_playerOf 6 = .ok (.bipush 6, 2) := by decide +kernel
theorem dX6_playerOf_8 : decode cX6_playerOf 8 = .ok (.invokestatic 49, 3) := by decide +kernel
theorem dX6_playerOf_11 : decode cX6_playerOf 11 = .ok (.aload_n 0, 1) := by decide +kernel
theorem dX6_playerOf_12 : decode cX6_playerOf 12 = .ok (.getfield 10, 3) := by decide +kernel
theorem dX6_playerOf_15 : decode cX6_playerOf 15 = .ok (.iload_n 1, 1) := by decide +kernel
theorem dX6_playerOf_16 : decode cX6_playerOf 16 = .ok (.iload_n 2, 1) := by decide +kernel
theorem dX6_playerOf_17 : decode cX6_playerOf 17 = .ok (.invokevirtual 160, 3) := by decide +kernel
theorem dX6_playerOf_20 : decode cX6_playerOf 20 = .ok (.ireturn, 1) := by decide +kernel
theorem dX6_echoOf_0 : decode cX6_echoOf 0 = .ok (.iload_n 1, 1) := by decide +kernel
theorem dX6_echoOf_1 : decode cX6_echoOf 1 = .ok (.ifCond .ge 13, 3) := by decide +kernel
theorem dX6_echoOf_4 : decode cX6_echoOf 4 = .ok (.new 133, 3) := by decide +kernel
theorem dX6_echoOf_7 : decode cX6_echoOf 7 = .ok (.dup, 1) := by decide +kernel
theorem dX6_echoOf_8 : decode cX6_echoOf 8 = .ok (.ldc 163, 2) := by decide +kernel
theorem dX6_echoOf_10 : decode cX6_echoOf 10 = .ok (.invokespecial 137, 3) := by decide +kernel
theorem dX6_echoOf_13 : decode cX6_echoOf 13 = .ok (.athrow, 1) := by decide +kernel
theorem dX6_echoOf_14 : decode cX6_echoOf 14 = .ok (.iload_n 2, 1) := by decide +kernel
theorem dX6_echoOf_15 : decode cX6_echoOf 15 = .ok (.iconst 0, 1) := by decide +kernel
theorem dX6_echoOf_16 : decode cX6_echoOf 16 = .ok (.iconst 5, 1) := by decide +kernel
theorem dX6_echoOf_17 : decode cX6_echoOf 17 = .ok (.invokestatic 49, 3) := by decide +kernel
theorem dX6_echoOf_20 : decode cX6_echoOf 20 = .ok (.aload_n 0, 1) := by decide +kernel
theorem dX6_echoOf_21 : decode cX6_echoOf 21 = .ok (.getfield 10, 3) := by decide +kernel
theorem dX6_echoOf_24 : decode cX6_echoOf 24 = .ok (.iload_n 1, 1) := by decide +kernel
theorem dX6_echoOf_25 : decode cX6_echoOf 25 = .ok (.iload_n 2, 1) := by decide +kernel
theorem dX6_echoOf_26 : decode cX6_echoOf 26 = .ok (.invokevirtual 165, 3) := by decide +kernel
theorem dX6_echoOf_29 : decode cX6_echoOf 29 = .ok (.ireturn, 1) := by decide +kernel
theorem dX6_count_0 : decode cX6_count 0 = .ok (.iload_n 1, 1) := by decide +kernel
theorem dX6_count_1 : decode cX6_count 1 = .ok (.iconst 0, 1) := by decide +kernel
theorem dX6_count_2 : decode cX6_count 2 = .ok (.bipush 11, 2) := by decide +kernel
theorem dX6_count_4 : decode cX6_count 4 = .ok (.invokestatic 49, 3) := by decide +kernel
theorem dX6_count_7 : decode cX6_count 7 = .ok (.aload_n 0, 1) := by decide +kernel
theorem dX6_count_8 : decode cX6_count 8 = .ok (.iload_n 1, 1) := by decide +kernel
theorem dX6_count_9 : decode cX6_count 9 = .ok (.invokevirtual 168, 3) := by decide +kernel
theorem dX6_count_12 : decode cX6_count 12 = .ok (.ireturn, 1) := by decide +kernel
theorem dX6_ballIn_0 : decode cX6_ballIn 0 = .ok (.iload_n 1, 1) := by decide +kernel
theorem dX6_ballIn_1 : decode cX6_ballIn 1 = .ok (.iconst 0, 1) := by decide +kernel
theorem dX6_ballIn_2 : decode cX6_ballIn 2 = .ok (.bipush 99, 2) := by decide +kernel
theorem dX6_ballIn_4 : decode cX6_ballIn 4 = .ok (.invokestatic 49, 3) := by decide +kernel
theorem dX6_ballIn_7 : decode cX6_ballIn 7 = .ok (.iload_n 2, 1) := by decide +kernel
theorem dX6_ballIn_8 : decode cX6_ballIn 8 = .ok (.iconst 0, 1) := by decide +kernel
theorem dX6_ballIn_9 : decode cX6_ballIn 9 = .ok (.iconst 2, 1) := by decide +kernel
theorem dX6_ballIn_10 : decode cX6_ballIn 10 = .ok (.invokestatic 49, 3) := by decide +kernel
theorem dX6_ballIn_13 : decode cX6_ballIn 13 = .ok (.aload_n 0, 1) := by decide +kernel
theorem dX6_ballIn_14 : decode cX6_ballIn 14 = .ok (.iload_n 1, 1) := by decide +kernel
theorem dX6_ballIn_15 : decode cX6_ballIn 15 = .ok (.iload_n 2, 1) := by decide +kernel
theorem dX6_ballIn_16 : decode cX6_ballIn 16 = .ok (.invokevirtual 171, 3) := by decide +kernel
theorem dX6_ballIn_19 : decode cX6_ballIn 19 = .ok (.ireturn, 1) := by decide +kernel
theorem dX6_echoIn_0 : decode cX6_echoIn 0 = .ok (.iload_n 1, 1) := by decide +kernel
theorem dX6_echoIn_1 : decode cX6_echoIn 1 = .ok (.invokestatic 45, 3) := by decide +kernel
theorem dX6_echoIn_4 : decode cX6_echoIn 4 = .ok (.iload_n 2, 1) := by decide +kernel
theorem dX6_echoIn_5 : decode cX6_echoIn 5 = .ok (.iconst 0, 1) := by decide +kernel
theorem dX6_echoIn_6 : decode cX6_echoIn 6 = .ok (.iconst 1, 1) := by decide +kernel
theorem dX6_echoIn_7 : decode cX6_echoIn 7 = .ok (.invokestatic 49, 3) := by decide +kernel
theorem dX6_echoIn_10 : decode cX6_echoIn 10 = .ok (.aload_n 0, 1) := by decide +kernel
theorem dX6_echoIn_11 : decode cX6_echoIn 11 = .ok (.getfield 10, 3) := by decide +kernel
theorem dX6_echoIn_14 : decode cX6_echoIn 14 = .ok (.aload_n 0, 1) := by decide +kernel
theorem dX6_echoIn_15 : decode cX6_echoIn 15 = .ok (.getfield 10, 3) := by decide +kernel
theorem dX6_echoIn_18 : decode cX6_echoIn 18 = .ok (.getfield 174, 3) := by decide +kernel
theorem dX6_echoIn_21 : decode cX6_echoIn 21 = .ok (.iload_n 1, 1) := by decide +kernel
theorem dX6_echoIn_22 : decode cX6_echoIn 22 = .ok (.aaload, 1) := by decide +kernel
theorem dX6_echoIn_23 : decode cX6_echoIn 23 = .ok (.getfield 178, 3) := by decide +kernel
theorem dX6_echoIn_26 : decode cX6_echoIn 26 = .ok (.iload_n 2, 1) := by decide +kernel
theorem dX6_echoIn_27 : decode cX6_echoIn 27 = .ok (.invokevirtual 181, 3) := by decide +kernel
theorem dX6_echoIn_30 : decode cX6_echoIn 30 = .ok (.ireturn, 1) := by decide +kernel
theorem dX6_wouldClash_0 : decode cX6_wouldClash 0 = .ok (.iload_n 1, 1) := by decide +kernel
theorem dX6_wouldClash_1 : decode cX6_wouldClash 1 = .ok (.invokestatic 45, 3) := by decide +kernel
theorem dX6_wouldClash_4 : decode cX6_wouldClash 4 = .ok (.iload_n 2, 1) := by decide +kernel
theorem dX6_wouldClash_5 : decode cX6_wouldClash 5 = .ok (.iconst 0, 1) := by decide +kernel
theorem dX6_wouldClash_6 : decode cX6_wouldClash 6 = .ok (.iconst 1, 1) := by decide +kernel
theorem dX6_wouldClash_7 : decode cX6_wouldClash 7 = .ok (.invokestatic 49, 3) := by decide +kernel
theorem dX6_wouldClash_10 : decode cX6_wouldClash 10 = .ok (.aload_n 0, 1) := by decide +kernel
theorem dX6_wouldClash_11 : decode cX6_wouldClash 11 = .ok (.getfield 10, 3) := by decide +kernel
theorem dX6_wouldClash_14 : decode cX6_wouldClash 14 = .ok (.iload_n 1, 1) := by decide +kernel
theorem dX6_wouldClash_15 : decode cX6_wouldClash 15 = .ok (.iload_n 2, 1) := by decide +kernel
theorem dX6_wouldClash_16 : decode cX6_wouldClash 16 = .ok (.invokevirtual 184, 3) := by decide +kernel
theorem dX6_wouldClash_19 : decode cX6_wouldClash 19 = .ok (.ifCond .eq 7, 3) := by decide +kernel
theorem dX6_wouldClash_22 : decode cX6_wouldClash 22 = .ok (.iconst 1, 1) := by decide +kernel
theorem dX6_wouldClash_23 : decode cX6_wouldClash 23 = .ok (.goto 4, 3) := by decide +kernel
theorem dX6_wouldClash_26 : decode cX6_wouldClash 26 = .ok (.iconst 0, 1) := by decide +kernel
theorem dX6_wouldClash_27 : decode cX6_wouldClash 27 = .ok (.ireturn, 1) := by decide +kernel
theorem dX6_callIn_0 : decode cX6_callIn 0 = .ok (.iload_n 1, 1) := by decide +kernel
theorem dX6_callIn_1 : decode cX6_callIn 1 = .ok (.invokestatic 45, 3) := by decide +kernel
theorem dX6_callIn_4 : decode cX6_callIn 4 = .ok (.aload_n 0, 1) := by decide +kernel
theorem dX6_callIn_5 : decode cX6_callIn 5 = .ok (.getfield 10, 3) := by decide +kernel
theorem dX6_callIn_8 : decode cX6_callIn 8 = .ok (.iload_n 1, 1) := by decide +kernel
theorem dX6_callIn_9 : decode cX6_callIn 9 = .ok (.invokevirtual 188, 3) := by decide +kernel
theorem dX6_callIn_12 : decode cX6_callIn 12 = .ok (.ireturn, 1) := by decide +kernel
theorem dX6_quietIn_0 : decode cX6_quietIn 0 = .ok (.aload_n 0, 1) := by decide +kernel
theorem dX6_quietIn_1 : decode cX6_quietIn 1 = .ok (.getfield 10, 3) := by decide +kernel
theorem dX6_quietIn_4 : decode cX6_quietIn 4 = .ok (.invokevirtual 191, 3) := by decide +kernel
theorem dX6_quietIn_7 : decode cX6_quietIn 7 = .ok (.ireturn, 1) := by decide +kernel
theorem dX6_answeredShare_0 : decode cX6_answeredShare 0 = .ok (.aload_n 0, 1) := by decide +kernel
theorem dX6_answeredShare_1 : decode cX6_answeredShare 1 = .ok (.getfield 10, 3) := by decide +kernel
theorem dX6_answeredShare_4 : decode cX6_answeredShare 4 = .ok (.invokevirtual 197, 3) := by decide +kernel
theorem dX6_answeredShare_7 : decode cX6_answeredShare 7 = .ok (.dreturn, 1) := by decide +kernel
theorem dX6_checkPlayer_0 : decode cX6_checkPlayer 0 = .ok (.iload_n 0, 1) := by decide +kernel
theorem dX6_checkPlayer_1 : decode cX6_checkPlayer 1 = .ok (.ifCond .lt 8, 3) := by decide +kernel
theorem dX6_checkPlayer_4 : decode cX6_checkPlayer 4 = .ok (.iload_n 0, 1) := by decide +kernel
theorem dX6_checkPlayer_5 : decode cX6_checkPlayer 5 = .ok (.iconst 4, 1) := by decide +kernel
theorem dX6_checkPlayer_6 : decode cX6_checkPlayer 6 = .ok (.if_icmp .lt 13, 3) := by decide +kernel
theorem dX6_checkPlayer_9 : decode cX6_checkPlayer 9 = .ok (.new 224, 3) := by decide +kernel
theorem dX6_checkPlayer_12 : decode cX6_checkPlayer 12 = .ok (.dup, 1) := by decide +kernel
theorem dX6_checkPlayer_13 : decode cX6_checkPlayer 13 = .ok (.ldc 226, 2) := by decide +kernel
theorem dX6_checkPlayer_15 : decode cX6_checkPlayer 15 = .ok (.invokespecial 228, 3) := by decide +kernel
theorem dX6_checkPlayer_18 : decode cX6_checkPlayer 18 = .ok (.athrow, 1) := by decide +kernel
theorem dX6_checkPlayer_19 : decode cX6_checkPlayer 19 = .ok (.return_, 1) := by decide +kernel
theorem dX6_checkSetting_0 : decode cX6_checkSetting 0 = .ok (.iload_n 0, 1) := by decide +kernel
theorem dX6_checkSetting_1 : decode cX6_checkSetting 1 = .ok (.ifCond .lt 8, 3) := by decide +kernel
theorem dX6_checkSetting_4 : decode cX6_checkSetting 4 = .ok (.iload_n 0, 1) := by decide +kernel
theorem dX6_checkSetting_5 : decode cX6_checkSetting 5 = .ok (.iconst 3, 1) := by decide +kernel
theorem dX6_checkSetting_6 : decode cX6_checkSetting 6 = .ok (.if_icmp .lt 13, 3) := by decide +kernel
theorem dX6_checkSetting_9 : decode cX6_checkSetting 9 = .ok (.new 224, 3) := by decide +kernel
theorem dX6_checkSetting_12 : decode cX6_checkSetting 12 = .ok (.dup, 1) := by decide +kernel
theorem dX6_checkSetting_13 : decode cX6_checkSetting 13 = .ok (.ldc 229, 2) := by decide +kernel
theorem dX6_checkSetting_15 : decode cX6_checkSetting 15 = .ok (.invokespecial 228, 3) := by decide +kernel
theorem dX6_checkSetting_18 : decode cX6_checkSetting 18 = .ok (.athrow, 1) := by decide +kernel
theorem dX6_checkSetting_19 : decode cX6_checkSetting 19 = .ok (.return_, 1) := by decide +kernel
theorem dX6_checkRange_0 : decode cX6_checkRange 0 = .ok (.iload_n 0, 1) := by decide +kernel
theorem dX6_checkRange_1 : decode cX6_checkRange 1 = .ok (.iload_n 1, 1) := by decide +kernel
theorem dX6_checkRange_2 : decode cX6_checkRange 2 = .ok (.if_icmp .lt 8, 3) := by decide +kernel
theorem dX6_checkRange_5 : decode cX6_checkRange 5 = .ok (.iload_n 0, 1) := by decide +kernel
theorem dX6_checkRange_6 : decode cX6_checkRange 6 = .ok (.iload_n 2, 1) := by decide +kernel
theorem dX6_checkRange_7 : decode cX6_checkRange 7 = .ok (.if_icmp .le 13, 3) := by decide +kernel
theorem dX6_checkRange_10 : decode cX6_checkRange 10 = .ok (.new 133, 3) := by decide +kernel
theorem dX6_checkRange_13 : decode cX6_checkRange 13 = .ok (.dup, 1) := by decide +kernel
theorem dX6_checkRange_14 : decode cX6_checkRange 14 = .ok (.ldc 231, 2) := by decide +kernel
theorem dX6_checkRange_16 : decode cX6_checkRange 16 = .ok (.invokespecial 137, 3) := by decide +kernel
theorem dX6_checkRange_19 : decode cX6_checkRange 19 = .ok (.athrow, 1) := by decide +kernel
theorem dX6_checkRange_20 : decode cX6_checkRange 20 = .ok (.return_, 1) := by decide +kernel
theorem dX6_countNumber_0 : decode cX6_countNumber 0 = .ok (.iload_n 1, 1) := by decide +kernel
theorem dX6_countNumber_1 : decode cX6_countNumber 1 = .ok (.bipush 11, 2) := by decide +kernel
theorem dX6_countNumber_3 : decode cX6_countNumber 3 = .ok (.if_icmp .ne 13, 3) := by decide +kernel
theorem dX6_countNumber_6 : decode cX6_countNumber 6 = .ok (.aload_n 0, 1) := by decide +kernel
theorem dX6_countNumber_7 : decode cX6_countNumber 7 = .ok (.getfield 19, 3) := by decide +kernel
theorem dX6_countNumber_10 : decode cX6_countNumber 10 = .ok (.getfield 152, 3) := by decide +kernel
theorem dX6_countNumber_13 : decode cX6_countNumber 13 = .ok (.goto 11, 3) := by decide +kernel
theorem dX6_countNumber_16 : decode cX6_countNumber 16 = .ok (.aload_n 0, 1) := by decide +kernel
theorem dX6_countNumber_17 : decode cX6_countNumber 17 = .ok (.getfield 10, 3) := by decide +kernel
theorem dX6_countNumber_20 : decode cX6_countNumber 20 = .ok (.iload_n 1, 1) := by decide +kernel
theorem dX6_countNumber_21 : decode cX6_countNumber 21 = .ok (.invokevirtual 242, 3) := by decide +kernel
theorem dX6_countNumber_24 : decode cX6_countNumber 24 = .ok (.ireturn, 1) := by decide +kernel
theorem dX6_ballNumber_0 : decode cX6_ballNumber 0 = .ok (.iload_n 2, 1) := by decide +kernel
theorem dX6_ballNumber_1 : decode cX6_ballNumber 1 = .ok (.iconst 1, 1) := by decide +kernel
theorem dX6_ballNumber_2 : decode cX6_ballNumber 2 = .ok (.if_icmp .ne 22, 3) := by decide +kernel
theorem dX6_ballNumber_5 : decode cX6_ballNumber 5 = .ok (.aload_n 0, 1) := by decide +kernel
theorem dX6_ballNumber_6 : decode cX6_ballNumber 6 = .ok (.getfield 10, 3) := by decide +kernel
theorem dX6_ballNumber_9 : decode cX6_ballNumber 9 = .ok (.getfield 68, 3) := by decide +kernel
theorem dX6_ballNumber_12 : decode cX6_ballNumber 12 = .ok (.iload_n 1, 1) := by decide +kernel
theorem dX6_ballNumber_13 : decode cX6_ballNumber 13 = .ok (.aload_n 0, 1) := by decide +kernel
theorem dX6_ballNumber_14 : decode cX6_ballNumber 14 = .ok (.getfield 10, 3) := by decide +kernel
theorem dX6_ballNumber_17 : decode cX6_ballNumber 17 = .ok (.invokevirtual 64, 3) := by decide +kernel
theorem dX6_ballNumber_20 : decode cX6_ballNumber 20 = .ok (.invokevirtual 245, 3) := by decide +kernel
theorem dX6_ballNumber_23 : decode cX6_ballNumber 23 = .ok (.ireturn, 1) := by decide +kernel
theorem dX6_ballNumber_24 : decode cX6_ballNumber 24 = .ok (.aload_n 0, 1) := by decide +kernel
theorem dX6_ballNumber_25 : decode cX6_ballNumber 25 = .ok (.getfield 41, 3) := by decide +kernel
theorem dX6_ballNumber_28 : decode cX6_ballNumber 28 = .ok (.aload_n 0, 1) := by decide +kernel
theorem dX6_ballNumber_29 : decode cX6_ballNumber 29 = .ok (.getfield 10, 3) := by decide +kernel
theorem dX6_ballNumber_32 : decode cX6_ballNumber 32 = .ok (.getfield 68, 3) := by decide +kernel
theorem dX6_ballNumber_35 : decode cX6_ballNumber 35 = .ok (.invokevirtual 248, 3) := by decide +kernel
theorem dX6_ballNumber_38 : decode cX6_ballNumber 38 = .ok (.iconst 0, 1) := by decide +kernel
theorem dX6_ballNumber_39 : decode cX6_ballNumber 39 = .ok (.istore_n 3, 1) := by decide +kernel
theorem dX6_ballNumber_40 : decode cX6_ballNumber 40 = .ok (.iload_n 3, 1) := by decide +kernel
theorem dX6_ballNumber_41 : decode cX6_ballNumber 41 = .ok (.iload_n 1, 1) := by decide +kernel
theorem dX6_ballNumber_42 : decode cX6_ballNumber 42 = .ok (.if_icmp .ge 23, 3) := by decide +kernel
theorem dX6_ballNumber_45 : decode cX6_ballNumber 45 = .ok (.aload_n 0, 1) := by decide +kernel
theorem dX6_ballNumber_46 : decode cX6_ballNumber 46 = .ok (.getfield 41, 3) := by decide +kernel
theorem dX6_ballNumber_49 : decode cX6_ballNumber 49 = .ok (.aload_n 0, 1) := by decide +kernel
theorem dX6_ballNumber_50 : decode cX6_ballNumber 50 = .ok (.getfield 10, 3) := by decide +kernel
theorem dX6_ballNumber_53 : decode cX6_ballNumber 53 = .ok (.invokevirtual 64, 3) := by decide +kernel
theorem dX6_ballNumber_56 : decode cX6_ballNumber 56 = .ok (.invokevirtual 251, 3) := by decide +kernel
theorem dX6_ballNumber_59 : decode cX6_ballNumber 59 = .ok (.iinc 3 1, 3) := by decide +kernel
theorem dX6_ballNumber_62 : decode cX6_ballNumber 62 = .ok (.goto (-22), 3) := by decide +kernel
theorem dX6_ballNumber_65 : decode cX6_ballNumber 65 = .ok (.iload_n 2, 1) := by decide +kernel
theorem dX6_ballNumber_66 : decode cX6_ballNumber 66 = .ok (.ifCond .ne 13, 3) := by decide +kernel
theorem dX6_ballNumber_69 : decode cX6_ballNumber 69 = .ok (.aload_n 0, 1) := by decide +kernel
theorem dX6_ballNumber_70 : decode cX6_ballNumber 70 = .ok (.getfield 41, 3) := by decide +kernel
theorem dX6_ballNumber_73 : decode cX6_ballNumber 73 = .ok (.getfield 71, 3) := by decide +kernel
theorem dX6_ballNumber_76 : decode cX6_ballNumber 76 = .ok (.goto 10, 3) := by decide +kernel
theorem dX6_ballNumber_79 : decode cX6_ballNumber 79 = .ok (.aload_n 0, 1) := by decide +kernel
theorem dX6_ballNumber_80 : decode cX6_ballNumber 80 = .ok (.getfield 41, 3) := by decide +kernel
theorem dX6_ballNumber_83 : decode cX6_ballNumber 83 = .ok (.invokevirtual 254, 3) := by decide +kernel
theorem dX6_ballNumber_86 : decode cX6_ballNumber 86 = .ok (.ireturn, 1) := by decide +kernel
