theorem dX2_init_0 : decode cX2_init 0 = .ok (.aload_n 0, 1) := by decide +kernel
theorem dX2_init_1 : decode cX2_init 1 = .ok (.invokespecial 1, 3) := by decide +kernel
theorem dX2_init_4 : decode cX2_init 4 = .ok (.return_, 1) := by decide +kernel
theorem dX2_copyFrom_0 : decode cX2_copyFrom 0 = .ok (.aload_n 0, 1) := by decide +kernel
theorem dX2_copyFrom_1 : decode cX2_copyFrom 1 = .ok (.aload_n 1, 1) := by decide +kernel
theorem dX2_copyFrom_2 : decode cX2_copyFrom 2 = .ok (.getfield 7, 3) := by decide +kernel
theorem dX2_copyFrom_5 : decode cX2_copyFrom 5 = .ok (.putfield 7, 3) := by decide +kernel
theorem dX2_copyFrom_8 : decode cX2_copyFrom 8 = .ok (.aload_n 0, 1) := by decide +kernel
theorem dX2_copyFrom_9 : decode cX2_copyFrom 9 = .ok (.aload_n 1, 1) := by decide +kernel
theorem dX2_copyFrom_10 : decode cX2_copyFrom 10 = .ok (.getfield 13, 3) := by decide +kernel
theorem dX2_copyFrom_13 : decode cX2_copyFrom 13 = .ok (.putfield 13, 3) := by decide +kernel
theorem dX2_copyFrom_16 : decode cX2_copyFrom 16 = .ok (.aload_n 0, 1) := by decide +kernel
theorem dX2_copyFrom_17 : decode cX2_copyFrom 17 = .ok (.aload_n 1, 1) := by decide +kernel
theorem dX2_copyFrom_18 : decode cX2_copyFrom 18 = .ok (.getfield 16, 3) := by decide +kernel
theorem dX2_copyFrom_21 : decode cX2_copyFrom 21 = .ok (.putfield 16, 3) := by decide +kernel
theorem dX2_copyFrom_24 : decode cX2_copyFrom 24 = .ok (.aload_n 0, 1) := by decide +kernel
theorem dX2_copyFrom_25 : decode cX2_copyFrom 25 = .ok (.aload_n 1, 1) := by decide +kernel
theorem dX2_copyFrom_26 : decode cX2_copyFrom 26 = .ok (.getfield 19, 3) := by decide +kernel
theorem dX2_copyFrom_29 : decode cX2_copyFrom 29 = .ok (.putfield 19, 3) := by decide +kernel
theorem dX2_copyFrom_32 : decode cX2_copyFrom 32 = .ok (.aload_n 0, 1) := by decide +kernel
theorem dX2_copyFrom_33 : decode cX2_copyFrom 33 = .ok (.aload_n 1, 1) := by decide +kernel
theorem dX2_copyFrom_34 : decode cX2_copyFrom 34 = .ok (.getfield 22, 3) := by decide +kernel
theorem dX2_copyFrom_37 : decode cX2_copyFrom 37 = .ok (.putfield 22, 3) := by decide +kernel
theorem dX2_copyFrom_40 : decode cX2_copyFrom 40 = .ok (.return_, 1) := by decide +kernel
theorem dX2_comesTo_0 : decode cX2_comesTo 0 = .ok (.aload_n 0, 1) := by decide +kernel
theorem dX2_comesTo_1 : decode cX2_comesTo 1 = .ok (.getfield 13, 3) := by decide +kernel
theorem dX2_comesTo_4 : decode cX2_comesTo 4 = .ok (.iload_n 1, 1) := by decide +kernel
theorem dX2_comesTo_5 : decode cX2_comesTo 5 = .ok (.if_icmp .ne 15, 3) := by decide +kernel
theorem dX2_comesTo_8 : decode cX2_comesTo 8 = .ok (.aload_n 0, 1) := by decide +kernel
theorem dX2_comesTo_9 : decode cX2_comesTo 9 = .ok (.getfield 19, 3) := by decide +kernel
theorem dX2_comesTo_12 : decode cX2_comesTo 12 = .ok (.iload_n 2, 1) := by decide +kernel
theorem dX2_comesTo_13 : decode cX2_comesTo 13 = .ok (.if_icmp .ne 7, 3) := by decide +kernel
theorem dX2_comesTo_16 : decode cX2_comesTo 16 = .ok (.iconst 1, 1) := by decide +kernel
theorem dX2_comesTo_17 : decode cX2_comesTo 17 = .ok (.goto 4, 3) := by decide +kernel
theorem dX2_comesTo_20 : decode cX2_comesTo 20 = .ok (.iconst 0, 1) := by decide +kernel
theorem dX2_comesTo_21 : decode cX2_comesTo 21 = .ok (.ireturn, 1) := by decide +kernel
theorem dX3_init_0 : decode cX3_init 0 = .ok (.aload_n 0, 1) := by decide +kernel
theorem dX3_init_1 : decode cX3_init 1 = .ok (.invokespecial 1, 3) := by decide +kernel
theorem dX3_init_4 : decode cX3_init 4 = .ok (.aload_n 0, 1) := by decide +kernel
theorem dX3_init_5 : decode cX3_init 5 = .ok (.bipush 6, 2) := by decide +kernel
theorem dX3_init_7 : decode cX3_init 7 = .ok (.anewarray 9, 3) := by decide +kernel
theorem dX3_init_10 : decode cX3_init 10 = .ok (.putfield 11, 3) := by decide +kernel
theorem dX3_init_13 : decode cX3_init 13 = .ok (.iconst 0, 1) := by decide +kernel
theorem dX3_init_14 : decode cX3_init 14 = .ok (.istore_n 1, 1) := by decide +kernel
theorem dX3_init_15 : decode cX3_init 15 = .ok (.iload_n 1, 1) := by decide +kernel
theorem dX3_init_16 : decode cX3_init 16 = .ok (.bipush 6, 2) := by decide +kernel
theorem dX3_init_18 : decode cX3_init 18 = .ok (.if_icmp .ge 22, 3) := by decide +kernel
theorem dX3_init_21 : decode cX3_init 21 = .ok (.aload_n 0, 1) := by decide +kernel
theorem dX3_init_22 : decode cX3_init 22 = .ok (.getfield 11, 3) := by decide +kernel
theorem dX3_init_25 : decode cX3_init 25 = .ok (.iload_n 1, 1) := by decide +kernel
theorem dX3_init_26 : decode cX3_init 26 = .ok (.new 9, 3) := by decide +kernel
theorem dX3_init_29 : decode cX3_init 29 = .ok (.dup, 1) := by decide +kernel
theorem dX3_init_30 : decode cX3_init 30 = .ok (.invokespecial 15, 3) := by decide +kernel
theorem dX3_init_33 : decode cX3_init 33 = .ok (.aastore, 1) := by decide +kernel
theorem dX3_init_34 : decode cX3_init 34 = .ok (.iinc 1 1, 3) := by decide +kernel
theorem dX3_init_37 : decode cX3_init 37 = .ok (.goto (-22), 3) := by decide +kernel
theorem dX3_init_40 : decode cX3_init 40 = .ok (.return_, 1) := by decide +kernel
theorem dX3_save_0 : decode cX3_save 0 = .ok (.aload_n 0, 1) := by decide +kernel
theorem dX3_save_1 : decode cX3_save 1 = .ok (.getfield 16, 3) := by decide +kernel
theorem dX3_save_4 : decode cX3_save 4 = .ok (.bipush 6, 2) := by decide +kernel
theorem dX3_save_6 : decode cX3_save 6 = .ok (.if_icmp .lt 7, 3) := by decide +kernel
theorem dX3_save_9 : decode cX3_save 9 = .ok (.aload_n 0, 1) := by decide +kernel
theorem dX3_save_10 : decode cX3_save 10 = .ok (.invokevirtual 20, 3) := by decide +kernel
theorem dX3_save_13 : decode cX3_save 13 = .ok (.aload_n 0, 1) := by decide +kernel
theorem dX3_save_14 : decode cX3_save 14 = .ok (.getfield 11, 3) := by decide +kernel
theorem dX3_save_17 : decode cX3_save 17 = .ok (.aload_n 0, 1) := by decide +kernel
theorem dX3_save_18 : decode cX3_save 18 = .ok (.getfield 16, 3) := by decide +kernel
theorem dX3_save_21 : decode cX3_save 21 = .ok (.aaload, 1) := by decide +kernel
theorem dX3_save_22 : decode cX3_save 22 = .ok (.aload_n 1, 1) := by decide +kernel
theorem dX3_save_23 : decode cX3_save 23 = .ok (.invokevirtual 23, 3) := by decide +kernel
theorem dX3_save_26 : decode cX3_save 26 = .ok (.aload_n 0, 1) := by decide +kernel
theorem dX3_save_27 : decode cX3_save 27 = .ok (.dup, 1) := by decide +kernel
theorem dX3_save_28 : decode cX3_save 28 = .ok (.getfield 16, 3) := by decide +kernel
theorem dX3_save_31 : decode cX3_save 31 = .ok (.iconst 1, 1) := by decide +kernel
theorem dX3_save_32 : decode cX3_save 32 = .ok (.iadd, 1) := by decide +kernel
theorem dX3_save_33 : decode cX3_save 33 = .ok (.putfield 16, 3) := by decide +kernel
theorem dX3_save_36 : decode cX3_save 36 = .ok (.return_, 1) := by decide +kernel
theorem dX3_dropOldest_0 : decode cX3_dropOldest 0 = .ok (.aload_n 0, 1) := by decide +kernel
theorem dX3_dropOldest_1 : decode cX3_dropOldest 1 = .ok (.getfield 11, 3) := by decide +kernel
theorem dX3_dropOldest_4 : decode cX3_dropOldest 4 = .ok (.iconst 0, 1) := by decide +kernel
theorem dX3_dropOldest_5 : decode cX3_dropOldest 5 = .ok (.aaload, 1) := by decide +kernel
theorem dX3_dropOldest_6 : decode cX3_dropOldest 6 = .ok (.astore_n 1, 1) := by decide +kernel
theorem dX3_dropOldest_7 : decode cX3_dropOldest 7 = .ok (.iconst 1, 1) := by decide +kernel
theorem dX3_dropOldest_8 : decode cX3_dropOldest 8 = .ok (.istore_n 2, 1) := by decide +kernel
theorem dX3_dropOldest_9 : decode cX3_dropOldest 9 = .ok (.iload_n 2, 1) := by decide +kernel
theorem dX3_dropOldest_10 : decode cX3_dropOldest 10 = .ok (.bipush 6, 2) := by decide +kernel
theorem dX3_dropOldest_12 : decode cX3_dropOldest 12 = .ok (.if_icmp .ge 23, 3) := by decide +kernel
theorem dX3_dropOldest_15 : decode cX3_dropOldest 15 = .ok (.aload_n 0, 1) := by decide +kernel
theorem dX3_dropOldest_16 : decode cX3_dropOldest 16 = .ok (.getfield 11, 3) := by decide +kernel
theorem dX3_dropOldest_19 : decode cX3_dropOldest 19 = .ok (.iload_n 2, 1) := by decide +kernel
theorem dX3_dropOldest_20 : decode cX3_dropOldest 20 = .ok (.iconst 1, 1) := by decide +kernel
theorem dX3_dropOldest_21 : decode cX3_dropOldest 21 = .ok (.isub, 1) := by decide +kernel
theorem dX3_dropOldest_22 : decode cX3_dropOldest 22 = .ok (.aload_n 0, 1) := by decide +kernel
theorem dX3_dropOldest_23 : decode cX3_dropOldest 23 = .ok (.getfield 11, 3) := by decide +kernel
theorem dX3_dropOldest_26 : decode cX3_dropOldest 26 = .ok (.iload_n 2, 1) := by decide +kernel
theorem dX3_dropOldest_27 : decode cX3_dropOldest 27 = .ok (.aaload, 1) := by decide +kernel
theorem dX3_dropOldest_28 : decode cX3_dropOldest 28 = .ok (.aastore, 1) := by decide +kernel
theorem dX3_dropOldest_29 : decode cX3_dropOldest 29 = .ok (.iinc 2 1, 3) := by decide +kernel
theorem dX3_dropOldest_32 : decode cX3_dropOldest 32 = .ok (.goto (-23), 3) := by decide +kernel
theorem dX3_dropOldest_35 : decode cX3_dropOldest 35 = .ok (.aload_n 0, 1) := by decide +kernel
theorem dX3_dropOldest_36 : decode cX3_dropOldest 36 = .ok (.getfield 11, 3) := by decide +kernel
theorem dX3_dropOldest_39 : decode cX3_dropOldest 39 = .ok (.iconst 5, 1) := by decide +kernel
theorem dX3_dropOldest_40 : decode cX3_dropOldest 40 = .ok (.aload_n 1, 1) := by decide +kernel
theorem dX3_dropOldest_41 : decode cX3_dropOldest 41 = .ok (.aastore, 1) := by decide +kernel
theorem dX3_dropOldest_42 : decode cX3_dropOldest 42 = .ok (.aload_n 0, 1) := by decide +kernel
theorem dX3_dropOldest_43 : decode cX3_dropOldest 43 = .ok (.iconst 5, 1) := by decide +kernel
theorem dX3_dropOldest_44 : decode cX3_dropOldest 44 = .ok (.putfield 16, 3) := by decide +kernel
theorem dX3_dropOldest_47 : decode cX3_dropOldest 47 = .ok (.return_, 1) := by decide +kernel
theorem dX3_restoreLatest_0 : decode cX3_restoreLatest 0 = .ok (.aload_n 0, 1) := by decide +kernel
theorem dX3_restoreLatest_1 : decode cX3_restoreLatest 1 = .ok (.getfield 16, 3) := by decide +kernel
theorem dX3_restoreLatest_4 : decode cX3_restoreLatest 4 = .ok (.ifCond .gt 4, 3) := by decide +kernel
theorem dX3_restoreLatest_7 : decode cX3_restoreLatest 7 = .ok (.return_, 1) := by decide +kernel
theorem dX3_restoreLatest_8 : decode cX3_restoreLatest 8 = .ok (.aload_n 0, 1) := by decide +kernel
theorem dX3_restoreLatest_9 : decode cX3_restoreLatest 9 = .ok (.dup, 1) := by decide +kernel
theorem dX3_restoreLatest_10 : decode cX3_restoreLatest 10 = .ok (.getfield 16, 3) := by decide +kernel
theorem dX3_restoreLatest_13 : decode cX3_restoreLatest 13 = .ok (.iconst 1, 1) := by decide +kernel
theorem dX3_restoreLatest_14 : decode cX3_restoreLatest 14 = .ok (.isub, 1) := by decide +kernel
theorem dX3_restoreLatest_15 : decode cX3_restoreLatest 15 = .ok (.putfield 16, 3) := by decide +kernel
theorem dX3_restoreLatest_18 : decode cX3_restoreLatest 18 = .ok (.aload_n 1, 1) := by decide +kernel
theorem dX3_restoreLatest_19 : decode cX3_restoreLatest 19 = .ok (.aload_n 0, 1) := by decide +kernel
theorem dX3_restoreLatest_20 : decode cX3_restoreLatest 20 = .ok (.getfield 11, 3) := by decide +kernel
theorem dX3_restoreLatest_23 : decode cX3_restoreLatest 23 = .ok (.aload_n 0, 1) := by decide +kernel
theorem dX3_restoreLatest_24 : decode cX3_restoreLatest 24 = .ok (.getfield 16, 3) := by decide +kernel
theorem dX3_restoreLatest_27 : decode cX3_restoreLatest 27 = .ok (.aaload, 1) := by decide +kernel
theorem dX3_restoreLatest_28 : decode cX3_restoreLatest 28 = .ok (.invokevirtual 23, 3) := by decide +kernel
theorem dX3_restoreLatest_31 : decode cX3_restoreLatest 31 = .ok (.return_, 1) := by decide +kernel
theorem dX4_init_0 : decode cX4_init 0 = .ok (.aload_n 0, 1) := by decide +kernel
theorem dX4_init_1 : decode cX4_init 1 = .ok (.invokespecial 1, 3) := by decide +kernel
theorem dX4_init_4 : decode cX4_init 4 = .ok (.aload_n 0, 1) := by decide +kernel
theorem dX4_init_5 : decode cX4_init 5 = .ok (.iload_n 1, 1) := by decide +kernel
theorem dX4_init_6 : decode cX4_init 6 = .ok (.putfield 7, 3) := by decide +kernel
theorem dX4_init_9 : decode cX4_init 9 = .ok (.return_, 1) := by decide +kernel
theorem dX4_copyFrom_0 : decode cX4_copyFrom 0 = .ok (.aload_n 0, 1) := by decide +kernel
theorem dX4_copyFrom_1 : decode cX4_copyFrom 1 = .ok (.aload_n 1, 1) := by decide +kernel
theorem dX4_copyFrom_2 : decode cX4_copyFrom 2 = .ok (.getfield 7, 3) := by decide +kernel
theorem dX4_copyFrom_5 : decode cX4_copyFrom 5 = .ok (.putfield 7, 3) := by decide +kernel
theorem dX4_copyFrom_8 : decode cX4_copyFrom 8 = .ok (.aload_n 0, 1) := by decide +kernel
theorem dX4_copyFrom_9 : decode cX4_copyFrom 9 = .ok (.aload_n 1, 1) := by decide +kernel
theorem dX4_copyFrom_10 : decode cX4_copyFrom 10 = .ok (.getfield 13, 3) := by decide +kernel
theorem dX4_copyFrom_13 : decode cX4_copyFrom 13 = .ok (.putfield 13, 3) := by decide +kernel
theorem dX4_copyFrom_16 : decode cX4_copyFrom 16 = .ok (.aload_n 0, 1) := by decide +kernel
theorem dX4_copyFrom_17 : decode cX4_copyFrom 17 = .ok (.aload_n 1, 1) := by decide +kernel
theorem dX4_copyFrom_18 : decode cX4_copyFrom 18 = .ok (.getfield 16, 3) := by decide +kernel
theorem dX4_copyFrom_21 : decode cX4_copyFrom 21 = .ok (.putfield 16, 3) := by decide +kernel
theorem dX4_copyFrom_24 : decode cX4_copyFrom 24 = .ok (.aload_n 0, 1) := by decide +kernel
theorem dX4_copyFrom_25 : decode cX4_copyFrom 25 = .ok (.aload_n 1, 1) := by decide +kernel
theorem dX4_copyFrom_26 : decode cX4_copyFrom 26 = .ok (.getfield 19, 3) := by decide +kernel
theorem dX4_copyFrom_29 : decode cX4_copyFrom 29 = .ok (.putfield 19, 3) := by decide +kernel
theorem dX4_copyFrom_32 : decode cX4_copyFrom 32 = .ok (.aload_n 0, 1) := by decide +kernel
theorem dX4_copyFrom_33 : decode cX4_copyFrom 33 = .ok (.aload_n 1, 1) := by decide +kernel
theorem dX4_copyFrom_34 : decode cX4_copyFrom 34 = .ok (.getfield 22, 3) := by decide +kernel
theorem dX4_copyFrom_37 : decode cX4_copyFrom 37 = .ok (.putfield 22, 3) := by decide +kernel
theorem dX4_copyFrom_40 : decode cX4_copyFrom 40 = .ok (.aload_n 0, 1) := by decide +kernel
theorem dX4_copyFrom_41 : decode cX4_copyFrom 41 = .ok (.aload_n 1, 1) := by decide +kernel
theorem dX4_copyFrom_42 : decode cX4_copyFrom 42 = .ok (.getfield 25, 3) := by decide +kernel
theorem dX4_copyFrom_45 : decode cX4_copyFrom 45 = .ok (.putfield 25, 3) := by decide +kernel
theorem dX4_copyFrom_48 : decode cX4_copyFrom 48 = .ok (.return_, 1) := by decide +kernel
theorem dX4_isBetterThan_0 : decode cX4_isBetterThan 0 = .ok (.aload_n 0, 1) := by decide +kernel
theorem dX4_isBetterThan_1 : decode cX4_isBetterThan 1 = .ok (.getfield 13, 3) := by decide +kernel
theorem dX4_isBetterThan_4 : decode cX4_isBetterThan 4 = .ok (.aload_n 1, 1) := by decide +kernel
theorem dX4_isBetterThan_5 : decode cX4_isBetterThan 5 = .ok (.getfield 13, 3) := by decide +kernel
theorem dX4_isBetterThan_8 : decode cX4_isBetterThan 8 = .ok (.if_icmp .gt 25, 3) := by decide +kernel
theorem dX4_isBetterThan_11 : decode cX4_isBetterThan 11 = .ok (.aload_n 0, 1) := by decide +kernel
theorem dX4_isBetterThan_12 : decode cX4_isBetterThan 12 = .ok (.getfield 13, 3) := by decide +kernel
theorem dX4_isBetterThan_15 : decode cX4_isBetterThan 15 = .ok (.aload_n 1, 1) := by decide +kernel
theorem dX4_isBetterThan_16 : decode cX4_isBetterThan 16 = .ok (.getfield 13, 3) := by decide +kernel
theorem dX4_isBetterThan_19 : decode cX4_isBetterThan 19 = .ok (.if_icmp .ne 18, 3) := by decide +kernel
theorem dX4_isBetterThan_22 : decode cX4_isBetterThan 22 = .ok (.aload_n 0, 1) := by decide +kernel
theorem dX4_isBetterThan_23 : decode cX4_isBetterThan 23 = .ok (.getfield 19, 3) := by decide +kernel
theorem dX4_isBetterThan_26 : decode cX4_isBetterThan 26 = .ok (.aload_n 1, 1) := by decide +kernel
theorem dX4_isBetterThan_27 : decode cX4_isBetterThan 27 = .ok (.getfield 19, 3) := by decide +kernel
theorem dX4_isBetterThan_30 : decode cX4_isBetterThan 30 = .ok (.if_icmp .le 7, 3) := by decide +kernel
theorem dX4_isBetterThan_33 : decode cX4_isBetterThan 33 = .ok (.iconst 1, 1) := by decide +kernel
theorem dX4_isBetterThan_34 : decode cX4_isBetterThan 34 = .ok (.goto 4, 3) := by decide +kernel
theorem dX4_isBetterThan_37 : decode cX4_isBetterThan 37 = .ok (.iconst 0, 1) := by decide +kernel
theorem dX4_isBetterThan_38 : decode cX4_isBetterThan 38 = .ok (.ireturn, 1) := by decide +kernel
theorem dX5_init_0 : decode cX5_init 0 = .ok (.aload_n 0, 1) := by decide +kernel
theorem dX5_init_1 : decode cX5_init 1 = .ok (.invokespecial 3, 3) := by decide +kernel
theorem dX5_init_4 : decode cX5_init 4 = .ok (.aload_n 0, 1) := by decide +kernel
theorem dX5_init_5 : decode cX5_init 5 = .ok (.bipush 60, 2) := by decide +kernel
theorem dX5_init_7 : decode cX5_init 7 = .ok (.newarray .int, 2) := by decide +kernel
theorem dX5_init_9 : decode cX5_init 9 = .ok (.putfield 11, 3) := by decide +kernel
theorem dX5_init_12 : decode cX5_init 12 = .ok (.return_, 1) := by decide +kernel
theorem dX5_isFull_0 : decode cX5_isFull 0 = .ok (.aload_n 0, 1) := by decide +kernel
theorem dX5_isFull_1 : decode cX5_isFull 1 = .ok (.getfield 15, 3) := by decide +kernel
theorem dX5_isFull_4 : decode cX5_isFull 4 = .ok (.bipush 60, 2) := by decide +kernel
theorem dX5_isFull_6 : decode cX5_isFull 6 = .ok (.if_icmp .lt 7, 3) := by decide +kernel
theorem dX5_isFull_9 : decode cX5_isFull 9 = .ok (.iconst 1, 1) := by decide +kernel
theorem dX5_isFull_10 : decode cX5_isFull 10 = .ok (.goto 4, 3) := by decide +kernel
theorem dX5_isFull_13 : decode cX5_isFull 13 = .ok (.iconst 0, 1) := by decide +kernel
theorem dX5_isFull_14 : decode cX5_isFull 14 = .ok (.ireturn, 1) := by decide +kernel
theorem dX5_add_0 : decode cX5_add 0 = .ok (.aload_n 0, 1) := by decide +kernel
theorem dX5_add_1 : decode cX5_add 1 = .ok (.getfield 15, 3) := by decide +kernel
theorem dX5_add_4 : decode cX5_add 4 = .ok (.bipush 60, 2) := by decide +kernel
theorem dX5_add_6 : decode cX5_add 6 = .ok (.if_icmp .ge 23, 3) := by decide +kernel
theorem dX5_add_9 : decode cX5_add 9 = .ok (.aload_n 0, 1) := by decide +kernel
theorem dX5_add_10 : decode cX5_add 10 = .ok (.getfield 11, 3) := by decide +kernel
theorem dX5_add_13 : decode cX5_add 13 = .ok (.aload_n 0, 1) := by decide +kernel
theorem dX5_add_14 : decode cX5_add 14 = .ok (.getfield 15, 3) := by decide +kernel
theorem dX5_add_17 : decode cX5_add 17 = .ok (.iload_n 1, 1) := by decide +kernel
theorem dX5_add_18 : decode cX5_add 18 = .ok (.iastore, 1) := by decide +kernel
theorem dX5_add_19 : decode cX5_add 19 = .ok (.aload_n 0, 1) := by decide +kernel
theorem dX5_add_20 : decode cX5_add 20 = .ok (.dup, 1) := by decide +kernel
theorem dX5_add_21 : decode cX5_add 21 = .ok (.getfield 15, 3) := by decide +kernel
theorem dX5_add_24 : decode cX5_add 24 = .ok (.iconst 1, 1) := by decide +kernel
theorem dX5_add_25 : decode cX5_add 25 = .ok (.iadd, 1) := by decide +kernel
theorem dX5_add_26 : decode cX5_add 26 = .ok (.putfield 15, 3) := by decide +kernel
theorem dX5_add_29 : decode cX5_add 29 = .ok (.return_, 1) := by decide +kernel
theorem dX5_codeAt_0 : decode cX5_codeAt 0 = .ok (.iload_n 1, 1) := by decide +kernel
theorem dX5_codeAt_1 : decode cX5_codeAt 1 = .ok (.ifCond .lt 20, 3) := by decide +kernel
theorem dX5_codeAt_4 : decode cX5_codeAt 4 = .ok (.iload_n 1, 1) := by decide +kernel
theorem dX5_codeAt_5 : decode cX5_codeAt 5 = .ok (.aload_n 0, 1) := by decide +kernel
theorem dX5_codeAt_6 : decode cX5_codeAt 6 = .ok (.getfield 15, 3) := by decide +kernel
theorem dX5_codeAt_9 : decode cX5_codeAt 9 = .ok (.if_icmp .ge 12, 3) := by decide +kernel
theorem dX5_codeAt_12 : decode cX5_codeAt 12 = .ok (.aload_n 0, 1) := by decide +kernel
theorem dX5_codeAt_13 : decode cX5_codeAt 13 = .ok (.getfield 11, 3) := by decide +kernel
theorem dX5_codeAt_16 : decode cX5_codeAt 16 = .ok (.iload_n 1, 1) := by decide +kernel
theorem dX5_codeAt_17 : decode cX5_codeAt 17 = .ok (.iaload, 1) := by decide +kernel
theorem dX5_codeAt_18 : decode cX5_codeAt 18 = .ok (.goto 4, 3) := by decide +kernel
theorem dX5_codeAt_21 : decode cX5_codeAt 21 = .ok (.iconst (-1), 1) := by decide +kernel
theorem dX5_codeAt_22 : decode cX5_codeAt 22 = .ok (.ireturn, 1) := by decide +kernel
theorem dX5_errorIndex_0 : decode cX5_errorIndex 0 = .ok (.iconst 0, 1) := by decide +kernel
theorem dX5_errorIndex_1 : decode cX5_errorIndex 1 = .ok (.istore_n 1, 1) := by decide +kernel
theorem dX5_errorIndex_2 : decode cX5_errorIndex 2 = .ok (.iconst 0, 1) := by decide +kernel
theorem dX5_errorIndex_3 : decode cX5_errorIndex 3 = .ok (.istore_n 2, 1) := by decide +kernel
theorem dX5_errorIndex_4 : decode cX5_errorIndex 4 = .ok (.iload_n 2, 1) := by decide +kernel
theorem dX5_errorIndex_5 : decode cX5_errorIndex 5 = .ok (.aload_n 0, 1) := by decide +kernel
theorem dX5_errorIndex_6 : decode cX5_errorIndex 6 = .ok (.getfield 15, 3) := by decide +kernel
theorem dX5_errorIndex_9 : decode cX5_errorIndex 9 = .ok (.if_icmp .ge 27, 3) := by decide +kernel
theorem dX5_errorIndex_12 : decode cX5_errorIndex 12 = .ok (.iload_n 1, 1) := by decide +kernel
theorem dX5_errorIndex_13 : decode cX5_errorIndex 13 = .ok (.aload_n 0, 1) := by decide +kernel
theorem dX5_errorIndex_14 : decode cX5_errorIndex 14 = .ok (.getfield 11, 3) := by decide +kernel
theorem dX5_errorIndex_17 : decode cX5_errorIndex 17 = .ok (.iload_n 2, 1) := by decide +kernel
theorem dX5_errorIndex_18 : decode cX5_errorIndex 18 = .ok (.iaload, 1) := by decide +kernel
theorem dX5_errorIndex_19 : decode cX5_errorIndex 19 = .ok (.invokestatic 19, 3) := by decide +kernel
theorem dX5_errorIndex_22 : decode cX5_errorIndex 22 = .ok (.istore_n 1, 1) := by decide +kernel
theorem dX5_errorIndex_23 : decode cX5_errorIndex 23 = .ok (.iload_n 1, 1) := by decide +kernel
theorem dX5_errorIndex_24 : decode cX5_errorIndex 24 = .ok (.iconst (-1), 1) := by decide +kernel
theorem dX5_errorIndex_25 : decode cX5_errorIndex 25 = .ok (.if_icmp .ne 5, 3) := by decide +kernel
theorem dX5_errorIndex_28 : decode cX5_errorIndex 28 = .ok (.iload_n 2, 1) := by decide +kernel
theorem dX5_errorIndex_29 : decode cX5_errorIndex 29 = .ok (.ireturn, 1) := by decide +kernel
theorem dX5_errorIndex_30 : decode cX5_errorIndex 30 = .ok (.iinc 2 1, 3) := by decide +kernel
theorem dX5_errorIndex_33 : decode cX5_errorIndex 33 = .ok (.goto (-29), 3) := by decide +kernel
theorem dX5_errorIndex_36 : decode cX5_errorIndex 36 = .ok (.aload_n 0, 1) := by decide +kernel
theorem dX5_errorIndex_37 : decode cX5_errorIndex 37 = .ok (.getfield 15, 3) := by decide +kernel
theorem dX5_errorIndex_40 : decode cX5_errorIndex 40 = .ok (.ireturn, 1) := by decide +kernel
theorem dX5_isTurns_0 : decode cX5_isTurns 0 = .ok (.iconst 0, 1) := by decide +kernel
theorem dX5_isTurns_1 : decode cX5_isTurns 1 = .ok (.istore_n 1, 1) := by decide +kernel
theorem dX5_isTurns_2 : decode cX5_isTurns 2 = .ok (.iconst 0, 1) := by decide +kernel
theorem dX5_isTurns_3 : decode cX5_isTurns 3 = .ok (.istore_n 2, 1) := by decide +kernel
theorem dX5_isTurns_4 : decode cX5_isTurns 4 = .ok (.iload_n 2, 1) := by decide +kernel
theorem dX5_isTurns_5 : decode cX5_isTurns 5 = .ok (.aload_n 0, 1) := by decide +kernel
theorem dX5_isTurns_6 : decode cX5_isTurns 6 = .ok (.getfield 15, 3) := by decide +kernel
theorem dX5_isTurns_9 : decode cX5_isTurns 9 = .ok (.if_icmp .ge 20, 3) := by decide +kernel
theorem dX5_isTurns_12 : decode cX5_isTurns 12 = .ok (.iload_n 1, 1) := by decide +kernel
theorem dX5_isTurns_13 : decode cX5_isTurns 13 = .ok (.aload_n 0, 1) := by decide +kernel
theorem dX5_isTurns_14 : decode cX5_isTurns 14 = .ok (.getfield 11, 3) := by decide +kernel
theorem dX5_isTurns_17 : decode cX5_isTurns 17 = .ok (.iload_n 2, 1) := by decide +kernel
theorem dX5_isTurns_18 : decode cX5_isTurns 18 = .ok (.iaload, 1) := by decide +kernel
theorem dX5_isTurns_19 : decode cX5_isTurns 19 = .ok (.invokestatic 19, 3) := by decide +kernel
theorem dX5_isTurns_22 : decode cX5_isTurns 22 = .ok (.istore_n 1, 1) := by decide +kernel
theorem dX5_isTurns_23 : decode cX5_isTurns 23 = .ok (.iinc 2 1, 3) := by decide +kernel
theorem dX5_isTurns_26 : decode cX5_isTurns 26 = .ok (.goto (-22), 3) := by decide +kernel
theorem dX5_isTurns_29 : decode cX5_isTurns 29 = .ok (.iload_n 1, 1) := by decide +kernel
theorem dX5_isTurns_30 : decode cX5_isTurns 30 = .ok (.bipush 9, 2) := by decide +kernel
theorem dX5_isTurns_32 : decode cX5_isTurns 32 = .ok (.if_icmp .eq 9, 3) := by decide +kernel
theorem dX5_isTurns_35 : decode cX5_isTurns 35 = .ok (.iload_n 1, 1) := by decide +kernel
theorem dX5_isTurns_36 : decode cX5_isTurns 36 = .ok (.bipush 8, 2) := by decide +kernel
theorem dX5_isTurns_38 : decode cX5_isTurns 38 = .ok (.if_icmp .ne 7, 3) := by decide +kernel
theorem dX5_isTurns_41 : decode cX5_isTurns 41 = .ok (.iconst 1, 1) := by decide +kernel
theorem dX5_isTurns_42 : decode cX5_isTurns 42 = .ok (.goto 4, 3) := by decide +kernel
theorem dX5_isTurns_45 : decode cX5_isTurns 45 = .ok (.iconst 0, 1) := by decide +kernel
theorem dX5_isTurns_46 : decode cX5_isTurns 46 = .ok (.ireturn, 1) := by decide +kernel
theorem dX5_stateAfter_0 : decode cX5_stateAfter 0 = .ok (.iload_n 0, 1) := by decide +kernel
theorem dX5_stateAfter_1 : decode cX5_stateAfter 1 = .ok (.tableswitch 193 0 9 #[55, 60, 73, 85, 99, 112, 131, 151, 171, 188], 55) := by decide +kernel
theorem dX5_stateAfter_56 : decode cX5_stateAfter 56 = .ok (.iload_n 1, 1) := by decide +kernel
theorem dX5_stateAfter_57 : decode cX5_stateAfter 57 = .ok (.invokestatic 23, 3) := by decide +kernel
theorem dX5_stateAfter_60 : decode cX5_stateAfter 60 = .ok (.ireturn, 1) := by decide +kernel
theorem dX5_stateAfter_61 : decode cX5_stateAfter 61 = .ok (.iload_n 1, 1) := by decide +kernel
theorem dX5_stateAfter_62 : decode cX5_stateAfter 62 = .ok (.invokestatic 27, 3) := by decide +kernel
theorem dX5_stateAfter_65 : decode cX5_stateAfter 65 = .ok (.ifCond .eq 7, 3) := by decide +kernel
theorem dX5_stateAfter_68 : decode cX5_stateAfter 68 = .ok (.iconst 2, 1) := by decide +kernel
theorem dX5_stateAfter_69 : decode cX5_stateAfter 69 = .ok (.goto 4, 3) := by decide +kernel
theorem dX5_stateAfter_72 : decode cX5_stateAfter 72 = .ok (.iconst (-1), 1) := by decide +kernel
theorem dX5_stateAfter_73 : decode cX5_stateAfter 73 = .ok (.ireturn, 1) := by decide +kernel
theorem dX5_stateAfter_74 : decode cX5_stateAfter 74 = .ok (.iload_n 1, 1) := by decide +kernel
theorem dX5_stateAfter_75 : decode cX5_stateAfter 75 = .ok (.bipush 61, 2) := by decide +kernel
theorem dX5_stateAfter_77 : decode cX5_stateAfter 77 = .ok (.if_icmp .ne 7, 3) := by decide +kernel
theorem dX5_stateAfter_80 : decode cX5_stateAfter 80 = .ok (.iconst 3, 1) := by decide +kernel
theorem dX5_stateAfter_81 : decode cX5_stateAfter 81 = .ok (.goto 4, 3) := by decide +kernel
theorem dX5_stateAfter_84 : decode cX5_stateAfter 84 = .ok (.iconst (-1), 1) := by decide +kernel
theorem dX5_stateAfter_85 : decode cX5_stateAfter 85 = .ok (.ireturn, 1) := by decide +kernel
theorem dX5_stateAfter_86 : decode cX5_stateAfter 86 = .ok (.iload_n 1, 1) := by decide +kernel
theorem dX5_stateAfter_87 : decode cX5_stateAfter 87 = .ok (.invokestatic 31, 3) := by decide +kernel
theorem dX5_stateAfter_90 : decode cX5_stateAfter 90 = .ok (.ifCond .eq 8, 3) := by decide +kernel
theorem dX5_stateAfter_93 : decode cX5_stateAfter 93 = .ok (.bipush 9, 2) := by decide +kernel
theorem dX5_stateAfter_95 : decode cX5_stateAfter 95 = .ok (.goto 4, 3) := by decide +kernel
theorem dX5_stateAfter_98 : decode cX5_stateAfter 98 = .ok (.iconst (-1), 1) := by decide +kernel
theorem dX5_stateAfter_99 : decode cX5_stateAfter 99 = .ok (.ireturn, 1) := by decide +kernel
theorem dX5_stateAfter_100 : decode cX5_stateAfter 100 = .ok (.iload_n 1, 1) := by decide +kernel
theorem dX5_stateAfter_101 : decode cX5_stateAfter 101 = .ok (.invokestatic 27, 3) := by decide +kernel
theorem dX5_stateAfter_104 : decode cX5_stateAfter 104 = .ok (.ifCond .eq 7, 3) := by decide +kernel
theorem dX5_stateAfter_107 : decode cX5_stateAfter 107 = .ok (.iconst 5, 1) := by decide +kernel
theorem dX5_stateAfter_108 : decode cX5_stateAfter 108 = .ok (.goto 4, 3) := by decide +kernel
theorem dX5_stateAfter_111 : decode cX5_stateAfter 111 = .ok (.iconst (-1), 1) := by decide +kernel
theorem dX5_stateAfter_112 : decode cX5_stateAfter 112 = .ok (.ireturn, 1) := by decide +kernel
theorem dX5_stateAfter_113 : decode cX5_stateAfter 113 = .ok (.iload_n 1, 1) := by decide +kernel
theorem dX5_stateAfter_114 : decode cX5_stateAfter 114 = .ok (.bipush 43, 2) := by decide +kernel
theorem dX5_stateAfter_116 : decode cX5_stateAfter 116 = .ok (.if_icmp .eq 9, 3) := by decide +kernel
theorem dX5_stateAfter_119 : decode cX5_stateAfter 119 = .ok (.iload_n 1, 1) := by decide +kernel
theorem dX5_stateAfter_120 : decode cX5_stateAfter 120 = .ok (.bipush 45, 2) := by decide +kernel
theorem dX5_stateAfter_122 : decode cX5_stateAfter 122 = .ok (.if_icmp .ne 8, 3) := by decide +kernel
theorem dX5_stateAfter_125 : decode cX5_stateAfter 125 = .ok (.bipush 6, 2) := by decide +kernel
theorem dX5_stateAfter_127 : decode cX5_stateAfter 127 = .ok (.goto 4, 3) := by decide +kernel
theorem dX5_stateAfter_130 : decode cX5_stateAfter 130 = .ok (.iconst (-1), 1) := by decide +kernel
theorem dX5_stateAfter_131 : decode cX5_stateAfter 131 = .ok (.ireturn, 1) := by decide +kernel
theorem dX5_stateAfter_132 : decode cX5_stateAfter 132 = .ok (.iload_n 1, 1) := by decide +kernel
theorem dX5_stateAfter_133 : decode cX5_stateAfter 133 = .ok (.invokestatic 31, 3) := by decide +kernel
theorem dX5_stateAfter_136 : decode cX5_stateAfter 136 = .ok (.ifCond .eq 14, 3) := by decide +kernel
theorem dX5_stateAfter_139 : decode cX5_stateAfter 139 = .ok (.iload_n 1, 1) := by decide +kernel
theorem dX5_stateAfter_140 : decode cX5_stateAfter 140 = .ok (.bipush 48, 2) := by decide +kernel
theorem dX5_stateAfter_142 : decode cX5_stateAfter 142 = .ok (.if_icmp .eq 8, 3) := by decide +kernel
theorem dX5_stateAfter_145 : decode cX5_stateAfter 145 = .ok (.bipush 9, 2) := by decide +kernel
theorem dX5_stateAfter_147 : decode cX5_stateAfter 147 = .ok (.goto 4, 3) := by decide +kernel
theorem dX5_stateAfter_150 : decode cX5_stateAfter 150 = .ok (.iconst (-1), 1) := by decide +kernel
theorem dX5_stateAfter_151 : decode cX5_stateAfter 151 = .ok (.ireturn, 1) := by decide +kernel
theorem dX5_stateAfter_152 : decode cX5_stateAfter 152 = .ok (.iload_n 1, 1) := by decide +kernel
theorem dX5_stateAfter_153 : decode cX5_stateAfter 153 = .ok (.invokestatic 31, 3) := by decide +kernel
theorem dX5_stateAfter_156 : decode cX5_stateAfter 156 = .ok (.ifCond .eq 14, 3) := by decide +kernel
theorem dX5_stateAfter_159 : decode cX5_stateAfter 159 = .ok (.iload_n 1, 1) := by decide +kernel
theorem dX5_stateAfter_160 : decode cX5_stateAfter 160 = .ok (.bipush 48, 2) := by decide +kernel
theorem dX5_stateAfter_162 : decode cX5_stateAfter 162 = .ok (.if_icmp .eq 8, 3) := by decide +kernel
theorem dX5_stateAfter_165 : decode cX5_stateAfter 165 = .ok (.bipush 8, 2) := by decide +kernel
theorem dX5_stateAfter_167 : decode cX5_stateAfter 167 = .ok (.goto 4, 3) := by decide +kernel
theorem dX5_stateAfter_170 : decode cX5_stateAfter 170 = .ok (.iconst (-1), 1) := by decide +kernel
theorem dX5_stateAfter_171 : decode cX5_stateAfter 171 = .ok (.ireturn, 1) := by decide +kernel
theorem dX5_stateAfter_172 : decode cX5_stateAfter 172 = .ok (.iload_n 1, 1) := by decide +kernel
theorem dX5_stateAfter_173 : decode cX5_stateAfter 173 = .ok (.invokestatic 31, 3) := by decide +kernel
theorem dX5_stateAfter_176 : decode cX5_stateAfter 176 = .ok (.ifCond .eq 8, 3) := by decide +kernel
theorem dX5_stateAfter_179 : decode cX5_stateAfter 179 = .ok (.bipush 9, 2) := by decide +kernel
theorem dX5_stateAfter_181 : decode cX5_stateAfter 181 = .ok (.goto 7, 3) := by decide +kernel
theorem dX5_stateAfter_184 : decode cX5_stateAfter 184 = .ok (.iload_n 1, 1) := by decide +kernel
theorem dX5_stateAfter_185 : decode cX5_stateAfter 185 = .ok (.invokestatic 34, 3) := by decide +kernel
theorem dX5_stateAfter_188 : decode cX5_stateAfter 188 = .ok (.ireturn, 1) := by decide +kernel
theorem dX5_stateAfter_189 : decode cX5_stateAfter 189 = .ok (.iload_n 1, 1) := by decide +kernel
theorem dX5_stateAfter_190 : decode cX5_stateAfter 190 = .ok (.invokestatic 34, 3) := by decide +kernel
theorem dX5_stateAfter_193 : decode cX5_stateAfter 193 = .ok (.ireturn, 1) := by decide +kernel
theorem dX5_stateAfter_194 : decode cX5_stateAfter 194 = .ok (.iconst (-1), 1) := by decide +kernel
theorem dX5_stateAfter_195 : decode cX5_stateAfter 195 = .ok (.ireturn, 1) := by decide +kernel
theorem dX5_stateAfterStart_0 : decode cX5_stateAfterStart 0 = .ok (.iload_n 0, 1) := by decide +kernel
theorem dX5_stateAfterStart_1 : decode cX5_stateAfterStart 1 = .ok (.lookupswitch 42 #[(99, 35), (109, 37), (116, 39)], 35) := by decide +kernel
theorem dX5_stateAfterStart_36 : decode cX5_stateAfterStart 36 = .ok (.iconst 1, 1) := by decide +kernel
theorem dX5_stateAfterStart_37 : decode cX5_stateAfterStart 37 = .ok (.ireturn, 1) := by decide +kernel
theorem dX5_stateAfterStart_38 : decode cX5_stateAfterStart 38 = .ok (.iconst 4, 1) := by decide +kernel
theorem dX5_stateAfterStart_39 : decode cX5_stateAfterStart 39 = .ok (.ireturn, 1) := by decide +kernel
theorem dX5_stateAfterStart_40 : decode cX5_stateAfterStart 40 = .ok (.bipush 7, 2) := by decide +kernel
theorem dX5_stateAfterStart_42 : decode cX5_stateAfterStart 42 = .ok (.ireturn, 1) := by decide +kernel
theorem dX5_stateAfterStart_43 : decode cX5_stateAfterStart 43 = .ok (.iconst (-1), 1) := by decide +kernel
theorem dX5_stateAfterStart_44 : decode cX5_stateAfterStart 44 = .ok (.ireturn, 1) := by decide +kernel
theorem dX5_stateAfterOrder_0 : decode cX5_stateAfterOrder 0 = .ok (.iload_n 0, 1) := by decide +kernel
theorem dX5_stateAfterOrder_1 : decode cX5_stateAfterOrder 1 = .ok (.bipush 59, 2) := by decide +kernel
theorem dX5_stateAfterOrder_3 : decode cX5_stateAfterOrder 3 = .ok (.if_icmp .ne 7, 3) := by decide +kernel
theorem dX5_stateAfterOrder_6 : decode cX5_stateAfterOrder 6 = .ok (.iconst 0, 1) := by decide +kernel
theorem dX5_stateAfterOrder_7 : decode cX5_stateAfterOrder 7 = .ok (.goto 4, 3) := by decide +kernel
theorem dX5_stateAfterOrder_10 : decode cX5_stateAfterOrder 10 = .ok (.iconst (-1), 1) := by decide +kernel
theorem dX5_stateAfterOrder_11 : decode cX5_stateAfterOrder 11 = .ok (.ireturn, 1) := by decide +kernel
theorem dX5_isPlayer_0 : decode cX5_isPlayer 0 = .ok (.iload_n 0, 1) := by decide +kernel
theorem dX5_isPlayer_1 : decode cX5_isPlayer 1 = .ok (.bipush 48, 2) := by decide +kernel
theorem dX5_isPlayer_3 : decode cX5_isPlayer 3 = .ok (.if_icmp .lt 13, 3) := by decide +kernel
theorem dX5_isPlayer_6 : decode cX5_isPlayer 6 = .ok (.iload_n 0, 1) := by decide +kernel
theorem dX5_isPlayer_7 : decode cX5_isPlayer 7 = .ok (.bipush 52, 2) := by decide +kernel
theorem dX5_isPlayer_9 : decode cX5_isPlayer 9 = .ok (.if_icmp .ge 7, 3) := by decide +kernel
theorem dX5_isPlayer_12 : decode cX5_isPlayer 12 = .ok (.iconst 1, 1) := by decide +kernel
theorem dX5_isPlayer_13 : decode cX5_isPlayer 13 = .ok (.goto 4, 3) := by decide +kernel
theorem dX5_isPlayer_16 : decode cX5_isPlayer 16 = .ok (.iconst 0, 1) := by decide +kernel
theorem dX5_isPlayer_17 : decode cX5_isPlayer 17 = .ok (.ireturn, 1) := by decide +kernel
theorem dX5_isDigit_0 : decode cX5_isDigit 0 = .ok (.iload_n 0, 1) := by decide +kernel
theorem dX5_isDigit_1 : decode cX5_isDigit 1 = .ok (.bipush 48, 2) := by decide +kernel
theorem dX5_isDigit_3 : decode cX5_isDigit 3 = .ok (.if_icmp .lt 13, 3) := by decide +kernel
theorem dX5_isDigit_6 : decode cX5_isDigit 6 = .ok (.iload_n 0, 1) := by decide +kernel
theorem dX5_isDigit_7 : decode cX5_isDigit 7 = .ok (.bipush 57, 2) := by decide +kernel
theorem dX5_isDigit_9 : decode cX5_isDigit 9 = .ok (.if_icmp .gt 7, 3) := by decide +kernel
theorem dX5_isDigit_12 : decode cX5_isDigit 12 = .ok (.iconst 1, 1) := by decide +kernel
theorem dX5_isDigit_13 : decode cX5_isDigit 13 = .ok (.goto 4, 3) := by decide +kernel
theorem dX5_isDigit_16 : decode cX5_isDigit 16 = .ok (.iconst 0, 1) := by decide +kernel
theorem dX5_isDigit_17 : decode cX5_isDigit 17 = .ok (.ireturn, 1) := by decide +kernel
theorem dX5_digitAt_0 : decode cX5_digitAt 0 = .ok (.aload_n 0, 1) := by decide +kernel
theorem dX5_digitAt_1 : decode cX5_digitAt 1 = .ok (.iload_n 1, 1) := by decide +kernel
theorem dX5_digitAt_2 : decode cX5_digitAt 2 = .ok (.invokevirtual 37, 3) := by decide +kernel
theorem dX5_digitAt_5 : decode cX5_digitAt 5 = .ok (.bipush 48, 2) := by decide +kernel
theorem dX5_digitAt_7 : decode cX5_digitAt 7 = .ok (.isub, 1) := by decide +kernel
theorem dX5_digitAt_8 : decode cX5_digitAt 8 = .ok (.ireturn, 1) := by decide +kernel
theorem dX5_stepsAt_0 : decode cX5_stepsAt 0 = .ok (.aload_n 0, 1) := by decide +kernel
theorem dX5_stepsAt_1 : decode cX5_stepsAt 1 = .ok (.iload_n 1, 1) := by decide +kernel
theorem dX5_stepsAt_2 : decode cX5_stepsAt 2 = .ok (.iconst 1, 1) := by decide +kernel
theorem dX5_stepsAt_3 : decode cX5_stepsAt 3 = .ok (.iadd, 1) := by decide +kernel
theorem dX5_stepsAt_4 : decode cX5_stepsAt 4 = .ok (.invokevirtual 40, 3) := by decide +kernel
theorem dX5_stepsAt_7 : decode cX5_stepsAt 7 = .ok (.istore_n 2, 1) := by decide +kernel
theorem dX5_stepsAt_8 : decode cX5_stepsAt 8 = .ok (.aload_n 0, 1) := by decide +kernel
theorem dX5_stepsAt_9 : decode cX5_stepsAt 9 = .ok (.iload_n 1, 1) := by decide +kernel
theorem dX5_stepsAt_10 : decode cX5_stepsAt 10 = .ok (.invokevirtual 37, 3) := by decide +kernel
theorem dX5_stepsAt_13 : decode cX5_stepsAt 13 = .ok (.bipush 45, 2) := by decide +kernel
theorem dX5_stepsAt_15 : decode cX5_stepsAt 15 = .ok (.if_icmp .ne 8, 3) := by decide +kernel
theorem dX5_stepsAt_18 : decode cX5_stepsAt 18 = .ok (.iload_n 2, 1) := by decide +kernel
theorem dX5_stepsAt_19 : decode cX5_stepsAt 19 = .ok (.ineg, 1) := by decide +kernel
theorem dX5_stepsAt_20 : decode cX5_stepsAt 20 = .ok (.goto 4, 3) := by decide +kernel
theorem dX5_stepsAt_23 : decode cX5_stepsAt 23 = .ok (.iload_n 2, 1) := by decide +kernel
theorem dX5_stepsAt_24 : decode cX5_stepsAt 24 = .ok (.ireturn, 1) := by decide +kernel
theorem dX5_numberAt_0 : decode cX5_numberAt 0 = .ok (.aload_n 0, 1) := by decide +kernel
theorem dX5_numberAt_1 : decode cX5_numberAt 1 = .ok (.iload_n 1, 1) := by decide +kernel
theorem dX5_numberAt_2 : decode cX5_numberAt 2 = .ok (.invokevirtual 40, 3) := by decide +kernel
theorem dX5_numberAt_5 : decode cX5_numberAt 5 = .ok (.istore_n 2, 1) := by decide +kernel
theorem dX5_numberAt_6 : decode cX5_numberAt 6 = .ok (.aload_n 0, 1) := by decide +kernel
theorem dX5_numberAt_7 : decode cX5_numberAt 7 = .ok (.iload_n 1, 1) := by decide +kernel
theorem dX5_numberAt_8 : decode cX5_numberAt 8 = .ok (.iconst 1, 1) := by decide +kernel
theorem dX5_numberAt_9 : decode cX5_numberAt 9 = .ok (.iadd, 1) := by decide +kernel
theorem dX5_numberAt_10 : decode cX5_numberAt 10 = .ok (.invokevirtual 37, 3) := by decide +kernel
theorem dX5_numberAt_13 : decode cX5_numberAt 13 = .ok (.invokestatic 31, 3) := by decide +kernel
theorem dX5_numberAt_16 : decode cX5_numberAt 16 = .ok (.ifCond .eq 18, 3) := by decide +kernel
theorem dX5_numberAt_19 : decode cX5_numberAt 19 = .ok (.bipush 10, 2) := by decide +kernel
theorem dX5_numberAt_21 : decode cX5_numberAt 21 = .ok (.iload_n 2, 1) := by decide +kernel
theorem dX5_numberAt_22 : decode cX5_numberAt 22 = .ok (.imul, 1) := by decide +kernel
theorem dX5_numberAt_23 : decode cX5_numberAt 23 = .ok (.aload_n 0, 1) := by decide +kernel
theorem dX5_numberAt_24 : decode cX5_numberAt 24 = .ok (.iload_n 1, 1) := by decide +kernel
theorem dX5_numberAt_25 : decode cX5_numberAt 25 = .ok (.iconst 1, 1) := by decide +kernel
theorem dX5_numberAt_26 : decode cX5_numberAt 26 = .ok (.iadd, 1) := by decide +kernel
theorem dX5_numberAt_27 : decode cX5_numberAt 27 = .ok (.invokevirtual 40, 3) := by decide +kernel
theorem dX5_numberAt_30 : decode cX5_numberAt 30 = .ok (.iadd, 1) := by decide +kernel
theorem dX5_numberAt_31 : decode cX5_numberAt 31 = .ok (.goto 4, 3) := by decide +kernel
theorem dX5_numberAt_34 : decode cX5_numberAt 34 = .ok (.iload_n 2, 1) := by decide +kernel
theorem dX5_numberAt_35 : decode cX5_numberAt 35 = .ok (.ireturn, 1) := by decide +kernel
theorem dX5_startsOrder_0 : decode cX5_startsOrder 0 = .ok (.iload_n 1, 1) := by decide +kernel
theorem dX5_startsOrder_1 : decode cX5_startsOrder 1 = .ok (.ifCond .eq 15, 3) := by decide +kernel
theorem dX5_startsOrder_4 : decode cX5_startsOrder 4 = .ok (.aload_n 0, 1) := by decide +kernel
theorem dX5_startsOrder_5 : decode cX5_startsOrder 5 = .ok (.iload_n 1, 1) := by decide +kernel
theorem dX5_startsOrder_6 : decode cX5_startsOrder 6 = .ok (.iconst 1, 1) := by decide +kernel
theorem dX5_startsOrder_7 : decode cX5_startsOrder 7 = .ok (.isub, 1) := by decide +kernel
theorem dX5_startsOrder_8 : decode cX5_startsOrder 8 = .ok (.invokevirtual 37, 3) := by decide +kernel
theorem dX5_startsOrder_11 : decode cX5_startsOrder 11 = .ok (.bipush 59, 2) := by decide +kernel
theorem dX5_startsOrder_13 : decode cX5_startsOrder 13 = .ok (.if_icmp .ne 7, 3) := by decide +kernel
theorem dX5_startsOrder_16 : decode cX5_startsOrder 16 = .ok (.iconst 1, 1) := by decide +kernel
theorem dX5_startsOrder_17 : decode cX5_startsOrder 17 = .ok (.goto 4, 3) := by decide +kernel
theorem dX5_startsOrder_20 : decode cX5_startsOrder 20 = .ok (.iconst 0, 1) := by decide +kernel
theorem dX5_startsOrder_21 : decode cX5_startsOrder 21 = .ok (.ireturn, 1) := by decide +kernel
theorem dX6_init_0 : decode cX6_init 0 = .ok (.aload_n 0, 1) := by decide +kernel
theorem dX6_init_1 : decode cX6_init 1 = .ok (.invokespecial 1, 3) := by decide +kernel
theorem dX6_init_4 : decode cX6_init 4 = .ok (.aload_n 0, 1) := by decide +kernel
theorem dX6_init_5 : decode cX6_init 5 = .ok (.new 7, 3) := by decide +kernel
theorem dX6_init_8 : decode cX6_init 8 = .ok (.dup, 1) := by decide +kernel
theorem dX6_init_9 : decode cX6_init 9 = .ok (.invokespecial 9, 3) := by decide +kernel
theorem dX6_init_12 : decode cX6_init 12 = .ok (.putfield 10, 3) := by decide +kernel
theorem dX6_init_15 : decode cX6_init 15 = .ok (.aload_n 0, 1) := by decide +kernel
theorem dX6_init_16 : decode cX6_init 16 = .ok (.new 16, 3) := by decide +kernel
theorem dX6_init_19 : decode cX6_init 19 = .ok (.dup, 1) := by decide +kernel
theorem dX6_init_20 : decode cX6_init 20 = .ok (.invokespecial 18, 3) := by decide +kernel
theorem dX6_init_23 : decode cX6_init 23 = .ok (.putfield 19, 3) := by decide +kernel
theorem dX6_init_26 : decode cX6_init 26 = .ok (.aload_n 0, 1) := by decide +kernel
theorem dX6_init_27 : decode cX6_init 27 = .ok (.iconst 2, 1) := by decide +kernel
theorem dX6_init_28 : decode cX6_init 28 = .ok (.anewarray 7, 3) := by decide +kernel
theorem dX6_init_31 : decode cX6_init 31 = .ok (.putfield 23, 3) := by decide +kernel
theorem dX6_init_34 : decode cX6_init 34 = .ok (.aload_n 0, 1) := by decide +kernel
theorem dX6_init_35 : decode cX6_init 35 = .ok (.iconst 2, 1) := by decide +kernel
theorem dX6_init_36 : decode cX6_init 36 = .ok (.newarray .boolean, 2) := by decide +kernel
theorem dX6_init_38 : decode cX6_init 38 = .ok (.putfield 27, 3) := by decide +kernel
theorem dX6_init_41 : decode cX6_init 41 = .ok (.aload_n 0, 1) := by decide +kernel
theorem dX6_init_42 : decode cX6_init 42 = .ok (.new 31, 3) := by decide +kernel
theorem dX6_init_45 : decode cX6_init 45 = .ok (.dup, 1) := by decide +kernel
theorem dX6_init_46 : decode cX6_init 46 = .ok (.invokespecial 33, 3) := by decide +kernel
theorem dX6_init_49 : decode cX6_init 49 = .ok (.putfield 34, 3) := by decide +kernel
theorem dX6_init_52 : decode cX6_init 52 = .ok (.aload_n 0, 1) := by decide +kernel
theorem dX6_init_53 : decode cX6_init 53 = .ok (.new 38, 3) := by decide +kernel
theorem dX6_init_56 : decode cX6_init 56 = .ok (.dup, 1) := by decide +kernel
theorem dX6_init_57 : decode cX6_init 57 = .ok (.invokespecial 40, 3) := by decide +kernel
theorem dX6_init_60 : decode cX6_init 60 = .ok (.putfield 41, 3) := by decide +kernel
theorem dX6_init_63 : decode cX6_init 63 = .ok (.iconst 0, 1) := by decide +kernel
theorem dX6_init_64 : decode cX6_init 64 = .ok (.istore_n 1, 1) := by decide +kernel
theorem dX6_init_65 : decode cX6_init 65 = .ok (.iload_n 1, 1) := by decide +kernel
theorem dX6_init_66 : decode cX6_init 66 = .ok (.iconst 2, 1) := by decide +kernel
theorem dX6_init_67 : decode cX6_init 67 = .ok (.if_icmp .ge 22, 3) := by decide +kernel
theorem dX6_init_70 : decode cX6_init 70 = .ok (.aload_n 0, 1) := by decide +kernel
theorem dX6_init_71 : decode cX6_init 71 = .ok (.getfield 23, 3) := by decide +kernel
theorem dX6_init_74 : decode cX6_init 74 = .ok (.iload_n 1, 1) := by decide +kernel
theorem dX6_init_75 : decode cX6_init 75 = .ok (.new 7, 3) := by decide +kernel
theorem dX6_init_78 : decode cX6_init 78 = .ok (.dup, 1) := by decide +kernel
theorem dX6_init_79 : decode cX6_init 79 = .ok (.invokespecial 9, 3) := by decide +kernel
theorem dX6_init_82 : decode cX6_init 82 = .ok (.aastore, 1) := by decide +kernel
theorem dX6_init_83 : decode cX6_init 83 = .ok (.iinc 1 1, 3) := by decide +kernel
theorem dX6_init_86 : decode cX6_init 86 = .ok (.goto (-21), 3) := by decide +kernel
theorem dX6_init_89 : decode cX6_init 89 = .ok (.return_, 1) := by decide +kernel
theorem dX6_call_0 : decode cX6_call 0 = .ok (.iload_n 1, 1) := by decide +kernel
theorem dX6_call_1 : decode cX6_call 1 = .ok (.invokestatic 45, 3) := by decide +kernel
theorem dX6_call_4 : decode cX6_call 4 = .ok (.iload_n 2, 1) := by decide +kernel
theorem dX6_call_5 : decode cX6_call 5 = .ok (.iconst 0, 1) := by decide +kernel
theorem dX6_call_6 : decode cX6_call 6 = .ok (.bipush 9, 2) := by decide +kernel
theorem dX6_call_8 : decode cX6_call 8 = .ok (.invokestatic 49, 3) := by decide +kernel
theorem dX6_call_11 : decode cX6_call 11 = .ok (.aload_n 0, 1) := by decide +kernel
theorem dX6_call_12 : decode cX6_call 12 = .ok (.getfield 19, 3) := by decide +kernel
theorem dX6_call_15 : decode cX6_call 15 = .ok (.aload_n 0, 1) := by decide +kernel
theorem dX6_call_16 : decode cX6_call 16 = .ok (.getfield 10, 3) := by decide +kernel
theorem dX6_call_19 : decode cX6_call 19 = .ok (.invokevirtual 53, 3) := by decide +kernel
theorem dX6_call_22 : decode cX6_call 22 = .ok (.aload_n 0, 1) := by decide +kernel
theorem dX6_call_23 : decode cX6_call 23 = .ok (.getfield 10, 3) := by decide +kernel
theorem dX6_call_26 : decode cX6_call 26 = .ok (.iload_n 1, 1) := by decide +kernel
theorem dX6_call_27 : decode cX6_call 27 = .ok (.iload_n 2, 1) := by decide +kernel
theorem dX6_call_28 : decode cX6_call 28 = .ok (.invokevirtual 57, 3) := by decide +kernel
theorem dX6_call_31 : decode cX6_call 31 = .ok (.ireturn, 1) := by decide +kernel
theorem dX6_walk_0 : decode cX6_walk 0 = .ok (.iload_n 1, 1) := by decide +kernel
theorem dX6_walk_1 : decode cX6_walk 1 = .ok (.invokestatic 45, 3) := by decide +kernel
theorem dX6_walk_4 : decode cX6_walk 4 = .ok (.iload_n 2, 1) := by decide +kernel
theorem dX6_walk_5 : decode cX6_walk 5 = .ok (.bipush (-9), 2) := by decide +kernel
theorem dX6_walk_7 : decode cX6_walk 7 = .ok (.bipush 9, 2) := by decide +kernel
theorem dX6_walk_9 : decode cX6_walk 9 = .ok (.invokestatic 49, 3) := by decide +kernel
theorem dX6_walk_12 : decode cX6_walk 12 = .ok (.aload_n 0, 1) := by decide +kernel
theorem dX6_walk_13 : decode cX6_walk 13 = .ok (.getfield 19, 3) := by decide +kernel
theorem dX6_walk_16 : decode cX6_walk 16 = .ok (.aload_n 0, 1) := by decide +kernel
theorem dX6_walk_17 : decode cX6_walk 17 = .ok (.getfield 10, 3) := by decide +kernel
theorem dX6_walk_20 : decode cX6_walk 20 = .ok (.invokevirtual 53, 3) := by decide +kernel
theorem dX6_walk_23 : decode cX6_walk 23 = .ok (.aload_n 0, 1) := by decide +kernel
theorem dX6_walk_24 : decode cX6_walk 24 = .ok (.getfield 10, 3) := by decide +kernel
theorem dX6_walk_27 : decode cX6_walk 27 = .ok (.iload_n 1, 1) := by decide +kernel
theorem dX6_walk_28 : decode cX6_walk 28 = .ok (.iload_n 2, 1) := by decide +kernel
theorem dX6_walk_29 : decode cX6_walk 29 = .ok (.invokevirtual 61, 3) := by decide +kernel
theorem dX6_walk_32 : decode cX6_walk 32 = .ok (.ireturn, 1) := by decide +kernel
theorem dX6_throwBall_0 : decode cX6_throwBall 0 = .ok (.iload_n 1, 1) := by decide +kernel
theorem dX6_throwBall_1 : decode cX6_throwBall 1 = .ok (.iconst 0, 1) := by decide +kernel
theorem dX6_throwBall_2 : decode cX6_throwBall 2 = .ok (.aload_n 0, 1) := by decide +kernel
theorem dX6_throwBall_3 : decode cX6_throwBall 3 = .ok (.getfield 10, 3) := by decide +kernel
theorem dX6_throwBall_6 : decode cX6_throwBall 6 = .ok (.invokevirtual 64, 3) := by decide +kernel
theorem dX6_throwBall_9 : decode cX6_throwBall 9 = .ok (.invokestatic 49, 3) := by decide +kernel
theorem dX6_throwBall_12 : decode cX6_throwBall 12 = .ok (.iload_n 2, 1) := by decide +kernel
theorem dX6_throwBall_13 : decode cX6_throwBall 13 = .ok (.iconst 1, 1) := by decide +kernel
theorem dX6_throwBall_14 : decode cX6_throwBall 14 = .ok (.bipush 9, 2) := by decide +kernel
theorem dX6_throwBall_16 : decode cX6_throwBall 16 = .ok (.invokestatic 49, 3) := by decide +kernel
theorem dX6_throwBall_19 : decode cX6_throwBall 19 = .ok (.aload_n 0, 1) := by decide +kernel
theorem dX6_throwBall_20 : decode cX6_throwBall 20 = .ok (.getfield 19, 3) := by decide +kernel
theorem dX6_throwBall_23 : decode cX6_throwBall 23 = .ok (.aload_n 0, 1) := by decide +kernel
theorem dX6_throwBall_24 : decode cX6_throwBall 24 = .ok (.getfield 10, 3) := by decide +kernel
theorem dX6_throwBall_27 : decode cX6_throwBall 27 = .ok (.invokevirtual 53, 3) := by decide +kernel
theorem dX6_throwBall_30 : decode cX6_throwBall 30 = .ok (.aload_n 0, 1) := by decide +kernel
theorem dX6_throwBall_31 : decode cX6_throwBall 31 = .ok (.getfield 10, 3) := by decide +kernel
theorem dX6_throwBall_34 : decode cX6_throwBall 34 = .ok (.getfield 68, 3) := by decide +kernel
theorem dX6_throwBall_37 : decode cX6_throwBall 37 = .ok (.getfield 71, 3) := by decide +kernel
theorem dX6_throwBall_40 : decode cX6_throwBall 40 = .ok (.istore 4, 2) := by decide +kernel
theorem dX6_throwBall_42 : decode cX6_throwBall 42 = .ok (.aload_n 0, 1) := by decide +kernel
theorem dX6_throwBall_43 : decode cX6_throwBall 43 = .ok (.getfield 10, 3) := by decide +kernel
theorem dX6_throwBall_46 : decode cX6_throwBall 46 = .ok (.getfield 68, 3) := by decide +kernel
theorem dX6_throwBall_49 : decode cX6_throwBall 49 = .ok (.iload_n 1, 1) := by decide +kernel
theorem dX6_throwBall_50 : decode cX6_throwBall 50 = .ok (.putfield 71, 3) := by decide +kernel
theorem dX6_throwBall_53 : decode cX6_throwBall 53 = .ok (.aload_n 0, 1) := by decide +kernel
theorem dX6_throwBall_54 : decode cX6_throwBall 54 = .ok (.getfield 10, 3) := by decide +kernel
theorem dX6_throwBall_57 : decode cX6_throwBall 57 = .ok (.getfield 68, 3) := by decide +kernel
theorem dX6_throwBall_60 : decode cX6_throwBall 60 = .ok (.iload_n 2, 1) := by decide +kernel
theorem dX6_throwBall_61 : decode cX6_throwBall 61 = .ok (.putfield 75, 3) := by decide +kernel
theorem dX6_throwBall_64 : decode cX6_throwBall 64 = .ok (.aload_n 0, 1) := by decide +kernel
theorem dX6_throwBall_65 : decode cX6_throwBall 65 = .ok (.getfield 10, 3) := by decide +kernel
theorem dX6_throwBall_68 : decode cX6_throwBall 68 = .ok (.getfield 68, 3) := by decide +kernel
theorem dX6_throwBall_71 : decode cX6_throwBall 71 = .ok (.iload_n 3, 1) := by decide +kernel
theorem dX6_throwBall_72 : decode cX6_throwBall 72 = .ok (.putfield 78, 3) := by decide +kernel
theorem dX6_throwBall_75 : decode cX6_throwBall 75 = .ok (.iload 4, 2) := by decide +kernel
theorem dX6_throwBall_77 : decode cX6_throwBall 77 = .ok (.ireturn, 1) := by decide +kernel
theorem dX6_set_0 : decode cX6_set 0 = .ok (.iload_n 1, 1) := by decide +kernel
theorem dX6_set_1 : decode cX6_set 1 = .ok (.invokestatic 82, 3) := by decide +kernel
theorem dX6_set_4 : decode cX6_set 4 = .ok (.iload_n 2, 1) := by decide +kernel
theorem dX6_set_5 : decode cX6_set 5 = .ok (.getstatic 85, 3) := by decide +kernel
theorem dX6_set_8 : decode cX6_set 8 = .ok (.iload_n 1, 1) := by decide +kernel
theorem dX6_set_9 : decode cX6_set 9 = .ok (.iaload, 1) := by decide +kernel
theorem dX6_set_10 : decode cX6_set 10 = .ok (.getstatic 89, 3) := by decide +kernel
theorem dX6_set_13 : decode cX6_set 13 = .ok (.iload_n 1, 1) := by decide +kernel
theorem dX6_set_14 : decode cX6_set 14 = .ok (.iaload, 1) := by decide +kernel
theorem dX6_set_15 : decode cX6_set 15 = .ok (.invokestatic 49, 3) := by decide +kernel
theorem dX6_set_18 : decode cX6_set 18 = .ok (.iload_n 1, 1) := by decide +kernel
theorem dX6_set_19 : decode cX6_set 19 = .ok (.ifCond .ne 24, 3) := by decide +kernel
theorem dX6_set_22 : decode cX6_set 22 = .ok (.iload_n 2, 1) := by decide +kernel
theorem dX6_set_23 : decode cX6_set 23 = .ok (.aload_n 0, 1) := by decide +kernel
theorem dX6_set_24 : decode cX6_set 24 = .ok (.getfield 10, 3) := by decide +kernel
theorem dX6_set_27 : decode cX6_set 27 = .ok (.invokevirtual 92, 3) := by decide +kernel
theorem dX6_set_30 : decode cX6_set 30 = .ok (.if_icmp .ge 13, 3) := by decide +kernel
theorem dX6_set_33 : decode cX6_set 33 = .ok (.new 95, 3) := by decide +kernel
theorem dX6_set_36 : decode cX6_set 36 = .ok (.dup, 1) := by decide +kernel
theorem dX6_set_37 : decode cX6_set 37 = .ok (.ldc 97, 2) := by decide +kernel
theorem dX6_set_39 : decode cX6_set 39 = .ok (.invokespecial 99, 3) := by decide +kernel
theorem dX6_set_42 : decode cX6_set 42 = .ok (.athrow, 1) := by decide +kernel
theorem dX6_set_43 : decode cX6_set 43 = .ok (.aload_n 0, 1) := by decide +kernel
theorem dX6_set_44 : decode cX6_set 44 = .ok (.getfield 19, 3) := by decide +kernel
theorem dX6_set_47 : decode cX6_set 47 = .ok (.aload_n 0, 1) := by decide +kernel
theorem dX6_set_48 : decode cX6_set 48 = .ok (.getfield 10, 3) := by decide +kernel
theorem dX6_set_51 : decode cX6_set 51 = .ok (.invokevirtual 53, 3) := by decide +kernel
theorem dX6_set_54 : decode cX6_set 54 = .ok (.aload_n 0, 1) := by decide +kernel
theorem dX6_set_55 : decode cX6_set 55 = .ok (.getfield 10, 3) := by decide +kernel
theorem dX6_set_58 : decode cX6_set 58 = .ok (.getfield 102, 3) := by decide +kernel
theorem dX6_set_61 : decode cX6_set 61 = .ok (.iload_n 1, 1) := by decide +kernel
theorem dX6_set_62 : decode cX6_set 62 = .ok (.iaload, 1) := by decide +kernel
theorem dX6_set_63 : decode cX6_set 63 = .ok (.istore_n 3, 1) := by decide +kernel
theorem dX6_set_64 : decode cX6_set 64 = .ok (.aload_n 0, 1) := by decide +kernel
theorem dX6_set_65 : decode cX6_set 65 = .ok (.getfield 10, 3) := by decide +kernel
theorem dX6_set_68 : decode cX6_set 68 = .ok (.getfield 102, 3) := by decide +kernel
theorem dX6_set_71 : decode cX6_set 71 = .ok (.iload_n 1, 1) := by decide +kernel
theorem dX6_set_72 : decode cX6_set 72 = .ok (.iload_n 2, 1) := by decide +kernel
theorem dX6_set_73 : decode cX6_set 73 = .ok (.iastore, 1) := by decide +kernel
theorem dX6_set_74 : decode cX6_set 74 = .ok (.iload_n 3, 1) := by decide +kernel
theorem dX6_set_75 : decode cX6_set 75 = .ok (.ireturn, 1) := by decide +kernel
theorem dX6_pass_0 : decode cX6_pass 0 = .ok (.iload_n 1, 1) := by decide +kernel
theorem dX6_pass_1 : decode cX6_pass 1 = .ok (.iconst 1, 1) := by decide +kernel
theorem dX6_pass_2 : decode cX6_pass 2 = .ok (.bipush 99, 2) := by decide +kernel
theorem dX6_pass_4 : decode cX6_pass 4 = .ok (.invokestatic 49, 3) := by decide +kernel
theorem dX6_pass_7 : decode cX6_pass 7 = .ok (.aload_n 0, 1) := by decide +kernel
theorem dX6_pass_8 : decode cX6_pass 8 = .ok (.getfield 10, 3) := by decide +kernel
theorem dX6_pass_11 : decode cX6_pass 11 = .ok (.iload_n 1, 1) := by decide +kernel
theorem dX6_pass_12 : decode cX6_pass 12 = .ok (.invokevirtual 105, 3) := by decide +kernel
theorem dX6_pass_15 : decode cX6_pass 15 = .ok (.ifCond .ne 13, 3) := by decide +kernel
theorem dX6_pass_18 : decode cX6_pass 18 = .ok (.new 95, 3) := by decide +kernel
theorem dX6_pass_21 : decode cX6_pass 21 = .ok (.dup, 1) := by decide +kernel
theorem dX6_pass_22 : decode cX6_pass 22 = .ok (.ldc 109, 2) := by decide +kernel
theorem dX6_pass_24 : decode cX6_pass 24 = .ok (.invokespecial 99, 3) := by decide +kernel
theorem dX6_pass_27 : decode cX6_pass 27 = .ok (.athrow, 1) := by decide +kernel
theorem dX6_pass_28 : decode cX6_pass 28 = .ok (.aload_n 0, 1) := by decide +kernel
theorem dX6_pass_29 : decode cX6_pass 29 = .ok (.getfield 19, 3) := by decide +kernel
theorem dX6_pass_32 : decode cX6_pass 32 = .ok (.aload_n 0, 1) := by decide +kernel
theorem dX6_pass_33 : decode cX6_pass 33 = .ok (.getfield 10, 3) := by decide +kernel
theorem dX6_pass_36 : decode cX6_pass 36 = .ok (.invokevirtual 53, 3) := by decide +kernel
theorem dX6_pass_39 : decode cX6_pass 39 = .ok (.aload_n 0, 1) := by decide +kernel
theorem dX6_pass_40 : decode cX6_pass 40 = .ok (.getfield 10, 3) := by decide +kernel
theorem dX6_pass_43 : decode cX6_pass 43 = .ok (.iload_n 1, 1) := by decide +kernel
theorem dX6_pass_44 : decode cX6_pass 44 = .ok (.invokevirtual 111, 3) := by decide +kernel
theorem dX6_pass_47 : decode cX6_pass 47 = .ok (.ireturn, 1) := by decide +kernel
theorem dX6_append_0 : decode cX6_append 0 = .ok (.iload_n 1, 1) := by decide +kernel
theorem dX6_append_1 : decode cX6_append 1 = .ok (.bipush 33, 2) := by decide +kernel
theorem dX6_append_3 : decode cX6_append 3 = .ok (.bipush 126, 2) := by decide +kernel
theorem dX6_append_5 : decode cX6_append 5 = .ok (.invokestatic 49, 3) := by decide +kernel
theorem dX6_append_8 : decode cX6_append 8 = .ok (.aload_n 0, 1) := by decide +kernel
theorem dX6_append_9 : decode cX6_append 9 = .ok (.getfield 34, 3) := by decide +kernel
theorem dX6_append_12 : decode cX6_append 12 = .ok (.invokevirtual 115, 3) := by decide +kernel
theorem dX6_append_15 : decode cX6_append 15 = .ok (.ifCond .eq 13, 3) := by decide +kernel
theorem dX6_append_18 : decode cX6_append 18 = .ok (.new 95, 3) := by decide +kernel
theorem dX6_append_21 : decode cX6_append 21 = .ok (.dup, 1) := by decide +kernel
theorem dX6_append_22 : decode cX6_append 22 = .ok (.ldc 119, 2) := by decide +kernel
theorem dX6_append_24 : decode cX6_append 24 = .ok (.invokespecial 99, 3) := by decide +kernel
theorem dX6_append_27 : decode cX6_append 27 = .ok (.athrow, 1) := by decide +kernel
theorem dX6_append_28 : decode cX6_append 28 = .ok (.aload_n 0, 1) := by decide +kernel
theorem dX6_append_29 : decode cX6_append 29 = .ok (.getfield 34, 3) := by decide +kernel
theorem dX6_append_32 : decode cX6_append 32 = .ok (.iload_n 1, 1) := by decide +kernel
theorem dX6_append_33 : decode cX6_append 33 = .ok (.invokevirtual 121, 3) := by decide +kernel
theorem dX6_append_36 : decode cX6_append 36 = .ok (.aload_n 0, 1) := by decide +kernel
theorem dX6_append_37 : decode cX6_append 37 = .ok (.getfield 34, 3) := by decide +kernel
theorem dX6_append_40 : decode cX6_append 40 = .ok (.getfield 124, 3) := by decide +kernel
theorem dX6_append_43 : decode cX6_append 43 = .ok (.ireturn, 1) := by decide +kernel
theorem dX6_clearBuffer_0 : decode cX6_clearBuffer 0 = .ok (.aload_n 0, 1) := by decide +kernel
theorem dX6_clearBuffer_1 : decode cX6_clearBuffer 1 = .ok (.getfield 34, 3) := by decide +kernel
theorem dX6_clearBuffer_4 : decode cX6_clearBuffer 4 = .ok (.getfield 124, 3) := by decide +kernel
theorem dX6_clearBuffer_7 : decode cX6_clearBuffer 7 = .ok (.istore_n 1, 1) := by decide +kernel
theorem dX6_clearBuffer_8 : decode cX6_clearBuffer 8 = .ok (.aload_n 0, 1) := by decide +kernel
theorem dX6_clearBuffer_9 : decode cX6_clearBuffer 9 = .ok (.getfield 34, 3) := by decide +kernel
theorem dX6_clearBuffer_12 : decode cX6_clearBuffer 12 = .ok (.iconst 0, 1) := by decide +kernel
theorem dX6_clearBuffer_13 : decode cX6_clearBuffer 13 = .ok (.putfield 124, 3) := by decide +kernel
theorem dX6_clearBuffer_16 : decode cX6_clearBuffer 16 = .ok (.iload_n 1, 1) := by decide +kernel
theorem dX6_clearBuffer_17 : decode cX6_clearBuffer 17 = .ok (.ireturn, 1) := by decide +kernel
theorem dX6_firstError_0 : decode cX6_firstError 0 = .ok (.aload_n 0, 1) := by decide +kernel
theorem dX6_firstError_1 : decode cX6_firstError 1 = .ok (.getfield 34, 3) := by decide +kernel
theorem dX6_firstError_4 : decode cX6_firstError 4 = .ok (.invokevirtual 127, 3) := by decide +kernel
theorem dX6_firstError_7 : decode cX6_firstError 7 = .ok (.ireturn, 1) := by decide +kernel
theorem dX6_run_0 : decode cX6_run 0 = .ok (.aload_n 0, 1) := by decide +kernel
theorem dX6_run_1 : decode cX6_run 1 = .ok (.getfield 34, 3) := by decide +kernel
theorem dX6_run_4 : decode cX6_run 4 = .ok (.invokevirtual 130, 3) := by decide +kernel
theorem dX6_run_7 : decode cX6_run 7 = .ok (.ifCond .ne 13, 3) := by decide +kernel
theorem dX6_run_10 : decode cX6_run 10 = .ok (.new 133, 3) := by decide +kernel
theorem dX6_run_13 : decode cX6_run 13 = .ok (.dup, 1) := by decide +kernel
theorem dX6_run_14 : decode cX6_run 14 = .ok (.ldc 135, 2) := by decide +kernel
theorem dX6_run_16 : decode cX6_run 16 = .ok (.invokespecial 137, 3) := by decide +kernel
theorem dX6_run_19 : decode cX6_run 19 = .ok (.athrow, 1) := by decide +kernel
theorem dX6_run_20 : decode cX6_run 20 = .ok (.aload_n 0, 1) := by decide +kernel
theorem dX6_run_21 : decode cX6_run 21 = .ok (.getfield 19, 3) := by decide +kernel
theorem dX6_run_24 : decode cX6_run 24 = .ok (.aload_n 0, 1) := by decide +kernel
theorem dX6_run_25 : decode cX6_run 25 = .ok (.getfield 10, 3) := by decide +kernel
theorem dX6_run_28 : decode cX6_run 28 = .ok (.invokevirtual 53, 3) := by decide +kernel
theorem dX6_run_31 : decode cX6_run 31 = .ok (.iconst 0, 1) := by decide +kernel
theorem dX6_run_32 : decode cX6_run 32 = .ok (.istore_n 1, 1) := by decide +kernel
theorem dX6_run_33 : decode cX6_run 33 = .ok (.iconst 0, 1) := by decide +kernel
theorem dX6_run_34 : decode cX6_run 34 = .ok (.istore_n 2, 1) := by decide +kernel
theorem dX6_run_35 : decode cX6_run 35 = .ok (.iload_n 2, 1) := by decide +kernel
theorem dX6_run_36 : decode cX6_run 36 = .ok (.aload_n 0, 1) := by decide +kernel
theorem dX6_run_37 : decode cX6_run 37 = .ok (.getfield 34, 3) := by decide +kernel
theorem dX6_run_40 : decode cX6_run 40 = .ok (.getfield 124, 3) := by decide +kernel
theorem dX6_run_43 : decode cX6_run 43 = .ok (.if_icmp .ge 34, 3) := by decide +kernel
theorem dX6_run_46 : decode cX6_run 46 = .ok (.aload_n 0, 1) := by decide +kernel
theorem dX6_run_47 : decode cX6_run 47 = .ok (.getfield 34, 3) := by decide +kernel
theorem dX6_run_50 : decode cX6_run 50 = .ok (.iload_n 2, 1) := by decide +kernel
theorem dX6_run_51 : decode cX6_run 51 = .ok (.invokevirtual 138, 3) := by decide +kernel
theorem dX6_run_54 : decode cX6_run 54 = .ok (.ifCond .eq 17, 3) := by decide +kernel
theorem dX6_run_57 : decode cX6_run 57 = .ok (.aload_n 0, 1) := by decide +kernel
theorem dX6_run_58 : decode cX6_run 58 = .ok (.iload_n 2, 1) := by decide +kernel
theorem dX6_run_59 : decode cX6_run 59 = .ok (.invokevirtual 141, 3) := by decide +kernel
theorem dX6_run_62 : decode cX6_run 62 = .ok (.ifCond .ne 6, 3) := by decide +kernel
theorem dX6_run_65 : decode cX6_run 65 = .ok (.goto 12, 3) := by decide +kernel
theorem dX6_run_68 : decode cX6_run 68 = .ok (.iinc 1 1, 3) := by decide +kernel
theorem dX6_run_71 : decode cX6_run 71 = .ok (.iinc 2 1, 3) := by decide +kernel
theorem dX6_run_74 : decode cX6_run 74 = .ok (.goto (-39), 3) := by decide +kernel
theorem dX6_run_77 : decode cX6_run 77 = .ok (.aload_n 0, 1) := by decide +kernel
theorem dX6_run_78 : decode cX6_run 78 = .ok (.getfield 34, 3) := by decide +kernel
theorem dX6_run_81 : decode cX6_run 81 = .ok (.iconst 0, 1) := by decide +kernel
theorem dX6_run_82 : decode cX6_run 82 = .ok (.putfield 124, 3) := by decide +kernel
theorem dX6_run_85 : decode cX6_run 85 = .ok (.iload_n 1, 1) := by decide +kernel
theorem dX6_run_86 : decode cX6_run 86 = .ok (.ireturn, 1) := by decide +kernel
theorem dX6_keep_0 : decode cX6_keep 0 = .ok (.iload_n 1, 1) := by decide +kernel
theorem dX6_keep_1 : decode cX6_keep 1 = .ok (.iconst 0, 1) := by decide +kernel
theorem dX6_keep_2 : decode cX6_keep 2 = .ok (.iconst 1, 1) := by decide +kernel
theorem dX6_keep_3 : decode cX6_keep 3 = .ok (.invokestatic 49, 3) := by decide +kernel
theorem dX6_keep_6 : decode cX6_keep 6 = .ok (.aload_n 0, 1) := by decide +kernel
theorem dX6_keep_7 : decode cX6_keep 7 = .ok (.getfield 23, 3) := by decide +kernel
theorem dX6_keep_10 : decode cX6_keep 10 = .ok (.iload_n 1, 1) := by decide +kernel
theorem dX6_keep_11 : decode cX6_keep 11 = .ok (.aaload, 1) := by decide +kernel
theorem dX6_keep_12 : decode cX6_keep 12 = .ok (.aload_n 0, 1) := by decide +kernel
theorem dX6_keep_13 : decode cX6_keep 13 = .ok (.getfield 10, 3) := by decide +kernel
theorem dX6_keep_16 : decode cX6_keep 16 = .ok (.invokevirtual 144, 3) := by decide +kernel
theorem dX6_keep_19 : decode cX6_keep 19 = .ok (.aload_n 0, 1) := by decide +kernel
theorem dX6_keep_20 : decode cX6_keep 20 = .ok (.getfield 27, 3) := by decide +kernel
theorem dX6_keep_23 : decode cX6_keep 23 = .ok (.iload_n 1, 1) := by decide +kernel
theorem dX6_keep_24 : decode cX6_keep 24 = .ok (.iconst 1, 1) := by decide +kernel
theorem dX6_keep_25 : decode cX6_keep 25 = .ok (.bastore, 1) := by decide +kernel
theorem dX6_keep_26 : decode cX6_keep 26 = .ok (.aload_n 0, 1) := by decide +kernel
theorem dX6_keep_27 : decode cX6_keep 27 = .ok (.getfield 10, 3) := by decide +kernel
theorem dX6_keep_30 : decode cX6_keep 30 = .ok (.getfield 147, 3) := by decide +kernel
theorem dX6_keep_33 : decode cX6_keep 33 = .ok (.ireturn, 1) := by decide +kernel
theorem dX6_goBack_0 : decode cX6_goBack 0 = .ok (.iload_n 1, 1) := by decide +kernel
theorem dX6_goBack_1 : decode cX6_goBack 1 = .ok (.iconst 0, 1) := by decide +kernel
theorem dX6_goBack_2 : decode cX6_goBack 2 = .ok (.iconst 1, 1) := by decide +kernel
theorem dX6_goBack_3 : decode cX6_goBack 3 = .ok (.invokestatic 49, 3) := by decide +kernel
theorem dX6_goBack_6 : decode cX6_goBack 6 = .ok (.aload_n 0, 1) := by decide +kernel
theorem dX6_goBack_7 : decode cX6_goBack 7 = .ok (.getfield 27, 3) := by decide +kernel
theorem dX6_goBack_10 : decode cX6_goBack 10 = .ok (.iload_n 1, 1) := by decide +kernel
theorem dX6_goBack_11 : decode cX6_goBack 11 = .ok (.baload, 1) := by decide +kernel
theorem dX6_goBack_12 : decode cX6_goBack 12 = .ok (.ifCond .ne 13, 3) := by decide +kernel
theorem dX6_goBack_15 : decode cX6_goBack 15 = .ok (.new 95, 3) := by decide +kernel
theorem dX6_goBack_18 : decode cX6_goBack 18 = .ok (.dup, 1) := by decide +kernel
theorem dX6_goBack_19 : decode cX6_goBack 19 = .ok (.ldc 150, 2) := by decide +kernel
theorem dX6_goBack_21 : decode cX6_goBack 21 = .ok (.invokespecial 99, 3) := by decide +kernel
theorem dX6_goBack_24 : decode cX6_goBack 24 = .ok (.athrow, 1) := by decide +kernel
theorem dX6_goBack_25 : decode cX6_goBack 25 = .ok (.aload_n 0, 1) := by decide +kernel
theorem dX6_goBack_26 : decode cX6_goBack 26 = .ok (.getfield 19, 3) := by decide +kernel
theorem dX6_goBack_29 : decode cX6_goBack 29 = .ok (.aload_n 0, 1) := by decide +kernel
theorem dX6_goBack_30 : decode cX6_goBack 30 = .ok (.getfield 10, 3) := by decide +kernel
theorem dX6_goBack_33 : decode cX6_goBack 33 = .ok (.invokevirtual 53, 3) := by decide +kernel
theorem dX6_goBack_36 : decode cX6_goBack 36 = .ok (.aload_n 0, 1) := by decide +kernel
theorem dX6_goBack_37 : decode cX6_goBack 37 = .ok (.getfield 10, 3) := by decide +kernel
theorem dX6_goBack_40 : decode cX6_goBack 40 = .ok (.aload_n 0, 1) := by decide +kernel
theorem dX6_goBack_41 : decode cX6_goBack 41 = .ok (.getfield 23, 3) := by decide +kernel
theorem dX6_goBack_44 : decode cX6_goBack 44 = .ok (.iload_n 1, 1) := by decide +kernel
theorem dX6_goBack_45 : decode cX6_goBack 45 = .ok (.aaload, 1) := by decide +kernel
theorem dX6_goBack_46 : decode cX6_goBack 46 = .ok (.invokevirtual 144, 3) := by decide +kernel
theorem dX6_goBack_49 : decode cX6_goBack 49 = .ok (.aload_n 0, 1) := by decide +kernel
theorem dX6_goBack_50 : decode cX6_goBack 50 = .ok (.getfield 10, 3) := by decide +kernel
theorem dX6_goBack_53 : decode cX6_goBack 53 = .ok (.getfield 147, 3) := by decide +kernel
theorem dX6_goBack_56 : decode cX6_goBack 56 = .ok (.ireturn, 1) := by decide +kernel
theorem dX6_undo_0 : decode cX6_undo 0 = .ok (.aload_n 0, 1) := by decide +kernel
theorem dX6_undo_1 : decode cX6_undo 1 = .ok (.getfield 19, 3) := by decide +kernel
theorem dX6_undo_4 : decode cX6_undo 4 = .ok (.getfield 152, 3) := by decide +kernel
theorem dX6_undo_7 : decode cX6_undo 7 = .ok (.ifCond .gt 13, 3) := by decide +kernel
theorem dX6_undo_10 : decode cX6_undo 10 = .ok (.new 95, 3) := by decide +kernel
theorem dX6_undo_13 : decode cX6_undo 13 = .ok (.dup, 1) := by decide +kernel
theorem dX6_undo_14 : decode cX6_undo 14 = .ok (.ldc 155, 2) := by decide +kernel
theorem dX6_undo_16 : decode cX6_undo 16 = .ok (.invokespecial 99, 3) := by decide +kernel
theorem dX6_undo_19 : decode cX6_undo 19 = .ok (.athrow, 1) := by decide +kernel
theorem dX6_undo_20 : decode cX6_undo 20 = .ok (.aload_n 0, 1) := by decide +kernel
theorem dX6_undo_21 : decode cX6_undo 21 = .ok (.getfield 19, 3) := by decide +kernel
theorem dX6_undo_24 : decode cX6_undo 24 = .ok (.aload_n 0, 1) := by decide +kernel
theorem dX6_undo_25 : decode cX6_undo 25 = .ok (.getfield 10, 3) := by decide +kernel
theorem dX6_undo_28 : decode cX6_undo 28 = .ok (.invokevirtual 157, 3) := by decide +kernel
theorem dX6_undo_31 : decode cX6_undo 31 = .ok (.aload_n 0, 1) := by decide +kernel
theorem dX6_undo_32 : decode cX6_undo 32 = .ok (.getfield 19, 3) := by decide +kernel
theorem dX6_undo_35 : decode cX6_undo 35 = .ok (.getfield 152, 3) := by decide +kernel
theorem dX6_undo_38 : decode cX6_undo 38 = .ok (.ireturn, 1) := by decide +kernel
theorem dX6_playerOf_0 : decode cX6_playerOf 0 = .ok (.iload_n 1, 1) := by decide +kernel
theorem dX6_playerOf_1 : decode cX6_playerOf 1 = .ok (.invokestatic 45, 3) := by decide +kernel
theorem dX6_playerOf_4 : decode cX6_playerOf 4 = .ok (.iload_n 2, 1) := by decide +kernel
theorem dX6_playerOf_5 : decode cX6_playerOf 5 = .ok (.iconst 0, 1) := by decide +kernel
theorem dX6_playerOf_6 : decode cX6_playerOf 6 = .ok (.bipush 6, 2) := by decide +kernel
theorem dX6_playerOf_8 : decode cX6_playerOf 8 = .ok (.invokestatic 49, 3) := by decide +kernel
theorem dX6_playerOf_11 : decode cX6_playerOf 11 = .ok (.aload_n 0, 1) := by decide +kernel
theorem dX6_playerOf_12 : decode cX6_playerOf 12 = .ok (.getfield 10, 3) := by decide +kernel
theorem dX6_playerOf_15 : decode cX6_playerOf 15 = .ok (.iload_n 1, 1) := by decide +kernel
theorem dX6_playerOf_16 : decode cX6_playerOf 16 = .ok (.iload_n 2, 1) := by decide +kernel
theorem dX6_playerOf_17 : decode cX6_playerOf 17 = .ok (.invokevirtual 160, 3) := by decide +kernel
theorem dX6_playerOf_20 : decode cX6_playerOf 20 = .ok (.ireturn, 1) := by decide +kernel
theorem dX6_echoOf_0 : decode cX6_echoOf 0 = .ok (.iload_n 1, 1) := by decide +kernel
theorem dX6_echoOf_1 : decode cX6_echoOf 1 = .ok (.ifCond .ge 13, 3) := by decide +kernel
theorem dX6_echoOf_4 : decode cX6_echoOf 4 = .ok (.new 133, 3) := by decide +kernel
theorem dX6_echoOf_7 : decode cX6_echoOf 7 = .ok (.dup, 1) := by decide +kernel
theorem dX6_echoOf_8 : decode cX6_echoOf 8 = .ok (.ldc 163, 2) := by decide +kernel
theorem dX6_echoOf_10 : decode cX6_echoOf 10 = .ok (.invokespecial 137, 3) := by decide +kernel
theorem dX6_echoOf_13 : decode cX6_echoOf 13 = .ok (.athrow, 1) := by decide +kernel
theorem dX6_echoOf_14 : decode cX6_echoOf 14 = .ok (.iload_n 2, 1) := by decide +kernel
theorem dX6_echoOf_15 : decode cX6_echoOf 15 = .ok (.iconst 0, 1) := by decide +kernel
theorem dX6_echoOf_16 : decode cX6_echoOf 16 = .ok (.iconst 5, 1) := by decide +kernel
theorem dX6_echoOf_17 : decode cX6_echoOf 17 = .ok (.invokestatic 49, 3) := by decide +kernel
theorem dX6_echoOf_20 : decode cX6_echoOf 20 = .ok (.aload_n 0, 1) := by decide +kernel
theorem dX6_echoOf_21 : decode cX6_echoOf 21 = .ok (.getfield 10, 3) := by decide +kernel
theorem dX6_echoOf_24 : decode cX6_echoOf 24 = .ok (.iload_n 1, 1) := by decide +kernel
theorem dX6_echoOf_25 : decode cX6_echoOf 25 = .ok (.iload_n 2, 1) := by decide +kernel
theorem dX6_echoOf_26 : decode cX6_echoOf 26 = .ok (.invokevirtual 165, 3) := by decide +kernel
theorem dX6_echoOf_29 : decode cX6_echoOf 29 = .ok (.ireturn, 1) := by decide +kernel
theorem dX6_count_0 : decode cX6_count 0 = .ok (.iload_n 1, 1) := by decide +kernel
theorem dX6_count_1 : decode cX6_count 1 = .ok (.iconst 0, 1) := by decide +kernel
theorem dX6_count_2 : decode cX6_count 2 = .ok (.bipush 11, 2) := by decide +kernel
theorem dX6_count_4 : decode cX6_count 4 = .ok (.invokestatic 49, 3) := by decide +kernel
theorem dX6_count_7 : decode cX6_count 7 = .ok (.aload_n 0, 1) := by decide +kernel
theorem dX6_count_8 : decode cX6_count 8 = .ok (.iload_n 1, 1) := by decide +kernel
theorem dX6_count_9 : decode cX6_count 9 = .ok (.invokevirtual 168, 3) := by decide +kernel
theorem dX6_count_12 : decode cX6_count 12 = .ok (.ireturn, 1) := by decide +kernel
theorem dX6_setting_0 : decode cX6_setting 0 = .ok (.iload_n 1, 1) := by decide +kernel
theorem dX6_setting_1 : decode cX6_setting 1 = .ok (.invokestatic 82, 3) := by decide +kernel
theorem dX6_setting_4 : decode cX6_setting 4 = .ok (.aload_n 0, 1) := by decide +kernel
theorem dX6_setting_5 : decode cX6_setting 5 = .ok (.getfield 10, 3) := by decide +kernel
theorem dX6_setting_8 : decode cX6_setting 8 = .ok (.getfield 102, 3) := by decide +kernel
theorem dX6_setting_11 : decode cX6_setting 11 = .ok (.iload_n 1, 1) := by decide +kernel
theorem dX6_setting_12 : decode cX6_setting 12 = .ok (.iaload, 1) := by decide +kernel
theorem dX6_setting_13 : decode cX6_setting 13 = .ok (.ireturn, 1) := by decide +kernel
theorem dX6_ballIn_0 : decode cX6_ballIn 0 = .ok (.iload_n 1, 1) := by decide +kernel
theorem dX6_ballIn_1 : decode cX6_ballIn 1 = .ok (.iconst 0, 1) := by decide +kernel
theorem dX6_ballIn_2 : decode cX6_ballIn 2 = .ok (.bipush 99, 2) := by decide +kernel
theorem dX6_ballIn_4 : decode cX6_ballIn 4 = .ok (.invokestatic 49, 3) := by decide +kernel
theorem dX6_ballIn_7 : decode cX6_ballIn 7 = .ok (.iload_n 2, 1) := by decide +kernel
theorem dX6_ballIn_8 : decode cX6_ballIn 8 = .ok (.iconst 0, 1) := by decide +kernel
theorem dX6_ballIn_9 : decode cX6_ballIn 9 = .ok (.iconst 2, 1) := by decide +kernel
theorem dX6_ballIn_10 : decode cX6_ballIn 10 = .ok (.invokestatic 49, 3) := by decide +kernel
theorem dX6_ballIn_13 : decode cX6_ballIn 13 = .ok (.aload_n 0, 1) := by decide +kernel
theorem dX6_ballIn_14 : decode cX6_ballIn 14 = .ok (.iload_n 1, 1) := by decide +kernel
theorem dX6_ballIn_15 : decode cX6_ballIn 15 = .ok (.iload_n 2, 1) := by decide +kernel
theorem dX6_ballIn_16 : decode cX6_ballIn 16 = .ok (.invokevirtual 171, 3) := by decide +kernel
theorem dX6_ballIn_19 : decode cX6_ballIn 19 = .ok (.ireturn, 1) := by decide +kernel
theorem dX6_echoIn_0 : decode cX6_echoIn 0 = .ok (.iload_n 1, 1) := by decide +kernel
theorem dX6_echoIn_1 : decode cX6_echoIn 1 = .ok (.invokestatic 45, 3) := by decide +kernel
theorem dX6_echoIn_4 : decode cX6_echoIn 4 = .ok (.iload_n 2, 1) := by decide +kernel
theorem dX6_echoIn_5 : decode cX6_echoIn 5 = .ok (.iconst 0, 1) := by decide +kernel
theorem dX6_echoIn_6 : decode cX6_echoIn 6 = .ok (.iconst 1, 1) := by decide +kernel
theorem dX6_echoIn_7 : decode cX6_echoIn 7 = .ok (.invokestatic 49, 3) := by decide +kernel
theorem dX6_echoIn_10 : decode cX6_echoIn 10 = .ok (.aload_n 0, 1) := by decide +kernel
theorem dX6_echoIn_11 : decode cX6_echoIn 11 = .ok (.getfield 10, 3) := by decide +kernel
theorem dX6_echoIn_14 : decode cX6_echoIn 14 = .ok (.aload_n 0, 1) := by decide +kernel
theorem dX6_echoIn_15 : decode cX6_echoIn 15 = .ok (.getfield 10, 3) := by decide +kernel
theorem dX6_echoIn_18 : decode cX6_echoIn 18 = .ok (.getfield 174, 3) := by decide +kernel
theorem dX6_echoIn_21 : decode cX6_echoIn 21 = .ok (.iload_n 1, 1) := by decide +kernel
theorem dX6_echoIn_22 : decode cX6_echoIn 22 = .ok (.aaload, 1) := by decide +kernel
theorem dX6_echoIn_23 : decode cX6_echoIn 23 = .ok (.getfield 178, 3) := by decide +kernel
theorem dX6_echoIn_26 : decode cX6_echoIn 26 = .ok (.iload_n 2, 1) := by decide +kernel
theorem dX6_echoIn_27 : decode cX6_echoIn 27 = .ok (.invokevirtual 181, 3) := by decide +kernel
theorem dX6_echoIn_30 : decode cX6_echoIn 30 = .ok (.ireturn, 1) := by decide +kernel
theorem dX6_wouldClash_0 : decode cX6_wouldClash 0 = .ok (.iload_n 1, 1) := by decide +kernel
theorem dX6_wouldClash_1 : decode cX6_wouldClash 1 = .ok (.invokestatic 45, 3) := by decide +kernel
theorem dX6_wouldClash_4 : decode cX6_wouldClash 4 = .ok (.iload_n 2, 1) := by decide +kernel
theorem dX6_wouldClash_5 : decode cX6_wouldClash 5 = .ok (.iconst 0, 1) := by decide +kernel
theorem dX6_wouldClash_6 : decode cX6_wouldClash 6 = .ok (.iconst 1, 1) := by decide +kernel
theorem dX6_wouldClash_7 : decode cX6_wouldClash 7 = .ok (.invokestatic 49, 3) := by decide +kernel
theorem dX6_wouldClash_10 : decode cX6_wouldClash 10 = .ok (.aload_n 0, 1) := by decide +kernel
theorem dX6_wouldClash_11 : decode cX6_wouldClash 11 = .ok (.getfield 10, 3) := by decide +kernel
theorem dX6_wouldClash_14 : decode cX6_wouldClash 14 = .ok (.iload_n 1, 1) := by decide +kernel
theorem dX6_wouldClash_15 : decode cX6_wouldClash 15 = .ok (.iload_n 2, 1) := by decide +kernel
theorem dX6_wouldClash_16 : decode cX6_wouldClash 16 = .ok (.invokevirtual 184, 3) := by decide +kernel
theorem dX6_wouldClash_19 : decode cX6_wouldClash 19 = .ok (.ifCond .eq 7, 3) := by decide +kernel
theorem dX6_wouldClash_22 : decode cX6_wouldClash 22 = .ok (.iconst 1, 1) := by decide +kernel
theorem dX6_wouldClash_23 : decode cX6_wouldClash 23 = .ok (.goto 4, 3) := by decide +kernel
theorem dX6_wouldClash_26 : decode cX6_wouldClash 26 = .ok (.iconst 0, 1) := by decide +kernel
theorem dX6_wouldClash_27 : decode cX6_wouldClash 27 = .ok (.ireturn, 1) := by decide +kernel
theorem dX6_callIn_0 : decode cX6_callIn 0 = .ok (.iload_n 1, 1) := by decide +kernel
theorem dX6_callIn_1 : decode cX6_callIn 1 = .ok (.invokestatic 45, 3) := by decide +kernel
theorem dX6_callIn_4 : decode cX6_callIn 4 = .ok (.aload_n 0, 1) := by decide +kernel
theorem dX6_callIn_5 : decode cX6_callIn 5 = .ok (.getfield 10, 3) := by decide +kernel
theorem dX6_callIn_8 : decode cX6_callIn 8 = .ok (.iload_n 1, 1) := by decide +kernel
theorem dX6_callIn_9 : decode cX6_callIn 9 = .ok (.invokevirtual 188, 3) := by decide +kernel
theorem dX6_callIn_12 : decode cX6_callIn 12 = .ok (.ireturn, 1) := by decide +kernel
theorem dX6_quietIn_0 : decode cX6_quietIn 0 = .ok (.aload_n 0, 1) := by decide +kernel
theorem dX6_quietIn_1 : decode cX6_quietIn 1 = .ok (.getfield 10, 3) := by decide +kernel
theorem dX6_quietIn_4 : decode cX6_quietIn 4 = .ok (.invokevirtual 191, 3) := by decide +kernel
theorem dX6_quietIn_7 : decode cX6_quietIn 7 = .ok (.ireturn, 1) := by decide +kernel
theorem dX6_best_0 : decode cX6_best 0 = .ok (.aload_n 0, 1) := by decide +kernel
theorem dX6_best_1 : decode cX6_best 1 = .ok (.getfield 10, 3) := by decide +kernel
theorem dX6_best_4 : decode cX6_best 4 = .ok (.invokevirtual 194, 3) := by decide +kernel
theorem dX6_best_7 : decode cX6_best 7 = .ok (.ireturn, 1) := by decide +kernel
theorem dX6_answeredShare_0 : decode cX6_answeredShare 0 = .ok (.aload_n 0, 1) := by decide +kernel
theorem dX6_answeredShare_1 : decode cX6_answeredShare 1 = .ok (.getfield 10, 3) := by decide +kernel
theorem dX6_answeredShare_4 : decode cX6_answeredShare 4 = .ok (.invokevirtual 197, 3) := by decide +kernel
theorem dX6_answeredShare_7 : decode cX6_answeredShare 7 = .ok (.dreturn, 1) := by decide +kernel
theorem dX6_digest_0 : decode cX6_digest 0 = .ok (.ldc2_w 201, 3) := by decide +kernel
theorem dX6_digest_3 : decode cX6_digest 3 = .ok (.lstore_n 1, 1) := by decide +kernel
theorem dX6_digest_4 : decode cX6_digest 4 = .ok (.iconst 0, 1) := by decide +kernel
theorem dX6_digest_5 : decode cX6_digest 5 = .ok (.istore_n 3, 1) := by decide +kernel
theorem dX6_digest_6 : decode cX6_digest 6 = .ok (.iload_n 3, 1) := by decide +kernel
theorem dX6_digest_7 : decode cX6_digest 7 = .ok (.bipush 12, 2) := by decide +kernel
theorem dX6_digest_9 : decode cX6_digest 9 = .ok (.if_icmp .ge 20, 3) := by decide +kernel
theorem dX6_digest_12 : decode cX6_digest 12 = .ok (.lload_n 1, 1) := by decide +kernel
theorem dX6_digest_13 : decode cX6_digest 13 = .ok (.aload_n 0, 1) := by decide +kernel
theorem dX6_digest_14 : decode cX6_digest 14 = .ok (.iload_n 3, 1) := by decide +kernel
theorem dX6_digest_15 : decode cX6_digest 15 = .ok (.invokevirtual 168, 3) := by decide +kernel
theorem dX6_digest_18 : decode cX6_digest 18 = .ok (.i2l, 1) := by decide +kernel
theorem dX6_digest_19 : decode cX6_digest 19 = .ok (.invokestatic 203, 3) := by decide +kernel
theorem dX6_digest_22 : decode cX6_digest 22 = .ok (.lstore_n 1, 1) := by decide +kernel
theorem dX6_digest_23 : decode cX6_digest 23 = .ok (.iinc 3 1, 3) := by decide +kernel
theorem dX6_digest_26 : decode cX6_digest 26 = .ok (.goto (-20), 3) := by decide +kernel
theorem dX6_digest_29 : decode cX6_digest 29 = .ok (.iconst 0, 1) := by decide +kernel
theorem dX6_digest_30 : decode cX6_digest 30 = .ok (.istore_n 3, 1) := by decide +kernel
theorem dX6_digest_31 : decode cX6_digest 31 = .ok (.iload_n 3, 1) := by decide +kernel
theorem dX6_digest_32 : decode cX6_digest 32 = .ok (.iconst 3, 1) := by decide +kernel
theorem dX6_digest_33 : decode cX6_digest 33 = .ok (.if_icmp .ge 24, 3) := by decide +kernel
theorem dX6_digest_36 : decode cX6_digest 36 = .ok (.lload_n 1, 1) := by decide +kernel
theorem dX6_digest_37 : decode cX6_digest 37 = .ok (.aload_n 0, 1) := by decide +kernel
theorem dX6_digest_38 : decode cX6_digest 38 = .ok (.getfield 10, 3) := by decide +kernel
theorem dX6_digest_41 : decode cX6_digest 41 = .ok (.getfield 102, 3) := by decide +kernel
theorem dX6_digest_44 : decode cX6_digest 44 = .ok (.iload_n 3, 1) := by decide +kernel
theorem dX6_digest_45 : decode cX6_digest 45 = .ok (.iaload, 1) := by decide +kernel
theorem dX6_digest_46 : decode cX6_digest 46 = .ok (.i2l, 1) := by decide +kernel
theorem dX6_digest_47 : decode cX6_digest 47 = .ok (.invokestatic 203, 3) := by decide +kernel
theorem dX6_digest_50 : decode cX6_digest 50 = .ok (.lstore_n 1, 1) := by decide +kernel
theorem dX6_digest_51 : decode cX6_digest 51 = .ok (.iinc 3 1, 3) := by decide +kernel
theorem dX6_digest_54 : decode cX6_digest 54 = .ok (.goto (-23), 3) := by decide +kernel
theorem dX6_digest_57 : decode cX6_digest 57 = .ok (.iconst 0, 1) := by decide +kernel
theorem dX6_digest_58 : decode cX6_digest 58 = .ok (.istore_n 3, 1) := by decide +kernel
theorem dX6_digest_59 : decode cX6_digest 59 = .ok (.iload_n 3, 1) := by decide +kernel
theorem dX6_digest_60 : decode cX6_digest 60 = .ok (.iconst 4, 1) := by decide +kernel
theorem dX6_digest_61 : decode cX6_digest 61 = .ok (.if_icmp .ge 16, 3) := by decide +kernel
theorem dX6_digest_64 : decode cX6_digest 64 = .ok (.aload_n 0, 1) := by decide +kernel
theorem dX6_digest_65 : decode cX6_digest 65 = .ok (.lload_n 1, 1) := by decide +kernel
theorem dX6_digest_66 : decode cX6_digest 66 = .ok (.iload_n 3, 1) := by decide +kernel
theorem dX6_digest_67 : decode cX6_digest 67 = .ok (.invokevirtual 207, 3) := by decide +kernel
theorem dX6_digest_70 : decode cX6_digest 70 = .ok (.lstore_n 1, 1) := by decide +kernel
theorem dX6_digest_71 : decode cX6_digest 71 = .ok (.iinc 3 1, 3) := by decide +kernel
theorem dX6_digest_74 : decode cX6_digest 74 = .ok (.goto (-15), 3) := by decide +kernel
theorem dX6_digest_77 : decode cX6_digest 77 = .ok (.iconst 0, 1) := by decide +kernel
theorem dX6_digest_78 : decode cX6_digest 78 = .ok (.istore_n 3, 1) := by decide +kernel
theorem dX6_digest_79 : decode cX6_digest 79 = .ok (.iload_n 3, 1) := by decide +kernel
theorem dX6_digest_80 : decode cX6_digest 80 = .ok (.aload_n 0, 1) := by decide +kernel
theorem dX6_digest_81 : decode cX6_digest 81 = .ok (.getfield 10, 3) := by decide +kernel
theorem dX6_digest_84 : decode cX6_digest 84 = .ok (.getfield 211, 3) := by decide +kernel
theorem dX6_digest_87 : decode cX6_digest 87 = .ok (.if_icmp .ge 41, 3) := by decide +kernel
theorem dX6_digest_90 : decode cX6_digest 90 = .ok (.iconst 0, 1) := by decide +kernel
theorem dX6_digest_91 : decode cX6_digest 91 = .ok (.istore 4, 2) := by decide +kernel
theorem dX6_digest_93 : decode cX6_digest 93 = .ok (.iload 4, 2) := by decide +kernel
theorem dX6_digest_95 : decode cX6_digest 95 = .ok (.bipush 6, 2) := by decide +kernel
theorem dX6_digest_97 : decode cX6_digest 97 = .ok (.if_icmp .ge 25, 3) := by decide +kernel
theorem dX6_digest_100 : decode cX6_digest 100 = .ok (.lload_n 1, 1) := by decide +kernel
theorem dX6_digest_101 : decode cX6_digest 101 = .ok (.aload_n 0, 1) := by decide +kernel
theorem dX6_digest_102 : decode cX6_digest 102 = .ok (.getfield 10, 3) := by decide +kernel
theorem dX6_digest_105 : decode cX6_digest 105 = .ok (.iload_n 3, 1) := by decide +kernel
theorem dX6_digest_106 : decode cX6_digest 106 = .ok (.iload 4, 2) := by decide +kernel
theorem dX6_digest_108 : decode cX6_digest 108 = .ok (.invokevirtual 165, 3) := by decide +kernel
theorem dX6_digest_111 : decode cX6_digest 111 = .ok (.i2l, 1) := by decide +kernel
theorem dX6_digest_112 : decode cX6_digest 112 = .ok (.invokestatic 203, 3) := by decide +kernel
theorem dX6_digest_115 : decode cX6_digest 115 = .ok (.lstore_n 1, 1) := by decide +kernel
theorem dX6_digest_116 : decode cX6_digest 116 = .ok (.iinc 4 1, 3) := by decide +kernel
theorem dX6_digest_119 : decode cX6_digest 119 = .ok (.goto (-26), 3) := by decide +kernel
theorem dX6_digest_122 : decode cX6_digest 122 = .ok (.iinc 3 1, 3) := by decide +kernel
theorem dX6_digest_125 : decode cX6_digest 125 = .ok (.goto (-46), 3) := by decide +kernel
theorem dX6_digest_128 : decode cX6_digest 128 = .ok (.aload_n 0, 1) := by decide +kernel
theorem dX6_digest_129 : decode cX6_digest 129 = .ok (.lload_n 1, 1) := by decide +kernel
theorem dX6_digest_130 : decode cX6_digest 130 = .ok (.bipush 7, 2) := by decide +kernel
theorem dX6_digest_132 : decode cX6_digest 132 = .ok (.invokevirtual 214, 3) := by decide +kernel
theorem dX6_digest_135 : decode cX6_digest 135 = .ok (.lstore_n 1, 1) := by decide +kernel
theorem dX6_digest_136 : decode cX6_digest 136 = .ok (.aload_n 0, 1) := by decide +kernel
theorem dX6_digest_137 : decode cX6_digest 137 = .ok (.lload_n 1, 1) := by decide +kernel
theorem dX6_digest_138 : decode cX6_digest 138 = .ok (.bipush 50, 2) := by decide +kernel
theorem dX6_digest_140 : decode cX6_digest 140 = .ok (.invokevirtual 214, 3) := by decide +kernel
theorem dX6_digest_143 : decode cX6_digest 143 = .ok (.lstore_n 1, 1) := by decide +kernel
theorem dX6_digest_144 : decode cX6_digest 144 = .ok (.lload_n 1, 1) := by decide +kernel
theorem dX6_digest_145 : decode cX6_digest 145 = .ok (.aload_n 0, 1) := by decide +kernel
theorem dX6_digest_146 : decode cX6_digest 146 = .ok (.getfield 10, 3) := by decide +kernel
theorem dX6_digest_149 : decode cX6_digest 149 = .ok (.invokevirtual 191, 3) := by decide +kernel
theorem dX6_digest_152 : decode cX6_digest 152 = .ok (.i2l, 1) := by decide +kernel
theorem dX6_digest_153 : decode cX6_digest 153 = .ok (.invokestatic 203, 3) := by decide +kernel
theorem dX6_digest_156 : decode cX6_digest 156 = .ok (.lstore_n 1, 1) := by decide +kernel
theorem dX6_digest_157 : decode cX6_digest 157 = .ok (.lload_n 1, 1) := by decide +kernel
theorem dX6_digest_158 : decode cX6_digest 158 = .ok (.aload_n 0, 1) := by decide +kernel
theorem dX6_digest_159 : decode cX6_digest 159 = .ok (.getfield 10, 3) := by decide +kernel
theorem dX6_digest_162 : decode cX6_digest 162 = .ok (.invokevirtual 194, 3) := by decide +kernel
theorem dX6_digest_165 : decode cX6_digest 165 = .ok (.i2l, 1) := by decide +kernel
theorem dX6_digest_166 : decode cX6_digest 166 = .ok (.invokestatic 203, 3) := by decide +kernel
theorem dX6_digest_169 : decode cX6_digest 169 = .ok (.lstore_n 1, 1) := by decide +kernel
theorem dX6_digest_170 : decode cX6_digest 170 = .ok (.lload_n 1, 1) := by decide +kernel
theorem dX6_digest_171 : decode cX6_digest 171 = .ok (.aload_n 0, 1) := by decide +kernel
theorem dX6_digest_172 : decode cX6_digest 172 = .ok (.getfield 10, 3) := by decide +kernel
theorem dX6_digest_175 : decode cX6_digest 175 = .ok (.invokevirtual 197, 3) := by decide +kernel
theorem dX6_digest_178 : decode cX6_digest 178 = .ok (.invokestatic 217, 3) := by decide +kernel
theorem dX6_digest_181 : decode cX6_digest 181 = .ok (.invokestatic 203, 3) := by decide +kernel
theorem dX6_digest_184 : decode cX6_digest 184 = .ok (.lstore_n 1, 1) := by decide +kernel
theorem dX6_digest_185 : decode cX6_digest 185 = .ok (.iconst 0, 1) := by decide +kernel
theorem dX6_digest_186 : decode cX6_digest 186 = .ok (.istore_n 3, 1) := by decide +kernel
theorem dX6_digest_187 : decode cX6_digest 187 = .ok (.iload_n 3, 1) := by decide +kernel
theorem dX6_digest_188 : decode cX6_digest 188 = .ok (.iconst 2, 1) := by decide +kernel
theorem dX6_digest_189 : decode cX6_digest 189 = .ok (.if_icmp .ge 28, 3) := by decide +kernel
theorem dX6_digest_192 : decode cX6_digest 192 = .ok (.lload_n 1, 1) := by decide +kernel
theorem dX6_digest_193 : decode cX6_digest 193 = .ok (.aload_n 0, 1) := by decide +kernel
theorem dX6_digest_194 : decode cX6_digest 194 = .ok (.getfield 27, 3) := by decide +kernel
theorem dX6_digest_197 : decode cX6_digest 197 = .ok (.iload_n 3, 1) := by decide +kernel
theorem dX6_digest_198 : decode cX6_digest 198 = .ok (.baload, 1) := by decide +kernel
theorem dX6_digest_199 : decode cX6_digest 199 = .ok (.ifCond .eq 7, 3) := by decide +kernel
theorem dX6_digest_202 : decode cX6_digest 202 = .ok (.lconst 1, 1) := by decide +kernel
theorem dX6_digest_203 : decode cX6_digest 203 = .ok (.goto 4, 3) := by decide +kernel
theorem dX6_digest_206 : decode cX6_digest 206 = .ok (.lconst 0, 1) := by decide +kernel
theorem dX6_digest_207 : decode cX6_digest 207 = .ok (.invokestatic 203, 3) := by decide +kernel
theorem dX6_digest_210 : decode cX6_digest 210 = .ok (.lstore_n 1, 1) := by decide +kernel
theorem dX6_digest_211 : decode cX6_digest 211 = .ok (.iinc 3 1, 3) := by decide +kernel
theorem dX6_digest_214 : decode cX6_digest 214 = .ok (.goto (-27), 3) := by decide +kernel
theorem dX6_digest_217 : decode cX6_digest 217 = .ok (.lload_n 1, 1) := by decide +kernel
theorem dX6_digest_218 : decode cX6_digest 218 = .ok (.aload_n 0, 1) := by decide +kernel
theorem dX6_digest_219 : decode cX6_digest 219 = .ok (.getfield 34, 3) := by decide +kernel
theorem dX6_digest_222 : decode cX6_digest 222 = .ok (.getfield 124, 3) := by decide +kernel
theorem dX6_digest_225 : decode cX6_digest 225 = .ok (.i2l, 1) := by decide +kernel
theorem dX6_digest_226 : decode cX6_digest 226 = .ok (.invokestatic 203, 3) := by decide +kernel
theorem dX6_digest_229 : decode cX6_digest 229 = .ok (.lstore_n 1, 1) := by decide +kernel
theorem dX6_digest_230 : decode cX6_digest 230 = .ok (.iconst 0, 1) := by decide +kernel
theorem dX6_digest_231 : decode cX6_digest 231 = .ok (.istore_n 3, 1) := by decide +kernel
theorem dX6_digest_232 : decode cX6_digest 232 = .ok (.iload_n 3, 1) := by decide +kernel
theorem dX6_digest_233 : decode cX6_digest 233 = .ok (.aload_n 0, 1) := by decide +kernel
theorem dX6_digest_234 : decode cX6_digest 234 = .ok (.getfield 34, 3) := by decide +kernel
theorem dX6_digest_237 : decode cX6_digest 237 = .ok (.getfield 124, 3) := by decide +kernel
theorem dX6_digest_240 : decode cX6_digest 240 = .ok (.if_icmp .ge 23, 3) := by decide +kernel
theorem dX6_digest_243 : decode cX6_digest 243 = .ok (.lload_n 1, 1) := by decide +kernel
theorem dX6_digest_244 : decode cX6_digest 244 = .ok (.aload_n 0, 1) := by decide +kernel
theorem dX6_digest_245 : decode cX6_digest 245 = .ok (.getfield 34, 3) := by decide +kernel
theorem dX6_digest_248 : decode cX6_digest 248 = .ok (.iload_n 3, 1) := by decide +kernel
theorem dX6_digest_249 : decode cX6_digest 249 = .ok (.invokevirtual 221, 3) := by decide +kernel
theorem dX6_digest_252 : decode cX6_digest 252 = .ok (.i2l, 1) := by decide +kernel
theorem dX6_digest_253 : decode cX6_digest 253 = .ok (.invokestatic 203, 3) := by decide +kernel
theorem dX6_digest_256 : decode cX6_digest 256 = .ok (.lstore_n 1, 1) := by decide +kernel
theorem dX6_digest_257 : decode cX6_digest 257 = .ok (.iinc 3 1, 3) := by decide +kernel
theorem dX6_digest_260 : decode cX6_digest 260 = .ok (.goto (-28), 3) := by decide +kernel
theorem dX6_digest_263 : decode cX6_digest 263 = .ok (.lload_n 1, 1) := by decide +kernel
theorem dX6_digest_264 : decode cX6_digest 264 = .ok (.lreturn, 1) := by decide +kernel
theorem dX6_checkPlayer_0 : decode cX6_checkPlayer 0 = .ok (.iload_n 0, 1) := by decide +kernel
theorem dX6_checkPlayer_1 : decode cX6_checkPlayer 1 = .ok (.ifCond .lt 8, 3) := by decide +kernel
theorem dX6_checkPlayer_4 : decode cX6_checkPlayer 4 = .ok (.iload_n 0, 1) := by decide +kernel
theorem dX6_checkPlayer_5 : decode cX6_checkPlayer 5 = .ok (.iconst 4, 1) := by decide +kernel
theorem dX6_checkPlayer_6 : decode cX6_checkPlayer 6 = .ok (.if_icmp .lt 13, 3) := by decide +kernel
theorem dX6_checkPlayer_9 : decode cX6_checkPlayer 9 = .ok (.new 224, 3) := by decide +kernel
theorem dX6_checkPlayer_12 : decode cX6_checkPlayer 12 = .ok (.dup, 1) := by decide +kernel
theorem dX6_checkPlayer_13 : decode cX6_checkPlayer 13 = .ok (.ldc 226, 2) := by decide +kernel
theorem dX6_checkPlayer_15 : decode cX6_checkPlayer 15 = .ok (.invokespecial 228, 3) := by decide +kernel
theorem dX6_checkPlayer_18 : decode cX6_checkPlayer 18 = .ok (.athrow, 1) := by decide +kernel
theorem dX6_checkPlayer_19 : decode cX6_checkPlayer 19 = .ok (.return_, 1) := by decide +kernel
theorem dX6_checkSetting_0 : decode cX6_checkSetting 0 = .ok (.iload_n 0, 1) := by decide +kernel
theorem dX6_checkSetting_1 : decode cX6_checkSetting 1 = .ok (.ifCond .lt 8, 3) := by decide +kernel
theorem dX6_checkSetting_4 : decode cX6_checkSetting 4 = .ok (.iload_n 0, 1) := by decide +kernel
theorem dX6_checkSetting_5 : decode cX6_checkSetting 5 = .ok (.iconst 3, 1) := by decide +kernel
theorem dX6_checkSetting_6 : decode cX6_checkSetting 6 = .ok (.if_icmp .lt 13, 3) := by decide +kernel
theorem dX6_checkSetting_9 : decode cX6_checkSetting 9 = .ok (.new 224, 3) := by decide +kernel
theorem dX6_checkSetting_12 : decode cX6_checkSetting 12 = .ok (.dup, 1) := by decide +kernel
theorem dX6_checkSetting_13 : decode cX6_checkSetting 13 = .ok (.ldc 229, 2) := by decide +kernel
theorem dX6_checkSetting_15 : decode cX6_checkSetting 15 = .ok (.invokespecial 228, 3) := by decide +kernel
theorem dX6_checkSetting_18 : decode cX6_checkSetting 18 = .ok (.athrow, 1) := by decide +kernel
theorem dX6_checkSetting_19 : decode cX6_checkSetting 19 = .ok (.return_, 1) := by decide +kernel
theorem dX6_checkRange_0 : decode cX6_checkRange 0 = .ok (.iload_n 0, 1) := by decide +kernel
theorem dX6_checkRange_1 : decode cX6_checkRange 1 = .ok (.iload_n 1, 1) := by decide +kernel
theorem dX6_checkRange_2 : decode cX6_checkRange 2 = .ok (.if_icmp .lt 8, 3) := by decide +kernel
theorem dX6_checkRange_5 : decode cX6_checkRange 5 = .ok (.iload_n 0, 1) := by decide +kernel
theorem dX6_checkRange_6 : decode cX6_checkRange 6 = .ok (.iload_n 2, 1) := by decide +kernel
theorem dX6_checkRange_7 : decode cX6_checkRange 7 = .ok (.if_icmp .le 13, 3) := by decide +kernel
theorem dX6_checkRange_10 : decode cX6_checkRange 10 = .ok (.new 133, 3) := by decide +kernel
theorem dX6_checkRange_13 : decode cX6_checkRange 13 = .ok (.dup, 1) := by decide +kernel
theorem dX6_checkRange_14 : decode cX6_checkRange 14 = .ok (.ldc 231, 2) := by decide +kernel
theorem dX6_checkRange_16 : decode cX6_checkRange 16 = .ok (.invokespecial 137, 3) := by decide +kernel
theorem dX6_checkRange_19 : decode cX6_checkRange 19 = .ok (.athrow, 1) := by decide +kernel
theorem dX6_checkRange_20 : decode cX6_checkRange 20 = .ok (.return_, 1) := by decide +kernel
theorem dX6_doOrder_0 : decode cX6_doOrder 0 = .ok (.aload_n 0, 1) := by decide +kernel
theorem dX6_doOrder_1 : decode cX6_doOrder 1 = .ok (.getfield 34, 3) := by decide +kernel
theorem dX6_doOrder_4 : decode cX6_doOrder 4 = .ok (.iload_n 1, 1) := by decide +kernel
theorem dX6_doOrder_5 : decode cX6_doOrder 5 = .ok (.invokevirtual 221, 3) := by decide +kernel
theorem dX6_doOrder_8 : decode cX6_doOrder 8 = .ok (.lookupswitch 102 #[(99, 28), (109, 65)], 28) := by decide +kernel
theorem dX6_doOrder_36 : decode cX6_doOrder 36 = .ok (.aload_n 0, 1) := by decide +kernel
theorem dX6_doOrder_37 : decode cX6_doOrder 37 = .ok (.getfield 10, 3) := by decide +kernel
theorem dX6_doOrder_40 : decode cX6_doOrder 40 = .ok (.aload_n 0, 1) := by decide +kernel
theorem dX6_doOrder_41 : decode cX6_doOrder 41 = .ok (.getfield 34, 3) := by decide +kernel
theorem dX6_doOrder_44 : decode cX6_doOrder 44 = .ok (.iload_n 1, 1) := by decide +kernel
theorem dX6_doOrder_45 : decode cX6_doOrder 45 = .ok (.iconst 1, 1) := by decide +kernel
theorem dX6_doOrder_46 : decode cX6_doOrder 46 = .ok (.iadd, 1) := by decide +kernel
theorem dX6_doOrder_47 : decode cX6_doOrder 47 = .ok (.invokevirtual 233, 3) := by decide +kernel
theorem dX6_doOrder_50 : decode cX6_doOrder 50 = .ok (.aload_n 0, 1) := by decide +kernel
theorem dX6_doOrder_51 : decode cX6_doOrder 51 = .ok (.getfield 34, 3) := by decide +kernel
theorem dX6_doOrder_54 : decode cX6_doOrder 54 = .ok (.iload_n 1, 1) := by decide +kernel
theorem dX6_doOrder_55 : decode cX6_doOrder 55 = .ok (.iconst 3, 1) := by decide +kernel
theorem dX6_doOrder_56 : decode cX6_doOrder 56 = .ok (.iadd, 1) := by decide +kernel
theorem dX6_doOrder_57 : decode cX6_doOrder 57 = .ok (.invokevirtual 233, 3) := by decide +kernel
theorem dX6_doOrder_60 : decode cX6_doOrder 60 = .ok (.invokevirtual 57, 3) := by decide +kernel
theorem dX6_doOrder_63 : decode cX6_doOrder 63 = .ok (.iconst (-1), 1) := by decide +kernel
theorem dX6_doOrder_64 : decode cX6_doOrder 64 = .ok (.if_icmp .eq 7, 3) := by decide +kernel
theorem dX6_doOrder_67 : decode cX6_doOrder 67 = .ok (.iconst 1, 1) := by decide +kernel
theorem dX6_doOrder_68 : decode cX6_doOrder 68 = .ok (.goto 4, 3) := by decide +kernel
theorem dX6_doOrder_71 : decode cX6_doOrder 71 = .ok (.iconst 0, 1) := by decide +kernel
theorem dX6_doOrder_72 : decode cX6_doOrder 72 = .ok (.ireturn, 1) := by decide +kernel
theorem dX6_doOrder_73 : decode cX6_doOrder 73 = .ok (.aload_n 0, 1) := by decide +kernel
theorem dX6_doOrder_74 : decode cX6_doOrder 74 = .ok (.getfield 10, 3) := by decide +kernel
theorem dX6_doOrder_77 : decode cX6_doOrder 77 = .ok (.aload_n 0, 1) := by decide +kernel
theorem dX6_doOrder_78 : decode cX6_doOrder 78 = .ok (.getfield 34, 3) := by decide +kernel
theorem dX6_doOrder_81 : decode cX6_doOrder 81 = .ok (.iload_n 1, 1) := by decide +kernel
theorem dX6_doOrder_82 : decode cX6_doOrder 82 = .ok (.iconst 1, 1) := by decide +kernel
theorem dX6_doOrder_83 : decode cX6_doOrder 83 = .ok (.iadd, 1) := by decide +kernel
theorem dX6_doOrder_84 : decode cX6_doOrder 84 = .ok (.invokevirtual 233, 3) := by decide +kernel
theorem dX6_doOrder_87 : decode cX6_doOrder 87 = .ok (.aload_n 0, 1) := by decide +kernel
theorem dX6_doOrder_88 : decode cX6_doOrder 88 = .ok (.getfield 34, 3) := by decide +kernel
theorem dX6_doOrder_91 : decode cX6_doOrder 91 = .ok (.iload_n 1, 1) := by decide +kernel
theorem dX6_doOrder_92 : decode cX6_doOrder 92 = .ok (.iconst 2, 1) := by decide +kernel
theorem dX6_doOrder_93 : decode cX6_doOrder 93 = .ok (.iadd, 1) := by decide +kernel
theorem dX6_doOrder_94 : decode cX6_doOrder 94 = .ok (.invokevirtual 236, 3) := by decide +kernel
theorem dX6_doOrder_97 : decode cX6_doOrder 97 = .ok (.invokevirtual 61, 3) := by decide +kernel
theorem dX6_doOrder_100 : decode cX6_doOrder 100 = .ok (.iconst (-1), 1) := by decide +kernel
theorem dX6_doOrder_101 : decode cX6_doOrder 101 = .ok (.if_icmp .eq 7, 3) := by decide +kernel
theorem dX6_doOrder_104 : decode cX6_doOrder 104 = .ok (.iconst 1, 1) := by decide +kernel
theorem dX6_doOrder_105 : decode cX6_doOrder 105 = .ok (.goto 4, 3) := by decide +kernel
theorem dX6_doOrder_108 : decode cX6_doOrder 108 = .ok (.iconst 0, 1) := by decide +kernel
theorem dX6_doOrder_109 : decode cX6_doOrder 109 = .ok (.ireturn, 1) := by decide +kernel
theorem dX6_doOrder_110 : decode cX6_doOrder 110 = .ok (.aload_n 0, 1) := by decide +kernel
theorem dX6_doOrder_111 : decode cX6_doOrder 111 = .ok (.getfield 34, 3) := by decide +kernel
theorem dX6_doOrder_114 : decode cX6_doOrder 114 = .ok (.iload_n 1, 1) := by decide +kernel
theorem dX6_doOrder_115 : decode cX6_doOrder 115 = .ok (.iconst 1, 1) := by decide +kernel
theorem dX6_doOrder_116 : decode cX6_doOrder 116 = .ok (.iadd, 1) := by decide +kernel
theorem dX6_doOrder_117 : decode cX6_doOrder 117 = .ok (.invokevirtual 239, 3) := by decide +kernel
theorem dX6_doOrder_120 : decode cX6_doOrder 120 = .ok (.istore_n 2, 1) := by decide +kernel
theorem dX6_doOrder_121 : decode cX6_doOrder 121 = .ok (.aload_n 0, 1) := by decide +kernel
theorem dX6_doOrder_122 : decode cX6_doOrder 122 = .ok (.getfield 10, 3) := by decide +kernel
theorem dX6_doOrder_125 : decode cX6_doOrder 125 = .ok (.iload_n 2, 1) := by decide +kernel
theorem dX6_doOrder_126 : decode cX6_doOrder 126 = .ok (.invokevirtual 105, 3) := by decide +kernel
theorem dX6_doOrder_129 : decode cX6_doOrder 129 = .ok (.ifCond .ne 5, 3) := by decide +kernel
theorem dX6_doOrder_132 : decode cX6_doOrder 132 = .ok (.iconst 0, 1) := by decide +kernel
theorem dX6_doOrder_133 : decode cX6_doOrder 133 = .ok (.ireturn, 1) := by decide +kernel
theorem dX6_doOrder_134 : decode cX6_doOrder 134 = .ok (.aload_n 0, 1) := by decide +kernel
theorem dX6_doOrder_135 : decode cX6_doOrder 135 = .ok (.getfield 10, 3) := by decide +kernel
theorem dX6_doOrder_138 : decode cX6_doOrder 138 = .ok (.iload_n 2, 1) := by decide +kernel
theorem dX6_doOrder_139 : decode cX6_doOrder 139 = .ok (.invokevirtual 111, 3) := by decide +kernel
theorem dX6_doOrder_142 : decode cX6_doOrder 142 = .ok (.pop, 1) := by decide +kernel
theorem dX6_doOrder_143 : decode cX6_doOrder 143 = .ok (.iconst 1, 1) := by decide +kernel
theorem dX6_doOrder_144 : decode cX6_doOrder 144 = .ok (.ireturn, 1) := by decide +kernel
theorem dX6_countNumber_0 : decode cX6_countNumber 0 = .ok (.iload_n 1, 1) := by decide +kernel
theorem dX6_countNumber_1 : decode cX6_countNumber 1 = .ok (.bipush 11, 2) := by decide +kernel
theorem dX6_countNumber_3 : decode cX6_countNumber 3 = .ok (.if_icmp .ne 13, 3) := by decide +kernel
theorem dX6_countNumber_6 : decode cX6_countNumber 6 = .ok (.aload_n 0, 1) := by decide +kernel
theorem dX6_countNumber_7 : decode cX6_countNumber 7 = .ok (.getfield 19, 3) := by decide +kernel
theorem dX6_countNumber_10 : decode cX6_countNumber 10 = .ok (.getfield 152, 3) := by decide +kernel
theorem dX6_countNumber_13 : decode cX6_countNumber 13 = .ok (.goto 11, 3) := by decide +kernel
theorem dX6_countNumber_16 : decode cX6_countNumber 16 = .ok (.aload_n 0, 1) := by decide +kernel
theorem dX6_countNumber_17 : decode cX6_countNumber 17 = .ok (.getfield 10, 3) := by decide +kernel
theorem dX6_countNumber_20 : decode cX6_countNumber 20 = .ok (.iload_n 1, 1) := by decide +kernel
theorem dX6_countNumber_21 : decode cX6_countNumber 21 = .ok (.invokevirtual 242, 3) := by decide +kernel
theorem dX6_countNumber_24 : decode cX6_countNumber 24 = .ok (.ireturn, 1) := by decide +kernel
theorem dX6_ballNumber_0 : decode cX6_ballNumber 0 = .ok (.iload_n 2, 1) := by decide +kernel
theorem dX6_ballNumber_1 : decode cX6_ballNumber 1 = .ok (.iconst 1, 1) := by decide +kernel
theorem dX6_ballNumber_2 : decode cX6_ballNumber 2 = .ok (.if_icmp .ne 22, 3) := by decide +kernel
theorem dX6_ballNumber_5 : decode cX6_ballNumber 5 = .ok (.aload_n 0, 1) := by decide +kernel
theorem dX6_ballNumber_6 : decode cX6_ballNumber 6 = .ok (.getfield 10, 3) := by decide +kernel
theorem dX6_ballNumber_9 : decode cX6_ballNumber 9 = .ok (.getfield 68, 3) := by decide +kernel
theorem dX6_ballNumber_12 : decode cX6_ballNumber 12 = .ok (.iload_n 1, 1) := by decide +kernel
theorem dX6_ballNumber_13 : decode cX6_ballNumber 13 = .ok (.aload_n 0, 1) := by decide +kernel
theorem dX6_ballNumber_14 : decode cX6_ballNumber 14 = .ok (.getfield 10, 3) := by decide +kernel
theorem dX6_ballNumber_17 : decode cX6_ballNumber 17 = .ok (.invokevirtual 64, 3) := by decide +kernel
theorem dX6_ballNumber_20 : decode cX6_ballNumber 20 = .ok (.invokevirtual 245, 3) := by decide +kernel
theorem dX6_ballNumber_23 : decode cX6_ballNumber 23 = .ok (.ireturn, 1) := by decide +kernel
theorem dX6_ballNumber_24 : decode cX6_ballNumber 24 = .ok (.aload_n 0, 1) := by decide +kernel
theorem dX6_ballNumber_25 : decode cX6_ballNumber 25 = .ok (.getfield 41, 3) := by decide +kernel
theorem dX6_ballNumber_28 : decode cX6_ballNumber 28 = .ok (.aload_n 0, 1) := by decide +kernel
theorem dX6_ballNumber_29 : decode cX6_ballNumber 29 = .ok (.getfield 10, 3) := by decide +kernel
theorem dX6_ballNumber_32 : decode cX6_ballNumber 32 = .ok (.getfield 68, 3) := by decide +kernel
theorem dX6_ballNumber_35 : decode cX6_ballNumber 35 = .ok (.invokevirtual 248, 3) := by decide +kernel
theorem dX6_ballNumber_38 : decode cX6_ballNumber 38 = .ok (.iconst 0, 1) := by decide +kernel
theorem dX6_ballNumber_39 : decode cX6_ballNumber 39 = .ok (.istore_n 3, 1) := by decide +kernel
theorem dX6_ballNumber_40 : decode cX6_ballNumber 40 = .ok (.iload_n 3, 1) := by decide +kernel
theorem dX6_ballNumber_41 : decode cX6_ballNumber 41 = .ok (.iload_n 1, 1) := by decide +kernel
theorem dX6_ballNumber_42 : decode cX6_ballNumber 42 = .ok (.if_icmp .ge 23, 3) := by decide +kernel
theorem dX6_ballNumber_45 : decode cX6_ballNumber 45 = .ok (.aload_n 0, 1) := by decide +kernel
theorem dX6_ballNumber_46 : decode cX6_ballNumber 46 = .ok (.getfield 41, 3) := by decide +kernel
theorem dX6_ballNumber_49 : decode cX6_ballNumber 49 = .ok (.aload_n 0, 1) := by decide +kernel
theorem dX6_ballNumber_50 : decode cX6_ballNumber 50 = .ok (.getfield 10, 3) := by decide +kernel
theorem dX6_ballNumber_53 : decode cX6_ballNumber 53 = .ok (.invokevirtual 64, 3) := by decide +kernel
theorem dX6_ballNumber_56 : decode cX6_ballNumber 56 = .ok (.invokevirtual 251, 3) := by decide +kernel
theorem dX6_ballNumber_59 : decode cX6_ballNumber 59 = .ok (.iinc 3 1, 3) := by decide +kernel
theorem dX6_ballNumber_62 : decode cX6_ballNumber 62 = .ok (.goto (-22), 3) := by decide +kernel
theorem dX6_ballNumber_65 : decode cX6_ballNumber 65 = .ok (.iload_n 2, 1) := by decide +kernel
theorem dX6_ballNumber_66 : decode cX6_ballNumber 66 = .ok (.ifCond .ne 13, 3) := by decide +kernel
theorem dX6_ballNumber_69 : decode cX6_ballNumber 69 = .ok (.aload_n 0, 1) := by decide +kernel
theorem dX6_ballNumber_70 : decode cX6_ballNumber 70 = .ok (.getfield 41, 3) := by decide +kernel
theorem dX6_ballNumber_73 : decode cX6_ballNumber 73 = .ok (.getfield 71, 3) := by decide +kernel
theorem dX6_ballNumber_76 : decode cX6_ballNumber 76 = .ok (.goto 10, 3) := by decide +kernel
theorem dX6_ballNumber_79 : decode cX6_ballNumber 79 = .ok (.aload_n 0, 1) := by decide +kernel
theorem dX6_ballNumber_80 : decode cX6_ballNumber 80 = .ok (.getfield 41, 3) := by decide +kernel
theorem dX6_ballNumber_83 : decode cX6_ballNumber 83 = .ok (.invokevirtual 254, 3) := by decide +kernel
theorem dX6_ballNumber_86 : decode cX6_ballNumber 86 = .ok (.ireturn, 1) := by decide +kernel
theorem dX6_mixed_0 : decode cX6_mixed 0 = .ok (.ldc2_w 257, 3) := by decide +kernel
theorem dX6_mixed_3 : decode cX6_mixed 3 = .ok (.lload_n 0, 1) := by decide +kernel
theorem dX6_mixed_4 : decode cX6_mixed 4 = .ok (.lmul, 1) := by decide +kernel
theorem dX6_mixed_5 : decode cX6_mixed 5 = .ok (.lload_n 2, 1) := by decide +kernel
theorem dX6_mixed_6 : decode cX6_mixed 6 = .ok (.ladd, 1) := by decide +kernel
theorem dX6_mixed_7 : decode cX6_mixed 7 = .ok (.lreturn, 1) := by decide +kernel
theorem dX6_mixedWithPlayer_0 : decode cX6_mixedWithPlayer 0 = .ok (.lload_n 1, 1) := by decide +kernel
theorem dX6_mixedWithPlayer_1 : decode cX6_mixedWithPlayer 1 = .ok (.lstore 4, 2) := by decide +kernel
theorem dX6_mixedWithPlayer_3 : decode cX6_mixedWithPlayer 3 = .ok (.iconst 0, 1) := by decide +kernel
theorem dX6_mixedWithPlayer_4 : decode cX6_mixedWithPlayer 4 = .ok (.istore 6, 2) := by decide +kernel
theorem dX6_mixedWithPlayer_6 : decode cX6_mixedWithPlayer 6 = .ok (.iload 6, 2) := by decide +kernel
theorem dX6_mixedWithPlayer_8 : decode cX6_mixedWithPlayer 8 = .ok (.bipush 7, 2) := by decide +kernel
theorem dX6_mixedWithPlayer_10 : decode cX6_mixedWithPlayer 10 = .ok (.if_icmp .ge 27, 3) := by decide +kernel
theorem dX6_mixedWithPlayer_13 : decode cX6_mixedWithPlayer 13 = .ok (.lload 4, 2) := by decide +kernel
theorem dX6_mixedWithPlayer_15 : decode cX6_mixedWithPlayer 15 = .ok (.aload_n 0, 1) := by decide +kernel
theorem dX6_mixedWithPlayer_16 : decode cX6_mixedWithPlayer 16 = .ok (.getfield 10, 3) := by decide +kernel
theorem dX6_mixedWithPlayer_19 : decode cX6_mixedWithPlayer 19 = .ok (.iload_n 3, 1) := by decide +kernel
theorem dX6_mixedWithPlayer_20 : decode cX6_mixedWithPlayer 20 = .ok (.iload 6, 2) := by decide +kernel
theorem dX6_mixedWithPlayer_22 : decode cX6_mixedWithPlayer 22 = .ok (.invokevirtual 160, 3) := by decide +kernel
theorem dX6_mixedWithPlayer_25 : decode cX6_mixedWithPlayer 25 = .ok (.i2l, 1) := by decide +kernel
theorem dX6_mixedWithPlayer_26 : decode cX6_mixedWithPlayer 26 = .ok (.invokestatic 203, 3) := by decide +kernel
theorem dX6_mixedWithPlayer_29 : decode cX6_mixedWithPlayer 29 = .ok (.lstore 4, 2) := by decide +kernel
theorem dX6_mixedWithPlayer_31 : decode cX6_mixedWithPlayer 31 = .ok (.iinc 6 1, 3) := by decide +kernel
theorem dX6_mixedWithPlayer_34 : decode cX6_mixedWithPlayer 34 = .ok (.goto (-28), 3) := by decide +kernel
theorem dX6_mixedWithPlayer_37 : decode cX6_mixedWithPlayer 37 = .ok (.iconst 0, 1) := by decide +kernel
theorem dX6_mixedWithPlayer_38 : decode cX6_mixedWithPlayer 38 = .ok (.istore 6, 2) := by decide +kernel
theorem dX6_mixedWithPlayer_40 : decode cX6_mixedWithPlayer 40 = .ok (.iload 6, 2) := by decide +kernel
theorem dX6_mixedWithPlayer_42 : decode cX6_mixedWithPlayer 42 = .ok (.iconst 2, 1) := by decide +kernel
theorem dX6_mixedWithPlayer_43 : decode cX6_mixedWithPlayer 43 = .ok (.if_icmp .ge 63, 3) := by decide +kernel
theorem dX6_mixedWithPlayer_46 : decode cX6_mixedWithPlayer 46 = .ok (.lload 4, 2) := by decide +kernel
theorem dX6_mixedWithPlayer_48 : decode cX6_mixedWithPlayer 48 = .ok (.aload_n 0, 1) := by decide +kernel
theorem dX6_mixedWithPlayer_49 : decode cX6_mixedWithPlayer 49 = .ok (.getfield 10, 3) := by decide +kernel
theorem dX6_mixedWithPlayer_52 : decode cX6_mixedWithPlayer 52 = .ok (.aload_n 0, 1) := by decide +kernel
theorem dX6_mixedWithPlayer_53 : decode cX6_mixedWithPlayer 53 = .ok (.getfield 10, 3) := by decide +kernel
theorem dX6_mixedWithPlayer_56 : decode cX6_mixedWithPlayer 56 = .ok (.getfield 174, 3) := by decide +kernel
theorem dX6_mixedWithPlayer_59 : decode cX6_mixedWithPlayer 59 = .ok (.iload_n 3, 1) := by decide +kernel
theorem dX6_mixedWithPlayer_60 : decode cX6_mixedWithPlayer 60 = .ok (.aaload, 1) := by decide +kernel
theorem dX6_mixedWithPlayer_61 : decode cX6_mixedWithPlayer 61 = .ok (.getfield 178, 3) := by decide +kernel
theorem dX6_mixedWithPlayer_64 : decode cX6_mixedWithPlayer 64 = .ok (.iload 6, 2) := by decide +kernel
theorem dX6_mixedWithPlayer_66 : decode cX6_mixedWithPlayer 66 = .ok (.invokevirtual 181, 3) := by decide +kernel
theorem dX6_mixedWithPlayer_69 : decode cX6_mixedWithPlayer 69 = .ok (.i2l, 1) := by decide +kernel
theorem dX6_mixedWithPlayer_70 : decode cX6_mixedWithPlayer 70 = .ok (.invokestatic 203, 3) := by decide +kernel
theorem dX6_mixedWithPlayer_73 : decode cX6_mixedWithPlayer 73 = .ok (.lstore 4, 2) := by decide +kernel
theorem dX6_mixedWithPlayer_75 : decode cX6_mixedWithPlayer 75 = .ok (.lload 4, 2) := by decide +kernel
theorem dX6_mixedWithPlayer_77 : decode cX6_mixedWithPlayer 77 = .ok (.aload_n 0, 1) := by decide +kernel
theorem dX6_mixedWithPlayer_78 : decode cX6_mixedWithPlayer 78 = .ok (.getfield 10, 3) := by decide +kernel
theorem dX6_mixedWithPlayer_81 : decode cX6_mixedWithPlayer 81 = .ok (.iload_n 3, 1) := by decide +kernel
theorem dX6_mixedWithPlayer_82 : decode cX6_mixedWithPlayer 82 = .ok (.iload 6, 2) := by decide +kernel
theorem dX6_mixedWithPlayer_84 : decode cX6_mixedWithPlayer 84 = .ok (.invokevirtual 184, 3) := by decide +kernel
theorem dX6_mixedWithPlayer_87 : decode cX6_mixedWithPlayer 87 = .ok (.ifCond .eq 7, 3) := by decide +kernel
theorem dX6_mixedWithPlayer_90 : decode cX6_mixedWithPlayer 90 = .ok (.lconst 1, 1) := by decide +kernel
theorem dX6_mixedWithPlayer_91 : decode cX6_mixedWithPlayer 91 = .ok (.goto 4, 3) := by decide +kernel
theorem dX6_mixedWithPlayer_94 : decode cX6_mixedWithPlayer 94 = .ok (.lconst 0, 1) := by decide +kernel
theorem dX6_mixedWithPlayer_95 : decode cX6_mixedWithPlayer 95 = .ok (.invokestatic 203, 3) := by decide +kernel
theorem dX6_mixedWithPlayer_98 : decode cX6_mixedWithPlayer 98 = .ok (.lstore 4, 2) := by decide +kernel
theorem dX6_mixedWithPlayer_100 : decode cX6_mixedWithPlayer 100 = .ok (.iinc 6 1, 3) := by decide +kernel
theorem dX6_mixedWithPlayer_103 : decode cX6_mixedWithPlayer 103 = .ok (.goto (-63), 3) := by decide +kernel
theorem dX6_mixedWithPlayer_106 : decode cX6_mixedWithPlayer 106 = .ok (.lload 4, 2) := by decide +kernel
theorem dX6_mixedWithPlayer_108 : decode cX6_mixedWithPlayer 108 = .ok (.aload_n 0, 1) := by decide +kernel
theorem dX6_mixedWithPlayer_109 : decode cX6_mixedWithPlayer 109 = .ok (.getfield 10, 3) := by decide +kernel
theorem dX6_mixedWithPlayer_112 : decode cX6_mixedWithPlayer 112 = .ok (.iload_n 3, 1) := by decide +kernel
theorem dX6_mixedWithPlayer_113 : decode cX6_mixedWithPlayer 113 = .ok (.invokevirtual 188, 3) := by decide +kernel
theorem dX6_mixedWithPlayer_116 : decode cX6_mixedWithPlayer 116 = .ok (.i2l, 1) := by decide +kernel
theorem dX6_mixedWithPlayer_117 : decode cX6_mixedWithPlayer 117 = .ok (.invokestatic 203, 3) := by decide +kernel
theorem dX6_mixedWithPlayer_120 : decode cX6_mixedWithPlayer 120 = .ok (.lreturn, 1) := by decide +kernel
theorem dX6_mixedWithBall_0 : decode cX6_mixedWithBall 0 = .ok (.lload_n 1, 1) := by decide +kernel
theorem dX6_mixedWithBall_1 : decode cX6_mixedWithBall 1 = .ok (.lstore 4, 2) := by decide +kernel
theorem dX6_mixedWithBall_3 : decode cX6_mixedWithBall 3 = .ok (.iconst 0, 1) := by decide +kernel
theorem dX6_mixedWithBall_4 : decode cX6_mixedWithBall 4 = .ok (.istore 6, 2) := by decide +kernel
theorem dX6_mixedWithBall_6 : decode cX6_mixedWithBall 6 = .ok (.iload 6, 2) := by decide +kernel
theorem dX6_mixedWithBall_8 : decode cX6_mixedWithBall 8 = .ok (.iconst 3, 1) := by decide +kernel
theorem dX6_mixedWithBall_9 : decode cX6_mixedWithBall 9 = .ok (.if_icmp .ge 24, 3) := by decide +kernel
theorem dX6_mixedWithBall_12 : decode cX6_mixedWithBall 12 = .ok (.lload 4, 2) := by decide +kernel
theorem dX6_mixedWithBall_14 : decode cX6_mixedWithBall 14 = .ok (.aload_n 0, 1) := by decide +kernel
theorem dX6_mixedWithBall_15 : decode cX6_mixedWithBall 15 = .ok (.iload_n 3, 1) := by decide +kernel
theorem dX6_mixedWithBall_16 : decode cX6_mixedWithBall 16 = .ok (.iload 6, 2) := by decide +kernel
theorem dX6_mixedWithBall_18 : decode cX6_mixedWithBall 18 = .ok (.invokevirtual 171, 3) := by decide +kernel
theorem dX6_mixedWithBall_21 : decode cX6_mixedWithBall 21 = .ok (.i2l, 1) := by decide +kernel
theorem dX6_mixedWithBall_22 : decode cX6_mixedWithBall 22 = .ok (.invokestatic 203, 3) := by decide +kernel
theorem dX6_mixedWithBall_25 : decode cX6_mixedWithBall 25 = .ok (.lstore 4, 2) := by decide +kernel
theorem dX6_mixedWithBall_27 : decode cX6_mixedWithBall 27 = .ok (.iinc 6 1, 3) := by decide +kernel
theorem dX6_mixedWithBall_30 : decode cX6_mixedWithBall 30 = .ok (.goto (-24), 3) := by decide +kernel
theorem dX6_mixedWithBall_33 : decode cX6_mixedWithBall 33 = .ok (.lload 4, 2) := by decide +kernel
theorem dX6_mixedWithBall_35 : decode cX6_mixedWithBall 35 = .ok (.lreturn, 1) := by decide +kernel
theorem dX6_bitsOf_0 : decode cX6_bitsOf 0 = .ok (.dload_n 0, 1) := by decide +kernel
theorem dX6_bitsOf_1 : decode cX6_bitsOf 1 = .ok (.dconst 0, 1) := by decide +kernel
theorem dX6_bitsOf_2 : decode cX6_bitsOf 2 = .ok (.dcmp .g, 1) := by decide +kernel
theorem dX6_bitsOf_3 : decode cX6_bitsOf 3 = .ok (.ifCond .gt 5, 3) := by decide +kernel
theorem dX6_bitsOf_6 : decode cX6_bitsOf 6 = .ok (.lconst 0, 1) := by decide +kernel
theorem dX6_bitsOf_7 : decode cX6_bitsOf 7 = .ok (.lreturn, 1) := by decide +kernel
theorem dX6_bitsOf_8 : decode cX6_bitsOf 8 = .ok (.dload_n 0, 1) := by decide +kernel
theorem dX6_bitsOf_9 : decode cX6_bitsOf 9 = .ok (.dstore_n 2, 1) := by decide +kernel
theorem dX6_bitsOf_10 : decode cX6_bitsOf 10 = .ok (.sipush 1023, 3) := by decide +kernel
theorem dX6_bitsOf_13 : decode cX6_bitsOf 13 = .ok (.istore 4, 2) := by decide +kernel
theorem dX6_bitsOf_15 : decode cX6_bitsOf 15 = .ok (.dload_n 2, 1) := by decide +kernel
theorem dX6_bitsOf_16 : decode cX6_bitsOf 16 = .ok (.dconst 1, 1) := by decide +kernel
theorem dX6_bitsOf_17 : decode cX6_bitsOf 17 = .ok (.dcmp .g, 1) := by decide +kernel
theorem dX6_bitsOf_18 : decode cX6_bitsOf 18 = .ok (.ifCond .ge 21, 3) := by decide +kernel
theorem dX6_bitsOf_21 : decode cX6_bitsOf 21 = .ok (.iload 4, 2) := by decide +kernel
theorem dX6_bitsOf_23 : decode cX6_bitsOf 23 = .ok (.iconst 1, 1) := by decide +kernel
theorem dX6_bitsOf_24 : decode cX6_bitsOf 24 = .ok (.if_icmp .le 15, 3) := by decide +kernel
theorem dX6_bitsOf_27 : decode cX6_bitsOf 27 = .ok (.dload_n 2, 1) := by decide +kernel
theorem dX6_bitsOf_28 : decode cX6_bitsOf 28 = .ok (.ldc2_w 259, 3) := by decide +kernel
theorem dX6_bitsOf_31 : decode cX6_bitsOf 31 = .ok (.dmul, 1) := by decide +kernel
theorem dX6_bitsOf_32 : decode cX6_bitsOf 32 = .ok (.dstore_n 2, 1) := by decide +kernel
theorem dX6_bitsOf_33 : decode cX6_bitsOf 33 = .ok (.iinc 4 (-1), 3) := by decide +kernel
theorem dX6_bitsOf_36 : decode cX6_bitsOf 36 = .ok (.goto (-21), 3) := by decide +kernel
theorem dX6_bitsOf_39 : decode cX6_bitsOf 39 = .ok (.dload_n 2, 1) := by decide +kernel
theorem dX6_bitsOf_40 : decode cX6_bitsOf 40 = .ok (.dconst 1, 1) := by decide +kernel
theorem dX6_bitsOf_41 : decode cX6_bitsOf 41 = .ok (.dsub, 1) := by decide +kernel
theorem dX6_bitsOf_42 : decode cX6_bitsOf 42 = .ok (.ldc2_w 261, 3) := by decide +kernel
theorem dX6_bitsOf_45 : decode cX6_bitsOf 45 = .ok (.dmul, 1) := by decide +kernel
theorem dX6_bitsOf_46 : decode cX6_bitsOf 46 = .ok (.d2l, 1) := by decide +kernel
theorem dX6_bitsOf_47 : decode cX6_bitsOf 47 = .ok (.lstore 5, 2) := by decide +kernel
theorem dX6_bitsOf_49 : decode cX6_bitsOf 49 = .ok (.iload 4, 2) := by decide +kernel
theorem dX6_bitsOf_51 : decode cX6_bitsOf 51 = .ok (.i2l, 1) := by decide +kernel
theorem dX6_bitsOf_52 : decode cX6_bitsOf 52 = .ok (.bipush 52, 2) := by decide +kernel
theorem dX6_bitsOf_54 : decode cX6_bitsOf 54 = .ok (.lshl, 1) := by decide +kernel
theorem dX6_bitsOf_55 : decode cX6_bitsOf 55 = .ok (.lload 5, 2) := by decide +kernel
theorem dX6_bitsOf_57 : decode cX6_bitsOf 57 = .ok (.lor, 1) := by decide +kernel
theorem dX6_bitsOf_58 : decode cX6_bitsOf 58 = .ok (.lreturn, 1) := by decide +kernel
