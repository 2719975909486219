theorem dX7_init_0 : decode cX7_init 0 = .ok (.aload_n 0, 1) := by decide +kernel
theorem dX7_init_1 : decode cX7_init 1 = .ok (.invokespecial 1, 3) := by decide +kernel
theorem dX7_init_4 : decode cX7_init 4 = .ok (.aload_n 0, 1) := by decide +kernel
theorem dX7_init_5 : decode cX7_init 5 = .ok (.sipush 154, 3) := by decide +kernel
theorem dX7_init_8 : decode cX7_init 8 = .ok (.newarray .int, 2) := by decide +kernel
theorem dX7_init_10 : decode cX7_init 10 = .ok (.putfield 7, 3) := by decide +kernel
theorem dX7_init_13 : decode cX7_init 13 = .ok (.aload_n 0, 1) := by decide +kernel
theorem dX7_init_14 : decode cX7_init 14 = .ok (.sipush 924, 3) := by decide +kernel
theorem dX7_init_17 : decode cX7_init 17 = .ok (.newarray .int, 2) := by decide +kernel
theorem dX7_init_19 : decode cX7_init 19 = .ok (.putfield 13, 3) := by decide +kernel
theorem dX7_init_22 : decode cX7_init 22 = .ok (.aload_n 0, 1) := by decide +kernel
theorem dX7_init_23 : decode cX7_init 23 = .ok (.sipush 308, 3) := by decide +kernel
theorem dX7_init_26 : decode cX7_init 26 = .ok (.newarray .int, 2) := by decide +kernel
theorem dX7_init_28 : decode cX7_init 28 = .ok (.putfield 16, 3) := by decide +kernel
theorem dX7_init_31 : decode cX7_init 31 = .ok (.aload_n 0, 1) := by decide +kernel
theorem dX7_init_32 : decode cX7_init 32 = .ok (.iconst 2, 1) := by decide +kernel
theorem dX7_init_33 : decode cX7_init 33 = .ok (.newarray .int, 2) := by decide +kernel
theorem dX7_init_35 : decode cX7_init 35 = .ok (.putfield 19, 3) := by decide +kernel
theorem dX7_init_38 : decode cX7_init 38 = .ok (.aload_n 0, 1) := by decide +kernel
theorem dX7_init_39 : decode cX7_init 39 = .ok (.bipush 60, 2) := by decide +kernel
theorem dX7_init_41 : decode cX7_init 41 = .ok (.newarray .int, 2) := by decide +kernel
theorem dX7_init_43 : decode cX7_init 43 = .ok (.putfield 22, 3) := by decide +kernel
theorem dX7_init_46 : decode cX7_init 46 = .ok (.aload_n 0, 1) := by decide +kernel
theorem dX7_init_47 : decode cX7_init 47 = .ok (.getfield 7, 3) := by decide +kernel
theorem dX7_init_50 : decode cX7_init 50 = .ok (.iconst 0, 1) := by decide +kernel
theorem dX7_init_51 : decode cX7_init 51 = .ok (.bipush 12, 2) := by decide +kernel
theorem dX7_init_53 : decode cX7_init 53 = .ok (.iastore, 1) := by decide +kernel
theorem dX7_init_54 : decode cX7_init 54 = .ok (.aload_n 0, 1) := by decide +kernel
theorem dX7_init_55 : decode cX7_init 55 = .ok (.getfield 7, 3) := by decide +kernel
theorem dX7_init_58 : decode cX7_init 58 = .ok (.iconst 1, 1) := by decide +kernel
theorem dX7_init_59 : decode cX7_init 59 = .ok (.iconst 3, 1) := by decide +kernel
theorem dX7_init_60 : decode cX7_init 60 = .ok (.iastore, 1) := by decide +kernel
theorem dX7_init_61 : decode cX7_init 61 = .ok (.aload_n 0, 1) := by decide +kernel
theorem dX7_init_62 : decode cX7_init 62 = .ok (.getfield 7, 3) := by decide +kernel
theorem dX7_init_65 : decode cX7_init 65 = .ok (.iconst 2, 1) := by decide +kernel
theorem dX7_init_66 : decode cX7_init 66 = .ok (.iconst 2, 1) := by decide +kernel
theorem dX7_init_67 : decode cX7_init 67 = .ok (.iastore, 1) := by decide +kernel
theorem dX7_init_68 : decode cX7_init 68 = .ok (.aload_n 0, 1) := by decide +kernel
theorem dX7_init_69 : decode cX7_init 69 = .ok (.getfield 7, 3) := by decide +kernel
theorem dX7_init_72 : decode cX7_init 72 = .ok (.iconst 5, 1) := by decide +kernel
theorem dX7_init_73 : decode cX7_init 73 = .ok (.iconst 1, 1) := by decide +kernel
theorem dX7_init_74 : decode cX7_init 74 = .ok (.iastore, 1) := by decide +kernel
theorem dX7_init_75 : decode cX7_init 75 = .ok (.aload_n 0, 1) := by decide +kernel
theorem dX7_init_76 : decode cX7_init 76 = .ok (.getfield 7, 3) := by decide +kernel
theorem dX7_init_79 : decode cX7_init 79 = .ok (.bipush 6, 2) := by decide +kernel
theorem dX7_init_81 : decode cX7_init 81 = .ok (.iconst 1, 1) := by decide +kernel
theorem dX7_init_82 : decode cX7_init 82 = .ok (.iastore, 1) := by decide +kernel
theorem dX7_init_83 : decode cX7_init 83 = .ok (.iconst 0, 1) := by decide +kernel
theorem dX7_init_84 : decode cX7_init 84 = .ok (.istore_n 1, 1) := by decide +kernel
theorem dX7_init_85 : decode cX7_init 85 = .ok (.iload_n 1, 1) := by decide +kernel
theorem dX7_init_86 : decode cX7_init 86 = .ok (.iconst 4, 1) := by decide +kernel
theorem dX7_init_87 : decode cX7_init 87 = .ok (.if_icmp .ge 28, 3) := by decide +kernel
theorem dX7_init_90 : decode cX7_init 90 = .ok (.aload_n 0, 1) := by decide +kernel
theorem dX7_init_91 : decode cX7_init 91 = .ok (.getfield 7, 3) := by decide +kernel
theorem dX7_init_94 : decode cX7_init 94 = .ok (.bipush 10, 2) := by decide +kernel
theorem dX7_init_96 : decode cX7_init 96 = .ok (.bipush 6, 2) := by decide +kernel
theorem dX7_init_98 : decode cX7_init 98 = .ok (.iload_n 1, 1) := by decide +kernel
theorem dX7_init_99 : decode cX7_init 99 = .ok (.imul, 1) := by decide +kernel
theorem dX7_init_100 : decode cX7_init 100 = .ok (.iadd, 1) := by decide +kernel
theorem dX7_init_101 : decode cX7_init 101 = .ok (.iconst 0, 1) := by decide +kernel
theorem dX7_init_102 : decode cX7_init 102 = .ok (.iadd, 1) := by decide +kernel
theorem dX7_init_103 : decode cX7_init 103 = .ok (.iconst 2, 1) := by decide +kernel
theorem dX7_init_104 : decode cX7_init 104 = .ok (.iload_n 1, 1) := by decide +kernel
theorem dX7_init_105 : decode cX7_init 105 = .ok (.imul, 1) := by decide +kernel
theorem dX7_init_106 : decode cX7_init 106 = .ok (.iconst 2, 1) := by decide +kernel
theorem dX7_init_107 : decode cX7_init 107 = .ok (.iadd, 1) := by decide +kernel
theorem dX7_init_108 : decode cX7_init 108 = .ok (.iastore, 1) := by decide +kernel
theorem dX7_init_109 : decode cX7_init 109 = .ok (.iinc 1 1, 3) := by decide +kernel
theorem dX7_init_112 : decode cX7_init 112 = .ok (.goto (-27), 3) := by decide +kernel
theorem dX7_init_115 : decode cX7_init 115 = .ok (.return_, 1) := by decide +kernel
theorem dX7_thrown_0 : decode cX7_thrown 0 = .ok (.aload_n 0, 1) := by decide +kernel
theorem dX7_thrown_1 : decode cX7_thrown 1 = .ok (.getfield 25, 3) := by decide +kernel
theorem dX7_thrown_4 : decode cX7_thrown 4 = .ok (.ireturn, 1) := by decide +kernel
theorem dX7_fails_0 : decode cX7_fails 0 = .ok (.aload_n 0, 1) := by decide +kernel
theorem dX7_fails_1 : decode cX7_fails 1 = .ok (.iload_n 1, 1) := by decide +kernel
theorem dX7_fails_2 : decode cX7_fails 2 = .ok (.putfield 25, 3) := by decide +kernel
theorem dX7_fails_5 : decode cX7_fails 5 = .ok (.iconst 0, 1) := by decide +kernel
theorem dX7_fails_6 : decode cX7_fails 6 = .ok (.ireturn, 1) := by decide +kernel
theorem dX7_within_0 : decode cX7_within 0 = .ok (.iload_n 0, 1) := by decide +kernel
theorem dX7_within_1 : decode cX7_within 1 = .ok (.iload_n 1, 1) := by decide +kernel
theorem dX7_within_2 : decode cX7_within 2 = .ok (.if_icmp .lt 12, 3) := by decide +kernel
theorem dX7_within_5 : decode cX7_within 5 = .ok (.iload_n 0, 1) := by decide +kernel
theorem dX7_within_6 : decode cX7_within 6 = .ok (.iload_n 2, 1) := by decide +kernel
theorem dX7_within_7 : decode cX7_within 7 = .ok (.if_icmp .gt 7, 3) := by decide +kernel
theorem dX7_within_10 : decode cX7_within 10 = .ok (.iconst 1, 1) := by decide +kernel
theorem dX7_within_11 : decode cX7_within 11 = .ok (.goto 4, 3) := by decide +kernel
theorem dX7_within_14 : decode cX7_within 14 = .ok (.iconst 0, 1) := by decide +kernel
theorem dX7_within_15 : decode cX7_within 15 = .ok (.ireturn, 1) := by decide +kernel
theorem dX7_isPlayer_0 : decode cX7_isPlayer 0 = .ok (.iload_n 0, 1) := by decide +kernel
theorem dX7_isPlayer_1 : decode cX7_isPlayer 1 = .ok (.iconst 0, 1) := by decide +kernel
theorem dX7_isPlayer_2 : decode cX7_isPlayer 2 = .ok (.iconst 3, 1) := by decide +kernel
theorem dX7_isPlayer_3 : decode cX7_isPlayer 3 = .ok (.invokestatic 29, 3) := by decide +kernel
theorem dX7_isPlayer_6 : decode cX7_isPlayer 6 = .ok (.ireturn, 1) := by decide +kernel
theorem dX7_ofPlayer_0 : decode cX7_ofPlayer 0 = .ok (.aload_n 0, 1) := by decide +kernel
theorem dX7_ofPlayer_1 : decode cX7_ofPlayer 1 = .ok (.getfield 7, 3) := by decide +kernel
theorem dX7_ofPlayer_4 : decode cX7_ofPlayer 4 = .ok (.bipush 10, 2) := by decide +kernel
theorem dX7_ofPlayer_6 : decode cX7_ofPlayer 6 = .ok (.bipush 6, 2) := by decide +kernel
theorem dX7_ofPlayer_8 : decode cX7_ofPlayer 8 = .ok (.iload_n 1, 1) := by decide +kernel
theorem dX7_ofPlayer_9 : decode cX7_ofPlayer 9 = .ok (.imul, 1) := by decide +kernel
theorem dX7_ofPlayer_10 : decode cX7_ofPlayer 10 = .ok (.iadd, 1) := by decide +kernel
theorem dX7_ofPlayer_11 : decode cX7_ofPlayer 11 = .ok (.iload_n 2, 1) := by decide +kernel
theorem dX7_ofPlayer_12 : decode cX7_ofPlayer 12 = .ok (.iadd, 1) := by decide +kernel
theorem dX7_ofPlayer_13 : decode cX7_ofPlayer 13 = .ok (.iaload, 1) := by decide +kernel
theorem dX7_ofPlayer_14 : decode cX7_ofPlayer 14 = .ok (.ireturn, 1) := by decide +kernel
theorem dX7_ofEcho_0 : decode cX7_ofEcho 0 = .ok (.aload_n 0, 1) := by decide +kernel
theorem dX7_ofEcho_1 : decode cX7_ofEcho 1 = .ok (.getfield 7, 3) := by decide +kernel
theorem dX7_ofEcho_4 : decode cX7_ofEcho 4 = .ok (.bipush 34, 2) := by decide +kernel
theorem dX7_ofEcho_6 : decode cX7_ofEcho 6 = .ok (.iconst 5, 1) := by decide +kernel
theorem dX7_ofEcho_7 : decode cX7_ofEcho 7 = .ok (.iload_n 1, 1) := by decide +kernel
theorem dX7_ofEcho_8 : decode cX7_ofEcho 8 = .ok (.imul, 1) := by decide +kernel
theorem dX7_ofEcho_9 : decode cX7_ofEcho 9 = .ok (.iadd, 1) := by decide +kernel
theorem dX7_ofEcho_10 : decode cX7_ofEcho 10 = .ok (.iload_n 2, 1) := by decide +kernel
theorem dX7_ofEcho_11 : decode cX7_ofEcho 11 = .ok (.iadd, 1) := by decide +kernel
theorem dX7_ofEcho_12 : decode cX7_ofEcho 12 = .ok (.iaload, 1) := by decide +kernel
theorem dX7_ofEcho_13 : decode cX7_ofEcho 13 = .ok (.ireturn, 1) := by decide +kernel
theorem dX7_sum_0 : decode cX7_sum 0 = .ok (.iconst 0, 1) := by decide +kernel
theorem dX7_sum_1 : decode cX7_sum 1 = .ok (.istore_n 2, 1) := by decide +kernel
theorem dX7_sum_2 : decode cX7_sum 2 = .ok (.iconst 0, 1) := by decide +kernel
theorem dX7_sum_3 : decode cX7_sum 3 = .ok (.istore_n 3, 1) := by decide +kernel
theorem dX7_sum_4 : decode cX7_sum 4 = .ok (.iload_n 3, 1) := by decide +kernel
theorem dX7_sum_5 : decode cX7_sum 5 = .ok (.iconst 4, 1) := by decide +kernel
theorem dX7_sum_6 : decode cX7_sum 6 = .ok (.if_icmp .ge 18, 3) := by decide +kernel
theorem dX7_sum_9 : decode cX7_sum 9 = .ok (.iload_n 2, 1) := by decide +kernel
theorem dX7_sum_10 : decode cX7_sum 10 = .ok (.aload_n 0, 1) := by decide +kernel
theorem dX7_sum_11 : decode cX7_sum 11 = .ok (.iload_n 3, 1) := by decide +kernel
theorem dX7_sum_12 : decode cX7_sum 12 = .ok (.iload_n 1, 1) := by decide +kernel
theorem dX7_sum_13 : decode cX7_sum 13 = .ok (.invokevirtual 33, 3) := by decide +kernel
theorem dX7_sum_16 : decode cX7_sum 16 = .ok (.iadd, 1) := by decide +kernel
theorem dX7_sum_17 : decode cX7_sum 17 = .ok (.istore_n 2, 1) := by decide +kernel
theorem dX7_sum_18 : decode cX7_sum 18 = .ok (.iinc 3 1, 3) := by decide +kernel
theorem dX7_sum_21 : decode cX7_sum 21 = .ok (.goto (-17), 3) := by decide +kernel
theorem dX7_sum_24 : decode cX7_sum 24 = .ok (.iload_n 2, 1) := by decide +kernel
theorem dX7_sum_25 : decode cX7_sum 25 = .ok (.ireturn, 1) := by decide +kernel
theorem dX7_save_0 : decode cX7_save 0 = .ok (.aload_n 0, 1) := by decide +kernel
theorem dX7_save_1 : decode cX7_save 1 = .ok (.getfield 37, 3) := by decide +kernel
theorem dX7_save_4 : decode cX7_save 4 = .ok (.bipush 6, 2) := by decide +kernel
theorem dX7_save_6 : decode cX7_save 6 = .ok (.if_icmp .ne 44, 3) := by decide +kernel
theorem dX7_save_9 : decode cX7_save 9 = .ok (.iconst 0, 1) := by decide +kernel
theorem dX7_save_10 : decode cX7_save 10 = .ok (.istore_n 1, 1) := by decide +kernel
theorem dX7_save_11 : decode cX7_save 11 = .ok (.iload_n 1, 1) := by decide +kernel
theorem dX7_save_12 : decode cX7_save 12 = .ok (.sipush 770, 3) := by decide +kernel
theorem dX7_save_15 : decode cX7_save 15 = .ok (.if_icmp .ge 25, 3) := by decide +kernel
theorem dX7_save_18 : decode cX7_save 18 = .ok (.aload_n 0, 1) := by decide +kernel
theorem dX7_save_19 : decode cX7_save 19 = .ok (.getfield 13, 3) := by decide +kernel
theorem dX7_save_22 : decode cX7_save 22 = .ok (.iload_n 1, 1) := by decide +kernel
theorem dX7_save_23 : decode cX7_save 23 = .ok (.aload_n 0, 1) := by decide +kernel
theorem dX7_save_24 : decode cX7_save 24 = .ok (.getfield 13, 3) := by decide +kernel
theorem dX7_save_27 : decode cX7_save 27 = .ok (.iload_n 1, 1) := by decide +kernel
theorem dX7_save_28 : decode cX7_save 28 = .ok (.sipush 154, 3) := by decide +kernel
theorem dX7_save_31 : decode cX7_save 31 = .ok (.iadd, 1) := by decide +kernel
theorem dX7_save_32 : decode cX7_save 32 = .ok (.iaload, 1) := by decide +kernel
theorem dX7_save_33 : decode cX7_save 33 = .ok (.iastore, 1) := by decide +kernel
theorem dX7_save_34 : decode cX7_save 34 = .ok (.iinc 1 1, 3) := by decide +kernel
theorem dX7_save_37 : decode cX7_save 37 = .ok (.goto (-26), 3) := by decide +kernel
theorem dX7_save_40 : decode cX7_save 40 = .ok (.aload_n 0, 1) := by decide +kernel
theorem dX7_save_41 : decode cX7_save 41 = .ok (.dup, 1) := by decide +kernel
theorem dX7_save_42 : decode cX7_save 42 = .ok (.getfield 37, 3) := by decide +kernel
theorem dX7_save_45 : decode cX7_save 45 = .ok (.iconst 1, 1) := by decide +kernel
theorem dX7_save_46 : decode cX7_save 46 = .ok (.isub, 1) := by decide +kernel
theorem dX7_save_47 : decode cX7_save 47 = .ok (.putfield 37, 3) := by decide +kernel
theorem dX7_save_50 : decode cX7_save 50 = .ok (.iconst 0, 1) := by decide +kernel
theorem dX7_save_51 : decode cX7_save 51 = .ok (.istore_n 1, 1) := by decide +kernel
theorem dX7_save_52 : decode cX7_save 52 = .ok (.iload_n 1, 1) := by decide +kernel
theorem dX7_save_53 : decode cX7_save 53 = .ok (.sipush 154, 3) := by decide +kernel
theorem dX7_save_56 : decode cX7_save 56 = .ok (.if_icmp .ge 30, 3) := by decide +kernel
theorem dX7_save_59 : decode cX7_save 59 = .ok (.aload_n 0, 1) := by decide +kernel
theorem dX7_save_60 : decode cX7_save 60 = .ok (.getfield 13, 3) := by decide +kernel
theorem dX7_save_63 : decode cX7_save 63 = .ok (.aload_n 0, 1) := by decide +kernel
theorem dX7_save_64 : decode cX7_save 64 = .ok (.getfield 37, 3) := by decide +kernel
theorem dX7_save_67 : decode cX7_save 67 = .ok (.sipush 154, 3) := by decide +kernel
theorem dX7_save_70 : decode cX7_save 70 = .ok (.imul, 1) := by decide +kernel
theorem dX7_save_71 : decode cX7_save 71 = .ok (.iload_n 1, 1) := by decide +kernel
theorem dX7_save_72 : decode cX7_save 72 = .ok (.iadd, 1) := by decide +kernel
theorem dX7_save_73 : decode cX7_save 73 = .ok (.aload_n 0, 1) := by decide +kernel
theorem dX7_save_74 : decode cX7_save 74 = .ok (.getfield 7, 3) := by decide +kernel
theorem dX7_save_77 : decode cX7_save 77 = .ok (.iload_n 1, 1) := by decide +kernel
theorem dX7_save_78 : decode cX7_save 78 = .ok (.iaload, 1) := by decide +kernel
theorem dX7_save_79 : decode cX7_save 79 = .ok (.iastore, 1) := by decide +kernel
theorem dX7_save_80 : decode cX7_save 80 = .ok (.iinc 1 1, 3) := by decide +kernel
theorem dX7_save_83 : decode cX7_save 83 = .ok (.goto (-31), 3) := by decide +kernel
theorem dX7_save_86 : decode cX7_save 86 = .ok (.aload_n 0, 1) := by decide +kernel
theorem dX7_save_87 : decode cX7_save 87 = .ok (.dup, 1) := by decide +kernel
theorem dX7_save_88 : decode cX7_save 88 = .ok (.getfield 37, 3) := by decide +kernel
theorem dX7_save_91 : decode cX7_save 91 = .ok (.iconst 1, 1) := by decide +kernel
theorem dX7_save_92 : decode cX7_save 92 = .ok (.iadd, 1) := by decide +kernel
theorem dX7_save_93 : decode cX7_save 93 = .ok (.putfield 37, 3) := by decide +kernel
theorem dX7_save_96 : decode cX7_save 96 = .ok (.return_, 1) := by decide +kernel
theorem dX7_undo_0 : decode cX7_undo 0 = .ok (.aload_n 0, 1) := by decide +kernel
theorem dX7_undo_1 : decode cX7_undo 1 = .ok (.iconst 0, 1) := by decide +kernel
theorem dX7_undo_2 : decode cX7_undo 2 = .ok (.putfield 25, 3) := by decide +kernel
theorem dX7_undo_5 : decode cX7_undo 5 = .ok (.aload_n 0, 1) := by decide +kernel
theorem dX7_undo_6 : decode cX7_undo 6 = .ok (.getfield 37, 3) := by decide +kernel
theorem dX7_undo_9 : decode cX7_undo 9 = .ok (.ifCond .ne 9, 3) := by decide +kernel
theorem dX7_undo_12 : decode cX7_undo 12 = .ok (.aload_n 0, 1) := by decide +kernel
theorem dX7_undo_13 : decode cX7_undo 13 = .ok (.iconst 1, 1) := by decide +kernel
theorem dX7_undo_14 : decode cX7_undo 14 = .ok (.invokevirtual 40, 3) := by decide +kernel
theorem dX7_undo_17 : decode cX7_undo 17 = .ok (.ireturn, 1) := by decide +kernel
theorem dX7_undo_18 : decode cX7_undo 18 = .ok (.aload_n 0, 1) := by decide +kernel
theorem dX7_undo_19 : decode cX7_undo 19 = .ok (.dup, 1) := by decide +kernel
theorem dX7_undo_20 : decode cX7_undo 20 = .ok (.getfield 37, 3) := by decide +kernel
theorem dX7_undo_23 : decode cX7_undo 23 = .ok (.iconst 1, 1) := by decide +kernel
theorem dX7_undo_24 : decode cX7_undo 24 = .ok (.isub, 1) := by decide +kernel
theorem dX7_undo_25 : decode cX7_undo 25 = .ok (.putfield 37, 3) := by decide +kernel
theorem dX7_undo_28 : decode cX7_undo 28 = .ok (.iconst 0, 1) := by decide +kernel
theorem dX7_undo_29 : decode cX7_undo 29 = .ok (.istore_n 1, 1) := by decide +kernel
theorem dX7_undo_30 : decode cX7_undo 30 = .ok (.iload_n 1, 1) := by decide +kernel
theorem dX7_undo_31 : decode cX7_undo 31 = .ok (.sipush 154, 3) := by decide +kernel
theorem dX7_undo_34 : decode cX7_undo 34 = .ok (.if_icmp .ge 30, 3) := by decide +kernel
theorem dX7_undo_37 : decode cX7_undo 37 = .ok (.aload_n 0, 1) := by decide +kernel
theorem dX7_undo_38 : decode cX7_undo 38 = .ok (.getfield 7, 3) := by decide +kernel
theorem dX7_undo_41 : decode cX7_undo 41 = .ok (.iload_n 1, 1) := by decide +kernel
theorem dX7_undo_42 : decode cX7_undo 42 = .ok (.aload_n 0, 1) := by decide +kernel
theorem dX7_undo_43 : decode cX7_undo 43 = .ok (.getfield 13, 3) := by decide +kernel
theorem dX7_undo_46 : decode cX7_undo 46 = .ok (.aload_n 0, 1) := by decide +kernel
theorem dX7_undo_47 : decode cX7_undo 47 = .ok (.getfield 37, 3) := by decide +kernel
theorem dX7_undo_50 : decode cX7_undo 50 = .ok (.sipush 154, 3) := by decide +kernel
theorem dX7_undo_53 : decode cX7_undo 53 = .ok (.imul, 1) := by decide +kernel
theorem dX7_undo_54 : decode cX7_undo 54 = .ok (.iload_n 1, 1) := by decide +kernel
theorem dX7_undo_55 : decode cX7_undo 55 = .ok (.iadd, 1) := by decide +kernel
theorem dX7_undo_56 : decode cX7_undo 56 = .ok (.iaload, 1) := by decide +kernel
theorem dX7_undo_57 : decode cX7_undo 57 = .ok (.iastore, 1) := by decide +kernel
theorem dX7_undo_58 : decode cX7_undo 58 = .ok (.iinc 1 1, 3) := by decide +kernel
theorem dX7_undo_61 : decode cX7_undo 61 = .ok (.goto (-31), 3) := by decide +kernel
theorem dX7_undo_64 : decode cX7_undo 64 = .ok (.aload_n 0, 1) := by decide +kernel
theorem dX7_undo_65 : decode cX7_undo 65 = .ok (.getfield 37, 3) := by decide +kernel
theorem dX7_undo_68 : decode cX7_undo 68 = .ok (.ireturn, 1) := by decide +kernel
theorem dX7_keep_0 : decode cX7_keep 0 = .ok (.aload_n 0, 1) := by decide +kernel
theorem dX7_keep_1 : decode cX7_keep 1 = .ok (.iconst 0, 1) := by decide +kernel
theorem dX7_keep_2 : decode cX7_keep 2 = .ok (.putfield 25, 3) := by decide +kernel
theorem dX7_keep_5 : decode cX7_keep 5 = .ok (.iload_n 1, 1) := by decide +kernel
theorem dX7_keep_6 : decode cX7_keep 6 = .ok (.iconst 0, 1) := by decide +kernel
theorem dX7_keep_7 : decode cX7_keep 7 = .ok (.iconst 1, 1) := by decide +kernel
theorem dX7_keep_8 : decode cX7_keep 8 = .ok (.invokestatic 29, 3) := by decide +kernel
theorem dX7_keep_11 : decode cX7_keep 11 = .ok (.ifCond .ne 9, 3) := by decide +kernel
theorem dX7_keep_14 : decode cX7_keep 14 = .ok (.aload_n 0, 1) := by decide +kernel
theorem dX7_keep_15 : decode cX7_keep 15 = .ok (.iconst 1, 1) := by decide +kernel
theorem dX7_keep_16 : decode cX7_keep 16 = .ok (.invokevirtual 40, 3) := by decide +kernel
theorem dX7_keep_19 : decode cX7_keep 19 = .ok (.ireturn, 1) := by decide +kernel
theorem dX7_keep_20 : decode cX7_keep 20 = .ok (.iconst 0, 1) := by decide +kernel
theorem dX7_keep_21 : decode cX7_keep 21 = .ok (.istore_n 2, 1) := by decide +kernel
theorem dX7_keep_22 : decode cX7_keep 22 = .ok (.iload_n 2, 1) := by decide +kernel
theorem dX7_keep_23 : decode cX7_keep 23 = .ok (.sipush 154, 3) := by decide +kernel
theorem dX7_keep_26 : decode cX7_keep 26 = .ok (.if_icmp .ge 27, 3) := by decide +kernel
theorem dX7_keep_29 : decode cX7_keep 29 = .ok (.aload_n 0, 1) := by decide +kernel
theorem dX7_keep_30 : decode cX7_keep 30 = .ok (.getfield 16, 3) := by decide +kernel
theorem dX7_keep_33 : decode cX7_keep 33 = .ok (.sipush 154, 3) := by decide +kernel
theorem dX7_keep_36 : decode cX7_keep 36 = .ok (.iload_n 1, 1) := by decide +kernel
theorem dX7_keep_37 : decode cX7_keep 37 = .ok (.imul, 1) := by decide +kernel
theorem dX7_keep_38 : decode cX7_keep 38 = .ok (.iload_n 2, 1) := by decide +kernel
theorem dX7_keep_39 : decode cX7_keep 39 = .ok (.iadd, 1) := by decide +kernel
theorem dX7_keep_40 : decode cX7_keep 40 = .ok (.aload_n 0, 1) := by decide +kernel
theorem dX7_keep_41 : decode cX7_keep 41 = .ok (.getfield 7, 3) := by decide +kernel
theorem dX7_keep_44 : decode cX7_keep 44 = .ok (.iload_n 2, 1) := by decide +kernel
theorem dX7_keep_45 : decode cX7_keep 45 = .ok (.iaload, 1) := by decide +kernel
theorem dX7_keep_46 : decode cX7_keep 46 = .ok (.iastore, 1) := by decide +kernel
theorem dX7_keep_47 : decode cX7_keep 47 = .ok (.iinc 2 1, 3) := by decide +kernel
theorem dX7_keep_50 : decode cX7_keep 50 = .ok (.goto (-28), 3) := by decide +kernel
theorem dX7_keep_53 : decode cX7_keep 53 = .ok (.aload_n 0, 1) := by decide +kernel
theorem dX7_keep_54 : decode cX7_keep 54 = .ok (.getfield 19, 3) := by decide +kernel
theorem dX7_keep_57 : decode cX7_keep 57 = .ok (.iload_n 1, 1) := by decide +kernel
theorem dX7_keep_58 : decode cX7_keep 58 = .ok (.iconst 1, 1) := by decide +kernel
theorem dX7_keep_59 : decode cX7_keep 59 = .ok (.iastore, 1) := by decide +kernel
theorem dX7_keep_60 : decode cX7_keep 60 = .ok (.aload_n 0, 1) := by decide +kernel
theorem dX7_keep_61 : decode cX7_keep 61 = .ok (.getfield 7, 3) := by decide +kernel
theorem dX7_keep_64 : decode cX7_keep 64 = .ok (.iconst 3, 1) := by decide +kernel
theorem dX7_keep_65 : decode cX7_keep 65 = .ok (.iaload, 1) := by decide +kernel
theorem dX7_keep_66 : decode cX7_keep 66 = .ok (.ireturn, 1) := by decide +kernel
theorem dX7_goBack_0 : decode cX7_goBack 0 = .ok (.aload_n 0, 1) := by decide +kernel
theorem dX7_goBack_1 : decode cX7_goBack 1 = .ok (.iconst 0, 1) := by decide +kernel
theorem dX7_goBack_2 : decode cX7_goBack 2 = .ok (.putfield 25, 3) := by decide +kernel
theorem dX7_goBack_5 : decode cX7_goBack 5 = .ok (.iload_n 1, 1) := by decide +kernel
theorem dX7_goBack_6 : decode cX7_goBack 6 = .ok (.iconst 0, 1) := by decide +kernel
theorem dX7_goBack_7 : decode cX7_goBack 7 = .ok (.iconst 1, 1) := by decide +kernel
theorem dX7_goBack_8 : decode cX7_goBack 8 = .ok (.invokestatic 29, 3) := by decide +kernel
theorem dX7_goBack_11 : decode cX7_goBack 11 = .ok (.ifCond .ne 9, 3) := by decide +kernel
theorem dX7_goBack_14 : decode cX7_goBack 14 = .ok (.aload_n 0, 1) := by decide +kernel
theorem dX7_goBack_15 : decode cX7_goBack 15 = .ok (.iconst 1, 1) := by decide +kernel
theorem dX7_goBack_16 : decode cX7_goBack 16 = .ok (.invokevirtual 40, 3) := by decide +kernel
theorem dX7_goBack_19 : decode cX7_goBack 19 = .ok (.ireturn, 1) := by decide +kernel
theorem dX7_goBack_20 : decode cX7_goBack 20 = .ok (.aload_n 0, 1) := by decide +kernel
theorem dX7_goBack_21 : decode cX7_goBack 21 = .ok (.getfield 19, 3) := by decide +kernel
theorem dX7_goBack_24 : decode cX7_goBack 24 = .ok (.iload_n 1, 1) := by decide +kernel
theorem dX7_goBack_25 : decode cX7_goBack 25 = .ok (.iaload, 1) := by decide +kernel
theorem dX7_goBack_26 : decode cX7_goBack 26 = .ok (.ifCond .ne 9, 3) := by decide +kernel
theorem dX7_goBack_29 : decode cX7_goBack 29 = .ok (.aload_n 0, 1) := by decide +kernel
theorem dX7_goBack_30 : decode cX7_goBack 30 = .ok (.iconst 2, 1) := by decide +kernel
theorem dX7_goBack_31 : decode cX7_goBack 31 = .ok (.invokevirtual 40, 3) := by decide +kernel
theorem dX7_goBack_34 : decode cX7_goBack 34 = .ok (.ireturn, 1) := by decide +kernel
theorem dX7_goBack_35 : decode cX7_goBack 35 = .ok (.aload_n 0, 1) := by decide +kernel
theorem dX7_goBack_36 : decode cX7_goBack 36 = .ok (.invokevirtual 44, 3) := by decide +kernel
theorem dX7_goBack_39 : decode cX7_goBack 39 = .ok (.iconst 0, 1) := by decide +kernel
theorem dX7_goBack_40 : decode cX7_goBack 40 = .ok (.istore_n 2, 1) := by decide +kernel
theorem dX7_goBack_41 : decode cX7_goBack 41 = .ok (.iload_n 2, 1) := by decide +kernel
theorem dX7_goBack_42 : decode cX7_goBack 42 = .ok (.sipush 154, 3) := by decide +kernel
theorem dX7_goBack_45 : decode cX7_goBack 45 = .ok (.if_icmp .ge 27, 3) := by decide +kernel
theorem dX7_goBack_48 : decode cX7_goBack 48 = .ok (.aload_n 0, 1) := by decide +kernel
theorem dX7_goBack_49 : decode cX7_goBack 49 = .ok (.getfield 7, 3) := by decide +kernel
theorem dX7_goBack_52 : decode cX7_goBack 52 = .ok (.iload_n 2, 1) := by decide +kernel
theorem dX7_goBack_53 : decode cX7_goBack 53 = .ok (.aload_n 0, 1) := by decide +kernel
theorem dX7_goBack_54 : decode cX7_goBack 54 = .ok (.getfield 16, 3) := by decide +kernel
theorem dX7_goBack_57 : decode cX7_goBack 57 = .ok (.sipush 154, 3) := by decide +kernel
theorem dX7_goBack_60 : decode cX7_goBack 60 = .ok (.iload_n 1, 1) := by decide +kernel
theorem dX7_goBack_61 : decode cX7_goBack 61 = .ok (.imul, 1) := by decide +kernel
theorem dX7_goBack_62 : decode cX7_goBack 62 = .ok (.iload_n 2, 1) := by decide +kernel
theorem dX7_goBack_63 : decode cX7_goBack 63 = .ok (.iadd, 1) := by decide +kernel
theorem dX7_goBack_64 : decode cX7_goBack 64 = .ok (.iaload, 1) := by decide +kernel
theorem dX7_goBack_65 : decode cX7_goBack 65 = .ok (.iastore, 1) := by decide +kernel
theorem dX7_goBack_66 : decode cX7_goBack 66 = .ok (.iinc 2 1, 3) := by decide +kernel
theorem dX7_goBack_69 : decode cX7_goBack 69 = .ok (.goto (-28), 3) := by decide +kernel
theorem dX7_goBack_72 : decode cX7_goBack 72 = .ok (.aload_n 0, 1) := by decide +kernel
theorem dX7_goBack_73 : decode cX7_goBack 73 = .ok (.getfield 7, 3) := by decide +kernel
theorem dX7_goBack_76 : decode cX7_goBack 76 = .ok (.iconst 3, 1) := by decide +kernel
theorem dX7_goBack_77 : decode cX7_goBack 77 = .ok (.iaload, 1) := by decide +kernel
theorem dX7_goBack_78 : decode cX7_goBack 78 = .ok (.ireturn, 1) := by decide +kernel
theorem dX7_takeBall_0 : decode cX7_takeBall 0 = .ok (.aload_n 0, 1) := by decide +kernel
theorem dX7_takeBall_1 : decode cX7_takeBall 1 = .ok (.aload_n 0, 1) := by decide +kernel
theorem dX7_takeBall_2 : decode cX7_takeBall 2 = .ok (.getfield 7, 3) := by decide +kernel
theorem dX7_takeBall_5 : decode cX7_takeBall 5 = .ok (.iconst 4, 1) := by decide +kernel
theorem dX7_takeBall_6 : decode cX7_takeBall 6 = .ok (.iaload, 1) := by decide +kernel
theorem dX7_takeBall_7 : decode cX7_takeBall 7 = .ok (.putfield 47, 3) := by decide +kernel
theorem dX7_takeBall_10 : decode cX7_takeBall 10 = .ok (.aload_n 0, 1) := by decide +kernel
theorem dX7_takeBall_11 : decode cX7_takeBall 11 = .ok (.aload_n 0, 1) := by decide +kernel
theorem dX7_takeBall_12 : decode cX7_takeBall 12 = .ok (.getfield 7, 3) := by decide +kernel
theorem dX7_takeBall_15 : decode cX7_takeBall 15 = .ok (.bipush 6, 2) := by decide +kernel
theorem dX7_takeBall_17 : decode cX7_takeBall 17 = .ok (.iaload, 1) := by decide +kernel
theorem dX7_takeBall_18 : decode cX7_takeBall 18 = .ok (.iconst 1, 1) := by decide +kernel
theorem dX7_takeBall_19 : decode cX7_takeBall 19 = .ok (.if_icmp .ne 7, 3) := by decide +kernel
theorem dX7_takeBall_22 : decode cX7_takeBall 22 = .ok (.iconst 1, 1) := by decide +kernel
theorem dX7_takeBall_23 : decode cX7_takeBall 23 = .ok (.goto 4, 3) := by decide +kernel
theorem dX7_takeBall_26 : decode cX7_takeBall 26 = .ok (.iconst 0, 1) := by decide +kernel
theorem dX7_takeBall_27 : decode cX7_takeBall 27 = .ok (.putfield 50, 3) := by decide +kernel
theorem dX7_takeBall_30 : decode cX7_takeBall 30 = .ok (.return_, 1) := by decide +kernel
theorem dX7_moveBall_0 : decode cX7_moveBall 0 = .ok (.iconst 0, 1) := by decide +kernel
theorem dX7_moveBall_1 : decode cX7_moveBall 1 = .ok (.istore_n 2, 1) := by decide +kernel
theorem dX7_moveBall_2 : decode cX7_moveBall 2 = .ok (.iload_n 2, 1) := by decide +kernel
theorem dX7_moveBall_3 : decode cX7_moveBall 3 = .ok (.iload_n 1, 1) := by decide +kernel
theorem dX7_moveBall_4 : decode cX7_moveBall 4 = .ok (.if_icmp .ge 74, 3) := by decide +kernel
theorem dX7_moveBall_7 : decode cX7_moveBall 7 = .ok (.aload_n 0, 1) := by decide +kernel
theorem dX7_moveBall_8 : decode cX7_moveBall 8 = .ok (.aload_n 0, 1) := by decide +kernel
theorem dX7_moveBall_9 : decode cX7_moveBall 9 = .ok (.getfield 50, 3) := by decide +kernel
theorem dX7_moveBall_12 : decode cX7_moveBall 12 = .ok (.ifCond .eq 24, 3) := by decide +kernel
theorem dX7_moveBall_15 : decode cX7_moveBall 15 = .ok (.aload_n 0, 1) := by decide +kernel
theorem dX7_moveBall_16 : decode cX7_moveBall 16 = .ok (.getfield 47, 3) := by decide +kernel
theorem dX7_moveBall_19 : decode cX7_moveBall 19 = .ok (.aload_n 0, 1) := by decide +kernel
theorem dX7_moveBall_20 : decode cX7_moveBall 20 = .ok (.getfield 7, 3) := by decide +kernel
theorem dX7_moveBall_23 : decode cX7_moveBall 23 = .ok (.iconst 0, 1) := by decide +kernel
theorem dX7_moveBall_24 : decode cX7_moveBall 24 = .ok (.iaload, 1) := by decide +kernel
theorem dX7_moveBall_25 : decode cX7_moveBall 25 = .ok (.if_icmp .ge 7, 3) := by decide +kernel
theorem dX7_moveBall_28 : decode cX7_moveBall 28 = .ok (.iconst 1, 1) := by decide +kernel
theorem dX7_moveBall_29 : decode cX7_moveBall 29 = .ok (.goto 19, 3) := by decide +kernel
theorem dX7_moveBall_32 : decode cX7_moveBall 32 = .ok (.iconst 0, 1) := by decide +kernel
theorem dX7_moveBall_33 : decode cX7_moveBall 33 = .ok (.goto 15, 3) := by decide +kernel
theorem dX7_moveBall_36 : decode cX7_moveBall 36 = .ok (.aload_n 0, 1) := by decide +kernel
theorem dX7_moveBall_37 : decode cX7_moveBall 37 = .ok (.getfield 47, 3) := by decide +kernel
theorem dX7_moveBall_40 : decode cX7_moveBall 40 = .ok (.ifCond .ne 7, 3) := by decide +kernel
theorem dX7_moveBall_43 : decode cX7_moveBall 43 = .ok (.iconst 1, 1) := by decide +kernel
theorem dX7_moveBall_44 : decode cX7_moveBall 44 = .ok (.goto 4, 3) := by decide +kernel
theorem dX7_moveBall_47 : decode cX7_moveBall 47 = .ok (.iconst 0, 1) := by decide +kernel
theorem dX7_moveBall_48 : decode cX7_moveBall 48 = .ok (.putfield 50, 3) := by decide +kernel
theorem dX7_moveBall_51 : decode cX7_moveBall 51 = .ok (.aload_n 0, 1) := by decide +kernel
theorem dX7_moveBall_52 : decode cX7_moveBall 52 = .ok (.dup, 1) := by decide +kernel
theorem dX7_moveBall_53 : decode cX7_moveBall 53 = .ok (.getfield 47, 3) := by decide +kernel
theorem dX7_moveBall_56 : decode cX7_moveBall 56 = .ok (.aload_n 0, 1) := by decide +kernel
theorem dX7_moveBall_57 : decode cX7_moveBall 57 = .ok (.getfield 50, 3) := by decide +kernel
theorem dX7_moveBall_60 : decode cX7_moveBall 60 = .ok (.ifCond .eq 7, 3) := by decide +kernel
theorem dX7_moveBall_63 : decode cX7_moveBall 63 = .ok (.iconst 1, 1) := by decide +kernel
theorem dX7_moveBall_64 : decode cX7_moveBall 64 = .ok (.goto 4, 3) := by decide +kernel
theorem dX7_moveBall_67 : decode cX7_moveBall 67 = .ok (.iconst (-1), 1) := by decide +kernel
theorem dX7_moveBall_68 : decode cX7_moveBall 68 = .ok (.iadd, 1) := by decide +kernel
theorem dX7_moveBall_69 : decode cX7_moveBall 69 = .ok (.putfield 47, 3) := by decide +kernel
theorem dX7_moveBall_72 : decode cX7_moveBall 72 = .ok (.iinc 2 1, 3) := by decide +kernel
theorem dX7_moveBall_75 : decode cX7_moveBall 75 = .ok (.goto (-73), 3) := by decide +kernel
theorem dX7_moveBall_78 : decode cX7_moveBall 78 = .ok (.return_, 1) := by decide +kernel
theorem dX7_unfolded_0 : decode cX7_unfolded 0 = .ok (.iconst 2, 1) := by decide +kernel
theorem dX7_unfolded_1 : decode cX7_unfolded 1 = .ok (.aload_n 0, 1) := by decide +kernel
theorem dX7_unfolded_2 : decode cX7_unfolded 2 = .ok (.getfield 7, 3) := by decide +kernel
theorem dX7_unfolded_5 : decode cX7_unfolded 5 = .ok (.iconst 0, 1) := by decide +kernel
theorem dX7_unfolded_6 : decode cX7_unfolded 6 = .ok (.iaload, 1) := by decide +kernel
theorem dX7_unfolded_7 : decode cX7_unfolded 7 = .ok (.imul, 1) := by decide +kernel
theorem dX7_unfolded_8 : decode cX7_unfolded 8 = .ok (.istore_n 2, 1) := by decide +kernel
theorem dX7_unfolded_9 : decode cX7_unfolded 9 = .ok (.aload_n 0, 1) := by decide +kernel
theorem dX7_unfolded_10 : decode cX7_unfolded 10 = .ok (.getfield 7, 3) := by decide +kernel
theorem dX7_unfolded_13 : decode cX7_unfolded 13 = .ok (.bipush 6, 2) := by decide +kernel
theorem dX7_unfolded_15 : decode cX7_unfolded 15 = .ok (.iaload, 1) := by decide +kernel
theorem dX7_unfolded_16 : decode cX7_unfolded 16 = .ok (.iconst 1, 1) := by decide +kernel
theorem dX7_unfolded_17 : decode cX7_unfolded 17 = .ok (.if_icmp .ne 12, 3) := by decide +kernel
theorem dX7_unfolded_20 : decode cX7_unfolded 20 = .ok (.aload_n 0, 1) := by decide +kernel
theorem dX7_unfolded_21 : decode cX7_unfolded 21 = .ok (.getfield 7, 3) := by decide +kernel
theorem dX7_unfolded_24 : decode cX7_unfolded 24 = .ok (.iconst 4, 1) := by decide +kernel
theorem dX7_unfolded_25 : decode cX7_unfolded 25 = .ok (.iaload, 1) := by decide +kernel
theorem dX7_unfolded_26 : decode cX7_unfolded 26 = .ok (.goto 11, 3) := by decide +kernel
theorem dX7_unfolded_29 : decode cX7_unfolded 29 = .ok (.iload_n 2, 1) := by decide +kernel
theorem dX7_unfolded_30 : decode cX7_unfolded 30 = .ok (.aload_n 0, 1) := by decide +kernel
theorem dX7_unfolded_31 : decode cX7_unfolded 31 = .ok (.getfield 7, 3) := by decide +kernel
theorem dX7_unfolded_34 : decode cX7_unfolded 34 = .ok (.iconst 4, 1) := by decide +kernel
theorem dX7_unfolded_35 : decode cX7_unfolded 35 = .ok (.iaload, 1) := by decide +kernel
theorem dX7_unfolded_36 : decode cX7_unfolded 36 = .ok (.isub, 1) := by decide +kernel
theorem dX7_unfolded_37 : decode cX7_unfolded 37 = .ok (.istore_n 3, 1) := by decide +kernel
theorem dX7_unfolded_38 : decode cX7_unfolded 38 = .ok (.iload_n 3, 1) := by decide +kernel
theorem dX7_unfolded_39 : decode cX7_unfolded 39 = .ok (.iload_n 1, 1) := by decide +kernel
theorem dX7_unfolded_40 : decode cX7_unfolded 40 = .ok (.iadd, 1) := by decide +kernel
theorem dX7_unfolded_41 : decode cX7_unfolded 41 = .ok (.iload_n 2, 1) := by decide +kernel
theorem dX7_unfolded_42 : decode cX7_unfolded 42 = .ok (.irem, 1) := by decide +kernel
theorem dX7_unfolded_43 : decode cX7_unfolded 43 = .ok (.istore_n 3, 1) := by decide +kernel
theorem dX7_unfolded_44 : decode cX7_unfolded 44 = .ok (.iload_n 3, 1) := by decide +kernel
theorem dX7_unfolded_45 : decode cX7_unfolded 45 = .ok (.aload_n 0, 1) := by decide +kernel
theorem dX7_unfolded_46 : decode cX7_unfolded 46 = .ok (.getfield 7, 3) := by decide +kernel
theorem dX7_unfolded_49 : decode cX7_unfolded 49 = .ok (.iconst 0, 1) := by decide +kernel
theorem dX7_unfolded_50 : decode cX7_unfolded 50 = .ok (.iaload, 1) := by decide +kernel
theorem dX7_unfolded_51 : decode cX7_unfolded 51 = .ok (.if_icmp .gt 7, 3) := by decide +kernel
theorem dX7_unfolded_54 : decode cX7_unfolded 54 = .ok (.iload_n 3, 1) := by decide +kernel
theorem dX7_unfolded_55 : decode cX7_unfolded 55 = .ok (.goto 6, 3) := by decide +kernel
theorem dX7_unfolded_58 : decode cX7_unfolded 58 = .ok (.iload_n 2, 1) := by decide +kernel
theorem dX7_unfolded_59 : decode cX7_unfolded 59 = .ok (.iload_n 3, 1) := by decide +kernel
theorem dX7_unfolded_60 : decode cX7_unfolded 60 = .ok (.isub, 1) := by decide +kernel
theorem dX7_unfolded_61 : decode cX7_unfolded 61 = .ok (.ireturn, 1) := by decide +kernel
theorem dX7_sendOn_0 : decode cX7_sendOn 0 = .ok (.aload_n 0, 1) := by decide +kernel
theorem dX7_sendOn_1 : decode cX7_sendOn 1 = .ok (.getfield 7, 3) := by decide +kernel
theorem dX7_sendOn_4 : decode cX7_sendOn 4 = .ok (.iconst 5, 1) := by decide +kernel
theorem dX7_sendOn_5 : decode cX7_sendOn 5 = .ok (.iaload, 1) := by decide +kernel
theorem dX7_sendOn_6 : decode cX7_sendOn 6 = .ok (.istore_n 2, 1) := by decide +kernel
theorem dX7_sendOn_7 : decode cX7_sendOn 7 = .ok (.iload_n 1, 1) := by decide +kernel
theorem dX7_sendOn_8 : decode cX7_sendOn 8 = .ok (.iconst 3, 1) := by decide +kernel
theorem dX7_sendOn_9 : decode cX7_sendOn 9 = .ok (.irem, 1) := by decide +kernel
theorem dX7_sendOn_10 : decode cX7_sendOn 10 = .ok (.lookupswitch 68 #[(0, 26), (1, 45)], 26) := by decide +kernel
theorem dX7_sendOn_36 : decode cX7_sendOn 36 = .ok (.aload_n 0, 1) := by decide +kernel
theorem dX7_sendOn_37 : decode cX7_sendOn 37 = .ok (.getfield 7, 3) := by decide +kernel
theorem dX7_sendOn_40 : decode cX7_sendOn 40 = .ok (.bipush 6, 2) := by decide +kernel
theorem dX7_sendOn_42 : decode cX7_sendOn 42 = .ok (.iconst 1, 1) := by decide +kernel
theorem dX7_sendOn_43 : decode cX7_sendOn 43 = .ok (.aload_n 0, 1) := by decide +kernel
theorem dX7_sendOn_44 : decode cX7_sendOn 44 = .ok (.getfield 7, 3) := by decide +kernel
theorem dX7_sendOn_47 : decode cX7_sendOn 47 = .ok (.bipush 6, 2) := by decide +kernel
theorem dX7_sendOn_49 : decode cX7_sendOn 49 = .ok (.iaload, 1) := by decide +kernel
theorem dX7_sendOn_50 : decode cX7_sendOn 50 = .ok (.isub, 1) := by decide +kernel
theorem dX7_sendOn_51 : decode cX7_sendOn 51 = .ok (.iastore, 1) := by decide +kernel
theorem dX7_sendOn_52 : decode cX7_sendOn 52 = .ok (.goto 44, 3) := by decide +kernel
theorem dX7_sendOn_55 : decode cX7_sendOn 55 = .ok (.aload_n 0, 1) := by decide +kernel
theorem dX7_sendOn_56 : decode cX7_sendOn 56 = .ok (.getfield 7, 3) := by decide +kernel
theorem dX7_sendOn_59 : decode cX7_sendOn 59 = .ok (.iconst 5, 1) := by decide +kernel
theorem dX7_sendOn_60 : decode cX7_sendOn 60 = .ok (.iload_n 2, 1) := by decide +kernel
theorem dX7_sendOn_61 : decode cX7_sendOn 61 = .ok (.bipush 9, 2) := by decide +kernel
theorem dX7_sendOn_63 : decode cX7_sendOn 63 = .ok (.if_icmp .ge 9, 3) := by decide +kernel
theorem dX7_sendOn_66 : decode cX7_sendOn 66 = .ok (.iload_n 2, 1) := by decide +kernel
theorem dX7_sendOn_67 : decode cX7_sendOn 67 = .ok (.iconst 1, 1) := by decide +kernel
theorem dX7_sendOn_68 : decode cX7_sendOn 68 = .ok (.iadd, 1) := by decide +kernel
theorem dX7_sendOn_69 : decode cX7_sendOn 69 = .ok (.goto 5, 3) := by decide +kernel
theorem dX7_sendOn_72 : decode cX7_sendOn 72 = .ok (.bipush 9, 2) := by decide +kernel
theorem dX7_sendOn_74 : decode cX7_sendOn 74 = .ok (.iastore, 1) := by decide +kernel
theorem dX7_sendOn_75 : decode cX7_sendOn 75 = .ok (.goto 21, 3) := by decide +kernel
theorem dX7_sendOn_78 : decode cX7_sendOn 78 = .ok (.aload_n 0, 1) := by decide +kernel
theorem dX7_sendOn_79 : decode cX7_sendOn 79 = .ok (.getfield 7, 3) := by decide +kernel
theorem dX7_sendOn_82 : decode cX7_sendOn 82 = .ok (.iconst 5, 1) := by decide +kernel
theorem dX7_sendOn_83 : decode cX7_sendOn 83 = .ok (.iload_n 2, 1) := by decide +kernel
theorem dX7_sendOn_84 : decode cX7_sendOn 84 = .ok (.iconst 1, 1) := by decide +kernel
theorem dX7_sendOn_85 : decode cX7_sendOn 85 = .ok (.if_icmp .le 9, 3) := by decide +kernel
theorem dX7_sendOn_88 : decode cX7_sendOn 88 = .ok (.iload_n 2, 1) := by decide +kernel
theorem dX7_sendOn_89 : decode cX7_sendOn 89 = .ok (.iconst 1, 1) := by decide +kernel
theorem dX7_sendOn_90 : decode cX7_sendOn 90 = .ok (.isub, 1) := by decide +kernel
theorem dX7_sendOn_91 : decode cX7_sendOn 91 = .ok (.goto 4, 3) := by decide +kernel
theorem dX7_sendOn_94 : decode cX7_sendOn 94 = .ok (.iconst 1, 1) := by decide +kernel
theorem dX7_sendOn_95 : decode cX7_sendOn 95 = .ok (.iastore, 1) := by decide +kernel
theorem dX7_sendOn_96 : decode cX7_sendOn 96 = .ok (.return_, 1) := by decide +kernel
theorem dX7_delay_0 : decode cX7_delay 0 = .ok (.iconst 2, 1) := by decide +kernel
theorem dX7_delay_1 : decode cX7_delay 1 = .ok (.iload_n 2, 1) := by decide +kernel
theorem dX7_delay_2 : decode cX7_delay 2 = .ok (.ifCond .ne 7, 3) := by decide +kernel
theorem dX7_delay_5 : decode cX7_delay 5 = .ok (.iload_n 1, 1) := by decide +kernel
theorem dX7_delay_6 : decode cX7_delay 6 = .ok (.goto 11, 3) := by decide +kernel
theorem dX7_delay_9 : decode cX7_delay 9 = .ok (.aload_n 0, 1) := by decide +kernel
theorem dX7_delay_10 : decode cX7_delay 10 = .ok (.getfield 7, 3) := by decide +kernel
theorem dX7_delay_13 : decode cX7_delay 13 = .ok (.iconst 0, 1) := by decide +kernel
theorem dX7_delay_14 : decode cX7_delay 14 = .ok (.iaload, 1) := by decide +kernel
theorem dX7_delay_15 : decode cX7_delay 15 = .ok (.iload_n 1, 1) := by decide +kernel
theorem dX7_delay_16 : decode cX7_delay 16 = .ok (.isub, 1) := by decide +kernel
theorem dX7_delay_17 : decode cX7_delay 17 = .ok (.imul, 1) := by decide +kernel
theorem dX7_delay_18 : decode cX7_delay 18 = .ok (.istore_n 3, 1) := by decide +kernel
theorem dX7_delay_19 : decode cX7_delay 19 = .ok (.iload_n 3, 1) := by decide +kernel
theorem dX7_delay_20 : decode cX7_delay 20 = .ok (.aload_n 0, 1) := by decide +kernel
theorem dX7_delay_21 : decode cX7_delay 21 = .ok (.getfield 7, 3) := by decide +kernel
theorem dX7_delay_24 : decode cX7_delay 24 = .ok (.iconst 1, 1) := by decide +kernel
theorem dX7_delay_25 : decode cX7_delay 25 = .ok (.iaload, 1) := by decide +kernel
theorem dX7_delay_26 : decode cX7_delay 26 = .ok (.iadd, 1) := by decide +kernel
theorem dX7_delay_27 : decode cX7_delay 27 = .ok (.iconst 1, 1) := by decide +kernel
theorem dX7_delay_28 : decode cX7_delay 28 = .ok (.isub, 1) := by decide +kernel
theorem dX7_delay_29 : decode cX7_delay 29 = .ok (.aload_n 0, 1) := by decide +kernel
theorem dX7_delay_30 : decode cX7_delay 30 = .ok (.getfield 7, 3) := by decide +kernel
theorem dX7_delay_33 : decode cX7_delay 33 = .ok (.iconst 1, 1) := by decide +kernel
theorem dX7_delay_34 : decode cX7_delay 34 = .ok (.iaload, 1) := by decide +kernel
theorem dX7_delay_35 : decode cX7_delay 35 = .ok (.idiv, 1) := by decide +kernel
theorem dX7_delay_36 : decode cX7_delay 36 = .ok (.aload_n 0, 1) := by decide +kernel
theorem dX7_delay_37 : decode cX7_delay 37 = .ok (.getfield 7, 3) := by decide +kernel
theorem dX7_delay_40 : decode cX7_delay 40 = .ok (.iconst 2, 1) := by decide +kernel
theorem dX7_delay_41 : decode cX7_delay 41 = .ok (.iaload, 1) := by decide +kernel
theorem dX7_delay_42 : decode cX7_delay 42 = .ok (.iadd, 1) := by decide +kernel
theorem dX7_delay_43 : decode cX7_delay 43 = .ok (.istore 4, 2) := by decide +kernel
theorem dX7_delay_45 : decode cX7_delay 45 = .ok (.iload 4, 2) := by decide +kernel
theorem dX7_delay_47 : decode cX7_delay 47 = .ok (.iconst 1, 1) := by decide +kernel
theorem dX7_delay_48 : decode cX7_delay 48 = .ok (.if_icmp .ge 7, 3) := by decide +kernel
theorem dX7_delay_51 : decode cX7_delay 51 = .ok (.iconst 1, 1) := by decide +kernel
theorem dX7_delay_52 : decode cX7_delay 52 = .ok (.goto 5, 3) := by decide +kernel
theorem dX7_delay_55 : decode cX7_delay 55 = .ok (.iload 4, 2) := by decide +kernel
theorem dX7_delay_57 : decode cX7_delay 57 = .ok (.ireturn, 1) := by decide +kernel
theorem dX7_underWay_0 : decode cX7_underWay 0 = .ok (.iconst 0, 1) := by decide +kernel
theorem dX7_underWay_1 : decode cX7_underWay 1 = .ok (.istore_n 2, 1) := by decide +kernel
theorem dX7_underWay_2 : decode cX7_underWay 2 = .ok (.iconst 0, 1) := by decide +kernel
theorem dX7_underWay_3 : decode cX7_underWay 3 = .ok (.istore_n 3, 1) := by decide +kernel
theorem dX7_underWay_4 : decode cX7_underWay 4 = .ok (.iload_n 3, 1) := by decide +kernel
theorem dX7_underWay_5 : decode cX7_underWay 5 = .ok (.aload_n 0, 1) := by decide +kernel
theorem dX7_underWay_6 : decode cX7_underWay 6 = .ok (.getfield 7, 3) := by decide +kernel
theorem dX7_underWay_9 : decode cX7_underWay 9 = .ok (.bipush 9, 2) := by decide +kernel
theorem dX7_underWay_11 : decode cX7_underWay 11 = .ok (.iaload, 1) := by decide +kernel
theorem dX7_underWay_12 : decode cX7_underWay 12 = .ok (.if_icmp .ge 27, 3) := by decide +kernel
theorem dX7_underWay_15 : decode cX7_underWay 15 = .ok (.iload_n 2, 1) := by decide +kernel
theorem dX7_underWay_16 : decode cX7_underWay 16 = .ok (.aload_n 0, 1) := by decide +kernel
theorem dX7_underWay_17 : decode cX7_underWay 17 = .ok (.iload_n 3, 1) := by decide +kernel
theorem dX7_underWay_18 : decode cX7_underWay 18 = .ok (.iconst 0, 1) := by decide +kernel
theorem dX7_underWay_19 : decode cX7_underWay 19 = .ok (.invokevirtual 54, 3) := by decide +kernel
theorem dX7_underWay_22 : decode cX7_underWay 22 = .ok (.iload_n 1, 1) := by decide +kernel
theorem dX7_underWay_23 : decode cX7_underWay 23 = .ok (.if_icmp .ne 7, 3) := by decide +kernel
theorem dX7_underWay_26 : decode cX7_underWay 26 = .ok (.iconst 1, 1) := by decide +kernel
theorem dX7_underWay_27 : decode cX7_underWay 27 = .ok (.goto 4, 3) := by decide +kernel
theorem dX7_underWay_30 : decode cX7_underWay 30 = .ok (.iconst 0, 1) := by decide +kernel
theorem dX7_underWay_31 : decode cX7_underWay 31 = .ok (.iadd, 1) := by decide +kernel
theorem dX7_underWay_32 : decode cX7_underWay 32 = .ok (.istore_n 2, 1) := by decide +kernel
theorem dX7_underWay_33 : decode cX7_underWay 33 = .ok (.iinc 3 1, 3) := by decide +kernel
theorem dX7_underWay_36 : decode cX7_underWay 36 = .ok (.goto (-32), 3) := by decide +kernel
theorem dX7_underWay_39 : decode cX7_underWay 39 = .ok (.iload_n 2, 1) := by decide +kernel
theorem dX7_underWay_40 : decode cX7_underWay 40 = .ok (.ireturn, 1) := by decide +kernel
theorem dX7_comingTo_0 : decode cX7_comingTo 0 = .ok (.iconst 0, 1) := by decide +kernel
theorem dX7_comingTo_1 : decode cX7_comingTo 1 = .ok (.istore_n 3, 1) := by decide +kernel
theorem dX7_comingTo_2 : decode cX7_comingTo 2 = .ok (.iconst 0, 1) := by decide +kernel
theorem dX7_comingTo_3 : decode cX7_comingTo 3 = .ok (.istore 4, 2) := by decide +kernel
theorem dX7_comingTo_5 : decode cX7_comingTo 5 = .ok (.iload 4, 2) := by decide +kernel
theorem dX7_comingTo_7 : decode cX7_comingTo 7 = .ok (.aload_n 0, 1) := by decide +kernel
theorem dX7_comingTo_8 : decode cX7_comingTo 8 = .ok (.getfield 7, 3) := by decide +kernel
theorem dX7_comingTo_11 : decode cX7_comingTo 11 = .ok (.bipush 9, 2) := by decide +kernel
theorem dX7_comingTo_13 : decode cX7_comingTo 13 = .ok (.iaload, 1) := by decide +kernel
theorem dX7_comingTo_14 : decode cX7_comingTo 14 = .ok (.if_icmp .ge 39, 3) := by decide +kernel
theorem dX7_comingTo_17 : decode cX7_comingTo 17 = .ok (.iload_n 3, 1) := by decide +kernel
theorem dX7_comingTo_18 : decode cX7_comingTo 18 = .ok (.aload_n 0, 1) := by decide +kernel
theorem dX7_comingTo_19 : decode cX7_comingTo 19 = .ok (.iload 4, 2) := by decide +kernel
theorem dX7_comingTo_21 : decode cX7_comingTo 21 = .ok (.iconst 1, 1) := by decide +kernel
theorem dX7_comingTo_22 : decode cX7_comingTo 22 = .ok (.invokevirtual 54, 3) := by decide +kernel
theorem dX7_comingTo_25 : decode cX7_comingTo 25 = .ok (.iload_n 1, 1) := by decide +kernel
theorem dX7_comingTo_26 : decode cX7_comingTo 26 = .ok (.if_icmp .ne 18, 3) := by decide +kernel
theorem dX7_comingTo_29 : decode cX7_comingTo 29 = .ok (.aload_n 0, 1) := by decide +kernel
theorem dX7_comingTo_30 : decode cX7_comingTo 30 = .ok (.iload 4, 2) := by decide +kernel
theorem dX7_comingTo_32 : decode cX7_comingTo 32 = .ok (.iconst 3, 1) := by decide +kernel
theorem dX7_comingTo_33 : decode cX7_comingTo 33 = .ok (.invokevirtual 54, 3) := by decide +kernel
theorem dX7_comingTo_36 : decode cX7_comingTo 36 = .ok (.iload_n 2, 1) := by decide +kernel
theorem dX7_comingTo_37 : decode cX7_comingTo 37 = .ok (.if_icmp .ne 7, 3) := by decide +kernel
theorem dX7_comingTo_40 : decode cX7_comingTo 40 = .ok (.iconst 1, 1) := by decide +kernel
theorem dX7_comingTo_41 : decode cX7_comingTo 41 = .ok (.goto 4, 3) := by decide +kernel
theorem dX7_comingTo_44 : decode cX7_comingTo 44 = .ok (.iconst 0, 1) := by decide +kernel
theorem dX7_comingTo_45 : decode cX7_comingTo 45 = .ok (.iadd, 1) := by decide +kernel
theorem dX7_comingTo_46 : decode cX7_comingTo 46 = .ok (.istore_n 3, 1) := by decide +kernel
theorem dX7_comingTo_47 : decode cX7_comingTo 47 = .ok (.iinc 4 1, 3) := by decide +kernel
theorem dX7_comingTo_50 : decode cX7_comingTo 50 = .ok (.goto (-45), 3) := by decide +kernel
theorem dX7_comingTo_53 : decode cX7_comingTo 53 = .ok (.iload_n 3, 1) := by decide +kernel
theorem dX7_comingTo_54 : decode cX7_comingTo 54 = .ok (.ireturn, 1) := by decide +kernel
theorem dX7_addEcho_0 : decode cX7_addEcho 0 = .ok (.aload_n 0, 1) := by decide +kernel
theorem dX7_addEcho_1 : decode cX7_addEcho 1 = .ok (.iload_n 1, 1) := by decide +kernel
theorem dX7_addEcho_2 : decode cX7_addEcho 2 = .ok (.iconst 0, 1) := by decide +kernel
theorem dX7_addEcho_3 : decode cX7_addEcho 3 = .ok (.invokevirtual 33, 3) := by decide +kernel
theorem dX7_addEcho_6 : decode cX7_addEcho 6 = .ok (.istore 4, 2) := by decide +kernel
theorem dX7_addEcho_8 : decode cX7_addEcho 8 = .ok (.bipush 34, 2) := by decide +kernel
theorem dX7_addEcho_10 : decode cX7_addEcho 10 = .ok (.iconst 5, 1) := by decide +kernel
theorem dX7_addEcho_11 : decode cX7_addEcho 11 = .ok (.aload_n 0, 1) := by decide +kernel
theorem dX7_addEcho_12 : decode cX7_addEcho 12 = .ok (.getfield 7, 3) := by decide +kernel
theorem dX7_addEcho_15 : decode cX7_addEcho 15 = .ok (.bipush 9, 2) := by decide +kernel
theorem dX7_addEcho_17 : decode cX7_addEcho 17 = .ok (.iaload, 1) := by decide +kernel
theorem dX7_addEcho_18 : decode cX7_addEcho 18 = .ok (.imul, 1) := by decide +kernel
theorem dX7_addEcho_19 : decode cX7_addEcho 19 = .ok (.iadd, 1) := by decide +kernel
theorem dX7_addEcho_20 : decode cX7_addEcho 20 = .ok (.istore 5, 2) := by decide +kernel
theorem dX7_addEcho_22 : decode cX7_addEcho 22 = .ok (.aload_n 0, 1) := by decide +kernel
theorem dX7_addEcho_23 : decode cX7_addEcho 23 = .ok (.getfield 7, 3) := by decide +kernel
theorem dX7_addEcho_26 : decode cX7_addEcho 26 = .ok (.iload 5, 2) := by decide +kernel
theorem dX7_addEcho_28 : decode cX7_addEcho 28 = .ok (.iconst 0, 1) := by decide +kernel
theorem dX7_addEcho_29 : decode cX7_addEcho 29 = .ok (.iadd, 1) := by decide +kernel
theorem dX7_addEcho_30 : decode cX7_addEcho 30 = .ok (.iload_n 1, 1) := by decide +kernel
theorem dX7_addEcho_31 : decode cX7_addEcho 31 = .ok (.iastore, 1) := by decide +kernel
theorem dX7_addEcho_32 : decode cX7_addEcho 32 = .ok (.aload_n 0, 1) := by decide +kernel
theorem dX7_addEcho_33 : decode cX7_addEcho 33 = .ok (.getfield 7, 3) := by decide +kernel
theorem dX7_addEcho_36 : decode cX7_addEcho 36 = .ok (.iload 5, 2) := by decide +kernel
theorem dX7_addEcho_38 : decode cX7_addEcho 38 = .ok (.iconst 1, 1) := by decide +kernel
theorem dX7_addEcho_39 : decode cX7_addEcho 39 = .ok (.iadd, 1) := by decide +kernel
theorem dX7_addEcho_40 : decode cX7_addEcho 40 = .ok (.iload 4, 2) := by decide +kernel
theorem dX7_addEcho_42 : decode cX7_addEcho 42 = .ok (.iastore, 1) := by decide +kernel
theorem dX7_addEcho_43 : decode cX7_addEcho 43 = .ok (.aload_n 0, 1) := by decide +kernel
theorem dX7_addEcho_44 : decode cX7_addEcho 44 = .ok (.getfield 7, 3) := by decide +kernel
theorem dX7_addEcho_47 : decode cX7_addEcho 47 = .ok (.iload 5, 2) := by decide +kernel
theorem dX7_addEcho_49 : decode cX7_addEcho 49 = .ok (.iconst 2, 1) := by decide +kernel
theorem dX7_addEcho_50 : decode cX7_addEcho 50 = .ok (.iadd, 1) := by decide +kernel
theorem dX7_addEcho_51 : decode cX7_addEcho 51 = .ok (.iload_n 2, 1) := by decide +kernel
theorem dX7_addEcho_52 : decode cX7_addEcho 52 = .ok (.iastore, 1) := by decide +kernel
theorem dX7_addEcho_53 : decode cX7_addEcho 53 = .ok (.aload_n 0, 1) := by decide +kernel
theorem dX7_addEcho_54 : decode cX7_addEcho 54 = .ok (.getfield 7, 3) := by decide +kernel
theorem dX7_addEcho_57 : decode cX7_addEcho 57 = .ok (.iload 5, 2) := by decide +kernel
theorem dX7_addEcho_59 : decode cX7_addEcho 59 = .ok (.iconst 3, 1) := by decide +kernel
theorem dX7_addEcho_60 : decode cX7_addEcho 60 = .ok (.iadd, 1) := by decide +kernel
theorem dX7_addEcho_61 : decode cX7_addEcho 61 = .ok (.aload_n 0, 1) := by decide +kernel
theorem dX7_addEcho_62 : decode cX7_addEcho 62 = .ok (.getfield 7, 3) := by decide +kernel
theorem dX7_addEcho_65 : decode cX7_addEcho 65 = .ok (.iconst 3, 1) := by decide +kernel
theorem dX7_addEcho_66 : decode cX7_addEcho 66 = .ok (.iaload, 1) := by decide +kernel
theorem dX7_addEcho_67 : decode cX7_addEcho 67 = .ok (.aload_n 0, 1) := by decide +kernel
theorem dX7_addEcho_68 : decode cX7_addEcho 68 = .ok (.iload 4, 2) := by decide +kernel
theorem dX7_addEcho_70 : decode cX7_addEcho 70 = .ok (.iload_n 3, 1) := by decide +kernel
theorem dX7_addEcho_71 : decode cX7_addEcho 71 = .ok (.invokevirtual 57, 3) := by decide +kernel
theorem dX7_addEcho_74 : decode cX7_addEcho 74 = .ok (.iadd, 1) := by decide +kernel
theorem dX7_addEcho_75 : decode cX7_addEcho 75 = .ok (.iastore, 1) := by decide +kernel
theorem dX7_addEcho_76 : decode cX7_addEcho 76 = .ok (.aload_n 0, 1) := by decide +kernel
theorem dX7_addEcho_77 : decode cX7_addEcho 77 = .ok (.getfield 7, 3) := by decide +kernel
theorem dX7_addEcho_80 : decode cX7_addEcho 80 = .ok (.iload 5, 2) := by decide +kernel
theorem dX7_addEcho_82 : decode cX7_addEcho 82 = .ok (.iconst 4, 1) := by decide +kernel
theorem dX7_addEcho_83 : decode cX7_addEcho 83 = .ok (.iadd, 1) := by decide +kernel
theorem dX7_addEcho_84 : decode cX7_addEcho 84 = .ok (.iload_n 3, 1) := by decide +kernel
theorem dX7_addEcho_85 : decode cX7_addEcho 85 = .ok (.iastore, 1) := by decide +kernel
theorem dX7_addEcho_86 : decode cX7_addEcho 86 = .ok (.aload_n 0, 1) := by decide +kernel
theorem dX7_addEcho_87 : decode cX7_addEcho 87 = .ok (.getfield 7, 3) := by decide +kernel
theorem dX7_addEcho_90 : decode cX7_addEcho 90 = .ok (.bipush 9, 2) := by decide +kernel
theorem dX7_addEcho_92 : decode cX7_addEcho 92 = .ok (.dup2, 1) := by decide +kernel
theorem dX7_addEcho_93 : decode cX7_addEcho 93 = .ok (.iaload, 1) := by decide +kernel
theorem dX7_addEcho_94 : decode cX7_addEcho 94 = .ok (.iconst 1, 1) := by decide +kernel
theorem dX7_addEcho_95 : decode cX7_addEcho 95 = .ok (.iadd, 1) := by decide +kernel
theorem dX7_addEcho_96 : decode cX7_addEcho 96 = .ok (.iastore, 1) := by decide +kernel
theorem dX7_addEcho_97 : decode cX7_addEcho 97 = .ok (.return_, 1) := by decide +kernel
theorem dX7_doesCall_0 : decode cX7_doesCall 0 = .ok (.aload_n 0, 1) := by decide +kernel
theorem dX7_doesCall_1 : decode cX7_doesCall 1 = .ok (.iload_n 1, 1) := by decide +kernel
theorem dX7_doesCall_2 : decode cX7_doesCall 2 = .ok (.invokevirtual 60, 3) := by decide +kernel
theorem dX7_doesCall_5 : decode cX7_doesCall 5 = .ok (.iconst 2, 1) := by decide +kernel
theorem dX7_doesCall_6 : decode cX7_doesCall 6 = .ok (.iadd, 1) := by decide +kernel
theorem dX7_doesCall_7 : decode cX7_doesCall 7 = .ok (.bipush 6, 2) := by decide +kernel
theorem dX7_doesCall_9 : decode cX7_doesCall 9 = .ok (.if_icmp .le 16, 3) := by decide +kernel
theorem dX7_doesCall_12 : decode cX7_doesCall 12 = .ok (.aload_n 0, 1) := by decide +kernel
theorem dX7_doesCall_13 : decode cX7_doesCall 13 = .ok (.getfield 7, 3) := by decide +kernel
theorem dX7_doesCall_16 : decode cX7_doesCall 16 = .ok (.bipush 7, 2) := by decide +kernel
theorem dX7_doesCall_18 : decode cX7_doesCall 18 = .ok (.dup2, 1) := by decide +kernel
theorem dX7_doesCall_19 : decode cX7_doesCall 19 = .ok (.iaload, 1) := by decide +kernel
theorem dX7_doesCall_20 : decode cX7_doesCall 20 = .ok (.iconst 1, 1) := by decide +kernel
theorem dX7_doesCall_21 : decode cX7_doesCall 21 = .ok (.iadd, 1) := by decide +kernel
theorem dX7_doesCall_22 : decode cX7_doesCall 22 = .ok (.iastore, 1) := by decide +kernel
theorem dX7_doesCall_23 : decode cX7_doesCall 23 = .ok (.iconst (-1), 1) := by decide +kernel
theorem dX7_doesCall_24 : decode cX7_doesCall 24 = .ok (.ireturn, 1) := by decide +kernel
theorem dX7_doesCall_25 : decode cX7_doesCall 25 = .ok (.aload_n 0, 1) := by decide +kernel
theorem dX7_doesCall_26 : decode cX7_doesCall 26 = .ok (.iload_n 1, 1) := by decide +kernel
theorem dX7_doesCall_27 : decode cX7_doesCall 27 = .ok (.iload_n 2, 1) := by decide +kernel
theorem dX7_doesCall_28 : decode cX7_doesCall 28 = .ok (.iconst 0, 1) := by decide +kernel
theorem dX7_doesCall_29 : decode cX7_doesCall 29 = .ok (.invokevirtual 63, 3) := by decide +kernel
theorem dX7_doesCall_32 : decode cX7_doesCall 32 = .ok (.aload_n 0, 1) := by decide +kernel
theorem dX7_doesCall_33 : decode cX7_doesCall 33 = .ok (.iload_n 1, 1) := by decide +kernel
theorem dX7_doesCall_34 : decode cX7_doesCall 34 = .ok (.iload_n 2, 1) := by decide +kernel
theorem dX7_doesCall_35 : decode cX7_doesCall 35 = .ok (.iconst 1, 1) := by decide +kernel
theorem dX7_doesCall_36 : decode cX7_doesCall 36 = .ok (.invokevirtual 63, 3) := by decide +kernel
theorem dX7_doesCall_39 : decode cX7_doesCall 39 = .ok (.aload_n 0, 1) := by decide +kernel
theorem dX7_doesCall_40 : decode cX7_doesCall 40 = .ok (.getfield 7, 3) := by decide +kernel
theorem dX7_doesCall_43 : decode cX7_doesCall 43 = .ok (.bipush 8, 2) := by decide +kernel
theorem dX7_doesCall_45 : decode cX7_doesCall 45 = .ok (.dup2, 1) := by decide +kernel
theorem dX7_doesCall_46 : decode cX7_doesCall 46 = .ok (.iaload, 1) := by decide +kernel
theorem dX7_doesCall_47 : decode cX7_doesCall 47 = .ok (.iconst 2, 1) := by decide +kernel
theorem dX7_doesCall_48 : decode cX7_doesCall 48 = .ok (.iadd, 1) := by decide +kernel
theorem dX7_doesCall_49 : decode cX7_doesCall 49 = .ok (.iastore, 1) := by decide +kernel
theorem dX7_doesCall_50 : decode cX7_doesCall 50 = .ok (.aload_n 0, 1) := by decide +kernel
theorem dX7_doesCall_51 : decode cX7_doesCall 51 = .ok (.getfield 7, 3) := by decide +kernel
theorem dX7_doesCall_54 : decode cX7_doesCall 54 = .ok (.bipush 10, 2) := by decide +kernel
theorem dX7_doesCall_56 : decode cX7_doesCall 56 = .ok (.bipush 6, 2) := by decide +kernel
theorem dX7_doesCall_58 : decode cX7_doesCall 58 = .ok (.iload_n 1, 1) := by decide +kernel
theorem dX7_doesCall_59 : decode cX7_doesCall 59 = .ok (.imul, 1) := by decide +kernel
theorem dX7_doesCall_60 : decode cX7_doesCall 60 = .ok (.iadd, 1) := by decide +kernel
theorem dX7_doesCall_61 : decode cX7_doesCall 61 = .ok (.iconst 2, 1) := by decide +kernel
theorem dX7_doesCall_62 : decode cX7_doesCall 62 = .ok (.iadd, 1) := by decide +kernel
theorem dX7_doesCall_63 : decode cX7_doesCall 63 = .ok (.dup2, 1) := by decide +kernel
theorem dX7_doesCall_64 : decode cX7_doesCall 64 = .ok (.iaload, 1) := by decide +kernel
theorem dX7_doesCall_65 : decode cX7_doesCall 65 = .ok (.iconst 1, 1) := by decide +kernel
theorem dX7_doesCall_66 : decode cX7_doesCall 66 = .ok (.iadd, 1) := by decide +kernel
theorem dX7_doesCall_67 : decode cX7_doesCall 67 = .ok (.iastore, 1) := by decide +kernel
theorem dX7_doesCall_68 : decode cX7_doesCall 68 = .ok (.aload_n 0, 1) := by decide +kernel
theorem dX7_doesCall_69 : decode cX7_doesCall 69 = .ok (.aload_n 0, 1) := by decide +kernel
theorem dX7_doesCall_70 : decode cX7_doesCall 70 = .ok (.iload_n 1, 1) := by decide +kernel
theorem dX7_doesCall_71 : decode cX7_doesCall 71 = .ok (.iconst 0, 1) := by decide +kernel
theorem dX7_doesCall_72 : decode cX7_doesCall 72 = .ok (.invokevirtual 33, 3) := by decide +kernel
theorem dX7_doesCall_75 : decode cX7_doesCall 75 = .ok (.iconst 0, 1) := by decide +kernel
theorem dX7_doesCall_76 : decode cX7_doesCall 76 = .ok (.invokevirtual 57, 3) := by decide +kernel
theorem dX7_doesCall_79 : decode cX7_doesCall 79 = .ok (.istore_n 3, 1) := by decide +kernel
theorem dX7_doesCall_80 : decode cX7_doesCall 80 = .ok (.aload_n 0, 1) := by decide +kernel
theorem dX7_doesCall_81 : decode cX7_doesCall 81 = .ok (.aload_n 0, 1) := by decide +kernel
theorem dX7_doesCall_82 : decode cX7_doesCall 82 = .ok (.iload_n 1, 1) := by decide +kernel
theorem dX7_doesCall_83 : decode cX7_doesCall 83 = .ok (.iconst 0, 1) := by decide +kernel
theorem dX7_doesCall_84 : decode cX7_doesCall 84 = .ok (.invokevirtual 33, 3) := by decide +kernel
theorem dX7_doesCall_87 : decode cX7_doesCall 87 = .ok (.iconst 1, 1) := by decide +kernel
theorem dX7_doesCall_88 : decode cX7_doesCall 88 = .ok (.invokevirtual 57, 3) := by decide +kernel
theorem dX7_doesCall_91 : decode cX7_doesCall 91 = .ok (.istore 4, 2) := by decide +kernel
theorem dX7_doesCall_93 : decode cX7_doesCall 93 = .ok (.iload_n 3, 1) := by decide +kernel
theorem dX7_doesCall_94 : decode cX7_doesCall 94 = .ok (.iload 4, 2) := by decide +kernel
theorem dX7_doesCall_96 : decode cX7_doesCall 96 = .ok (.if_icmp .ge 7, 3) := by decide +kernel
theorem dX7_doesCall_99 : decode cX7_doesCall 99 = .ok (.iload_n 3, 1) := by decide +kernel
theorem dX7_doesCall_100 : decode cX7_doesCall 100 = .ok (.goto 5, 3) := by decide +kernel
theorem dX7_doesCall_103 : decode cX7_doesCall 103 = .ok (.iload 4, 2) := by decide +kernel
theorem dX7_doesCall_105 : decode cX7_doesCall 105 = .ok (.ireturn, 1) := by decide +kernel
theorem dX7_doesWalk_0 : decode cX7_doesWalk 0 = .ok (.aload_n 0, 1) := by decide +kernel
theorem dX7_doesWalk_1 : decode cX7_doesWalk 1 = .ok (.iload_n 1, 1) := by decide +kernel
theorem dX7_doesWalk_2 : decode cX7_doesWalk 2 = .ok (.iconst 0, 1) := by decide +kernel
theorem dX7_doesWalk_3 : decode cX7_doesWalk 3 = .ok (.invokevirtual 33, 3) := by decide +kernel
theorem dX7_doesWalk_6 : decode cX7_doesWalk 6 = .ok (.iload_n 2, 1) := by decide +kernel
theorem dX7_doesWalk_7 : decode cX7_doesWalk 7 = .ok (.iadd, 1) := by decide +kernel
theorem dX7_doesWalk_8 : decode cX7_doesWalk 8 = .ok (.istore_n 3, 1) := by decide +kernel
theorem dX7_doesWalk_9 : decode cX7_doesWalk 9 = .ok (.iload_n 3, 1) := by decide +kernel
theorem dX7_doesWalk_10 : decode cX7_doesWalk 10 = .ok (.iconst 0, 1) := by decide +kernel
theorem dX7_doesWalk_11 : decode cX7_doesWalk 11 = .ok (.aload_n 0, 1) := by decide +kernel
theorem dX7_doesWalk_12 : decode cX7_doesWalk 12 = .ok (.getfield 7, 3) := by decide +kernel
theorem dX7_doesWalk_15 : decode cX7_doesWalk 15 = .ok (.iconst 0, 1) := by decide +kernel
theorem dX7_doesWalk_16 : decode cX7_doesWalk 16 = .ok (.iaload, 1) := by decide +kernel
theorem dX7_doesWalk_17 : decode cX7_doesWalk 17 = .ok (.invokestatic 29, 3) := by decide +kernel
theorem dX7_doesWalk_20 : decode cX7_doesWalk 20 = .ok (.ifCond .ne 16, 3) := by decide +kernel
theorem dX7_doesWalk_23 : decode cX7_doesWalk 23 = .ok (.aload_n 0, 1) := by decide +kernel
theorem dX7_doesWalk_24 : decode cX7_doesWalk 24 = .ok (.getfield 7, 3) := by decide +kernel
theorem dX7_doesWalk_27 : decode cX7_doesWalk 27 = .ok (.bipush 7, 2) := by decide +kernel
theorem dX7_doesWalk_29 : decode cX7_doesWalk 29 = .ok (.dup2, 1) := by decide +kernel
theorem dX7_doesWalk_30 : decode cX7_doesWalk 30 = .ok (.iaload, 1) := by decide +kernel
theorem dX7_doesWalk_31 : decode cX7_doesWalk 31 = .ok (.iconst 1, 1) := by decide +kernel
theorem dX7_doesWalk_32 : decode cX7_doesWalk 32 = .ok (.iadd, 1) := by decide +kernel
theorem dX7_doesWalk_33 : decode cX7_doesWalk 33 = .ok (.iastore, 1) := by decide +kernel
theorem dX7_doesWalk_34 : decode cX7_doesWalk 34 = .ok (.iconst (-1), 1) := by decide +kernel
theorem dX7_doesWalk_35 : decode cX7_doesWalk 35 = .ok (.ireturn, 1) := by decide +kernel
theorem dX7_doesWalk_36 : decode cX7_doesWalk 36 = .ok (.aload_n 0, 1) := by decide +kernel
theorem dX7_doesWalk_37 : decode cX7_doesWalk 37 = .ok (.getfield 7, 3) := by decide +kernel
theorem dX7_doesWalk_40 : decode cX7_doesWalk 40 = .ok (.bipush 10, 2) := by decide +kernel
theorem dX7_doesWalk_42 : decode cX7_doesWalk 42 = .ok (.bipush 6, 2) := by decide +kernel
theorem dX7_doesWalk_44 : decode cX7_doesWalk 44 = .ok (.iload_n 1, 1) := by decide +kernel
theorem dX7_doesWalk_45 : decode cX7_doesWalk 45 = .ok (.imul, 1) := by decide +kernel
theorem dX7_doesWalk_46 : decode cX7_doesWalk 46 = .ok (.iadd, 1) := by decide +kernel
theorem dX7_doesWalk_47 : decode cX7_doesWalk 47 = .ok (.iconst 0, 1) := by decide +kernel
theorem dX7_doesWalk_48 : decode cX7_doesWalk 48 = .ok (.iadd, 1) := by decide +kernel
theorem dX7_doesWalk_49 : decode cX7_doesWalk 49 = .ok (.iload_n 3, 1) := by decide +kernel
theorem dX7_doesWalk_50 : decode cX7_doesWalk 50 = .ok (.iastore, 1) := by decide +kernel
theorem dX7_doesWalk_51 : decode cX7_doesWalk 51 = .ok (.iload_n 3, 1) := by decide +kernel
theorem dX7_doesWalk_52 : decode cX7_doesWalk 52 = .ok (.ireturn, 1) := by decide +kernel
theorem dX7_comesBack_0 : decode cX7_comesBack 0 = .ok (.aload_n 0, 1) := by decide +kernel
theorem dX7_comesBack_1 : decode cX7_comesBack 1 = .ok (.iload_n 1, 1) := by decide +kernel
theorem dX7_comesBack_2 : decode cX7_comesBack 2 = .ok (.iconst 0, 1) := by decide +kernel
theorem dX7_comesBack_3 : decode cX7_comesBack 3 = .ok (.invokevirtual 54, 3) := by decide +kernel
theorem dX7_comesBack_6 : decode cX7_comesBack 6 = .ok (.istore_n 3, 1) := by decide +kernel
theorem dX7_comesBack_7 : decode cX7_comesBack 7 = .ok (.aload_n 0, 1) := by decide +kernel
theorem dX7_comesBack_8 : decode cX7_comesBack 8 = .ok (.iload_n 3, 1) := by decide +kernel
theorem dX7_comesBack_9 : decode cX7_comesBack 9 = .ok (.iconst 0, 1) := by decide +kernel
theorem dX7_comesBack_10 : decode cX7_comesBack 10 = .ok (.invokevirtual 33, 3) := by decide +kernel
theorem dX7_comesBack_13 : decode cX7_comesBack 13 = .ok (.aload_n 0, 1) := by decide +kernel
theorem dX7_comesBack_14 : decode cX7_comesBack 14 = .ok (.iload_n 1, 1) := by decide +kernel
theorem dX7_comesBack_15 : decode cX7_comesBack 15 = .ok (.iconst 1, 1) := by decide +kernel
theorem dX7_comesBack_16 : decode cX7_comesBack 16 = .ok (.invokevirtual 54, 3) := by decide +kernel
theorem dX7_comesBack_19 : decode cX7_comesBack 19 = .ok (.if_icmp .ne 7, 3) := by decide +kernel
theorem dX7_comesBack_22 : decode cX7_comesBack 22 = .ok (.iconst 1, 1) := by decide +kernel
theorem dX7_comesBack_23 : decode cX7_comesBack 23 = .ok (.goto 4, 3) := by decide +kernel
theorem dX7_comesBack_26 : decode cX7_comesBack 26 = .ok (.iconst 0, 1) := by decide +kernel
theorem dX7_comesBack_27 : decode cX7_comesBack 27 = .ok (.istore 4, 2) := by decide +kernel
theorem dX7_comesBack_29 : decode cX7_comesBack 29 = .ok (.iload_n 2, 1) := by decide +kernel
theorem dX7_comesBack_30 : decode cX7_comesBack 30 = .ok (.ifCond .ne 7, 3) := by decide +kernel
theorem dX7_comesBack_33 : decode cX7_comesBack 33 = .ok (.iconst 4, 1) := by decide +kernel
theorem dX7_comesBack_34 : decode cX7_comesBack 34 = .ok (.goto 13, 3) := by decide +kernel
theorem dX7_comesBack_37 : decode cX7_comesBack 37 = .ok (.iload 4, 2) := by decide +kernel
theorem dX7_comesBack_39 : decode cX7_comesBack 39 = .ok (.ifCond .eq 7, 3) := by decide +kernel
theorem dX7_comesBack_42 : decode cX7_comesBack 42 = .ok (.iconst 3, 1) := by decide +kernel
theorem dX7_comesBack_43 : decode cX7_comesBack 43 = .ok (.goto 4, 3) := by decide +kernel
theorem dX7_comesBack_46 : decode cX7_comesBack 46 = .ok (.iconst 5, 1) := by decide +kernel
theorem dX7_comesBack_47 : decode cX7_comesBack 47 = .ok (.istore 5, 2) := by decide +kernel
theorem dX7_comesBack_49 : decode cX7_comesBack 49 = .ok (.aload_n 0, 1) := by decide +kernel
theorem dX7_comesBack_50 : decode cX7_comesBack 50 = .ok (.getfield 7, 3) := by decide +kernel
theorem dX7_comesBack_53 : decode cX7_comesBack 53 = .ok (.bipush 10, 2) := by decide +kernel
theorem dX7_comesBack_55 : decode cX7_comesBack 55 = .ok (.bipush 6, 2) := by decide +kernel
theorem dX7_comesBack_57 : decode cX7_comesBack 57 = .ok (.iload_n 3, 1) := by decide +kernel
theorem dX7_comesBack_58 : decode cX7_comesBack 58 = .ok (.imul, 1) := by decide +kernel
theorem dX7_comesBack_59 : decode cX7_comesBack 59 = .ok (.iadd, 1) := by decide +kernel
theorem dX7_comesBack_60 : decode cX7_comesBack 60 = .ok (.iload 5, 2) := by decide +kernel
theorem dX7_comesBack_62 : decode cX7_comesBack 62 = .ok (.iadd, 1) := by decide +kernel
theorem dX7_comesBack_63 : decode cX7_comesBack 63 = .ok (.dup2, 1) := by decide +kernel
theorem dX7_comesBack_64 : decode cX7_comesBack 64 = .ok (.iaload, 1) := by decide +kernel
theorem dX7_comesBack_65 : decode cX7_comesBack 65 = .ok (.iconst 1, 1) := by decide +kernel
theorem dX7_comesBack_66 : decode cX7_comesBack 66 = .ok (.iadd, 1) := by decide +kernel
theorem dX7_comesBack_67 : decode cX7_comesBack 67 = .ok (.iastore, 1) := by decide +kernel
theorem dX7_comesBack_68 : decode cX7_comesBack 68 = .ok (.iload 5, 2) := by decide +kernel
theorem dX7_comesBack_70 : decode cX7_comesBack 70 = .ok (.iconst 3, 1) := by decide +kernel
theorem dX7_comesBack_71 : decode cX7_comesBack 71 = .ok (.if_icmp .ne 18, 3) := by decide +kernel
theorem dX7_comesBack_74 : decode cX7_comesBack 74 = .ok (.aload_n 0, 1) := by decide +kernel
theorem dX7_comesBack_75 : decode cX7_comesBack 75 = .ok (.getfield 7, 3) := by decide +kernel
theorem dX7_comesBack_78 : decode cX7_comesBack 78 = .ok (.iconst 4, 1) := by decide +kernel
theorem dX7_comesBack_79 : decode cX7_comesBack 79 = .ok (.iaload, 1) := by decide +kernel
theorem dX7_comesBack_80 : decode cX7_comesBack 80 = .ok (.aload_n 0, 1) := by decide +kernel
theorem dX7_comesBack_81 : decode cX7_comesBack 81 = .ok (.iload_n 1, 1) := by decide +kernel
theorem dX7_comesBack_82 : decode cX7_comesBack 82 = .ok (.iconst 1, 1) := by decide +kernel
theorem dX7_comesBack_83 : decode cX7_comesBack 83 = .ok (.invokevirtual 54, 3) := by decide +kernel
theorem dX7_comesBack_86 : decode cX7_comesBack 86 = .ok (.if_icmp .eq 5, 3) := by decide +kernel
theorem dX7_comesBack_89 : decode cX7_comesBack 89 = .ok (.iconst 0, 1) := by decide +kernel
theorem dX7_comesBack_90 : decode cX7_comesBack 90 = .ok (.ireturn, 1) := by decide +kernel
theorem dX7_comesBack_91 : decode cX7_comesBack 91 = .ok (.aload_n 0, 1) := by decide +kernel
theorem dX7_comesBack_92 : decode cX7_comesBack 92 = .ok (.getfield 7, 3) := by decide +kernel
theorem dX7_comesBack_95 : decode cX7_comesBack 95 = .ok (.bipush 10, 2) := by decide +kernel
theorem dX7_comesBack_97 : decode cX7_comesBack 97 = .ok (.bipush 6, 2) := by decide +kernel
theorem dX7_comesBack_99 : decode cX7_comesBack 99 = .ok (.iload_n 3, 1) := by decide +kernel
theorem dX7_comesBack_100 : decode cX7_comesBack 100 = .ok (.imul, 1) := by decide +kernel
theorem dX7_comesBack_101 : decode cX7_comesBack 101 = .ok (.iadd, 1) := by decide +kernel
theorem dX7_comesBack_102 : decode cX7_comesBack 102 = .ok (.iconst 1, 1) := by decide +kernel
theorem dX7_comesBack_103 : decode cX7_comesBack 103 = .ok (.iadd, 1) := by decide +kernel
theorem dX7_comesBack_104 : decode cX7_comesBack 104 = .ok (.dup2, 1) := by decide +kernel
theorem dX7_comesBack_105 : decode cX7_comesBack 105 = .ok (.iaload, 1) := by decide +kernel
theorem dX7_comesBack_106 : decode cX7_comesBack 106 = .ok (.iconst 1, 1) := by decide +kernel
theorem dX7_comesBack_107 : decode cX7_comesBack 107 = .ok (.iadd, 1) := by decide +kernel
theorem dX7_comesBack_108 : decode cX7_comesBack 108 = .ok (.iastore, 1) := by decide +kernel
theorem dX7_comesBack_109 : decode cX7_comesBack 109 = .ok (.aload_n 0, 1) := by decide +kernel
theorem dX7_comesBack_110 : decode cX7_comesBack 110 = .ok (.aload_n 0, 1) := by decide +kernel
theorem dX7_comesBack_111 : decode cX7_comesBack 111 = .ok (.iload_n 1, 1) := by decide +kernel
theorem dX7_comesBack_112 : decode cX7_comesBack 112 = .ok (.iconst 2, 1) := by decide +kernel
theorem dX7_comesBack_113 : decode cX7_comesBack 113 = .ok (.invokevirtual 54, 3) := by decide +kernel
theorem dX7_comesBack_116 : decode cX7_comesBack 116 = .ok (.invokevirtual 67, 3) := by decide +kernel
theorem dX7_comesBack_119 : decode cX7_comesBack 119 = .ok (.iconst 1, 1) := by decide +kernel
theorem dX7_comesBack_120 : decode cX7_comesBack 120 = .ok (.ireturn, 1) := by decide +kernel
theorem dX7_dropDue_0 : decode cX7_dropDue 0 = .ok (.iconst 0, 1) := by decide +kernel
theorem dX7_dropDue_1 : decode cX7_dropDue 1 = .ok (.istore_n 1, 1) := by decide +kernel
theorem dX7_dropDue_2 : decode cX7_dropDue 2 = .ok (.iconst 0, 1) := by decide +kernel
theorem dX7_dropDue_3 : decode cX7_dropDue 3 = .ok (.istore_n 2, 1) := by decide +kernel
theorem dX7_dropDue_4 : decode cX7_dropDue 4 = .ok (.iload_n 2, 1) := by decide +kernel
theorem dX7_dropDue_5 : decode cX7_dropDue 5 = .ok (.aload_n 0, 1) := by decide +kernel
theorem dX7_dropDue_6 : decode cX7_dropDue 6 = .ok (.getfield 7, 3) := by decide +kernel
theorem dX7_dropDue_9 : decode cX7_dropDue 9 = .ok (.bipush 9, 2) := by decide +kernel
theorem dX7_dropDue_11 : decode cX7_dropDue 11 = .ok (.iaload, 1) := by decide +kernel
theorem dX7_dropDue_12 : decode cX7_dropDue 12 = .ok (.if_icmp .ge 59, 3) := by decide +kernel
theorem dX7_dropDue_15 : decode cX7_dropDue 15 = .ok (.aload_n 0, 1) := by decide +kernel
theorem dX7_dropDue_16 : decode cX7_dropDue 16 = .ok (.iload_n 2, 1) := by decide +kernel
theorem dX7_dropDue_17 : decode cX7_dropDue 17 = .ok (.iconst 3, 1) := by decide +kernel
theorem dX7_dropDue_18 : decode cX7_dropDue 18 = .ok (.invokevirtual 54, 3) := by decide +kernel
theorem dX7_dropDue_21 : decode cX7_dropDue 21 = .ok (.aload_n 0, 1) := by decide +kernel
theorem dX7_dropDue_22 : decode cX7_dropDue 22 = .ok (.getfield 7, 3) := by decide +kernel
theorem dX7_dropDue_25 : decode cX7_dropDue 25 = .ok (.iconst 3, 1) := by decide +kernel
theorem dX7_dropDue_26 : decode cX7_dropDue 26 = .ok (.iaload, 1) := by decide +kernel
theorem dX7_dropDue_27 : decode cX7_dropDue 27 = .ok (.if_icmp .le 38, 3) := by decide +kernel
theorem dX7_dropDue_30 : decode cX7_dropDue 30 = .ok (.iconst 0, 1) := by decide +kernel
theorem dX7_dropDue_31 : decode cX7_dropDue 31 = .ok (.istore_n 3, 1) := by decide +kernel
theorem dX7_dropDue_32 : decode cX7_dropDue 32 = .ok (.iload_n 3, 1) := by decide +kernel
theorem dX7_dropDue_33 : decode cX7_dropDue 33 = .ok (.iconst 5, 1) := by decide +kernel
theorem dX7_dropDue_34 : decode cX7_dropDue 34 = .ok (.if_icmp .ge 28, 3) := by decide +kernel
theorem dX7_dropDue_37 : decode cX7_dropDue 37 = .ok (.aload_n 0, 1) := by decide +kernel
theorem dX7_dropDue_38 : decode cX7_dropDue 38 = .ok (.getfield 7, 3) := by decide +kernel
theorem dX7_dropDue_41 : decode cX7_dropDue 41 = .ok (.bipush 34, 2) := by decide +kernel
theorem dX7_dropDue_43 : decode cX7_dropDue 43 = .ok (.iconst 5, 1) := by decide +kernel
theorem dX7_dropDue_44 : decode cX7_dropDue 44 = .ok (.iload_n 1, 1) := by decide +kernel
theorem dX7_dropDue_45 : decode cX7_dropDue 45 = .ok (.imul, 1) := by decide +kernel
theorem dX7_dropDue_46 : decode cX7_dropDue 46 = .ok (.iadd, 1) := by decide +kernel
theorem dX7_dropDue_47 : decode cX7_dropDue 47 = .ok (.iload_n 3, 1) := by decide +kernel
theorem dX7_dropDue_48 : decode cX7_dropDue 48 = .ok (.iadd, 1) := by decide +kernel
theorem dX7_dropDue_49 : decode cX7_dropDue 49 = .ok (.aload_n 0, 1) := by decide +kernel
theorem dX7_dropDue_50 : decode cX7_dropDue 50 = .ok (.iload_n 2, 1) := by decide +kernel
theorem dX7_dropDue_51 : decode cX7_dropDue 51 = .ok (.iload_n 3, 1) := by decide +kernel
theorem dX7_dropDue_52 : decode cX7_dropDue 52 = .ok (.invokevirtual 54, 3) := by decide +kernel
theorem dX7_dropDue_55 : decode cX7_dropDue 55 = .ok (.iastore, 1) := by decide +kernel
theorem dX7_dropDue_56 : decode cX7_dropDue 56 = .ok (.iinc 3 1, 3) := by decide +kernel
theorem dX7_dropDue_59 : decode cX7_dropDue 59 = .ok (.goto (-27), 3) := by decide +kernel
theorem dX7_dropDue_62 : decode cX7_dropDue 62 = .ok (.iinc 1 1, 3) := by decide +kernel
theorem dX7_dropDue_65 : decode cX7_dropDue 65 = .ok (.iinc 2 1, 3) := by decide +kernel
theorem dX7_dropDue_68 : decode cX7_dropDue 68 = .ok (.goto (-64), 3) := by decide +kernel
theorem dX7_dropDue_71 : decode cX7_dropDue 71 = .ok (.aload_n 0, 1) := by decide +kernel
theorem dX7_dropDue_72 : decode cX7_dropDue 72 = .ok (.getfield 7, 3) := by decide +kernel
theorem dX7_dropDue_75 : decode cX7_dropDue 75 = .ok (.bipush 9, 2) := by decide +kernel
theorem dX7_dropDue_77 : decode cX7_dropDue 77 = .ok (.iload_n 1, 1) := by decide +kernel
theorem dX7_dropDue_78 : decode cX7_dropDue 78 = .ok (.iastore, 1) := by decide +kernel
theorem dX7_dropDue_79 : decode cX7_dropDue 79 = .ok (.return_, 1) := by decide +kernel
theorem dX7_turn_0 : decode cX7_turn 0 = .ok (.aload_n 0, 1) := by decide +kernel
theorem dX7_turn_1 : decode cX7_turn 1 = .ok (.getfield 7, 3) := by decide +kernel
theorem dX7_turn_4 : decode cX7_turn 4 = .ok (.iconst 3, 1) := by decide +kernel
theorem dX7_turn_5 : decode cX7_turn 5 = .ok (.dup2, 1) := by decide +kernel
theorem dX7_turn_6 : decode cX7_turn 6 = .ok (.iaload, 1) := by decide +kernel
theorem dX7_turn_7 : decode cX7_turn 7 = .ok (.iconst 1, 1) := by decide +kernel
theorem dX7_turn_8 : decode cX7_turn 8 = .ok (.iadd, 1) := by decide +kernel
theorem dX7_turn_9 : decode cX7_turn 9 = .ok (.iastore, 1) := by decide +kernel
theorem dX7_turn_10 : decode cX7_turn 10 = .ok (.aload_n 0, 1) := by decide +kernel
theorem dX7_turn_11 : decode cX7_turn 11 = .ok (.invokevirtual 71, 3) := by decide +kernel
theorem dX7_turn_14 : decode cX7_turn 14 = .ok (.aload_n 0, 1) := by decide +kernel
theorem dX7_turn_15 : decode cX7_turn 15 = .ok (.aload_n 0, 1) := by decide +kernel
theorem dX7_turn_16 : decode cX7_turn 16 = .ok (.getfield 7, 3) := by decide +kernel
theorem dX7_turn_19 : decode cX7_turn 19 = .ok (.iconst 5, 1) := by decide +kernel
theorem dX7_turn_20 : decode cX7_turn 20 = .ok (.iaload, 1) := by decide +kernel
theorem dX7_turn_21 : decode cX7_turn 21 = .ok (.invokevirtual 74, 3) := by decide +kernel
theorem dX7_turn_24 : decode cX7_turn 24 = .ok (.aload_n 0, 1) := by decide +kernel
theorem dX7_turn_25 : decode cX7_turn 25 = .ok (.getfield 7, 3) := by decide +kernel
theorem dX7_turn_28 : decode cX7_turn 28 = .ok (.iconst 4, 1) := by decide +kernel
theorem dX7_turn_29 : decode cX7_turn 29 = .ok (.aload_n 0, 1) := by decide +kernel
theorem dX7_turn_30 : decode cX7_turn 30 = .ok (.getfield 47, 3) := by decide +kernel
theorem dX7_turn_33 : decode cX7_turn 33 = .ok (.iastore, 1) := by decide +kernel
theorem dX7_turn_34 : decode cX7_turn 34 = .ok (.aload_n 0, 1) := by decide +kernel
theorem dX7_turn_35 : decode cX7_turn 35 = .ok (.getfield 7, 3) := by decide +kernel
theorem dX7_turn_38 : decode cX7_turn 38 = .ok (.bipush 6, 2) := by decide +kernel
theorem dX7_turn_40 : decode cX7_turn 40 = .ok (.aload_n 0, 1) := by decide +kernel
theorem dX7_turn_41 : decode cX7_turn 41 = .ok (.getfield 50, 3) := by decide +kernel
theorem dX7_turn_44 : decode cX7_turn 44 = .ok (.ifCond .eq 7, 3) := by decide +kernel
theorem dX7_turn_47 : decode cX7_turn 47 = .ok (.iconst 1, 1) := by decide +kernel
theorem dX7_turn_48 : decode cX7_turn 48 = .ok (.goto 4, 3) := by decide +kernel
theorem dX7_turn_51 : decode cX7_turn 51 = .ok (.iconst 0, 1) := by decide +kernel
theorem dX7_turn_52 : decode cX7_turn 52 = .ok (.iastore, 1) := by decide +kernel
theorem dX7_turn_53 : decode cX7_turn 53 = .ok (.iconst 0, 1) := by decide +kernel
theorem dX7_turn_54 : decode cX7_turn 54 = .ok (.istore_n 1, 1) := by decide +kernel
theorem dX7_turn_55 : decode cX7_turn 55 = .ok (.iconst 0, 1) := by decide +kernel
theorem dX7_turn_56 : decode cX7_turn 56 = .ok (.istore_n 2, 1) := by decide +kernel
theorem dX7_turn_57 : decode cX7_turn 57 = .ok (.iload_n 2, 1) := by decide +kernel
theorem dX7_turn_58 : decode cX7_turn 58 = .ok (.aload_n 0, 1) := by decide +kernel
theorem dX7_turn_59 : decode cX7_turn 59 = .ok (.getfield 7, 3) := by decide +kernel
theorem dX7_turn_62 : decode cX7_turn 62 = .ok (.iconst 0, 1) := by decide +kernel
theorem dX7_turn_63 : decode cX7_turn 63 = .ok (.iaload, 1) := by decide +kernel
theorem dX7_turn_64 : decode cX7_turn 64 = .ok (.if_icmp .gt 108, 3) := by decide +kernel
theorem dX7_turn_67 : decode cX7_turn 67 = .ok (.aload_n 0, 1) := by decide +kernel
theorem dX7_turn_68 : decode cX7_turn 68 = .ok (.iload_n 2, 1) := by decide +kernel
theorem dX7_turn_69 : decode cX7_turn 69 = .ok (.aload_n 0, 1) := by decide +kernel
theorem dX7_turn_70 : decode cX7_turn 70 = .ok (.getfield 7, 3) := by decide +kernel
theorem dX7_turn_73 : decode cX7_turn 73 = .ok (.iconst 3, 1) := by decide +kernel
theorem dX7_turn_74 : decode cX7_turn 74 = .ok (.iaload, 1) := by decide +kernel
theorem dX7_turn_75 : decode cX7_turn 75 = .ok (.invokevirtual 77, 3) := by decide +kernel
theorem dX7_turn_78 : decode cX7_turn 78 = .ok (.iconst 1, 1) := by decide +kernel
theorem dX7_turn_79 : decode cX7_turn 79 = .ok (.if_icmp .ne 7, 3) := by decide +kernel
theorem dX7_turn_82 : decode cX7_turn 82 = .ok (.iconst 1, 1) := by decide +kernel
theorem dX7_turn_83 : decode cX7_turn 83 = .ok (.goto 4, 3) := by decide +kernel
theorem dX7_turn_86 : decode cX7_turn 86 = .ok (.iconst 0, 1) := by decide +kernel
theorem dX7_turn_87 : decode cX7_turn 87 = .ok (.istore_n 3, 1) := by decide +kernel
theorem dX7_turn_88 : decode cX7_turn 88 = .ok (.iconst 0, 1) := by decide +kernel
theorem dX7_turn_89 : decode cX7_turn 89 = .ok (.istore 4, 2) := by decide +kernel
theorem dX7_turn_91 : decode cX7_turn 91 = .ok (.iload 4, 2) := by decide +kernel
theorem dX7_turn_93 : decode cX7_turn 93 = .ok (.aload_n 0, 1) := by decide +kernel
theorem dX7_turn_94 : decode cX7_turn 94 = .ok (.getfield 7, 3) := by decide +kernel
theorem dX7_turn_97 : decode cX7_turn 97 = .ok (.bipush 9, 2) := by decide +kernel
theorem dX7_turn_99 : decode cX7_turn 99 = .ok (.iaload, 1) := by decide +kernel
theorem dX7_turn_100 : decode cX7_turn 100 = .ok (.if_icmp .ge 66, 3) := by decide +kernel
theorem dX7_turn_103 : decode cX7_turn 103 = .ok (.aload_n 0, 1) := by decide +kernel
theorem dX7_turn_104 : decode cX7_turn 104 = .ok (.iload 4, 2) := by decide +kernel
theorem dX7_turn_106 : decode cX7_turn 106 = .ok (.iconst 1, 1) := by decide +kernel
theorem dX7_turn_107 : decode cX7_turn 107 = .ok (.invokevirtual 54, 3) := by decide +kernel
theorem dX7_turn_110 : decode cX7_turn 110 = .ok (.iload_n 2, 1) := by decide +kernel
theorem dX7_turn_111 : decode cX7_turn 111 = .ok (.if_icmp .ne 23, 3) := by decide +kernel
theorem dX7_turn_114 : decode cX7_turn 114 = .ok (.aload_n 0, 1) := by decide +kernel
theorem dX7_turn_115 : decode cX7_turn 115 = .ok (.iload 4, 2) := by decide +kernel
theorem dX7_turn_117 : decode cX7_turn 117 = .ok (.iconst 3, 1) := by decide +kernel
theorem dX7_turn_118 : decode cX7_turn 118 = .ok (.invokevirtual 54, 3) := by decide +kernel
theorem dX7_turn_121 : decode cX7_turn 121 = .ok (.aload_n 0, 1) := by decide +kernel
theorem dX7_turn_122 : decode cX7_turn 122 = .ok (.getfield 7, 3) := by decide +kernel
theorem dX7_turn_125 : decode cX7_turn 125 = .ok (.iconst 3, 1) := by decide +kernel
theorem dX7_turn_126 : decode cX7_turn 126 = .ok (.iaload, 1) := by decide +kernel
theorem dX7_turn_127 : decode cX7_turn 127 = .ok (.if_icmp .ne 7, 3) := by decide +kernel
theorem dX7_turn_130 : decode cX7_turn 130 = .ok (.iconst 1, 1) := by decide +kernel
theorem dX7_turn_131 : decode cX7_turn 131 = .ok (.goto 4, 3) := by decide +kernel
theorem dX7_turn_134 : decode cX7_turn 134 = .ok (.iconst 0, 1) := by decide +kernel
theorem dX7_turn_135 : decode cX7_turn 135 = .ok (.istore 5, 2) := by decide +kernel
theorem dX7_turn_137 : decode cX7_turn 137 = .ok (.iload_n 1, 1) := by decide +kernel
theorem dX7_turn_138 : decode cX7_turn 138 = .ok (.iload 5, 2) := by decide +kernel
theorem dX7_turn_140 : decode cX7_turn 140 = .ok (.ifCond .eq 17, 3) := by decide +kernel
theorem dX7_turn_143 : decode cX7_turn 143 = .ok (.aload_n 0, 1) := by decide +kernel
theorem dX7_turn_144 : decode cX7_turn 144 = .ok (.iload 4, 2) := by decide +kernel
theorem dX7_turn_146 : decode cX7_turn 146 = .ok (.iload_n 3, 1) := by decide +kernel
theorem dX7_turn_147 : decode cX7_turn 147 = .ok (.invokevirtual 80, 3) := by decide +kernel
theorem dX7_turn_150 : decode cX7_turn 150 = .ok (.ifCond .eq 7, 3) := by decide +kernel
theorem dX7_turn_153 : decode cX7_turn 153 = .ok (.iconst 1, 1) := by decide +kernel
theorem dX7_turn_154 : decode cX7_turn 154 = .ok (.goto 4, 3) := by decide +kernel
theorem dX7_turn_157 : decode cX7_turn 157 = .ok (.iconst 0, 1) := by decide +kernel
theorem dX7_turn_158 : decode cX7_turn 158 = .ok (.iadd, 1) := by decide +kernel
theorem dX7_turn_159 : decode cX7_turn 159 = .ok (.istore_n 1, 1) := by decide +kernel
theorem dX7_turn_160 : decode cX7_turn 160 = .ok (.iinc 4 1, 3) := by decide +kernel
theorem dX7_turn_163 : decode cX7_turn 163 = .ok (.goto (-72), 3) := by decide +kernel
theorem dX7_turn_166 : decode cX7_turn 166 = .ok (.iinc 2 1, 3) := by decide +kernel
theorem dX7_turn_169 : decode cX7_turn 169 = .ok (.goto (-112), 3) := by decide +kernel
theorem dX7_turn_172 : decode cX7_turn 172 = .ok (.aload_n 0, 1) := by decide +kernel
theorem dX7_turn_173 : decode cX7_turn 173 = .ok (.invokevirtual 84, 3) := by decide +kernel
theorem dX7_turn_176 : decode cX7_turn 176 = .ok (.iload_n 1, 1) := by decide +kernel
theorem dX7_turn_177 : decode cX7_turn 177 = .ok (.ireturn, 1) := by decide +kernel
theorem dX7_doesPass_0 : decode cX7_doesPass 0 = .ok (.iconst 0, 1) := by decide +kernel
theorem dX7_doesPass_1 : decode cX7_doesPass 1 = .ok (.istore_n 2, 1) := by decide +kernel
theorem dX7_doesPass_2 : decode cX7_doesPass 2 = .ok (.iconst 0, 1) := by decide +kernel
theorem dX7_doesPass_3 : decode cX7_doesPass 3 = .ok (.istore_n 3, 1) := by decide +kernel
theorem dX7_doesPass_4 : decode cX7_doesPass 4 = .ok (.iload_n 3, 1) := by decide +kernel
theorem dX7_doesPass_5 : decode cX7_doesPass 5 = .ok (.iload_n 1, 1) := by decide +kernel
theorem dX7_doesPass_6 : decode cX7_doesPass 6 = .ok (.if_icmp .ge 16, 3) := by decide +kernel
theorem dX7_doesPass_9 : decode cX7_doesPass 9 = .ok (.iload_n 2, 1) := by decide +kernel
theorem dX7_doesPass_10 : decode cX7_doesPass 10 = .ok (.aload_n 0, 1) := by decide +kernel
theorem dX7_doesPass_11 : decode cX7_doesPass 11 = .ok (.invokevirtual 87, 3) := by decide +kernel
theorem dX7_doesPass_14 : decode cX7_doesPass 14 = .ok (.iadd, 1) := by decide +kernel
theorem dX7_doesPass_15 : decode cX7_doesPass 15 = .ok (.istore_n 2, 1) := by decide +kernel
theorem dX7_doesPass_16 : decode cX7_doesPass 16 = .ok (.iinc 3 1, 3) := by decide +kernel
theorem dX7_doesPass_19 : decode cX7_doesPass 19 = .ok (.goto (-15), 3) := by decide +kernel
theorem dX7_doesPass_22 : decode cX7_doesPass 22 = .ok (.iload_n 2, 1) := by decide +kernel
theorem dX7_doesPass_23 : decode cX7_doesPass 23 = .ok (.ireturn, 1) := by decide +kernel
theorem dX7_call_0 : decode cX7_call 0 = .ok (.aload_n 0, 1) := by decide +kernel
theorem dX7_call_1 : decode cX7_call 1 = .ok (.iconst 0, 1) := by decide +kernel
theorem dX7_call_2 : decode cX7_call 2 = .ok (.putfield 25, 3) := by decide +kernel
theorem dX7_call_5 : decode cX7_call 5 = .ok (.iload_n 1, 1) := by decide +kernel
theorem dX7_call_6 : decode cX7_call 6 = .ok (.invokestatic 91, 3) := by decide +kernel
theorem dX7_call_9 : decode cX7_call 9 = .ok (.ifCond .ne 9, 3) := by decide +kernel
theorem dX7_call_12 : decode cX7_call 12 = .ok (.aload_n 0, 1) := by decide +kernel
theorem dX7_call_13 : decode cX7_call 13 = .ok (.iconst 1, 1) := by decide +kernel
theorem dX7_call_14 : decode cX7_call 14 = .ok (.invokevirtual 40, 3) := by decide +kernel
theorem dX7_call_17 : decode cX7_call 17 = .ok (.ireturn, 1) := by decide +kernel
theorem dX7_call_18 : decode cX7_call 18 = .ok (.iload_n 2, 1) := by decide +kernel
theorem dX7_call_19 : decode cX7_call 19 = .ok (.iconst 0, 1) := by decide +kernel
theorem dX7_call_20 : decode cX7_call 20 = .ok (.bipush 9, 2) := by decide +kernel
theorem dX7_call_22 : decode cX7_call 22 = .ok (.invokestatic 29, 3) := by decide +kernel
theorem dX7_call_25 : decode cX7_call 25 = .ok (.ifCond .ne 9, 3) := by decide +kernel
theorem dX7_call_28 : decode cX7_call 28 = .ok (.aload_n 0, 1) := by decide +kernel
theorem dX7_call_29 : decode cX7_call 29 = .ok (.iconst 2, 1) := by decide +kernel
theorem dX7_call_30 : decode cX7_call 30 = .ok (.invokevirtual 40, 3) := by decide +kernel
theorem dX7_call_33 : decode cX7_call 33 = .ok (.ireturn, 1) := by decide +kernel
theorem dX7_call_34 : decode cX7_call 34 = .ok (.aload_n 0, 1) := by decide +kernel
theorem dX7_call_35 : decode cX7_call 35 = .ok (.invokevirtual 44, 3) := by decide +kernel
theorem dX7_call_38 : decode cX7_call 38 = .ok (.aload_n 0, 1) := by decide +kernel
theorem dX7_call_39 : decode cX7_call 39 = .ok (.iload_n 1, 1) := by decide +kernel
theorem dX7_call_40 : decode cX7_call 40 = .ok (.iload_n 2, 1) := by decide +kernel
theorem dX7_call_41 : decode cX7_call 41 = .ok (.invokevirtual 95, 3) := by decide +kernel
theorem dX7_call_44 : decode cX7_call 44 = .ok (.ireturn, 1) := by decide +kernel
theorem dX7_walk_0 : decode cX7_walk 0 = .ok (.aload_n 0, 1) := by decide +kernel
theorem dX7_walk_1 : decode cX7_walk 1 = .ok (.iconst 0, 1) := by decide +kernel
theorem dX7_walk_2 : decode cX7_walk 2 = .ok (.putfield 25, 3) := by decide +kernel
theorem dX7_walk_5 : decode cX7_walk 5 = .ok (.iload_n 1, 1) := by decide +kernel
theorem dX7_walk_6 : decode cX7_walk 6 = .ok (.invokestatic 91, 3) := by decide +kernel
theorem dX7_walk_9 : decode cX7_walk 9 = .ok (.ifCond .ne 9, 3) := by decide +kernel
theorem dX7_walk_12 : decode cX7_walk 12 = .ok (.aload_n 0, 1) := by decide +kernel
theorem dX7_walk_13 : decode cX7_walk 13 = .ok (.iconst 1, 1) := by decide +kernel
theorem dX7_walk_14 : decode cX7_walk 14 = .ok (.invokevirtual 40, 3) := by decide +kernel
theorem dX7_walk_17 : decode cX7_walk 17 = .ok (.ireturn, 1) := by decide +kernel
theorem dX7_walk_18 : decode cX7_walk 18 = .ok (.iload_n 2, 1) := by decide +kernel
theorem dX7_walk_19 : decode cX7_walk 19 = .ok (.bipush (-9), 2) := by decide +kernel
theorem dX7_walk_21 : decode cX7_walk 21 = .ok (.bipush 9, 2) := by decide +kernel
theorem dX7_walk_23 : decode cX7_walk 23 = .ok (.invokestatic 29, 3) := by decide +kernel
theorem dX7_walk_26 : decode cX7_walk 26 = .ok (.ifCond .ne 9, 3) := by decide +kernel
theorem dX7_walk_29 : decode cX7_walk 29 = .ok (.aload_n 0, 1) := by decide +kernel
theorem dX7_walk_30 : decode cX7_walk 30 = .ok (.iconst 2, 1) := by decide +kernel
theorem dX7_walk_31 : decode cX7_walk 31 = .ok (.invokevirtual 40, 3) := by decide +kernel
theorem dX7_walk_34 : decode cX7_walk 34 = .ok (.ireturn, 1) := by decide +kernel
theorem dX7_walk_35 : decode cX7_walk 35 = .ok (.aload_n 0, 1) := by decide +kernel
theorem dX7_walk_36 : decode cX7_walk 36 = .ok (.invokevirtual 44, 3) := by decide +kernel
theorem dX7_walk_39 : decode cX7_walk 39 = .ok (.aload_n 0, 1) := by decide +kernel
theorem dX7_walk_40 : decode cX7_walk 40 = .ok (.iload_n 1, 1) := by decide +kernel
theorem dX7_walk_41 : decode cX7_walk 41 = .ok (.iload_n 2, 1) := by decide +kernel
theorem dX7_walk_42 : decode cX7_walk 42 = .ok (.invokevirtual 98, 3) := by decide +kernel
theorem dX7_walk_45 : decode cX7_walk 45 = .ok (.ireturn, 1) := by decide +kernel
theorem dX7_throwBall_0 : decode cX7_throwBall 0 = .ok (.aload_n 0, 1) := by decide +kernel
theorem dX7_throwBall_1 : decode cX7_throwBall 1 = .ok (.iconst 0, 1) := by decide +kernel
theorem dX7_throwBall_2 : decode cX7_throwBall 2 = .ok (.putfield 25, 3) := by decide +kernel
theorem dX7_throwBall_5 : decode cX7_throwBall 5 = .ok (.iload_n 1, 1) := by decide +kernel
theorem dX7_throwBall_6 : decode cX7_throwBall 6 = .ok (.iconst 0, 1) := by decide +kernel
theorem dX7_throwBall_7 : decode cX7_throwBall 7 = .ok (.aload_n 0, 1) := by decide +kernel
theorem dX7_throwBall_8 : decode cX7_throwBall 8 = .ok (.getfield 7, 3) := by decide +kernel
theorem dX7_throwBall_11 : decode cX7_throwBall 11 = .ok (.iconst 0, 1) := by decide +kernel
theorem dX7_throwBall_12 : decode cX7_throwBall 12 = .ok (.iaload, 1) := by decide +kernel
theorem dX7_throwBall_13 : decode cX7_throwBall 13 = .ok (.invokestatic 29, 3) := by decide +kernel
theorem dX7_throwBall_16 : decode cX7_throwBall 16 = .ok (.ifCond .eq 13, 3) := by decide +kernel
theorem dX7_throwBall_19 : decode cX7_throwBall 19 = .ok (.iload_n 2, 1) := by decide +kernel
theorem dX7_throwBall_20 : decode cX7_throwBall 20 = .ok (.iconst 1, 1) := by decide +kernel
theorem dX7_throwBall_21 : decode cX7_throwBall 21 = .ok (.bipush 9, 2) := by decide +kernel
theorem dX7_throwBall_23 : decode cX7_throwBall 23 = .ok (.invokestatic 29, 3) := by decide +kernel
theorem dX7_throwBall_26 : decode cX7_throwBall 26 = .ok (.ifCond .ne 9, 3) := by decide +kernel
theorem dX7_throwBall_29 : decode cX7_throwBall 29 = .ok (.aload_n 0, 1) := by decide +kernel
theorem dX7_throwBall_30 : decode cX7_throwBall 30 = .ok (.iconst 1, 1) := by decide +kernel
theorem dX7_throwBall_31 : decode cX7_throwBall 31 = .ok (.invokevirtual 40, 3) := by decide +kernel
theorem dX7_throwBall_34 : decode cX7_throwBall 34 = .ok (.ireturn, 1) := by decide +kernel
theorem dX7_throwBall_35 : decode cX7_throwBall 35 = .ok (.aload_n 0, 1) := by decide +kernel
theorem dX7_throwBall_36 : decode cX7_throwBall 36 = .ok (.invokevirtual 44, 3) := by decide +kernel
theorem dX7_throwBall_39 : decode cX7_throwBall 39 = .ok (.aload_n 0, 1) := by decide +kernel
theorem dX7_throwBall_40 : decode cX7_throwBall 40 = .ok (.getfield 7, 3) := by decide +kernel
theorem dX7_throwBall_43 : decode cX7_throwBall 43 = .ok (.iconst 4, 1) := by decide +kernel
theorem dX7_throwBall_44 : decode cX7_throwBall 44 = .ok (.iaload, 1) := by decide +kernel
theorem dX7_throwBall_45 : decode cX7_throwBall 45 = .ok (.istore 4, 2) := by decide +kernel
theorem dX7_throwBall_47 : decode cX7_throwBall 47 = .ok (.aload_n 0, 1) := by decide +kernel
theorem dX7_throwBall_48 : decode cX7_throwBall 48 = .ok (.getfield 7, 3) := by decide +kernel
theorem dX7_throwBall_51 : decode cX7_throwBall 51 = .ok (.iconst 4, 1) := by decide +kernel
theorem dX7_throwBall_52 : decode cX7_throwBall 52 = .ok (.iload_n 1, 1) := by decide +kernel
theorem dX7_throwBall_53 : decode cX7_throwBall 53 = .ok (.iastore, 1) := by decide +kernel
theorem dX7_throwBall_54 : decode cX7_throwBall 54 = .ok (.aload_n 0, 1) := by decide +kernel
theorem dX7_throwBall_55 : decode cX7_throwBall 55 = .ok (.getfield 7, 3) := by decide +kernel
theorem dX7_throwBall_58 : decode cX7_throwBall 58 = .ok (.iconst 5, 1) := by decide +kernel
theorem dX7_throwBall_59 : decode cX7_throwBall 59 = .ok (.iload_n 2, 1) := by decide +kernel
theorem dX7_throwBall_60 : decode cX7_throwBall 60 = .ok (.iastore, 1) := by decide +kernel
theorem dX7_throwBall_61 : decode cX7_throwBall 61 = .ok (.aload_n 0, 1) := by decide +kernel
theorem dX7_throwBall_62 : decode cX7_throwBall 62 = .ok (.getfield 7, 3) := by decide +kernel
theorem dX7_throwBall_65 : decode cX7_throwBall 65 = .ok (.bipush 6, 2) := by decide +kernel
theorem dX7_throwBall_67 : decode cX7_throwBall 67 = .ok (.iload_n 3, 1) := by decide +kernel
theorem dX7_throwBall_68 : decode cX7_throwBall 68 = .ok (.ifCond .eq 7, 3) := by decide +kernel
theorem dX7_throwBall_71 : decode cX7_throwBall 71 = .ok (.iconst 1, 1) := by decide +kernel
theorem dX7_throwBall_72 : decode cX7_throwBall 72 = .ok (.goto 4, 3) := by decide +kernel
theorem dX7_throwBall_75 : decode cX7_throwBall 75 = .ok (.iconst 0, 1) := by decide +kernel
theorem dX7_throwBall_76 : decode cX7_throwBall 76 = .ok (.iastore, 1) := by decide +kernel
theorem dX7_throwBall_77 : decode cX7_throwBall 77 = .ok (.iload 4, 2) := by decide +kernel
theorem dX7_throwBall_79 : decode cX7_throwBall 79 = .ok (.ireturn, 1) := by decide +kernel
theorem dX7_hasRoom_0 : decode cX7_hasRoom 0 = .ok (.aload_n 0, 1) := by decide +kernel
theorem dX7_hasRoom_1 : decode cX7_hasRoom 1 = .ok (.getfield 7, 3) := by decide +kernel
theorem dX7_hasRoom_4 : decode cX7_hasRoom 4 = .ok (.iconst 4, 1) := by decide +kernel
theorem dX7_hasRoom_5 : decode cX7_hasRoom 5 = .ok (.iaload, 1) := by decide +kernel
theorem dX7_hasRoom_6 : decode cX7_hasRoom 6 = .ok (.iload_n 1, 1) := by decide +kernel
theorem dX7_hasRoom_7 : decode cX7_hasRoom 7 = .ok (.if_icmp .gt 7, 3) := by decide +kernel
theorem dX7_hasRoom_10 : decode cX7_hasRoom 10 = .ok (.iconst 1, 1) := by decide +kernel
theorem dX7_hasRoom_11 : decode cX7_hasRoom 11 = .ok (.goto 4, 3) := by decide +kernel
theorem dX7_hasRoom_14 : decode cX7_hasRoom 14 = .ok (.iconst 0, 1) := by decide +kernel
theorem dX7_hasRoom_15 : decode cX7_hasRoom 15 = .ok (.istore_n 2, 1) := by decide +kernel
theorem dX7_hasRoom_16 : decode cX7_hasRoom 16 = .ok (.iconst 0, 1) := by decide +kernel
theorem dX7_hasRoom_17 : decode cX7_hasRoom 17 = .ok (.istore_n 3, 1) := by decide +kernel
theorem dX7_hasRoom_18 : decode cX7_hasRoom 18 = .ok (.iload_n 3, 1) := by decide +kernel
theorem dX7_hasRoom_19 : decode cX7_hasRoom 19 = .ok (.iconst 4, 1) := by decide +kernel
theorem dX7_hasRoom_20 : decode cX7_hasRoom 20 = .ok (.if_icmp .ge 29, 3) := by decide +kernel
theorem dX7_hasRoom_23 : decode cX7_hasRoom 23 = .ok (.iload_n 2, 1) := by decide +kernel
theorem dX7_hasRoom_24 : decode cX7_hasRoom 24 = .ok (.ifCond .eq 17, 3) := by decide +kernel
theorem dX7_hasRoom_27 : decode cX7_hasRoom 27 = .ok (.aload_n 0, 1) := by decide +kernel
theorem dX7_hasRoom_28 : decode cX7_hasRoom 28 = .ok (.iload_n 3, 1) := by decide +kernel
theorem dX7_hasRoom_29 : decode cX7_hasRoom 29 = .ok (.iconst 0, 1) := by decide +kernel
theorem dX7_hasRoom_30 : decode cX7_hasRoom 30 = .ok (.invokevirtual 33, 3) := by decide +kernel
theorem dX7_hasRoom_33 : decode cX7_hasRoom 33 = .ok (.iload_n 1, 1) := by decide +kernel
theorem dX7_hasRoom_34 : decode cX7_hasRoom 34 = .ok (.if_icmp .gt 7, 3) := by decide +kernel
theorem dX7_hasRoom_37 : decode cX7_hasRoom 37 = .ok (.iconst 1, 1) := by decide +kernel
theorem dX7_hasRoom_38 : decode cX7_hasRoom 38 = .ok (.goto 4, 3) := by decide +kernel
theorem dX7_hasRoom_41 : decode cX7_hasRoom 41 = .ok (.iconst 0, 1) := by decide +kernel
theorem dX7_hasRoom_42 : decode cX7_hasRoom 42 = .ok (.istore_n 2, 1) := by decide +kernel
theorem dX7_hasRoom_43 : decode cX7_hasRoom 43 = .ok (.iinc 3 1, 3) := by decide +kernel
theorem dX7_hasRoom_46 : decode cX7_hasRoom 46 = .ok (.goto (-28), 3) := by decide +kernel
theorem dX7_hasRoom_49 : decode cX7_hasRoom 49 = .ok (.iconst 0, 1) := by decide +kernel
theorem dX7_hasRoom_50 : decode cX7_hasRoom 50 = .ok (.istore_n 3, 1) := by decide +kernel
theorem dX7_hasRoom_51 : decode cX7_hasRoom 51 = .ok (.iload_n 3, 1) := by decide +kernel
theorem dX7_hasRoom_52 : decode cX7_hasRoom 52 = .ok (.aload_n 0, 1) := by decide +kernel
theorem dX7_hasRoom_53 : decode cX7_hasRoom 53 = .ok (.getfield 7, 3) := by decide +kernel
theorem dX7_hasRoom_56 : decode cX7_hasRoom 56 = .ok (.bipush 9, 2) := by decide +kernel
theorem dX7_hasRoom_58 : decode cX7_hasRoom 58 = .ok (.iaload, 1) := by decide +kernel
theorem dX7_hasRoom_59 : decode cX7_hasRoom 59 = .ok (.if_icmp .ge 29, 3) := by decide +kernel
theorem dX7_hasRoom_62 : decode cX7_hasRoom 62 = .ok (.iload_n 2, 1) := by decide +kernel
theorem dX7_hasRoom_63 : decode cX7_hasRoom 63 = .ok (.ifCond .eq 17, 3) := by decide +kernel
theorem dX7_hasRoom_66 : decode cX7_hasRoom 66 = .ok (.aload_n 0, 1) := by decide +kernel
theorem dX7_hasRoom_67 : decode cX7_hasRoom 67 = .ok (.iload_n 3, 1) := by decide +kernel
theorem dX7_hasRoom_68 : decode cX7_hasRoom 68 = .ok (.iconst 1, 1) := by decide +kernel
theorem dX7_hasRoom_69 : decode cX7_hasRoom 69 = .ok (.invokevirtual 54, 3) := by decide +kernel
theorem dX7_hasRoom_72 : decode cX7_hasRoom 72 = .ok (.iload_n 1, 1) := by decide +kernel
theorem dX7_hasRoom_73 : decode cX7_hasRoom 73 = .ok (.if_icmp .gt 7, 3) := by decide +kernel
theorem dX7_hasRoom_76 : decode cX7_hasRoom 76 = .ok (.iconst 1, 1) := by decide +kernel
theorem dX7_hasRoom_77 : decode cX7_hasRoom 77 = .ok (.goto 4, 3) := by decide +kernel
theorem dX7_hasRoom_80 : decode cX7_hasRoom 80 = .ok (.iconst 0, 1) := by decide +kernel
theorem dX7_hasRoom_81 : decode cX7_hasRoom 81 = .ok (.istore_n 2, 1) := by decide +kernel
theorem dX7_hasRoom_82 : decode cX7_hasRoom 82 = .ok (.iinc 3 1, 3) := by decide +kernel
theorem dX7_hasRoom_85 : decode cX7_hasRoom 85 = .ok (.goto (-34), 3) := by decide +kernel
theorem dX7_hasRoom_88 : decode cX7_hasRoom 88 = .ok (.iload_n 2, 1) := by decide +kernel
theorem dX7_hasRoom_89 : decode cX7_hasRoom 89 = .ok (.ireturn, 1) := by decide +kernel
theorem dX7_set_0 : decode cX7_set 0 = .ok (.aload_n 0, 1) := by decide +kernel
theorem dX7_set_1 : decode cX7_set 1 = .ok (.iconst 0, 1) := by decide +kernel
theorem dX7_set_2 : decode cX7_set 2 = .ok (.putfield 25, 3) := by decide +kernel
theorem dX7_set_5 : decode cX7_set 5 = .ok (.iload_n 1, 1) := by decide +kernel
theorem dX7_set_6 : decode cX7_set 6 = .ok (.iconst 0, 1) := by decide +kernel
theorem dX7_set_7 : decode cX7_set 7 = .ok (.iconst 2, 1) := by decide +kernel
theorem dX7_set_8 : decode cX7_set 8 = .ok (.invokestatic 29, 3) := by decide +kernel
theorem dX7_set_11 : decode cX7_set 11 = .ok (.ifCond .ne 9, 3) := by decide +kernel
theorem dX7_set_14 : decode cX7_set 14 = .ok (.aload_n 0, 1) := by decide +kernel
theorem dX7_set_15 : decode cX7_set 15 = .ok (.iconst 1, 1) := by decide +kernel
theorem dX7_set_16 : decode cX7_set 16 = .ok (.invokevirtual 40, 3) := by decide +kernel
theorem dX7_set_19 : decode cX7_set 19 = .ok (.ireturn, 1) := by decide +kernel
theorem dX7_set_20 : decode cX7_set 20 = .ok (.iload_n 1, 1) := by decide +kernel
theorem dX7_set_21 : decode cX7_set 21 = .ok (.ifCond .ne 8, 3) := by decide +kernel
theorem dX7_set_24 : decode cX7_set 24 = .ok (.bipush 8, 2) := by decide +kernel
theorem dX7_set_26 : decode cX7_set 26 = .ok (.goto 13, 3) := by decide +kernel
theorem dX7_set_29 : decode cX7_set 29 = .ok (.iload_n 1, 1) := by decide +kernel
theorem dX7_set_30 : decode cX7_set 30 = .ok (.iconst 1, 1) := by decide +kernel
theorem dX7_set_31 : decode cX7_set 31 = .ok (.if_icmp .ne 7, 3) := by decide +kernel
theorem dX7_set_34 : decode cX7_set 34 = .ok (.iconst 1, 1) := by decide +kernel
theorem dX7_set_35 : decode cX7_set 35 = .ok (.goto 4, 3) := by decide +kernel
theorem dX7_set_38 : decode cX7_set 38 = .ok (.iconst 0, 1) := by decide +kernel
theorem dX7_set_39 : decode cX7_set 39 = .ok (.istore_n 3, 1) := by decide +kernel
theorem dX7_set_40 : decode cX7_set 40 = .ok (.iload_n 1, 1) := by decide +kernel
theorem dX7_set_41 : decode cX7_set 41 = .ok (.ifCond .ne 8, 3) := by decide +kernel
theorem dX7_set_44 : decode cX7_set 44 = .ok (.bipush 40, 2) := by decide +kernel
theorem dX7_set_46 : decode cX7_set 46 = .ok (.goto 14, 3) := by decide +kernel
theorem dX7_set_49 : decode cX7_set 49 = .ok (.iload_n 1, 1) := by decide +kernel
theorem dX7_set_50 : decode cX7_set 50 = .ok (.iconst 1, 1) := by decide +kernel
theorem dX7_set_51 : decode cX7_set 51 = .ok (.if_icmp .ne 8, 3) := by decide +kernel
theorem dX7_set_54 : decode cX7_set 54 = .ok (.bipush 9, 2) := by decide +kernel
theorem dX7_set_56 : decode cX7_set 56 = .ok (.goto 4, 3) := by decide +kernel
theorem dX7_set_59 : decode cX7_set 59 = .ok (.iconst 5, 1) := by decide +kernel
theorem dX7_set_60 : decode cX7_set 60 = .ok (.istore 4, 2) := by decide +kernel
theorem dX7_set_62 : decode cX7_set 62 = .ok (.iload_n 2, 1) := by decide +kernel
theorem dX7_set_63 : decode cX7_set 63 = .ok (.iload_n 3, 1) := by decide +kernel
theorem dX7_set_64 : decode cX7_set 64 = .ok (.iload 4, 2) := by decide +kernel
theorem dX7_set_66 : decode cX7_set 66 = .ok (.invokestatic 29, 3) := by decide +kernel
theorem dX7_set_69 : decode cX7_set 69 = .ok (.ifCond .ne 9, 3) := by decide +kernel
theorem dX7_set_72 : decode cX7_set 72 = .ok (.aload_n 0, 1) := by decide +kernel
theorem dX7_set_73 : decode cX7_set 73 = .ok (.iconst 2, 1) := by decide +kernel
theorem dX7_set_74 : decode cX7_set 74 = .ok (.invokevirtual 40, 3) := by decide +kernel
theorem dX7_set_77 : decode cX7_set 77 = .ok (.ireturn, 1) := by decide +kernel
theorem dX7_set_78 : decode cX7_set 78 = .ok (.iload_n 1, 1) := by decide +kernel
theorem dX7_set_79 : decode cX7_set 79 = .ok (.ifCond .ne 17, 3) := by decide +kernel
theorem dX7_set_82 : decode cX7_set 82 = .ok (.aload_n 0, 1) := by decide +kernel
theorem dX7_set_83 : decode cX7_set 83 = .ok (.iload_n 2, 1) := by decide +kernel
theorem dX7_set_84 : decode cX7_set 84 = .ok (.invokevirtual 101, 3) := by decide +kernel
theorem dX7_set_87 : decode cX7_set 87 = .ok (.ifCond .ne 9, 3) := by decide +kernel
theorem dX7_set_90 : decode cX7_set 90 = .ok (.aload_n 0, 1) := by decide +kernel
theorem dX7_set_91 : decode cX7_set 91 = .ok (.iconst 3, 1) := by decide +kernel
theorem dX7_set_92 : decode cX7_set 92 = .ok (.invokevirtual 40, 3) := by decide +kernel
theorem dX7_set_95 : decode cX7_set 95 = .ok (.ireturn, 1) := by decide +kernel
theorem dX7_set_96 : decode cX7_set 96 = .ok (.aload_n 0, 1) := by decide +kernel
theorem dX7_set_97 : decode cX7_set 97 = .ok (.invokevirtual 44, 3) := by decide +kernel
theorem dX7_set_100 : decode cX7_set 100 = .ok (.aload_n 0, 1) := by decide +kernel
theorem dX7_set_101 : decode cX7_set 101 = .ok (.getfield 7, 3) := by decide +kernel
theorem dX7_set_104 : decode cX7_set 104 = .ok (.iload_n 1, 1) := by decide +kernel
theorem dX7_set_105 : decode cX7_set 105 = .ok (.iaload, 1) := by decide +kernel
theorem dX7_set_106 : decode cX7_set 106 = .ok (.istore 5, 2) := by decide +kernel
theorem dX7_set_108 : decode cX7_set 108 = .ok (.aload_n 0, 1) := by decide +kernel
theorem dX7_set_109 : decode cX7_set 109 = .ok (.getfield 7, 3) := by decide +kernel
theorem dX7_set_112 : decode cX7_set 112 = .ok (.iload_n 1, 1) := by decide +kernel
theorem dX7_set_113 : decode cX7_set 113 = .ok (.iload_n 2, 1) := by decide +kernel
theorem dX7_set_114 : decode cX7_set 114 = .ok (.iastore, 1) := by decide +kernel
theorem dX7_set_115 : decode cX7_set 115 = .ok (.iload 5, 2) := by decide +kernel
theorem dX7_set_117 : decode cX7_set 117 = .ok (.ireturn, 1) := by decide +kernel
theorem dX7_pass_0 : decode cX7_pass 0 = .ok (.aload_n 0, 1) := by decide +kernel
theorem dX7_pass_1 : decode cX7_pass 1 = .ok (.iconst 0, 1) := by decide +kernel
theorem dX7_pass_2 : decode cX7_pass 2 = .ok (.putfield 25, 3) := by decide +kernel
theorem dX7_pass_5 : decode cX7_pass 5 = .ok (.iload_n 1, 1) := by decide +kernel
theorem dX7_pass_6 : decode cX7_pass 6 = .ok (.iconst 1, 1) := by decide +kernel
theorem dX7_pass_7 : decode cX7_pass 7 = .ok (.bipush 99, 2) := by decide +kernel
theorem dX7_pass_9 : decode cX7_pass 9 = .ok (.invokestatic 29, 3) := by decide +kernel
theorem dX7_pass_12 : decode cX7_pass 12 = .ok (.ifCond .ne 9, 3) := by decide +kernel
theorem dX7_pass_15 : decode cX7_pass 15 = .ok (.aload_n 0, 1) := by decide +kernel
theorem dX7_pass_16 : decode cX7_pass 16 = .ok (.iconst 1, 1) := by decide +kernel
theorem dX7_pass_17 : decode cX7_pass 17 = .ok (.invokevirtual 40, 3) := by decide +kernel
theorem dX7_pass_20 : decode cX7_pass 20 = .ok (.ireturn, 1) := by decide +kernel
theorem dX7_pass_21 : decode cX7_pass 21 = .ok (.aload_n 0, 1) := by decide +kernel
theorem dX7_pass_22 : decode cX7_pass 22 = .ok (.getfield 7, 3) := by decide +kernel
theorem dX7_pass_25 : decode cX7_pass 25 = .ok (.iconst 3, 1) := by decide +kernel
theorem dX7_pass_26 : decode cX7_pass 26 = .ok (.iaload, 1) := by decide +kernel
theorem dX7_pass_27 : decode cX7_pass 27 = .ok (.iload_n 1, 1) := by decide +kernel
theorem dX7_pass_28 : decode cX7_pass 28 = .ok (.iadd, 1) := by decide +kernel
theorem dX7_pass_29 : decode cX7_pass 29 = .ok (.ldc 104, 2) := by decide +kernel
theorem dX7_pass_31 : decode cX7_pass 31 = .ok (.if_icmp .le 9, 3) := by decide +kernel
theorem dX7_pass_34 : decode cX7_pass 34 = .ok (.aload_n 0, 1) := by decide +kernel
theorem dX7_pass_35 : decode cX7_pass 35 = .ok (.iconst 2, 1) := by decide +kernel
theorem dX7_pass_36 : decode cX7_pass 36 = .ok (.invokevirtual 40, 3) := by decide +kernel
theorem dX7_pass_39 : decode cX7_pass 39 = .ok (.ireturn, 1) := by decide +kernel
theorem dX7_pass_40 : decode cX7_pass 40 = .ok (.aload_n 0, 1) := by decide +kernel
theorem dX7_pass_41 : decode cX7_pass 41 = .ok (.invokevirtual 44, 3) := by decide +kernel
theorem dX7_pass_44 : decode cX7_pass 44 = .ok (.aload_n 0, 1) := by decide +kernel
theorem dX7_pass_45 : decode cX7_pass 45 = .ok (.iload_n 1, 1) := by decide +kernel
theorem dX7_pass_46 : decode cX7_pass 46 = .ok (.invokevirtual 105, 3) := by decide +kernel
theorem dX7_pass_49 : decode cX7_pass 49 = .ok (.ireturn, 1) := by decide +kernel
theorem dX7_append_0 : decode cX7_append 0 = .ok (.aload_n 0, 1) := by decide +kernel
theorem dX7_append_1 : decode cX7_append 1 = .ok (.iconst 0, 1) := by decide +kernel
theorem dX7_append_2 : decode cX7_append 2 = .ok (.putfield 25, 3) := by decide +kernel
theorem dX7_append_5 : decode cX7_append 5 = .ok (.iload_n 1, 1) := by decide +kernel
theorem dX7_append_6 : decode cX7_append 6 = .ok (.bipush 33, 2) := by decide +kernel
theorem dX7_append_8 : decode cX7_append 8 = .ok (.bipush 126, 2) := by decide +kernel
theorem dX7_append_10 : decode cX7_append 10 = .ok (.invokestatic 29, 3) := by decide +kernel
theorem dX7_append_13 : decode cX7_append 13 = .ok (.ifCond .ne 9, 3) := by decide +kernel
theorem dX7_append_16 : decode cX7_append 16 = .ok (.aload_n 0, 1) := by decide +kernel
theorem dX7_append_17 : decode cX7_append 17 = .ok (.iconst 1, 1) := by decide +kernel
theorem dX7_append_18 : decode cX7_append 18 = .ok (.invokevirtual 40, 3) := by decide +kernel
theorem dX7_append_21 : decode cX7_append 21 = .ok (.ireturn, 1) := by decide +kernel
theorem dX7_append_22 : decode cX7_append 22 = .ok (.aload_n 0, 1) := by decide +kernel
theorem dX7_append_23 : decode cX7_append 23 = .ok (.getfield 108, 3) := by decide +kernel
theorem dX7_append_26 : decode cX7_append 26 = .ok (.bipush 60, 2) := by decide +kernel
theorem dX7_append_28 : decode cX7_append 28 = .ok (.if_icmp .ne 9, 3) := by decide +kernel
theorem dX7_append_31 : decode cX7_append 31 = .ok (.aload_n 0, 1) := by decide +kernel
theorem dX7_append_32 : decode cX7_append 32 = .ok (.iconst 2, 1) := by decide +kernel
theorem dX7_append_33 : decode cX7_append 33 = .ok (.invokevirtual 40, 3) := by decide +kernel
theorem dX7_append_36 : decode cX7_append 36 = .ok (.ireturn, 1) := by decide +kernel
theorem dX7_append_37 : decode cX7_append 37 = .ok (.aload_n 0, 1) := by decide +kernel
theorem dX7_append_38 : decode cX7_append 38 = .ok (.getfield 22, 3) := by decide +kernel
theorem dX7_append_41 : decode cX7_append 41 = .ok (.aload_n 0, 1) := by decide +kernel
theorem dX7_append_42 : decode cX7_append 42 = .ok (.getfield 108, 3) := by decide +kernel
theorem dX7_append_45 : decode cX7_append 45 = .ok (.iload_n 1, 1) := by decide +kernel
theorem dX7_append_46 : decode cX7_append 46 = .ok (.iastore, 1) := by decide +kernel
theorem dX7_append_47 : decode cX7_append 47 = .ok (.aload_n 0, 1) := by decide +kernel
theorem dX7_append_48 : decode cX7_append 48 = .ok (.dup, 1) := by decide +kernel
theorem dX7_append_49 : decode cX7_append 49 = .ok (.getfield 108, 3) := by decide +kernel
theorem dX7_append_52 : decode cX7_append 52 = .ok (.iconst 1, 1) := by decide +kernel
theorem dX7_append_53 : decode cX7_append 53 = .ok (.iadd, 1) := by decide +kernel
theorem dX7_append_54 : decode cX7_append 54 = .ok (.putfield 108, 3) := by decide +kernel
theorem dX7_append_57 : decode cX7_append 57 = .ok (.aload_n 0, 1) := by decide +kernel
theorem dX7_append_58 : decode cX7_append 58 = .ok (.getfield 108, 3) := by decide +kernel
theorem dX7_append_61 : decode cX7_append 61 = .ok (.ireturn, 1) := by decide +kernel
theorem dX7_clearBuffer_0 : decode cX7_clearBuffer 0 = .ok (.aload_n 0, 1) := by decide +kernel
theorem dX7_clearBuffer_1 : decode cX7_clearBuffer 1 = .ok (.iconst 0, 1) := by decide +kernel
theorem dX7_clearBuffer_2 : decode cX7_clearBuffer 2 = .ok (.putfield 25, 3) := by decide +kernel
theorem dX7_clearBuffer_5 : decode cX7_clearBuffer 5 = .ok (.aload_n 0, 1) := by decide +kernel
theorem dX7_clearBuffer_6 : decode cX7_clearBuffer 6 = .ok (.getfield 108, 3) := by decide +kernel
theorem dX7_clearBuffer_9 : decode cX7_clearBuffer 9 = .ok (.istore_n 1, 1) := by decide +kernel
theorem dX7_clearBuffer_10 : decode cX7_clearBuffer 10 = .ok (.aload_n 0, 1) := by decide +kernel
theorem dX7_clearBuffer_11 : decode cX7_clearBuffer 11 = .ok (.iconst 0, 1) := by decide +kernel
theorem dX7_clearBuffer_12 : decode cX7_clearBuffer 12 = .ok (.putfield 108, 3) := by decide +kernel
theorem dX7_clearBuffer_15 : decode cX7_clearBuffer 15 = .ok (.iload_n 1, 1) := by decide +kernel
theorem dX7_clearBuffer_16 : decode cX7_clearBuffer 16 = .ok (.ireturn, 1) := by decide +kernel
theorem dX7_next_0 : decode cX7_next 0 = .ok (.aload_n 0, 1) := by decide +kernel
theorem dX7_next_1 : decode cX7_next 1 = .ok (.getfield 111, 3) := by decide +kernel
theorem dX7_next_4 : decode cX7_next 4 = .ok (.aload_n 0, 1) := by decide +kernel
theorem dX7_next_5 : decode cX7_next 5 = .ok (.getfield 108, 3) := by decide +kernel
theorem dX7_next_8 : decode cX7_next 8 = .ok (.if_icmp .ge 15, 3) := by decide +kernel
theorem dX7_next_11 : decode cX7_next 11 = .ok (.aload_n 0, 1) := by decide +kernel
theorem dX7_next_12 : decode cX7_next 12 = .ok (.getfield 22, 3) := by decide +kernel
theorem dX7_next_15 : decode cX7_next 15 = .ok (.aload_n 0, 1) := by decide +kernel
theorem dX7_next_16 : decode cX7_next 16 = .ok (.getfield 111, 3) := by decide +kernel
theorem dX7_next_19 : decode cX7_next 19 = .ok (.iaload, 1) := by decide +kernel
theorem dX7_next_20 : decode cX7_next 20 = .ok (.goto 4, 3) := by decide +kernel
theorem dX7_next_23 : decode cX7_next 23 = .ok (.iconst 0, 1) := by decide +kernel
theorem dX7_next_24 : decode cX7_next 24 = .ok (.ireturn, 1) := by decide +kernel
theorem dX7_digit_0 : decode cX7_digit 0 = .ok (.aload_n 0, 1) := by decide +kernel
theorem dX7_digit_1 : decode cX7_digit 1 = .ok (.invokevirtual 114, 3) := by decide +kernel
theorem dX7_digit_4 : decode cX7_digit 4 = .ok (.bipush 48, 2) := by decide +kernel
theorem dX7_digit_6 : decode cX7_digit 6 = .ok (.isub, 1) := by decide +kernel
theorem dX7_digit_7 : decode cX7_digit 7 = .ok (.istore_n 3, 1) := by decide +kernel
theorem dX7_digit_8 : decode cX7_digit 8 = .ok (.iload_n 3, 1) := by decide +kernel
theorem dX7_digit_9 : decode cX7_digit 9 = .ok (.iload_n 1, 1) := by decide +kernel
theorem dX7_digit_10 : decode cX7_digit 10 = .ok (.iload_n 2, 1) := by decide +kernel
theorem dX7_digit_11 : decode cX7_digit 11 = .ok (.invokestatic 29, 3) := by decide +kernel
theorem dX7_digit_14 : decode cX7_digit 14 = .ok (.ifCond .ne 5, 3) := by decide +kernel
theorem dX7_digit_17 : decode cX7_digit 17 = .ok (.iconst (-1), 1) := by decide +kernel
theorem dX7_digit_18 : decode cX7_digit 18 = .ok (.ireturn, 1) := by decide +kernel
theorem dX7_digit_19 : decode cX7_digit 19 = .ok (.aload_n 0, 1) := by decide +kernel
theorem dX7_digit_20 : decode cX7_digit 20 = .ok (.dup, 1) := by decide +kernel
theorem dX7_digit_21 : decode cX7_digit 21 = .ok (.getfield 111, 3) := by decide +kernel
theorem dX7_digit_24 : decode cX7_digit 24 = .ok (.iconst 1, 1) := by decide +kernel
theorem dX7_digit_25 : decode cX7_digit 25 = .ok (.iadd, 1) := by decide +kernel
theorem dX7_digit_26 : decode cX7_digit 26 = .ok (.putfield 111, 3) := by decide +kernel
theorem dX7_digit_29 : decode cX7_digit 29 = .ok (.iload_n 3, 1) := by decide +kernel
theorem dX7_digit_30 : decode cX7_digit 30 = .ok (.ireturn, 1) := by decide +kernel
theorem dX7_takes_0 : decode cX7_takes 0 = .ok (.aload_n 0, 1) := by decide +kernel
theorem dX7_takes_1 : decode cX7_takes 1 = .ok (.invokevirtual 114, 3) := by decide +kernel
theorem dX7_takes_4 : decode cX7_takes 4 = .ok (.iload_n 1, 1) := by decide +kernel
theorem dX7_takes_5 : decode cX7_takes 5 = .ok (.if_icmp .ne 7, 3) := by decide +kernel
theorem dX7_takes_8 : decode cX7_takes 8 = .ok (.iconst 1, 1) := by decide +kernel
theorem dX7_takes_9 : decode cX7_takes 9 = .ok (.goto 4, 3) := by decide +kernel
theorem dX7_takes_12 : decode cX7_takes 12 = .ok (.iconst 0, 1) := by decide +kernel
theorem dX7_takes_13 : decode cX7_takes 13 = .ok (.istore_n 2, 1) := by decide +kernel
theorem dX7_takes_14 : decode cX7_takes 14 = .ok (.aload_n 0, 1) := by decide +kernel
theorem dX7_takes_15 : decode cX7_takes 15 = .ok (.dup, 1) := by decide +kernel
theorem dX7_takes_16 : decode cX7_takes 16 = .ok (.getfield 111, 3) := by decide +kernel
theorem dX7_takes_19 : decode cX7_takes 19 = .ok (.iload_n 2, 1) := by decide +kernel
theorem dX7_takes_20 : decode cX7_takes 20 = .ok (.ifCond .eq 7, 3) := by decide +kernel
theorem dX7_takes_23 : decode cX7_takes 23 = .ok (.iconst 1, 1) := by decide +kernel
theorem dX7_takes_24 : decode cX7_takes 24 = .ok (.goto 4, 3) := by decide +kernel
theorem dX7_takes_27 : decode cX7_takes 27 = .ok (.iconst 0, 1) := by decide +kernel
theorem dX7_takes_28 : decode cX7_takes 28 = .ok (.iadd, 1) := by decide +kernel
theorem dX7_takes_29 : decode cX7_takes 29 = .ok (.putfield 111, 3) := by decide +kernel
theorem dX7_takes_32 : decode cX7_takes 32 = .ok (.iload_n 2, 1) := by decide +kernel
theorem dX7_takes_33 : decode cX7_takes 33 = .ok (.ireturn, 1) := by decide +kernel
theorem dX7_readsCall_0 : decode cX7_readsCall 0 = .ok (.aload_n 0, 1) := by decide +kernel
theorem dX7_readsCall_1 : decode cX7_readsCall 1 = .ok (.aload_n 0, 1) := by decide +kernel
theorem dX7_readsCall_2 : decode cX7_readsCall 2 = .ok (.iconst 0, 1) := by decide +kernel
theorem dX7_readsCall_3 : decode cX7_readsCall 3 = .ok (.iconst 3, 1) := by decide +kernel
theorem dX7_readsCall_4 : decode cX7_readsCall 4 = .ok (.invokevirtual 117, 3) := by decide +kernel
theorem dX7_readsCall_7 : decode cX7_readsCall 7 = .ok (.putfield 120, 3) := by decide +kernel
theorem dX7_readsCall_10 : decode cX7_readsCall 10 = .ok (.aload_n 0, 1) := by decide +kernel
theorem dX7_readsCall_11 : decode cX7_readsCall 11 = .ok (.getfield 120, 3) := by decide +kernel
theorem dX7_readsCall_14 : decode cX7_readsCall 14 = .ok (.iconst (-1), 1) := by decide +kernel
theorem dX7_readsCall_15 : decode cX7_readsCall 15 = .ok (.if_icmp .eq 12, 3) := by decide +kernel
theorem dX7_readsCall_18 : decode cX7_readsCall 18 = .ok (.aload_n 0, 1) := by decide +kernel
theorem dX7_readsCall_19 : decode cX7_readsCall 19 = .ok (.bipush 61, 2) := by decide +kernel
theorem dX7_readsCall_21 : decode cX7_readsCall 21 = .ok (.invokevirtual 123, 3) := by decide +kernel
theorem dX7_readsCall_24 : decode cX7_readsCall 24 = .ok (.ifCond .ne 5, 3) := by decide +kernel
theorem dX7_readsCall_27 : decode cX7_readsCall 27 = .ok (.iconst 0, 1) := by decide +kernel
theorem dX7_readsCall_28 : decode cX7_readsCall 28 = .ok (.ireturn, 1) := by decide +kernel
theorem dX7_readsCall_29 : decode cX7_readsCall 29 = .ok (.aload_n 0, 1) := by decide +kernel
theorem dX7_readsCall_30 : decode cX7_readsCall 30 = .ok (.aload_n 0, 1) := by decide +kernel
theorem dX7_readsCall_31 : decode cX7_readsCall 31 = .ok (.iconst 0, 1) := by decide +kernel
theorem dX7_readsCall_32 : decode cX7_readsCall 32 = .ok (.bipush 9, 2) := by decide +kernel
theorem dX7_readsCall_34 : decode cX7_readsCall 34 = .ok (.invokevirtual 117, 3) := by decide +kernel
theorem dX7_readsCall_37 : decode cX7_readsCall 37 = .ok (.putfield 126, 3) := by decide +kernel
theorem dX7_readsCall_40 : decode cX7_readsCall 40 = .ok (.aload_n 0, 1) := by decide +kernel
theorem dX7_readsCall_41 : decode cX7_readsCall 41 = .ok (.getfield 126, 3) := by decide +kernel
theorem dX7_readsCall_44 : decode cX7_readsCall 44 = .ok (.iconst (-1), 1) := by decide +kernel
theorem dX7_readsCall_45 : decode cX7_readsCall 45 = .ok (.if_icmp .eq 7, 3) := by decide +kernel
theorem dX7_readsCall_48 : decode cX7_readsCall 48 = .ok (.iconst 1, 1) := by decide +kernel
theorem dX7_readsCall_49 : decode cX7_readsCall 49 = .ok (.goto 4, 3) := by decide +kernel
theorem dX7_readsCall_52 : decode cX7_readsCall 52 = .ok (.iconst 0, 1) := by decide +kernel
theorem dX7_readsCall_53 : decode cX7_readsCall 53 = .ok (.ireturn, 1) := by decide +kernel
theorem dX7_readsWalk_0 : decode cX7_readsWalk 0 = .ok (.aload_n 0, 1) := by decide +kernel
theorem dX7_readsWalk_1 : decode cX7_readsWalk 1 = .ok (.aload_n 0, 1) := by decide +kernel
theorem dX7_readsWalk_2 : decode cX7_readsWalk 2 = .ok (.iconst 0, 1) := by decide +kernel
theorem dX7_readsWalk_3 : decode cX7_readsWalk 3 = .ok (.iconst 3, 1) := by decide +kernel
theorem dX7_readsWalk_4 : decode cX7_readsWalk 4 = .ok (.invokevirtual 117, 3) := by decide +kernel
theorem dX7_readsWalk_7 : decode cX7_readsWalk 7 = .ok (.putfield 120, 3) := by decide +kernel
theorem dX7_readsWalk_10 : decode cX7_readsWalk 10 = .ok (.aload_n 0, 1) := by decide +kernel
theorem dX7_readsWalk_11 : decode cX7_readsWalk 11 = .ok (.invokevirtual 114, 3) := by decide +kernel
theorem dX7_readsWalk_14 : decode cX7_readsWalk 14 = .ok (.bipush 43, 2) := by decide +kernel
theorem dX7_readsWalk_16 : decode cX7_readsWalk 16 = .ok (.if_icmp .ne 7, 3) := by decide +kernel
theorem dX7_readsWalk_19 : decode cX7_readsWalk 19 = .ok (.iconst 1, 1) := by decide +kernel
theorem dX7_readsWalk_20 : decode cX7_readsWalk 20 = .ok (.goto 4, 3) := by decide +kernel
theorem dX7_readsWalk_23 : decode cX7_readsWalk 23 = .ok (.iconst (-1), 1) := by decide +kernel
theorem dX7_readsWalk_24 : decode cX7_readsWalk 24 = .ok (.istore_n 1, 1) := by decide +kernel
theorem dX7_readsWalk_25 : decode cX7_readsWalk 25 = .ok (.aload_n 0, 1) := by decide +kernel
theorem dX7_readsWalk_26 : decode cX7_readsWalk 26 = .ok (.getfield 120, 3) := by decide +kernel
theorem dX7_readsWalk_29 : decode cX7_readsWalk 29 = .ok (.iconst (-1), 1) := by decide +kernel
theorem dX7_readsWalk_30 : decode cX7_readsWalk 30 = .ok (.if_icmp .eq 21, 3) := by decide +kernel
theorem dX7_readsWalk_33 : decode cX7_readsWalk 33 = .ok (.aload_n 0, 1) := by decide +kernel
theorem dX7_readsWalk_34 : decode cX7_readsWalk 34 = .ok (.bipush 43, 2) := by decide +kernel
theorem dX7_readsWalk_36 : decode cX7_readsWalk 36 = .ok (.invokevirtual 123, 3) := by decide +kernel
theorem dX7_readsWalk_39 : decode cX7_readsWalk 39 = .ok (.ifCond .ne 14, 3) := by decide +kernel
theorem dX7_readsWalk_42 : decode cX7_readsWalk 42 = .ok (.aload_n 0, 1) := by decide +kernel
theorem dX7_readsWalk_43 : decode cX7_readsWalk 43 = .ok (.bipush 45, 2) := by decide +kernel
theorem dX7_readsWalk_45 : decode cX7_readsWalk 45 = .ok (.invokevirtual 123, 3) := by decide +kernel
theorem dX7_readsWalk_48 : decode cX7_readsWalk 48 = .ok (.ifCond .ne 5, 3) := by decide +kernel
theorem dX7_readsWalk_51 : decode cX7_readsWalk 51 = .ok (.iconst 0, 1) := by decide +kernel
theorem dX7_readsWalk_52 : decode cX7_readsWalk 52 = .ok (.ireturn, 1) := by decide +kernel
theorem dX7_readsWalk_53 : decode cX7_readsWalk 53 = .ok (.aload_n 0, 1) := by decide +kernel
theorem dX7_readsWalk_54 : decode cX7_readsWalk 54 = .ok (.iconst 1, 1) := by decide +kernel
theorem dX7_readsWalk_55 : decode cX7_readsWalk 55 = .ok (.bipush 9, 2) := by decide +kernel
theorem dX7_readsWalk_57 : decode cX7_readsWalk 57 = .ok (.invokevirtual 117, 3) := by decide +kernel
theorem dX7_readsWalk_60 : decode cX7_readsWalk 60 = .ok (.istore_n 2, 1) := by decide +kernel
theorem dX7_readsWalk_61 : decode cX7_readsWalk 61 = .ok (.aload_n 0, 1) := by decide +kernel
theorem dX7_readsWalk_62 : decode cX7_readsWalk 62 = .ok (.iload_n 1, 1) := by decide +kernel
theorem dX7_readsWalk_63 : decode cX7_readsWalk 63 = .ok (.iload_n 2, 1) := by decide +kernel
theorem dX7_readsWalk_64 : decode cX7_readsWalk 64 = .ok (.imul, 1) := by decide +kernel
theorem dX7_readsWalk_65 : decode cX7_readsWalk 65 = .ok (.putfield 126, 3) := by decide +kernel
theorem dX7_readsWalk_68 : decode cX7_readsWalk 68 = .ok (.iload_n 2, 1) := by decide +kernel
theorem dX7_readsWalk_69 : decode cX7_readsWalk 69 = .ok (.iconst (-1), 1) := by decide +kernel
theorem dX7_readsWalk_70 : decode cX7_readsWalk 70 = .ok (.if_icmp .eq 7, 3) := by decide +kernel
theorem dX7_readsWalk_73 : decode cX7_readsWalk 73 = .ok (.iconst 1, 1) := by decide +kernel
theorem dX7_readsWalk_74 : decode cX7_readsWalk 74 = .ok (.goto 4, 3) := by decide +kernel
theorem dX7_readsWalk_77 : decode cX7_readsWalk 77 = .ok (.iconst 0, 1) := by decide +kernel
theorem dX7_readsWalk_78 : decode cX7_readsWalk 78 = .ok (.ireturn, 1) := by decide +kernel
theorem dX7_readsTurns_0 : decode cX7_readsTurns 0 = .ok (.aload_n 0, 1) := by decide +kernel
theorem dX7_readsTurns_1 : decode cX7_readsTurns 1 = .ok (.aload_n 0, 1) := by decide +kernel
theorem dX7_readsTurns_2 : decode cX7_readsTurns 2 = .ok (.iconst 1, 1) := by decide +kernel
theorem dX7_readsTurns_3 : decode cX7_readsTurns 3 = .ok (.bipush 9, 2) := by decide +kernel
theorem dX7_readsTurns_5 : decode cX7_readsTurns 5 = .ok (.invokevirtual 117, 3) := by decide +kernel
theorem dX7_readsTurns_8 : decode cX7_readsTurns 8 = .ok (.putfield 120, 3) := by decide +kernel
theorem dX7_readsTurns_11 : decode cX7_readsTurns 11 = .ok (.aload_n 0, 1) := by decide +kernel
theorem dX7_readsTurns_12 : decode cX7_readsTurns 12 = .ok (.getfield 120, 3) := by decide +kernel
theorem dX7_readsTurns_15 : decode cX7_readsTurns 15 = .ok (.iconst (-1), 1) := by decide +kernel
theorem dX7_readsTurns_16 : decode cX7_readsTurns 16 = .ok (.if_icmp .ne 7, 3) := by decide +kernel
theorem dX7_readsTurns_19 : decode cX7_readsTurns 19 = .ok (.iconst (-1), 1) := by decide +kernel
theorem dX7_readsTurns_20 : decode cX7_readsTurns 20 = .ok (.goto 10, 3) := by decide +kernel
theorem dX7_readsTurns_23 : decode cX7_readsTurns 23 = .ok (.aload_n 0, 1) := by decide +kernel
theorem dX7_readsTurns_24 : decode cX7_readsTurns 24 = .ok (.iconst 0, 1) := by decide +kernel
theorem dX7_readsTurns_25 : decode cX7_readsTurns 25 = .ok (.bipush 9, 2) := by decide +kernel
theorem dX7_readsTurns_27 : decode cX7_readsTurns 27 = .ok (.invokevirtual 117, 3) := by decide +kernel
theorem dX7_readsTurns_30 : decode cX7_readsTurns 30 = .ok (.istore_n 1, 1) := by decide +kernel
theorem dX7_readsTurns_31 : decode cX7_readsTurns 31 = .ok (.aload_n 0, 1) := by decide +kernel
theorem dX7_readsTurns_32 : decode cX7_readsTurns 32 = .ok (.iload_n 1, 1) := by decide +kernel
theorem dX7_readsTurns_33 : decode cX7_readsTurns 33 = .ok (.iconst (-1), 1) := by decide +kernel
theorem dX7_readsTurns_34 : decode cX7_readsTurns 34 = .ok (.if_icmp .ne 10, 3) := by decide +kernel
theorem dX7_readsTurns_37 : decode cX7_readsTurns 37 = .ok (.aload_n 0, 1) := by decide +kernel
theorem dX7_readsTurns_38 : decode cX7_readsTurns 38 = .ok (.getfield 120, 3) := by decide +kernel
theorem dX7_readsTurns_41 : decode cX7_readsTurns 41 = .ok (.goto 12, 3) := by decide +kernel
theorem dX7_readsTurns_44 : decode cX7_readsTurns 44 = .ok (.bipush 10, 2) := by decide +kernel
theorem dX7_readsTurns_46 : decode cX7_readsTurns 46 = .ok (.aload_n 0, 1) := by decide +kernel
theorem dX7_readsTurns_47 : decode cX7_readsTurns 47 = .ok (.getfield 120, 3) := by decide +kernel
theorem dX7_readsTurns_50 : decode cX7_readsTurns 50 = .ok (.imul, 1) := by decide +kernel
theorem dX7_readsTurns_51 : decode cX7_readsTurns 51 = .ok (.iload_n 1, 1) := by decide +kernel
theorem dX7_readsTurns_52 : decode cX7_readsTurns 52 = .ok (.iadd, 1) := by decide +kernel
theorem dX7_readsTurns_53 : decode cX7_readsTurns 53 = .ok (.putfield 120, 3) := by decide +kernel
theorem dX7_readsTurns_56 : decode cX7_readsTurns 56 = .ok (.aload_n 0, 1) := by decide +kernel
theorem dX7_readsTurns_57 : decode cX7_readsTurns 57 = .ok (.getfield 120, 3) := by decide +kernel
theorem dX7_readsTurns_60 : decode cX7_readsTurns 60 = .ok (.iconst (-1), 1) := by decide +kernel
theorem dX7_readsTurns_61 : decode cX7_readsTurns 61 = .ok (.if_icmp .eq 7, 3) := by decide +kernel
theorem dX7_readsTurns_64 : decode cX7_readsTurns 64 = .ok (.iconst 1, 1) := by decide +kernel
theorem dX7_readsTurns_65 : decode cX7_readsTurns 65 = .ok (.goto 4, 3) := by decide +kernel
theorem dX7_readsTurns_68 : decode cX7_readsTurns 68 = .ok (.iconst 0, 1) := by decide +kernel
theorem dX7_readsTurns_69 : decode cX7_readsTurns 69 = .ok (.ireturn, 1) := by decide +kernel
theorem dX7_readsOrder_0 : decode cX7_readsOrder 0 = .ok (.aload_n 0, 1) := by decide +kernel
theorem dX7_readsOrder_1 : decode cX7_readsOrder 1 = .ok (.aload_n 0, 1) := by decide +kernel
theorem dX7_readsOrder_2 : decode cX7_readsOrder 2 = .ok (.invokevirtual 114, 3) := by decide +kernel
theorem dX7_readsOrder_5 : decode cX7_readsOrder 5 = .ok (.putfield 129, 3) := by decide +kernel
theorem dX7_readsOrder_8 : decode cX7_readsOrder 8 = .ok (.aload_n 0, 1) := by decide +kernel
theorem dX7_readsOrder_9 : decode cX7_readsOrder 9 = .ok (.getfield 129, 3) := by decide +kernel
theorem dX7_readsOrder_12 : decode cX7_readsOrder 12 = .ok (.lookupswitch 81 #[(99, 36), (109, 51), (116, 66)], 36) := by decide +kernel
theorem dX7_readsOrder_48 : decode cX7_readsOrder 48 = .ok (.aload_n 0, 1) := by decide +kernel
theorem dX7_readsOrder_49 : decode cX7_readsOrder 49 = .ok (.dup, 1) := by decide +kernel
theorem dX7_readsOrder_50 : decode cX7_readsOrder 50 = .ok (.getfield 111, 3) := by decide +kernel
theorem dX7_readsOrder_53 : decode cX7_readsOrder 53 = .ok (.iconst 1, 1) := by decide +kernel
theorem dX7_readsOrder_54 : decode cX7_readsOrder 54 = .ok (.iadd, 1) := by decide +kernel
theorem dX7_readsOrder_55 : decode cX7_readsOrder 55 = .ok (.putfield 111, 3) := by decide +kernel
theorem dX7_readsOrder_58 : decode cX7_readsOrder 58 = .ok (.aload_n 0, 1) := by decide +kernel
theorem dX7_readsOrder_59 : decode cX7_readsOrder 59 = .ok (.invokevirtual 132, 3) := by decide +kernel
theorem dX7_readsOrder_62 : decode cX7_readsOrder 62 = .ok (.ireturn, 1) := by decide +kernel
theorem dX7_readsOrder_63 : decode cX7_readsOrder 63 = .ok (.aload_n 0, 1) := by decide +kernel
theorem dX7_readsOrder_64 : decode cX7_readsOrder 64 = .ok (.dup, 1) := by decide +kernel
theorem dX7_readsOrder_65 : decode cX7_readsOrder 65 = .ok (.getfield 111, 3) := by decide +kernel
theorem dX7_readsOrder_68 : decode cX7_readsOrder 68 = .ok (.iconst 1, 1) := by decide +kernel
theorem dX7_readsOrder_69 : decode cX7_readsOrder 69 = .ok (.iadd, 1) := by decide +kernel
theorem dX7_readsOrder_70 : decode cX7_readsOrder 70 = .ok (.putfield 111, 3) := by decide +kernel
theorem dX7_readsOrder_73 : decode cX7_readsOrder 73 = .ok (.aload_n 0, 1) := by decide +kernel
theorem dX7_readsOrder_74 : decode cX7_readsOrder 74 = .ok (.invokevirtual 136, 3) := by decide +kernel
theorem dX7_readsOrder_77 : decode cX7_readsOrder 77 = .ok (.ireturn, 1) := by decide +kernel
theorem dX7_readsOrder_78 : decode cX7_readsOrder 78 = .ok (.aload_n 0, 1) := by decide +kernel
theorem dX7_readsOrder_79 : decode cX7_readsOrder 79 = .ok (.dup, 1) := by decide +kernel
theorem dX7_readsOrder_80 : decode cX7_readsOrder 80 = .ok (.getfield 111, 3) := by decide +kernel
theorem dX7_readsOrder_83 : decode cX7_readsOrder 83 = .ok (.iconst 1, 1) := by decide +kernel
theorem dX7_readsOrder_84 : decode cX7_readsOrder 84 = .ok (.iadd, 1) := by decide +kernel
theorem dX7_readsOrder_85 : decode cX7_readsOrder 85 = .ok (.putfield 111, 3) := by decide +kernel
theorem dX7_readsOrder_88 : decode cX7_readsOrder 88 = .ok (.aload_n 0, 1) := by decide +kernel
theorem dX7_readsOrder_89 : decode cX7_readsOrder 89 = .ok (.invokevirtual 139, 3) := by decide +kernel
theorem dX7_readsOrder_92 : decode cX7_readsOrder 92 = .ok (.ireturn, 1) := by decide +kernel
theorem dX7_readsOrder_93 : decode cX7_readsOrder 93 = .ok (.iconst 0, 1) := by decide +kernel
theorem dX7_readsOrder_94 : decode cX7_readsOrder 94 = .ok (.ireturn, 1) := by decide +kernel
theorem dX7_findError_0 : decode cX7_findError 0 = .ok (.aload_n 0, 1) := by decide +kernel
theorem dX7_findError_1 : decode cX7_findError 1 = .ok (.iconst 0, 1) := by decide +kernel
theorem dX7_findError_2 : decode cX7_findError 2 = .ok (.putfield 111, 3) := by decide +kernel
theorem dX7_findError_5 : decode cX7_findError 5 = .ok (.aload_n 0, 1) := by decide +kernel
theorem dX7_findError_6 : decode cX7_findError 6 = .ok (.invokevirtual 142, 3) := by decide +kernel
theorem dX7_findError_9 : decode cX7_findError 9 = .ok (.ifCond .eq 30, 3) := by decide +kernel
theorem dX7_findError_12 : decode cX7_findError 12 = .ok (.aload_n 0, 1) := by decide +kernel
theorem dX7_findError_13 : decode cX7_findError 13 = .ok (.getfield 111, 3) := by decide +kernel
theorem dX7_findError_16 : decode cX7_findError 16 = .ok (.aload_n 0, 1) := by decide +kernel
theorem dX7_findError_17 : decode cX7_findError 17 = .ok (.getfield 108, 3) := by decide +kernel
theorem dX7_findError_20 : decode cX7_findError 20 = .ok (.if_icmp .ne 5, 3) := by decide +kernel
theorem dX7_findError_23 : decode cX7_findError 23 = .ok (.iconst (-1), 1) := by decide +kernel
theorem dX7_findError_24 : decode cX7_findError 24 = .ok (.ireturn, 1) := by decide +kernel
theorem dX7_findError_25 : decode cX7_findError 25 = .ok (.aload_n 0, 1) := by decide +kernel
theorem dX7_findError_26 : decode cX7_findError 26 = .ok (.bipush 59, 2) := by decide +kernel
theorem dX7_findError_28 : decode cX7_findError 28 = .ok (.invokevirtual 123, 3) := by decide +kernel
theorem dX7_findError_31 : decode cX7_findError 31 = .ok (.ifCond .ne (-26), 3) := by decide +kernel
theorem dX7_findError_34 : decode cX7_findError 34 = .ok (.aload_n 0, 1) := by decide +kernel
theorem dX7_findError_35 : decode cX7_findError 35 = .ok (.getfield 111, 3) := by decide +kernel
theorem dX7_findError_38 : decode cX7_findError 38 = .ok (.ireturn, 1) := by decide +kernel
theorem dX7_findError_39 : decode cX7_findError 39 = .ok (.aload_n 0, 1) := by decide +kernel
theorem dX7_findError_40 : decode cX7_findError 40 = .ok (.getfield 111, 3) := by decide +kernel
theorem dX7_findError_43 : decode cX7_findError 43 = .ok (.ireturn, 1) := by decide +kernel
theorem dX7_firstError_0 : decode cX7_firstError 0 = .ok (.aload_n 0, 1) := by decide +kernel
theorem dX7_firstError_1 : decode cX7_firstError 1 = .ok (.iconst 0, 1) := by decide +kernel
theorem dX7_firstError_2 : decode cX7_firstError 2 = .ok (.putfield 25, 3) := by decide +kernel
theorem dX7_firstError_5 : decode cX7_firstError 5 = .ok (.aload_n 0, 1) := by decide +kernel
theorem dX7_firstError_6 : decode cX7_firstError 6 = .ok (.invokevirtual 145, 3) := by decide +kernel
theorem dX7_firstError_9 : decode cX7_firstError 9 = .ok (.istore_n 1, 1) := by decide +kernel
theorem dX7_firstError_10 : decode cX7_firstError 10 = .ok (.iload_n 1, 1) := by decide +kernel
theorem dX7_firstError_11 : decode cX7_firstError 11 = .ok (.iconst (-1), 1) := by decide +kernel
theorem dX7_firstError_12 : decode cX7_firstError 12 = .ok (.if_icmp .ne 10, 3) := by decide +kernel
theorem dX7_firstError_15 : decode cX7_firstError 15 = .ok (.aload_n 0, 1) := by decide +kernel
theorem dX7_firstError_16 : decode cX7_firstError 16 = .ok (.getfield 108, 3) := by decide +kernel
theorem dX7_firstError_19 : decode cX7_firstError 19 = .ok (.goto 4, 3) := by decide +kernel
theorem dX7_firstError_22 : decode cX7_firstError 22 = .ok (.iload_n 1, 1) := by decide +kernel
theorem dX7_firstError_23 : decode cX7_firstError 23 = .ok (.ireturn, 1) := by decide +kernel
theorem dX7_doesOrder_0 : decode cX7_doesOrder 0 = .ok (.aload_n 0, 1) := by decide +kernel
theorem dX7_doesOrder_1 : decode cX7_doesOrder 1 = .ok (.getfield 129, 3) := by decide +kernel
theorem dX7_doesOrder_4 : decode cX7_doesOrder 4 = .ok (.bipush 99, 2) := by decide +kernel
theorem dX7_doesOrder_6 : decode cX7_doesOrder 6 = .ok (.if_icmp .ne 25, 3) := by decide +kernel
theorem dX7_doesOrder_9 : decode cX7_doesOrder 9 = .ok (.aload_n 0, 1) := by decide +kernel
theorem dX7_doesOrder_10 : decode cX7_doesOrder 10 = .ok (.aload_n 0, 1) := by decide +kernel
theorem dX7_doesOrder_11 : decode cX7_doesOrder 11 = .ok (.getfield 120, 3) := by decide +kernel
theorem dX7_doesOrder_14 : decode cX7_doesOrder 14 = .ok (.aload_n 0, 1) := by decide +kernel
theorem dX7_doesOrder_15 : decode cX7_doesOrder 15 = .ok (.getfield 126, 3) := by decide +kernel
theorem dX7_doesOrder_18 : decode cX7_doesOrder 18 = .ok (.invokevirtual 95, 3) := by decide +kernel
theorem dX7_doesOrder_21 : decode cX7_doesOrder 21 = .ok (.iconst (-1), 1) := by decide +kernel
theorem dX7_doesOrder_22 : decode cX7_doesOrder 22 = .ok (.if_icmp .eq 7, 3) := by decide +kernel
theorem dX7_doesOrder_25 : decode cX7_doesOrder 25 = .ok (.iconst 1, 1) := by decide +kernel
theorem dX7_doesOrder_26 : decode cX7_doesOrder 26 = .ok (.goto 4, 3) := by decide +kernel
theorem dX7_doesOrder_29 : decode cX7_doesOrder 29 = .ok (.iconst 0, 1) := by decide +kernel
theorem dX7_doesOrder_30 : decode cX7_doesOrder 30 = .ok (.ireturn, 1) := by decide +kernel
theorem dX7_doesOrder_31 : decode cX7_doesOrder 31 = .ok (.aload_n 0, 1) := by decide +kernel
theorem dX7_doesOrder_32 : decode cX7_doesOrder 32 = .ok (.getfield 129, 3) := by decide +kernel
theorem dX7_doesOrder_35 : decode cX7_doesOrder 35 = .ok (.bipush 109, 2) := by decide +kernel
theorem dX7_doesOrder_37 : decode cX7_doesOrder 37 = .ok (.if_icmp .ne 25, 3) := by decide +kernel
theorem dX7_doesOrder_40 : decode cX7_doesOrder 40 = .ok (.aload_n 0, 1) := by decide +kernel
theorem dX7_doesOrder_41 : decode cX7_doesOrder 41 = .ok (.aload_n 0, 1) := by decide +kernel
theorem dX7_doesOrder_42 : decode cX7_doesOrder 42 = .ok (.getfield 120, 3) := by decide +kernel
theorem dX7_doesOrder_45 : decode cX7_doesOrder 45 = .ok (.aload_n 0, 1) := by decide +kernel
theorem dX7_doesOrder_46 : decode cX7_doesOrder 46 = .ok (.getfield 126, 3) := by decide +kernel
theorem dX7_doesOrder_49 : decode cX7_doesOrder 49 = .ok (.invokevirtual 98, 3) := by decide +kernel
theorem dX7_doesOrder_52 : decode cX7_doesOrder 52 = .ok (.iconst (-1), 1) := by decide +kernel
theorem dX7_doesOrder_53 : decode cX7_doesOrder 53 = .ok (.if_icmp .eq 7, 3) := by decide +kernel
theorem dX7_doesOrder_56 : decode cX7_doesOrder 56 = .ok (.iconst 1, 1) := by decide +kernel
theorem dX7_doesOrder_57 : decode cX7_doesOrder 57 = .ok (.goto 4, 3) := by decide +kernel
theorem dX7_doesOrder_60 : decode cX7_doesOrder 60 = .ok (.iconst 0, 1) := by decide +kernel
theorem dX7_doesOrder_61 : decode cX7_doesOrder 61 = .ok (.ireturn, 1) := by decide +kernel
theorem dX7_doesOrder_62 : decode cX7_doesOrder 62 = .ok (.aload_n 0, 1) := by decide +kernel
theorem dX7_doesOrder_63 : decode cX7_doesOrder 63 = .ok (.getfield 7, 3) := by decide +kernel
theorem dX7_doesOrder_66 : decode cX7_doesOrder 66 = .ok (.iconst 3, 1) := by decide +kernel
theorem dX7_doesOrder_67 : decode cX7_doesOrder 67 = .ok (.iaload, 1) := by decide +kernel
theorem dX7_doesOrder_68 : decode cX7_doesOrder 68 = .ok (.aload_n 0, 1) := by decide +kernel
theorem dX7_doesOrder_69 : decode cX7_doesOrder 69 = .ok (.getfield 120, 3) := by decide +kernel
theorem dX7_doesOrder_72 : decode cX7_doesOrder 72 = .ok (.iadd, 1) := by decide +kernel
theorem dX7_doesOrder_73 : decode cX7_doesOrder 73 = .ok (.ldc 104, 2) := by decide +kernel
theorem dX7_doesOrder_75 : decode cX7_doesOrder 75 = .ok (.if_icmp .gt 7, 3) := by decide +kernel
theorem dX7_doesOrder_78 : decode cX7_doesOrder 78 = .ok (.iconst 1, 1) := by decide +kernel
theorem dX7_doesOrder_79 : decode cX7_doesOrder 79 = .ok (.goto 4, 3) := by decide +kernel
theorem dX7_doesOrder_82 : decode cX7_doesOrder 82 = .ok (.iconst 0, 1) := by decide +kernel
theorem dX7_doesOrder_83 : decode cX7_doesOrder 83 = .ok (.istore_n 1, 1) := by decide +kernel
theorem dX7_doesOrder_84 : decode cX7_doesOrder 84 = .ok (.iload_n 1, 1) := by decide +kernel
theorem dX7_doesOrder_85 : decode cX7_doesOrder 85 = .ok (.ifCond .eq 18, 3) := by decide +kernel
theorem dX7_doesOrder_88 : decode cX7_doesOrder 88 = .ok (.aload_n 0, 1) := by decide +kernel
theorem dX7_doesOrder_89 : decode cX7_doesOrder 89 = .ok (.aload_n 0, 1) := by decide +kernel
theorem dX7_doesOrder_90 : decode cX7_doesOrder 90 = .ok (.getfield 120, 3) := by decide +kernel
theorem dX7_doesOrder_93 : decode cX7_doesOrder 93 = .ok (.invokevirtual 105, 3) := by decide +kernel
theorem dX7_doesOrder_96 : decode cX7_doesOrder 96 = .ok (.ifCond .lt 7, 3) := by decide +kernel
theorem dX7_doesOrder_99 : decode cX7_doesOrder 99 = .ok (.iconst 1, 1) := by decide +kernel
theorem dX7_doesOrder_100 : decode cX7_doesOrder 100 = .ok (.goto 4, 3) := by decide +kernel
theorem dX7_doesOrder_103 : decode cX7_doesOrder 103 = .ok (.iconst 0, 1) := by decide +kernel
theorem dX7_doesOrder_104 : decode cX7_doesOrder 104 = .ok (.ireturn, 1) := by decide +kernel
theorem dX7_run_0 : decode cX7_run 0 = .ok (.aload_n 0, 1) := by decide +kernel
theorem dX7_run_1 : decode cX7_run 1 = .ok (.iconst 0, 1) := by decide +kernel
theorem dX7_run_2 : decode cX7_run 2 = .ok (.putfield 25, 3) := by decide +kernel
theorem dX7_run_5 : decode cX7_run 5 = .ok (.aload_n 0, 1) := by decide +kernel
theorem dX7_run_6 : decode cX7_run 6 = .ok (.invokevirtual 145, 3) := by decide +kernel
theorem dX7_run_9 : decode cX7_run 9 = .ok (.iconst (-1), 1) := by decide +kernel
theorem dX7_run_10 : decode cX7_run 10 = .ok (.if_icmp .eq 9, 3) := by decide +kernel
theorem dX7_run_13 : decode cX7_run 13 = .ok (.aload_n 0, 1) := by decide +kernel
theorem dX7_run_14 : decode cX7_run 14 = .ok (.iconst 1, 1) := by decide +kernel
theorem dX7_run_15 : decode cX7_run 15 = .ok (.invokevirtual 40, 3) := by decide +kernel
theorem dX7_run_18 : decode cX7_run 18 = .ok (.ireturn, 1) := by decide +kernel
theorem dX7_run_19 : decode cX7_run 19 = .ok (.aload_n 0, 1) := by decide +kernel
theorem dX7_run_20 : decode cX7_run 20 = .ok (.invokevirtual 44, 3) := by decide +kernel
theorem dX7_run_23 : decode cX7_run 23 = .ok (.aload_n 0, 1) := by decide +kernel
theorem dX7_run_24 : decode cX7_run 24 = .ok (.iconst 0, 1) := by decide +kernel
theorem dX7_run_25 : decode cX7_run 25 = .ok (.putfield 111, 3) := by decide +kernel
theorem dX7_run_28 : decode cX7_run 28 = .ok (.iconst 0, 1) := by decide +kernel
theorem dX7_run_29 : decode cX7_run 29 = .ok (.istore_n 1, 1) := by decide +kernel
theorem dX7_run_30 : decode cX7_run 30 = .ok (.iconst 1, 1) := by decide +kernel
theorem dX7_run_31 : decode cX7_run 31 = .ok (.istore_n 2, 1) := by decide +kernel
theorem dX7_run_32 : decode cX7_run 32 = .ok (.iload_n 2, 1) := by decide +kernel
theorem dX7_run_33 : decode cX7_run 33 = .ok (.ifCond .eq 59, 3) := by decide +kernel
theorem dX7_run_36 : decode cX7_run 36 = .ok (.aload_n 0, 1) := by decide +kernel
theorem dX7_run_37 : decode cX7_run 37 = .ok (.getfield 111, 3) := by decide +kernel
theorem dX7_run_40 : decode cX7_run 40 = .ok (.aload_n 0, 1) := by decide +kernel
theorem dX7_run_41 : decode cX7_run 41 = .ok (.getfield 108, 3) := by decide +kernel
theorem dX7_run_44 : decode cX7_run 44 = .ok (.if_icmp .ge 48, 3) := by decide +kernel
theorem dX7_run_47 : decode cX7_run 47 = .ok (.aload_n 0, 1) := by decide +kernel
theorem dX7_run_48 : decode cX7_run 48 = .ok (.invokevirtual 142, 3) := by decide +kernel
theorem dX7_run_51 : decode cX7_run 51 = .ok (.ifCond .eq 14, 3) := by decide +kernel
theorem dX7_run_54 : decode cX7_run 54 = .ok (.aload_n 0, 1) := by decide +kernel
theorem dX7_run_55 : decode cX7_run 55 = .ok (.invokevirtual 148, 3) := by decide +kernel
theorem dX7_run_58 : decode cX7_run 58 = .ok (.ifCond .eq 7, 3) := by decide +kernel
theorem dX7_run_61 : decode cX7_run 61 = .ok (.iconst 1, 1) := by decide +kernel
theorem dX7_run_62 : decode cX7_run 62 = .ok (.goto 4, 3) := by decide +kernel
theorem dX7_run_65 : decode cX7_run 65 = .ok (.iconst 0, 1) := by decide +kernel
theorem dX7_run_66 : decode cX7_run 66 = .ok (.istore_n 2, 1) := by decide +kernel
theorem dX7_run_67 : decode cX7_run 67 = .ok (.iload_n 1, 1) := by decide +kernel
theorem dX7_run_68 : decode cX7_run 68 = .ok (.iload_n 2, 1) := by decide +kernel
theorem dX7_run_69 : decode cX7_run 69 = .ok (.ifCond .eq 7, 3) := by decide +kernel
theorem dX7_run_72 : decode cX7_run 72 = .ok (.iconst 1, 1) := by decide +kernel
theorem dX7_run_73 : decode cX7_run 73 = .ok (.goto 4, 3) := by decide +kernel
theorem dX7_run_76 : decode cX7_run 76 = .ok (.iconst 0, 1) := by decide +kernel
theorem dX7_run_77 : decode cX7_run 77 = .ok (.iadd, 1) := by decide +kernel
theorem dX7_run_78 : decode cX7_run 78 = .ok (.istore_n 1, 1) := by decide +kernel
theorem dX7_run_79 : decode cX7_run 79 = .ok (.aload_n 0, 1) := by decide +kernel
theorem dX7_run_80 : decode cX7_run 80 = .ok (.dup, 1) := by decide +kernel
theorem dX7_run_81 : decode cX7_run 81 = .ok (.getfield 111, 3) := by decide +kernel
theorem dX7_run_84 : decode cX7_run 84 = .ok (.iconst 1, 1) := by decide +kernel
theorem dX7_run_85 : decode cX7_run 85 = .ok (.iadd, 1) := by decide +kernel
theorem dX7_run_86 : decode cX7_run 86 = .ok (.putfield 111, 3) := by decide +kernel
theorem dX7_run_89 : decode cX7_run 89 = .ok (.goto (-57), 3) := by decide +kernel
theorem dX7_run_92 : decode cX7_run 92 = .ok (.aload_n 0, 1) := by decide +kernel
theorem dX7_run_93 : decode cX7_run 93 = .ok (.iconst 0, 1) := by decide +kernel
theorem dX7_run_94 : decode cX7_run 94 = .ok (.putfield 108, 3) := by decide +kernel
theorem dX7_run_97 : decode cX7_run 97 = .ok (.iload_n 1, 1) := by decide +kernel
theorem dX7_run_98 : decode cX7_run 98 = .ok (.ireturn, 1) := by decide +kernel
theorem dX7_tellsPlayer_0 : decode cX7_tellsPlayer 0 = .ok (.iload_n 2, 1) := by decide +kernel
theorem dX7_tellsPlayer_1 : decode cX7_tellsPlayer 1 = .ok (.iconst 3, 1) := by decide +kernel
theorem dX7_tellsPlayer_2 : decode cX7_tellsPlayer 2 = .ok (.if_icmp .ge 12, 3) := by decide +kernel
theorem dX7_tellsPlayer_5 : decode cX7_tellsPlayer 5 = .ok (.aload_n 0, 1) := by decide +kernel
theorem dX7_tellsPlayer_6 : decode cX7_tellsPlayer 6 = .ok (.iload_n 1, 1) := by decide +kernel
theorem dX7_tellsPlayer_7 : decode cX7_tellsPlayer 7 = .ok (.iload_n 2, 1) := by decide +kernel
theorem dX7_tellsPlayer_8 : decode cX7_tellsPlayer 8 = .ok (.invokevirtual 33, 3) := by decide +kernel
theorem dX7_tellsPlayer_11 : decode cX7_tellsPlayer 11 = .ok (.goto 24, 3) := by decide +kernel
theorem dX7_tellsPlayer_14 : decode cX7_tellsPlayer 14 = .ok (.iload_n 2, 1) := by decide +kernel
theorem dX7_tellsPlayer_15 : decode cX7_tellsPlayer 15 = .ok (.iconst 3, 1) := by decide +kernel
theorem dX7_tellsPlayer_16 : decode cX7_tellsPlayer 16 = .ok (.if_icmp .ne 11, 3) := by decide +kernel
theorem dX7_tellsPlayer_19 : decode cX7_tellsPlayer 19 = .ok (.aload_n 0, 1) := by decide +kernel
theorem dX7_tellsPlayer_20 : decode cX7_tellsPlayer 20 = .ok (.iload_n 1, 1) := by decide +kernel
theorem dX7_tellsPlayer_21 : decode cX7_tellsPlayer 21 = .ok (.invokevirtual 60, 3) := by decide +kernel
theorem dX7_tellsPlayer_24 : decode cX7_tellsPlayer 24 = .ok (.goto 11, 3) := by decide +kernel
theorem dX7_tellsPlayer_27 : decode cX7_tellsPlayer 27 = .ok (.aload_n 0, 1) := by decide +kernel
theorem dX7_tellsPlayer_28 : decode cX7_tellsPlayer 28 = .ok (.iload_n 1, 1) := by decide +kernel
theorem dX7_tellsPlayer_29 : decode cX7_tellsPlayer 29 = .ok (.iload_n 2, 1) := by decide +kernel
theorem dX7_tellsPlayer_30 : decode cX7_tellsPlayer 30 = .ok (.iconst 1, 1) := by decide +kernel
theorem dX7_tellsPlayer_31 : decode cX7_tellsPlayer 31 = .ok (.isub, 1) := by decide +kernel
theorem dX7_tellsPlayer_32 : decode cX7_tellsPlayer 32 = .ok (.invokevirtual 33, 3) := by decide +kernel
theorem dX7_tellsPlayer_35 : decode cX7_tellsPlayer 35 = .ok (.ireturn, 1) := by decide +kernel
theorem dX7_playerOf_0 : decode cX7_playerOf 0 = .ok (.aload_n 0, 1) := by decide +kernel
theorem dX7_playerOf_1 : decode cX7_playerOf 1 = .ok (.iconst 0, 1) := by decide +kernel
theorem dX7_playerOf_2 : decode cX7_playerOf 2 = .ok (.putfield 25, 3) := by decide +kernel
theorem dX7_playerOf_5 : decode cX7_playerOf 5 = .ok (.iload_n 1, 1) := by decide +kernel
theorem dX7_playerOf_6 : decode cX7_playerOf 6 = .ok (.invokestatic 91, 3) := by decide +kernel
theorem dX7_playerOf_9 : decode cX7_playerOf 9 = .ok (.ifCond .ne 9, 3) := by decide +kernel
theorem dX7_playerOf_12 : decode cX7_playerOf 12 = .ok (.aload_n 0, 1) := by decide +kernel
theorem dX7_playerOf_13 : decode cX7_playerOf 13 = .ok (.iconst 1, 1) := by decide +kernel
theorem dX7_playerOf_14 : decode cX7_playerOf 14 = .ok (.invokevirtual 40, 3) := by decide +kernel
theorem dX7_playerOf_17 : decode cX7_playerOf 17 = .ok (.ireturn, 1) := by decide +kernel
theorem dX7_playerOf_18 : decode cX7_playerOf 18 = .ok (.iload_n 2, 1) := by decide +kernel
theorem dX7_playerOf_19 : decode cX7_playerOf 19 = .ok (.iconst 0, 1) := by decide +kernel
theorem dX7_playerOf_20 : decode cX7_playerOf 20 = .ok (.bipush 6, 2) := by decide +kernel
theorem dX7_playerOf_22 : decode cX7_playerOf 22 = .ok (.invokestatic 29, 3) := by decide +kernel
theorem dX7_playerOf_25 : decode cX7_playerOf 25 = .ok (.ifCond .eq 12, 3) := by decide +kernel
theorem dX7_playerOf_28 : decode cX7_playerOf 28 = .ok (.aload_n 0, 1) := by decide +kernel
theorem dX7_playerOf_29 : decode cX7_playerOf 29 = .ok (.iload_n 1, 1) := by decide +kernel
theorem dX7_playerOf_30 : decode cX7_playerOf 30 = .ok (.iload_n 2, 1) := by decide +kernel
theorem dX7_playerOf_31 : decode cX7_playerOf 31 = .ok (.invokevirtual 151, 3) := by decide +kernel
theorem dX7_playerOf_34 : decode cX7_playerOf 34 = .ok (.goto 8, 3) := by decide +kernel
theorem dX7_playerOf_37 : decode cX7_playerOf 37 = .ok (.aload_n 0, 1) := by decide +kernel
theorem dX7_playerOf_38 : decode cX7_playerOf 38 = .ok (.iconst 2, 1) := by decide +kernel
theorem dX7_playerOf_39 : decode cX7_playerOf 39 = .ok (.invokevirtual 40, 3) := by decide +kernel
theorem dX7_playerOf_42 : decode cX7_playerOf 42 = .ok (.ireturn, 1) := by decide +kernel
theorem dX7_echoAt_0 : decode cX7_echoAt 0 = .ok (.iconst (-1), 1) := by decide +kernel
theorem dX7_echoAt_1 : decode cX7_echoAt 1 = .ok (.istore_n 2, 1) := by decide +kernel
theorem dX7_echoAt_2 : decode cX7_echoAt 2 = .ok (.iconst 0, 1) := by decide +kernel
theorem dX7_echoAt_3 : decode cX7_echoAt 3 = .ok (.istore_n 3, 1) := by decide +kernel
theorem dX7_echoAt_4 : decode cX7_echoAt 4 = .ok (.iload_n 3, 1) := by decide +kernel
theorem dX7_echoAt_5 : decode cX7_echoAt 5 = .ok (.aload_n 0, 1) := by decide +kernel
theorem dX7_echoAt_6 : decode cX7_echoAt 6 = .ok (.getfield 7, 3) := by decide +kernel
theorem dX7_echoAt_9 : decode cX7_echoAt 9 = .ok (.bipush 9, 2) := by decide +kernel
theorem dX7_echoAt_11 : decode cX7_echoAt 11 = .ok (.iaload, 1) := by decide +kernel
theorem dX7_echoAt_12 : decode cX7_echoAt 12 = .ok (.if_icmp .ge 87, 3) := by decide +kernel
theorem dX7_echoAt_15 : decode cX7_echoAt 15 = .ok (.iconst 0, 1) := by decide +kernel
theorem dX7_echoAt_16 : decode cX7_echoAt 16 = .ok (.istore 4, 2) := by decide +kernel
theorem dX7_echoAt_18 : decode cX7_echoAt 18 = .ok (.iconst 0, 1) := by decide +kernel
theorem dX7_echoAt_19 : decode cX7_echoAt 19 = .ok (.istore 5, 2) := by decide +kernel
theorem dX7_echoAt_21 : decode cX7_echoAt 21 = .ok (.iload 5, 2) := by decide +kernel
theorem dX7_echoAt_23 : decode cX7_echoAt 23 = .ok (.aload_n 0, 1) := by decide +kernel
theorem dX7_echoAt_24 : decode cX7_echoAt 24 = .ok (.getfield 7, 3) := by decide +kernel
theorem dX7_echoAt_27 : decode cX7_echoAt 27 = .ok (.bipush 9, 2) := by decide +kernel
theorem dX7_echoAt_29 : decode cX7_echoAt 29 = .ok (.iaload, 1) := by decide +kernel
theorem dX7_echoAt_30 : decode cX7_echoAt 30 = .ok (.if_icmp .ge 51, 3) := by decide +kernel
theorem dX7_echoAt_33 : decode cX7_echoAt 33 = .ok (.aload_n 0, 1) := by decide +kernel
theorem dX7_echoAt_34 : decode cX7_echoAt 34 = .ok (.iload 5, 2) := by decide +kernel
theorem dX7_echoAt_36 : decode cX7_echoAt 36 = .ok (.iconst 3, 1) := by decide +kernel
theorem dX7_echoAt_37 : decode cX7_echoAt 37 = .ok (.invokevirtual 54, 3) := by decide +kernel
theorem dX7_echoAt_40 : decode cX7_echoAt 40 = .ok (.aload_n 0, 1) := by decide +kernel
theorem dX7_echoAt_41 : decode cX7_echoAt 41 = .ok (.iload_n 3, 1) := by decide +kernel
theorem dX7_echoAt_42 : decode cX7_echoAt 42 = .ok (.iconst 3, 1) := by decide +kernel
theorem dX7_echoAt_43 : decode cX7_echoAt 43 = .ok (.invokevirtual 54, 3) := by decide +kernel
theorem dX7_echoAt_46 : decode cX7_echoAt 46 = .ok (.isub, 1) := by decide +kernel
theorem dX7_echoAt_47 : decode cX7_echoAt 47 = .ok (.istore 6, 2) := by decide +kernel
theorem dX7_echoAt_49 : decode cX7_echoAt 49 = .ok (.iload 4, 2) := by decide +kernel
theorem dX7_echoAt_51 : decode cX7_echoAt 51 = .ok (.iload 6, 2) := by decide +kernel
theorem dX7_echoAt_53 : decode cX7_echoAt 53 = .ok (.ifCond .lt 14, 3) := by decide +kernel
theorem dX7_echoAt_56 : decode cX7_echoAt 56 = .ok (.iload 6, 2) := by decide +kernel
theorem dX7_echoAt_58 : decode cX7_echoAt 58 = .ok (.ifCond .ne 13, 3) := by decide +kernel
theorem dX7_echoAt_61 : decode cX7_echoAt 61 = .ok (.iload 5, 2) := by decide +kernel
theorem dX7_echoAt_63 : decode cX7_echoAt 63 = .ok (.iload_n 3, 1) := by decide +kernel
theorem dX7_echoAt_64 : decode cX7_echoAt 64 = .ok (.if_icmp .ge 7, 3) := by decide +kernel
theorem dX7_echoAt_67 : decode cX7_echoAt 67 = .ok (.iconst 1, 1) := by decide +kernel
theorem dX7_echoAt_68 : decode cX7_echoAt 68 = .ok (.goto 4, 3) := by decide +kernel
theorem dX7_echoAt_71 : decode cX7_echoAt 71 = .ok (.iconst 0, 1) := by decide +kernel
theorem dX7_echoAt_72 : decode cX7_echoAt 72 = .ok (.iadd, 1) := by decide +kernel
theorem dX7_echoAt_73 : decode cX7_echoAt 73 = .ok (.istore 4, 2) := by decide +kernel
theorem dX7_echoAt_75 : decode cX7_echoAt 75 = .ok (.iinc 5 1, 3) := by decide +kernel
theorem dX7_echoAt_78 : decode cX7_echoAt 78 = .ok (.goto (-57), 3) := by decide +kernel
theorem dX7_echoAt_81 : decode cX7_echoAt 81 = .ok (.iload 4, 2) := by decide +kernel
theorem dX7_echoAt_83 : decode cX7_echoAt 83 = .ok (.iload_n 1, 1) := by decide +kernel
theorem dX7_echoAt_84 : decode cX7_echoAt 84 = .ok (.if_icmp .ne 7, 3) := by decide +kernel
theorem dX7_echoAt_87 : decode cX7_echoAt 87 = .ok (.iload_n 3, 1) := by decide +kernel
theorem dX7_echoAt_88 : decode cX7_echoAt 88 = .ok (.goto 4, 3) := by decide +kernel
theorem dX7_echoAt_91 : decode cX7_echoAt 91 = .ok (.iload_n 2, 1) := by decide +kernel
theorem dX7_echoAt_92 : decode cX7_echoAt 92 = .ok (.istore_n 2, 1) := by decide +kernel
theorem dX7_echoAt_93 : decode cX7_echoAt 93 = .ok (.iinc 3 1, 3) := by decide +kernel
theorem dX7_echoAt_96 : decode cX7_echoAt 96 = .ok (.goto (-92), 3) := by decide +kernel
theorem dX7_echoAt_99 : decode cX7_echoAt 99 = .ok (.iload_n 2, 1) := by decide +kernel
theorem dX7_echoAt_100 : decode cX7_echoAt 100 = .ok (.ireturn, 1) := by decide +kernel
theorem dX7_tellsEcho_0 : decode cX7_tellsEcho 0 = .ok (.aload_n 0, 1) := by decide +kernel
theorem dX7_tellsEcho_1 : decode cX7_tellsEcho 1 = .ok (.iload_n 1, 1) := by decide +kernel
theorem dX7_tellsEcho_2 : decode cX7_tellsEcho 2 = .ok (.invokevirtual 154, 3) := by decide +kernel
theorem dX7_tellsEcho_5 : decode cX7_tellsEcho 5 = .ok (.istore_n 3, 1) := by decide +kernel
theorem dX7_tellsEcho_6 : decode cX7_tellsEcho 6 = .ok (.iload_n 3, 1) := by decide +kernel
theorem dX7_tellsEcho_7 : decode cX7_tellsEcho 7 = .ok (.iconst (-1), 1) := by decide +kernel
theorem dX7_tellsEcho_8 : decode cX7_tellsEcho 8 = .ok (.if_icmp .ne 5, 3) := by decide +kernel
theorem dX7_tellsEcho_11 : decode cX7_tellsEcho 11 = .ok (.iconst (-1), 1) := by decide +kernel
theorem dX7_tellsEcho_12 : decode cX7_tellsEcho 12 = .ok (.ireturn, 1) := by decide +kernel
theorem dX7_tellsEcho_13 : decode cX7_tellsEcho 13 = .ok (.iload_n 2, 1) := by decide +kernel
theorem dX7_tellsEcho_14 : decode cX7_tellsEcho 14 = .ok (.tableswitch 73 3 5 #[26, 40, 47], 26) := by decide +kernel
theorem dX7_tellsEcho_40 : decode cX7_tellsEcho 40 = .ok (.aload_n 0, 1) := by decide +kernel
theorem dX7_tellsEcho_41 : decode cX7_tellsEcho 41 = .ok (.iload_n 3, 1) := by decide +kernel
theorem dX7_tellsEcho_42 : decode cX7_tellsEcho 42 = .ok (.iconst 3, 1) := by decide +kernel
theorem dX7_tellsEcho_43 : decode cX7_tellsEcho 43 = .ok (.invokevirtual 54, 3) := by decide +kernel
theorem dX7_tellsEcho_46 : decode cX7_tellsEcho 46 = .ok (.aload_n 0, 1) := by decide +kernel
theorem dX7_tellsEcho_47 : decode cX7_tellsEcho 47 = .ok (.getfield 7, 3) := by decide +kernel
theorem dX7_tellsEcho_50 : decode cX7_tellsEcho 50 = .ok (.iconst 3, 1) := by decide +kernel
theorem dX7_tellsEcho_51 : decode cX7_tellsEcho 51 = .ok (.iaload, 1) := by decide +kernel
theorem dX7_tellsEcho_52 : decode cX7_tellsEcho 52 = .ok (.isub, 1) := by decide +kernel
theorem dX7_tellsEcho_53 : decode cX7_tellsEcho 53 = .ok (.ireturn, 1) := by decide +kernel
theorem dX7_tellsEcho_54 : decode cX7_tellsEcho 54 = .ok (.aload_n 0, 1) := by decide +kernel
theorem dX7_tellsEcho_55 : decode cX7_tellsEcho 55 = .ok (.iload_n 3, 1) := by decide +kernel
theorem dX7_tellsEcho_56 : decode cX7_tellsEcho 56 = .ok (.iconst 4, 1) := by decide +kernel
theorem dX7_tellsEcho_57 : decode cX7_tellsEcho 57 = .ok (.invokevirtual 54, 3) := by decide +kernel
theorem dX7_tellsEcho_60 : decode cX7_tellsEcho 60 = .ok (.ireturn, 1) := by decide +kernel
theorem dX7_tellsEcho_61 : decode cX7_tellsEcho 61 = .ok (.aload_n 0, 1) := by decide +kernel
theorem dX7_tellsEcho_62 : decode cX7_tellsEcho 62 = .ok (.aload_n 0, 1) := by decide +kernel
theorem dX7_tellsEcho_63 : decode cX7_tellsEcho 63 = .ok (.iload_n 3, 1) := by decide +kernel
theorem dX7_tellsEcho_64 : decode cX7_tellsEcho 64 = .ok (.iconst 1, 1) := by decide +kernel
theorem dX7_tellsEcho_65 : decode cX7_tellsEcho 65 = .ok (.invokevirtual 54, 3) := by decide +kernel
theorem dX7_tellsEcho_68 : decode cX7_tellsEcho 68 = .ok (.aload_n 0, 1) := by decide +kernel
theorem dX7_tellsEcho_69 : decode cX7_tellsEcho 69 = .ok (.iload_n 3, 1) := by decide +kernel
theorem dX7_tellsEcho_70 : decode cX7_tellsEcho 70 = .ok (.iconst 3, 1) := by decide +kernel
theorem dX7_tellsEcho_71 : decode cX7_tellsEcho 71 = .ok (.invokevirtual 54, 3) := by decide +kernel
theorem dX7_tellsEcho_74 : decode cX7_tellsEcho 74 = .ok (.invokevirtual 77, 3) := by decide +kernel
theorem dX7_tellsEcho_77 : decode cX7_tellsEcho 77 = .ok (.iconst 1, 1) := by decide +kernel
theorem dX7_tellsEcho_78 : decode cX7_tellsEcho 78 = .ok (.if_icmp .le 7, 3) := by decide +kernel
theorem dX7_tellsEcho_81 : decode cX7_tellsEcho 81 = .ok (.iconst 1, 1) := by decide +kernel
theorem dX7_tellsEcho_82 : decode cX7_tellsEcho 82 = .ok (.goto 4, 3) := by decide +kernel
theorem dX7_tellsEcho_85 : decode cX7_tellsEcho 85 = .ok (.iconst 0, 1) := by decide +kernel
theorem dX7_tellsEcho_86 : decode cX7_tellsEcho 86 = .ok (.ireturn, 1) := by decide +kernel
theorem dX7_tellsEcho_87 : decode cX7_tellsEcho 87 = .ok (.aload_n 0, 1) := by decide +kernel
theorem dX7_tellsEcho_88 : decode cX7_tellsEcho 88 = .ok (.iload_n 3, 1) := by decide +kernel
theorem dX7_tellsEcho_89 : decode cX7_tellsEcho 89 = .ok (.iload_n 2, 1) := by decide +kernel
theorem dX7_tellsEcho_90 : decode cX7_tellsEcho 90 = .ok (.invokevirtual 54, 3) := by decide +kernel
theorem dX7_tellsEcho_93 : decode cX7_tellsEcho 93 = .ok (.ireturn, 1) := by decide +kernel
theorem dX7_echoOf_0 : decode cX7_echoOf 0 = .ok (.aload_n 0, 1) := by decide +kernel
theorem dX7_echoOf_1 : decode cX7_echoOf 1 = .ok (.iconst 0, 1) := by decide +kernel
theorem dX7_echoOf_2 : decode cX7_echoOf 2 = .ok (.putfield 25, 3) := by decide +kernel
theorem dX7_echoOf_5 : decode cX7_echoOf 5 = .ok (.iload_n 1, 1) := by decide +kernel
theorem dX7_echoOf_6 : decode cX7_echoOf 6 = .ok (.ifCond .lt 21, 3) := by decide +kernel
theorem dX7_echoOf_9 : decode cX7_echoOf 9 = .ok (.iload_n 2, 1) := by decide +kernel
theorem dX7_echoOf_10 : decode cX7_echoOf 10 = .ok (.iconst 0, 1) := by decide +kernel
theorem dX7_echoOf_11 : decode cX7_echoOf 11 = .ok (.iconst 5, 1) := by decide +kernel
theorem dX7_echoOf_12 : decode cX7_echoOf 12 = .ok (.invokestatic 29, 3) := by decide +kernel
theorem dX7_echoOf_15 : decode cX7_echoOf 15 = .ok (.ifCond .eq 12, 3) := by decide +kernel
theorem dX7_echoOf_18 : decode cX7_echoOf 18 = .ok (.aload_n 0, 1) := by decide +kernel
theorem dX7_echoOf_19 : decode cX7_echoOf 19 = .ok (.iload_n 1, 1) := by decide +kernel
theorem dX7_echoOf_20 : decode cX7_echoOf 20 = .ok (.iload_n 2, 1) := by decide +kernel
theorem dX7_echoOf_21 : decode cX7_echoOf 21 = .ok (.invokevirtual 157, 3) := by decide +kernel
theorem dX7_echoOf_24 : decode cX7_echoOf 24 = .ok (.goto 8, 3) := by decide +kernel
theorem dX7_echoOf_27 : decode cX7_echoOf 27 = .ok (.aload_n 0, 1) := by decide +kernel
theorem dX7_echoOf_28 : decode cX7_echoOf 28 = .ok (.iconst 1, 1) := by decide +kernel
theorem dX7_echoOf_29 : decode cX7_echoOf 29 = .ok (.invokevirtual 40, 3) := by decide +kernel
theorem dX7_echoOf_32 : decode cX7_echoOf 32 = .ok (.ireturn, 1) := by decide +kernel
theorem dX7_tellsCount_0 : decode cX7_tellsCount 0 = .ok (.iload_n 1, 1) := by decide +kernel
theorem dX7_tellsCount_1 : decode cX7_tellsCount 1 = .ok (.tableswitch 136 0 10 #[59, 66, 73, 80, 88, 96, 104, 110, 116, 122, 128], 59) := by decide +kernel
theorem dX7_tellsCount_60 : decode cX7_tellsCount 60 = .ok (.aload_n 0, 1) := by decide +kernel
theorem dX7_tellsCount_61 : decode cX7_tellsCount 61 = .ok (.getfield 7, 3) := by decide +kernel
theorem dX7_tellsCount_64 : decode cX7_tellsCount 64 = .ok (.iconst 3, 1) := by decide +kernel
theorem dX7_tellsCount_65 : decode cX7_tellsCount 65 = .ok (.iaload, 1) := by decide +kernel
theorem dX7_tellsCount_66 : decode cX7_tellsCount 66 = .ok (.ireturn, 1) := by decide +kernel
theorem dX7_tellsCount_67 : decode cX7_tellsCount 67 = .ok (.aload_n 0, 1) := by decide +kernel
theorem dX7_tellsCount_68 : decode cX7_tellsCount 68 = .ok (.getfield 7, 3) := by decide +kernel
theorem dX7_tellsCount_71 : decode cX7_tellsCount 71 = .ok (.iconst 4, 1) := by decide +kernel
theorem dX7_tellsCount_72 : decode cX7_tellsCount 72 = .ok (.iaload, 1) := by decide +kernel
theorem dX7_tellsCount_73 : decode cX7_tellsCount 73 = .ok (.ireturn, 1) := by decide +kernel
theorem dX7_tellsCount_74 : decode cX7_tellsCount 74 = .ok (.aload_n 0, 1) := by decide +kernel
theorem dX7_tellsCount_75 : decode cX7_tellsCount 75 = .ok (.getfield 7, 3) := by decide +kernel
theorem dX7_tellsCount_78 : decode cX7_tellsCount 78 = .ok (.iconst 5, 1) := by decide +kernel
theorem dX7_tellsCount_79 : decode cX7_tellsCount 79 = .ok (.iaload, 1) := by decide +kernel
theorem dX7_tellsCount_80 : decode cX7_tellsCount 80 = .ok (.ireturn, 1) := by decide +kernel
theorem dX7_tellsCount_81 : decode cX7_tellsCount 81 = .ok (.aload_n 0, 1) := by decide +kernel
theorem dX7_tellsCount_82 : decode cX7_tellsCount 82 = .ok (.getfield 7, 3) := by decide +kernel
theorem dX7_tellsCount_85 : decode cX7_tellsCount 85 = .ok (.bipush 6, 2) := by decide +kernel
theorem dX7_tellsCount_87 : decode cX7_tellsCount 87 = .ok (.iaload, 1) := by decide +kernel
theorem dX7_tellsCount_88 : decode cX7_tellsCount 88 = .ok (.ireturn, 1) := by decide +kernel
theorem dX7_tellsCount_89 : decode cX7_tellsCount 89 = .ok (.aload_n 0, 1) := by decide +kernel
theorem dX7_tellsCount_90 : decode cX7_tellsCount 90 = .ok (.getfield 7, 3) := by decide +kernel
theorem dX7_tellsCount_93 : decode cX7_tellsCount 93 = .ok (.bipush 9, 2) := by decide +kernel
theorem dX7_tellsCount_95 : decode cX7_tellsCount 95 = .ok (.iaload, 1) := by decide +kernel
theorem dX7_tellsCount_96 : decode cX7_tellsCount 96 = .ok (.ireturn, 1) := by decide +kernel
theorem dX7_tellsCount_97 : decode cX7_tellsCount 97 = .ok (.aload_n 0, 1) := by decide +kernel
theorem dX7_tellsCount_98 : decode cX7_tellsCount 98 = .ok (.getfield 7, 3) := by decide +kernel
theorem dX7_tellsCount_101 : decode cX7_tellsCount 101 = .ok (.bipush 8, 2) := by decide +kernel
theorem dX7_tellsCount_103 : decode cX7_tellsCount 103 = .ok (.iaload, 1) := by decide +kernel
theorem dX7_tellsCount_104 : decode cX7_tellsCount 104 = .ok (.ireturn, 1) := by decide +kernel
theorem dX7_tellsCount_105 : decode cX7_tellsCount 105 = .ok (.aload_n 0, 1) := by decide +kernel
theorem dX7_tellsCount_106 : decode cX7_tellsCount 106 = .ok (.iconst 3, 1) := by decide +kernel
theorem dX7_tellsCount_107 : decode cX7_tellsCount 107 = .ok (.invokevirtual 160, 3) := by decide +kernel
theorem dX7_tellsCount_110 : decode cX7_tellsCount 110 = .ok (.ireturn, 1) := by decide +kernel
theorem dX7_tellsCount_111 : decode cX7_tellsCount 111 = .ok (.aload_n 0, 1) := by decide +kernel
theorem dX7_tellsCount_112 : decode cX7_tellsCount 112 = .ok (.iconst 4, 1) := by decide +kernel
theorem dX7_tellsCount_113 : decode cX7_tellsCount 113 = .ok (.invokevirtual 160, 3) := by decide +kernel
theorem dX7_tellsCount_116 : decode cX7_tellsCount 116 = .ok (.ireturn, 1) := by decide +kernel
theorem dX7_tellsCount_117 : decode cX7_tellsCount 117 = .ok (.aload_n 0, 1) := by decide +kernel
theorem dX7_tellsCount_118 : decode cX7_tellsCount 118 = .ok (.iconst 5, 1) := by decide +kernel
theorem dX7_tellsCount_119 : decode cX7_tellsCount 119 = .ok (.invokevirtual 160, 3) := by decide +kernel
theorem dX7_tellsCount_122 : decode cX7_tellsCount 122 = .ok (.ireturn, 1) := by decide +kernel
theorem dX7_tellsCount_123 : decode cX7_tellsCount 123 = .ok (.aload_n 0, 1) := by decide +kernel
theorem dX7_tellsCount_124 : decode cX7_tellsCount 124 = .ok (.iconst 1, 1) := by decide +kernel
theorem dX7_tellsCount_125 : decode cX7_tellsCount 125 = .ok (.invokevirtual 160, 3) := by decide +kernel
theorem dX7_tellsCount_128 : decode cX7_tellsCount 128 = .ok (.ireturn, 1) := by decide +kernel
theorem dX7_tellsCount_129 : decode cX7_tellsCount 129 = .ok (.aload_n 0, 1) := by decide +kernel
theorem dX7_tellsCount_130 : decode cX7_tellsCount 130 = .ok (.getfield 7, 3) := by decide +kernel
theorem dX7_tellsCount_133 : decode cX7_tellsCount 133 = .ok (.bipush 7, 2) := by decide +kernel
theorem dX7_tellsCount_135 : decode cX7_tellsCount 135 = .ok (.iaload, 1) := by decide +kernel
theorem dX7_tellsCount_136 : decode cX7_tellsCount 136 = .ok (.ireturn, 1) := by decide +kernel
theorem dX7_tellsCount_137 : decode cX7_tellsCount 137 = .ok (.aload_n 0, 1) := by decide +kernel
theorem dX7_tellsCount_138 : decode cX7_tellsCount 138 = .ok (.getfield 37, 3) := by decide +kernel
theorem dX7_tellsCount_141 : decode cX7_tellsCount 141 = .ok (.ireturn, 1) := by decide +kernel
theorem dX7_count_0 : decode cX7_count 0 = .ok (.aload_n 0, 1) := by decide +kernel
theorem dX7_count_1 : decode cX7_count 1 = .ok (.iconst 0, 1) := by decide +kernel
theorem dX7_count_2 : decode cX7_count 2 = .ok (.putfield 25, 3) := by decide +kernel
theorem dX7_count_5 : decode cX7_count 5 = .ok (.iload_n 1, 1) := by decide +kernel
theorem dX7_count_6 : decode cX7_count 6 = .ok (.iconst 0, 1) := by decide +kernel
theorem dX7_count_7 : decode cX7_count 7 = .ok (.bipush 11, 2) := by decide +kernel
theorem dX7_count_9 : decode cX7_count 9 = .ok (.invokestatic 29, 3) := by decide +kernel
theorem dX7_count_12 : decode cX7_count 12 = .ok (.ifCond .eq 11, 3) := by decide +kernel
theorem dX7_count_15 : decode cX7_count 15 = .ok (.aload_n 0, 1) := by decide +kernel
theorem dX7_count_16 : decode cX7_count 16 = .ok (.iload_n 1, 1) := by decide +kernel
theorem dX7_count_17 : decode cX7_count 17 = .ok (.invokevirtual 163, 3) := by decide +kernel
theorem dX7_count_20 : decode cX7_count 20 = .ok (.goto 8, 3) := by decide +kernel
theorem dX7_count_23 : decode cX7_count 23 = .ok (.aload_n 0, 1) := by decide +kernel
theorem dX7_count_24 : decode cX7_count 24 = .ok (.iconst 1, 1) := by decide +kernel
theorem dX7_count_25 : decode cX7_count 25 = .ok (.invokevirtual 40, 3) := by decide +kernel
theorem dX7_count_28 : decode cX7_count 28 = .ok (.ireturn, 1) := by decide +kernel
theorem dX7_setting_0 : decode cX7_setting 0 = .ok (.aload_n 0, 1) := by decide +kernel
theorem dX7_setting_1 : decode cX7_setting 1 = .ok (.iconst 0, 1) := by decide +kernel
theorem dX7_setting_2 : decode cX7_setting 2 = .ok (.putfield 25, 3) := by decide +kernel
theorem dX7_setting_5 : decode cX7_setting 5 = .ok (.iload_n 1, 1) := by decide +kernel
theorem dX7_setting_6 : decode cX7_setting 6 = .ok (.iconst 0, 1) := by decide +kernel
theorem dX7_setting_7 : decode cX7_setting 7 = .ok (.iconst 2, 1) := by decide +kernel
theorem dX7_setting_8 : decode cX7_setting 8 = .ok (.invokestatic 29, 3) := by decide +kernel
theorem dX7_setting_11 : decode cX7_setting 11 = .ok (.ifCond .eq 12, 3) := by decide +kernel
theorem dX7_setting_14 : decode cX7_setting 14 = .ok (.aload_n 0, 1) := by decide +kernel
theorem dX7_setting_15 : decode cX7_setting 15 = .ok (.getfield 7, 3) := by decide +kernel
theorem dX7_setting_18 : decode cX7_setting 18 = .ok (.iload_n 1, 1) := by decide +kernel
theorem dX7_setting_19 : decode cX7_setting 19 = .ok (.iaload, 1) := by decide +kernel
theorem dX7_setting_20 : decode cX7_setting 20 = .ok (.goto 8, 3) := by decide +kernel
theorem dX7_setting_23 : decode cX7_setting 23 = .ok (.aload_n 0, 1) := by decide +kernel
theorem dX7_setting_24 : decode cX7_setting 24 = .ok (.iconst 1, 1) := by decide +kernel
theorem dX7_setting_25 : decode cX7_setting 25 = .ok (.invokevirtual 40, 3) := by decide +kernel
theorem dX7_setting_28 : decode cX7_setting 28 = .ok (.ireturn, 1) := by decide +kernel
theorem dX7_tellsBall_0 : decode cX7_tellsBall 0 = .ok (.iload_n 1, 1) := by decide +kernel
theorem dX7_tellsBall_1 : decode cX7_tellsBall 1 = .ok (.aload_n 0, 1) := by decide +kernel
theorem dX7_tellsBall_2 : decode cX7_tellsBall 2 = .ok (.getfield 7, 3) := by decide +kernel
theorem dX7_tellsBall_5 : decode cX7_tellsBall 5 = .ok (.iconst 5, 1) := by decide +kernel
theorem dX7_tellsBall_6 : decode cX7_tellsBall 6 = .ok (.iaload, 1) := by decide +kernel
theorem dX7_tellsBall_7 : decode cX7_tellsBall 7 = .ok (.imul, 1) := by decide +kernel
theorem dX7_tellsBall_8 : decode cX7_tellsBall 8 = .ok (.istore_n 3, 1) := by decide +kernel
theorem dX7_tellsBall_9 : decode cX7_tellsBall 9 = .ok (.aload_n 0, 1) := by decide +kernel
theorem dX7_tellsBall_10 : decode cX7_tellsBall 10 = .ok (.invokevirtual 71, 3) := by decide +kernel
theorem dX7_tellsBall_13 : decode cX7_tellsBall 13 = .ok (.aload_n 0, 1) := by decide +kernel
theorem dX7_tellsBall_14 : decode cX7_tellsBall 14 = .ok (.iload_n 3, 1) := by decide +kernel
theorem dX7_tellsBall_15 : decode cX7_tellsBall 15 = .ok (.invokevirtual 74, 3) := by decide +kernel
theorem dX7_tellsBall_18 : decode cX7_tellsBall 18 = .ok (.iload_n 2, 1) := by decide +kernel
theorem dX7_tellsBall_19 : decode cX7_tellsBall 19 = .ok (.ifCond .ne 10, 3) := by decide +kernel
theorem dX7_tellsBall_22 : decode cX7_tellsBall 22 = .ok (.aload_n 0, 1) := by decide +kernel
theorem dX7_tellsBall_23 : decode cX7_tellsBall 23 = .ok (.getfield 47, 3) := by decide +kernel
theorem dX7_tellsBall_26 : decode cX7_tellsBall 26 = .ok (.goto 28, 3) := by decide +kernel
theorem dX7_tellsBall_29 : decode cX7_tellsBall 29 = .ok (.iload_n 2, 1) := by decide +kernel
theorem dX7_tellsBall_30 : decode cX7_tellsBall 30 = .ok (.iconst 1, 1) := by decide +kernel
theorem dX7_tellsBall_31 : decode cX7_tellsBall 31 = .ok (.if_icmp .ne 11, 3) := by decide +kernel
theorem dX7_tellsBall_34 : decode cX7_tellsBall 34 = .ok (.aload_n 0, 1) := by decide +kernel
theorem dX7_tellsBall_35 : decode cX7_tellsBall 35 = .ok (.iload_n 3, 1) := by decide +kernel
theorem dX7_tellsBall_36 : decode cX7_tellsBall 36 = .ok (.invokevirtual 166, 3) := by decide +kernel
theorem dX7_tellsBall_39 : decode cX7_tellsBall 39 = .ok (.goto 15, 3) := by decide +kernel
theorem dX7_tellsBall_42 : decode cX7_tellsBall 42 = .ok (.aload_n 0, 1) := by decide +kernel
theorem dX7_tellsBall_43 : decode cX7_tellsBall 43 = .ok (.getfield 50, 3) := by decide +kernel
theorem dX7_tellsBall_46 : decode cX7_tellsBall 46 = .ok (.ifCond .eq 7, 3) := by decide +kernel
theorem dX7_tellsBall_49 : decode cX7_tellsBall 49 = .ok (.iconst 1, 1) := by decide +kernel
theorem dX7_tellsBall_50 : decode cX7_tellsBall 50 = .ok (.goto 4, 3) := by decide +kernel
theorem dX7_tellsBall_53 : decode cX7_tellsBall 53 = .ok (.iconst 0, 1) := by decide +kernel
theorem dX7_tellsBall_54 : decode cX7_tellsBall 54 = .ok (.ireturn, 1) := by decide +kernel
theorem dX7_ballIn_0 : decode cX7_ballIn 0 = .ok (.aload_n 0, 1) := by decide +kernel
theorem dX7_ballIn_1 : decode cX7_ballIn 1 = .ok (.iconst 0, 1) := by decide +kernel
theorem dX7_ballIn_2 : decode cX7_ballIn 2 = .ok (.putfield 25, 3) := by decide +kernel
theorem dX7_ballIn_5 : decode cX7_ballIn 5 = .ok (.iload_n 1, 1) := by decide +kernel
theorem dX7_ballIn_6 : decode cX7_ballIn 6 = .ok (.iconst 0, 1) := by decide +kernel
theorem dX7_ballIn_7 : decode cX7_ballIn 7 = .ok (.bipush 99, 2) := by decide +kernel
theorem dX7_ballIn_9 : decode cX7_ballIn 9 = .ok (.invokestatic 29, 3) := by decide +kernel
theorem dX7_ballIn_12 : decode cX7_ballIn 12 = .ok (.ifCond .eq 21, 3) := by decide +kernel
theorem dX7_ballIn_15 : decode cX7_ballIn 15 = .ok (.iload_n 2, 1) := by decide +kernel
theorem dX7_ballIn_16 : decode cX7_ballIn 16 = .ok (.iconst 0, 1) := by decide +kernel
theorem dX7_ballIn_17 : decode cX7_ballIn 17 = .ok (.iconst 2, 1) := by decide +kernel
theorem dX7_ballIn_18 : decode cX7_ballIn 18 = .ok (.invokestatic 29, 3) := by decide +kernel
theorem dX7_ballIn_21 : decode cX7_ballIn 21 = .ok (.ifCond .eq 12, 3) := by decide +kernel
theorem dX7_ballIn_24 : decode cX7_ballIn 24 = .ok (.aload_n 0, 1) := by decide +kernel
theorem dX7_ballIn_25 : decode cX7_ballIn 25 = .ok (.iload_n 1, 1) := by decide +kernel
theorem dX7_ballIn_26 : decode cX7_ballIn 26 = .ok (.iload_n 2, 1) := by decide +kernel
theorem dX7_ballIn_27 : decode cX7_ballIn 27 = .ok (.invokevirtual 169, 3) := by decide +kernel
theorem dX7_ballIn_30 : decode cX7_ballIn 30 = .ok (.goto 8, 3) := by decide +kernel
theorem dX7_ballIn_33 : decode cX7_ballIn 33 = .ok (.aload_n 0, 1) := by decide +kernel
theorem dX7_ballIn_34 : decode cX7_ballIn 34 = .ok (.iconst 1, 1) := by decide +kernel
theorem dX7_ballIn_35 : decode cX7_ballIn 35 = .ok (.invokevirtual 40, 3) := by decide +kernel
theorem dX7_ballIn_38 : decode cX7_ballIn 38 = .ok (.ireturn, 1) := by decide +kernel
theorem dX7_delayOf_0 : decode cX7_delayOf 0 = .ok (.aload_n 0, 1) := by decide +kernel
theorem dX7_delayOf_1 : decode cX7_delayOf 1 = .ok (.aload_n 0, 1) := by decide +kernel
theorem dX7_delayOf_2 : decode cX7_delayOf 2 = .ok (.iload_n 1, 1) := by decide +kernel
theorem dX7_delayOf_3 : decode cX7_delayOf 3 = .ok (.iconst 0, 1) := by decide +kernel
theorem dX7_delayOf_4 : decode cX7_delayOf 4 = .ok (.invokevirtual 33, 3) := by decide +kernel
theorem dX7_delayOf_7 : decode cX7_delayOf 7 = .ok (.iload_n 2, 1) := by decide +kernel
theorem dX7_delayOf_8 : decode cX7_delayOf 8 = .ok (.invokevirtual 57, 3) := by decide +kernel
theorem dX7_delayOf_11 : decode cX7_delayOf 11 = .ok (.ireturn, 1) := by decide +kernel
theorem dX7_echoIn_0 : decode cX7_echoIn 0 = .ok (.aload_n 0, 1) := by decide +kernel
theorem dX7_echoIn_1 : decode cX7_echoIn 1 = .ok (.iconst 0, 1) := by decide +kernel
theorem dX7_echoIn_2 : decode cX7_echoIn 2 = .ok (.putfield 25, 3) := by decide +kernel
theorem dX7_echoIn_5 : decode cX7_echoIn 5 = .ok (.iload_n 1, 1) := by decide +kernel
theorem dX7_echoIn_6 : decode cX7_echoIn 6 = .ok (.invokestatic 91, 3) := by decide +kernel
theorem dX7_echoIn_9 : decode cX7_echoIn 9 = .ok (.ifCond .ne 9, 3) := by decide +kernel
theorem dX7_echoIn_12 : decode cX7_echoIn 12 = .ok (.aload_n 0, 1) := by decide +kernel
theorem dX7_echoIn_13 : decode cX7_echoIn 13 = .ok (.iconst 1, 1) := by decide +kernel
theorem dX7_echoIn_14 : decode cX7_echoIn 14 = .ok (.invokevirtual 40, 3) := by decide +kernel
theorem dX7_echoIn_17 : decode cX7_echoIn 17 = .ok (.ireturn, 1) := by decide +kernel
theorem dX7_echoIn_18 : decode cX7_echoIn 18 = .ok (.iload_n 2, 1) := by decide +kernel
theorem dX7_echoIn_19 : decode cX7_echoIn 19 = .ok (.iconst 0, 1) := by decide +kernel
theorem dX7_echoIn_20 : decode cX7_echoIn 20 = .ok (.iconst 1, 1) := by decide +kernel
theorem dX7_echoIn_21 : decode cX7_echoIn 21 = .ok (.invokestatic 29, 3) := by decide +kernel
theorem dX7_echoIn_24 : decode cX7_echoIn 24 = .ok (.ifCond .eq 12, 3) := by decide +kernel
theorem dX7_echoIn_27 : decode cX7_echoIn 27 = .ok (.aload_n 0, 1) := by decide +kernel
theorem dX7_echoIn_28 : decode cX7_echoIn 28 = .ok (.iload_n 1, 1) := by decide +kernel
theorem dX7_echoIn_29 : decode cX7_echoIn 29 = .ok (.iload_n 2, 1) := by decide +kernel
theorem dX7_echoIn_30 : decode cX7_echoIn 30 = .ok (.invokevirtual 172, 3) := by decide +kernel
theorem dX7_echoIn_33 : decode cX7_echoIn 33 = .ok (.goto 8, 3) := by decide +kernel
theorem dX7_echoIn_36 : decode cX7_echoIn 36 = .ok (.aload_n 0, 1) := by decide +kernel
theorem dX7_echoIn_37 : decode cX7_echoIn 37 = .ok (.iconst 2, 1) := by decide +kernel
theorem dX7_echoIn_38 : decode cX7_echoIn 38 = .ok (.invokevirtual 40, 3) := by decide +kernel
theorem dX7_echoIn_41 : decode cX7_echoIn 41 = .ok (.ireturn, 1) := by decide +kernel
theorem dX7_isClash_0 : decode cX7_isClash 0 = .ok (.iload_n 3, 1) := by decide +kernel
theorem dX7_isClash_1 : decode cX7_isClash 1 = .ok (.aload_n 0, 1) := by decide +kernel
theorem dX7_isClash_2 : decode cX7_isClash 2 = .ok (.iload_n 1, 1) := by decide +kernel
theorem dX7_isClash_3 : decode cX7_isClash 3 = .ok (.iload_n 2, 1) := by decide +kernel
theorem dX7_isClash_4 : decode cX7_isClash 4 = .ok (.invokevirtual 172, 3) := by decide +kernel
theorem dX7_isClash_7 : decode cX7_isClash 7 = .ok (.iadd, 1) := by decide +kernel
theorem dX7_isClash_8 : decode cX7_isClash 8 = .ok (.istore 4, 2) := by decide +kernel
theorem dX7_isClash_10 : decode cX7_isClash 10 = .ok (.aload_n 0, 1) := by decide +kernel
theorem dX7_isClash_11 : decode cX7_isClash 11 = .ok (.iload_n 1, 1) := by decide +kernel
theorem dX7_isClash_12 : decode cX7_isClash 12 = .ok (.iconst 0, 1) := by decide +kernel
theorem dX7_isClash_13 : decode cX7_isClash 13 = .ok (.invokevirtual 172, 3) := by decide +kernel
theorem dX7_isClash_16 : decode cX7_isClash 16 = .ok (.aload_n 0, 1) := by decide +kernel
theorem dX7_isClash_17 : decode cX7_isClash 17 = .ok (.iload_n 1, 1) := by decide +kernel
theorem dX7_isClash_18 : decode cX7_isClash 18 = .ok (.iconst 1, 1) := by decide +kernel
theorem dX7_isClash_19 : decode cX7_isClash 19 = .ok (.invokevirtual 172, 3) := by decide +kernel
theorem dX7_isClash_22 : decode cX7_isClash 22 = .ok (.if_icmp .ne 7, 3) := by decide +kernel
theorem dX7_isClash_25 : decode cX7_isClash 25 = .ok (.iconst 1, 1) := by decide +kernel
theorem dX7_isClash_26 : decode cX7_isClash 26 = .ok (.goto 4, 3) := by decide +kernel
theorem dX7_isClash_29 : decode cX7_isClash 29 = .ok (.iconst 0, 1) := by decide +kernel
theorem dX7_isClash_30 : decode cX7_isClash 30 = .ok (.istore 5, 2) := by decide +kernel
theorem dX7_isClash_32 : decode cX7_isClash 32 = .ok (.iload 5, 2) := by decide +kernel
theorem dX7_isClash_34 : decode cX7_isClash 34 = .ok (.ifCond .ne 25, 3) := by decide +kernel
theorem dX7_isClash_37 : decode cX7_isClash 37 = .ok (.aload_n 0, 1) := by decide +kernel
theorem dX7_isClash_38 : decode cX7_isClash 38 = .ok (.aload_n 0, 1) := by decide +kernel
theorem dX7_isClash_39 : decode cX7_isClash 39 = .ok (.iload_n 1, 1) := by decide +kernel
theorem dX7_isClash_40 : decode cX7_isClash 40 = .ok (.iconst 0, 1) := by decide +kernel
theorem dX7_isClash_41 : decode cX7_isClash 41 = .ok (.invokevirtual 33, 3) := by decide +kernel
theorem dX7_isClash_44 : decode cX7_isClash 44 = .ok (.aload_n 0, 1) := by decide +kernel
theorem dX7_isClash_45 : decode cX7_isClash 45 = .ok (.getfield 7, 3) := by decide +kernel
theorem dX7_isClash_48 : decode cX7_isClash 48 = .ok (.iconst 3, 1) := by decide +kernel
theorem dX7_isClash_49 : decode cX7_isClash 49 = .ok (.iaload, 1) := by decide +kernel
theorem dX7_isClash_50 : decode cX7_isClash 50 = .ok (.iload 4, 2) := by decide +kernel
theorem dX7_isClash_52 : decode cX7_isClash 52 = .ok (.iadd, 1) := by decide +kernel
theorem dX7_isClash_53 : decode cX7_isClash 53 = .ok (.invokevirtual 77, 3) := by decide +kernel
theorem dX7_isClash_56 : decode cX7_isClash 56 = .ok (.ifCond .le 7, 3) := by decide +kernel
theorem dX7_isClash_59 : decode cX7_isClash 59 = .ok (.iconst 1, 1) := by decide +kernel
theorem dX7_isClash_60 : decode cX7_isClash 60 = .ok (.goto 4, 3) := by decide +kernel
theorem dX7_isClash_63 : decode cX7_isClash 63 = .ok (.iconst 0, 1) := by decide +kernel
theorem dX7_isClash_64 : decode cX7_isClash 64 = .ok (.ireturn, 1) := by decide +kernel
theorem dX7_wouldClash_0 : decode cX7_wouldClash 0 = .ok (.aload_n 0, 1) := by decide +kernel
theorem dX7_wouldClash_1 : decode cX7_wouldClash 1 = .ok (.iconst 0, 1) := by decide +kernel
theorem dX7_wouldClash_2 : decode cX7_wouldClash 2 = .ok (.putfield 25, 3) := by decide +kernel
theorem dX7_wouldClash_5 : decode cX7_wouldClash 5 = .ok (.iload_n 1, 1) := by decide +kernel
theorem dX7_wouldClash_6 : decode cX7_wouldClash 6 = .ok (.invokestatic 91, 3) := by decide +kernel
theorem dX7_wouldClash_9 : decode cX7_wouldClash 9 = .ok (.ifCond .ne 9, 3) := by decide +kernel
theorem dX7_wouldClash_12 : decode cX7_wouldClash 12 = .ok (.aload_n 0, 1) := by decide +kernel
theorem dX7_wouldClash_13 : decode cX7_wouldClash 13 = .ok (.iconst 1, 1) := by decide +kernel
theorem dX7_wouldClash_14 : decode cX7_wouldClash 14 = .ok (.invokevirtual 40, 3) := by decide +kernel
theorem dX7_wouldClash_17 : decode cX7_wouldClash 17 = .ok (.ireturn, 1) := by decide +kernel
theorem dX7_wouldClash_18 : decode cX7_wouldClash 18 = .ok (.iload_n 2, 1) := by decide +kernel
theorem dX7_wouldClash_19 : decode cX7_wouldClash 19 = .ok (.iconst 0, 1) := by decide +kernel
theorem dX7_wouldClash_20 : decode cX7_wouldClash 20 = .ok (.iconst 1, 1) := by decide +kernel
theorem dX7_wouldClash_21 : decode cX7_wouldClash 21 = .ok (.invokestatic 29, 3) := by decide +kernel
theorem dX7_wouldClash_24 : decode cX7_wouldClash 24 = .ok (.ifCond .ne 9, 3) := by decide +kernel
theorem dX7_wouldClash_27 : decode cX7_wouldClash 27 = .ok (.aload_n 0, 1) := by decide +kernel
theorem dX7_wouldClash_28 : decode cX7_wouldClash 28 = .ok (.iconst 2, 1) := by decide +kernel
theorem dX7_wouldClash_29 : decode cX7_wouldClash 29 = .ok (.invokevirtual 40, 3) := by decide +kernel
theorem dX7_wouldClash_32 : decode cX7_wouldClash 32 = .ok (.ireturn, 1) := by decide +kernel
theorem dX7_wouldClash_33 : decode cX7_wouldClash 33 = .ok (.aload_n 0, 1) := by decide +kernel
theorem dX7_wouldClash_34 : decode cX7_wouldClash 34 = .ok (.iload_n 1, 1) := by decide +kernel
theorem dX7_wouldClash_35 : decode cX7_wouldClash 35 = .ok (.iload_n 2, 1) := by decide +kernel
theorem dX7_wouldClash_36 : decode cX7_wouldClash 36 = .ok (.iconst 0, 1) := by decide +kernel
theorem dX7_wouldClash_37 : decode cX7_wouldClash 37 = .ok (.invokevirtual 175, 3) := by decide +kernel
theorem dX7_wouldClash_40 : decode cX7_wouldClash 40 = .ok (.ifCond .eq 7, 3) := by decide +kernel
theorem dX7_wouldClash_43 : decode cX7_wouldClash 43 = .ok (.iconst 1, 1) := by decide +kernel
theorem dX7_wouldClash_44 : decode cX7_wouldClash 44 = .ok (.goto 4, 3) := by decide +kernel
theorem dX7_wouldClash_47 : decode cX7_wouldClash 47 = .ok (.iconst 0, 1) := by decide +kernel
theorem dX7_wouldClash_48 : decode cX7_wouldClash 48 = .ok (.ireturn, 1) := by decide +kernel
theorem dX7_meetsBall_0 : decode cX7_meetsBall 0 = .ok (.iload_n 3, 1) := by decide +kernel
theorem dX7_meetsBall_1 : decode cX7_meetsBall 1 = .ok (.aload_n 0, 1) := by decide +kernel
theorem dX7_meetsBall_2 : decode cX7_meetsBall 2 = .ok (.iload_n 1, 1) := by decide +kernel
theorem dX7_meetsBall_3 : decode cX7_meetsBall 3 = .ok (.iload_n 2, 1) := by decide +kernel
theorem dX7_meetsBall_4 : decode cX7_meetsBall 4 = .ok (.invokevirtual 172, 3) := by decide +kernel
theorem dX7_meetsBall_7 : decode cX7_meetsBall 7 = .ok (.iadd, 1) := by decide +kernel
theorem dX7_meetsBall_8 : decode cX7_meetsBall 8 = .ok (.istore 4, 2) := by decide +kernel
theorem dX7_meetsBall_10 : decode cX7_meetsBall 10 = .ok (.aload_n 0, 1) := by decide +kernel
theorem dX7_meetsBall_11 : decode cX7_meetsBall 11 = .ok (.iload_n 1, 1) := by decide +kernel
theorem dX7_meetsBall_12 : decode cX7_meetsBall 12 = .ok (.iload_n 2, 1) := by decide +kernel
theorem dX7_meetsBall_13 : decode cX7_meetsBall 13 = .ok (.iload_n 3, 1) := by decide +kernel
theorem dX7_meetsBall_14 : decode cX7_meetsBall 14 = .ok (.invokevirtual 175, 3) := by decide +kernel
theorem dX7_meetsBall_17 : decode cX7_meetsBall 17 = .ok (.ifCond .ne 29, 3) := by decide +kernel
theorem dX7_meetsBall_20 : decode cX7_meetsBall 20 = .ok (.aload_n 0, 1) := by decide +kernel
theorem dX7_meetsBall_21 : decode cX7_meetsBall 21 = .ok (.iload 4, 2) := by decide +kernel
theorem dX7_meetsBall_23 : decode cX7_meetsBall 23 = .ok (.aload_n 0, 1) := by decide +kernel
theorem dX7_meetsBall_24 : decode cX7_meetsBall 24 = .ok (.getfield 7, 3) := by decide +kernel
theorem dX7_meetsBall_27 : decode cX7_meetsBall 27 = .ok (.iconst 5, 1) := by decide +kernel
theorem dX7_meetsBall_28 : decode cX7_meetsBall 28 = .ok (.iaload, 1) := by decide +kernel
theorem dX7_meetsBall_29 : decode cX7_meetsBall 29 = .ok (.imul, 1) := by decide +kernel
theorem dX7_meetsBall_30 : decode cX7_meetsBall 30 = .ok (.invokevirtual 166, 3) := by decide +kernel
theorem dX7_meetsBall_33 : decode cX7_meetsBall 33 = .ok (.aload_n 0, 1) := by decide +kernel
theorem dX7_meetsBall_34 : decode cX7_meetsBall 34 = .ok (.iload_n 1, 1) := by decide +kernel
theorem dX7_meetsBall_35 : decode cX7_meetsBall 35 = .ok (.iconst 0, 1) := by decide +kernel
theorem dX7_meetsBall_36 : decode cX7_meetsBall 36 = .ok (.invokevirtual 33, 3) := by decide +kernel
theorem dX7_meetsBall_39 : decode cX7_meetsBall 39 = .ok (.if_icmp .ne 7, 3) := by decide +kernel
theorem dX7_meetsBall_42 : decode cX7_meetsBall 42 = .ok (.iconst 1, 1) := by decide +kernel
theorem dX7_meetsBall_43 : decode cX7_meetsBall 43 = .ok (.goto 4, 3) := by decide +kernel
theorem dX7_meetsBall_46 : decode cX7_meetsBall 46 = .ok (.iconst 0, 1) := by decide +kernel
theorem dX7_meetsBall_47 : decode cX7_meetsBall 47 = .ok (.ireturn, 1) := by decide +kernel
theorem dX7_bestWait_0 : decode cX7_bestWait 0 = .ok (.iconst 0, 1) := by decide +kernel
theorem dX7_bestWait_1 : decode cX7_bestWait 1 = .ok (.istore_n 2, 1) := by decide +kernel
theorem dX7_bestWait_2 : decode cX7_bestWait 2 = .ok (.iload_n 2, 1) := by decide +kernel
theorem dX7_bestWait_3 : decode cX7_bestWait 3 = .ok (.bipush 60, 2) := by decide +kernel
theorem dX7_bestWait_5 : decode cX7_bestWait 5 = .ok (.if_icmp .gt 31, 3) := by decide +kernel
theorem dX7_bestWait_8 : decode cX7_bestWait 8 = .ok (.aload_n 0, 1) := by decide +kernel
theorem dX7_bestWait_9 : decode cX7_bestWait 9 = .ok (.iload_n 1, 1) := by decide +kernel
theorem dX7_bestWait_10 : decode cX7_bestWait 10 = .ok (.iconst 0, 1) := by decide +kernel
theorem dX7_bestWait_11 : decode cX7_bestWait 11 = .ok (.iload_n 2, 1) := by decide +kernel
theorem dX7_bestWait_12 : decode cX7_bestWait 12 = .ok (.invokevirtual 178, 3) := by decide +kernel
theorem dX7_bestWait_15 : decode cX7_bestWait 15 = .ok (.ifCond .ne 13, 3) := by decide +kernel
theorem dX7_bestWait_18 : decode cX7_bestWait 18 = .ok (.aload_n 0, 1) := by decide +kernel
theorem dX7_bestWait_19 : decode cX7_bestWait 19 = .ok (.iload_n 1, 1) := by decide +kernel
theorem dX7_bestWait_20 : decode cX7_bestWait 20 = .ok (.iconst 1, 1) := by decide +kernel
theorem dX7_bestWait_21 : decode cX7_bestWait 21 = .ok (.iload_n 2, 1) := by decide +kernel
theorem dX7_bestWait_22 : decode cX7_bestWait 22 = .ok (.invokevirtual 178, 3) := by decide +kernel
theorem dX7_bestWait_25 : decode cX7_bestWait 25 = .ok (.ifCond .eq 5, 3) := by decide +kernel
theorem dX7_bestWait_28 : decode cX7_bestWait 28 = .ok (.iload_n 2, 1) := by decide +kernel
theorem dX7_bestWait_29 : decode cX7_bestWait 29 = .ok (.ireturn, 1) := by decide +kernel
theorem dX7_bestWait_30 : decode cX7_bestWait 30 = .ok (.iinc 2 1, 3) := by decide +kernel
theorem dX7_bestWait_33 : decode cX7_bestWait 33 = .ok (.goto (-31), 3) := by decide +kernel
theorem dX7_bestWait_36 : decode cX7_bestWait 36 = .ok (.iconst (-1), 1) := by decide +kernel
theorem dX7_bestWait_37 : decode cX7_bestWait 37 = .ok (.ireturn, 1) := by decide +kernel
theorem dX7_callIn_0 : decode cX7_callIn 0 = .ok (.aload_n 0, 1) := by decide +kernel
theorem dX7_callIn_1 : decode cX7_callIn 1 = .ok (.iconst 0, 1) := by decide +kernel
theorem dX7_callIn_2 : decode cX7_callIn 2 = .ok (.putfield 25, 3) := by decide +kernel
theorem dX7_callIn_5 : decode cX7_callIn 5 = .ok (.iload_n 1, 1) := by decide +kernel
theorem dX7_callIn_6 : decode cX7_callIn 6 = .ok (.invokestatic 91, 3) := by decide +kernel
theorem dX7_callIn_9 : decode cX7_callIn 9 = .ok (.ifCond .eq 11, 3) := by decide +kernel
theorem dX7_callIn_12 : decode cX7_callIn 12 = .ok (.aload_n 0, 1) := by decide +kernel
theorem dX7_callIn_13 : decode cX7_callIn 13 = .ok (.iload_n 1, 1) := by decide +kernel
theorem dX7_callIn_14 : decode cX7_callIn 14 = .ok (.invokevirtual 181, 3) := by decide +kernel
theorem dX7_callIn_17 : decode cX7_callIn 17 = .ok (.goto 8, 3) := by decide +kernel
theorem dX7_callIn_20 : decode cX7_callIn 20 = .ok (.aload_n 0, 1) := by decide +kernel
theorem dX7_callIn_21 : decode cX7_callIn 21 = .ok (.iconst 1, 1) := by decide +kernel
theorem dX7_callIn_22 : decode cX7_callIn 22 = .ok (.invokevirtual 40, 3) := by decide +kernel
theorem dX7_callIn_25 : decode cX7_callIn 25 = .ok (.ireturn, 1) := by decide +kernel
theorem dX7_tellsQuiet_0 : decode cX7_tellsQuiet 0 = .ok (.aload_n 0, 1) := by decide +kernel
theorem dX7_tellsQuiet_1 : decode cX7_tellsQuiet 1 = .ok (.getfield 7, 3) := by decide +kernel
theorem dX7_tellsQuiet_4 : decode cX7_tellsQuiet 4 = .ok (.iconst 3, 1) := by decide +kernel
theorem dX7_tellsQuiet_5 : decode cX7_tellsQuiet 5 = .ok (.iaload, 1) := by decide +kernel
theorem dX7_tellsQuiet_6 : decode cX7_tellsQuiet 6 = .ok (.istore_n 1, 1) := by decide +kernel
theorem dX7_tellsQuiet_7 : decode cX7_tellsQuiet 7 = .ok (.iconst 0, 1) := by decide +kernel
theorem dX7_tellsQuiet_8 : decode cX7_tellsQuiet 8 = .ok (.istore_n 2, 1) := by decide +kernel
theorem dX7_tellsQuiet_9 : decode cX7_tellsQuiet 9 = .ok (.iload_n 2, 1) := by decide +kernel
theorem dX7_tellsQuiet_10 : decode cX7_tellsQuiet 10 = .ok (.aload_n 0, 1) := by decide +kernel
theorem dX7_tellsQuiet_11 : decode cX7_tellsQuiet 11 = .ok (.getfield 7, 3) := by decide +kernel
theorem dX7_tellsQuiet_14 : decode cX7_tellsQuiet 14 = .ok (.bipush 9, 2) := by decide +kernel
theorem dX7_tellsQuiet_16 : decode cX7_tellsQuiet 16 = .ok (.iaload, 1) := by decide +kernel
theorem dX7_tellsQuiet_17 : decode cX7_tellsQuiet 17 = .ok (.if_icmp .ge 30, 3) := by decide +kernel
theorem dX7_tellsQuiet_20 : decode cX7_tellsQuiet 20 = .ok (.aload_n 0, 1) := by decide +kernel
theorem dX7_tellsQuiet_21 : decode cX7_tellsQuiet 21 = .ok (.iload_n 2, 1) := by decide +kernel
theorem dX7_tellsQuiet_22 : decode cX7_tellsQuiet 22 = .ok (.iconst 3, 1) := by decide +kernel
theorem dX7_tellsQuiet_23 : decode cX7_tellsQuiet 23 = .ok (.invokevirtual 54, 3) := by decide +kernel
theorem dX7_tellsQuiet_26 : decode cX7_tellsQuiet 26 = .ok (.iload_n 1, 1) := by decide +kernel
theorem dX7_tellsQuiet_27 : decode cX7_tellsQuiet 27 = .ok (.if_icmp .le 12, 3) := by decide +kernel
theorem dX7_tellsQuiet_30 : decode cX7_tellsQuiet 30 = .ok (.aload_n 0, 1) := by decide +kernel
theorem dX7_tellsQuiet_31 : decode cX7_tellsQuiet 31 = .ok (.iload_n 2, 1) := by decide +kernel
theorem dX7_tellsQuiet_32 : decode cX7_tellsQuiet 32 = .ok (.iconst 3, 1) := by decide +kernel
theorem dX7_tellsQuiet_33 : decode cX7_tellsQuiet 33 = .ok (.invokevirtual 54, 3) := by decide +kernel
theorem dX7_tellsQuiet_36 : decode cX7_tellsQuiet 36 = .ok (.goto 4, 3) := by decide +kernel
theorem dX7_tellsQuiet_39 : decode cX7_tellsQuiet 39 = .ok (.iload_n 1, 1) := by decide +kernel
theorem dX7_tellsQuiet_40 : decode cX7_tellsQuiet 40 = .ok (.istore_n 1, 1) := by decide +kernel
theorem dX7_tellsQuiet_41 : decode cX7_tellsQuiet 41 = .ok (.iinc 2 1, 3) := by decide +kernel
theorem dX7_tellsQuiet_44 : decode cX7_tellsQuiet 44 = .ok (.goto (-35), 3) := by decide +kernel
theorem dX7_tellsQuiet_47 : decode cX7_tellsQuiet 47 = .ok (.iload_n 1, 1) := by decide +kernel
theorem dX7_tellsQuiet_48 : decode cX7_tellsQuiet 48 = .ok (.aload_n 0, 1) := by decide +kernel
theorem dX7_tellsQuiet_49 : decode cX7_tellsQuiet 49 = .ok (.getfield 7, 3) := by decide +kernel
theorem dX7_tellsQuiet_52 : decode cX7_tellsQuiet 52 = .ok (.iconst 3, 1) := by decide +kernel
theorem dX7_tellsQuiet_53 : decode cX7_tellsQuiet 53 = .ok (.iaload, 1) := by decide +kernel
theorem dX7_tellsQuiet_54 : decode cX7_tellsQuiet 54 = .ok (.isub, 1) := by decide +kernel
theorem dX7_tellsQuiet_55 : decode cX7_tellsQuiet 55 = .ok (.ireturn, 1) := by decide +kernel
theorem dX7_quietIn_0 : decode cX7_quietIn 0 = .ok (.aload_n 0, 1) := by decide +kernel
theorem dX7_quietIn_1 : decode cX7_quietIn 1 = .ok (.iconst 0, 1) := by decide +kernel
theorem dX7_quietIn_2 : decode cX7_quietIn 2 = .ok (.putfield 25, 3) := by decide +kernel
theorem dX7_quietIn_5 : decode cX7_quietIn 5 = .ok (.aload_n 0, 1) := by decide +kernel
theorem dX7_quietIn_6 : decode cX7_quietIn 6 = .ok (.invokevirtual 184, 3) := by decide +kernel
theorem dX7_quietIn_9 : decode cX7_quietIn 9 = .ok (.ireturn, 1) := by decide +kernel
theorem dX7_tellsBest_0 : decode cX7_tellsBest 0 = .ok (.iconst 0, 1) := by decide +kernel
theorem dX7_tellsBest_1 : decode cX7_tellsBest 1 = .ok (.istore_n 1, 1) := by decide +kernel
theorem dX7_tellsBest_2 : decode cX7_tellsBest 2 = .ok (.iconst 1, 1) := by decide +kernel
theorem dX7_tellsBest_3 : decode cX7_tellsBest 3 = .ok (.istore_n 2, 1) := by decide +kernel
theorem dX7_tellsBest_4 : decode cX7_tellsBest 4 = .ok (.iload_n 2, 1) := by decide +kernel
theorem dX7_tellsBest_5 : decode cX7_tellsBest 5 = .ok (.iconst 4, 1) := by decide +kernel
theorem dX7_tellsBest_6 : decode cX7_tellsBest 6 = .ok (.if_icmp .ge 64, 3) := by decide +kernel
theorem dX7_tellsBest_9 : decode cX7_tellsBest 9 = .ok (.aload_n 0, 1) := by decide +kernel
theorem dX7_tellsBest_10 : decode cX7_tellsBest 10 = .ok (.iload_n 2, 1) := by decide +kernel
theorem dX7_tellsBest_11 : decode cX7_tellsBest 11 = .ok (.iconst 1, 1) := by decide +kernel
theorem dX7_tellsBest_12 : decode cX7_tellsBest 12 = .ok (.invokevirtual 33, 3) := by decide +kernel
theorem dX7_tellsBest_15 : decode cX7_tellsBest 15 = .ok (.aload_n 0, 1) := by decide +kernel
theorem dX7_tellsBest_16 : decode cX7_tellsBest 16 = .ok (.iload_n 1, 1) := by decide +kernel
theorem dX7_tellsBest_17 : decode cX7_tellsBest 17 = .ok (.iconst 1, 1) := by decide +kernel
theorem dX7_tellsBest_18 : decode cX7_tellsBest 18 = .ok (.invokevirtual 33, 3) := by decide +kernel
theorem dX7_tellsBest_21 : decode cX7_tellsBest 21 = .ok (.isub, 1) := by decide +kernel
theorem dX7_tellsBest_22 : decode cX7_tellsBest 22 = .ok (.istore_n 3, 1) := by decide +kernel
theorem dX7_tellsBest_23 : decode cX7_tellsBest 23 = .ok (.iload_n 3, 1) := by decide +kernel
theorem dX7_tellsBest_24 : decode cX7_tellsBest 24 = .ok (.ifCond .gt 22, 3) := by decide +kernel
theorem dX7_tellsBest_27 : decode cX7_tellsBest 27 = .ok (.iload_n 3, 1) := by decide +kernel
theorem dX7_tellsBest_28 : decode cX7_tellsBest 28 = .ok (.ifCond .ne 22, 3) := by decide +kernel
theorem dX7_tellsBest_31 : decode cX7_tellsBest 31 = .ok (.aload_n 0, 1) := by decide +kernel
theorem dX7_tellsBest_32 : decode cX7_tellsBest 32 = .ok (.iload_n 2, 1) := by decide +kernel
theorem dX7_tellsBest_33 : decode cX7_tellsBest 33 = .ok (.iconst 3, 1) := by decide +kernel
theorem dX7_tellsBest_34 : decode cX7_tellsBest 34 = .ok (.invokevirtual 33, 3) := by decide +kernel
theorem dX7_tellsBest_37 : decode cX7_tellsBest 37 = .ok (.aload_n 0, 1) := by decide +kernel
theorem dX7_tellsBest_38 : decode cX7_tellsBest 38 = .ok (.iload_n 1, 1) := by decide +kernel
theorem dX7_tellsBest_39 : decode cX7_tellsBest 39 = .ok (.iconst 3, 1) := by decide +kernel
theorem dX7_tellsBest_40 : decode cX7_tellsBest 40 = .ok (.invokevirtual 33, 3) := by decide +kernel
theorem dX7_tellsBest_43 : decode cX7_tellsBest 43 = .ok (.if_icmp .le 7, 3) := by decide +kernel
theorem dX7_tellsBest_46 : decode cX7_tellsBest 46 = .ok (.iconst 1, 1) := by decide +kernel
theorem dX7_tellsBest_47 : decode cX7_tellsBest 47 = .ok (.goto 4, 3) := by decide +kernel
theorem dX7_tellsBest_50 : decode cX7_tellsBest 50 = .ok (.iconst 0, 1) := by decide +kernel
theorem dX7_tellsBest_51 : decode cX7_tellsBest 51 = .ok (.istore 4, 2) := by decide +kernel
theorem dX7_tellsBest_53 : decode cX7_tellsBest 53 = .ok (.iload 4, 2) := by decide +kernel
theorem dX7_tellsBest_55 : decode cX7_tellsBest 55 = .ok (.ifCond .eq 7, 3) := by decide +kernel
theorem dX7_tellsBest_58 : decode cX7_tellsBest 58 = .ok (.iload_n 2, 1) := by decide +kernel
theorem dX7_tellsBest_59 : decode cX7_tellsBest 59 = .ok (.goto 4, 3) := by decide +kernel
theorem dX7_tellsBest_62 : decode cX7_tellsBest 62 = .ok (.iload_n 1, 1) := by decide +kernel
theorem dX7_tellsBest_63 : decode cX7_tellsBest 63 = .ok (.istore_n 1, 1) := by decide +kernel
theorem dX7_tellsBest_64 : decode cX7_tellsBest 64 = .ok (.iinc 2 1, 3) := by decide +kernel
theorem dX7_tellsBest_67 : decode cX7_tellsBest 67 = .ok (.goto (-63), 3) := by decide +kernel
theorem dX7_tellsBest_70 : decode cX7_tellsBest 70 = .ok (.iload_n 1, 1) := by decide +kernel
theorem dX7_tellsBest_71 : decode cX7_tellsBest 71 = .ok (.ireturn, 1) := by decide +kernel
theorem dX7_best_0 : decode cX7_best 0 = .ok (.aload_n 0, 1) := by decide +kernel
theorem dX7_best_1 : decode cX7_best 1 = .ok (.iconst 0, 1) := by decide +kernel
theorem dX7_best_2 : decode cX7_best 2 = .ok (.putfield 25, 3) := by decide +kernel
theorem dX7_best_5 : decode cX7_best 5 = .ok (.aload_n 0, 1) := by decide +kernel
theorem dX7_best_6 : decode cX7_best 6 = .ok (.invokevirtual 187, 3) := by decide +kernel
theorem dX7_best_9 : decode cX7_best 9 = .ok (.ireturn, 1) := by decide +kernel
theorem dX7_share_0 : decode cX7_share 0 = .ok (.aload_n 0, 1) := by decide +kernel
theorem dX7_share_1 : decode cX7_share 1 = .ok (.iconst 3, 1) := by decide +kernel
theorem dX7_share_2 : decode cX7_share 2 = .ok (.invokevirtual 160, 3) := by decide +kernel
theorem dX7_share_5 : decode cX7_share 5 = .ok (.aload_n 0, 1) := by decide +kernel
theorem dX7_share_6 : decode cX7_share 6 = .ok (.iconst 4, 1) := by decide +kernel
theorem dX7_share_7 : decode cX7_share 7 = .ok (.invokevirtual 160, 3) := by decide +kernel
theorem dX7_share_10 : decode cX7_share 10 = .ok (.iadd, 1) := by decide +kernel
theorem dX7_share_11 : decode cX7_share 11 = .ok (.aload_n 0, 1) := by decide +kernel
theorem dX7_share_12 : decode cX7_share 12 = .ok (.iconst 5, 1) := by decide +kernel
theorem dX7_share_13 : decode cX7_share 13 = .ok (.invokevirtual 160, 3) := by decide +kernel
theorem dX7_share_16 : decode cX7_share 16 = .ok (.iadd, 1) := by decide +kernel
theorem dX7_share_17 : decode cX7_share 17 = .ok (.istore_n 1, 1) := by decide +kernel
theorem dX7_share_18 : decode cX7_share 18 = .ok (.iload_n 1, 1) := by decide +kernel
theorem dX7_share_19 : decode cX7_share 19 = .ok (.ifCond .ne 7, 3) := by decide +kernel
theorem dX7_share_22 : decode cX7_share 22 = .ok (.dconst 1, 1) := by decide +kernel
theorem dX7_share_23 : decode cX7_share 23 = .ok (.goto 12, 3) := by decide +kernel
theorem dX7_share_26 : decode cX7_share 26 = .ok (.aload_n 0, 1) := by decide +kernel
theorem dX7_share_27 : decode cX7_share 27 = .ok (.iconst 3, 1) := by decide +kernel
theorem dX7_share_28 : decode cX7_share 28 = .ok (.invokevirtual 160, 3) := by decide +kernel
theorem dX7_share_31 : decode cX7_share 31 = .ok (.i2d, 1) := by decide +kernel
theorem dX7_share_32 : decode cX7_share 32 = .ok (.iload_n 1, 1) := by decide +kernel
theorem dX7_share_33 : decode cX7_share 33 = .ok (.i2d, 1) := by decide +kernel
theorem dX7_share_34 : decode cX7_share 34 = .ok (.ddiv, 1) := by decide +kernel
theorem dX7_share_35 : decode cX7_share 35 = .ok (.dreturn, 1) := by decide +kernel
theorem dX7_answeredShare_0 : decode cX7_answeredShare 0 = .ok (.aload_n 0, 1) := by decide +kernel
theorem dX7_answeredShare_1 : decode cX7_answeredShare 1 = .ok (.iconst 0, 1) := by decide +kernel
theorem dX7_answeredShare_2 : decode cX7_answeredShare 2 = .ok (.putfield 25, 3) := by decide +kernel
theorem dX7_answeredShare_5 : decode cX7_answeredShare 5 = .ok (.aload_n 0, 1) := by decide +kernel
theorem dX7_answeredShare_6 : decode cX7_answeredShare 6 = .ok (.invokevirtual 190, 3) := by decide +kernel
theorem dX7_answeredShare_9 : decode cX7_answeredShare 9 = .ok (.dreturn, 1) := by decide +kernel
theorem dX7_mix_0 : decode cX7_mix 0 = .ok (.aload_n 0, 1) := by decide +kernel
theorem dX7_mix_1 : decode cX7_mix 1 = .ok (.ldc2_w 194, 3) := by decide +kernel
theorem dX7_mix_4 : decode cX7_mix 4 = .ok (.aload_n 0, 1) := by decide +kernel
theorem dX7_mix_5 : decode cX7_mix 5 = .ok (.getfield 196, 3) := by decide +kernel
theorem dX7_mix_8 : decode cX7_mix 8 = .ok (.lmul, 1) := by decide +kernel
theorem dX7_mix_9 : decode cX7_mix 9 = .ok (.lload_n 1, 1) := by decide +kernel
theorem dX7_mix_10 : decode cX7_mix 10 = .ok (.ladd, 1) := by decide +kernel
theorem dX7_mix_11 : decode cX7_mix 11 = .ok (.putfield 196, 3) := by decide +kernel
theorem dX7_mix_14 : decode cX7_mix 14 = .ok (.return_, 1) := by decide +kernel
theorem dX7_mixPlayer_0 : decode cX7_mixPlayer 0 = .ok (.iconst 0, 1) := by decide +kernel
theorem dX7_mixPlayer_1 : decode cX7_mixPlayer 1 = .ok (.istore_n 2, 1) := by decide +kernel
theorem dX7_mixPlayer_2 : decode cX7_mixPlayer 2 = .ok (.iload_n 2, 1) := by decide +kernel
theorem dX7_mixPlayer_3 : decode cX7_mixPlayer 3 = .ok (.bipush 7, 2) := by decide +kernel
theorem dX7_mixPlayer_5 : decode cX7_mixPlayer 5 = .ok (.if_icmp .ge 20, 3) := by decide +kernel
theorem dX7_mixPlayer_8 : decode cX7_mixPlayer 8 = .ok (.aload_n 0, 1) := by decide +kernel
theorem dX7_mixPlayer_9 : decode cX7_mixPlayer 9 = .ok (.aload_n 0, 1) := by decide +kernel
theorem dX7_mixPlayer_10 : decode cX7_mixPlayer 10 = .ok (.iload_n 1, 1) := by decide +kernel
theorem dX7_mixPlayer_11 : decode cX7_mixPlayer 11 = .ok (.iload_n 2, 1) := by decide +kernel
theorem dX7_mixPlayer_12 : decode cX7_mixPlayer 12 = .ok (.invokevirtual 151, 3) := by decide +kernel
theorem dX7_mixPlayer_15 : decode cX7_mixPlayer 15 = .ok (.i2l, 1) := by decide +kernel
theorem dX7_mixPlayer_16 : decode cX7_mixPlayer 16 = .ok (.invokevirtual 200, 3) := by decide +kernel
theorem dX7_mixPlayer_19 : decode cX7_mixPlayer 19 = .ok (.iinc 2 1, 3) := by decide +kernel
theorem dX7_mixPlayer_22 : decode cX7_mixPlayer 22 = .ok (.goto (-20), 3) := by decide +kernel
theorem dX7_mixPlayer_25 : decode cX7_mixPlayer 25 = .ok (.iconst 0, 1) := by decide +kernel
theorem dX7_mixPlayer_26 : decode cX7_mixPlayer 26 = .ok (.istore_n 2, 1) := by decide +kernel
theorem dX7_mixPlayer_27 : decode cX7_mixPlayer 27 = .ok (.iload_n 2, 1) := by decide +kernel
theorem dX7_mixPlayer_28 : decode cX7_mixPlayer 28 = .ok (.iconst 2, 1) := by decide +kernel
theorem dX7_mixPlayer_29 : decode cX7_mixPlayer 29 = .ok (.if_icmp .ge 39, 3) := by decide +kernel
theorem dX7_mixPlayer_32 : decode cX7_mixPlayer 32 = .ok (.aload_n 0, 1) := by decide +kernel
theorem dX7_mixPlayer_33 : decode cX7_mixPlayer 33 = .ok (.aload_n 0, 1) := by decide +kernel
theorem dX7_mixPlayer_34 : decode cX7_mixPlayer 34 = .ok (.iload_n 1, 1) := by decide +kernel
theorem dX7_mixPlayer_35 : decode cX7_mixPlayer 35 = .ok (.iload_n 2, 1) := by decide +kernel
theorem dX7_mixPlayer_36 : decode cX7_mixPlayer 36 = .ok (.invokevirtual 172, 3) := by decide +kernel
theorem dX7_mixPlayer_39 : decode cX7_mixPlayer 39 = .ok (.i2l, 1) := by decide +kernel
theorem dX7_mixPlayer_40 : decode cX7_mixPlayer 40 = .ok (.invokevirtual 200, 3) := by decide +kernel
theorem dX7_mixPlayer_43 : decode cX7_mixPlayer 43 = .ok (.aload_n 0, 1) := by decide +kernel
theorem dX7_mixPlayer_44 : decode cX7_mixPlayer 44 = .ok (.aload_n 0, 1) := by decide +kernel
theorem dX7_mixPlayer_45 : decode cX7_mixPlayer 45 = .ok (.iload_n 1, 1) := by decide +kernel
theorem dX7_mixPlayer_46 : decode cX7_mixPlayer 46 = .ok (.iload_n 2, 1) := by decide +kernel
theorem dX7_mixPlayer_47 : decode cX7_mixPlayer 47 = .ok (.iconst 0, 1) := by decide +kernel
theorem dX7_mixPlayer_48 : decode cX7_mixPlayer 48 = .ok (.invokevirtual 175, 3) := by decide +kernel
theorem dX7_mixPlayer_51 : decode cX7_mixPlayer 51 = .ok (.ifCond .eq 7, 3) := by decide +kernel
theorem dX7_mixPlayer_54 : decode cX7_mixPlayer 54 = .ok (.lconst 1, 1) := by decide +kernel
theorem dX7_mixPlayer_55 : decode cX7_mixPlayer 55 = .ok (.goto 4, 3) := by decide +kernel
theorem dX7_mixPlayer_58 : decode cX7_mixPlayer 58 = .ok (.lconst 0, 1) := by decide +kernel
theorem dX7_mixPlayer_59 : decode cX7_mixPlayer 59 = .ok (.invokevirtual 200, 3) := by decide +kernel
theorem dX7_mixPlayer_62 : decode cX7_mixPlayer 62 = .ok (.iinc 2 1, 3) := by decide +kernel
theorem dX7_mixPlayer_65 : decode cX7_mixPlayer 65 = .ok (.goto (-38), 3) := by decide +kernel
theorem dX7_mixPlayer_68 : decode cX7_mixPlayer 68 = .ok (.aload_n 0, 1) := by decide +kernel
theorem dX7_mixPlayer_69 : decode cX7_mixPlayer 69 = .ok (.aload_n 0, 1) := by decide +kernel
theorem dX7_mixPlayer_70 : decode cX7_mixPlayer 70 = .ok (.iload_n 1, 1) := by decide +kernel
theorem dX7_mixPlayer_71 : decode cX7_mixPlayer 71 = .ok (.invokevirtual 181, 3) := by decide +kernel
theorem dX7_mixPlayer_74 : decode cX7_mixPlayer 74 = .ok (.i2l, 1) := by decide +kernel
theorem dX7_mixPlayer_75 : decode cX7_mixPlayer 75 = .ok (.invokevirtual 200, 3) := by decide +kernel
theorem dX7_mixPlayer_78 : decode cX7_mixPlayer 78 = .ok (.return_, 1) := by decide +kernel
theorem dX7_digest_0 : decode cX7_digest 0 = .ok (.aload_n 0, 1) := by decide +kernel
theorem dX7_digest_1 : decode cX7_digest 1 = .ok (.iconst 0, 1) := by decide +kernel
theorem dX7_digest_2 : decode cX7_digest 2 = .ok (.putfield 25, 3) := by decide +kernel
theorem dX7_digest_5 : decode cX7_digest 5 = .ok (.aload_n 0, 1) := by decide +kernel
theorem dX7_digest_6 : decode cX7_digest 6 = .ok (.ldc2_w 204, 3) := by decide +kernel
theorem dX7_digest_9 : decode cX7_digest 9 = .ok (.putfield 196, 3) := by decide +kernel
theorem dX7_digest_12 : decode cX7_digest 12 = .ok (.iconst 0, 1) := by decide +kernel
theorem dX7_digest_13 : decode cX7_digest 13 = .ok (.istore_n 1, 1) := by decide +kernel
theorem dX7_digest_14 : decode cX7_digest 14 = .ok (.iload_n 1, 1) := by decide +kernel
theorem dX7_digest_15 : decode cX7_digest 15 = .ok (.bipush 12, 2) := by decide +kernel
theorem dX7_digest_17 : decode cX7_digest 17 = .ok (.if_icmp .ge 19, 3) := by decide +kernel
theorem dX7_digest_20 : decode cX7_digest 20 = .ok (.aload_n 0, 1) := by decide +kernel
theorem dX7_digest_21 : decode cX7_digest 21 = .ok (.aload_n 0, 1) := by decide +kernel
theorem dX7_digest_22 : decode cX7_digest 22 = .ok (.iload_n 1, 1) := by decide +kernel
theorem dX7_digest_23 : decode cX7_digest 23 = .ok (.invokevirtual 163, 3) := by decide +kernel
theorem dX7_digest_26 : decode cX7_digest 26 = .ok (.i2l, 1) := by decide +kernel
theorem dX7_digest_27 : decode cX7_digest 27 = .ok (.invokevirtual 200, 3) := by decide +kernel
theorem dX7_digest_30 : decode cX7_digest 30 = .ok (.iinc 1 1, 3) := by decide +kernel
theorem dX7_digest_33 : decode cX7_digest 33 = .ok (.goto (-19), 3) := by decide +kernel
theorem dX7_digest_36 : decode cX7_digest 36 = .ok (.iconst 0, 1) := by decide +kernel
theorem dX7_digest_37 : decode cX7_digest 37 = .ok (.istore_n 1, 1) := by decide +kernel
theorem dX7_digest_38 : decode cX7_digest 38 = .ok (.iload_n 1, 1) := by decide +kernel
theorem dX7_digest_39 : decode cX7_digest 39 = .ok (.iconst 3, 1) := by decide +kernel
theorem dX7_digest_40 : decode cX7_digest 40 = .ok (.if_icmp .ge 20, 3) := by decide +kernel
theorem dX7_digest_43 : decode cX7_digest 43 = .ok (.aload_n 0, 1) := by decide +kernel
theorem dX7_digest_44 : decode cX7_digest 44 = .ok (.aload_n 0, 1) := by decide +kernel
theorem dX7_digest_45 : decode cX7_digest 45 = .ok (.getfield 7, 3) := by decide +kernel
theorem dX7_digest_48 : decode cX7_digest 48 = .ok (.iload_n 1, 1) := by decide +kernel
theorem dX7_digest_49 : decode cX7_digest 49 = .ok (.iaload, 1) := by decide +kernel
theorem dX7_digest_50 : decode cX7_digest 50 = .ok (.i2l, 1) := by decide +kernel
theorem dX7_digest_51 : decode cX7_digest 51 = .ok (.invokevirtual 200, 3) := by decide +kernel
theorem dX7_digest_54 : decode cX7_digest 54 = .ok (.iinc 1 1, 3) := by decide +kernel
theorem dX7_digest_57 : decode cX7_digest 57 = .ok (.goto (-19), 3) := by decide +kernel
theorem dX7_digest_60 : decode cX7_digest 60 = .ok (.iconst 0, 1) := by decide +kernel
theorem dX7_digest_61 : decode cX7_digest 61 = .ok (.istore_n 1, 1) := by decide +kernel
theorem dX7_digest_62 : decode cX7_digest 62 = .ok (.iload_n 1, 1) := by decide +kernel
theorem dX7_digest_63 : decode cX7_digest 63 = .ok (.iconst 4, 1) := by decide +kernel
theorem dX7_digest_64 : decode cX7_digest 64 = .ok (.if_icmp .ge 14, 3) := by decide +kernel
theorem dX7_digest_67 : decode cX7_digest 67 = .ok (.aload_n 0, 1) := by decide +kernel
theorem dX7_digest_68 : decode cX7_digest 68 = .ok (.iload_n 1, 1) := by decide +kernel
theorem dX7_digest_69 : decode cX7_digest 69 = .ok (.invokevirtual 206, 3) := by decide +kernel
theorem dX7_digest_72 : decode cX7_digest 72 = .ok (.iinc 1 1, 3) := by decide +kernel
theorem dX7_digest_75 : decode cX7_digest 75 = .ok (.goto (-13), 3) := by decide +kernel
theorem dX7_digest_78 : decode cX7_digest 78 = .ok (.iconst 0, 1) := by decide +kernel
theorem dX7_digest_79 : decode cX7_digest 79 = .ok (.istore_n 1, 1) := by decide +kernel
theorem dX7_digest_80 : decode cX7_digest 80 = .ok (.iload_n 1, 1) := by decide +kernel
theorem dX7_digest_81 : decode cX7_digest 81 = .ok (.aload_n 0, 1) := by decide +kernel
theorem dX7_digest_82 : decode cX7_digest 82 = .ok (.getfield 7, 3) := by decide +kernel
theorem dX7_digest_85 : decode cX7_digest 85 = .ok (.bipush 9, 2) := by decide +kernel
theorem dX7_digest_87 : decode cX7_digest 87 = .ok (.iaload, 1) := by decide +kernel
theorem dX7_digest_88 : decode cX7_digest 88 = .ok (.if_icmp .ge 34, 3) := by decide +kernel
theorem dX7_digest_91 : decode cX7_digest 91 = .ok (.iconst 0, 1) := by decide +kernel
theorem dX7_digest_92 : decode cX7_digest 92 = .ok (.istore_n 2, 1) := by decide +kernel
theorem dX7_digest_93 : decode cX7_digest 93 = .ok (.iload_n 2, 1) := by decide +kernel
theorem dX7_digest_94 : decode cX7_digest 94 = .ok (.bipush 6, 2) := by decide +kernel
theorem dX7_digest_96 : decode cX7_digest 96 = .ok (.if_icmp .ge 20, 3) := by decide +kernel
theorem dX7_digest_99 : decode cX7_digest 99 = .ok (.aload_n 0, 1) := by decide +kernel
theorem dX7_digest_100 : decode cX7_digest 100 = .ok (.aload_n 0, 1) := by decide +kernel
theorem dX7_digest_101 : decode cX7_digest 101 = .ok (.iload_n 1, 1) := by decide +kernel
theorem dX7_digest_102 : decode cX7_digest 102 = .ok (.iload_n 2, 1) := by decide +kernel
theorem dX7_digest_103 : decode cX7_digest 103 = .ok (.invokevirtual 157, 3) := by decide +kernel
theorem dX7_digest_106 : decode cX7_digest 106 = .ok (.i2l, 1) := by decide +kernel
theorem dX7_digest_107 : decode cX7_digest 107 = .ok (.invokevirtual 200, 3) := by decide +kernel
theorem dX7_digest_110 : decode cX7_digest 110 = .ok (.iinc 2 1, 3) := by decide +kernel
theorem dX7_digest_113 : decode cX7_digest 113 = .ok (.goto (-20), 3) := by decide +kernel
theorem dX7_digest_116 : decode cX7_digest 116 = .ok (.iinc 1 1, 3) := by decide +kernel
theorem dX7_digest_119 : decode cX7_digest 119 = .ok (.goto (-39), 3) := by decide +kernel
theorem dX7_digest_122 : decode cX7_digest 122 = .ok (.iconst 0, 1) := by decide +kernel
theorem dX7_digest_123 : decode cX7_digest 123 = .ok (.istore_n 1, 1) := by decide +kernel
theorem dX7_digest_124 : decode cX7_digest 124 = .ok (.iload_n 1, 1) := by decide +kernel
theorem dX7_digest_125 : decode cX7_digest 125 = .ok (.bipush 6, 2) := by decide +kernel
theorem dX7_digest_127 : decode cX7_digest 127 = .ok (.if_icmp .ge 33, 3) := by decide +kernel
theorem dX7_digest_130 : decode cX7_digest 130 = .ok (.aload_n 0, 1) := by decide +kernel
theorem dX7_digest_131 : decode cX7_digest 131 = .ok (.aload_n 0, 1) := by decide +kernel
theorem dX7_digest_132 : decode cX7_digest 132 = .ok (.iload_n 1, 1) := by decide +kernel
theorem dX7_digest_133 : decode cX7_digest 133 = .ok (.iconst 3, 1) := by decide +kernel
theorem dX7_digest_134 : decode cX7_digest 134 = .ok (.if_icmp .ge 8, 3) := by decide +kernel
theorem dX7_digest_137 : decode cX7_digest 137 = .ok (.bipush 7, 2) := by decide +kernel
theorem dX7_digest_139 : decode cX7_digest 139 = .ok (.goto 5, 3) := by decide +kernel
theorem dX7_digest_142 : decode cX7_digest 142 = .ok (.bipush 50, 2) := by decide +kernel
theorem dX7_digest_144 : decode cX7_digest 144 = .ok (.iload_n 1, 1) := by decide +kernel
theorem dX7_digest_145 : decode cX7_digest 145 = .ok (.iconst 3, 1) := by decide +kernel
theorem dX7_digest_146 : decode cX7_digest 146 = .ok (.irem, 1) := by decide +kernel
theorem dX7_digest_147 : decode cX7_digest 147 = .ok (.invokevirtual 169, 3) := by decide +kernel
theorem dX7_digest_150 : decode cX7_digest 150 = .ok (.i2l, 1) := by decide +kernel
theorem dX7_digest_151 : decode cX7_digest 151 = .ok (.invokevirtual 200, 3) := by decide +kernel
theorem dX7_digest_154 : decode cX7_digest 154 = .ok (.iinc 1 1, 3) := by decide +kernel
theorem dX7_digest_157 : decode cX7_digest 157 = .ok (.goto (-33), 3) := by decide +kernel
theorem dX7_digest_160 : decode cX7_digest 160 = .ok (.aload_n 0, 1) := by decide +kernel
theorem dX7_digest_161 : decode cX7_digest 161 = .ok (.aload_n 0, 1) := by decide +kernel
theorem dX7_digest_162 : decode cX7_digest 162 = .ok (.invokevirtual 184, 3) := by decide +kernel
theorem dX7_digest_165 : decode cX7_digest 165 = .ok (.i2l, 1) := by decide +kernel
theorem dX7_digest_166 : decode cX7_digest 166 = .ok (.invokevirtual 200, 3) := by decide +kernel
theorem dX7_digest_169 : decode cX7_digest 169 = .ok (.aload_n 0, 1) := by decide +kernel
theorem dX7_digest_170 : decode cX7_digest 170 = .ok (.aload_n 0, 1) := by decide +kernel
theorem dX7_digest_171 : decode cX7_digest 171 = .ok (.invokevirtual 187, 3) := by decide +kernel
theorem dX7_digest_174 : decode cX7_digest 174 = .ok (.i2l, 1) := by decide +kernel
theorem dX7_digest_175 : decode cX7_digest 175 = .ok (.invokevirtual 200, 3) := by decide +kernel
theorem dX7_digest_178 : decode cX7_digest 178 = .ok (.aload_n 0, 1) := by decide +kernel
theorem dX7_digest_179 : decode cX7_digest 179 = .ok (.aload_n 0, 1) := by decide +kernel
theorem dX7_digest_180 : decode cX7_digest 180 = .ok (.invokevirtual 190, 3) := by decide +kernel
theorem dX7_digest_183 : decode cX7_digest 183 = .ok (.invokestatic 209, 3) := by decide +kernel
theorem dX7_digest_186 : decode cX7_digest 186 = .ok (.invokevirtual 200, 3) := by decide +kernel
theorem dX7_digest_189 : decode cX7_digest 189 = .ok (.aload_n 0, 1) := by decide +kernel
theorem dX7_digest_190 : decode cX7_digest 190 = .ok (.aload_n 0, 1) := by decide +kernel
theorem dX7_digest_191 : decode cX7_digest 191 = .ok (.getfield 19, 3) := by decide +kernel
theorem dX7_digest_194 : decode cX7_digest 194 = .ok (.iconst 0, 1) := by decide +kernel
theorem dX7_digest_195 : decode cX7_digest 195 = .ok (.iaload, 1) := by decide +kernel
theorem dX7_digest_196 : decode cX7_digest 196 = .ok (.i2l, 1) := by decide +kernel
theorem dX7_digest_197 : decode cX7_digest 197 = .ok (.invokevirtual 200, 3) := by decide +kernel
theorem dX7_digest_200 : decode cX7_digest 200 = .ok (.aload_n 0, 1) := by decide +kernel
theorem dX7_digest_201 : decode cX7_digest 201 = .ok (.aload_n 0, 1) := by decide +kernel
theorem dX7_digest_202 : decode cX7_digest 202 = .ok (.getfield 19, 3) := by decide +kernel
theorem dX7_digest_205 : decode cX7_digest 205 = .ok (.iconst 1, 1) := by decide +kernel
theorem dX7_digest_206 : decode cX7_digest 206 = .ok (.iaload, 1) := by decide +kernel
theorem dX7_digest_207 : decode cX7_digest 207 = .ok (.i2l, 1) := by decide +kernel
theorem dX7_digest_208 : decode cX7_digest 208 = .ok (.invokevirtual 200, 3) := by decide +kernel
theorem dX7_digest_211 : decode cX7_digest 211 = .ok (.aload_n 0, 1) := by decide +kernel
theorem dX7_digest_212 : decode cX7_digest 212 = .ok (.aload_n 0, 1) := by decide +kernel
theorem dX7_digest_213 : decode cX7_digest 213 = .ok (.getfield 108, 3) := by decide +kernel
theorem dX7_digest_216 : decode cX7_digest 216 = .ok (.i2l, 1) := by decide +kernel
theorem dX7_digest_217 : decode cX7_digest 217 = .ok (.invokevirtual 200, 3) := by decide +kernel
theorem dX7_digest_220 : decode cX7_digest 220 = .ok (.iconst 0, 1) := by decide +kernel
theorem dX7_digest_221 : decode cX7_digest 221 = .ok (.istore_n 1, 1) := by decide +kernel
theorem dX7_digest_222 : decode cX7_digest 222 = .ok (.iload_n 1, 1) := by decide +kernel
theorem dX7_digest_223 : decode cX7_digest 223 = .ok (.aload_n 0, 1) := by decide +kernel
theorem dX7_digest_224 : decode cX7_digest 224 = .ok (.getfield 108, 3) := by decide +kernel
theorem dX7_digest_227 : decode cX7_digest 227 = .ok (.if_icmp .ge 20, 3) := by decide +kernel
theorem dX7_digest_230 : decode cX7_digest 230 = .ok (.aload_n 0, 1) := by decide +kernel
theorem dX7_digest_231 : decode cX7_digest 231 = .ok (.aload_n 0, 1) := by decide +kernel
theorem dX7_digest_232 : decode cX7_digest 232 = .ok (.getfield 22, 3) := by decide +kernel
theorem dX7_digest_235 : decode cX7_digest 235 = .ok (.iload_n 1, 1) := by decide +kernel
theorem dX7_digest_236 : decode cX7_digest 236 = .ok (.iaload, 1) := by decide +kernel
theorem dX7_digest_237 : decode cX7_digest 237 = .ok (.i2l, 1) := by decide +kernel
theorem dX7_digest_238 : decode cX7_digest 238 = .ok (.invokevirtual 200, 3) := by decide +kernel
theorem dX7_digest_241 : decode cX7_digest 241 = .ok (.iinc 1 1, 3) := by decide +kernel
theorem dX7_digest_244 : decode cX7_digest 244 = .ok (.goto (-22), 3) := by decide +kernel
theorem dX7_digest_247 : decode cX7_digest 247 = .ok (.aload_n 0, 1) := by decide +kernel
theorem dX7_digest_248 : decode cX7_digest 248 = .ok (.getfield 196, 3) := by decide +kernel
theorem dX7_digest_251 : decode cX7_digest 251 = .ok (.lreturn, 1) := by decide +kernel
