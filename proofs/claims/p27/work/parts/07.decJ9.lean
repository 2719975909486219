theorem dJ9_max_7cf53_0 : decode cJ9_max_7cf53 0 = .ok (.iload_n 0, 1) := by decide +kernel
theorem dJ9_max_7cf53_1 : decode cJ9_max_7cf53 1 = .ok (.iload_n 1, 1) := by decide +kernel
theorem dJ9_max_7cf53_2 : decode cJ9_max_7cf53 2 = .ok (.if_icmp .lt 7, 3) := by decide +kernel
theorem dJ9_max_7cf53_5 : decode cJ9_max_7cf53 5 = .ok (.iload_n 0, 1) := by decide +kernel
theorem dJ9_max_7cf53_6 : decode cJ9_max_7cf53 6 = .ok (.goto 4, 3) := by decide +kernel
theorem dJ9_max_7cf53_9 : decode cJ9_max_7cf53 9 = .ok (.iload_n 1, 1) := by decide +kernel
theorem dJ9_max_7cf53_10 : decode cJ9_max_7cf53 10 = .ok (.ireturn, 1) := by decide +kernel
theorem dJ9_min_7cf53_0 : decode cJ9_min_7cf53 0 = .ok (.iload_n 0, 1) := by decide +kernel
theorem dJ9_min_7cf53_1 : decode cJ9_min_7cf53 1 = .ok (.iload_n 1, 1) := by decide +kernel
theorem dJ9_min_7cf53_2 : decode cJ9_min_7cf53 2 = .ok (.if_icmp .gt 7, 3) := by decide +kernel
theorem dJ9_min_7cf53_5 : decode cJ9_min_7cf53 5 = .ok (.iload_n 0, 1) := by decide +kernel
theorem dJ9_min_7cf53_6 : decode cJ9_min_7cf53 6 = .ok (.goto 4, 3) := by decide +kernel
theorem dJ9_min_7cf53_9 : decode cJ9_min_7cf53 9 = .ok (.iload_n 1, 1) := by decide +kernel
theorem dJ9_min_7cf53_10 : decode cJ9_min_7cf53 10 = .ok (.ireturn, 1) := by decide +kernel
theorem dL_cell_0 : decode cL_cell 0 = .ok (.iload_n 1, 1) := by decide +kernel
theorem dL_cell_1 : decode cL_cell 1 = .ok (.aload_n 0, 1) := by decide +kernel
theorem dL_cell_2 : decode cL_cell 2 = .ok (.arraylength, 1) := by decide +kernel
theorem dL_cell_3 : decode cL_cell 3 = .ok (.if_icmp .ge 9, 3) := by decide +kernel
theorem dL_cell_6 : decode cL_cell 6 = .ok (.aload_n 0, 1) := by decide +kernel
theorem dL_cell_7 : decode cL_cell 7 = .ok (.iload_n 1, 1) := by decide +kernel
theorem dL_cell_8 : decode cL_cell 8 = .ok (.iaload, 1) := by decide +kernel
theorem dL_cell_9 : decode cL_cell 9 = .ok (.goto 13, 3) := by decide +kernel
theorem dL_cell_12 : decode cL_cell 12 = .ok (.ldc 7, 2) := by decide +kernel
theorem dL_cell_14 : decode cL_cell 14 = .ok (.iload_n 1, 1) := by decide +kernel
theorem dL_cell_15 : decode cL_cell 15 = .ok (.bipush 11, 2) := by decide +kernel
theorem dL_cell_17 : decode cL_cell 17 = .ok (.iadd, 1) := by decide +kernel
theorem dL_cell_18 : decode cL_cell 18 = .ok (.imul, 1) := by decide +kernel
theorem dL_cell_19 : decode cL_cell 19 = .ok (.ldc 8, 2) := by decide +kernel
theorem dL_cell_21 : decode cL_cell 21 = .ok (.iadd, 1) := by decide +kernel
theorem dL_cell_22 : decode cL_cell 22 = .ok (.ireturn, 1) := by decide +kernel
theorem dL_low_0 : decode cL_low 0 = .ok (.iload_n 0, 1) := by decide +kernel
theorem dL_low_1 : decode cL_low 1 = .ok (.ldc 9, 2) := by decide +kernel
theorem dL_low_3 : decode cL_low 3 = .ok (.iand, 1) := by decide +kernel
theorem dL_low_4 : decode cL_low 4 = .ok (.iload_n 1, 1) := by decide +kernel
theorem dL_low_5 : decode cL_low 5 = .ok (.irem, 1) := by decide +kernel
theorem dL_low_6 : decode cL_low 6 = .ok (.ireturn, 1) := by decide +kernel
theorem dL_call_0 : decode cL_call 0 = .ok (.aload_n 0, 1) := by decide +kernel
theorem dL_call_1 : decode cL_call 1 = .ok (.iload_n 1, 1) := by decide +kernel
theorem dL_call_2 : decode cL_call 2 = .ok (.iload_n 2, 1) := by decide +kernel
theorem dL_call_3 : decode cL_call 3 = .ok (.invokevirtual 10, 3) := by decide +kernel
theorem dL_call_6 : decode cL_call 6 = .ok (.ireturn, 1) := by decide +kernel
theorem dL_call_7 : decode cL_call 7 = .ok (.astore_n 3, 1) := by decide +kernel
theorem dL_call_8 : decode cL_call 8 = .ok (.bipush (-101), 2) := by decide +kernel
theorem dL_call_10 : decode cL_call 10 = .ok (.ireturn, 1) := by decide +kernel
theorem dL_call_11 : decode cL_call 11 = .ok (.astore_n 3, 1) := by decide +kernel
theorem dL_call_12 : decode cL_call 12 = .ok (.bipush (-102), 2) := by decide +kernel
theorem dL_call_14 : decode cL_call 14 = .ok (.ireturn, 1) := by decide +kernel
theorem dL_walk_0 : decode cL_walk 0 = .ok (.aload_n 0, 1) := by decide +kernel
theorem dL_walk_1 : decode cL_walk 1 = .ok (.iload_n 1, 1) := by decide +kernel
theorem dL_walk_2 : decode cL_walk 2 = .ok (.iload_n 2, 1) := by decide +kernel
theorem dL_walk_3 : decode cL_walk 3 = .ok (.invokevirtual 20, 3) := by decide +kernel
theorem dL_walk_6 : decode cL_walk 6 = .ok (.ireturn, 1) := by decide +kernel
theorem dL_walk_7 : decode cL_walk 7 = .ok (.astore_n 3, 1) := by decide +kernel
theorem dL_walk_8 : decode cL_walk 8 = .ok (.bipush (-101), 2) := by decide +kernel
theorem dL_walk_10 : decode cL_walk 10 = .ok (.ireturn, 1) := by decide +kernel
theorem dL_walk_11 : decode cL_walk 11 = .ok (.astore_n 3, 1) := by decide +kernel
theorem dL_walk_12 : decode cL_walk 12 = .ok (.bipush (-102), 2) := by decide +kernel
theorem dL_walk_14 : decode cL_walk 14 = .ok (.ireturn, 1) := by decide +kernel
theorem dL_set_0 : decode cL_set 0 = .ok (.aload_n 0, 1) := by decide +kernel
theorem dL_set_1 : decode cL_set 1 = .ok (.iload_n 1, 1) := by decide +kernel
theorem dL_set_2 : decode cL_set 2 = .ok (.iload_n 2, 1) := by decide +kernel
theorem dL_set_3 : decode cL_set 3 = .ok (.invokevirtual 23, 3) := by decide +kernel
theorem dL_set_6 : decode cL_set 6 = .ok (.ireturn, 1) := by decide +kernel
theorem dL_set_7 : decode cL_set 7 = .ok (.astore_n 3, 1) := by decide +kernel
theorem dL_set_8 : decode cL_set 8 = .ok (.bipush (-101), 2) := by decide +kernel
theorem dL_set_10 : decode cL_set 10 = .ok (.ireturn, 1) := by decide +kernel
theorem dL_set_11 : decode cL_set 11 = .ok (.astore_n 3, 1) := by decide +kernel
theorem dL_set_12 : decode cL_set 12 = .ok (.bipush (-102), 2) := by decide +kernel
theorem dL_set_14 : decode cL_set 14 = .ok (.ireturn, 1) := by decide +kernel
theorem dL_set_15 : decode cL_set 15 = .ok (.astore_n 3, 1) := by decide +kernel
theorem dL_set_16 : decode cL_set 16 = .ok (.bipush (-103), 2) := by decide +kernel
theorem dL_set_18 : decode cL_set 18 = .ok (.ireturn, 1) := by decide +kernel
theorem dL_pass_0 : decode cL_pass 0 = .ok (.aload_n 0, 1) := by decide +kernel
theorem dL_pass_1 : decode cL_pass 1 = .ok (.iload_n 1, 1) := by decide +kernel
theorem dL_pass_2 : decode cL_pass 2 = .ok (.invokevirtual 28, 3) := by decide +kernel
theorem dL_pass_5 : decode cL_pass 5 = .ok (.ireturn, 1) := by decide +kernel
theorem dL_pass_6 : decode cL_pass 6 = .ok (.astore_n 2, 1) := by decide +kernel
theorem dL_pass_7 : decode cL_pass 7 = .ok (.bipush (-102), 2) := by decide +kernel
theorem dL_pass_9 : decode cL_pass 9 = .ok (.ireturn, 1) := by decide +kernel
theorem dL_pass_10 : decode cL_pass 10 = .ok (.astore_n 2, 1) := by decide +kernel
theorem dL_pass_11 : decode cL_pass 11 = .ok (.bipush (-103), 2) := by decide +kernel
theorem dL_pass_13 : decode cL_pass 13 = .ok (.ireturn, 1) := by decide +kernel
theorem dL_undo_0 : decode cL_undo 0 = .ok (.aload_n 0, 1) := by decide +kernel
theorem dL_undo_1 : decode cL_undo 1 = .ok (.invokevirtual 32, 3) := by decide +kernel
theorem dL_undo_4 : decode cL_undo 4 = .ok (.ireturn, 1) := by decide +kernel
theorem dL_undo_5 : decode cL_undo 5 = .ok (.astore_n 1, 1) := by decide +kernel
theorem dL_undo_6 : decode cL_undo 6 = .ok (.bipush (-103), 2) := by decide +kernel
theorem dL_undo_8 : decode cL_undo 8 = .ok (.ireturn, 1) := by decide +kernel
theorem dL_playerOf_0 : decode cL_playerOf 0 = .ok (.aload_n 0, 1) := by decide +kernel
theorem dL_playerOf_1 : decode cL_playerOf 1 = .ok (.iload_n 1, 1) := by decide +kernel
theorem dL_playerOf_2 : decode cL_playerOf 2 = .ok (.iload_n 2, 1) := by decide +kernel
theorem dL_playerOf_3 : decode cL_playerOf 3 = .ok (.invokevirtual 36, 3) := by decide +kernel
theorem dL_playerOf_6 : decode cL_playerOf 6 = .ok (.ireturn, 1) := by decide +kernel
theorem dL_playerOf_7 : decode cL_playerOf 7 = .ok (.astore_n 3, 1) := by decide +kernel
theorem dL_playerOf_8 : decode cL_playerOf 8 = .ok (.bipush (-101), 2) := by decide +kernel
theorem dL_playerOf_10 : decode cL_playerOf 10 = .ok (.ireturn, 1) := by decide +kernel
theorem dL_playerOf_11 : decode cL_playerOf 11 = .ok (.astore_n 3, 1) := by decide +kernel
theorem dL_playerOf_12 : decode cL_playerOf 12 = .ok (.bipush (-102), 2) := by decide +kernel
theorem dL_playerOf_14 : decode cL_playerOf 14 = .ok (.ireturn, 1) := by decide +kernel
theorem dL_echoOf_0 : decode cL_echoOf 0 = .ok (.aload_n 0, 1) := by decide +kernel
theorem dL_echoOf_1 : decode cL_echoOf 1 = .ok (.iload_n 1, 1) := by decide +kernel
theorem dL_echoOf_2 : decode cL_echoOf 2 = .ok (.iload_n 2, 1) := by decide +kernel
theorem dL_echoOf_3 : decode cL_echoOf 3 = .ok (.invokevirtual 39, 3) := by decide +kernel
theorem dL_echoOf_6 : decode cL_echoOf 6 = .ok (.ireturn, 1) := by decide +kernel
theorem dL_echoOf_7 : decode cL_echoOf 7 = .ok (.astore_n 3, 1) := by decide +kernel
theorem dL_echoOf_8 : decode cL_echoOf 8 = .ok (.bipush (-102), 2) := by decide +kernel
theorem dL_echoOf_10 : decode cL_echoOf 10 = .ok (.ireturn, 1) := by decide +kernel
theorem dL_count_0 : decode cL_count 0 = .ok (.aload_n 0, 1) := by decide +kernel
theorem dL_count_1 : decode cL_count 1 = .ok (.iload_n 1, 1) := by decide +kernel
theorem dL_count_2 : decode cL_count 2 = .ok (.invokevirtual 42, 3) := by decide +kernel
theorem dL_count_5 : decode cL_count 5 = .ok (.ireturn, 1) := by decide +kernel
theorem dL_count_6 : decode cL_count 6 = .ok (.astore_n 2, 1) := by decide +kernel
theorem dL_count_7 : decode cL_count 7 = .ok (.bipush (-102), 2) := by decide +kernel
theorem dL_count_9 : decode cL_count 9 = .ok (.ireturn, 1) := by decide +kernel
theorem dL_ballIn_0 : decode cL_ballIn 0 = .ok (.aload_n 0, 1) := by decide +kernel
theorem dL_ballIn_1 : decode cL_ballIn 1 = .ok (.iload_n 1, 1) := by decide +kernel
theorem dL_ballIn_2 : decode cL_ballIn 2 = .ok (.iload_n 2, 1) := by decide +kernel
theorem dL_ballIn_3 : decode cL_ballIn 3 = .ok (.invokevirtual 45, 3) := by decide +kernel
theorem dL_ballIn_6 : decode cL_ballIn 6 = .ok (.ireturn, 1) := by decide +kernel
theorem dL_ballIn_7 : decode cL_ballIn 7 = .ok (.astore_n 3, 1) := by decide +kernel
theorem dL_ballIn_8 : decode cL_ballIn 8 = .ok (.bipush (-102), 2) := by decide +kernel
theorem dL_ballIn_10 : decode cL_ballIn 10 = .ok (.ireturn, 1) := by decide +kernel
theorem dL_echoIn_0 : decode cL_echoIn 0 = .ok (.aload_n 0, 1) := by decide +kernel
theorem dL_echoIn_1 : decode cL_echoIn 1 = .ok (.iload_n 1, 1) := by decide +kernel
theorem dL_echoIn_2 : decode cL_echoIn 2 = .ok (.iload_n 2, 1) := by decide +kernel
theorem dL_echoIn_3 : decode cL_echoIn 3 = .ok (.invokevirtual 48, 3) := by decide +kernel
theorem dL_echoIn_6 : decode cL_echoIn 6 = .ok (.ireturn, 1) := by decide +kernel
theorem dL_echoIn_7 : decode cL_echoIn 7 = .ok (.astore_n 3, 1) := by decide +kernel
theorem dL_echoIn_8 : decode cL_echoIn 8 = .ok (.bipush (-101), 2) := by decide +kernel
theorem dL_echoIn_10 : decode cL_echoIn 10 = .ok (.ireturn, 1) := by decide +kernel
theorem dL_echoIn_11 : decode cL_echoIn 11 = .ok (.astore_n 3, 1) := by decide +kernel
theorem dL_echoIn_12 : decode cL_echoIn 12 = .ok (.bipush (-102), 2) := by decide +kernel
theorem dL_echoIn_14 : decode cL_echoIn 14 = .ok (.ireturn, 1) := by decide +kernel
theorem dL_wouldClash_0 : decode cL_wouldClash 0 = .ok (.aload_n 0, 1) := by decide +kernel
theorem dL_wouldClash_1 : decode cL_wouldClash 1 = .ok (.iload_n 1, 1) := by decide +kernel
theorem dL_wouldClash_2 : decode cL_wouldClash 2 = .ok (.iload_n 2, 1) := by decide +kernel
theorem dL_wouldClash_3 : decode cL_wouldClash 3 = .ok (.invokevirtual 51, 3) := by decide +kernel
theorem dL_wouldClash_6 : decode cL_wouldClash 6 = .ok (.ireturn, 1) := by decide +kernel
theorem dL_wouldClash_7 : decode cL_wouldClash 7 = .ok (.astore_n 3, 1) := by decide +kernel
theorem dL_wouldClash_8 : decode cL_wouldClash 8 = .ok (.bipush (-101), 2) := by decide +kernel
theorem dL_wouldClash_10 : decode cL_wouldClash 10 = .ok (.ireturn, 1) := by decide +kernel
theorem dL_wouldClash_11 : decode cL_wouldClash 11 = .ok (.astore_n 3, 1) := by decide +kernel
theorem dL_wouldClash_12 : decode cL_wouldClash 12 = .ok (.bipush (-102), 2) := by decide +kernel
theorem dL_wouldClash_14 : decode cL_wouldClash 14 = .ok (.ireturn, 1) := by decide +kernel
theorem dL_callIn_0 : decode cL_callIn 0 = .ok (.aload_n 0, 1) := by decide +kernel
theorem dL_callIn_1 : decode cL_callIn 1 = .ok (.iload_n 1, 1) := by decide +kernel
theorem dL_callIn_2 : decode cL_callIn 2 = .ok (.invokevirtual 54, 3) := by decide +kernel
theorem dL_callIn_5 : decode cL_callIn 5 = .ok (.ireturn, 1) := by decide +kernel
theorem dL_callIn_6 : decode cL_callIn 6 = .ok (.astore_n 2, 1) := by decide +kernel
theorem dL_callIn_7 : decode cL_callIn 7 = .ok (.bipush (-101), 2) := by decide +kernel
theorem dL_callIn_9 : decode cL_callIn 9 = .ok (.ireturn, 1) := by decide +kernel
theorem dL_throwBall_0 : decode cL_throwBall 0 = .ok (.aload_n 0, 1) := by decide +kernel
theorem dL_throwBall_1 : decode cL_throwBall 1 = .ok (.iload_n 1, 1) := by decide +kernel
theorem dL_throwBall_2 : decode cL_throwBall 2 = .ok (.iload_n 2, 1) := by decide +kernel
theorem dL_throwBall_3 : decode cL_throwBall 3 = .ok (.iload_n 3, 1) := by decide +kernel
theorem dL_throwBall_4 : decode cL_throwBall 4 = .ok (.invokevirtual 57, 3) := by decide +kernel
theorem dL_throwBall_7 : decode cL_throwBall 7 = .ok (.ireturn, 1) := by decide +kernel
theorem dL_throwBall_8 : decode cL_throwBall 8 = .ok (.astore 4, 2) := by decide +kernel
theorem dL_throwBall_10 : decode cL_throwBall 10 = .ok (.bipush (-102), 2) := by decide +kernel
theorem dL_throwBall_12 : decode cL_throwBall 12 = .ok (.ireturn, 1) := by decide +kernel
theorem dL_delay_0 : decode cL_delay 0 = .ok (.iload_n 1, 1) := by decide +kernel
theorem dL_delay_1 : decode cL_delay 1 = .ok (.ifCond .ne 7, 3) := by decide +kernel
theorem dL_delay_4 : decode cL_delay 4 = .ok (.iload_n 0, 1) := by decide +kernel
theorem dL_delay_5 : decode cL_delay 5 = .ok (.goto 8, 3) := by decide +kernel
theorem dL_delay_8 : decode cL_delay 8 = .ok (.aload_n 2, 1) := by decide +kernel
theorem dL_delay_9 : decode cL_delay 9 = .ok (.iconst 0, 1) := by decide +kernel
theorem dL_delay_10 : decode cL_delay 10 = .ok (.iaload, 1) := by decide +kernel
theorem dL_delay_11 : decode cL_delay 11 = .ok (.iload_n 0, 1) := by decide +kernel
theorem dL_delay_12 : decode cL_delay 12 = .ok (.isub, 1) := by decide +kernel
theorem dL_delay_13 : decode cL_delay 13 = .ok (.istore_n 3, 1) := by decide +kernel
theorem dL_delay_14 : decode cL_delay 14 = .ok (.aload_n 2, 1) := by decide +kernel
theorem dL_delay_15 : decode cL_delay 15 = .ok (.iconst 2, 1) := by decide +kernel
theorem dL_delay_16 : decode cL_delay 16 = .ok (.iaload, 1) := by decide +kernel
theorem dL_delay_17 : decode cL_delay 17 = .ok (.istore 4, 2) := by decide +kernel
theorem dL_delay_19 : decode cL_delay 19 = .ok (.iconst 0, 1) := by decide +kernel
theorem dL_delay_20 : decode cL_delay 20 = .ok (.istore 5, 2) := by decide +kernel
theorem dL_delay_22 : decode cL_delay 22 = .ok (.iload 5, 2) := by decide +kernel
theorem dL_delay_24 : decode cL_delay 24 = .ok (.iconst 2, 1) := by decide +kernel
theorem dL_delay_25 : decode cL_delay 25 = .ok (.iload_n 3, 1) := by decide +kernel
theorem dL_delay_26 : decode cL_delay 26 = .ok (.imul, 1) := by decide +kernel
theorem dL_delay_27 : decode cL_delay 27 = .ok (.if_icmp .ge 17, 3) := by decide +kernel
theorem dL_delay_30 : decode cL_delay 30 = .ok (.iinc 4 1, 3) := by decide +kernel
theorem dL_delay_33 : decode cL_delay 33 = .ok (.iload 5, 2) := by decide +kernel
theorem dL_delay_35 : decode cL_delay 35 = .ok (.aload_n 2, 1) := by decide +kernel
theorem dL_delay_36 : decode cL_delay 36 = .ok (.iconst 1, 1) := by decide +kernel
theorem dL_delay_37 : decode cL_delay 37 = .ok (.iaload, 1) := by decide +kernel
theorem dL_delay_38 : decode cL_delay 38 = .ok (.iadd, 1) := by decide +kernel
theorem dL_delay_39 : decode cL_delay 39 = .ok (.istore 5, 2) := by decide +kernel
theorem dL_delay_41 : decode cL_delay 41 = .ok (.goto (-19), 3) := by decide +kernel
theorem dL_delay_44 : decode cL_delay 44 = .ok (.iload 4, 2) := by decide +kernel
theorem dL_delay_46 : decode cL_delay 46 = .ok (.ifCond .ne 7, 3) := by decide +kernel
theorem dL_delay_49 : decode cL_delay 49 = .ok (.iconst 1, 1) := by decide +kernel
theorem dL_delay_50 : decode cL_delay 50 = .ok (.goto 5, 3) := by decide +kernel
theorem dL_delay_53 : decode cL_delay 53 = .ok (.iload 4, 2) := by decide +kernel
theorem dL_delay_55 : decode cL_delay 55 = .ok (.ireturn, 1) := by decide +kernel
theorem dL_many_0 : decode cL_many 0 = .ok (.iconst 0, 1) := by decide +kernel
theorem dL_many_1 : decode cL_many 1 = .ok (.istore_n 3, 1) := by decide +kernel
theorem dL_many_2 : decode cL_many 2 = .ok (.iconst 0, 1) := by decide +kernel
theorem dL_many_3 : decode cL_many 3 = .ok (.istore 4, 2) := by decide +kernel
theorem dL_many_5 : decode cL_many 5 = .ok (.iload 4, 2) := by decide +kernel
theorem dL_many_7 : decode cL_many 7 = .ok (.aload_n 1, 1) := by decide +kernel
theorem dL_many_8 : decode cL_many 8 = .ok (.bipush 9, 2) := by decide +kernel
theorem dL_many_10 : decode cL_many 10 = .ok (.iaload, 1) := by decide +kernel
theorem dL_many_11 : decode cL_many 11 = .ok (.if_icmp .ge 31, 3) := by decide +kernel
theorem dL_many_14 : decode cL_many 14 = .ok (.iload_n 3, 1) := by decide +kernel
theorem dL_many_15 : decode cL_many 15 = .ok (.aload_n 2, 1) := by decide +kernel
theorem dL_many_16 : decode cL_many 16 = .ok (.iload 4, 2) := by decide +kernel
theorem dL_many_18 : decode cL_many 18 = .ok (.iaload, 1) := by decide +kernel
theorem dL_many_19 : decode cL_many 19 = .ok (.bipush 10, 2) := by decide +kernel
theorem dL_many_21 : decode cL_many 21 = .ok (.idiv, 1) := by decide +kernel
theorem dL_many_22 : decode cL_many 22 = .ok (.bipush 10, 2) := by decide +kernel
theorem dL_many_24 : decode cL_many 24 = .ok (.irem, 1) := by decide +kernel
theorem dL_many_25 : decode cL_many 25 = .ok (.iload_n 0, 1) := by decide +kernel
theorem dL_many_26 : decode cL_many 26 = .ok (.if_icmp .ne 7, 3) := by decide +kernel
theorem dL_many_29 : decode cL_many 29 = .ok (.iconst 1, 1) := by decide +kernel
theorem dL_many_30 : decode cL_many 30 = .ok (.goto 4, 3) := by decide +kernel
theorem dL_many_33 : decode cL_many 33 = .ok (.iconst 0, 1) := by decide +kernel
theorem dL_many_34 : decode cL_many 34 = .ok (.iadd, 1) := by decide +kernel
theorem dL_many_35 : decode cL_many 35 = .ok (.istore_n 3, 1) := by decide +kernel
theorem dL_many_36 : decode cL_many 36 = .ok (.iinc 4 1, 3) := by decide +kernel
theorem dL_many_39 : decode cL_many 39 = .ok (.goto (-34), 3) := by decide +kernel
theorem dL_many_42 : decode cL_many 42 = .ok (.iload_n 3, 1) := by decide +kernel
theorem dL_many_43 : decode cL_many 43 = .ok (.ireturn, 1) := by decide +kernel
theorem dL_coming_0 : decode cL_coming 0 = .ok (.iconst 0, 1) := by decide +kernel
theorem dL_coming_1 : decode cL_coming 1 = .ok (.istore 5, 2) := by decide +kernel
theorem dL_coming_3 : decode cL_coming 3 = .ok (.iconst 0, 1) := by decide +kernel
theorem dL_coming_4 : decode cL_coming 4 = .ok (.istore 6, 2) := by decide +kernel
theorem dL_coming_6 : decode cL_coming 6 = .ok (.iload 6, 2) := by decide +kernel
theorem dL_coming_8 : decode cL_coming 8 = .ok (.aload_n 2, 1) := by decide +kernel
theorem dL_coming_9 : decode cL_coming 9 = .ok (.bipush 9, 2) := by decide +kernel
theorem dL_coming_11 : decode cL_coming 11 = .ok (.iaload, 1) := by decide +kernel
theorem dL_coming_12 : decode cL_coming 12 = .ok (.if_icmp .ge 41, 3) := by decide +kernel
theorem dL_coming_15 : decode cL_coming 15 = .ok (.iload 5, 2) := by decide +kernel
theorem dL_coming_17 : decode cL_coming 17 = .ok (.aload 4, 2) := by decide +kernel
theorem dL_coming_19 : decode cL_coming 19 = .ok (.iload 6, 2) := by decide +kernel
theorem dL_coming_21 : decode cL_coming 21 = .ok (.iaload, 1) := by decide +kernel
theorem dL_coming_22 : decode cL_coming 22 = .ok (.bipush 100, 2) := by decide +kernel
theorem dL_coming_24 : decode cL_coming 24 = .ok (.idiv, 1) := by decide +kernel
theorem dL_coming_25 : decode cL_coming 25 = .ok (.iload_n 0, 1) := by decide +kernel
theorem dL_coming_26 : decode cL_coming 26 = .ok (.if_icmp .ne 17, 3) := by decide +kernel
theorem dL_coming_29 : decode cL_coming 29 = .ok (.aload_n 3, 1) := by decide +kernel
theorem dL_coming_30 : decode cL_coming 30 = .ok (.iload 6, 2) := by decide +kernel
theorem dL_coming_32 : decode cL_coming 32 = .ok (.iaload, 1) := by decide +kernel
theorem dL_coming_33 : decode cL_coming 33 = .ok (.iconst 2, 1) := by decide +kernel
theorem dL_coming_34 : decode cL_coming 34 = .ok (.idiv, 1) := by decide +kernel
theorem dL_coming_35 : decode cL_coming 35 = .ok (.iload_n 1, 1) := by decide +kernel
theorem dL_coming_36 : decode cL_coming 36 = .ok (.if_icmp .ne 7, 3) := by decide +kernel
theorem dL_coming_39 : decode cL_coming 39 = .ok (.iconst 1, 1) := by decide +kernel
theorem dL_coming_40 : decode cL_coming 40 = .ok (.goto 4, 3) := by decide +kernel
theorem dL_coming_43 : decode cL_coming 43 = .ok (.iconst 0, 1) := by decide +kernel
theorem dL_coming_44 : decode cL_coming 44 = .ok (.iadd, 1) := by decide +kernel
theorem dL_coming_45 : decode cL_coming 45 = .ok (.istore 5, 2) := by decide +kernel
theorem dL_coming_47 : decode cL_coming 47 = .ok (.iinc 6 1, 3) := by decide +kernel
theorem dL_coming_50 : decode cL_coming 50 = .ok (.goto (-44), 3) := by decide +kernel
theorem dL_coming_53 : decode cL_coming 53 = .ok (.iload 5, 2) := by decide +kernel
theorem dL_coming_55 : decode cL_coming 55 = .ok (.ireturn, 1) := by decide +kernel
theorem dL_calls_0 : decode cL_calls 0 = .ok (.iload_n 0, 1) := by decide +kernel
theorem dL_calls_1 : decode cL_calls 1 = .ok (.aload_n 2, 1) := by decide +kernel
theorem dL_calls_2 : decode cL_calls 2 = .ok (.aload 5, 2) := by decide +kernel
theorem dL_calls_4 : decode cL_calls 4 = .ok (.invokestatic 61, 3) := by decide +kernel
theorem dL_calls_7 : decode cL_calls 7 = .ok (.iconst 4, 1) := by decide +kernel
theorem dL_calls_8 : decode cL_calls 8 = .ok (.if_icmp .le 13, 3) := by decide +kernel
theorem dL_calls_11 : decode cL_calls 11 = .ok (.aload_n 2, 1) := by decide +kernel
theorem dL_calls_12 : decode cL_calls 12 = .ok (.bipush 7, 2) := by decide +kernel
theorem dL_calls_14 : decode cL_calls 14 = .ok (.dup2, 1) := by decide +kernel
theorem dL_calls_15 : decode cL_calls 15 = .ok (.iaload, 1) := by decide +kernel
theorem dL_calls_16 : decode cL_calls 16 = .ok (.iconst 1, 1) := by decide +kernel
theorem dL_calls_17 : decode cL_calls 17 = .ok (.iadd, 1) := by decide +kernel
theorem dL_calls_18 : decode cL_calls 18 = .ok (.iastore, 1) := by decide +kernel
theorem dL_calls_19 : decode cL_calls 19 = .ok (.iconst (-1), 1) := by decide +kernel
theorem dL_calls_20 : decode cL_calls 20 = .ok (.ireturn, 1) := by decide +kernel
theorem dL_calls_21 : decode cL_calls 21 = .ok (.aload_n 3, 1) := by decide +kernel
theorem dL_calls_22 : decode cL_calls 22 = .ok (.bipush 6, 2) := by decide +kernel
theorem dL_calls_24 : decode cL_calls 24 = .ok (.iload_n 0, 1) := by decide +kernel
theorem dL_calls_25 : decode cL_calls 25 = .ok (.imul, 1) := by decide +kernel
theorem dL_calls_26 : decode cL_calls 26 = .ok (.iaload, 1) := by decide +kernel
theorem dL_calls_27 : decode cL_calls 27 = .ok (.istore 6, 2) := by decide +kernel
theorem dL_calls_29 : decode cL_calls 29 = .ok (.iconst 0, 1) := by decide +kernel
theorem dL_calls_30 : decode cL_calls 30 = .ok (.istore 7, 2) := by decide +kernel
theorem dL_calls_32 : decode cL_calls 32 = .ok (.iload 7, 2) := by decide +kernel
theorem dL_calls_34 : decode cL_calls 34 = .ok (.iconst 2, 1) := by decide +kernel
theorem dL_calls_35 : decode cL_calls 35 = .ok (.if_icmp .ge 60, 3) := by decide +kernel
theorem dL_calls_38 : decode cL_calls 38 = .ok (.aload 4, 2) := by decide +kernel
theorem dL_calls_40 : decode cL_calls 40 = .ok (.aload_n 2, 1) := by decide +kernel
theorem dL_calls_41 : decode cL_calls 41 = .ok (.bipush 9, 2) := by decide +kernel
theorem dL_calls_43 : decode cL_calls 43 = .ok (.iaload, 1) := by decide +kernel
theorem dL_calls_44 : decode cL_calls 44 = .ok (.iconst 2, 1) := by decide +kernel
theorem dL_calls_45 : decode cL_calls 45 = .ok (.aload_n 2, 1) := by decide +kernel
theorem dL_calls_46 : decode cL_calls 46 = .ok (.iconst 3, 1) := by decide +kernel
theorem dL_calls_47 : decode cL_calls 47 = .ok (.iaload, 1) := by decide +kernel
theorem dL_calls_48 : decode cL_calls 48 = .ok (.iload 6, 2) := by decide +kernel
theorem dL_calls_50 : decode cL_calls 50 = .ok (.iload 7, 2) := by decide +kernel
theorem dL_calls_52 : decode cL_calls 52 = .ok (.aload_n 2, 1) := by decide +kernel
theorem dL_calls_53 : decode cL_calls 53 = .ok (.invokestatic 67, 3) := by decide +kernel
theorem dL_calls_56 : decode cL_calls 56 = .ok (.iadd, 1) := by decide +kernel
theorem dL_calls_57 : decode cL_calls 57 = .ok (.imul, 1) := by decide +kernel
theorem dL_calls_58 : decode cL_calls 58 = .ok (.iload 7, 2) := by decide +kernel
theorem dL_calls_60 : decode cL_calls 60 = .ok (.iadd, 1) := by decide +kernel
theorem dL_calls_61 : decode cL_calls 61 = .ok (.iastore, 1) := by decide +kernel
theorem dL_calls_62 : decode cL_calls 62 = .ok (.aload 5, 2) := by decide +kernel
theorem dL_calls_64 : decode cL_calls 64 = .ok (.aload_n 2, 1) := by decide +kernel
theorem dL_calls_65 : decode cL_calls 65 = .ok (.bipush 9, 2) := by decide +kernel
theorem dL_calls_67 : decode cL_calls 67 = .ok (.iaload, 1) := by decide +kernel
theorem dL_calls_68 : decode cL_calls 68 = .ok (.bipush 100, 2) := by decide +kernel
theorem dL_calls_70 : decode cL_calls 70 = .ok (.iload 6, 2) := by decide +kernel
theorem dL_calls_72 : decode cL_calls 72 = .ok (.imul, 1) := by decide +kernel
theorem dL_calls_73 : decode cL_calls 73 = .ok (.bipush 10, 2) := by decide +kernel
theorem dL_calls_75 : decode cL_calls 75 = .ok (.iload_n 0, 1) := by decide +kernel
theorem dL_calls_76 : decode cL_calls 76 = .ok (.imul, 1) := by decide +kernel
theorem dL_calls_77 : decode cL_calls 77 = .ok (.iadd, 1) := by decide +kernel
theorem dL_calls_78 : decode cL_calls 78 = .ok (.iload_n 1, 1) := by decide +kernel
theorem dL_calls_79 : decode cL_calls 79 = .ok (.iadd, 1) := by decide +kernel
theorem dL_calls_80 : decode cL_calls 80 = .ok (.iastore, 1) := by decide +kernel
theorem dL_calls_81 : decode cL_calls 81 = .ok (.aload_n 2, 1) := by decide +kernel
theorem dL_calls_82 : decode cL_calls 82 = .ok (.bipush 9, 2) := by decide +kernel
theorem dL_calls_84 : decode cL_calls 84 = .ok (.dup2, 1) := by decide +kernel
theorem dL_calls_85 : decode cL_calls 85 = .ok (.iaload, 1) := by decide +kernel
theorem dL_calls_86 : decode cL_calls 86 = .ok (.iconst 1, 1) := by decide +kernel
theorem dL_calls_87 : decode cL_calls 87 = .ok (.iadd, 1) := by decide +kernel
theorem dL_calls_88 : decode cL_calls 88 = .ok (.iastore, 1) := by decide +kernel
theorem dL_calls_89 : decode cL_calls 89 = .ok (.iinc 7 1, 3) := by decide +kernel
theorem dL_calls_92 : decode cL_calls 92 = .ok (.goto (-60), 3) := by decide +kernel
theorem dL_calls_95 : decode cL_calls 95 = .ok (.aload_n 2, 1) := by decide +kernel
theorem dL_calls_96 : decode cL_calls 96 = .ok (.bipush 8, 2) := by decide +kernel
theorem dL_calls_98 : decode cL_calls 98 = .ok (.dup2, 1) := by decide +kernel
theorem dL_calls_99 : decode cL_calls 99 = .ok (.iaload, 1) := by decide +kernel
theorem dL_calls_100 : decode cL_calls 100 = .ok (.iconst 2, 1) := by decide +kernel
theorem dL_calls_101 : decode cL_calls 101 = .ok (.iadd, 1) := by decide +kernel
theorem dL_calls_102 : decode cL_calls 102 = .ok (.iastore, 1) := by decide +kernel
theorem dL_calls_103 : decode cL_calls 103 = .ok (.aload_n 3, 1) := by decide +kernel
theorem dL_calls_104 : decode cL_calls 104 = .ok (.bipush 6, 2) := by decide +kernel
theorem dL_calls_106 : decode cL_calls 106 = .ok (.iload_n 0, 1) := by decide +kernel
theorem dL_calls_107 : decode cL_calls 107 = .ok (.imul, 1) := by decide +kernel
theorem dL_calls_108 : decode cL_calls 108 = .ok (.iconst 2, 1) := by decide +kernel
theorem dL_calls_109 : decode cL_calls 109 = .ok (.iadd, 1) := by decide +kernel
theorem dL_calls_110 : decode cL_calls 110 = .ok (.dup2, 1) := by decide +kernel
theorem dL_calls_111 : decode cL_calls 111 = .ok (.iaload, 1) := by decide +kernel
theorem dL_calls_112 : decode cL_calls 112 = .ok (.iconst 1, 1) := by decide +kernel
theorem dL_calls_113 : decode cL_calls 113 = .ok (.iadd, 1) := by decide +kernel
theorem dL_calls_114 : decode cL_calls 114 = .ok (.iastore, 1) := by decide +kernel
theorem dL_calls_115 : decode cL_calls 115 = .ok (.iload 6, 2) := by decide +kernel
theorem dL_calls_117 : decode cL_calls 117 = .ok (.iconst 0, 1) := by decide +kernel
theorem dL_calls_118 : decode cL_calls 118 = .ok (.aload_n 2, 1) := by decide +kernel
theorem dL_calls_119 : decode cL_calls 119 = .ok (.invokestatic 67, 3) := by decide +kernel
theorem dL_calls_122 : decode cL_calls 122 = .ok (.istore 7, 2) := by decide +kernel
theorem dL_calls_124 : decode cL_calls 124 = .ok (.iload 6, 2) := by decide +kernel
theorem dL_calls_126 : decode cL_calls 126 = .ok (.iconst 1, 1) := by decide +kernel
theorem dL_calls_127 : decode cL_calls 127 = .ok (.aload_n 2, 1) := by decide +kernel
theorem dL_calls_128 : decode cL_calls 128 = .ok (.invokestatic 67, 3) := by decide +kernel
theorem dL_calls_131 : decode cL_calls 131 = .ok (.istore 8, 2) := by decide +kernel
theorem dL_calls_133 : decode cL_calls 133 = .ok (.iload 7, 2) := by decide +kernel
theorem dL_calls_135 : decode cL_calls 135 = .ok (.iload 8, 2) := by decide +kernel
theorem dL_calls_137 : decode cL_calls 137 = .ok (.if_icmp .ge 8, 3) := by decide +kernel
theorem dL_calls_140 : decode cL_calls 140 = .ok (.iload 7, 2) := by decide +kernel
theorem dL_calls_142 : decode cL_calls 142 = .ok (.goto 5, 3) := by decide +kernel
theorem dL_calls_145 : decode cL_calls 145 = .ok (.iload 8, 2) := by decide +kernel
theorem dL_calls_147 : decode cL_calls 147 = .ok (.ireturn, 1) := by decide +kernel
theorem dL_comes_0 : decode cL_comes 0 = .ok (.iconst 0, 1) := by decide +kernel
theorem dL_comes_1 : decode cL_comes 1 = .ok (.istore 4, 2) := by decide +kernel
theorem dL_comes_3 : decode cL_comes 3 = .ok (.iconst 0, 1) := by decide +kernel
theorem dL_comes_4 : decode cL_comes 4 = .ok (.istore 5, 2) := by decide +kernel
theorem dL_comes_6 : decode cL_comes 6 = .ok (.aload_n 0, 1) := by decide +kernel
theorem dL_comes_7 : decode cL_comes 7 = .ok (.iconst 5, 1) := by decide +kernel
theorem dL_comes_8 : decode cL_comes 8 = .ok (.iaload, 1) := by decide +kernel
theorem dL_comes_9 : decode cL_comes 9 = .ok (.istore 6, 2) := by decide +kernel
theorem dL_comes_11 : decode cL_comes 11 = .ok (.aload_n 0, 1) := by decide +kernel
theorem dL_comes_12 : decode cL_comes 12 = .ok (.bipush 6, 2) := by decide +kernel
theorem dL_comes_14 : decode cL_comes 14 = .ok (.iaload, 1) := by decide +kernel
theorem dL_comes_15 : decode cL_comes 15 = .ok (.istore 7, 2) := by decide +kernel
theorem dL_comes_17 : decode cL_comes 17 = .ok (.iconst 0, 1) := by decide +kernel
theorem dL_comes_18 : decode cL_comes 18 = .ok (.istore 8, 2) := by decide +kernel
theorem dL_comes_20 : decode cL_comes 20 = .ok (.iload 8, 2) := by decide +kernel
theorem dL_comes_22 : decode cL_comes 22 = .ok (.aload_n 0, 1) := by decide +kernel
theorem dL_comes_23 : decode cL_comes 23 = .ok (.bipush 9, 2) := by decide +kernel
theorem dL_comes_25 : decode cL_comes 25 = .ok (.iaload, 1) := by decide +kernel
theorem dL_comes_26 : decode cL_comes 26 = .ok (.if_icmp .ge 215, 3) := by decide +kernel
theorem dL_comes_29 : decode cL_comes 29 = .ok (.aload_n 3, 1) := by decide +kernel
theorem dL_comes_30 : decode cL_comes 30 = .ok (.iload 8, 2) := by decide +kernel
theorem dL_comes_32 : decode cL_comes 32 = .ok (.iaload, 1) := by decide +kernel
theorem dL_comes_33 : decode cL_comes 33 = .ok (.bipush 100, 2) := by decide +kernel
theorem dL_comes_35 : decode cL_comes 35 = .ok (.idiv, 1) := by decide +kernel
theorem dL_comes_36 : decode cL_comes 36 = .ok (.istore 9, 2) := by decide +kernel
theorem dL_comes_38 : decode cL_comes 38 = .ok (.aload_n 3, 1) := by decide +kernel
theorem dL_comes_39 : decode cL_comes 39 = .ok (.iload 8, 2) := by decide +kernel
theorem dL_comes_41 : decode cL_comes 41 = .ok (.iaload, 1) := by decide +kernel
theorem dL_comes_42 : decode cL_comes 42 = .ok (.bipush 10, 2) := by decide +kernel
theorem dL_comes_44 : decode cL_comes 44 = .ok (.idiv, 1) := by decide +kernel
theorem dL_comes_45 : decode cL_comes 45 = .ok (.bipush 10, 2) := by decide +kernel
theorem dL_comes_47 : decode cL_comes 47 = .ok (.irem, 1) := by decide +kernel
theorem dL_comes_48 : decode cL_comes 48 = .ok (.istore 10, 2) := by decide +kernel
theorem dL_comes_50 : decode cL_comes 50 = .ok (.aload_n 2, 1) := by decide +kernel
theorem dL_comes_51 : decode cL_comes 51 = .ok (.iload 8, 2) := by decide +kernel
theorem dL_comes_53 : decode cL_comes 53 = .ok (.iaload, 1) := by decide +kernel
theorem dL_comes_54 : decode cL_comes 54 = .ok (.iconst 2, 1) := by decide +kernel
theorem dL_comes_55 : decode cL_comes 55 = .ok (.idiv, 1) := by decide +kernel
theorem dL_comes_56 : decode cL_comes 56 = .ok (.aload_n 0, 1) := by decide +kernel
theorem dL_comes_57 : decode cL_comes 57 = .ok (.iconst 3, 1) := by decide +kernel
theorem dL_comes_58 : decode cL_comes 58 = .ok (.iaload, 1) := by decide +kernel
theorem dL_comes_59 : decode cL_comes 59 = .ok (.if_icmp .ne 176, 3) := by decide +kernel
theorem dL_comes_62 : decode cL_comes 62 = .ok (.iload 9, 2) := by decide +kernel
theorem dL_comes_64 : decode cL_comes 64 = .ok (.aload_n 0, 1) := by decide +kernel
theorem dL_comes_65 : decode cL_comes 65 = .ok (.iconst 3, 1) := by decide +kernel
theorem dL_comes_66 : decode cL_comes 66 = .ok (.iaload, 1) := by decide +kernel
theorem dL_comes_67 : decode cL_comes 67 = .ok (.aload_n 0, 1) := by decide +kernel
theorem dL_comes_68 : decode cL_comes 68 = .ok (.aload_n 2, 1) := by decide +kernel
theorem dL_comes_69 : decode cL_comes 69 = .ok (.aload_n 3, 1) := by decide +kernel
theorem dL_comes_70 : decode cL_comes 70 = .ok (.invokestatic 71, 3) := by decide +kernel
theorem dL_comes_73 : decode cL_comes 73 = .ok (.iconst 1, 1) := by decide +kernel
theorem dL_comes_74 : decode cL_comes 74 = .ok (.if_icmp .le 7, 3) := by decide +kernel
theorem dL_comes_77 : decode cL_comes 77 = .ok (.iconst 4, 1) := by decide +kernel
theorem dL_comes_78 : decode cL_comes 78 = .ok (.goto 20, 3) := by decide +kernel
theorem dL_comes_81 : decode cL_comes 81 = .ok (.aload_n 1, 1) := by decide +kernel
theorem dL_comes_82 : decode cL_comes 82 = .ok (.bipush 6, 2) := by decide +kernel
theorem dL_comes_84 : decode cL_comes 84 = .ok (.iload 10, 2) := by decide +kernel
theorem dL_comes_86 : decode cL_comes 86 = .ok (.imul, 1) := by decide +kernel
theorem dL_comes_87 : decode cL_comes 87 = .ok (.iaload, 1) := by decide +kernel
theorem dL_comes_88 : decode cL_comes 88 = .ok (.iload 9, 2) := by decide +kernel
theorem dL_comes_90 : decode cL_comes 90 = .ok (.if_icmp .ne 7, 3) := by decide +kernel
theorem dL_comes_93 : decode cL_comes 93 = .ok (.iconst 3, 1) := by decide +kernel
theorem dL_comes_94 : decode cL_comes 94 = .ok (.goto 4, 3) := by decide +kernel
theorem dL_comes_97 : decode cL_comes 97 = .ok (.iconst 5, 1) := by decide +kernel
theorem dL_comes_98 : decode cL_comes 98 = .ok (.istore 11, 2) := by decide +kernel
theorem dL_comes_100 : decode cL_comes 100 = .ok (.aload_n 1, 1) := by decide +kernel
theorem dL_comes_101 : decode cL_comes 101 = .ok (.bipush 6, 2) := by decide +kernel
theorem dL_comes_103 : decode cL_comes 103 = .ok (.iload 10, 2) := by decide +kernel
theorem dL_comes_105 : decode cL_comes 105 = .ok (.imul, 1) := by decide +kernel
theorem dL_comes_106 : decode cL_comes 106 = .ok (.iload 11, 2) := by decide +kernel
theorem dL_comes_108 : decode cL_comes 108 = .ok (.iadd, 1) := by decide +kernel
theorem dL_comes_109 : decode cL_comes 109 = .ok (.dup2, 1) := by decide +kernel
theorem dL_comes_110 : decode cL_comes 110 = .ok (.iaload, 1) := by decide +kernel
theorem dL_comes_111 : decode cL_comes 111 = .ok (.iconst 1, 1) := by decide +kernel
theorem dL_comes_112 : decode cL_comes 112 = .ok (.iadd, 1) := by decide +kernel
theorem dL_comes_113 : decode cL_comes 113 = .ok (.iastore, 1) := by decide +kernel
theorem dL_comes_114 : decode cL_comes 114 = .ok (.iload 11, 2) := by decide +kernel
theorem dL_comes_116 : decode cL_comes 116 = .ok (.iconst 3, 1) := by decide +kernel
theorem dL_comes_117 : decode cL_comes 117 = .ok (.if_icmp .ne 118, 3) := by decide +kernel
theorem dL_comes_120 : decode cL_comes 120 = .ok (.aload_n 0, 1) := by decide +kernel
theorem dL_comes_121 : decode cL_comes 121 = .ok (.iconst 4, 1) := by decide +kernel
theorem dL_comes_122 : decode cL_comes 122 = .ok (.iaload, 1) := by decide +kernel
theorem dL_comes_123 : decode cL_comes 123 = .ok (.iload 9, 2) := by decide +kernel
theorem dL_comes_125 : decode cL_comes 125 = .ok (.if_icmp .ne 110, 3) := by decide +kernel
theorem dL_comes_128 : decode cL_comes 128 = .ok (.aload_n 3, 1) := by decide +kernel
theorem dL_comes_129 : decode cL_comes 129 = .ok (.iload 8, 2) := by decide +kernel
theorem dL_comes_131 : decode cL_comes 131 = .ok (.iaload, 1) := by decide +kernel
theorem dL_comes_132 : decode cL_comes 132 = .ok (.bipush 10, 2) := by decide +kernel
theorem dL_comes_134 : decode cL_comes 134 = .ok (.irem, 1) := by decide +kernel
theorem dL_comes_135 : decode cL_comes 135 = .ok (.istore 12, 2) := by decide +kernel
theorem dL_comes_137 : decode cL_comes 137 = .ok (.aload_n 1, 1) := by decide +kernel
theorem dL_comes_138 : decode cL_comes 138 = .ok (.bipush 6, 2) := by decide +kernel
theorem dL_comes_140 : decode cL_comes 140 = .ok (.iload 10, 2) := by decide +kernel
theorem dL_comes_142 : decode cL_comes 142 = .ok (.imul, 1) := by decide +kernel
theorem dL_comes_143 : decode cL_comes 143 = .ok (.iconst 1, 1) := by decide +kernel
theorem dL_comes_144 : decode cL_comes 144 = .ok (.iadd, 1) := by decide +kernel
theorem dL_comes_145 : decode cL_comes 145 = .ok (.dup2, 1) := by decide +kernel
theorem dL_comes_146 : decode cL_comes 146 = .ok (.iaload, 1) := by decide +kernel
theorem dL_comes_147 : decode cL_comes 147 = .ok (.iconst 1, 1) := by decide +kernel
theorem dL_comes_148 : decode cL_comes 148 = .ok (.iadd, 1) := by decide +kernel
theorem dL_comes_149 : decode cL_comes 149 = .ok (.iastore, 1) := by decide +kernel
theorem dL_comes_150 : decode cL_comes 150 = .ok (.iinc 4 1, 3) := by decide +kernel
theorem dL_comes_153 : decode cL_comes 153 = .ok (.iload 12, 2) := by decide +kernel
theorem dL_comes_155 : decode cL_comes 155 = .ok (.iconst 3, 1) := by decide +kernel
theorem dL_comes_156 : decode cL_comes 156 = .ok (.irem, 1) := by decide +kernel
theorem dL_comes_157 : decode cL_comes 157 = .ok (.ifCond .ne 11, 3) := by decide +kernel
theorem dL_comes_160 : decode cL_comes 160 = .ok (.aload_n 0, 1) := by decide +kernel
theorem dL_comes_161 : decode cL_comes 161 = .ok (.bipush 6, 2) := by decide +kernel
theorem dL_comes_163 : decode cL_comes 163 = .ok (.iaload, 1) := by decide +kernel
theorem dL_comes_164 : decode cL_comes 164 = .ok (.ineg, 1) := by decide +kernel
theorem dL_comes_165 : decode cL_comes 165 = .ok (.goto 7, 3) := by decide +kernel
theorem dL_comes_168 : decode cL_comes 168 = .ok (.aload_n 0, 1) := by decide +kernel
theorem dL_comes_169 : decode cL_comes 169 = .ok (.bipush 6, 2) := by decide +kernel
theorem dL_comes_171 : decode cL_comes 171 = .ok (.iaload, 1) := by decide +kernel
theorem dL_comes_172 : decode cL_comes 172 = .ok (.istore 7, 2) := by decide +kernel
theorem dL_comes_174 : decode cL_comes 174 = .ok (.iload 12, 2) := by decide +kernel
theorem dL_comes_176 : decode cL_comes 176 = .ok (.iconst 3, 1) := by decide +kernel
theorem dL_comes_177 : decode cL_comes 177 = .ok (.irem, 1) := by decide +kernel
theorem dL_comes_178 : decode cL_comes 178 = .ok (.iconst 1, 1) := by decide +kernel
theorem dL_comes_179 : decode cL_comes 179 = .ok (.if_icmp .ne 24, 3) := by decide +kernel
theorem dL_comes_182 : decode cL_comes 182 = .ok (.aload_n 0, 1) := by decide +kernel
theorem dL_comes_183 : decode cL_comes 183 = .ok (.iconst 5, 1) := by decide +kernel
theorem dL_comes_184 : decode cL_comes 184 = .ok (.iaload, 1) := by decide +kernel
theorem dL_comes_185 : decode cL_comes 185 = .ok (.bipush 9, 2) := by decide +kernel
theorem dL_comes_187 : decode cL_comes 187 = .ok (.if_icmp .ne 8, 3) := by decide +kernel
theorem dL_comes_190 : decode cL_comes 190 = .ok (.bipush 9, 2) := by decide +kernel
theorem dL_comes_192 : decode cL_comes 192 = .ok (.goto 41, 3) := by decide +kernel
theorem dL_comes_195 : decode cL_comes 195 = .ok (.aload_n 0, 1) := by decide +kernel
theorem dL_comes_196 : decode cL_comes 196 = .ok (.iconst 5, 1) := by decide +kernel
theorem dL_comes_197 : decode cL_comes 197 = .ok (.iaload, 1) := by decide +kernel
theorem dL_comes_198 : decode cL_comes 198 = .ok (.iconst 1, 1) := by decide +kernel
theorem dL_comes_199 : decode cL_comes 199 = .ok (.iadd, 1) := by decide +kernel
theorem dL_comes_200 : decode cL_comes 200 = .ok (.goto 33, 3) := by decide +kernel
theorem dL_comes_203 : decode cL_comes 203 = .ok (.iload 12, 2) := by decide +kernel
theorem dL_comes_205 : decode cL_comes 205 = .ok (.iconst 3, 1) := by decide +kernel
theorem dL_comes_206 : decode cL_comes 206 = .ok (.irem, 1) := by decide +kernel
theorem dL_comes_207 : decode cL_comes 207 = .ok (.iconst 2, 1) := by decide +kernel
theorem dL_comes_208 : decode cL_comes 208 = .ok (.if_icmp .ne 22, 3) := by decide +kernel
theorem dL_comes_211 : decode cL_comes 211 = .ok (.aload_n 0, 1) := by decide +kernel
theorem dL_comes_212 : decode cL_comes 212 = .ok (.iconst 5, 1) := by decide +kernel
theorem dL_comes_213 : decode cL_comes 213 = .ok (.iaload, 1) := by decide +kernel
theorem dL_comes_214 : decode cL_comes 214 = .ok (.iconst 1, 1) := by decide +kernel
theorem dL_comes_215 : decode cL_comes 215 = .ok (.if_icmp .ne 7, 3) := by decide +kernel
theorem dL_comes_218 : decode cL_comes 218 = .ok (.iconst 1, 1) := by decide +kernel
theorem dL_comes_219 : decode cL_comes 219 = .ok (.goto 14, 3) := by decide +kernel
theorem dL_comes_222 : decode cL_comes 222 = .ok (.aload_n 0, 1) := by decide +kernel
theorem dL_comes_223 : decode cL_comes 223 = .ok (.iconst 5, 1) := by decide +kernel
theorem dL_comes_224 : decode cL_comes 224 = .ok (.iaload, 1) := by decide +kernel
theorem dL_comes_225 : decode cL_comes 225 = .ok (.iconst 1, 1) := by decide +kernel
theorem dL_comes_226 : decode cL_comes 226 = .ok (.isub, 1) := by decide +kernel
theorem dL_comes_227 : decode cL_comes 227 = .ok (.goto 6, 3) := by decide +kernel
theorem dL_comes_230 : decode cL_comes 230 = .ok (.aload_n 0, 1) := by decide +kernel
theorem dL_comes_231 : decode cL_comes 231 = .ok (.iconst 5, 1) := by decide +kernel
theorem dL_comes_232 : decode cL_comes 232 = .ok (.iaload, 1) := by decide +kernel
theorem dL_comes_233 : decode cL_comes 233 = .ok (.istore 6, 2) := by decide +kernel
theorem dL_comes_235 : decode cL_comes 235 = .ok (.iinc 8 1, 3) := by decide +kernel
theorem dL_comes_238 : decode cL_comes 238 = .ok (.goto (-218), 3) := by decide +kernel
theorem dL_comes_241 : decode cL_comes 241 = .ok (.iconst 0, 1) := by decide +kernel
theorem dL_comes_242 : decode cL_comes 242 = .ok (.istore 8, 2) := by decide +kernel
theorem dL_comes_244 : decode cL_comes 244 = .ok (.iload 8, 2) := by decide +kernel
theorem dL_comes_246 : decode cL_comes 246 = .ok (.aload_n 0, 1) := by decide +kernel
theorem dL_comes_247 : decode cL_comes 247 = .ok (.bipush 9, 2) := by decide +kernel
theorem dL_comes_249 : decode cL_comes 249 = .ok (.iaload, 1) := by decide +kernel
theorem dL_comes_250 : decode cL_comes 250 = .ok (.if_icmp .ge 40, 3) := by decide +kernel
theorem dL_comes_253 : decode cL_comes 253 = .ok (.aload_n 2, 1) := by decide +kernel
theorem dL_comes_254 : decode cL_comes 254 = .ok (.iload 8, 2) := by decide +kernel
theorem dL_comes_256 : decode cL_comes 256 = .ok (.iaload, 1) := by decide +kernel
theorem dL_comes_257 : decode cL_comes 257 = .ok (.iconst 2, 1) := by decide +kernel
theorem dL_comes_258 : decode cL_comes 258 = .ok (.idiv, 1) := by decide +kernel
theorem dL_comes_259 : decode cL_comes 259 = .ok (.aload_n 0, 1) := by decide +kernel
theorem dL_comes_260 : decode cL_comes 260 = .ok (.iconst 3, 1) := by decide +kernel
theorem dL_comes_261 : decode cL_comes 261 = .ok (.iaload, 1) := by decide +kernel
theorem dL_comes_262 : decode cL_comes 262 = .ok (.if_icmp .eq 22, 3) := by decide +kernel
theorem dL_comes_265 : decode cL_comes 265 = .ok (.aload_n 2, 1) := by decide +kernel
theorem dL_comes_266 : decode cL_comes 266 = .ok (.iload 5, 2) := by decide +kernel
theorem dL_comes_268 : decode cL_comes 268 = .ok (.aload_n 2, 1) := by decide +kernel
theorem dL_comes_269 : decode cL_comes 269 = .ok (.iload 8, 2) := by decide +kernel
theorem dL_comes_271 : decode cL_comes 271 = .ok (.iaload, 1) := by decide +kernel
theorem dL_comes_272 : decode cL_comes 272 = .ok (.iastore, 1) := by decide +kernel
theorem dL_comes_273 : decode cL_comes 273 = .ok (.aload_n 3, 1) := by decide +kernel
theorem dL_comes_274 : decode cL_comes 274 = .ok (.iload 5, 2) := by decide +kernel
theorem dL_comes_276 : decode cL_comes 276 = .ok (.aload_n 3, 1) := by decide +kernel
theorem dL_comes_277 : decode cL_comes 277 = .ok (.iload 8, 2) := by decide +kernel
theorem dL_comes_279 : decode cL_comes 279 = .ok (.iaload, 1) := by decide +kernel
theorem dL_comes_280 : decode cL_comes 280 = .ok (.iastore, 1) := by decide +kernel
theorem dL_comes_281 : decode cL_comes 281 = .ok (.iinc 5 1, 3) := by decide +kernel
theorem dL_comes_284 : decode cL_comes 284 = .ok (.iinc 8 1, 3) := by decide +kernel
theorem dL_comes_287 : decode cL_comes 287 = .ok (.goto (-43), 3) := by decide +kernel
theorem dL_comes_290 : decode cL_comes 290 = .ok (.aload_n 0, 1) := by decide +kernel
theorem dL_comes_291 : decode cL_comes 291 = .ok (.bipush 9, 2) := by decide +kernel
theorem dL_comes_293 : decode cL_comes 293 = .ok (.iload 5, 2) := by decide +kernel
theorem dL_comes_295 : decode cL_comes 295 = .ok (.iastore, 1) := by decide +kernel
theorem dL_comes_296 : decode cL_comes 296 = .ok (.aload_n 0, 1) := by decide +kernel
theorem dL_comes_297 : decode cL_comes 297 = .ok (.iconst 5, 1) := by decide +kernel
theorem dL_comes_298 : decode cL_comes 298 = .ok (.iload 6, 2) := by decide +kernel
theorem dL_comes_300 : decode cL_comes 300 = .ok (.iastore, 1) := by decide +kernel
theorem dL_comes_301 : decode cL_comes 301 = .ok (.aload_n 0, 1) := by decide +kernel
theorem dL_comes_302 : decode cL_comes 302 = .ok (.bipush 6, 2) := by decide +kernel
theorem dL_comes_304 : decode cL_comes 304 = .ok (.iload 7, 2) := by decide +kernel
theorem dL_comes_306 : decode cL_comes 306 = .ok (.iastore, 1) := by decide +kernel
theorem dL_comes_307 : decode cL_comes 307 = .ok (.iload 4, 2) := by decide +kernel
theorem dL_comes_309 : decode cL_comes 309 = .ok (.ireturn, 1) := by decide +kernel
theorem dL_moves_0 : decode cL_moves 0 = .ok (.iconst 0, 1) := by decide +kernel
theorem dL_moves_1 : decode cL_moves 1 = .ok (.istore_n 2, 1) := by decide +kernel
theorem dL_moves_2 : decode cL_moves 2 = .ok (.iload_n 2, 1) := by decide +kernel
theorem dL_moves_3 : decode cL_moves 3 = .ok (.iload_n 0, 1) := by decide +kernel
theorem dL_moves_4 : decode cL_moves 4 = .ok (.if_icmp .ge 55, 3) := by decide +kernel
theorem dL_moves_7 : decode cL_moves 7 = .ok (.aload_n 1, 1) := by decide +kernel
theorem dL_moves_8 : decode cL_moves 8 = .ok (.iconst 4, 1) := by decide +kernel
theorem dL_moves_9 : decode cL_moves 9 = .ok (.iaload, 1) := by decide +kernel
theorem dL_moves_10 : decode cL_moves 10 = .ok (.aload_n 1, 1) := by decide +kernel
theorem dL_moves_11 : decode cL_moves 11 = .ok (.bipush 6, 2) := by decide +kernel
theorem dL_moves_13 : decode cL_moves 13 = .ok (.iaload, 1) := by decide +kernel
theorem dL_moves_14 : decode cL_moves 14 = .ok (.iadd, 1) := by decide +kernel
theorem dL_moves_15 : decode cL_moves 15 = .ok (.istore_n 3, 1) := by decide +kernel
theorem dL_moves_16 : decode cL_moves 16 = .ok (.aload_n 1, 1) := by decide +kernel
theorem dL_moves_17 : decode cL_moves 17 = .ok (.bipush 6, 2) := by decide +kernel
theorem dL_moves_19 : decode cL_moves 19 = .ok (.iload_n 3, 1) := by decide +kernel
theorem dL_moves_20 : decode cL_moves 20 = .ok (.ifCond .lt 10, 3) := by decide +kernel
theorem dL_moves_23 : decode cL_moves 23 = .ok (.iload_n 3, 1) := by decide +kernel
theorem dL_moves_24 : decode cL_moves 24 = .ok (.aload_n 1, 1) := by decide +kernel
theorem dL_moves_25 : decode cL_moves 25 = .ok (.iconst 0, 1) := by decide +kernel
theorem dL_moves_26 : decode cL_moves 26 = .ok (.iaload, 1) := by decide +kernel
theorem dL_moves_27 : decode cL_moves 27 = .ok (.if_icmp .le 11, 3) := by decide +kernel
theorem dL_moves_30 : decode cL_moves 30 = .ok (.aload_n 1, 1) := by decide +kernel
theorem dL_moves_31 : decode cL_moves 31 = .ok (.bipush 6, 2) := by decide +kernel
theorem dL_moves_33 : decode cL_moves 33 = .ok (.iaload, 1) := by decide +kernel
theorem dL_moves_34 : decode cL_moves 34 = .ok (.ineg, 1) := by decide +kernel
theorem dL_moves_35 : decode cL_moves 35 = .ok (.goto 7, 3) := by decide +kernel
theorem dL_moves_38 : decode cL_moves 38 = .ok (.aload_n 1, 1) := by decide +kernel
theorem dL_moves_39 : decode cL_moves 39 = .ok (.bipush 6, 2) := by decide +kernel
theorem dL_moves_41 : decode cL_moves 41 = .ok (.iaload, 1) := by decide +kernel
theorem dL_moves_42 : decode cL_moves 42 = .ok (.iastore, 1) := by decide +kernel
theorem dL_moves_43 : decode cL_moves 43 = .ok (.aload_n 1, 1) := by decide +kernel
theorem dL_moves_44 : decode cL_moves 44 = .ok (.iconst 4, 1) := by decide +kernel
theorem dL_moves_45 : decode cL_moves 45 = .ok (.dup2, 1) := by decide +kernel
theorem dL_moves_46 : decode cL_moves 46 = .ok (.iaload, 1) := by decide +kernel
theorem dL_moves_47 : decode cL_moves 47 = .ok (.aload_n 1, 1) := by decide +kernel
theorem dL_moves_48 : decode cL_moves 48 = .ok (.bipush 6, 2) := by decide +kernel
theorem dL_moves_50 : decode cL_moves 50 = .ok (.iaload, 1) := by decide +kernel
theorem dL_moves_51 : decode cL_moves 51 = .ok (.iadd, 1) := by decide +kernel
theorem dL_moves_52 : decode cL_moves 52 = .ok (.iastore, 1) := by decide +kernel
theorem dL_moves_53 : decode cL_moves 53 = .ok (.iinc 2 1, 3) := by decide +kernel
theorem dL_moves_56 : decode cL_moves 56 = .ok (.goto (-54), 3) := by decide +kernel
theorem dL_moves_59 : decode cL_moves 59 = .ok (.return_, 1) := by decide +kernel
theorem dL_passes_0 : decode cL_passes 0 = .ok (.iconst 0, 1) := by decide +kernel
theorem dL_passes_1 : decode cL_passes 1 = .ok (.istore 5, 2) := by decide +kernel
theorem dL_passes_3 : decode cL_passes 3 = .ok (.iconst 0, 1) := by decide +kernel
theorem dL_passes_4 : decode cL_passes 4 = .ok (.istore 6, 2) := by decide +kernel
theorem dL_passes_6 : decode cL_passes 6 = .ok (.iload 6, 2) := by decide +kernel
theorem dL_passes_8 : decode cL_passes 8 = .ok (.iload_n 0, 1) := by decide +kernel
theorem dL_passes_9 : decode cL_passes 9 = .ok (.if_icmp .ge 36, 3) := by decide +kernel
theorem dL_passes_12 : decode cL_passes 12 = .ok (.aload_n 1, 1) := by decide +kernel
theorem dL_passes_13 : decode cL_passes 13 = .ok (.iconst 3, 1) := by decide +kernel
theorem dL_passes_14 : decode cL_passes 14 = .ok (.dup2, 1) := by decide +kernel
theorem dL_passes_15 : decode cL_passes 15 = .ok (.iaload, 1) := by decide +kernel
theorem dL_passes_16 : decode cL_passes 16 = .ok (.iconst 1, 1) := by decide +kernel
theorem dL_passes_17 : decode cL_passes 17 = .ok (.iadd, 1) := by decide +kernel
theorem dL_passes_18 : decode cL_passes 18 = .ok (.iastore, 1) := by decide +kernel
theorem dL_passes_19 : decode cL_passes 19 = .ok (.aload_n 1, 1) := by decide +kernel
theorem dL_passes_20 : decode cL_passes 20 = .ok (.iconst 5, 1) := by decide +kernel
theorem dL_passes_21 : decode cL_passes 21 = .ok (.iaload, 1) := by decide +kernel
theorem dL_passes_22 : decode cL_passes 22 = .ok (.aload_n 1, 1) := by decide +kernel
theorem dL_passes_23 : decode cL_passes 23 = .ok (.invokestatic 75, 3) := by decide +kernel
theorem dL_passes_26 : decode cL_passes 26 = .ok (.iload 5, 2) := by decide +kernel
theorem dL_passes_28 : decode cL_passes 28 = .ok (.aload_n 1, 1) := by decide +kernel
theorem dL_passes_29 : decode cL_passes 29 = .ok (.aload_n 2, 1) := by decide +kernel
theorem dL_passes_30 : decode cL_passes 30 = .ok (.aload_n 3, 1) := by decide +kernel
theorem dL_passes_31 : decode cL_passes 31 = .ok (.aload 4, 2) := by decide +kernel
theorem dL_passes_33 : decode cL_passes 33 = .ok (.invokestatic 79, 3) := by decide +kernel
theorem dL_passes_36 : decode cL_passes 36 = .ok (.iadd, 1) := by decide +kernel
theorem dL_passes_37 : decode cL_passes 37 = .ok (.istore 5, 2) := by decide +kernel
theorem dL_passes_39 : decode cL_passes 39 = .ok (.iinc 6 1, 3) := by decide +kernel
theorem dL_passes_42 : decode cL_passes 42 = .ok (.goto (-36), 3) := by decide +kernel
theorem dL_passes_45 : decode cL_passes 45 = .ok (.iload 5, 2) := by decide +kernel
theorem dL_passes_47 : decode cL_passes 47 = .ok (.ireturn, 1) := by decide +kernel
theorem dL_hasRoom_0 : decode cL_hasRoom 0 = .ok (.aload_n 1, 1) := by decide +kernel
theorem dL_hasRoom_1 : decode cL_hasRoom 1 = .ok (.iconst 4, 1) := by decide +kernel
theorem dL_hasRoom_2 : decode cL_hasRoom 2 = .ok (.iaload, 1) := by decide +kernel
theorem dL_hasRoom_3 : decode cL_hasRoom 3 = .ok (.iload_n 0, 1) := by decide +kernel
theorem dL_hasRoom_4 : decode cL_hasRoom 4 = .ok (.if_icmp .gt 7, 3) := by decide +kernel
theorem dL_hasRoom_7 : decode cL_hasRoom 7 = .ok (.iconst 1, 1) := by decide +kernel
theorem dL_hasRoom_8 : decode cL_hasRoom 8 = .ok (.goto 4, 3) := by decide +kernel
theorem dL_hasRoom_11 : decode cL_hasRoom 11 = .ok (.iconst 0, 1) := by decide +kernel
theorem dL_hasRoom_12 : decode cL_hasRoom 12 = .ok (.istore 4, 2) := by decide +kernel
theorem dL_hasRoom_14 : decode cL_hasRoom 14 = .ok (.iconst 0, 1) := by decide +kernel
theorem dL_hasRoom_15 : decode cL_hasRoom 15 = .ok (.istore 5, 2) := by decide +kernel
theorem dL_hasRoom_17 : decode cL_hasRoom 17 = .ok (.iload 5, 2) := by decide +kernel
theorem dL_hasRoom_19 : decode cL_hasRoom 19 = .ok (.iconst 4, 1) := by decide +kernel
theorem dL_hasRoom_20 : decode cL_hasRoom 20 = .ok (.if_icmp .ge 32, 3) := by decide +kernel
theorem dL_hasRoom_23 : decode cL_hasRoom 23 = .ok (.iload 4, 2) := by decide +kernel
theorem dL_hasRoom_25 : decode cL_hasRoom 25 = .ok (.ifCond .eq 18, 3) := by decide +kernel
theorem dL_hasRoom_28 : decode cL_hasRoom 28 = .ok (.aload_n 2, 1) := by decide +kernel
theorem dL_hasRoom_29 : decode cL_hasRoom 29 = .ok (.bipush 6, 2) := by decide +kernel
theorem dL_hasRoom_31 : decode cL_hasRoom 31 = .ok (.iload 5, 2) := by decide +kernel
theorem dL_hasRoom_33 : decode cL_hasRoom 33 = .ok (.imul, 1) := by decide +kernel
theorem dL_hasRoom_34 : decode cL_hasRoom 34 = .ok (.iaload, 1) := by decide +kernel
theorem dL_hasRoom_35 : decode cL_hasRoom 35 = .ok (.iload_n 0, 1) := by decide +kernel
theorem dL_hasRoom_36 : decode cL_hasRoom 36 = .ok (.if_icmp .gt 7, 3) := by decide +kernel
theorem dL_hasRoom_39 : decode cL_hasRoom 39 = .ok (.iconst 1, 1) := by decide +kernel
theorem dL_hasRoom_40 : decode cL_hasRoom 40 = .ok (.goto 4, 3) := by decide +kernel
theorem dL_hasRoom_43 : decode cL_hasRoom 43 = .ok (.iconst 0, 1) := by decide +kernel
theorem dL_hasRoom_44 : decode cL_hasRoom 44 = .ok (.istore 4, 2) := by decide +kernel
theorem dL_hasRoom_46 : decode cL_hasRoom 46 = .ok (.iinc 5 1, 3) := by decide +kernel
theorem dL_hasRoom_49 : decode cL_hasRoom 49 = .ok (.goto (-32), 3) := by decide +kernel
theorem dL_hasRoom_52 : decode cL_hasRoom 52 = .ok (.iconst 0, 1) := by decide +kernel
theorem dL_hasRoom_53 : decode cL_hasRoom 53 = .ok (.istore 5, 2) := by decide +kernel
theorem dL_hasRoom_55 : decode cL_hasRoom 55 = .ok (.iload 5, 2) := by decide +kernel
theorem dL_hasRoom_57 : decode cL_hasRoom 57 = .ok (.aload_n 1, 1) := by decide +kernel
theorem dL_hasRoom_58 : decode cL_hasRoom 58 = .ok (.bipush 9, 2) := by decide +kernel
theorem dL_hasRoom_60 : decode cL_hasRoom 60 = .ok (.iaload, 1) := by decide +kernel
theorem dL_hasRoom_61 : decode cL_hasRoom 61 = .ok (.if_icmp .ge 32, 3) := by decide +kernel
theorem dL_hasRoom_64 : decode cL_hasRoom 64 = .ok (.iload 4, 2) := by decide +kernel
theorem dL_hasRoom_66 : decode cL_hasRoom 66 = .ok (.ifCond .eq 18, 3) := by decide +kernel
theorem dL_hasRoom_69 : decode cL_hasRoom 69 = .ok (.aload_n 3, 1) := by decide +kernel
theorem dL_hasRoom_70 : decode cL_hasRoom 70 = .ok (.iload 5, 2) := by decide +kernel
theorem dL_hasRoom_72 : decode cL_hasRoom 72 = .ok (.iaload, 1) := by decide +kernel
theorem dL_hasRoom_73 : decode cL_hasRoom 73 = .ok (.bipush 100, 2) := by decide +kernel
theorem dL_hasRoom_75 : decode cL_hasRoom 75 = .ok (.idiv, 1) := by decide +kernel
theorem dL_hasRoom_76 : decode cL_hasRoom 76 = .ok (.iload_n 0, 1) := by decide +kernel
theorem dL_hasRoom_77 : decode cL_hasRoom 77 = .ok (.if_icmp .gt 7, 3) := by decide +kernel
theorem dL_hasRoom_80 : decode cL_hasRoom 80 = .ok (.iconst 1, 1) := by decide +kernel
theorem dL_hasRoom_81 : decode cL_hasRoom 81 = .ok (.goto 4, 3) := by decide +kernel
theorem dL_hasRoom_84 : decode cL_hasRoom 84 = .ok (.iconst 0, 1) := by decide +kernel
theorem dL_hasRoom_85 : decode cL_hasRoom 85 = .ok (.istore 4, 2) := by decide +kernel
theorem dL_hasRoom_87 : decode cL_hasRoom 87 = .ok (.iinc 5 1, 3) := by decide +kernel
theorem dL_hasRoom_90 : decode cL_hasRoom 90 = .ok (.goto (-35), 3) := by decide +kernel
theorem dL_hasRoom_93 : decode cL_hasRoom 93 = .ok (.iload 4, 2) := by decide +kernel
theorem dL_hasRoom_95 : decode cL_hasRoom 95 = .ok (.ireturn, 1) := by decide +kernel
theorem dL_told_0 : decode cL_told 0 = .ok (.ldc2_w 83, 3) := by decide +kernel
theorem dL_told_3 : decode cL_told 3 = .ok (.lstore_n 1, 1) := by decide +kernel
theorem dL_told_4 : decode cL_told 4 = .ok (.iconst 0, 1) := by decide +kernel
theorem dL_told_5 : decode cL_told 5 = .ok (.istore_n 3, 1) := by decide +kernel
theorem dL_told_6 : decode cL_told 6 = .ok (.iload_n 3, 1) := by decide +kernel
theorem dL_told_7 : decode cL_told 7 = .ok (.bipush 11, 2) := by decide +kernel
theorem dL_told_9 : decode cL_told 9 = .ok (.if_icmp .ge 22, 3) := by decide +kernel
theorem dL_told_12 : decode cL_told 12 = .ok (.ldc2_w 85, 3) := by decide +kernel
theorem dL_told_15 : decode cL_told 15 = .ok (.lload_n 1, 1) := by decide +kernel
theorem dL_told_16 : decode cL_told 16 = .ok (.lmul, 1) := by decide +kernel
theorem dL_told_17 : decode cL_told 17 = .ok (.aload_n 0, 1) := by decide +kernel
theorem dL_told_18 : decode cL_told 18 = .ok (.iload_n 3, 1) := by decide +kernel
theorem dL_told_19 : decode cL_told 19 = .ok (.invokestatic 87, 3) := by decide +kernel
theorem dL_told_22 : decode cL_told 22 = .ok (.i2l, 1) := by decide +kernel
theorem dL_told_23 : decode cL_told 23 = .ok (.ladd, 1) := by decide +kernel
theorem dL_told_24 : decode cL_told 24 = .ok (.lstore_n 1, 1) := by decide +kernel
theorem dL_told_25 : decode cL_told 25 = .ok (.iinc 3 1, 3) := by decide +kernel
theorem dL_told_28 : decode cL_told 28 = .ok (.goto (-22), 3) := by decide +kernel
theorem dL_told_31 : decode cL_told 31 = .ok (.iconst 0, 1) := by decide +kernel
theorem dL_told_32 : decode cL_told 32 = .ok (.istore_n 3, 1) := by decide +kernel
theorem dL_told_33 : decode cL_told 33 = .ok (.iload_n 3, 1) := by decide +kernel
theorem dL_told_34 : decode cL_told 34 = .ok (.iconst 4, 1) := by decide +kernel
theorem dL_told_35 : decode cL_told 35 = .ok (.if_icmp .ge 40, 3) := by decide +kernel
theorem dL_told_38 : decode cL_told 38 = .ok (.iconst 0, 1) := by decide +kernel
theorem dL_told_39 : decode cL_told 39 = .ok (.istore 4, 2) := by decide +kernel
theorem dL_told_41 : decode cL_told 41 = .ok (.iload 4, 2) := by decide +kernel
theorem dL_told_43 : decode cL_told 43 = .ok (.bipush 7, 2) := by decide +kernel
theorem dL_told_45 : decode cL_told 45 = .ok (.if_icmp .ge 24, 3) := by decide +kernel
theorem dL_told_48 : decode cL_told 48 = .ok (.ldc2_w 85, 3) := by decide +kernel
theorem dL_told_51 : decode cL_told 51 = .ok (.lload_n 1, 1) := by decide +kernel
theorem dL_told_52 : decode cL_told 52 = .ok (.lmul, 1) := by decide +kernel
theorem dL_told_53 : decode cL_told 53 = .ok (.aload_n 0, 1) := by decide +kernel
theorem dL_told_54 : decode cL_told 54 = .ok (.iload_n 3, 1) := by decide +kernel
theorem dL_told_55 : decode cL_told 55 = .ok (.iload 4, 2) := by decide +kernel
theorem dL_told_57 : decode cL_told 57 = .ok (.invokestatic 90, 3) := by decide +kernel
theorem dL_told_60 : decode cL_told 60 = .ok (.i2l, 1) := by decide +kernel
theorem dL_told_61 : decode cL_told 61 = .ok (.ladd, 1) := by decide +kernel
theorem dL_told_62 : decode cL_told 62 = .ok (.lstore_n 1, 1) := by decide +kernel
theorem dL_told_63 : decode cL_told 63 = .ok (.iinc 4 1, 3) := by decide +kernel
theorem dL_told_66 : decode cL_told 66 = .ok (.goto (-25), 3) := by decide +kernel
theorem dL_told_69 : decode cL_told 69 = .ok (.iinc 3 1, 3) := by decide +kernel
theorem dL_told_72 : decode cL_told 72 = .ok (.goto (-39), 3) := by decide +kernel
theorem dL_told_75 : decode cL_told 75 = .ok (.iconst 0, 1) := by decide +kernel
theorem dL_told_76 : decode cL_told 76 = .ok (.istore_n 3, 1) := by decide +kernel
theorem dL_told_77 : decode cL_told 77 = .ok (.iload_n 3, 1) := by decide +kernel
theorem dL_told_78 : decode cL_told 78 = .ok (.aload_n 0, 1) := by decide +kernel
theorem dL_told_79 : decode cL_told 79 = .ok (.iconst 4, 1) := by decide +kernel
theorem dL_told_80 : decode cL_told 80 = .ok (.invokestatic 87, 3) := by decide +kernel
theorem dL_told_83 : decode cL_told 83 = .ok (.if_icmp .ge 40, 3) := by decide +kernel
theorem dL_told_86 : decode cL_told 86 = .ok (.iconst 0, 1) := by decide +kernel
theorem dL_told_87 : decode cL_told 87 = .ok (.istore 4, 2) := by decide +kernel
theorem dL_told_89 : decode cL_told 89 = .ok (.iload 4, 2) := by decide +kernel
theorem dL_told_91 : decode cL_told 91 = .ok (.bipush 6, 2) := by decide +kernel
theorem dL_told_93 : decode cL_told 93 = .ok (.if_icmp .ge 24, 3) := by decide +kernel
theorem dL_told_96 : decode cL_told 96 = .ok (.ldc2_w 85, 3) := by decide +kernel
theorem dL_told_99 : decode cL_told 99 = .ok (.lload_n 1, 1) := by decide +kernel
theorem dL_told_100 : decode cL_told 100 = .ok (.lmul, 1) := by decide +kernel
theorem dL_told_101 : decode cL_told 101 = .ok (.aload_n 0, 1) := by decide +kernel
theorem dL_told_102 : decode cL_told 102 = .ok (.iload_n 3, 1) := by decide +kernel
theorem dL_told_103 : decode cL_told 103 = .ok (.iload 4, 2) := by decide +kernel
theorem dL_told_105 : decode cL_told 105 = .ok (.invokestatic 93, 3) := by decide +kernel
theorem dL_told_108 : decode cL_told 108 = .ok (.i2l, 1) := by decide +kernel
theorem dL_told_109 : decode cL_told 109 = .ok (.ladd, 1) := by decide +kernel
theorem dL_told_110 : decode cL_told 110 = .ok (.lstore_n 1, 1) := by decide +kernel
theorem dL_told_111 : decode cL_told 111 = .ok (.iinc 4 1, 3) := by decide +kernel
theorem dL_told_114 : decode cL_told 114 = .ok (.goto (-25), 3) := by decide +kernel
theorem dL_told_117 : decode cL_told 117 = .ok (.iinc 3 1, 3) := by decide +kernel
theorem dL_told_120 : decode cL_told 120 = .ok (.goto (-43), 3) := by decide +kernel
theorem dL_told_123 : decode cL_told 123 = .ok (.ldc2_w 85, 3) := by decide +kernel
theorem dL_told_126 : decode cL_told 126 = .ok (.lload_n 1, 1) := by decide +kernel
theorem dL_told_127 : decode cL_told 127 = .ok (.lmul, 1) := by decide +kernel
theorem dL_told_128 : decode cL_told 128 = .ok (.aload_n 0, 1) := by decide +kernel
theorem dL_told_129 : decode cL_told 129 = .ok (.iconst 0, 1) := by decide +kernel
theorem dL_told_130 : decode cL_told 130 = .ok (.iconst 1, 1) := by decide +kernel
theorem dL_told_131 : decode cL_told 131 = .ok (.invokestatic 95, 3) := by decide +kernel
theorem dL_told_134 : decode cL_told 134 = .ok (.i2l, 1) := by decide +kernel
theorem dL_told_135 : decode cL_told 135 = .ok (.ladd, 1) := by decide +kernel
theorem dL_told_136 : decode cL_told 136 = .ok (.lreturn, 1) := by decide +kernel
theorem dL_does_0 : decode cL_does 0 = .ok (.iload_n 1, 1) := by decide +kernel
theorem dL_does_1 : decode cL_does 1 = .ok (.tableswitch 79 0 3 #[31, 38, 45, 72], 31) := by decide +kernel
theorem dL_does_32 : decode cL_does 32 = .ok (.aload_n 0, 1) := by decide +kernel
theorem dL_does_33 : decode cL_does 33 = .ok (.iload_n 2, 1) := by decide +kernel
theorem dL_does_34 : decode cL_does 34 = .ok (.iload_n 3, 1) := by decide +kernel
theorem dL_does_35 : decode cL_does 35 = .ok (.invokestatic 97, 3) := by decide +kernel
theorem dL_does_38 : decode cL_does 38 = .ok (.ireturn, 1) := by decide +kernel
theorem dL_does_39 : decode cL_does 39 = .ok (.aload_n 0, 1) := by decide +kernel
theorem dL_does_40 : decode cL_does 40 = .ok (.iload_n 2, 1) := by decide +kernel
theorem dL_does_41 : decode cL_does 41 = .ok (.iload_n 3, 1) := by decide +kernel
theorem dL_does_42 : decode cL_does 42 = .ok (.invokestatic 99, 3) := by decide +kernel
theorem dL_does_45 : decode cL_does 45 = .ok (.ireturn, 1) := by decide +kernel
theorem dL_does_46 : decode cL_does 46 = .ok (.aload_n 0, 1) := by decide +kernel
theorem dL_does_47 : decode cL_does 47 = .ok (.iload_n 2, 1) := by decide +kernel
theorem dL_does_48 : decode cL_does 48 = .ok (.iconst 1, 1) := by decide +kernel
theorem dL_does_49 : decode cL_does 49 = .ok (.iload_n 3, 1) := by decide +kernel
theorem dL_does_50 : decode cL_does 50 = .ok (.bipush 9, 2) := by decide +kernel
theorem dL_does_52 : decode cL_does 52 = .ok (.invokestatic 101, 3) := by decide +kernel
theorem dL_does_55 : decode cL_does 55 = .ok (.iadd, 1) := by decide +kernel
theorem dL_does_56 : decode cL_does 56 = .ok (.iload_n 3, 1) := by decide +kernel
theorem dL_does_57 : decode cL_does 57 = .ok (.iconst 2, 1) := by decide +kernel
theorem dL_does_58 : decode cL_does 58 = .ok (.invokestatic 101, 3) := by decide +kernel
theorem dL_does_61 : decode cL_does 61 = .ok (.ifCond .ne 7, 3) := by decide +kernel
theorem dL_does_64 : decode cL_does 64 = .ok (.iconst 1, 1) := by decide +kernel
theorem dL_does_65 : decode cL_does 65 = .ok (.goto 4, 3) := by decide +kernel
theorem dL_does_68 : decode cL_does 68 = .ok (.iconst 0, 1) := by decide +kernel
theorem dL_does_69 : decode cL_does 69 = .ok (.invokestatic 104, 3) := by decide +kernel
theorem dL_does_72 : decode cL_does 72 = .ok (.ireturn, 1) := by decide +kernel
theorem dL_does_73 : decode cL_does 73 = .ok (.aload_n 0, 1) := by decide +kernel
theorem dL_does_74 : decode cL_does 74 = .ok (.iload_n 2, 1) := by decide +kernel
theorem dL_does_75 : decode cL_does 75 = .ok (.iload_n 3, 1) := by decide +kernel
theorem dL_does_76 : decode cL_does 76 = .ok (.invokestatic 107, 3) := by decide +kernel
theorem dL_does_79 : decode cL_does 79 = .ok (.ireturn, 1) := by decide +kernel
theorem dL_does_80 : decode cL_does 80 = .ok (.aload_n 0, 1) := by decide +kernel
theorem dL_does_81 : decode cL_does 81 = .ok (.iload_n 2, 1) := by decide +kernel
theorem dL_does_82 : decode cL_does 82 = .ok (.invokestatic 109, 3) := by decide +kernel
theorem dL_does_85 : decode cL_does 85 = .ok (.ireturn, 1) := by decide +kernel
theorem dL_due_0 : decode cL_due 0 = .ok (.iload_n 0, 1) := by decide +kernel
theorem dL_due_1 : decode cL_due 1 = .ok (.tableswitch 199 0 3 #[31, 44, 128, 168], 31) := by decide +kernel
theorem dL_due_32 : decode cL_due 32 = .ok (.iload_n 1, 1) := by decide +kernel
theorem dL_due_33 : decode cL_due 33 = .ok (.iload_n 2, 1) := by decide +kernel
theorem dL_due_34 : decode cL_due 34 = .ok (.aload_n 3, 1) := by decide +kernel
theorem dL_due_35 : decode cL_due 35 = .ok (.aload 4, 2) := by decide +kernel
theorem dL_due_37 : decode cL_due 37 = .ok (.aload 5, 2) := by decide +kernel
theorem dL_due_39 : decode cL_due 39 = .ok (.aload 6, 2) := by decide +kernel
theorem dL_due_41 : decode cL_due 41 = .ok (.invokestatic 111, 3) := by decide +kernel
theorem dL_due_44 : decode cL_due 44 = .ok (.ireturn, 1) := by decide +kernel
theorem dL_due_45 : decode cL_due 45 = .ok (.aload 4, 2) := by decide +kernel
theorem dL_due_47 : decode cL_due 47 = .ok (.bipush 6, 2) := by decide +kernel
theorem dL_due_49 : decode cL_due 49 = .ok (.iload_n 1, 1) := by decide +kernel
theorem dL_due_50 : decode cL_due 50 = .ok (.imul, 1) := by decide +kernel
theorem dL_due_51 : decode cL_due 51 = .ok (.iaload, 1) := by decide +kernel
theorem dL_due_52 : decode cL_due 52 = .ok (.iload_n 2, 1) := by decide +kernel
theorem dL_due_53 : decode cL_due 53 = .ok (.iadd, 1) := by decide +kernel
theorem dL_due_54 : decode cL_due 54 = .ok (.istore 7, 2) := by decide +kernel
theorem dL_due_56 : decode cL_due 56 = .ok (.iload 7, 2) := by decide +kernel
theorem dL_due_58 : decode cL_due 58 = .ok (.ifCond .lt 15, 3) := by decide +kernel
theorem dL_due_61 : decode cL_due 61 = .ok (.iload 7, 2) := by decide +kernel
theorem dL_due_63 : decode cL_due 63 = .ok (.aload_n 3, 1) := by decide +kernel
theorem dL_due_64 : decode cL_due 64 = .ok (.iconst 0, 1) := by decide +kernel
theorem dL_due_65 : decode cL_due 65 = .ok (.iaload, 1) := by decide +kernel
theorem dL_due_66 : decode cL_due 66 = .ok (.if_icmp .gt 7, 3) := by decide +kernel
theorem dL_due_69 : decode cL_due 69 = .ok (.iconst 1, 1) := by decide +kernel
theorem dL_due_70 : decode cL_due 70 = .ok (.goto 4, 3) := by decide +kernel
theorem dL_due_73 : decode cL_due 73 = .ok (.iconst 0, 1) := by decide +kernel
theorem dL_due_74 : decode cL_due 74 = .ok (.istore 8, 2) := by decide +kernel
theorem dL_due_76 : decode cL_due 76 = .ok (.aload_n 3, 1) := by decide +kernel
theorem dL_due_77 : decode cL_due 77 = .ok (.bipush 7, 2) := by decide +kernel
theorem dL_due_79 : decode cL_due 79 = .ok (.dup2, 1) := by decide +kernel
theorem dL_due_80 : decode cL_due 80 = .ok (.iaload, 1) := by decide +kernel
theorem dL_due_81 : decode cL_due 81 = .ok (.iload 8, 2) := by decide +kernel
theorem dL_due_83 : decode cL_due 83 = .ok (.ifCond .eq 7, 3) := by decide +kernel
theorem dL_due_86 : decode cL_due 86 = .ok (.iconst 0, 1) := by decide +kernel
theorem dL_due_87 : decode cL_due 87 = .ok (.goto 4, 3) := by decide +kernel
theorem dL_due_90 : decode cL_due 90 = .ok (.iconst 1, 1) := by decide +kernel
theorem dL_due_91 : decode cL_due 91 = .ok (.iadd, 1) := by decide +kernel
theorem dL_due_92 : decode cL_due 92 = .ok (.iastore, 1) := by decide +kernel
theorem dL_due_93 : decode cL_due 93 = .ok (.aload 4, 2) := by decide +kernel
theorem dL_due_95 : decode cL_due 95 = .ok (.bipush 6, 2) := by decide +kernel
theorem dL_due_97 : decode cL_due 97 = .ok (.iload_n 1, 1) := by decide +kernel
theorem dL_due_98 : decode cL_due 98 = .ok (.imul, 1) := by decide +kernel
theorem dL_due_99 : decode cL_due 99 = .ok (.iload 8, 2) := by decide +kernel
theorem dL_due_101 : decode cL_due 101 = .ok (.ifCond .eq 8, 3) := by decide +kernel
theorem dL_due_104 : decode cL_due 104 = .ok (.iload 7, 2) := by decide +kernel
theorem dL_due_106 : decode cL_due 106 = .ok (.goto 10, 3) := by decide +kernel
theorem dL_due_109 : decode cL_due 109 = .ok (.aload 4, 2) := by decide +kernel
theorem dL_due_111 : decode cL_due 111 = .ok (.bipush 6, 2) := by decide +kernel
theorem dL_due_113 : decode cL_due 113 = .ok (.iload_n 1, 1) := by decide +kernel
theorem dL_due_114 : decode cL_due 114 = .ok (.imul, 1) := by decide +kernel
theorem dL_due_115 : decode cL_due 115 = .ok (.iaload, 1) := by decide +kernel
theorem dL_due_116 : decode cL_due 116 = .ok (.iastore, 1) := by decide +kernel
theorem dL_due_117 : decode cL_due 117 = .ok (.iload 8, 2) := by decide +kernel
theorem dL_due_119 : decode cL_due 119 = .ok (.ifCond .eq 8, 3) := by decide +kernel
theorem dL_due_122 : decode cL_due 122 = .ok (.iload 7, 2) := by decide +kernel
theorem dL_due_124 : decode cL_due 124 = .ok (.goto 4, 3) := by decide +kernel
theorem dL_due_127 : decode cL_due 127 = .ok (.iconst (-1), 1) := by decide +kernel
theorem dL_due_128 : decode cL_due 128 = .ok (.ireturn, 1) := by decide +kernel
theorem dL_due_129 : decode cL_due 129 = .ok (.aload_n 3, 1) := by decide +kernel
theorem dL_due_130 : decode cL_due 130 = .ok (.iconst 4, 1) := by decide +kernel
theorem dL_due_131 : decode cL_due 131 = .ok (.iaload, 1) := by decide +kernel
theorem dL_due_132 : decode cL_due 132 = .ok (.istore 9, 2) := by decide +kernel
theorem dL_due_134 : decode cL_due 134 = .ok (.aload_n 3, 1) := by decide +kernel
theorem dL_due_135 : decode cL_due 135 = .ok (.iconst 4, 1) := by decide +kernel
theorem dL_due_136 : decode cL_due 136 = .ok (.iload_n 1, 1) := by decide +kernel
theorem dL_due_137 : decode cL_due 137 = .ok (.iastore, 1) := by decide +kernel
theorem dL_due_138 : decode cL_due 138 = .ok (.aload_n 3, 1) := by decide +kernel
theorem dL_due_139 : decode cL_due 139 = .ok (.iconst 5, 1) := by decide +kernel
theorem dL_due_140 : decode cL_due 140 = .ok (.iconst 1, 1) := by decide +kernel
theorem dL_due_141 : decode cL_due 141 = .ok (.iload_n 2, 1) := by decide +kernel
theorem dL_due_142 : decode cL_due 142 = .ok (.bipush 9, 2) := by decide +kernel
theorem dL_due_144 : decode cL_due 144 = .ok (.invokestatic 101, 3) := by decide +kernel
theorem dL_due_147 : decode cL_due 147 = .ok (.iadd, 1) := by decide +kernel
theorem dL_due_148 : decode cL_due 148 = .ok (.iastore, 1) := by decide +kernel
theorem dL_due_149 : decode cL_due 149 = .ok (.aload_n 3, 1) := by decide +kernel
theorem dL_due_150 : decode cL_due 150 = .ok (.bipush 6, 2) := by decide +kernel
theorem dL_due_152 : decode cL_due 152 = .ok (.iload_n 2, 1) := by decide +kernel
theorem dL_due_153 : decode cL_due 153 = .ok (.iconst 2, 1) := by decide +kernel
theorem dL_due_154 : decode cL_due 154 = .ok (.invokestatic 101, 3) := by decide +kernel
theorem dL_due_157 : decode cL_due 157 = .ok (.ifCond .ne 7, 3) := by decide +kernel
theorem dL_due_160 : decode cL_due 160 = .ok (.iconst 1, 1) := by decide +kernel
theorem dL_due_161 : decode cL_due 161 = .ok (.goto 4, 3) := by decide +kernel
theorem dL_due_164 : decode cL_due 164 = .ok (.iconst (-1), 1) := by decide +kernel
theorem dL_due_165 : decode cL_due 165 = .ok (.iastore, 1) := by decide +kernel
theorem dL_due_166 : decode cL_due 166 = .ok (.iload 9, 2) := by decide +kernel
theorem dL_due_168 : decode cL_due 168 = .ok (.ireturn, 1) := by decide +kernel
theorem dL_due_169 : decode cL_due 169 = .ok (.aload_n 3, 1) := by decide +kernel
theorem dL_due_170 : decode cL_due 170 = .ok (.iload_n 1, 1) := by decide +kernel
theorem dL_due_171 : decode cL_due 171 = .ok (.iaload, 1) := by decide +kernel
theorem dL_due_172 : decode cL_due 172 = .ok (.istore 10, 2) := by decide +kernel
theorem dL_due_174 : decode cL_due 174 = .ok (.iload_n 1, 1) := by decide +kernel
theorem dL_due_175 : decode cL_due 175 = .ok (.ifCond .ne 18, 3) := by decide +kernel
theorem dL_due_178 : decode cL_due 178 = .ok (.iload_n 2, 1) := by decide +kernel
theorem dL_due_179 : decode cL_due 179 = .ok (.aload_n 3, 1) := by decide +kernel
theorem dL_due_180 : decode cL_due 180 = .ok (.aload 4, 2) := by decide +kernel
theorem dL_due_182 : decode cL_due 182 = .ok (.aload 6, 2) := by decide +kernel
theorem dL_due_184 : decode cL_due 184 = .ok (.invokestatic 115, 3) := by decide +kernel
theorem dL_due_187 : decode cL_due 187 = .ok (.ifCond .ne 6, 3) := by decide +kernel
theorem dL_due_190 : decode cL_due 190 = .ok (.bipush (-103), 2) := by decide +kernel
theorem dL_due_192 : decode cL_due 192 = .ok (.ireturn, 1) := by decide +kernel
theorem dL_due_193 : decode cL_due 193 = .ok (.aload_n 3, 1) := by decide +kernel
theorem dL_due_194 : decode cL_due 194 = .ok (.iload_n 1, 1) := by decide +kernel
theorem dL_due_195 : decode cL_due 195 = .ok (.iload_n 2, 1) := by decide +kernel
theorem dL_due_196 : decode cL_due 196 = .ok (.iastore, 1) := by decide +kernel
theorem dL_due_197 : decode cL_due 197 = .ok (.iload 10, 2) := by decide +kernel
theorem dL_due_199 : decode cL_due 199 = .ok (.ireturn, 1) := by decide +kernel
theorem dL_due_200 : decode cL_due 200 = .ok (.iload_n 1, 1) := by decide +kernel
theorem dL_due_201 : decode cL_due 201 = .ok (.aload_n 3, 1) := by decide +kernel
theorem dL_due_202 : decode cL_due 202 = .ok (.aload 4, 2) := by decide +kernel
theorem dL_due_204 : decode cL_due 204 = .ok (.aload 5, 2) := by decide +kernel
theorem dL_due_206 : decode cL_due 206 = .ok (.aload 6, 2) := by decide +kernel
theorem dL_due_208 : decode cL_due 208 = .ok (.invokestatic 119, 3) := by decide +kernel
theorem dL_due_211 : decode cL_due 211 = .ok (.ireturn, 1) := by decide +kernel
theorem dL_areEchoes_0 : decode cL_areEchoes 0 = .ok (.aload_n 1, 1) := by decide +kernel
theorem dL_areEchoes_1 : decode cL_areEchoes 1 = .ok (.iconst 3, 1) := by decide +kernel
theorem dL_areEchoes_2 : decode cL_areEchoes 2 = .ok (.iaload, 1) := by decide +kernel
theorem dL_areEchoes_3 : decode cL_areEchoes 3 = .ok (.istore 4, 2) := by decide +kernel
theorem dL_areEchoes_5 : decode cL_areEchoes 5 = .ok (.iconst (-1), 1) := by decide +kernel
theorem dL_areEchoes_6 : decode cL_areEchoes 6 = .ok (.istore 5, 2) := by decide +kernel
theorem dL_areEchoes_8 : decode cL_areEchoes 8 = .ok (.iconst 0, 1) := by decide +kernel
theorem dL_areEchoes_9 : decode cL_areEchoes 9 = .ok (.istore 6, 2) := by decide +kernel
theorem dL_areEchoes_11 : decode cL_areEchoes 11 = .ok (.iload 6, 2) := by decide +kernel
theorem dL_areEchoes_13 : decode cL_areEchoes 13 = .ok (.aload_n 1, 1) := by decide +kernel
theorem dL_areEchoes_14 : decode cL_areEchoes 14 = .ok (.bipush 9, 2) := by decide +kernel
theorem dL_areEchoes_16 : decode cL_areEchoes 16 = .ok (.iaload, 1) := by decide +kernel
theorem dL_areEchoes_17 : decode cL_areEchoes 17 = .ok (.if_icmp .ge 245, 3) := by decide +kernel
theorem dL_areEchoes_20 : decode cL_areEchoes 20 = .ok (.iconst (-1), 1) := by decide +kernel
theorem dL_areEchoes_21 : decode cL_areEchoes 21 = .ok (.istore 7, 2) := by decide +kernel
theorem dL_areEchoes_23 : decode cL_areEchoes 23 = .ok (.iconst 0, 1) := by decide +kernel
theorem dL_areEchoes_24 : decode cL_areEchoes 24 = .ok (.istore 8, 2) := by decide +kernel
theorem dL_areEchoes_26 : decode cL_areEchoes 26 = .ok (.iload 8, 2) := by decide +kernel
theorem dL_areEchoes_28 : decode cL_areEchoes 28 = .ok (.aload_n 1, 1) := by decide +kernel
theorem dL_areEchoes_29 : decode cL_areEchoes 29 = .ok (.bipush 9, 2) := by decide +kernel
theorem dL_areEchoes_31 : decode cL_areEchoes 31 = .ok (.iaload, 1) := by decide +kernel
theorem dL_areEchoes_32 : decode cL_areEchoes 32 = .ok (.if_icmp .ge 79, 3) := by decide +kernel
theorem dL_areEchoes_35 : decode cL_areEchoes 35 = .ok (.aload_n 2, 1) := by decide +kernel
theorem dL_areEchoes_36 : decode cL_areEchoes 36 = .ok (.iload 8, 2) := by decide +kernel
theorem dL_areEchoes_38 : decode cL_areEchoes 38 = .ok (.iaload, 1) := by decide +kernel
theorem dL_areEchoes_39 : decode cL_areEchoes 39 = .ok (.iconst 2, 1) := by decide +kernel
theorem dL_areEchoes_40 : decode cL_areEchoes 40 = .ok (.idiv, 1) := by decide +kernel
theorem dL_areEchoes_41 : decode cL_areEchoes 41 = .ok (.iload 4, 2) := by decide +kernel
theorem dL_areEchoes_43 : decode cL_areEchoes 43 = .ok (.if_icmp .gt 21, 3) := by decide +kernel
theorem dL_areEchoes_46 : decode cL_areEchoes 46 = .ok (.aload_n 2, 1) := by decide +kernel
theorem dL_areEchoes_47 : decode cL_areEchoes 47 = .ok (.iload 8, 2) := by decide +kernel
theorem dL_areEchoes_49 : decode cL_areEchoes 49 = .ok (.iaload, 1) := by decide +kernel
theorem dL_areEchoes_50 : decode cL_areEchoes 50 = .ok (.iconst 2, 1) := by decide +kernel
theorem dL_areEchoes_51 : decode cL_areEchoes 51 = .ok (.idiv, 1) := by decide +kernel
theorem dL_areEchoes_52 : decode cL_areEchoes 52 = .ok (.iload 4, 2) := by decide +kernel
theorem dL_areEchoes_54 : decode cL_areEchoes 54 = .ok (.if_icmp .ne 14, 3) := by decide +kernel
theorem dL_areEchoes_57 : decode cL_areEchoes 57 = .ok (.iload 8, 2) := by decide +kernel
theorem dL_areEchoes_59 : decode cL_areEchoes 59 = .ok (.iload 5, 2) := by decide +kernel
theorem dL_areEchoes_61 : decode cL_areEchoes 61 = .ok (.if_icmp .le 7, 3) := by decide +kernel
theorem dL_areEchoes_64 : decode cL_areEchoes 64 = .ok (.iconst 1, 1) := by decide +kernel
theorem dL_areEchoes_65 : decode cL_areEchoes 65 = .ok (.goto 4, 3) := by decide +kernel
theorem dL_areEchoes_68 : decode cL_areEchoes 68 = .ok (.iconst 0, 1) := by decide +kernel
theorem dL_areEchoes_69 : decode cL_areEchoes 69 = .ok (.istore 9, 2) := by decide +kernel
theorem dL_areEchoes_71 : decode cL_areEchoes 71 = .ok (.iload 9, 2) := by decide +kernel
theorem dL_areEchoes_73 : decode cL_areEchoes 73 = .ok (.ifCond .eq 28, 3) := by decide +kernel
theorem dL_areEchoes_76 : decode cL_areEchoes 76 = .ok (.iload 7, 2) := by decide +kernel
theorem dL_areEchoes_78 : decode cL_areEchoes 78 = .ok (.ifCond .lt 18, 3) := by decide +kernel
theorem dL_areEchoes_81 : decode cL_areEchoes 81 = .ok (.aload_n 2, 1) := by decide +kernel
theorem dL_areEchoes_82 : decode cL_areEchoes 82 = .ok (.iload 8, 2) := by decide +kernel
theorem dL_areEchoes_84 : decode cL_areEchoes 84 = .ok (.iaload, 1) := by decide +kernel
theorem dL_areEchoes_85 : decode cL_areEchoes 85 = .ok (.iconst 2, 1) := by decide +kernel
theorem dL_areEchoes_86 : decode cL_areEchoes 86 = .ok (.idiv, 1) := by decide +kernel
theorem dL_areEchoes_87 : decode cL_areEchoes 87 = .ok (.aload_n 2, 1) := by decide +kernel
theorem dL_areEchoes_88 : decode cL_areEchoes 88 = .ok (.iload 7, 2) := by decide +kernel
theorem dL_areEchoes_90 : decode cL_areEchoes 90 = .ok (.iaload, 1) := by decide +kernel
theorem dL_areEchoes_91 : decode cL_areEchoes 91 = .ok (.iconst 2, 1) := by decide +kernel
theorem dL_areEchoes_92 : decode cL_areEchoes 92 = .ok (.idiv, 1) := by decide +kernel
theorem dL_areEchoes_93 : decode cL_areEchoes 93 = .ok (.if_icmp .ge 8, 3) := by decide +kernel
theorem dL_areEchoes_96 : decode cL_areEchoes 96 = .ok (.iload 8, 2) := by decide +kernel
theorem dL_areEchoes_98 : decode cL_areEchoes 98 = .ok (.goto 5, 3) := by decide +kernel
theorem dL_areEchoes_101 : decode cL_areEchoes 101 = .ok (.iload 7, 2) := by decide +kernel
theorem dL_areEchoes_103 : decode cL_areEchoes 103 = .ok (.istore 7, 2) := by decide +kernel
theorem dL_areEchoes_105 : decode cL_areEchoes 105 = .ok (.iinc 8 1, 3) := by decide +kernel
theorem dL_areEchoes_108 : decode cL_areEchoes 108 = .ok (.goto (-82), 3) := by decide +kernel
theorem dL_areEchoes_111 : decode cL_areEchoes 111 = .ok (.iload 7, 2) := by decide +kernel
theorem dL_areEchoes_113 : decode cL_areEchoes 113 = .ok (.ifCond .ge 5, 3) := by decide +kernel
theorem dL_areEchoes_116 : decode cL_areEchoes 116 = .ok (.iconst 0, 1) := by decide +kernel
theorem dL_areEchoes_117 : decode cL_areEchoes 117 = .ok (.ireturn, 1) := by decide +kernel
theorem dL_areEchoes_118 : decode cL_areEchoes 118 = .ok (.aload_n 2, 1) := by decide +kernel
theorem dL_areEchoes_119 : decode cL_areEchoes 119 = .ok (.iload 7, 2) := by decide +kernel
theorem dL_areEchoes_121 : decode cL_areEchoes 121 = .ok (.iaload, 1) := by decide +kernel
theorem dL_areEchoes_122 : decode cL_areEchoes 122 = .ok (.iconst 2, 1) := by decide +kernel
theorem dL_areEchoes_123 : decode cL_areEchoes 123 = .ok (.idiv, 1) := by decide +kernel
theorem dL_areEchoes_124 : decode cL_areEchoes 124 = .ok (.istore 4, 2) := by decide +kernel
theorem dL_areEchoes_126 : decode cL_areEchoes 126 = .ok (.iload 7, 2) := by decide +kernel
theorem dL_areEchoes_128 : decode cL_areEchoes 128 = .ok (.istore 5, 2) := by decide +kernel
theorem dL_areEchoes_130 : decode cL_areEchoes 130 = .ok (.aload_n 3, 1) := by decide +kernel
theorem dL_areEchoes_131 : decode cL_areEchoes 131 = .ok (.iload 7, 2) := by decide +kernel
theorem dL_areEchoes_133 : decode cL_areEchoes 133 = .ok (.iaload, 1) := by decide +kernel
theorem dL_areEchoes_134 : decode cL_areEchoes 134 = .ok (.bipush 100, 2) := by decide +kernel
theorem dL_areEchoes_136 : decode cL_areEchoes 136 = .ok (.idiv, 1) := by decide +kernel
theorem dL_areEchoes_137 : decode cL_areEchoes 137 = .ok (.iload 4, 2) := by decide +kernel
theorem dL_areEchoes_139 : decode cL_areEchoes 139 = .ok (.aload_n 1, 1) := by decide +kernel
theorem dL_areEchoes_140 : decode cL_areEchoes 140 = .ok (.aload_n 2, 1) := by decide +kernel
theorem dL_areEchoes_141 : decode cL_areEchoes 141 = .ok (.aload_n 3, 1) := by decide +kernel
theorem dL_areEchoes_142 : decode cL_areEchoes 142 = .ok (.invokestatic 71, 3) := by decide +kernel
theorem dL_areEchoes_145 : decode cL_areEchoes 145 = .ok (.iconst 1, 1) := by decide +kernel
theorem dL_areEchoes_146 : decode cL_areEchoes 146 = .ok (.if_icmp .le 7, 3) := by decide +kernel
theorem dL_areEchoes_149 : decode cL_areEchoes 149 = .ok (.iconst 1, 1) := by decide +kernel
theorem dL_areEchoes_150 : decode cL_areEchoes 150 = .ok (.goto 4, 3) := by decide +kernel
theorem dL_areEchoes_153 : decode cL_areEchoes 153 = .ok (.iconst 0, 1) := by decide +kernel
theorem dL_areEchoes_154 : decode cL_areEchoes 154 = .ok (.istore 8, 2) := by decide +kernel
theorem dL_areEchoes_156 : decode cL_areEchoes 156 = .ok (.aload_n 0, 1) := by decide +kernel
theorem dL_areEchoes_157 : decode cL_areEchoes 157 = .ok (.iload 6, 2) := by decide +kernel
theorem dL_areEchoes_159 : decode cL_areEchoes 159 = .ok (.iconst 0, 1) := by decide +kernel
theorem dL_areEchoes_160 : decode cL_areEchoes 160 = .ok (.invokestatic 93, 3) := by decide +kernel
theorem dL_areEchoes_163 : decode cL_areEchoes 163 = .ok (.aload_n 3, 1) := by decide +kernel
theorem dL_areEchoes_164 : decode cL_areEchoes 164 = .ok (.iload 7, 2) := by decide +kernel
theorem dL_areEchoes_166 : decode cL_areEchoes 166 = .ok (.iaload, 1) := by decide +kernel
theorem dL_areEchoes_167 : decode cL_areEchoes 167 = .ok (.bipush 10, 2) := by decide +kernel
theorem dL_areEchoes_169 : decode cL_areEchoes 169 = .ok (.idiv, 1) := by decide +kernel
theorem dL_areEchoes_170 : decode cL_areEchoes 170 = .ok (.bipush 10, 2) := by decide +kernel
theorem dL_areEchoes_172 : decode cL_areEchoes 172 = .ok (.irem, 1) := by decide +kernel
theorem dL_areEchoes_173 : decode cL_areEchoes 173 = .ok (.if_icmp .ne 81, 3) := by decide +kernel
theorem dL_areEchoes_176 : decode cL_areEchoes 176 = .ok (.aload_n 0, 1) := by decide +kernel
theorem dL_areEchoes_177 : decode cL_areEchoes 177 = .ok (.iload 6, 2) := by decide +kernel
theorem dL_areEchoes_179 : decode cL_areEchoes 179 = .ok (.iconst 1, 1) := by decide +kernel
theorem dL_areEchoes_180 : decode cL_areEchoes 180 = .ok (.invokestatic 93, 3) := by decide +kernel
theorem dL_areEchoes_183 : decode cL_areEchoes 183 = .ok (.aload_n 3, 1) := by decide +kernel
theorem dL_areEchoes_184 : decode cL_areEchoes 184 = .ok (.iload 7, 2) := by decide +kernel
theorem dL_areEchoes_186 : decode cL_areEchoes 186 = .ok (.iaload, 1) := by decide +kernel
theorem dL_areEchoes_187 : decode cL_areEchoes 187 = .ok (.bipush 100, 2) := by decide +kernel
theorem dL_areEchoes_189 : decode cL_areEchoes 189 = .ok (.idiv, 1) := by decide +kernel
theorem dL_areEchoes_190 : decode cL_areEchoes 190 = .ok (.if_icmp .ne 64, 3) := by decide +kernel
theorem dL_areEchoes_193 : decode cL_areEchoes 193 = .ok (.aload_n 0, 1) := by decide +kernel
theorem dL_areEchoes_194 : decode cL_areEchoes 194 = .ok (.iload 6, 2) := by decide +kernel
theorem dL_areEchoes_196 : decode cL_areEchoes 196 = .ok (.iconst 2, 1) := by decide +kernel
theorem dL_areEchoes_197 : decode cL_areEchoes 197 = .ok (.invokestatic 93, 3) := by decide +kernel
theorem dL_areEchoes_200 : decode cL_areEchoes 200 = .ok (.aload_n 3, 1) := by decide +kernel
theorem dL_areEchoes_201 : decode cL_areEchoes 201 = .ok (.iload 7, 2) := by decide +kernel
theorem dL_areEchoes_203 : decode cL_areEchoes 203 = .ok (.iaload, 1) := by decide +kernel
theorem dL_areEchoes_204 : decode cL_areEchoes 204 = .ok (.bipush 10, 2) := by decide +kernel
theorem dL_areEchoes_206 : decode cL_areEchoes 206 = .ok (.irem, 1) := by decide +kernel
theorem dL_areEchoes_207 : decode cL_areEchoes 207 = .ok (.if_icmp .ne 47, 3) := by decide +kernel
theorem dL_areEchoes_210 : decode cL_areEchoes 210 = .ok (.aload_n 0, 1) := by decide +kernel
theorem dL_areEchoes_211 : decode cL_areEchoes 211 = .ok (.iload 6, 2) := by decide +kernel
theorem dL_areEchoes_213 : decode cL_areEchoes 213 = .ok (.iconst 3, 1) := by decide +kernel
theorem dL_areEchoes_214 : decode cL_areEchoes 214 = .ok (.invokestatic 93, 3) := by decide +kernel
theorem dL_areEchoes_217 : decode cL_areEchoes 217 = .ok (.iload 4, 2) := by decide +kernel
theorem dL_areEchoes_219 : decode cL_areEchoes 219 = .ok (.aload_n 1, 1) := by decide +kernel
theorem dL_areEchoes_220 : decode cL_areEchoes 220 = .ok (.iconst 3, 1) := by decide +kernel
theorem dL_areEchoes_221 : decode cL_areEchoes 221 = .ok (.iaload, 1) := by decide +kernel
theorem dL_areEchoes_222 : decode cL_areEchoes 222 = .ok (.isub, 1) := by decide +kernel
theorem dL_areEchoes_223 : decode cL_areEchoes 223 = .ok (.if_icmp .ne 31, 3) := by decide +kernel
theorem dL_areEchoes_226 : decode cL_areEchoes 226 = .ok (.aload_n 0, 1) := by decide +kernel
theorem dL_areEchoes_227 : decode cL_areEchoes 227 = .ok (.iload 6, 2) := by decide +kernel
theorem dL_areEchoes_229 : decode cL_areEchoes 229 = .ok (.iconst 4, 1) := by decide +kernel
theorem dL_areEchoes_230 : decode cL_areEchoes 230 = .ok (.invokestatic 93, 3) := by decide +kernel
theorem dL_areEchoes_233 : decode cL_areEchoes 233 = .ok (.aload_n 2, 1) := by decide +kernel
theorem dL_areEchoes_234 : decode cL_areEchoes 234 = .ok (.iload 7, 2) := by decide +kernel
theorem dL_areEchoes_236 : decode cL_areEchoes 236 = .ok (.iaload, 1) := by decide +kernel
theorem dL_areEchoes_237 : decode cL_areEchoes 237 = .ok (.iconst 2, 1) := by decide +kernel
theorem dL_areEchoes_238 : decode cL_areEchoes 238 = .ok (.irem, 1) := by decide +kernel
theorem dL_areEchoes_239 : decode cL_areEchoes 239 = .ok (.if_icmp .ne 15, 3) := by decide +kernel
theorem dL_areEchoes_242 : decode cL_areEchoes 242 = .ok (.aload_n 0, 1) := by decide +kernel
theorem dL_areEchoes_243 : decode cL_areEchoes 243 = .ok (.iload 6, 2) := by decide +kernel
theorem dL_areEchoes_245 : decode cL_areEchoes 245 = .ok (.iconst 5, 1) := by decide +kernel
theorem dL_areEchoes_246 : decode cL_areEchoes 246 = .ok (.invokestatic 93, 3) := by decide +kernel
theorem dL_areEchoes_249 : decode cL_areEchoes 249 = .ok (.iload 8, 2) := by decide +kernel
theorem dL_areEchoes_251 : decode cL_areEchoes 251 = .ok (.if_icmp .eq 5, 3) := by decide +kernel
theorem dL_areEchoes_254 : decode cL_areEchoes 254 = .ok (.iconst 0, 1) := by decide +kernel
theorem dL_areEchoes_255 : decode cL_areEchoes 255 = .ok (.ireturn, 1) := by decide +kernel
theorem dL_areEchoes_256 : decode cL_areEchoes 256 = .ok (.iinc 6 1, 3) := by decide +kernel
theorem dL_areEchoes_259 : decode cL_areEchoes 259 = .ok (.goto (-248), 3) := by decide +kernel
theorem dL_areEchoes_262 : decode cL_areEchoes 262 = .ok (.aload_n 0, 1) := by decide +kernel
theorem dL_areEchoes_263 : decode cL_areEchoes 263 = .ok (.invokevirtual 123, 3) := by decide +kernel
theorem dL_areEchoes_266 : decode cL_areEchoes 266 = .ok (.iload 4, 2) := by decide +kernel
theorem dL_areEchoes_268 : decode cL_areEchoes 268 = .ok (.aload_n 1, 1) := by decide +kernel
theorem dL_areEchoes_269 : decode cL_areEchoes 269 = .ok (.iconst 3, 1) := by decide +kernel
theorem dL_areEchoes_270 : decode cL_areEchoes 270 = .ok (.iaload, 1) := by decide +kernel
theorem dL_areEchoes_271 : decode cL_areEchoes 271 = .ok (.isub, 1) := by decide +kernel
theorem dL_areEchoes_272 : decode cL_areEchoes 272 = .ok (.if_icmp .ne 32, 3) := by decide +kernel
theorem dL_areEchoes_275 : decode cL_areEchoes 275 = .ok (.aload_n 0, 1) := by decide +kernel
theorem dL_areEchoes_276 : decode cL_areEchoes 276 = .ok (.aload_n 1, 1) := by decide +kernel
theorem dL_areEchoes_277 : decode cL_areEchoes 277 = .ok (.bipush 9, 2) := by decide +kernel
theorem dL_areEchoes_279 : decode cL_areEchoes 279 = .ok (.iaload, 1) := by decide +kernel
theorem dL_areEchoes_280 : decode cL_areEchoes 280 = .ok (.iconst 0, 1) := by decide +kernel
theorem dL_areEchoes_281 : decode cL_areEchoes 281 = .ok (.invokestatic 93, 3) := by decide +kernel
theorem dL_areEchoes_284 : decode cL_areEchoes 284 = .ok (.iconst (-1), 1) := by decide +kernel
theorem dL_areEchoes_285 : decode cL_areEchoes 285 = .ok (.if_icmp .ne 19, 3) := by decide +kernel
theorem dL_areEchoes_288 : decode cL_areEchoes 288 = .ok (.aload_n 0, 1) := by decide +kernel
theorem dL_areEchoes_289 : decode cL_areEchoes 289 = .ok (.iconst 4, 1) := by decide +kernel
theorem dL_areEchoes_290 : decode cL_areEchoes 290 = .ok (.invokestatic 87, 3) := by decide +kernel
theorem dL_areEchoes_293 : decode cL_areEchoes 293 = .ok (.aload_n 1, 1) := by decide +kernel
theorem dL_areEchoes_294 : decode cL_areEchoes 294 = .ok (.bipush 9, 2) := by decide +kernel
theorem dL_areEchoes_296 : decode cL_areEchoes 296 = .ok (.iaload, 1) := by decide +kernel
theorem dL_areEchoes_297 : decode cL_areEchoes 297 = .ok (.if_icmp .ne 7, 3) := by decide +kernel
theorem dL_areEchoes_300 : decode cL_areEchoes 300 = .ok (.iconst 1, 1) := by decide +kernel
theorem dL_areEchoes_301 : decode cL_areEchoes 301 = .ok (.goto 4, 3) := by decide +kernel
theorem dL_areEchoes_304 : decode cL_areEchoes 304 = .ok (.iconst 0, 1) := by decide +kernel
theorem dL_areEchoes_305 : decode cL_areEchoes 305 = .ok (.ireturn, 1) := by decide +kernel
theorem dL_meets_0 : decode cL_meets 0 = .ok (.aload 4, 2) := by decide +kernel
theorem dL_meets_2 : decode cL_meets 2 = .ok (.bipush 6, 2) := by decide +kernel
theorem dL_meets_4 : decode cL_meets 4 = .ok (.iload_n 0, 1) := by decide +kernel
theorem dL_meets_5 : decode cL_meets 5 = .ok (.imul, 1) := by decide +kernel
theorem dL_meets_6 : decode cL_meets 6 = .ok (.iaload, 1) := by decide +kernel
theorem dL_meets_7 : decode cL_meets 7 = .ok (.istore 7, 2) := by decide +kernel
theorem dL_meets_9 : decode cL_meets 9 = .ok (.iload_n 2, 1) := by decide +kernel
theorem dL_meets_10 : decode cL_meets 10 = .ok (.iload 7, 2) := by decide +kernel
theorem dL_meets_12 : decode cL_meets 12 = .ok (.iload_n 1, 1) := by decide +kernel
theorem dL_meets_13 : decode cL_meets 13 = .ok (.aload_n 3, 1) := by decide +kernel
theorem dL_meets_14 : decode cL_meets 14 = .ok (.invokestatic 67, 3) := by decide +kernel
theorem dL_meets_17 : decode cL_meets 17 = .ok (.iadd, 1) := by decide +kernel
theorem dL_meets_18 : decode cL_meets 18 = .ok (.istore 8, 2) := by decide +kernel
theorem dL_meets_20 : decode cL_meets 20 = .ok (.iload 7, 2) := by decide +kernel
theorem dL_meets_22 : decode cL_meets 22 = .ok (.iconst 0, 1) := by decide +kernel
theorem dL_meets_23 : decode cL_meets 23 = .ok (.aload_n 3, 1) := by decide +kernel
theorem dL_meets_24 : decode cL_meets 24 = .ok (.invokestatic 67, 3) := by decide +kernel
theorem dL_meets_27 : decode cL_meets 27 = .ok (.iload 7, 2) := by decide +kernel
theorem dL_meets_29 : decode cL_meets 29 = .ok (.iconst 1, 1) := by decide +kernel
theorem dL_meets_30 : decode cL_meets 30 = .ok (.aload_n 3, 1) := by decide +kernel
theorem dL_meets_31 : decode cL_meets 31 = .ok (.invokestatic 67, 3) := by decide +kernel
theorem dL_meets_34 : decode cL_meets 34 = .ok (.if_icmp .eq 22, 3) := by decide +kernel
theorem dL_meets_37 : decode cL_meets 37 = .ok (.iload 7, 2) := by decide +kernel
theorem dL_meets_39 : decode cL_meets 39 = .ok (.aload_n 3, 1) := by decide +kernel
theorem dL_meets_40 : decode cL_meets 40 = .ok (.iconst 3, 1) := by decide +kernel
theorem dL_meets_41 : decode cL_meets 41 = .ok (.iaload, 1) := by decide +kernel
theorem dL_meets_42 : decode cL_meets 42 = .ok (.iload 8, 2) := by decide +kernel
theorem dL_meets_44 : decode cL_meets 44 = .ok (.iadd, 1) := by decide +kernel
theorem dL_meets_45 : decode cL_meets 45 = .ok (.aload_n 3, 1) := by decide +kernel
theorem dL_meets_46 : decode cL_meets 46 = .ok (.aload 5, 2) := by decide +kernel
theorem dL_meets_48 : decode cL_meets 48 = .ok (.aload 6, 2) := by decide +kernel
theorem dL_meets_50 : decode cL_meets 50 = .ok (.invokestatic 71, 3) := by decide +kernel
theorem dL_meets_53 : decode cL_meets 53 = .ok (.ifCond .le 7, 3) := by decide +kernel
theorem dL_meets_56 : decode cL_meets 56 = .ok (.iconst 1, 1) := by decide +kernel
theorem dL_meets_57 : decode cL_meets 57 = .ok (.goto 4, 3) := by decide +kernel
theorem dL_meets_60 : decode cL_meets 60 = .ok (.iconst 0, 1) := by decide +kernel
theorem dL_meets_61 : decode cL_meets 61 = .ok (.istore 9, 2) := by decide +kernel
theorem dL_meets_63 : decode cL_meets 63 = .ok (.aload_n 3, 1) := by decide +kernel
theorem dL_meets_64 : decode cL_meets 64 = .ok (.iconst 4, 1) := by decide +kernel
theorem dL_meets_65 : decode cL_meets 65 = .ok (.iaload, 1) := by decide +kernel
theorem dL_meets_66 : decode cL_meets 66 = .ok (.istore 10, 2) := by decide +kernel
theorem dL_meets_68 : decode cL_meets 68 = .ok (.aload_n 3, 1) := by decide +kernel
theorem dL_meets_69 : decode cL_meets 69 = .ok (.bipush 6, 2) := by decide +kernel
theorem dL_meets_71 : decode cL_meets 71 = .ok (.iaload, 1) := by decide +kernel
theorem dL_meets_72 : decode cL_meets 72 = .ok (.istore 11, 2) := by decide +kernel
theorem dL_meets_74 : decode cL_meets 74 = .ok (.iload 8, 2) := by decide +kernel
theorem dL_meets_76 : decode cL_meets 76 = .ok (.aload_n 3, 1) := by decide +kernel
theorem dL_meets_77 : decode cL_meets 77 = .ok (.iconst 5, 1) := by decide +kernel
theorem dL_meets_78 : decode cL_meets 78 = .ok (.iaload, 1) := by decide +kernel
theorem dL_meets_79 : decode cL_meets 79 = .ok (.imul, 1) := by decide +kernel
theorem dL_meets_80 : decode cL_meets 80 = .ok (.iconst 2, 1) := by decide +kernel
theorem dL_meets_81 : decode cL_meets 81 = .ok (.aload_n 3, 1) := by decide +kernel
theorem dL_meets_82 : decode cL_meets 82 = .ok (.iconst 0, 1) := by decide +kernel
theorem dL_meets_83 : decode cL_meets 83 = .ok (.iaload, 1) := by decide +kernel
theorem dL_meets_84 : decode cL_meets 84 = .ok (.imul, 1) := by decide +kernel
theorem dL_meets_85 : decode cL_meets 85 = .ok (.irem, 1) := by decide +kernel
theorem dL_meets_86 : decode cL_meets 86 = .ok (.aload_n 3, 1) := by decide +kernel
theorem dL_meets_87 : decode cL_meets 87 = .ok (.invokestatic 75, 3) := by decide +kernel
theorem dL_meets_90 : decode cL_meets 90 = .ok (.aload_n 3, 1) := by decide +kernel
theorem dL_meets_91 : decode cL_meets 91 = .ok (.iconst 4, 1) := by decide +kernel
theorem dL_meets_92 : decode cL_meets 92 = .ok (.iaload, 1) := by decide +kernel
theorem dL_meets_93 : decode cL_meets 93 = .ok (.iload 7, 2) := by decide +kernel
theorem dL_meets_95 : decode cL_meets 95 = .ok (.if_icmp .ne 7, 3) := by decide +kernel
theorem dL_meets_98 : decode cL_meets 98 = .ok (.iconst 1, 1) := by decide +kernel
theorem dL_meets_99 : decode cL_meets 99 = .ok (.goto 4, 3) := by decide +kernel
theorem dL_meets_102 : decode cL_meets 102 = .ok (.iconst 0, 1) := by decide +kernel
theorem dL_meets_103 : decode cL_meets 103 = .ok (.istore 12, 2) := by decide +kernel
theorem dL_meets_105 : decode cL_meets 105 = .ok (.aload_n 3, 1) := by decide +kernel
theorem dL_meets_106 : decode cL_meets 106 = .ok (.iconst 4, 1) := by decide +kernel
theorem dL_meets_107 : decode cL_meets 107 = .ok (.iload 10, 2) := by decide +kernel
theorem dL_meets_109 : decode cL_meets 109 = .ok (.iastore, 1) := by decide +kernel
theorem dL_meets_110 : decode cL_meets 110 = .ok (.aload_n 3, 1) := by decide +kernel
theorem dL_meets_111 : decode cL_meets 111 = .ok (.bipush 6, 2) := by decide +kernel
theorem dL_meets_113 : decode cL_meets 113 = .ok (.iload 11, 2) := by decide +kernel
theorem dL_meets_115 : decode cL_meets 115 = .ok (.iastore, 1) := by decide +kernel
theorem dL_meets_116 : decode cL_meets 116 = .ok (.iload 12, 2) := by decide +kernel
theorem dL_meets_118 : decode cL_meets 118 = .ok (.ifCond .eq 12, 3) := by decide +kernel
theorem dL_meets_121 : decode cL_meets 121 = .ok (.iload 9, 2) := by decide +kernel
theorem dL_meets_123 : decode cL_meets 123 = .ok (.ifCond .ne 7, 3) := by decide +kernel
theorem dL_meets_126 : decode cL_meets 126 = .ok (.iconst 1, 1) := by decide +kernel
theorem dL_meets_127 : decode cL_meets 127 = .ok (.goto 4, 3) := by decide +kernel
theorem dL_meets_130 : decode cL_meets 130 = .ok (.iconst 0, 1) := by decide +kernel
theorem dL_meets_131 : decode cL_meets 131 = .ok (.ireturn, 1) := by decide +kernel
theorem dL_isSo_0 : decode cL_isSo 0 = .ok (.bipush 6, 2) := by decide +kernel
theorem dL_isSo_2 : decode cL_isSo 2 = .ok (.newarray .int, 2) := by decide +kernel
theorem dL_isSo_4 : decode cL_isSo 4 = .ok (.astore 6, 2) := by decide +kernel
theorem dL_isSo_6 : decode cL_isSo 6 = .ok (.iconst 0, 1) := by decide +kernel
theorem dL_isSo_7 : decode cL_isSo 7 = .ok (.istore 7, 2) := by decide +kernel
theorem dL_isSo_9 : decode cL_isSo 9 = .ok (.iload 7, 2) := by decide +kernel
theorem dL_isSo_11 : decode cL_isSo 11 = .ok (.iconst 4, 1) := by decide +kernel
theorem dL_isSo_12 : decode cL_isSo 12 = .ok (.if_icmp .ge 99, 3) := by decide +kernel
theorem dL_isSo_15 : decode cL_isSo 15 = .ok (.iconst 0, 1) := by decide +kernel
theorem dL_isSo_16 : decode cL_isSo 16 = .ok (.istore 8, 2) := by decide +kernel
theorem dL_isSo_18 : decode cL_isSo 18 = .ok (.iload 8, 2) := by decide +kernel
theorem dL_isSo_20 : decode cL_isSo 20 = .ok (.bipush 6, 2) := by decide +kernel
theorem dL_isSo_22 : decode cL_isSo 22 = .ok (.if_icmp .ge 63, 3) := by decide +kernel
theorem dL_isSo_25 : decode cL_isSo 25 = .ok (.aload 6, 2) := by decide +kernel
theorem dL_isSo_27 : decode cL_isSo 27 = .ok (.iload 8, 2) := by decide +kernel
theorem dL_isSo_29 : decode cL_isSo 29 = .ok (.dup2, 1) := by decide +kernel
theorem dL_isSo_30 : decode cL_isSo 30 = .ok (.iaload, 1) := by decide +kernel
theorem dL_isSo_31 : decode cL_isSo 31 = .ok (.aload_n 3, 1) := by decide +kernel
theorem dL_isSo_32 : decode cL_isSo 32 = .ok (.bipush 6, 2) := by decide +kernel
theorem dL_isSo_34 : decode cL_isSo 34 = .ok (.iload 7, 2) := by decide +kernel
theorem dL_isSo_36 : decode cL_isSo 36 = .ok (.imul, 1) := by decide +kernel
theorem dL_isSo_37 : decode cL_isSo 37 = .ok (.iload 8, 2) := by decide +kernel
theorem dL_isSo_39 : decode cL_isSo 39 = .ok (.iadd, 1) := by decide +kernel
theorem dL_isSo_40 : decode cL_isSo 40 = .ok (.iaload, 1) := by decide +kernel
theorem dL_isSo_41 : decode cL_isSo 41 = .ok (.iadd, 1) := by decide +kernel
theorem dL_isSo_42 : decode cL_isSo 42 = .ok (.iastore, 1) := by decide +kernel
theorem dL_isSo_43 : decode cL_isSo 43 = .ok (.aload_n 0, 1) := by decide +kernel
theorem dL_isSo_44 : decode cL_isSo 44 = .ok (.iload 7, 2) := by decide +kernel
theorem dL_isSo_46 : decode cL_isSo 46 = .ok (.iload 8, 2) := by decide +kernel
theorem dL_isSo_48 : decode cL_isSo 48 = .ok (.iconst 3, 1) := by decide +kernel
theorem dL_isSo_49 : decode cL_isSo 49 = .ok (.if_icmp .ge 8, 3) := by decide +kernel
theorem dL_isSo_52 : decode cL_isSo 52 = .ok (.iload 8, 2) := by decide +kernel
theorem dL_isSo_54 : decode cL_isSo 54 = .ok (.goto 7, 3) := by decide +kernel
theorem dL_isSo_57 : decode cL_isSo 57 = .ok (.iload 8, 2) := by decide +kernel
theorem dL_isSo_59 : decode cL_isSo 59 = .ok (.iconst 1, 1) := by decide +kernel
theorem dL_isSo_60 : decode cL_isSo 60 = .ok (.iadd, 1) := by decide +kernel
theorem dL_isSo_61 : decode cL_isSo 61 = .ok (.invokestatic 90, 3) := by decide +kernel
theorem dL_isSo_64 : decode cL_isSo 64 = .ok (.aload_n 3, 1) := by decide +kernel
theorem dL_isSo_65 : decode cL_isSo 65 = .ok (.bipush 6, 2) := by decide +kernel
theorem dL_isSo_67 : decode cL_isSo 67 = .ok (.iload 7, 2) := by decide +kernel
theorem dL_isSo_69 : decode cL_isSo 69 = .ok (.imul, 1) := by decide +kernel
theorem dL_isSo_70 : decode cL_isSo 70 = .ok (.iload 8, 2) := by decide +kernel
theorem dL_isSo_72 : decode cL_isSo 72 = .ok (.iadd, 1) := by decide +kernel
theorem dL_isSo_73 : decode cL_isSo 73 = .ok (.iaload, 1) := by decide +kernel
theorem dL_isSo_74 : decode cL_isSo 74 = .ok (.if_icmp .eq 5, 3) := by decide +kernel
theorem dL_isSo_77 : decode cL_isSo 77 = .ok (.iconst 0, 1) := by decide +kernel
theorem dL_isSo_78 : decode cL_isSo 78 = .ok (.ireturn, 1) := by decide +kernel
theorem dL_isSo_79 : decode cL_isSo 79 = .ok (.iinc 8 1, 3) := by decide +kernel
theorem dL_isSo_82 : decode cL_isSo 82 = .ok (.goto (-64), 3) := by decide +kernel
theorem dL_isSo_85 : decode cL_isSo 85 = .ok (.aload_n 0, 1) := by decide +kernel
theorem dL_isSo_86 : decode cL_isSo 86 = .ok (.iload 7, 2) := by decide +kernel
theorem dL_isSo_88 : decode cL_isSo 88 = .ok (.iconst 3, 1) := by decide +kernel
theorem dL_isSo_89 : decode cL_isSo 89 = .ok (.invokestatic 90, 3) := by decide +kernel
theorem dL_isSo_92 : decode cL_isSo 92 = .ok (.iload 7, 2) := by decide +kernel
theorem dL_isSo_94 : decode cL_isSo 94 = .ok (.aload_n 2, 1) := by decide +kernel
theorem dL_isSo_95 : decode cL_isSo 95 = .ok (.aload 5, 2) := by decide +kernel
theorem dL_isSo_97 : decode cL_isSo 97 = .ok (.invokestatic 61, 3) := by decide +kernel
theorem dL_isSo_100 : decode cL_isSo 100 = .ok (.if_icmp .eq 5, 3) := by decide +kernel
theorem dL_isSo_103 : decode cL_isSo 103 = .ok (.iconst 0, 1) := by decide +kernel
theorem dL_isSo_104 : decode cL_isSo 104 = .ok (.ireturn, 1) := by decide +kernel
theorem dL_isSo_105 : decode cL_isSo 105 = .ok (.iinc 7 1, 3) := by decide +kernel
theorem dL_isSo_108 : decode cL_isSo 108 = .ok (.goto (-99), 3) := by decide +kernel
theorem dL_isSo_111 : decode cL_isSo 111 = .ok (.aload_n 0, 1) := by decide +kernel
theorem dL_isSo_112 : decode cL_isSo 112 = .ok (.aload_n 2, 1) := by decide +kernel
theorem dL_isSo_113 : decode cL_isSo 113 = .ok (.aload 4, 2) := by decide +kernel
theorem dL_isSo_115 : decode cL_isSo 115 = .ok (.aload 5, 2) := by decide +kernel
theorem dL_isSo_117 : decode cL_isSo 117 = .ok (.invokestatic 126, 3) := by decide +kernel
theorem dL_isSo_120 : decode cL_isSo 120 = .ok (.ifCond .eq 137, 3) := by decide +kernel
theorem dL_isSo_123 : decode cL_isSo 123 = .ok (.aload_n 0, 1) := by decide +kernel
theorem dL_isSo_124 : decode cL_isSo 124 = .ok (.iconst 0, 1) := by decide +kernel
theorem dL_isSo_125 : decode cL_isSo 125 = .ok (.invokestatic 87, 3) := by decide +kernel
theorem dL_isSo_128 : decode cL_isSo 128 = .ok (.aload_n 2, 1) := by decide +kernel
theorem dL_isSo_129 : decode cL_isSo 129 = .ok (.iconst 3, 1) := by decide +kernel
theorem dL_isSo_130 : decode cL_isSo 130 = .ok (.iaload, 1) := by decide +kernel
theorem dL_isSo_131 : decode cL_isSo 131 = .ok (.if_icmp .ne 126, 3) := by decide +kernel
theorem dL_isSo_134 : decode cL_isSo 134 = .ok (.aload_n 0, 1) := by decide +kernel
theorem dL_isSo_135 : decode cL_isSo 135 = .ok (.iconst 1, 1) := by decide +kernel
theorem dL_isSo_136 : decode cL_isSo 136 = .ok (.invokestatic 87, 3) := by decide +kernel
theorem dL_isSo_139 : decode cL_isSo 139 = .ok (.aload_n 2, 1) := by decide +kernel
theorem dL_isSo_140 : decode cL_isSo 140 = .ok (.iconst 4, 1) := by decide +kernel
theorem dL_isSo_141 : decode cL_isSo 141 = .ok (.iaload, 1) := by decide +kernel
theorem dL_isSo_142 : decode cL_isSo 142 = .ok (.if_icmp .ne 115, 3) := by decide +kernel
theorem dL_isSo_145 : decode cL_isSo 145 = .ok (.aload_n 0, 1) := by decide +kernel
theorem dL_isSo_146 : decode cL_isSo 146 = .ok (.iconst 2, 1) := by decide +kernel
theorem dL_isSo_147 : decode cL_isSo 147 = .ok (.invokestatic 87, 3) := by decide +kernel
theorem dL_isSo_150 : decode cL_isSo 150 = .ok (.aload_n 2, 1) := by decide +kernel
theorem dL_isSo_151 : decode cL_isSo 151 = .ok (.iconst 5, 1) := by decide +kernel
theorem dL_isSo_152 : decode cL_isSo 152 = .ok (.iaload, 1) := by decide +kernel
theorem dL_isSo_153 : decode cL_isSo 153 = .ok (.if_icmp .ne 104, 3) := by decide +kernel
theorem dL_isSo_156 : decode cL_isSo 156 = .ok (.aload_n 0, 1) := by decide +kernel
theorem dL_isSo_157 : decode cL_isSo 157 = .ok (.iconst 3, 1) := by decide +kernel
theorem dL_isSo_158 : decode cL_isSo 158 = .ok (.invokestatic 87, 3) := by decide +kernel
theorem dL_isSo_161 : decode cL_isSo 161 = .ok (.aload_n 2, 1) := by decide +kernel
theorem dL_isSo_162 : decode cL_isSo 162 = .ok (.bipush 6, 2) := by decide +kernel
theorem dL_isSo_164 : decode cL_isSo 164 = .ok (.iaload, 1) := by decide +kernel
theorem dL_isSo_165 : decode cL_isSo 165 = .ok (.ifCond .le 7, 3) := by decide +kernel
theorem dL_isSo_168 : decode cL_isSo 168 = .ok (.iconst 1, 1) := by decide +kernel
theorem dL_isSo_169 : decode cL_isSo 169 = .ok (.goto 4, 3) := by decide +kernel
theorem dL_isSo_172 : decode cL_isSo 172 = .ok (.iconst 0, 1) := by decide +kernel
theorem dL_isSo_173 : decode cL_isSo 173 = .ok (.if_icmp .ne 84, 3) := by decide +kernel
theorem dL_isSo_176 : decode cL_isSo 176 = .ok (.aload_n 0, 1) := by decide +kernel
theorem dL_isSo_177 : decode cL_isSo 177 = .ok (.iconst 5, 1) := by decide +kernel
theorem dL_isSo_178 : decode cL_isSo 178 = .ok (.invokestatic 87, 3) := by decide +kernel
theorem dL_isSo_181 : decode cL_isSo 181 = .ok (.aload_n 2, 1) := by decide +kernel
theorem dL_isSo_182 : decode cL_isSo 182 = .ok (.bipush 8, 2) := by decide +kernel
theorem dL_isSo_184 : decode cL_isSo 184 = .ok (.iaload, 1) := by decide +kernel
theorem dL_isSo_185 : decode cL_isSo 185 = .ok (.if_icmp .ne 72, 3) := by decide +kernel
theorem dL_isSo_188 : decode cL_isSo 188 = .ok (.aload_n 0, 1) := by decide +kernel
theorem dL_isSo_189 : decode cL_isSo 189 = .ok (.bipush 6, 2) := by decide +kernel
theorem dL_isSo_191 : decode cL_isSo 191 = .ok (.invokestatic 87, 3) := by decide +kernel
theorem dL_isSo_194 : decode cL_isSo 194 = .ok (.aload 6, 2) := by decide +kernel
theorem dL_isSo_196 : decode cL_isSo 196 = .ok (.iconst 3, 1) := by decide +kernel
theorem dL_isSo_197 : decode cL_isSo 197 = .ok (.iaload, 1) := by decide +kernel
theorem dL_isSo_198 : decode cL_isSo 198 = .ok (.if_icmp .ne 59, 3) := by decide +kernel
theorem dL_isSo_201 : decode cL_isSo 201 = .ok (.aload_n 0, 1) := by decide +kernel
theorem dL_isSo_202 : decode cL_isSo 202 = .ok (.bipush 7, 2) := by decide +kernel
theorem dL_isSo_204 : decode cL_isSo 204 = .ok (.invokestatic 87, 3) := by decide +kernel
theorem dL_isSo_207 : decode cL_isSo 207 = .ok (.aload 6, 2) := by decide +kernel
theorem dL_isSo_209 : decode cL_isSo 209 = .ok (.iconst 4, 1) := by decide +kernel
theorem dL_isSo_210 : decode cL_isSo 210 = .ok (.iaload, 1) := by decide +kernel
theorem dL_isSo_211 : decode cL_isSo 211 = .ok (.if_icmp .ne 46, 3) := by decide +kernel
theorem dL_isSo_214 : decode cL_isSo 214 = .ok (.aload_n 0, 1) := by decide +kernel
theorem dL_isSo_215 : decode cL_isSo 215 = .ok (.bipush 8, 2) := by decide +kernel
theorem dL_isSo_217 : decode cL_isSo 217 = .ok (.invokestatic 87, 3) := by decide +kernel
theorem dL_isSo_220 : decode cL_isSo 220 = .ok (.aload 6, 2) := by decide +kernel
theorem dL_isSo_222 : decode cL_isSo 222 = .ok (.iconst 5, 1) := by decide +kernel
theorem dL_isSo_223 : decode cL_isSo 223 = .ok (.iaload, 1) := by decide +kernel
theorem dL_isSo_224 : decode cL_isSo 224 = .ok (.if_icmp .ne 33, 3) := by decide +kernel
theorem dL_isSo_227 : decode cL_isSo 227 = .ok (.aload_n 0, 1) := by decide +kernel
theorem dL_isSo_228 : decode cL_isSo 228 = .ok (.bipush 9, 2) := by decide +kernel
theorem dL_isSo_230 : decode cL_isSo 230 = .ok (.invokestatic 87, 3) := by decide +kernel
theorem dL_isSo_233 : decode cL_isSo 233 = .ok (.aload 6, 2) := by decide +kernel
theorem dL_isSo_235 : decode cL_isSo 235 = .ok (.iconst 1, 1) := by decide +kernel
theorem dL_isSo_236 : decode cL_isSo 236 = .ok (.iaload, 1) := by decide +kernel
theorem dL_isSo_237 : decode cL_isSo 237 = .ok (.if_icmp .ne 20, 3) := by decide +kernel
theorem dL_isSo_240 : decode cL_isSo 240 = .ok (.aload_n 0, 1) := by decide +kernel
theorem dL_isSo_241 : decode cL_isSo 241 = .ok (.bipush 10, 2) := by decide +kernel
theorem dL_isSo_243 : decode cL_isSo 243 = .ok (.invokestatic 87, 3) := by decide +kernel
theorem dL_isSo_246 : decode cL_isSo 246 = .ok (.aload_n 2, 1) := by decide +kernel
theorem dL_isSo_247 : decode cL_isSo 247 = .ok (.bipush 7, 2) := by decide +kernel
theorem dL_isSo_249 : decode cL_isSo 249 = .ok (.iaload, 1) := by decide +kernel
theorem dL_isSo_250 : decode cL_isSo 250 = .ok (.if_icmp .ne 7, 3) := by decide +kernel
theorem dL_isSo_253 : decode cL_isSo 253 = .ok (.iconst 1, 1) := by decide +kernel
theorem dL_isSo_254 : decode cL_isSo 254 = .ok (.goto 4, 3) := by decide +kernel
theorem dL_isSo_257 : decode cL_isSo 257 = .ok (.iconst 0, 1) := by decide +kernel
theorem dL_isSo_258 : decode cL_isSo 258 = .ok (.istore 7, 2) := by decide +kernel
theorem dL_isSo_260 : decode cL_isSo 260 = .ok (.aload 6, 2) := by decide +kernel
theorem dL_isSo_262 : decode cL_isSo 262 = .ok (.iconst 3, 1) := by decide +kernel
theorem dL_isSo_263 : decode cL_isSo 263 = .ok (.iaload, 1) := by decide +kernel
theorem dL_isSo_264 : decode cL_isSo 264 = .ok (.aload 6, 2) := by decide +kernel
theorem dL_isSo_266 : decode cL_isSo 266 = .ok (.iconst 4, 1) := by decide +kernel
theorem dL_isSo_267 : decode cL_isSo 267 = .ok (.iaload, 1) := by decide +kernel
theorem dL_isSo_268 : decode cL_isSo 268 = .ok (.iadd, 1) := by decide +kernel
theorem dL_isSo_269 : decode cL_isSo 269 = .ok (.aload 6, 2) := by decide +kernel
theorem dL_isSo_271 : decode cL_isSo 271 = .ok (.iconst 5, 1) := by decide +kernel
theorem dL_isSo_272 : decode cL_isSo 272 = .ok (.iaload, 1) := by decide +kernel
theorem dL_isSo_273 : decode cL_isSo 273 = .ok (.iadd, 1) := by decide +kernel
theorem dL_isSo_274 : decode cL_isSo 274 = .ok (.istore 8, 2) := by decide +kernel
theorem dL_isSo_276 : decode cL_isSo 276 = .ok (.iload 7, 2) := by decide +kernel
theorem dL_isSo_278 : decode cL_isSo 278 = .ok (.ifCond .eq 47, 3) := by decide +kernel
theorem dL_isSo_281 : decode cL_isSo 281 = .ok (.aload_n 2, 1) := by decide +kernel
theorem dL_isSo_282 : decode cL_isSo 282 = .ok (.bipush 8, 2) := by decide +kernel
theorem dL_isSo_284 : decode cL_isSo 284 = .ok (.iaload, 1) := by decide +kernel
theorem dL_isSo_285 : decode cL_isSo 285 = .ok (.iload 8, 2) := by decide +kernel
theorem dL_isSo_287 : decode cL_isSo 287 = .ok (.aload_n 2, 1) := by decide +kernel
theorem dL_isSo_288 : decode cL_isSo 288 = .ok (.bipush 9, 2) := by decide +kernel
theorem dL_isSo_290 : decode cL_isSo 290 = .ok (.iaload, 1) := by decide +kernel
theorem dL_isSo_291 : decode cL_isSo 291 = .ok (.iadd, 1) := by decide +kernel
theorem dL_isSo_292 : decode cL_isSo 292 = .ok (.if_icmp .ne 33, 3) := by decide +kernel
theorem dL_isSo_295 : decode cL_isSo 295 = .ok (.aload_n 0, 1) := by decide +kernel
theorem dL_isSo_296 : decode cL_isSo 296 = .ok (.invokevirtual 130, 3) := by decide +kernel
theorem dL_isSo_299 : decode cL_isSo 299 = .ok (.iload 8, 2) := by decide +kernel
theorem dL_isSo_301 : decode cL_isSo 301 = .ok (.ifCond .ne 7, 3) := by decide +kernel
theorem dL_isSo_304 : decode cL_isSo 304 = .ok (.dconst 1, 1) := by decide +kernel
theorem dL_isSo_305 : decode cL_isSo 305 = .ok (.goto 12, 3) := by decide +kernel
theorem dL_isSo_308 : decode cL_isSo 308 = .ok (.aload 6, 2) := by decide +kernel
theorem dL_isSo_310 : decode cL_isSo 310 = .ok (.iconst 3, 1) := by decide +kernel
theorem dL_isSo_311 : decode cL_isSo 311 = .ok (.iaload, 1) := by decide +kernel
theorem dL_isSo_312 : decode cL_isSo 312 = .ok (.i2d, 1) := by decide +kernel
theorem dL_isSo_313 : decode cL_isSo 313 = .ok (.iload 8, 2) := by decide +kernel
theorem dL_isSo_315 : decode cL_isSo 315 = .ok (.i2d, 1) := by decide +kernel
theorem dL_isSo_316 : decode cL_isSo 316 = .ok (.ddiv, 1) := by decide +kernel
theorem dL_isSo_317 : decode cL_isSo 317 = .ok (.dcmp .l, 1) := by decide +kernel
theorem dL_isSo_318 : decode cL_isSo 318 = .ok (.ifCond .ne 7, 3) := by decide +kernel
theorem dL_isSo_321 : decode cL_isSo 321 = .ok (.iconst 1, 1) := by decide +kernel
theorem dL_isSo_322 : decode cL_isSo 322 = .ok (.goto 4, 3) := by decide +kernel
theorem dL_isSo_325 : decode cL_isSo 325 = .ok (.iconst 0, 1) := by decide +kernel
theorem dL_isSo_326 : decode cL_isSo 326 = .ok (.istore 7, 2) := by decide +kernel
theorem dL_isSo_328 : decode cL_isSo 328 = .ok (.iload_n 1, 1) := by decide +kernel
theorem dL_isSo_329 : decode cL_isSo 329 = .ok (.iconst 4, 1) := by decide +kernel
theorem dL_isSo_330 : decode cL_isSo 330 = .ok (.invokestatic 101, 3) := by decide +kernel
theorem dL_isSo_333 : decode cL_isSo 333 = .ok (.istore 9, 2) := by decide +kernel
theorem dL_isSo_335 : decode cL_isSo 335 = .ok (.aload_n 3, 1) := by decide +kernel
theorem dL_isSo_336 : decode cL_isSo 336 = .ok (.bipush 6, 2) := by decide +kernel
theorem dL_isSo_338 : decode cL_isSo 338 = .ok (.iload 9, 2) := by decide +kernel
theorem dL_isSo_340 : decode cL_isSo 340 = .ok (.imul, 1) := by decide +kernel
theorem dL_isSo_341 : decode cL_isSo 341 = .ok (.iaload, 1) := by decide +kernel
theorem dL_isSo_342 : decode cL_isSo 342 = .ok (.istore 10, 2) := by decide +kernel
theorem dL_isSo_344 : decode cL_isSo 344 = .ok (.iconst 0, 1) := by decide +kernel
theorem dL_isSo_345 : decode cL_isSo 345 = .ok (.istore 11, 2) := by decide +kernel
theorem dL_isSo_347 : decode cL_isSo 347 = .ok (.iload 11, 2) := by decide +kernel
theorem dL_isSo_349 : decode cL_isSo 349 = .ok (.bipush 61, 2) := by decide +kernel
theorem dL_isSo_351 : decode cL_isSo 351 = .ok (.if_icmp .ge 43, 3) := by decide +kernel
theorem dL_isSo_354 : decode cL_isSo 354 = .ok (.iload 9, 2) := by decide +kernel
theorem dL_isSo_356 : decode cL_isSo 356 = .ok (.iconst 0, 1) := by decide +kernel
theorem dL_isSo_357 : decode cL_isSo 357 = .ok (.iload 11, 2) := by decide +kernel
theorem dL_isSo_359 : decode cL_isSo 359 = .ok (.aload_n 2, 1) := by decide +kernel
theorem dL_isSo_360 : decode cL_isSo 360 = .ok (.aload_n 3, 1) := by decide +kernel
theorem dL_isSo_361 : decode cL_isSo 361 = .ok (.aload 4, 2) := by decide +kernel
theorem dL_isSo_363 : decode cL_isSo 363 = .ok (.aload 5, 2) := by decide +kernel
theorem dL_isSo_365 : decode cL_isSo 365 = .ok (.invokestatic 134, 3) := by decide +kernel
theorem dL_isSo_368 : decode cL_isSo 368 = .ok (.ifCond .ne 26, 3) := by decide +kernel
theorem dL_isSo_371 : decode cL_isSo 371 = .ok (.iload 9, 2) := by decide +kernel
theorem dL_isSo_373 : decode cL_isSo 373 = .ok (.iconst 1, 1) := by decide +kernel
theorem dL_isSo_374 : decode cL_isSo 374 = .ok (.iload 11, 2) := by decide +kernel
theorem dL_isSo_376 : decode cL_isSo 376 = .ok (.aload_n 2, 1) := by decide +kernel
theorem dL_isSo_377 : decode cL_isSo 377 = .ok (.aload_n 3, 1) := by decide +kernel
theorem dL_isSo_378 : decode cL_isSo 378 = .ok (.aload 4, 2) := by decide +kernel
theorem dL_isSo_380 : decode cL_isSo 380 = .ok (.aload 5, 2) := by decide +kernel
theorem dL_isSo_382 : decode cL_isSo 382 = .ok (.invokestatic 134, 3) := by decide +kernel
theorem dL_isSo_385 : decode cL_isSo 385 = .ok (.ifCond .ne 9, 3) := by decide +kernel
theorem dL_isSo_388 : decode cL_isSo 388 = .ok (.iinc 11 1, 3) := by decide +kernel
theorem dL_isSo_391 : decode cL_isSo 391 = .ok (.goto (-44), 3) := by decide +kernel
theorem dL_isSo_394 : decode cL_isSo 394 = .ok (.iload 7, 2) := by decide +kernel
theorem dL_isSo_396 : decode cL_isSo 396 = .ok (.ifCond .eq 29, 3) := by decide +kernel
theorem dL_isSo_399 : decode cL_isSo 399 = .ok (.aload_n 0, 1) := by decide +kernel
theorem dL_isSo_400 : decode cL_isSo 400 = .ok (.iload 9, 2) := by decide +kernel
theorem dL_isSo_402 : decode cL_isSo 402 = .ok (.invokestatic 138, 3) := by decide +kernel
theorem dL_isSo_405 : decode cL_isSo 405 = .ok (.iload 11, 2) := by decide +kernel
theorem dL_isSo_407 : decode cL_isSo 407 = .ok (.bipush 61, 2) := by decide +kernel
theorem dL_isSo_409 : decode cL_isSo 409 = .ok (.if_icmp .ne 7, 3) := by decide +kernel
theorem dL_isSo_412 : decode cL_isSo 412 = .ok (.iconst (-1), 1) := by decide +kernel
theorem dL_isSo_413 : decode cL_isSo 413 = .ok (.goto 5, 3) := by decide +kernel
theorem dL_isSo_416 : decode cL_isSo 416 = .ok (.iload 11, 2) := by decide +kernel
theorem dL_isSo_418 : decode cL_isSo 418 = .ok (.if_icmp .ne 7, 3) := by decide +kernel
theorem dL_isSo_421 : decode cL_isSo 421 = .ok (.iconst 1, 1) := by decide +kernel
theorem dL_isSo_422 : decode cL_isSo 422 = .ok (.goto 4, 3) := by decide +kernel
theorem dL_isSo_425 : decode cL_isSo 425 = .ok (.iconst 0, 1) := by decide +kernel
theorem dL_isSo_426 : decode cL_isSo 426 = .ok (.istore 7, 2) := by decide +kernel
theorem dL_isSo_428 : decode cL_isSo 428 = .ok (.iconst 0, 1) := by decide +kernel
theorem dL_isSo_429 : decode cL_isSo 429 = .ok (.istore 12, 2) := by decide +kernel
theorem dL_isSo_431 : decode cL_isSo 431 = .ok (.iload 12, 2) := by decide +kernel
theorem dL_isSo_433 : decode cL_isSo 433 = .ok (.iconst 2, 1) := by decide +kernel
theorem dL_isSo_434 : decode cL_isSo 434 = .ok (.if_icmp .ge 106, 3) := by decide +kernel
theorem dL_isSo_437 : decode cL_isSo 437 = .ok (.iload 10, 2) := by decide +kernel
theorem dL_isSo_439 : decode cL_isSo 439 = .ok (.iload 12, 2) := by decide +kernel
theorem dL_isSo_441 : decode cL_isSo 441 = .ok (.aload_n 2, 1) := by decide +kernel
theorem dL_isSo_442 : decode cL_isSo 442 = .ok (.invokestatic 67, 3) := by decide +kernel
theorem dL_isSo_445 : decode cL_isSo 445 = .ok (.istore 13, 2) := by decide +kernel
theorem dL_isSo_447 : decode cL_isSo 447 = .ok (.iload 10, 2) := by decide +kernel
theorem dL_isSo_449 : decode cL_isSo 449 = .ok (.iconst 1, 1) := by decide +kernel
theorem dL_isSo_450 : decode cL_isSo 450 = .ok (.iload 12, 2) := by decide +kernel
theorem dL_isSo_452 : decode cL_isSo 452 = .ok (.isub, 1) := by decide +kernel
theorem dL_isSo_453 : decode cL_isSo 453 = .ok (.aload_n 2, 1) := by decide +kernel
theorem dL_isSo_454 : decode cL_isSo 454 = .ok (.invokestatic 67, 3) := by decide +kernel
theorem dL_isSo_457 : decode cL_isSo 457 = .ok (.iload 13, 2) := by decide +kernel
theorem dL_isSo_459 : decode cL_isSo 459 = .ok (.if_icmp .eq 22, 3) := by decide +kernel
theorem dL_isSo_462 : decode cL_isSo 462 = .ok (.iload 10, 2) := by decide +kernel
theorem dL_isSo_464 : decode cL_isSo 464 = .ok (.aload_n 2, 1) := by decide +kernel
theorem dL_isSo_465 : decode cL_isSo 465 = .ok (.iconst 3, 1) := by decide +kernel
theorem dL_isSo_466 : decode cL_isSo 466 = .ok (.iaload, 1) := by decide +kernel
theorem dL_isSo_467 : decode cL_isSo 467 = .ok (.iload 13, 2) := by decide +kernel
theorem dL_isSo_469 : decode cL_isSo 469 = .ok (.iadd, 1) := by decide +kernel
theorem dL_isSo_470 : decode cL_isSo 470 = .ok (.aload_n 2, 1) := by decide +kernel
theorem dL_isSo_471 : decode cL_isSo 471 = .ok (.aload 4, 2) := by decide +kernel
theorem dL_isSo_473 : decode cL_isSo 473 = .ok (.aload 5, 2) := by decide +kernel
theorem dL_isSo_475 : decode cL_isSo 475 = .ok (.invokestatic 71, 3) := by decide +kernel
theorem dL_isSo_478 : decode cL_isSo 478 = .ok (.ifCond .le 7, 3) := by decide +kernel
theorem dL_isSo_481 : decode cL_isSo 481 = .ok (.iconst 1, 1) := by decide +kernel
theorem dL_isSo_482 : decode cL_isSo 482 = .ok (.goto 4, 3) := by decide +kernel
theorem dL_isSo_485 : decode cL_isSo 485 = .ok (.iconst 0, 1) := by decide +kernel
theorem dL_isSo_486 : decode cL_isSo 486 = .ok (.istore 14, 2) := by decide +kernel
theorem dL_isSo_488 : decode cL_isSo 488 = .ok (.iload 7, 2) := by decide +kernel
theorem dL_isSo_490 : decode cL_isSo 490 = .ok (.ifCond .eq 41, 3) := by decide +kernel
theorem dL_isSo_493 : decode cL_isSo 493 = .ok (.aload_n 0, 1) := by decide +kernel
theorem dL_isSo_494 : decode cL_isSo 494 = .ok (.iload 9, 2) := by decide +kernel
theorem dL_isSo_496 : decode cL_isSo 496 = .ok (.iload 12, 2) := by decide +kernel
theorem dL_isSo_498 : decode cL_isSo 498 = .ok (.invokestatic 95, 3) := by decide +kernel
theorem dL_isSo_501 : decode cL_isSo 501 = .ok (.iload 13, 2) := by decide +kernel
theorem dL_isSo_503 : decode cL_isSo 503 = .ok (.if_icmp .ne 28, 3) := by decide +kernel
theorem dL_isSo_506 : decode cL_isSo 506 = .ok (.aload_n 0, 1) := by decide +kernel
theorem dL_isSo_507 : decode cL_isSo 507 = .ok (.iload 9, 2) := by decide +kernel
theorem dL_isSo_509 : decode cL_isSo 509 = .ok (.iload 12, 2) := by decide +kernel
theorem dL_isSo_511 : decode cL_isSo 511 = .ok (.invokestatic 140, 3) := by decide +kernel
theorem dL_isSo_514 : decode cL_isSo 514 = .ok (.iload 14, 2) := by decide +kernel
theorem dL_isSo_516 : decode cL_isSo 516 = .ok (.ifCond .eq 7, 3) := by decide +kernel
theorem dL_isSo_519 : decode cL_isSo 519 = .ok (.iconst 1, 1) := by decide +kernel
theorem dL_isSo_520 : decode cL_isSo 520 = .ok (.goto 4, 3) := by decide +kernel
theorem dL_isSo_523 : decode cL_isSo 523 = .ok (.iconst 0, 1) := by decide +kernel
theorem dL_isSo_524 : decode cL_isSo 524 = .ok (.if_icmp .ne 7, 3) := by decide +kernel
theorem dL_isSo_527 : decode cL_isSo 527 = .ok (.iconst 1, 1) := by decide +kernel
theorem dL_isSo_528 : decode cL_isSo 528 = .ok (.goto 4, 3) := by decide +kernel
theorem dL_isSo_531 : decode cL_isSo 531 = .ok (.iconst 0, 1) := by decide +kernel
theorem dL_isSo_532 : decode cL_isSo 532 = .ok (.istore 7, 2) := by decide +kernel
theorem dL_isSo_534 : decode cL_isSo 534 = .ok (.iinc 12 1, 3) := by decide +kernel
theorem dL_isSo_537 : decode cL_isSo 537 = .ok (.goto (-106), 3) := by decide +kernel
theorem dL_isSo_540 : decode cL_isSo 540 = .ok (.iload_n 1, 1) := by decide +kernel
theorem dL_isSo_541 : decode cL_isSo 541 = .ok (.iconst 3, 1) := by decide +kernel
theorem dL_isSo_542 : decode cL_isSo 542 = .ok (.ishr, 1) := by decide +kernel
theorem dL_isSo_543 : decode cL_isSo 543 = .ok (.bipush 100, 2) := by decide +kernel
theorem dL_isSo_545 : decode cL_isSo 545 = .ok (.invokestatic 101, 3) := by decide +kernel
theorem dL_isSo_548 : decode cL_isSo 548 = .ok (.istore 12, 2) := by decide +kernel
theorem dL_isSo_550 : decode cL_isSo 550 = .ok (.aload_n 2, 1) := by decide +kernel
theorem dL_isSo_551 : decode cL_isSo 551 = .ok (.iconst 4, 1) := by decide +kernel
theorem dL_isSo_552 : decode cL_isSo 552 = .ok (.iaload, 1) := by decide +kernel
theorem dL_isSo_553 : decode cL_isSo 553 = .ok (.istore 13, 2) := by decide +kernel
theorem dL_isSo_555 : decode cL_isSo 555 = .ok (.aload_n 2, 1) := by decide +kernel
theorem dL_isSo_556 : decode cL_isSo 556 = .ok (.bipush 6, 2) := by decide +kernel
theorem dL_isSo_558 : decode cL_isSo 558 = .ok (.iaload, 1) := by decide +kernel
theorem dL_isSo_559 : decode cL_isSo 559 = .ok (.istore 14, 2) := by decide +kernel
theorem dL_isSo_561 : decode cL_isSo 561 = .ok (.iload 12, 2) := by decide +kernel
theorem dL_isSo_563 : decode cL_isSo 563 = .ok (.aload_n 2, 1) := by decide +kernel
theorem dL_isSo_564 : decode cL_isSo 564 = .ok (.iconst 5, 1) := by decide +kernel
theorem dL_isSo_565 : decode cL_isSo 565 = .ok (.iaload, 1) := by decide +kernel
theorem dL_isSo_566 : decode cL_isSo 566 = .ok (.imul, 1) := by decide +kernel
theorem dL_isSo_567 : decode cL_isSo 567 = .ok (.aload_n 2, 1) := by decide +kernel
theorem dL_isSo_568 : decode cL_isSo 568 = .ok (.invokestatic 75, 3) := by decide +kernel
theorem dL_isSo_571 : decode cL_isSo 571 = .ok (.iload 7, 2) := by decide +kernel
theorem dL_isSo_573 : decode cL_isSo 573 = .ok (.ifCond .eq 55, 3) := by decide +kernel
theorem dL_isSo_576 : decode cL_isSo 576 = .ok (.aload_n 0, 1) := by decide +kernel
theorem dL_isSo_577 : decode cL_isSo 577 = .ok (.iload 12, 2) := by decide +kernel
theorem dL_isSo_579 : decode cL_isSo 579 = .ok (.iconst 0, 1) := by decide +kernel
theorem dL_isSo_580 : decode cL_isSo 580 = .ok (.invokestatic 142, 3) := by decide +kernel
theorem dL_isSo_583 : decode cL_isSo 583 = .ok (.aload_n 2, 1) := by decide +kernel
theorem dL_isSo_584 : decode cL_isSo 584 = .ok (.iconst 4, 1) := by decide +kernel
theorem dL_isSo_585 : decode cL_isSo 585 = .ok (.iaload, 1) := by decide +kernel
theorem dL_isSo_586 : decode cL_isSo 586 = .ok (.if_icmp .ne 42, 3) := by decide +kernel
theorem dL_isSo_589 : decode cL_isSo 589 = .ok (.aload_n 0, 1) := by decide +kernel
theorem dL_isSo_590 : decode cL_isSo 590 = .ok (.iload 12, 2) := by decide +kernel
theorem dL_isSo_592 : decode cL_isSo 592 = .ok (.iconst 1, 1) := by decide +kernel
theorem dL_isSo_593 : decode cL_isSo 593 = .ok (.invokestatic 142, 3) := by decide +kernel
theorem dL_isSo_596 : decode cL_isSo 596 = .ok (.aload_n 2, 1) := by decide +kernel
theorem dL_isSo_597 : decode cL_isSo 597 = .ok (.iconst 4, 1) := by decide +kernel
theorem dL_isSo_598 : decode cL_isSo 598 = .ok (.iaload, 1) := by decide +kernel
theorem dL_isSo_599 : decode cL_isSo 599 = .ok (.if_icmp .ne 29, 3) := by decide +kernel
theorem dL_isSo_602 : decode cL_isSo 602 = .ok (.aload_n 0, 1) := by decide +kernel
theorem dL_isSo_603 : decode cL_isSo 603 = .ok (.iload 12, 2) := by decide +kernel
theorem dL_isSo_605 : decode cL_isSo 605 = .ok (.iconst 2, 1) := by decide +kernel
theorem dL_isSo_606 : decode cL_isSo 606 = .ok (.invokestatic 142, 3) := by decide +kernel
theorem dL_isSo_609 : decode cL_isSo 609 = .ok (.aload_n 2, 1) := by decide +kernel
theorem dL_isSo_610 : decode cL_isSo 610 = .ok (.bipush 6, 2) := by decide +kernel
theorem dL_isSo_612 : decode cL_isSo 612 = .ok (.iaload, 1) := by decide +kernel
theorem dL_isSo_613 : decode cL_isSo 613 = .ok (.ifCond .le 7, 3) := by decide +kernel
theorem dL_isSo_616 : decode cL_isSo 616 = .ok (.iconst 1, 1) := by decide +kernel
theorem dL_isSo_617 : decode cL_isSo 617 = .ok (.goto 4, 3) := by decide +kernel
theorem dL_isSo_620 : decode cL_isSo 620 = .ok (.iconst 0, 1) := by decide +kernel
theorem dL_isSo_621 : decode cL_isSo 621 = .ok (.if_icmp .ne 7, 3) := by decide +kernel
theorem dL_isSo_624 : decode cL_isSo 624 = .ok (.iconst 1, 1) := by decide +kernel
theorem dL_isSo_625 : decode cL_isSo 625 = .ok (.goto 4, 3) := by decide +kernel
theorem dL_isSo_628 : decode cL_isSo 628 = .ok (.iconst 0, 1) := by decide +kernel
theorem dL_isSo_629 : decode cL_isSo 629 = .ok (.istore 7, 2) := by decide +kernel
theorem dL_isSo_631 : decode cL_isSo 631 = .ok (.aload_n 2, 1) := by decide +kernel
theorem dL_isSo_632 : decode cL_isSo 632 = .ok (.iconst 4, 1) := by decide +kernel
theorem dL_isSo_633 : decode cL_isSo 633 = .ok (.iload 13, 2) := by decide +kernel
theorem dL_isSo_635 : decode cL_isSo 635 = .ok (.iastore, 1) := by decide +kernel
theorem dL_isSo_636 : decode cL_isSo 636 = .ok (.aload_n 2, 1) := by decide +kernel
theorem dL_isSo_637 : decode cL_isSo 637 = .ok (.bipush 6, 2) := by decide +kernel
theorem dL_isSo_639 : decode cL_isSo 639 = .ok (.iload 14, 2) := by decide +kernel
theorem dL_isSo_641 : decode cL_isSo 641 = .ok (.iastore, 1) := by decide +kernel
theorem dL_isSo_642 : decode cL_isSo 642 = .ok (.iload 7, 2) := by decide +kernel
theorem dL_isSo_644 : decode cL_isSo 644 = .ok (.ireturn, 1) := by decide +kernel
theorem dL_law_0 : decode cL_law 0 = .ok (.new 11, 3) := by decide +kernel
theorem dL_law_3 : decode cL_law 3 = .ok (.dup, 1) := by decide +kernel
theorem dL_law_4 : decode cL_law 4 = .ok (.invokespecial 144, 3) := by decide +kernel
theorem dL_law_7 : decode cL_law 7 = .ok (.astore_n 1, 1) := by decide +kernel
theorem dL_law_8 : decode cL_law 8 = .ok (.bipush 10, 2) := by decide +kernel
theorem dL_law_10 : decode cL_law 10 = .ok (.newarray .int, 2) := by decide +kernel
theorem dL_law_12 : decode cL_law 12 = .ok (.astore_n 2, 1) := by decide +kernel
theorem dL_law_13 : decode cL_law 13 = .ok (.bipush 24, 2) := by decide +kernel
theorem dL_law_15 : decode cL_law 15 = .ok (.newarray .int, 2) := by decide +kernel
theorem dL_law_17 : decode cL_law 17 = .ok (.astore_n 3, 1) := by decide +kernel
theorem dL_law_18 : decode cL_law 18 = .ok (.bipush 24, 2) := by decide +kernel
theorem dL_law_20 : decode cL_law 20 = .ok (.newarray .int, 2) := by decide +kernel
theorem dL_law_22 : decode cL_law 22 = .ok (.astore 4, 2) := by decide +kernel
theorem dL_law_24 : decode cL_law 24 = .ok (.bipush 24, 2) := by decide +kernel
theorem dL_law_26 : decode cL_law 26 = .ok (.newarray .int, 2) := by decide +kernel
theorem dL_law_28 : decode cL_law 28 = .ok (.astore 5, 2) := by decide +kernel
theorem dL_law_30 : decode cL_law 30 = .ok (.aload_n 2, 1) := by decide +kernel
theorem dL_law_31 : decode cL_law 31 = .ok (.iconst 0, 1) := by decide +kernel
theorem dL_law_32 : decode cL_law 32 = .ok (.bipush 12, 2) := by decide +kernel
theorem dL_law_34 : decode cL_law 34 = .ok (.iastore, 1) := by decide +kernel
theorem dL_law_35 : decode cL_law 35 = .ok (.aload_n 2, 1) := by decide +kernel
theorem dL_law_36 : decode cL_law 36 = .ok (.iconst 1, 1) := by decide +kernel
theorem dL_law_37 : decode cL_law 37 = .ok (.iconst 3, 1) := by decide +kernel
theorem dL_law_38 : decode cL_law 38 = .ok (.iastore, 1) := by decide +kernel
theorem dL_law_39 : decode cL_law 39 = .ok (.aload_n 2, 1) := by decide +kernel
theorem dL_law_40 : decode cL_law 40 = .ok (.iconst 2, 1) := by decide +kernel
theorem dL_law_41 : decode cL_law 41 = .ok (.iconst 2, 1) := by decide +kernel
theorem dL_law_42 : decode cL_law 42 = .ok (.iastore, 1) := by decide +kernel
theorem dL_law_43 : decode cL_law 43 = .ok (.aload_n 2, 1) := by decide +kernel
theorem dL_law_44 : decode cL_law 44 = .ok (.iconst 5, 1) := by decide +kernel
theorem dL_law_45 : decode cL_law 45 = .ok (.iconst 1, 1) := by decide +kernel
theorem dL_law_46 : decode cL_law 46 = .ok (.iastore, 1) := by decide +kernel
theorem dL_law_47 : decode cL_law 47 = .ok (.aload_n 2, 1) := by decide +kernel
theorem dL_law_48 : decode cL_law 48 = .ok (.bipush 6, 2) := by decide +kernel
theorem dL_law_50 : decode cL_law 50 = .ok (.iconst 1, 1) := by decide +kernel
theorem dL_law_51 : decode cL_law 51 = .ok (.iastore, 1) := by decide +kernel
theorem dL_law_52 : decode cL_law 52 = .ok (.iconst 0, 1) := by decide +kernel
theorem dL_law_53 : decode cL_law 53 = .ok (.istore 6, 2) := by decide +kernel
theorem dL_law_55 : decode cL_law 55 = .ok (.iload 6, 2) := by decide +kernel
theorem dL_law_57 : decode cL_law 57 = .ok (.iconst 4, 1) := by decide +kernel
theorem dL_law_58 : decode cL_law 58 = .ok (.if_icmp .ge 22, 3) := by decide +kernel
theorem dL_law_61 : decode cL_law 61 = .ok (.aload_n 3, 1) := by decide +kernel
theorem dL_law_62 : decode cL_law 62 = .ok (.bipush 6, 2) := by decide +kernel
theorem dL_law_64 : decode cL_law 64 = .ok (.iload 6, 2) := by decide +kernel
theorem dL_law_66 : decode cL_law 66 = .ok (.imul, 1) := by decide +kernel
theorem dL_law_67 : decode cL_law 67 = .ok (.iconst 2, 1) := by decide +kernel
theorem dL_law_68 : decode cL_law 68 = .ok (.iload 6, 2) := by decide +kernel
theorem dL_law_70 : decode cL_law 70 = .ok (.imul, 1) := by decide +kernel
theorem dL_law_71 : decode cL_law 71 = .ok (.iconst 2, 1) := by decide +kernel
theorem dL_law_72 : decode cL_law 72 = .ok (.iadd, 1) := by decide +kernel
theorem dL_law_73 : decode cL_law 73 = .ok (.iastore, 1) := by decide +kernel
theorem dL_law_74 : decode cL_law 74 = .ok (.iinc 6 1, 3) := by decide +kernel
theorem dL_law_77 : decode cL_law 77 = .ok (.goto (-22), 3) := by decide +kernel
theorem dL_law_80 : decode cL_law 80 = .ok (.iconst 0, 1) := by decide +kernel
theorem dL_law_81 : decode cL_law 81 = .ok (.istore 6, 2) := by decide +kernel
theorem dL_law_83 : decode cL_law 83 = .ok (.iload 6, 2) := by decide +kernel
theorem dL_law_85 : decode cL_law 85 = .ok (.bipush 40, 2) := by decide +kernel
theorem dL_law_87 : decode cL_law 87 = .ok (.if_icmp .ge 490, 3) := by decide +kernel
theorem dL_law_90 : decode cL_law 90 = .ok (.aload_n 0, 1) := by decide +kernel
theorem dL_law_91 : decode cL_law 91 = .ok (.iconst 2, 1) := by decide +kernel
theorem dL_law_92 : decode cL_law 92 = .ok (.iload 6, 2) := by decide +kernel
theorem dL_law_94 : decode cL_law 94 = .ok (.imul, 1) := by decide +kernel
theorem dL_law_95 : decode cL_law 95 = .ok (.invokestatic 145, 3) := by decide +kernel
theorem dL_law_98 : decode cL_law 98 = .ok (.istore 7, 2) := by decide +kernel
theorem dL_law_100 : decode cL_law 100 = .ok (.aload_n 0, 1) := by decide +kernel
theorem dL_law_101 : decode cL_law 101 = .ok (.iconst 2, 1) := by decide +kernel
theorem dL_law_102 : decode cL_law 102 = .ok (.iload 6, 2) := by decide +kernel
theorem dL_law_104 : decode cL_law 104 = .ok (.imul, 1) := by decide +kernel
theorem dL_law_105 : decode cL_law 105 = .ok (.iconst 1, 1) := by decide +kernel
theorem dL_law_106 : decode cL_law 106 = .ok (.iadd, 1) := by decide +kernel
theorem dL_law_107 : decode cL_law 107 = .ok (.invokestatic 145, 3) := by decide +kernel
theorem dL_law_110 : decode cL_law 110 = .ok (.istore 8, 2) := by decide +kernel
theorem dL_law_112 : decode cL_law 112 = .ok (.iload 7, 2) := by decide +kernel
theorem dL_law_114 : decode cL_law 114 = .ok (.bipush 16, 2) := by decide +kernel
theorem dL_law_116 : decode cL_law 116 = .ok (.invokestatic 101, 3) := by decide +kernel
theorem dL_law_119 : decode cL_law 119 = .ok (.istore 9, 2) := by decide +kernel
theorem dL_law_121 : decode cL_law 121 = .ok (.iload 9, 2) := by decide +kernel
theorem dL_law_123 : decode cL_law 123 = .ok (.bipush 6, 2) := by decide +kernel
theorem dL_law_125 : decode cL_law 125 = .ok (.if_icmp .ge 7, 3) := by decide +kernel
theorem dL_law_128 : decode cL_law 128 = .ok (.iconst 0, 1) := by decide +kernel
theorem dL_law_129 : decode cL_law 129 = .ok (.goto 37, 3) := by decide +kernel
theorem dL_law_132 : decode cL_law 132 = .ok (.iload 9, 2) := by decide +kernel
theorem dL_law_134 : decode cL_law 134 = .ok (.bipush 8, 2) := by decide +kernel
theorem dL_law_136 : decode cL_law 136 = .ok (.if_icmp .ge 7, 3) := by decide +kernel
theorem dL_law_139 : decode cL_law 139 = .ok (.iconst 1, 1) := by decide +kernel
theorem dL_law_140 : decode cL_law 140 = .ok (.goto 26, 3) := by decide +kernel
theorem dL_law_143 : decode cL_law 143 = .ok (.iload 9, 2) := by decide +kernel
theorem dL_law_145 : decode cL_law 145 = .ok (.bipush 8, 2) := by decide +kernel
theorem dL_law_147 : decode cL_law 147 = .ok (.if_icmp .ne 7, 3) := by decide +kernel
theorem dL_law_150 : decode cL_law 150 = .ok (.iconst 2, 1) := by decide +kernel
theorem dL_law_151 : decode cL_law 151 = .ok (.goto 15, 3) := by decide +kernel
theorem dL_law_154 : decode cL_law 154 = .ok (.iload 9, 2) := by decide +kernel
theorem dL_law_156 : decode cL_law 156 = .ok (.bipush 9, 2) := by decide +kernel
theorem dL_law_158 : decode cL_law 158 = .ok (.if_icmp .ne 7, 3) := by decide +kernel
theorem dL_law_161 : decode cL_law 161 = .ok (.iconst 3, 1) := by decide +kernel
theorem dL_law_162 : decode cL_law 162 = .ok (.goto 4, 3) := by decide +kernel
theorem dL_law_165 : decode cL_law 165 = .ok (.iconst 4, 1) := by decide +kernel
theorem dL_law_166 : decode cL_law 166 = .ok (.istore 9, 2) := by decide +kernel
theorem dL_law_168 : decode cL_law 168 = .ok (.iload 9, 2) := by decide +kernel
theorem dL_law_170 : decode cL_law 170 = .ok (.iconst 2, 1) := by decide +kernel
theorem dL_law_171 : decode cL_law 171 = .ok (.if_icmp .ge 12, 3) := by decide +kernel
theorem dL_law_174 : decode cL_law 174 = .ok (.iload 8, 2) := by decide +kernel
theorem dL_law_176 : decode cL_law 176 = .ok (.iconst 4, 1) := by decide +kernel
theorem dL_law_177 : decode cL_law 177 = .ok (.invokestatic 101, 3) := by decide +kernel
theorem dL_law_180 : decode cL_law 180 = .ok (.goto 63, 3) := by decide +kernel
theorem dL_law_183 : decode cL_law 183 = .ok (.iload 9, 2) := by decide +kernel
theorem dL_law_185 : decode cL_law 185 = .ok (.iconst 2, 1) := by decide +kernel
theorem dL_law_186 : decode cL_law 186 = .ok (.if_icmp .ne 16, 3) := by decide +kernel
theorem dL_law_189 : decode cL_law 189 = .ok (.iload 8, 2) := by decide +kernel
theorem dL_law_191 : decode cL_law 191 = .ok (.aload_n 2, 1) := by decide +kernel
theorem dL_law_192 : decode cL_law 192 = .ok (.iconst 0, 1) := by decide +kernel
theorem dL_law_193 : decode cL_law 193 = .ok (.iaload, 1) := by decide +kernel
theorem dL_law_194 : decode cL_law 194 = .ok (.iconst 1, 1) := by decide +kernel
theorem dL_law_195 : decode cL_law 195 = .ok (.iadd, 1) := by decide +kernel
theorem dL_law_196 : decode cL_law 196 = .ok (.invokestatic 101, 3) := by decide +kernel
theorem dL_law_199 : decode cL_law 199 = .ok (.goto 44, 3) := by decide +kernel
theorem dL_law_202 : decode cL_law 202 = .ok (.iload 9, 2) := by decide +kernel
theorem dL_law_204 : decode cL_law 204 = .ok (.iconst 3, 1) := by decide +kernel
theorem dL_law_205 : decode cL_law 205 = .ok (.if_icmp .ne 12, 3) := by decide +kernel
theorem dL_law_208 : decode cL_law 208 = .ok (.iload 8, 2) := by decide +kernel
theorem dL_law_210 : decode cL_law 210 = .ok (.iconst 3, 1) := by decide +kernel
theorem dL_law_211 : decode cL_law 211 = .ok (.invokestatic 101, 3) := by decide +kernel
theorem dL_law_214 : decode cL_law 214 = .ok (.goto 29, 3) := by decide +kernel
theorem dL_law_217 : decode cL_law 217 = .ok (.iconst 1, 1) := by decide +kernel
theorem dL_law_218 : decode cL_law 218 = .ok (.iload 8, 2) := by decide +kernel
theorem dL_law_220 : decode cL_law 220 = .ok (.iload 8, 2) := by decide +kernel
theorem dL_law_222 : decode cL_law 222 = .ok (.bipush 20, 2) := by decide +kernel
theorem dL_law_224 : decode cL_law 224 = .ok (.ishr, 1) := by decide +kernel
theorem dL_law_225 : decode cL_law 225 = .ok (.iconst 4, 1) := by decide +kernel
theorem dL_law_226 : decode cL_law 226 = .ok (.invokestatic 101, 3) := by decide +kernel
theorem dL_law_229 : decode cL_law 229 = .ok (.ifCond .ne 8, 3) := by decide +kernel
theorem dL_law_232 : decode cL_law 232 = .ok (.bipush 99, 2) := by decide +kernel
theorem dL_law_234 : decode cL_law 234 = .ok (.goto 5, 3) := by decide +kernel
theorem dL_law_237 : decode cL_law 237 = .ok (.bipush 6, 2) := by decide +kernel
theorem dL_law_239 : decode cL_law 239 = .ok (.invokestatic 101, 3) := by decide +kernel
theorem dL_law_242 : decode cL_law 242 = .ok (.iadd, 1) := by decide +kernel
theorem dL_law_243 : decode cL_law 243 = .ok (.istore 10, 2) := by decide +kernel
theorem dL_law_245 : decode cL_law 245 = .ok (.iload 9, 2) := by decide +kernel
theorem dL_law_247 : decode cL_law 247 = .ok (.ifCond .ne 15, 3) := by decide +kernel
theorem dL_law_250 : decode cL_law 250 = .ok (.iload 8, 2) := by decide +kernel
theorem dL_law_252 : decode cL_law 252 = .ok (.iconst 3, 1) := by decide +kernel
theorem dL_law_253 : decode cL_law 253 = .ok (.ishr, 1) := by decide +kernel
theorem dL_law_254 : decode cL_law 254 = .ok (.bipush 10, 2) := by decide +kernel
theorem dL_law_256 : decode cL_law 256 = .ok (.invokestatic 101, 3) := by decide +kernel
theorem dL_law_259 : decode cL_law 259 = .ok (.goto 102, 3) := by decide +kernel
theorem dL_law_262 : decode cL_law 262 = .ok (.iload 9, 2) := by decide +kernel
theorem dL_law_264 : decode cL_law 264 = .ok (.iconst 1, 1) := by decide +kernel
theorem dL_law_265 : decode cL_law 265 = .ok (.if_icmp .ne 18, 3) := by decide +kernel
theorem dL_law_268 : decode cL_law 268 = .ok (.iload 8, 2) := by decide +kernel
theorem dL_law_270 : decode cL_law 270 = .ok (.iconst 3, 1) := by decide +kernel
theorem dL_law_271 : decode cL_law 271 = .ok (.ishr, 1) := by decide +kernel
theorem dL_law_272 : decode cL_law 272 = .ok (.bipush 19, 2) := by decide +kernel
theorem dL_law_274 : decode cL_law 274 = .ok (.invokestatic 101, 3) := by decide +kernel
theorem dL_law_277 : decode cL_law 277 = .ok (.bipush 9, 2) := by decide +kernel
theorem dL_law_279 : decode cL_law 279 = .ok (.isub, 1) := by decide +kernel
theorem dL_law_280 : decode cL_law 280 = .ok (.goto 81, 3) := by decide +kernel
theorem dL_law_283 : decode cL_law 283 = .ok (.iload 9, 2) := by decide +kernel
theorem dL_law_285 : decode cL_law 285 = .ok (.iconst 2, 1) := by decide +kernel
theorem dL_law_286 : decode cL_law 286 = .ok (.if_icmp .ne 16, 3) := by decide +kernel
theorem dL_law_289 : decode cL_law 289 = .ok (.iload 8, 2) := by decide +kernel
theorem dL_law_291 : decode cL_law 291 = .ok (.bipush 6, 2) := by decide +kernel
theorem dL_law_293 : decode cL_law 293 = .ok (.ishr, 1) := by decide +kernel
theorem dL_law_294 : decode cL_law 294 = .ok (.bipush 90, 2) := by decide +kernel
theorem dL_law_296 : decode cL_law 296 = .ok (.invokestatic 101, 3) := by decide +kernel
theorem dL_law_299 : decode cL_law 299 = .ok (.goto 62, 3) := by decide +kernel
theorem dL_law_302 : decode cL_law 302 = .ok (.iload 9, 2) := by decide +kernel
theorem dL_law_304 : decode cL_law 304 = .ok (.iconst 3, 1) := by decide +kernel
theorem dL_law_305 : decode cL_law 305 = .ok (.if_icmp .ne 55, 3) := by decide +kernel
theorem dL_law_308 : decode cL_law 308 = .ok (.iload 10, 2) := by decide +kernel
theorem dL_law_310 : decode cL_law 310 = .ok (.ifCond .ne 18, 3) := by decide +kernel
theorem dL_law_313 : decode cL_law 313 = .ok (.bipush 8, 2) := by decide +kernel
theorem dL_law_315 : decode cL_law 315 = .ok (.iload 8, 2) := by decide +kernel
theorem dL_law_317 : decode cL_law 317 = .ok (.iconst 3, 1) := by decide +kernel
theorem dL_law_318 : decode cL_law 318 = .ok (.ishr, 1) := by decide +kernel
theorem dL_law_319 : decode cL_law 319 = .ok (.bipush 33, 2) := by decide +kernel
theorem dL_law_321 : decode cL_law 321 = .ok (.invokestatic 101, 3) := by decide +kernel
theorem dL_law_324 : decode cL_law 324 = .ok (.iadd, 1) := by decide +kernel
theorem dL_law_325 : decode cL_law 325 = .ok (.goto 36, 3) := by decide +kernel
theorem dL_law_328 : decode cL_law 328 = .ok (.iload 10, 2) := by decide +kernel
theorem dL_law_330 : decode cL_law 330 = .ok (.iconst 1, 1) := by decide +kernel
theorem dL_law_331 : decode cL_law 331 = .ok (.if_icmp .ne 17, 3) := by decide +kernel
theorem dL_law_334 : decode cL_law 334 = .ok (.iconst 1, 1) := by decide +kernel
theorem dL_law_335 : decode cL_law 335 = .ok (.iload 8, 2) := by decide +kernel
theorem dL_law_337 : decode cL_law 337 = .ok (.iconst 3, 1) := by decide +kernel
theorem dL_law_338 : decode cL_law 338 = .ok (.ishr, 1) := by decide +kernel
theorem dL_law_339 : decode cL_law 339 = .ok (.bipush 9, 2) := by decide +kernel
theorem dL_law_341 : decode cL_law 341 = .ok (.invokestatic 101, 3) := by decide +kernel
theorem dL_law_344 : decode cL_law 344 = .ok (.iadd, 1) := by decide +kernel
theorem dL_law_345 : decode cL_law 345 = .ok (.goto 16, 3) := by decide +kernel
theorem dL_law_348 : decode cL_law 348 = .ok (.iload 8, 2) := by decide +kernel
theorem dL_law_350 : decode cL_law 350 = .ok (.iconst 3, 1) := by decide +kernel
theorem dL_law_351 : decode cL_law 351 = .ok (.ishr, 1) := by decide +kernel
theorem dL_law_352 : decode cL_law 352 = .ok (.bipush 6, 2) := by decide +kernel
theorem dL_law_354 : decode cL_law 354 = .ok (.invokestatic 101, 3) := by decide +kernel
theorem dL_law_357 : decode cL_law 357 = .ok (.goto 4, 3) := by decide +kernel
theorem dL_law_360 : decode cL_law 360 = .ok (.iconst 0, 1) := by decide +kernel
theorem dL_law_361 : decode cL_law 361 = .ok (.istore 11, 2) := by decide +kernel
theorem dL_law_363 : decode cL_law 363 = .ok (.iload 7, 2) := by decide +kernel
theorem dL_law_365 : decode cL_law 365 = .ok (.bipush 8, 2) := by decide +kernel
theorem dL_law_367 : decode cL_law 367 = .ok (.ishr, 1) := by decide +kernel
theorem dL_law_368 : decode cL_law 368 = .ok (.iconst 3, 1) := by decide +kernel
theorem dL_law_369 : decode cL_law 369 = .ok (.invokestatic 101, 3) := by decide +kernel
theorem dL_law_372 : decode cL_law 372 = .ok (.ifCond .ne 20, 3) := by decide +kernel
theorem dL_law_375 : decode cL_law 375 = .ok (.aload_n 1, 1) := by decide +kernel
theorem dL_law_376 : decode cL_law 376 = .ok (.iload 8, 2) := by decide +kernel
theorem dL_law_378 : decode cL_law 378 = .ok (.iconst 4, 1) := by decide +kernel
theorem dL_law_379 : decode cL_law 379 = .ok (.invokestatic 101, 3) := by decide +kernel
theorem dL_law_382 : decode cL_law 382 = .ok (.invokestatic 138, 3) := by decide +kernel
theorem dL_law_385 : decode cL_law 385 = .ok (.ifCond .ne 7, 3) := by decide +kernel
theorem dL_law_388 : decode cL_law 388 = .ok (.iconst 1, 1) := by decide +kernel
theorem dL_law_389 : decode cL_law 389 = .ok (.goto 4, 3) := by decide +kernel
theorem dL_law_392 : decode cL_law 392 = .ok (.iconst 0, 1) := by decide +kernel
theorem dL_law_393 : decode cL_law 393 = .ok (.istore 12, 2) := by decide +kernel
theorem dL_law_395 : decode cL_law 395 = .ok (.iload 12, 2) := by decide +kernel
theorem dL_law_397 : decode cL_law 397 = .ok (.iconst 1, 1) := by decide +kernel
theorem dL_law_398 : decode cL_law 398 = .ok (.if_icmp .ne 7, 3) := by decide +kernel
theorem dL_law_401 : decode cL_law 401 = .ok (.iconst 0, 1) := by decide +kernel
theorem dL_law_402 : decode cL_law 402 = .ok (.goto 5, 3) := by decide +kernel
theorem dL_law_405 : decode cL_law 405 = .ok (.iload 9, 2) := by decide +kernel
theorem dL_law_407 : decode cL_law 407 = .ok (.istore 9, 2) := by decide +kernel
theorem dL_law_409 : decode cL_law 409 = .ok (.iload 12, 2) := by decide +kernel
theorem dL_law_411 : decode cL_law 411 = .ok (.iconst 1, 1) := by decide +kernel
theorem dL_law_412 : decode cL_law 412 = .ok (.if_icmp .ne 12, 3) := by decide +kernel
theorem dL_law_415 : decode cL_law 415 = .ok (.iload 8, 2) := by decide +kernel
theorem dL_law_417 : decode cL_law 417 = .ok (.iconst 4, 1) := by decide +kernel
theorem dL_law_418 : decode cL_law 418 = .ok (.invokestatic 101, 3) := by decide +kernel
theorem dL_law_421 : decode cL_law 421 = .ok (.goto 5, 3) := by decide +kernel
theorem dL_law_424 : decode cL_law 424 = .ok (.iload 10, 2) := by decide +kernel
theorem dL_law_426 : decode cL_law 426 = .ok (.istore 10, 2) := by decide +kernel
theorem dL_law_428 : decode cL_law 428 = .ok (.iload 12, 2) := by decide +kernel
theorem dL_law_430 : decode cL_law 430 = .ok (.iconst 1, 1) := by decide +kernel
theorem dL_law_431 : decode cL_law 431 = .ok (.if_icmp .ne 15, 3) := by decide +kernel
theorem dL_law_434 : decode cL_law 434 = .ok (.iload 8, 2) := by decide +kernel
theorem dL_law_436 : decode cL_law 436 = .ok (.iconst 3, 1) := by decide +kernel
theorem dL_law_437 : decode cL_law 437 = .ok (.ishr, 1) := by decide +kernel
theorem dL_law_438 : decode cL_law 438 = .ok (.bipush 10, 2) := by decide +kernel
theorem dL_law_440 : decode cL_law 440 = .ok (.invokestatic 101, 3) := by decide +kernel
theorem dL_law_443 : decode cL_law 443 = .ok (.goto 5, 3) := by decide +kernel
theorem dL_law_446 : decode cL_law 446 = .ok (.iload 11, 2) := by decide +kernel
theorem dL_law_448 : decode cL_law 448 = .ok (.istore 11, 2) := by decide +kernel
theorem dL_law_450 : decode cL_law 450 = .ok (.aload_n 1, 1) := by decide +kernel
theorem dL_law_451 : decode cL_law 451 = .ok (.invokestatic 149, 3) := by decide +kernel
theorem dL_law_454 : decode cL_law 454 = .ok (.lstore 13, 2) := by decide +kernel
theorem dL_law_456 : decode cL_law 456 = .ok (.aload_n 1, 1) := by decide +kernel
theorem dL_law_457 : decode cL_law 457 = .ok (.iload 9, 2) := by decide +kernel
theorem dL_law_459 : decode cL_law 459 = .ok (.iload 10, 2) := by decide +kernel
theorem dL_law_461 : decode cL_law 461 = .ok (.iload 11, 2) := by decide +kernel
theorem dL_law_463 : decode cL_law 463 = .ok (.invokestatic 153, 3) := by decide +kernel
theorem dL_law_466 : decode cL_law 466 = .ok (.istore 15, 2) := by decide +kernel
theorem dL_law_468 : decode cL_law 468 = .ok (.iload 15, 2) := by decide +kernel
theorem dL_law_470 : decode cL_law 470 = .ok (.bipush (-100), 2) := by decide +kernel
theorem dL_law_472 : decode cL_law 472 = .ok (.if_icmp .ge 16, 3) := by decide +kernel
theorem dL_law_475 : decode cL_law 475 = .ok (.aload_n 1, 1) := by decide +kernel
theorem dL_law_476 : decode cL_law 476 = .ok (.invokestatic 149, 3) := by decide +kernel
theorem dL_law_479 : decode cL_law 479 = .ok (.lload 13, 2) := by decide +kernel
theorem dL_law_481 : decode cL_law 481 = .ok (.lcmp, 1) := by decide +kernel
theorem dL_law_482 : decode cL_law 482 = .ok (.ifCond .eq 50, 3) := by decide +kernel
theorem dL_law_485 : decode cL_law 485 = .ok (.goto 45, 3) := by decide +kernel
theorem dL_law_488 : decode cL_law 488 = .ok (.iload 7, 2) := by decide +kernel
theorem dL_law_490 : decode cL_law 490 = .ok (.bipush 24, 2) := by decide +kernel
theorem dL_law_492 : decode cL_law 492 = .ok (.ishr, 1) := by decide +kernel
theorem dL_law_493 : decode cL_law 493 = .ok (.iconst 3, 1) := by decide +kernel
theorem dL_law_494 : decode cL_law 494 = .ok (.iand, 1) := by decide +kernel
theorem dL_law_495 : decode cL_law 495 = .ok (.ifCond .ne 37, 3) := by decide +kernel
theorem dL_law_498 : decode cL_law 498 = .ok (.aload_n 1, 1) := by decide +kernel
theorem dL_law_499 : decode cL_law 499 = .ok (.invokestatic 157, 3) := by decide +kernel
theorem dL_law_502 : decode cL_law 502 = .ok (.ifCond .lt 28, 3) := by decide +kernel
theorem dL_law_505 : decode cL_law 505 = .ok (.aload_n 1, 1) := by decide +kernel
theorem dL_law_506 : decode cL_law 506 = .ok (.invokestatic 149, 3) := by decide +kernel
theorem dL_law_509 : decode cL_law 509 = .ok (.lload 13, 2) := by decide +kernel
theorem dL_law_511 : decode cL_law 511 = .ok (.lcmp, 1) := by decide +kernel
theorem dL_law_512 : decode cL_law 512 = .ok (.ifCond .ne 18, 3) := by decide +kernel
theorem dL_law_515 : decode cL_law 515 = .ok (.aload_n 1, 1) := by decide +kernel
theorem dL_law_516 : decode cL_law 516 = .ok (.iload 9, 2) := by decide +kernel
theorem dL_law_518 : decode cL_law 518 = .ok (.iload 10, 2) := by decide +kernel
theorem dL_law_520 : decode cL_law 520 = .ok (.iload 11, 2) := by decide +kernel
theorem dL_law_522 : decode cL_law 522 = .ok (.invokestatic 153, 3) := by decide +kernel
theorem dL_law_525 : decode cL_law 525 = .ok (.iload 15, 2) := by decide +kernel
theorem dL_law_527 : decode cL_law 527 = .ok (.if_icmp .eq 5, 3) := by decide +kernel
theorem dL_law_530 : decode cL_law 530 = .ok (.iconst 0, 1) := by decide +kernel
theorem dL_law_531 : decode cL_law 531 = .ok (.ireturn, 1) := by decide +kernel
theorem dL_law_532 : decode cL_law 532 = .ok (.iload 15, 2) := by decide +kernel
theorem dL_law_534 : decode cL_law 534 = .ok (.iload 9, 2) := by decide +kernel
theorem dL_law_536 : decode cL_law 536 = .ok (.iload 10, 2) := by decide +kernel
theorem dL_law_538 : decode cL_law 538 = .ok (.iload 11, 2) := by decide +kernel
theorem dL_law_540 : decode cL_law 540 = .ok (.aload_n 2, 1) := by decide +kernel
theorem dL_law_541 : decode cL_law 541 = .ok (.aload_n 3, 1) := by decide +kernel
theorem dL_law_542 : decode cL_law 542 = .ok (.aload 4, 2) := by decide +kernel
theorem dL_law_544 : decode cL_law 544 = .ok (.aload 5, 2) := by decide +kernel
theorem dL_law_546 : decode cL_law 546 = .ok (.invokestatic 160, 3) := by decide +kernel
theorem dL_law_549 : decode cL_law 549 = .ok (.if_icmp .ne 20, 3) := by decide +kernel
theorem dL_law_552 : decode cL_law 552 = .ok (.aload_n 1, 1) := by decide +kernel
theorem dL_law_553 : decode cL_law 553 = .ok (.iload 8, 2) := by decide +kernel
theorem dL_law_555 : decode cL_law 555 = .ok (.iconst 5, 1) := by decide +kernel
theorem dL_law_556 : decode cL_law 556 = .ok (.ishr, 1) := by decide +kernel
theorem dL_law_557 : decode cL_law 557 = .ok (.aload_n 2, 1) := by decide +kernel
theorem dL_law_558 : decode cL_law 558 = .ok (.aload_n 3, 1) := by decide +kernel
theorem dL_law_559 : decode cL_law 559 = .ok (.aload 4, 2) := by decide +kernel
theorem dL_law_561 : decode cL_law 561 = .ok (.aload 5, 2) := by decide +kernel
theorem dL_law_563 : decode cL_law 563 = .ok (.invokestatic 164, 3) := by decide +kernel
theorem dL_law_566 : decode cL_law 566 = .ok (.ifCond .ne 5, 3) := by decide +kernel
theorem dL_law_569 : decode cL_law 569 = .ok (.iconst 0, 1) := by decide +kernel
theorem dL_law_570 : decode cL_law 570 = .ok (.ireturn, 1) := by decide +kernel
theorem dL_law_571 : decode cL_law 571 = .ok (.iinc 6 1, 3) := by decide +kernel
theorem dL_law_574 : decode cL_law 574 = .ok (.goto (-491), 3) := by decide +kernel
theorem dL_law_577 : decode cL_law 577 = .ok (.iconst 1, 1) := by decide +kernel
theorem dL_law_578 : decode cL_law 578 = .ok (.ireturn, 1) := by decide +kernel
