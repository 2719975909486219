theorem dX0_init_0 : decode cX0_init 0 = .ok (.aload_n 0, 1) := by decide +kernel
theorem dX0_init_1 : decode cX0_init 1 = .ok (.invokespecial 3, 3) := by decide +kernel
theorem dX0_init_4 : decode cX0_init 4 = .ok (.aload_n 0, 1) := by decide +kernel
theorem dX0_init_5 : decode cX0_init 5 = .ok (.iconst 1, 1) := by decide +kernel
theorem dX0_init_6 : decode cX0_init 6 = .ok (.putfield 9, 3) := by decide +kernel
theorem dX0_init_9 : decode cX0_init 9 = .ok (.aload_n 0, 1) := by decide +kernel
theorem dX0_init_10 : decode cX0_init 10 = .ok (.iconst 1, 1) := by decide +kernel
theorem dX0_init_11 : decode cX0_init 11 = .ok (.putfield 15, 3) := by decide +kernel
theorem dX0_init_14 : decode cX0_init 14 = .ok (.return_, 1) := by decide +kernel
theorem dX0_copyFrom_0 : decode cX0_copyFrom 0 = .ok (.aload_n 0, 1) := by decide +kernel
theorem dX0_copyFrom_1 : decode cX0_copyFrom 1 = .ok (.aload_n 1, 1) := by decide +kernel
theorem dX0_copyFrom_2 : decode cX0_copyFrom 2 = .ok (.getfield 19, 3) := by decide +kernel
theorem dX0_copyFrom_5 : decode cX0_copyFrom 5 = .ok (.putfield 19, 3) := by decide +kernel
theorem dX0_copyFrom_8 : decode cX0_copyFrom 8 = .ok (.aload_n 0, 1) := by decide +kernel
theorem dX0_copyFrom_9 : decode cX0_copyFrom 9 = .ok (.aload_n 1, 1) := by decide +kernel
theorem dX0_copyFrom_10 : decode cX0_copyFrom 10 = .ok (.getfield 9, 3) := by decide +kernel
theorem dX0_copyFrom_13 : decode cX0_copyFrom 13 = .ok (.putfield 9, 3) := by decide +kernel
theorem dX0_copyFrom_16 : decode cX0_copyFrom 16 = .ok (.aload_n 0, 1) := by decide +kernel
theorem dX0_copyFrom_17 : decode cX0_copyFrom 17 = .ok (.aload_n 1, 1) := by decide +kernel
theorem dX0_copyFrom_18 : decode cX0_copyFrom 18 = .ok (.getfield 15, 3) := by decide +kernel
theorem dX0_copyFrom_21 : decode cX0_copyFrom 21 = .ok (.putfield 15, 3) := by decide +kernel
theorem dX0_copyFrom_24 : decode cX0_copyFrom 24 = .ok (.return_, 1) := by decide +kernel
theorem dX0_rightNumber_0 : decode cX0_rightNumber 0 = .ok (.aload_n 0, 1) := by decide +kernel
theorem dX0_rightNumber_1 : decode cX0_rightNumber 1 = .ok (.getfield 15, 3) := by decide +kernel
theorem dX0_rightNumber_4 : decode cX0_rightNumber 4 = .ok (.ifCond .eq 7, 3) := by decide +kernel
theorem dX0_rightNumber_7 : decode cX0_rightNumber 7 = .ok (.iconst 1, 1) := by decide +kernel
theorem dX0_rightNumber_8 : decode cX0_rightNumber 8 = .ok (.goto 4, 3) := by decide +kernel
theorem dX0_rightNumber_11 : decode cX0_rightNumber 11 = .ok (.iconst 0, 1) := by decide +kernel
theorem dX0_rightNumber_12 : decode cX0_rightNumber 12 = .ok (.ireturn, 1) := by decide +kernel
theorem dX0_goTurn_0 : decode cX0_goTurn 0 = .ok (.iconst 0, 1) := by decide +kernel
theorem dX0_goTurn_1 : decode cX0_goTurn 1 = .ok (.istore_n 2, 1) := by decide +kernel
theorem dX0_goTurn_2 : decode cX0_goTurn 2 = .ok (.iload_n 2, 1) := by decide +kernel
theorem dX0_goTurn_3 : decode cX0_goTurn 3 = .ok (.aload_n 0, 1) := by decide +kernel
theorem dX0_goTurn_4 : decode cX0_goTurn 4 = .ok (.getfield 9, 3) := by decide +kernel
theorem dX0_goTurn_7 : decode cX0_goTurn 7 = .ok (.if_icmp .ge 14, 3) := by decide +kernel
theorem dX0_goTurn_10 : decode cX0_goTurn 10 = .ok (.aload_n 0, 1) := by decide +kernel
theorem dX0_goTurn_11 : decode cX0_goTurn 11 = .ok (.iload_n 1, 1) := by decide +kernel
theorem dX0_goTurn_12 : decode cX0_goTurn 12 = .ok (.invokevirtual 22, 3) := by decide +kernel
theorem dX0_goTurn_15 : decode cX0_goTurn 15 = .ok (.iinc 2 1, 3) := by decide +kernel
theorem dX0_goTurn_18 : decode cX0_goTurn 18 = .ok (.goto (-16), 3) := by decide +kernel
theorem dX0_goTurn_21 : decode cX0_goTurn 21 = .ok (.return_, 1) := by decide +kernel
theorem dX0_goStep_0 : decode cX0_goStep 0 = .ok (.aload_n 0, 1) := by decide +kernel
theorem dX0_goStep_1 : decode cX0_goStep 1 = .ok (.getfield 15, 3) := by decide +kernel
theorem dX0_goStep_4 : decode cX0_goStep 4 = .ok (.ifCond .eq 14, 3) := by decide +kernel
theorem dX0_goStep_7 : decode cX0_goStep 7 = .ok (.aload_n 0, 1) := by decide +kernel
theorem dX0_goStep_8 : decode cX0_goStep 8 = .ok (.getfield 19, 3) := by decide +kernel
theorem dX0_goStep_11 : decode cX0_goStep 11 = .ok (.iload_n 1, 1) := by decide +kernel
theorem dX0_goStep_12 : decode cX0_goStep 12 = .ok (.if_icmp .lt 29, 3) := by decide +kernel
theorem dX0_goStep_15 : decode cX0_goStep 15 = .ok (.goto 10, 3) := by decide +kernel
theorem dX0_goStep_18 : decode cX0_goStep 18 = .ok (.aload_n 0, 1) := by decide +kernel
theorem dX0_goStep_19 : decode cX0_goStep 19 = .ok (.getfield 19, 3) := by decide +kernel
theorem dX0_goStep_22 : decode cX0_goStep 22 = .ok (.ifCond .gt 19, 3) := by decide +kernel
theorem dX0_goStep_25 : decode cX0_goStep 25 = .ok (.aload_n 0, 1) := by decide +kernel
theorem dX0_goStep_26 : decode cX0_goStep 26 = .ok (.aload_n 0, 1) := by decide +kernel
theorem dX0_goStep_27 : decode cX0_goStep 27 = .ok (.getfield 15, 3) := by decide +kernel
theorem dX0_goStep_30 : decode cX0_goStep 30 = .ok (.ifCond .ne 7, 3) := by decide +kernel
theorem dX0_goStep_33 : decode cX0_goStep 33 = .ok (.iconst 1, 1) := by decide +kernel
theorem dX0_goStep_34 : decode cX0_goStep 34 = .ok (.goto 4, 3) := by decide +kernel
theorem dX0_goStep_37 : decode cX0_goStep 37 = .ok (.iconst 0, 1) := by decide +kernel
theorem dX0_goStep_38 : decode cX0_goStep 38 = .ok (.putfield 15, 3) := by decide +kernel
theorem dX0_goStep_41 : decode cX0_goStep 41 = .ok (.aload_n 0, 1) := by decide +kernel
theorem dX0_goStep_42 : decode cX0_goStep 42 = .ok (.dup, 1) := by decide +kernel
theorem dX0_goStep_43 : decode cX0_goStep 43 = .ok (.getfield 19, 3) := by decide +kernel
theorem dX0_goStep_46 : decode cX0_goStep 46 = .ok (.aload_n 0, 1) := by decide +kernel
theorem dX0_goStep_47 : decode cX0_goStep 47 = .ok (.getfield 15, 3) := by decide +kernel
theorem dX0_goStep_50 : decode cX0_goStep 50 = .ok (.ifCond .eq 7, 3) := by decide +kernel
theorem dX0_goStep_53 : decode cX0_goStep 53 = .ok (.iconst 1, 1) := by decide +kernel
theorem dX0_goStep_54 : decode cX0_goStep 54 = .ok (.goto 4, 3) := by decide +kernel
theorem dX0_goStep_57 : decode cX0_goStep 57 = .ok (.iconst (-1), 1) := by decide +kernel
theorem dX0_goStep_58 : decode cX0_goStep 58 = .ok (.iadd, 1) := by decide +kernel
theorem dX0_goStep_59 : decode cX0_goStep 59 = .ok (.putfield 19, 3) := by decide +kernel
theorem dX0_goStep_62 : decode cX0_goStep 62 = .ok (.return_, 1) := by decide +kernel
theorem dX0_unfoldedPlaceIn_0 : decode cX0_unfoldedPlaceIn 0 = .ok (.iconst 2, 1) := by decide +kernel
theorem dX0_unfoldedPlaceIn_1 : decode cX0_unfoldedPlaceIn 1 = .ok (.iload_n 2, 1) := by decide +kernel
theorem dX0_unfoldedPlaceIn_2 : decode cX0_unfoldedPlaceIn 2 = .ok (.iconst 1, 1) := by decide +kernel
theorem dX0_unfoldedPlaceIn_3 : decode cX0_unfoldedPlaceIn 3 = .ok (.invokestatic 26, 3) := by decide +kernel
theorem dX0_unfoldedPlaceIn_6 : decode cX0_unfoldedPlaceIn 6 = .ok (.imul, 1) := by decide +kernel
theorem dX0_unfoldedPlaceIn_7 : decode cX0_unfoldedPlaceIn 7 = .ok (.istore_n 3, 1) := by decide +kernel
theorem dX0_unfoldedPlaceIn_8 : decode cX0_unfoldedPlaceIn 8 = .ok (.aload_n 0, 1) := by decide +kernel
theorem dX0_unfoldedPlaceIn_9 : decode cX0_unfoldedPlaceIn 9 = .ok (.getfield 15, 3) := by decide +kernel
theorem dX0_unfoldedPlaceIn_12 : decode cX0_unfoldedPlaceIn 12 = .ok (.ifCond .eq 10, 3) := by decide +kernel
theorem dX0_unfoldedPlaceIn_15 : decode cX0_unfoldedPlaceIn 15 = .ok (.aload_n 0, 1) := by decide +kernel
theorem dX0_unfoldedPlaceIn_16 : decode cX0_unfoldedPlaceIn 16 = .ok (.getfield 19, 3) := by decide +kernel
theorem dX0_unfoldedPlaceIn_19 : decode cX0_unfoldedPlaceIn 19 = .ok (.goto 9, 3) := by decide +kernel
theorem dX0_unfoldedPlaceIn_22 : decode cX0_unfoldedPlaceIn 22 = .ok (.iload_n 3, 1) := by decide +kernel
theorem dX0_unfoldedPlaceIn_23 : decode cX0_unfoldedPlaceIn 23 = .ok (.aload_n 0, 1) := by decide +kernel
theorem dX0_unfoldedPlaceIn_24 : decode cX0_unfoldedPlaceIn 24 = .ok (.getfield 19, 3) := by decide +kernel
theorem dX0_unfoldedPlaceIn_27 : decode cX0_unfoldedPlaceIn 27 = .ok (.isub, 1) := by decide +kernel
theorem dX0_unfoldedPlaceIn_28 : decode cX0_unfoldedPlaceIn 28 = .ok (.istore 4, 2) := by decide +kernel
theorem dX0_unfoldedPlaceIn_30 : decode cX0_unfoldedPlaceIn 30 = .ok (.iload 4, 2) := by decide +kernel
theorem dX0_unfoldedPlaceIn_32 : decode cX0_unfoldedPlaceIn 32 = .ok (.aload_n 0, 1) := by decide +kernel
theorem dX0_unfoldedPlaceIn_33 : decode cX0_unfoldedPlaceIn 33 = .ok (.getfield 9, 3) := by decide +kernel
theorem dX0_unfoldedPlaceIn_36 : decode cX0_unfoldedPlaceIn 36 = .ok (.iload_n 1, 1) := by decide +kernel
theorem dX0_unfoldedPlaceIn_37 : decode cX0_unfoldedPlaceIn 37 = .ok (.imul, 1) := by decide +kernel
theorem dX0_unfoldedPlaceIn_38 : decode cX0_unfoldedPlaceIn 38 = .ok (.iadd, 1) := by decide +kernel
theorem dX0_unfoldedPlaceIn_39 : decode cX0_unfoldedPlaceIn 39 = .ok (.iload_n 3, 1) := by decide +kernel
theorem dX0_unfoldedPlaceIn_40 : decode cX0_unfoldedPlaceIn 40 = .ok (.irem, 1) := by decide +kernel
theorem dX0_unfoldedPlaceIn_41 : decode cX0_unfoldedPlaceIn 41 = .ok (.istore 5, 2) := by decide +kernel
theorem dX0_unfoldedPlaceIn_43 : decode cX0_unfoldedPlaceIn 43 = .ok (.iload 5, 2) := by decide +kernel
theorem dX0_unfoldedPlaceIn_45 : decode cX0_unfoldedPlaceIn 45 = .ok (.iload_n 2, 1) := by decide +kernel
theorem dX0_unfoldedPlaceIn_46 : decode cX0_unfoldedPlaceIn 46 = .ok (.if_icmp .gt 8, 3) := by decide +kernel
theorem dX0_unfoldedPlaceIn_49 : decode cX0_unfoldedPlaceIn 49 = .ok (.iload 5, 2) := by decide +kernel
theorem dX0_unfoldedPlaceIn_51 : decode cX0_unfoldedPlaceIn 51 = .ok (.goto 7, 3) := by decide +kernel
theorem dX0_unfoldedPlaceIn_54 : decode cX0_unfoldedPlaceIn 54 = .ok (.iload_n 3, 1) := by decide +kernel
theorem dX0_unfoldedPlaceIn_55 : decode cX0_unfoldedPlaceIn 55 = .ok (.iload 5, 2) := by decide +kernel
theorem dX0_unfoldedPlaceIn_57 : decode cX0_unfoldedPlaceIn 57 = .ok (.isub, 1) := by decide +kernel
theorem dX0_unfoldedPlaceIn_58 : decode cX0_unfoldedPlaceIn 58 = .ok (.ireturn, 1) := by decide +kernel
theorem dX0_followWord_0 : decode cX0_followWord 0 = .ok (.iload_n 1, 1) := by decide +kernel
theorem dX0_followWord_1 : decode cX0_followWord 1 = .ok (.iconst 3, 1) := by decide +kernel
theorem dX0_followWord_2 : decode cX0_followWord 2 = .ok (.irem, 1) := by decide +kernel
theorem dX0_followWord_3 : decode cX0_followWord 3 = .ok (.lookupswitch 62 #[(0, 25), (1, 44)], 25) := by decide +kernel
theorem dX0_followWord_28 : decode cX0_followWord 28 = .ok (.aload_n 0, 1) := by decide +kernel
theorem dX0_followWord_29 : decode cX0_followWord 29 = .ok (.aload_n 0, 1) := by decide +kernel
theorem dX0_followWord_30 : decode cX0_followWord 30 = .ok (.getfield 15, 3) := by decide +kernel
theorem dX0_followWord_33 : decode cX0_followWord 33 = .ok (.ifCond .ne 7, 3) := by decide +kernel
theorem dX0_followWord_36 : decode cX0_followWord 36 = .ok (.iconst 1, 1) := by decide +kernel
theorem dX0_followWord_37 : decode cX0_followWord 37 = .ok (.goto 4, 3) := by decide +kernel
theorem dX0_followWord_40 : decode cX0_followWord 40 = .ok (.iconst 0, 1) := by decide +kernel
theorem dX0_followWord_41 : decode cX0_followWord 41 = .ok (.putfield 15, 3) := by decide +kernel
theorem dX0_followWord_44 : decode cX0_followWord 44 = .ok (.goto 35, 3) := by decide +kernel
theorem dX0_followWord_47 : decode cX0_followWord 47 = .ok (.aload_n 0, 1) := by decide +kernel
theorem dX0_followWord_48 : decode cX0_followWord 48 = .ok (.aload_n 0, 1) := by decide +kernel
theorem dX0_followWord_49 : decode cX0_followWord 49 = .ok (.getfield 9, 3) := by decide +kernel
theorem dX0_followWord_52 : decode cX0_followWord 52 = .ok (.iconst 1, 1) := by decide +kernel
theorem dX0_followWord_53 : decode cX0_followWord 53 = .ok (.iadd, 1) := by decide +kernel
theorem dX0_followWord_54 : decode cX0_followWord 54 = .ok (.bipush 9, 2) := by decide +kernel
theorem dX0_followWord_56 : decode cX0_followWord 56 = .ok (.invokestatic 32, 3) := by decide +kernel
theorem dX0_followWord_59 : decode cX0_followWord 59 = .ok (.putfield 9, 3) := by decide +kernel
theorem dX0_followWord_62 : decode cX0_followWord 62 = .ok (.goto 17, 3) := by decide +kernel
theorem dX0_followWord_65 : decode cX0_followWord 65 = .ok (.aload_n 0, 1) := by decide +kernel
theorem dX0_followWord_66 : decode cX0_followWord 66 = .ok (.aload_n 0, 1) := by decide +kernel
theorem dX0_followWord_67 : decode cX0_followWord 67 = .ok (.getfield 9, 3) := by decide +kernel
theorem dX0_followWord_70 : decode cX0_followWord 70 = .ok (.iconst 1, 1) := by decide +kernel
theorem dX0_followWord_71 : decode cX0_followWord 71 = .ok (.isub, 1) := by decide +kernel
theorem dX0_followWord_72 : decode cX0_followWord 72 = .ok (.iconst 1, 1) := by decide +kernel
theorem dX0_followWord_73 : decode cX0_followWord 73 = .ok (.invokestatic 26, 3) := by decide +kernel
theorem dX0_followWord_76 : decode cX0_followWord 76 = .ok (.putfield 9, 3) := by decide +kernel
theorem dX0_followWord_79 : decode cX0_followWord 79 = .ok (.return_, 1) := by decide +kernel
theorem dX1_init_0 : decode cX1_init 0 = .ok (.aload_n 0, 1) := by decide +kernel
theorem dX1_init_1 : decode cX1_init 1 = .ok (.invokespecial 3, 3) := by decide +kernel
theorem dX1_init_4 : decode cX1_init 4 = .ok (.aload_n 0, 1) := by decide +kernel
theorem dX1_init_5 : decode cX1_init 5 = .ok (.iconst 3, 1) := by decide +kernel
theorem dX1_init_6 : decode cX1_init 6 = .ok (.newarray .int, 2) := by decide +kernel
theorem dX1_init_8 : decode cX1_init 8 = .ok (.putfield 9, 3) := by decide +kernel
theorem dX1_init_11 : decode cX1_init 11 = .ok (.aload_n 0, 1) := by decide +kernel
theorem dX1_init_12 : decode cX1_init 12 = .ok (.new 15, 3) := by decide +kernel
theorem dX1_init_15 : decode cX1_init 15 = .ok (.dup, 1) := by decide +kernel
theorem dX1_init_16 : decode cX1_init 16 = .ok (.invokespecial 17, 3) := by decide +kernel
theorem dX1_init_19 : decode cX1_init 19 = .ok (.putfield 18, 3) := by decide +kernel
theorem dX1_init_22 : decode cX1_init 22 = .ok (.aload_n 0, 1) := by decide +kernel
theorem dX1_init_23 : decode cX1_init 23 = .ok (.iconst 4, 1) := by decide +kernel
theorem dX1_init_24 : decode cX1_init 24 = .ok (.anewarray 22, 3) := by decide +kernel
theorem dX1_init_27 : decode cX1_init 27 = .ok (.putfield 24, 3) := by decide +kernel
theorem dX1_init_30 : decode cX1_init 30 = .ok (.aload_n 0, 1) := by decide +kernel
theorem dX1_init_31 : decode cX1_init 31 = .ok (.bipush 24, 2) := by decide +kernel
theorem dX1_init_33 : decode cX1_init 33 = .ok (.anewarray 28, 3) := by decide +kernel
theorem dX1_init_36 : decode cX1_init 36 = .ok (.putfield 30, 3) := by decide +kernel
theorem dX1_init_39 : decode cX1_init 39 = .ok (.iconst 0, 1) := by decide +kernel
theorem dX1_init_40 : decode cX1_init 40 = .ok (.istore_n 1, 1) := by decide +kernel
theorem dX1_init_41 : decode cX1_init 41 = .ok (.iload_n 1, 1) := by decide +kernel
theorem dX1_init_42 : decode cX1_init 42 = .ok (.iconst 3, 1) := by decide +kernel
theorem dX1_init_43 : decode cX1_init 43 = .ok (.if_icmp .ge 20, 3) := by decide +kernel
theorem dX1_init_46 : decode cX1_init 46 = .ok (.aload_n 0, 1) := by decide +kernel
theorem dX1_init_47 : decode cX1_init 47 = .ok (.getfield 9, 3) := by decide +kernel
theorem dX1_init_50 : decode cX1_init 50 = .ok (.iload_n 1, 1) := by decide +kernel
theorem dX1_init_51 : decode cX1_init 51 = .ok (.getstatic 34, 3) := by decide +kernel
theorem dX1_init_54 : decode cX1_init 54 = .ok (.iload_n 1, 1) := by decide +kernel
theorem dX1_init_55 : decode cX1_init 55 = .ok (.iaload, 1) := by decide +kernel
theorem dX1_init_56 : decode cX1_init 56 = .ok (.iastore, 1) := by decide +kernel
theorem dX1_init_57 : decode cX1_init 57 = .ok (.iinc 1 1, 3) := by decide +kernel
theorem dX1_init_60 : decode cX1_init 60 = .ok (.goto (-19), 3) := by decide +kernel
theorem dX1_init_63 : decode cX1_init 63 = .ok (.iconst 0, 1) := by decide +kernel
theorem dX1_init_64 : decode cX1_init 64 = .ok (.istore_n 1, 1) := by decide +kernel
theorem dX1_init_65 : decode cX1_init 65 = .ok (.iload_n 1, 1) := by decide +kernel
theorem dX1_init_66 : decode cX1_init 66 = .ok (.iconst 4, 1) := by decide +kernel
theorem dX1_init_67 : decode cX1_init 67 = .ok (.if_icmp .ge 27, 3) := by decide +kernel
theorem dX1_init_70 : decode cX1_init 70 = .ok (.aload_n 0, 1) := by decide +kernel
theorem dX1_init_71 : decode cX1_init 71 = .ok (.getfield 24, 3) := by decide +kernel
theorem dX1_init_74 : decode cX1_init 74 = .ok (.iload_n 1, 1) := by decide +kernel
theorem dX1_init_75 : decode cX1_init 75 = .ok (.new 22, 3) := by decide +kernel
theorem dX1_init_78 : decode cX1_init 78 = .ok (.dup, 1) := by decide +kernel
theorem dX1_init_79 : decode cX1_init 79 = .ok (.iconst 2, 1) := by decide +kernel
theorem dX1_init_80 : decode cX1_init 80 = .ok (.iload_n 1, 1) := by decide +kernel
theorem dX1_init_81 : decode cX1_init 81 = .ok (.imul, 1) := by decide +kernel
theorem dX1_init_82 : decode cX1_init 82 = .ok (.iconst 2, 1) := by decide +kernel
theorem dX1_init_83 : decode cX1_init 83 = .ok (.iadd, 1) := by decide +kernel
theorem dX1_init_84 : decode cX1_init 84 = .ok (.invokespecial 37, 3) := by decide +kernel
theorem dX1_init_87 : decode cX1_init 87 = .ok (.aastore, 1) := by decide +kernel
theorem dX1_init_88 : decode cX1_init 88 = .ok (.iinc 1 1, 3) := by decide +kernel
theorem dX1_init_91 : decode cX1_init 91 = .ok (.goto (-26), 3) := by decide +kernel
theorem dX1_init_94 : decode cX1_init 94 = .ok (.iconst 0, 1) := by decide +kernel
theorem dX1_init_95 : decode cX1_init 95 = .ok (.istore_n 1, 1) := by decide +kernel
theorem dX1_init_96 : decode cX1_init 96 = .ok (.iload_n 1, 1) := by decide +kernel
theorem dX1_init_97 : decode cX1_init 97 = .ok (.aload_n 0, 1) := by decide +kernel
theorem dX1_init_98 : decode cX1_init 98 = .ok (.getfield 30, 3) := by decide +kernel
theorem dX1_init_101 : decode cX1_init 101 = .ok (.arraylength, 1) := by decide +kernel
theorem dX1_init_102 : decode cX1_init 102 = .ok (.if_icmp .ge 22, 3) := by decide +kernel
theorem dX1_init_105 : decode cX1_init 105 = .ok (.aload_n 0, 1) := by decide +kernel
theorem dX1_init_106 : decode cX1_init 106 = .ok (.getfield 30, 3) := by decide +kernel
theorem dX1_init_109 : decode cX1_init 109 = .ok (.iload_n 1, 1) := by decide +kernel
theorem dX1_init_110 : decode cX1_init 110 = .ok (.new 28, 3) := by decide +kernel
theorem dX1_init_113 : decode cX1_init 113 = .ok (.dup, 1) := by decide +kernel
theorem dX1_init_114 : decode cX1_init 114 = .ok (.invokespecial 40, 3) := by decide +kernel
theorem dX1_init_117 : decode cX1_init 117 = .ok (.aastore, 1) := by decide +kernel
theorem dX1_init_118 : decode cX1_init 118 = .ok (.iinc 1 1, 3) := by decide +kernel
theorem dX1_init_121 : decode cX1_init 121 = .ok (.goto (-25), 3) := by decide +kernel
theorem dX1_init_124 : decode cX1_init 124 = .ok (.return_, 1) := by decide +kernel
theorem dX1_copyFrom_0 : decode cX1_copyFrom 0 = .ok (.aload_n 0, 1) := by decide +kernel
theorem dX1_copyFrom_1 : decode cX1_copyFrom 1 = .ok (.aload_n 1, 1) := by decide +kernel
theorem dX1_copyFrom_2 : decode cX1_copyFrom 2 = .ok (.getfield 41, 3) := by decide +kernel
theorem dX1_copyFrom_5 : decode cX1_copyFrom 5 = .ok (.putfield 41, 3) := by decide +kernel
theorem dX1_copyFrom_8 : decode cX1_copyFrom 8 = .ok (.aload_n 0, 1) := by decide +kernel
theorem dX1_copyFrom_9 : decode cX1_copyFrom 9 = .ok (.aload_n 1, 1) := by decide +kernel
theorem dX1_copyFrom_10 : decode cX1_copyFrom 10 = .ok (.getfield 45, 3) := by decide +kernel
theorem dX1_copyFrom_13 : decode cX1_copyFrom 13 = .ok (.putfield 45, 3) := by decide +kernel
theorem dX1_copyFrom_16 : decode cX1_copyFrom 16 = .ok (.aload_n 0, 1) := by decide +kernel
theorem dX1_copyFrom_17 : decode cX1_copyFrom 17 = .ok (.aload_n 1, 1) := by decide +kernel
theorem dX1_copyFrom_18 : decode cX1_copyFrom 18 = .ok (.getfield 48, 3) := by decide +kernel
theorem dX1_copyFrom_21 : decode cX1_copyFrom 21 = .ok (.putfield 48, 3) := by decide +kernel
theorem dX1_copyFrom_24 : decode cX1_copyFrom 24 = .ok (.aload_n 0, 1) := by decide +kernel
theorem dX1_copyFrom_25 : decode cX1_copyFrom 25 = .ok (.getfield 18, 3) := by decide +kernel
theorem dX1_copyFrom_28 : decode cX1_copyFrom 28 = .ok (.aload_n 1, 1) := by decide +kernel
theorem dX1_copyFrom_29 : decode cX1_copyFrom 29 = .ok (.getfield 18, 3) := by decide +kernel
theorem dX1_copyFrom_32 : decode cX1_copyFrom 32 = .ok (.invokevirtual 51, 3) := by decide +kernel
theorem dX1_copyFrom_35 : decode cX1_copyFrom 35 = .ok (.iconst 0, 1) := by decide +kernel
theorem dX1_copyFrom_36 : decode cX1_copyFrom 36 = .ok (.istore_n 2, 1) := by decide +kernel
theorem dX1_copyFrom_37 : decode cX1_copyFrom 37 = .ok (.iload_n 2, 1) := by decide +kernel
theorem dX1_copyFrom_38 : decode cX1_copyFrom 38 = .ok (.iconst 3, 1) := by decide +kernel
theorem dX1_copyFrom_39 : decode cX1_copyFrom 39 = .ok (.if_icmp .ge 21, 3) := by decide +kernel
theorem dX1_copyFrom_42 : decode cX1_copyFrom 42 = .ok (.aload_n 0, 1) := by decide +kernel
theorem dX1_copyFrom_43 : decode cX1_copyFrom 43 = .ok (.getfield 9, 3) := by decide +kernel
theorem dX1_copyFrom_46 : decode cX1_copyFrom 46 = .ok (.iload_n 2, 1) := by decide +kernel
theorem dX1_copyFrom_47 : decode cX1_copyFrom 47 = .ok (.aload_n 1, 1) := by decide +kernel
theorem dX1_copyFrom_48 : decode cX1_copyFrom 48 = .ok (.getfield 9, 3) := by decide +kernel
theorem dX1_copyFrom_51 : decode cX1_copyFrom 51 = .ok (.iload_n 2, 1) := by decide +kernel
theorem dX1_copyFrom_52 : decode cX1_copyFrom 52 = .ok (.iaload, 1) := by decide +kernel
theorem dX1_copyFrom_53 : decode cX1_copyFrom 53 = .ok (.iastore, 1) := by decide +kernel
theorem dX1_copyFrom_54 : decode cX1_copyFrom 54 = .ok (.iinc 2 1, 3) := by decide +kernel
theorem dX1_copyFrom_57 : decode cX1_copyFrom 57 = .ok (.goto (-20), 3) := by decide +kernel
theorem dX1_copyFrom_60 : decode cX1_copyFrom 60 = .ok (.iconst 0, 1) := by decide +kernel
theorem dX1_copyFrom_61 : decode cX1_copyFrom 61 = .ok (.istore_n 2, 1) := by decide +kernel
theorem dX1_copyFrom_62 : decode cX1_copyFrom 62 = .ok (.iload_n 2, 1) := by decide +kernel
theorem dX1_copyFrom_63 : decode cX1_copyFrom 63 = .ok (.iconst 4, 1) := by decide +kernel
theorem dX1_copyFrom_64 : decode cX1_copyFrom 64 = .ok (.if_icmp .ge 24, 3) := by decide +kernel
theorem dX1_copyFrom_67 : decode cX1_copyFrom 67 = .ok (.aload_n 0, 1) := by decide +kernel
theorem dX1_copyFrom_68 : decode cX1_copyFrom 68 = .ok (.getfield 24, 3) := by decide +kernel
theorem dX1_copyFrom_71 : decode cX1_copyFrom 71 = .ok (.iload_n 2, 1) := by decide +kernel
theorem dX1_copyFrom_72 : decode cX1_copyFrom 72 = .ok (.aaload, 1) := by decide +kernel
theorem dX1_copyFrom_73 : decode cX1_copyFrom 73 = .ok (.aload_n 1, 1) := by decide +kernel
theorem dX1_copyFrom_74 : decode cX1_copyFrom 74 = .ok (.getfield 24, 3) := by decide +kernel
theorem dX1_copyFrom_77 : decode cX1_copyFrom 77 = .ok (.iload_n 2, 1) := by decide +kernel
theorem dX1_copyFrom_78 : decode cX1_copyFrom 78 = .ok (.aaload, 1) := by decide +kernel
theorem dX1_copyFrom_79 : decode cX1_copyFrom 79 = .ok (.invokevirtual 55, 3) := by decide +kernel
theorem dX1_copyFrom_82 : decode cX1_copyFrom 82 = .ok (.iinc 2 1, 3) := by decide +kernel
theorem dX1_copyFrom_85 : decode cX1_copyFrom 85 = .ok (.goto (-23), 3) := by decide +kernel
theorem dX1_copyFrom_88 : decode cX1_copyFrom 88 = .ok (.iconst 0, 1) := by decide +kernel
theorem dX1_copyFrom_89 : decode cX1_copyFrom 89 = .ok (.istore_n 2, 1) := by decide +kernel
theorem dX1_copyFrom_90 : decode cX1_copyFrom 90 = .ok (.iload_n 2, 1) := by decide +kernel
theorem dX1_copyFrom_91 : decode cX1_copyFrom 91 = .ok (.aload_n 0, 1) := by decide +kernel
theorem dX1_copyFrom_92 : decode cX1_copyFrom 92 = .ok (.getfield 48, 3) := by decide +kernel
theorem dX1_copyFrom_95 : decode cX1_copyFrom 95 = .ok (.if_icmp .ge 24, 3) := by decide +kernel
theorem dX1_copyFrom_98 : decode cX1_copyFrom 98 = .ok (.aload_n 0, 1) := by decide +kernel
theorem dX1_copyFrom_99 : decode cX1_copyFrom 99 = .ok (.getfield 30, 3) := by decide +kernel
theorem dX1_copyFrom_102 : decode cX1_copyFrom 102 = .ok (.iload_n 2, 1) := by decide +kernel
theorem dX1_copyFrom_103 : decode cX1_copyFrom 103 = .ok (.aaload, 1) := by decide +kernel
theorem dX1_copyFrom_104 : decode cX1_copyFrom 104 = .ok (.aload_n 1, 1) := by decide +kernel
theorem dX1_copyFrom_105 : decode cX1_copyFrom 105 = .ok (.getfield 30, 3) := by decide +kernel
theorem dX1_copyFrom_108 : decode cX1_copyFrom 108 = .ok (.iload_n 2, 1) := by decide +kernel
theorem dX1_copyFrom_109 : decode cX1_copyFrom 109 = .ok (.aaload, 1) := by decide +kernel
theorem dX1_copyFrom_110 : decode cX1_copyFrom 110 = .ok (.invokevirtual 58, 3) := by decide +kernel
theorem dX1_copyFrom_113 : decode cX1_copyFrom 113 = .ok (.iinc 2 1, 3) := by decide +kernel
theorem dX1_copyFrom_116 : decode cX1_copyFrom 116 = .ok (.goto (-26), 3) := by decide +kernel
theorem dX1_copyFrom_119 : decode cX1_copyFrom 119 = .ok (.return_, 1) := by decide +kernel
theorem dX1_lastPlace_0 : decode cX1_lastPlace 0 = .ok (.aload_n 0, 1) := by decide +kernel
theorem dX1_lastPlace_1 : decode cX1_lastPlace 1 = .ok (.getfield 9, 3) := by decide +kernel
theorem dX1_lastPlace_4 : decode cX1_lastPlace 4 = .ok (.iconst 0, 1) := by decide +kernel
theorem dX1_lastPlace_5 : decode cX1_lastPlace 5 = .ok (.iaload, 1) := by decide +kernel
theorem dX1_lastPlace_6 : decode cX1_lastPlace 6 = .ok (.ireturn, 1) := by decide +kernel
theorem dX1_furthestPlace_0 : decode cX1_furthestPlace 0 = .ok (.aload_n 0, 1) := by decide +kernel
theorem dX1_furthestPlace_1 : decode cX1_furthestPlace 1 = .ok (.getfield 18, 3) := by decide +kernel
theorem dX1_furthestPlace_4 : decode cX1_furthestPlace 4 = .ok (.getfield 61, 3) := by decide +kernel
theorem dX1_furthestPlace_7 : decode cX1_furthestPlace 7 = .ok (.istore_n 1, 1) := by decide +kernel
theorem dX1_furthestPlace_8 : decode cX1_furthestPlace 8 = .ok (.iconst 0, 1) := by decide +kernel
theorem dX1_furthestPlace_9 : decode cX1_furthestPlace 9 = .ok (.istore_n 2, 1) := by decide +kernel
theorem dX1_furthestPlace_10 : decode cX1_furthestPlace 10 = .ok (.iload_n 2, 1) := by decide +kernel
theorem dX1_furthestPlace_11 : decode cX1_furthestPlace 11 = .ok (.iconst 4, 1) := by decide +kernel
theorem dX1_furthestPlace_12 : decode cX1_furthestPlace 12 = .ok (.if_icmp .ge 23, 3) := by decide +kernel
theorem dX1_furthestPlace_15 : decode cX1_furthestPlace 15 = .ok (.iload_n 1, 1) := by decide +kernel
theorem dX1_furthestPlace_16 : decode cX1_furthestPlace 16 = .ok (.aload_n 0, 1) := by decide +kernel
theorem dX1_furthestPlace_17 : decode cX1_furthestPlace 17 = .ok (.getfield 24, 3) := by decide +kernel
theorem dX1_furthestPlace_20 : decode cX1_furthestPlace 20 = .ok (.iload_n 2, 1) := by decide +kernel
theorem dX1_furthestPlace_21 : decode cX1_furthestPlace 21 = .ok (.aaload, 1) := by decide +kernel
theorem dX1_furthestPlace_22 : decode cX1_furthestPlace 22 = .ok (.getfield 64, 3) := by decide +kernel
theorem dX1_furthestPlace_25 : decode cX1_furthestPlace 25 = .ok (.invokestatic 65, 3) := by decide +kernel
theorem dX1_furthestPlace_28 : decode cX1_furthestPlace 28 = .ok (.istore_n 1, 1) := by decide +kernel
theorem dX1_furthestPlace_29 : decode cX1_furthestPlace 29 = .ok (.iinc 2 1, 3) := by decide +kernel
theorem dX1_furthestPlace_32 : decode cX1_furthestPlace 32 = .ok (.goto (-22), 3) := by decide +kernel
theorem dX1_furthestPlace_35 : decode cX1_furthestPlace 35 = .ok (.iconst 0, 1) := by decide +kernel
theorem dX1_furthestPlace_36 : decode cX1_furthestPlace 36 = .ok (.istore_n 2, 1) := by decide +kernel
theorem dX1_furthestPlace_37 : decode cX1_furthestPlace 37 = .ok (.iload_n 2, 1) := by decide +kernel
theorem dX1_furthestPlace_38 : decode cX1_furthestPlace 38 = .ok (.aload_n 0, 1) := by decide +kernel
theorem dX1_furthestPlace_39 : decode cX1_furthestPlace 39 = .ok (.getfield 48, 3) := by decide +kernel
theorem dX1_furthestPlace_42 : decode cX1_furthestPlace 42 = .ok (.if_icmp .ge 23, 3) := by decide +kernel
theorem dX1_furthestPlace_45 : decode cX1_furthestPlace 45 = .ok (.iload_n 1, 1) := by decide +kernel
theorem dX1_furthestPlace_46 : decode cX1_furthestPlace 46 = .ok (.aload_n 0, 1) := by decide +kernel
theorem dX1_furthestPlace_47 : decode cX1_furthestPlace 47 = .ok (.getfield 30, 3) := by decide +kernel
theorem dX1_furthestPlace_50 : decode cX1_furthestPlace 50 = .ok (.iload_n 2, 1) := by decide +kernel
theorem dX1_furthestPlace_51 : decode cX1_furthestPlace 51 = .ok (.aaload, 1) := by decide +kernel
theorem dX1_furthestPlace_52 : decode cX1_furthestPlace 52 = .ok (.getfield 71, 3) := by decide +kernel
theorem dX1_furthestPlace_55 : decode cX1_furthestPlace 55 = .ok (.invokestatic 65, 3) := by decide +kernel
theorem dX1_furthestPlace_58 : decode cX1_furthestPlace 58 = .ok (.istore_n 1, 1) := by decide +kernel
theorem dX1_furthestPlace_59 : decode cX1_furthestPlace 59 = .ok (.iinc 2 1, 3) := by decide +kernel
theorem dX1_furthestPlace_62 : decode cX1_furthestPlace 62 = .ok (.goto (-25), 3) := by decide +kernel
theorem dX1_furthestPlace_65 : decode cX1_furthestPlace 65 = .ok (.iload_n 1, 1) := by decide +kernel
theorem dX1_furthestPlace_66 : decode cX1_furthestPlace 66 = .ok (.ireturn, 1) := by decide +kernel
theorem dX1_hasTimeFor_0 : decode cX1_hasTimeFor 0 = .ok (.aload_n 0, 1) := by decide +kernel
theorem dX1_hasTimeFor_1 : decode cX1_hasTimeFor 1 = .ok (.getfield 41, 3) := by decide +kernel
theorem dX1_hasTimeFor_4 : decode cX1_hasTimeFor 4 = .ok (.iload_n 1, 1) := by decide +kernel
theorem dX1_hasTimeFor_5 : decode cX1_hasTimeFor 5 = .ok (.iadd, 1) := by decide +kernel
theorem dX1_hasTimeFor_6 : decode cX1_hasTimeFor 6 = .ok (.ldc 72, 2) := by decide +kernel
theorem dX1_hasTimeFor_8 : decode cX1_hasTimeFor 8 = .ok (.if_icmp .gt 7, 3) := by decide +kernel
theorem dX1_hasTimeFor_11 : decode cX1_hasTimeFor 11 = .ok (.iconst 1, 1) := by decide +kernel
theorem dX1_hasTimeFor_12 : decode cX1_hasTimeFor 12 = .ok (.goto 4, 3) := by decide +kernel
theorem dX1_hasTimeFor_15 : decode cX1_hasTimeFor 15 = .ok (.iconst 0, 1) := by decide +kernel
theorem dX1_hasTimeFor_16 : decode cX1_hasTimeFor 16 = .ok (.ireturn, 1) := by decide +kernel
theorem dX1_echoTime_0 : decode cX1_echoTime 0 = .ok (.iload_n 2, 1) := by decide +kernel
theorem dX1_echoTime_1 : decode cX1_echoTime 1 = .ok (.ifCond .ne 7, 3) := by decide +kernel
theorem dX1_echoTime_4 : decode cX1_echoTime 4 = .ok (.iload_n 1, 1) := by decide +kernel
theorem dX1_echoTime_5 : decode cX1_echoTime 5 = .ok (.goto 9, 3) := by decide +kernel
theorem dX1_echoTime_8 : decode cX1_echoTime 8 = .ok (.aload_n 0, 1) := by decide +kernel
theorem dX1_echoTime_9 : decode cX1_echoTime 9 = .ok (.invokevirtual 73, 3) := by decide +kernel
theorem dX1_echoTime_12 : decode cX1_echoTime 12 = .ok (.iload_n 1, 1) := by decide +kernel
theorem dX1_echoTime_13 : decode cX1_echoTime 13 = .ok (.isub, 1) := by decide +kernel
theorem dX1_echoTime_14 : decode cX1_echoTime 14 = .ok (.istore_n 3, 1) := by decide +kernel
theorem dX1_echoTime_15 : decode cX1_echoTime 15 = .ok (.aload_n 0, 1) := by decide +kernel
theorem dX1_echoTime_16 : decode cX1_echoTime 16 = .ok (.getfield 9, 3) := by decide +kernel
theorem dX1_echoTime_19 : decode cX1_echoTime 19 = .ok (.iconst 1, 1) := by decide +kernel
theorem dX1_echoTime_20 : decode cX1_echoTime 20 = .ok (.iaload, 1) := by decide +kernel
theorem dX1_echoTime_21 : decode cX1_echoTime 21 = .ok (.iconst 1, 1) := by decide +kernel
theorem dX1_echoTime_22 : decode cX1_echoTime 22 = .ok (.invokestatic 65, 3) := by decide +kernel
theorem dX1_echoTime_25 : decode cX1_echoTime 25 = .ok (.istore 4, 2) := by decide +kernel
theorem dX1_echoTime_27 : decode cX1_echoTime 27 = .ok (.iconst 2, 1) := by decide +kernel
theorem dX1_echoTime_28 : decode cX1_echoTime 28 = .ok (.iload_n 3, 1) := by decide +kernel
theorem dX1_echoTime_29 : decode cX1_echoTime 29 = .ok (.imul, 1) := by decide +kernel
theorem dX1_echoTime_30 : decode cX1_echoTime 30 = .ok (.iload 4, 2) := by decide +kernel
theorem dX1_echoTime_32 : decode cX1_echoTime 32 = .ok (.iadd, 1) := by decide +kernel
theorem dX1_echoTime_33 : decode cX1_echoTime 33 = .ok (.iconst 1, 1) := by decide +kernel
theorem dX1_echoTime_34 : decode cX1_echoTime 34 = .ok (.isub, 1) := by decide +kernel
theorem dX1_echoTime_35 : decode cX1_echoTime 35 = .ok (.iload 4, 2) := by decide +kernel
theorem dX1_echoTime_37 : decode cX1_echoTime 37 = .ok (.idiv, 1) := by decide +kernel
theorem dX1_echoTime_38 : decode cX1_echoTime 38 = .ok (.istore 5, 2) := by decide +kernel
theorem dX1_echoTime_40 : decode cX1_echoTime 40 = .ok (.iload 5, 2) := by decide +kernel
theorem dX1_echoTime_42 : decode cX1_echoTime 42 = .ok (.aload_n 0, 1) := by decide +kernel
theorem dX1_echoTime_43 : decode cX1_echoTime 43 = .ok (.getfield 9, 3) := by decide +kernel
theorem dX1_echoTime_46 : decode cX1_echoTime 46 = .ok (.iconst 2, 1) := by decide +kernel
theorem dX1_echoTime_47 : decode cX1_echoTime 47 = .ok (.iaload, 1) := by decide +kernel
theorem dX1_echoTime_48 : decode cX1_echoTime 48 = .ok (.iadd, 1) := by decide +kernel
theorem dX1_echoTime_49 : decode cX1_echoTime 49 = .ok (.iconst 1, 1) := by decide +kernel
theorem dX1_echoTime_50 : decode cX1_echoTime 50 = .ok (.invokestatic 65, 3) := by decide +kernel
theorem dX1_echoTime_53 : decode cX1_echoTime 53 = .ok (.ireturn, 1) := by decide +kernel
theorem dX1_echoesOf_0 : decode cX1_echoesOf 0 = .ok (.iconst 0, 1) := by decide +kernel
theorem dX1_echoesOf_1 : decode cX1_echoesOf 1 = .ok (.istore_n 2, 1) := by decide +kernel
theorem dX1_echoesOf_2 : decode cX1_echoesOf 2 = .ok (.iconst 0, 1) := by decide +kernel
theorem dX1_echoesOf_3 : decode cX1_echoesOf 3 = .ok (.istore_n 3, 1) := by decide +kernel
theorem dX1_echoesOf_4 : decode cX1_echoesOf 4 = .ok (.iload_n 3, 1) := by decide +kernel
theorem dX1_echoesOf_5 : decode cX1_echoesOf 5 = .ok (.aload_n 0, 1) := by decide +kernel
theorem dX1_echoesOf_6 : decode cX1_echoesOf 6 = .ok (.getfield 48, 3) := by decide +kernel
theorem dX1_echoesOf_9 : decode cX1_echoesOf 9 = .ok (.if_icmp .ge 25, 3) := by decide +kernel
theorem dX1_echoesOf_12 : decode cX1_echoesOf 12 = .ok (.aload_n 0, 1) := by decide +kernel
theorem dX1_echoesOf_13 : decode cX1_echoesOf 13 = .ok (.getfield 30, 3) := by decide +kernel
theorem dX1_echoesOf_16 : decode cX1_echoesOf 16 = .ok (.iload_n 3, 1) := by decide +kernel
theorem dX1_echoesOf_17 : decode cX1_echoesOf 17 = .ok (.aaload, 1) := by decide +kernel
theorem dX1_echoesOf_18 : decode cX1_echoesOf 18 = .ok (.getfield 77, 3) := by decide +kernel
theorem dX1_echoesOf_21 : decode cX1_echoesOf 21 = .ok (.iload_n 1, 1) := by decide +kernel
theorem dX1_echoesOf_22 : decode cX1_echoesOf 22 = .ok (.if_icmp .ne 6, 3) := by decide +kernel
theorem dX1_echoesOf_25 : decode cX1_echoesOf 25 = .ok (.iinc 2 1, 3) := by decide +kernel
theorem dX1_echoesOf_28 : decode cX1_echoesOf 28 = .ok (.iinc 3 1, 3) := by decide +kernel
theorem dX1_echoesOf_31 : decode cX1_echoesOf 31 = .ok (.goto (-27), 3) := by decide +kernel
theorem dX1_echoesOf_34 : decode cX1_echoesOf 34 = .ok (.iload_n 2, 1) := by decide +kernel
theorem dX1_echoesOf_35 : decode cX1_echoesOf 35 = .ok (.ireturn, 1) := by decide +kernel
theorem dX1_sendEchoes_0 : decode cX1_sendEchoes 0 = .ok (.aload_n 0, 1) := by decide +kernel
theorem dX1_sendEchoes_1 : decode cX1_sendEchoes 1 = .ok (.iload_n 1, 1) := by decide +kernel
theorem dX1_sendEchoes_2 : decode cX1_sendEchoes 2 = .ok (.invokevirtual 80, 3) := by decide +kernel
theorem dX1_sendEchoes_5 : decode cX1_sendEchoes 5 = .ok (.iconst 2, 1) := by decide +kernel
theorem dX1_sendEchoes_6 : decode cX1_sendEchoes 6 = .ok (.iadd, 1) := by decide +kernel
theorem dX1_sendEchoes_7 : decode cX1_sendEchoes 7 = .ok (.bipush 6, 2) := by decide +kernel
theorem dX1_sendEchoes_9 : decode cX1_sendEchoes 9 = .ok (.if_icmp .le 15, 3) := by decide +kernel
theorem dX1_sendEchoes_12 : decode cX1_sendEchoes 12 = .ok (.aload_n 0, 1) := by decide +kernel
theorem dX1_sendEchoes_13 : decode cX1_sendEchoes 13 = .ok (.dup, 1) := by decide +kernel
theorem dX1_sendEchoes_14 : decode cX1_sendEchoes 14 = .ok (.getfield 45, 3) := by decide +kernel
theorem dX1_sendEchoes_17 : decode cX1_sendEchoes 17 = .ok (.iconst 1, 1) := by decide +kernel
theorem dX1_sendEchoes_18 : decode cX1_sendEchoes 18 = .ok (.iadd, 1) := by decide +kernel
theorem dX1_sendEchoes_19 : decode cX1_sendEchoes 19 = .ok (.putfield 45, 3) := by decide +kernel
theorem dX1_sendEchoes_22 : decode cX1_sendEchoes 22 = .ok (.iconst (-1), 1) := by decide +kernel
theorem dX1_sendEchoes_23 : decode cX1_sendEchoes 23 = .ok (.ireturn, 1) := by decide +kernel
theorem dX1_sendEchoes_24 : decode cX1_sendEchoes 24 = .ok (.aload_n 0, 1) := by decide +kernel
theorem dX1_sendEchoes_25 : decode cX1_sendEchoes 25 = .ok (.getfield 24, 3) := by decide +kernel
theorem dX1_sendEchoes_28 : decode cX1_sendEchoes 28 = .ok (.iload_n 1, 1) := by decide +kernel
theorem dX1_sendEchoes_29 : decode cX1_sendEchoes 29 = .ok (.aaload, 1) := by decide +kernel
theorem dX1_sendEchoes_30 : decode cX1_sendEchoes 30 = .ok (.dup, 1) := by decide +kernel
theorem dX1_sendEchoes_31 : decode cX1_sendEchoes 31 = .ok (.getfield 84, 3) := by decide +kernel
theorem dX1_sendEchoes_34 : decode cX1_sendEchoes 34 = .ok (.iconst 1, 1) := by decide +kernel
theorem dX1_sendEchoes_35 : decode cX1_sendEchoes 35 = .ok (.iadd, 1) := by decide +kernel
theorem dX1_sendEchoes_36 : decode cX1_sendEchoes 36 = .ok (.putfield 84, 3) := by decide +kernel
theorem dX1_sendEchoes_39 : decode cX1_sendEchoes 39 = .ok (.iconst 0, 1) := by decide +kernel
theorem dX1_sendEchoes_40 : decode cX1_sendEchoes 40 = .ok (.istore_n 3, 1) := by decide +kernel
theorem dX1_sendEchoes_41 : decode cX1_sendEchoes 41 = .ok (.iload_n 3, 1) := by decide +kernel
theorem dX1_sendEchoes_42 : decode cX1_sendEchoes 42 = .ok (.iconst 2, 1) := by decide +kernel
theorem dX1_sendEchoes_43 : decode cX1_sendEchoes 43 = .ok (.if_icmp .ge 16, 3) := by decide +kernel
theorem dX1_sendEchoes_46 : decode cX1_sendEchoes 46 = .ok (.aload_n 0, 1) := by decide +kernel
theorem dX1_sendEchoes_47 : decode cX1_sendEchoes 47 = .ok (.iload_n 1, 1) := by decide +kernel
theorem dX1_sendEchoes_48 : decode cX1_sendEchoes 48 = .ok (.iload_n 2, 1) := by decide +kernel
theorem dX1_sendEchoes_49 : decode cX1_sendEchoes 49 = .ok (.iload_n 3, 1) := by decide +kernel
theorem dX1_sendEchoes_50 : decode cX1_sendEchoes 50 = .ok (.invokevirtual 87, 3) := by decide +kernel
theorem dX1_sendEchoes_53 : decode cX1_sendEchoes 53 = .ok (.iinc 3 1, 3) := by decide +kernel
theorem dX1_sendEchoes_56 : decode cX1_sendEchoes 56 = .ok (.goto (-15), 3) := by decide +kernel
theorem dX1_sendEchoes_59 : decode cX1_sendEchoes 59 = .ok (.aload_n 0, 1) := by decide +kernel
theorem dX1_sendEchoes_60 : decode cX1_sendEchoes 60 = .ok (.getfield 24, 3) := by decide +kernel
theorem dX1_sendEchoes_63 : decode cX1_sendEchoes 63 = .ok (.iload_n 1, 1) := by decide +kernel
theorem dX1_sendEchoes_64 : decode cX1_sendEchoes 64 = .ok (.aaload, 1) := by decide +kernel
theorem dX1_sendEchoes_65 : decode cX1_sendEchoes 65 = .ok (.getfield 64, 3) := by decide +kernel
theorem dX1_sendEchoes_68 : decode cX1_sendEchoes 68 = .ok (.istore_n 3, 1) := by decide +kernel
theorem dX1_sendEchoes_69 : decode cX1_sendEchoes 69 = .ok (.aload_n 0, 1) := by decide +kernel
theorem dX1_sendEchoes_70 : decode cX1_sendEchoes 70 = .ok (.iload_n 3, 1) := by decide +kernel
theorem dX1_sendEchoes_71 : decode cX1_sendEchoes 71 = .ok (.iconst 0, 1) := by decide +kernel
theorem dX1_sendEchoes_72 : decode cX1_sendEchoes 72 = .ok (.invokevirtual 91, 3) := by decide +kernel
theorem dX1_sendEchoes_75 : decode cX1_sendEchoes 75 = .ok (.aload_n 0, 1) := by decide +kernel
theorem dX1_sendEchoes_76 : decode cX1_sendEchoes 76 = .ok (.iload_n 3, 1) := by decide +kernel
theorem dX1_sendEchoes_77 : decode cX1_sendEchoes 77 = .ok (.iconst 1, 1) := by decide +kernel
theorem dX1_sendEchoes_78 : decode cX1_sendEchoes 78 = .ok (.invokevirtual 91, 3) := by decide +kernel
theorem dX1_sendEchoes_81 : decode cX1_sendEchoes 81 = .ok (.invokestatic 94, 3) := by decide +kernel
theorem dX1_sendEchoes_84 : decode cX1_sendEchoes 84 = .ok (.ireturn, 1) := by decide +kernel
theorem dX1_addEcho_0 : decode cX1_addEcho 0 = .ok (.aload_n 0, 1) := by decide +kernel
theorem dX1_addEcho_1 : decode cX1_addEcho 1 = .ok (.getfield 48, 3) := by decide +kernel
theorem dX1_addEcho_4 : decode cX1_addEcho 4 = .ok (.aload_n 0, 1) := by decide +kernel
theorem dX1_addEcho_5 : decode cX1_addEcho 5 = .ok (.getfield 30, 3) := by decide +kernel
theorem dX1_addEcho_8 : decode cX1_addEcho 8 = .ok (.arraylength, 1) := by decide +kernel
theorem dX1_addEcho_9 : decode cX1_addEcho 9 = .ok (.if_icmp .lt 4, 3) := by decide +kernel
theorem dX1_addEcho_12 : decode cX1_addEcho 12 = .ok (.return_, 1) := by decide +kernel
theorem dX1_addEcho_13 : decode cX1_addEcho 13 = .ok (.aload_n 0, 1) := by decide +kernel
theorem dX1_addEcho_14 : decode cX1_addEcho 14 = .ok (.getfield 30, 3) := by decide +kernel
theorem dX1_addEcho_17 : decode cX1_addEcho 17 = .ok (.aload_n 0, 1) := by decide +kernel
theorem dX1_addEcho_18 : decode cX1_addEcho 18 = .ok (.getfield 48, 3) := by decide +kernel
theorem dX1_addEcho_21 : decode cX1_addEcho 21 = .ok (.aaload, 1) := by decide +kernel
theorem dX1_addEcho_22 : decode cX1_addEcho 22 = .ok (.astore 4, 2) := by decide +kernel
theorem dX1_addEcho_24 : decode cX1_addEcho 24 = .ok (.aload 4, 2) := by decide +kernel
theorem dX1_addEcho_26 : decode cX1_addEcho 26 = .ok (.iload_n 1, 1) := by decide +kernel
theorem dX1_addEcho_27 : decode cX1_addEcho 27 = .ok (.putfield 77, 3) := by decide +kernel
theorem dX1_addEcho_30 : decode cX1_addEcho 30 = .ok (.aload 4, 2) := by decide +kernel
theorem dX1_addEcho_32 : decode cX1_addEcho 32 = .ok (.aload_n 0, 1) := by decide +kernel
theorem dX1_addEcho_33 : decode cX1_addEcho 33 = .ok (.getfield 24, 3) := by decide +kernel
theorem dX1_addEcho_36 : decode cX1_addEcho 36 = .ok (.iload_n 1, 1) := by decide +kernel
theorem dX1_addEcho_37 : decode cX1_addEcho 37 = .ok (.aaload, 1) := by decide +kernel
theorem dX1_addEcho_38 : decode cX1_addEcho 38 = .ok (.getfield 64, 3) := by decide +kernel
theorem dX1_addEcho_41 : decode cX1_addEcho 41 = .ok (.putfield 71, 3) := by decide +kernel
theorem dX1_addEcho_44 : decode cX1_addEcho 44 = .ok (.aload 4, 2) := by decide +kernel
theorem dX1_addEcho_46 : decode cX1_addEcho 46 = .ok (.iload_n 2, 1) := by decide +kernel
theorem dX1_addEcho_47 : decode cX1_addEcho 47 = .ok (.putfield 97, 3) := by decide +kernel
theorem dX1_addEcho_50 : decode cX1_addEcho 50 = .ok (.aload 4, 2) := by decide +kernel
theorem dX1_addEcho_52 : decode cX1_addEcho 52 = .ok (.iload_n 3, 1) := by decide +kernel
theorem dX1_addEcho_53 : decode cX1_addEcho 53 = .ok (.putfield 100, 3) := by decide +kernel
theorem dX1_addEcho_56 : decode cX1_addEcho 56 = .ok (.aload 4, 2) := by decide +kernel
theorem dX1_addEcho_58 : decode cX1_addEcho 58 = .ok (.aload_n 0, 1) := by decide +kernel
theorem dX1_addEcho_59 : decode cX1_addEcho 59 = .ok (.getfield 41, 3) := by decide +kernel
theorem dX1_addEcho_62 : decode cX1_addEcho 62 = .ok (.aload_n 0, 1) := by decide +kernel
theorem dX1_addEcho_63 : decode cX1_addEcho 63 = .ok (.aload 4, 2) := by decide +kernel
theorem dX1_addEcho_65 : decode cX1_addEcho 65 = .ok (.getfield 71, 3) := by decide +kernel
theorem dX1_addEcho_68 : decode cX1_addEcho 68 = .ok (.iload_n 3, 1) := by decide +kernel
theorem dX1_addEcho_69 : decode cX1_addEcho 69 = .ok (.invokevirtual 91, 3) := by decide +kernel
theorem dX1_addEcho_72 : decode cX1_addEcho 72 = .ok (.iadd, 1) := by decide +kernel
theorem dX1_addEcho_73 : decode cX1_addEcho 73 = .ok (.putfield 103, 3) := by decide +kernel
theorem dX1_addEcho_76 : decode cX1_addEcho 76 = .ok (.aload_n 0, 1) := by decide +kernel
theorem dX1_addEcho_77 : decode cX1_addEcho 77 = .ok (.getfield 48, 3) := by decide +kernel
theorem dX1_addEcho_80 : decode cX1_addEcho 80 = .ok (.istore 5, 2) := by decide +kernel
theorem dX1_addEcho_82 : decode cX1_addEcho 82 = .ok (.iload 5, 2) := by decide +kernel
theorem dX1_addEcho_84 : decode cX1_addEcho 84 = .ok (.ifCond .le 45, 3) := by decide +kernel
theorem dX1_addEcho_87 : decode cX1_addEcho 87 = .ok (.aload_n 0, 1) := by decide +kernel
theorem dX1_addEcho_88 : decode cX1_addEcho 88 = .ok (.getfield 30, 3) := by decide +kernel
theorem dX1_addEcho_91 : decode cX1_addEcho 91 = .ok (.iload 5, 2) := by decide +kernel
theorem dX1_addEcho_93 : decode cX1_addEcho 93 = .ok (.iconst 1, 1) := by decide +kernel
theorem dX1_addEcho_94 : decode cX1_addEcho 94 = .ok (.isub, 1) := by decide +kernel
theorem dX1_addEcho_95 : decode cX1_addEcho 95 = .ok (.aaload, 1) := by decide +kernel
theorem dX1_addEcho_96 : decode cX1_addEcho 96 = .ok (.getfield 103, 3) := by decide +kernel
theorem dX1_addEcho_99 : decode cX1_addEcho 99 = .ok (.aload 4, 2) := by decide +kernel
theorem dX1_addEcho_101 : decode cX1_addEcho 101 = .ok (.getfield 103, 3) := by decide +kernel
theorem dX1_addEcho_104 : decode cX1_addEcho 104 = .ok (.if_icmp .le 25, 3) := by decide +kernel
theorem dX1_addEcho_107 : decode cX1_addEcho 107 = .ok (.aload_n 0, 1) := by decide +kernel
theorem dX1_addEcho_108 : decode cX1_addEcho 108 = .ok (.getfield 30, 3) := by decide +kernel
theorem dX1_addEcho_111 : decode cX1_addEcho 111 = .ok (.iload 5, 2) := by decide +kernel
theorem dX1_addEcho_113 : decode cX1_addEcho 113 = .ok (.aload_n 0, 1) := by decide +kernel
theorem dX1_addEcho_114 : decode cX1_addEcho 114 = .ok (.getfield 30, 3) := by decide +kernel
theorem dX1_addEcho_117 : decode cX1_addEcho 117 = .ok (.iload 5, 2) := by decide +kernel
theorem dX1_addEcho_119 : decode cX1_addEcho 119 = .ok (.iconst 1, 1) := by decide +kernel
theorem dX1_addEcho_120 : decode cX1_addEcho 120 = .ok (.isub, 1) := by decide +kernel
theorem dX1_addEcho_121 : decode cX1_addEcho 121 = .ok (.aaload, 1) := by decide +kernel
theorem dX1_addEcho_122 : decode cX1_addEcho 122 = .ok (.aastore, 1) := by decide +kernel
theorem dX1_addEcho_123 : decode cX1_addEcho 123 = .ok (.iinc 5 (-1), 3) := by decide +kernel
theorem dX1_addEcho_126 : decode cX1_addEcho 126 = .ok (.goto (-44), 3) := by decide +kernel
theorem dX1_addEcho_129 : decode cX1_addEcho 129 = .ok (.aload_n 0, 1) := by decide +kernel
theorem dX1_addEcho_130 : decode cX1_addEcho 130 = .ok (.getfield 30, 3) := by decide +kernel
theorem dX1_addEcho_133 : decode cX1_addEcho 133 = .ok (.iload 5, 2) := by decide +kernel
theorem dX1_addEcho_135 : decode cX1_addEcho 135 = .ok (.aload 4, 2) := by decide +kernel
theorem dX1_addEcho_137 : decode cX1_addEcho 137 = .ok (.aastore, 1) := by decide +kernel
theorem dX1_addEcho_138 : decode cX1_addEcho 138 = .ok (.aload_n 0, 1) := by decide +kernel
theorem dX1_addEcho_139 : decode cX1_addEcho 139 = .ok (.dup, 1) := by decide +kernel
theorem dX1_addEcho_140 : decode cX1_addEcho 140 = .ok (.getfield 48, 3) := by decide +kernel
theorem dX1_addEcho_143 : decode cX1_addEcho 143 = .ok (.iconst 1, 1) := by decide +kernel
theorem dX1_addEcho_144 : decode cX1_addEcho 144 = .ok (.iadd, 1) := by decide +kernel
theorem dX1_addEcho_145 : decode cX1_addEcho 145 = .ok (.putfield 48, 3) := by decide +kernel
theorem dX1_addEcho_148 : decode cX1_addEcho 148 = .ok (.return_, 1) := by decide +kernel
theorem dX1_movePlayer_0 : decode cX1_movePlayer 0 = .ok (.aload_n 0, 1) := by decide +kernel
theorem dX1_movePlayer_1 : decode cX1_movePlayer 1 = .ok (.getfield 24, 3) := by decide +kernel
theorem dX1_movePlayer_4 : decode cX1_movePlayer 4 = .ok (.iload_n 1, 1) := by decide +kernel
theorem dX1_movePlayer_5 : decode cX1_movePlayer 5 = .ok (.aaload, 1) := by decide +kernel
theorem dX1_movePlayer_6 : decode cX1_movePlayer 6 = .ok (.getfield 64, 3) := by decide +kernel
theorem dX1_movePlayer_9 : decode cX1_movePlayer 9 = .ok (.iload_n 2, 1) := by decide +kernel
theorem dX1_movePlayer_10 : decode cX1_movePlayer 10 = .ok (.iadd, 1) := by decide +kernel
theorem dX1_movePlayer_11 : decode cX1_movePlayer 11 = .ok (.istore_n 3, 1) := by decide +kernel
theorem dX1_movePlayer_12 : decode cX1_movePlayer 12 = .ok (.iload_n 3, 1) := by decide +kernel
theorem dX1_movePlayer_13 : decode cX1_movePlayer 13 = .ok (.ifCond .lt 11, 3) := by decide +kernel
theorem dX1_movePlayer_16 : decode cX1_movePlayer 16 = .ok (.iload_n 3, 1) := by decide +kernel
theorem dX1_movePlayer_17 : decode cX1_movePlayer 17 = .ok (.aload_n 0, 1) := by decide +kernel
theorem dX1_movePlayer_18 : decode cX1_movePlayer 18 = .ok (.invokevirtual 73, 3) := by decide +kernel
theorem dX1_movePlayer_21 : decode cX1_movePlayer 21 = .ok (.if_icmp .le 15, 3) := by decide +kernel
theorem dX1_movePlayer_24 : decode cX1_movePlayer 24 = .ok (.aload_n 0, 1) := by decide +kernel
theorem dX1_movePlayer_25 : decode cX1_movePlayer 25 = .ok (.dup, 1) := by decide +kernel
theorem dX1_movePlayer_26 : decode cX1_movePlayer 26 = .ok (.getfield 45, 3) := by decide +kernel
theorem dX1_movePlayer_29 : decode cX1_movePlayer 29 = .ok (.iconst 1, 1) := by decide +kernel
theorem dX1_movePlayer_30 : decode cX1_movePlayer 30 = .ok (.iadd, 1) := by decide +kernel
theorem dX1_movePlayer_31 : decode cX1_movePlayer 31 = .ok (.putfield 45, 3) := by decide +kernel
theorem dX1_movePlayer_34 : decode cX1_movePlayer 34 = .ok (.iconst (-1), 1) := by decide +kernel
theorem dX1_movePlayer_35 : decode cX1_movePlayer 35 = .ok (.ireturn, 1) := by decide +kernel
theorem dX1_movePlayer_36 : decode cX1_movePlayer 36 = .ok (.aload_n 0, 1) := by decide +kernel
theorem dX1_movePlayer_37 : decode cX1_movePlayer 37 = .ok (.getfield 24, 3) := by decide +kernel
theorem dX1_movePlayer_40 : decode cX1_movePlayer 40 = .ok (.iload_n 1, 1) := by decide +kernel
theorem dX1_movePlayer_41 : decode cX1_movePlayer 41 = .ok (.aaload, 1) := by decide +kernel
theorem dX1_movePlayer_42 : decode cX1_movePlayer 42 = .ok (.iload_n 3, 1) := by decide +kernel
theorem dX1_movePlayer_43 : decode cX1_movePlayer 43 = .ok (.putfield 64, 3) := by decide +kernel
theorem dX1_movePlayer_46 : decode cX1_movePlayer 46 = .ok (.iload_n 3, 1) := by decide +kernel
theorem dX1_movePlayer_47 : decode cX1_movePlayer 47 = .ok (.ireturn, 1) := by decide +kernel
theorem dX1_goTurns_0 : decode cX1_goTurns 0 = .ok (.iconst 0, 1) := by decide +kernel
theorem dX1_goTurns_1 : decode cX1_goTurns 1 = .ok (.istore_n 2, 1) := by decide +kernel
theorem dX1_goTurns_2 : decode cX1_goTurns 2 = .ok (.iconst 0, 1) := by decide +kernel
theorem dX1_goTurns_3 : decode cX1_goTurns 3 = .ok (.istore_n 3, 1) := by decide +kernel
theorem dX1_goTurns_4 : decode cX1_goTurns 4 = .ok (.iload_n 3, 1) := by decide +kernel
theorem dX1_goTurns_5 : decode cX1_goTurns 5 = .ok (.iload_n 1, 1) := by decide +kernel
theorem dX1_goTurns_6 : decode cX1_goTurns 6 = .ok (.if_icmp .ge 16, 3) := by decide +kernel
theorem dX1_goTurns_9 : decode cX1_goTurns 9 = .ok (.iload_n 2, 1) := by decide +kernel
theorem dX1_goTurns_10 : decode cX1_goTurns 10 = .ok (.aload_n 0, 1) := by decide +kernel
theorem dX1_goTurns_11 : decode cX1_goTurns 11 = .ok (.invokevirtual 106, 3) := by decide +kernel
theorem dX1_goTurns_14 : decode cX1_goTurns 14 = .ok (.iadd, 1) := by decide +kernel
theorem dX1_goTurns_15 : decode cX1_goTurns 15 = .ok (.istore_n 2, 1) := by decide +kernel
theorem dX1_goTurns_16 : decode cX1_goTurns 16 = .ok (.iinc 3 1, 3) := by decide +kernel
theorem dX1_goTurns_19 : decode cX1_goTurns 19 = .ok (.goto (-15), 3) := by decide +kernel
theorem dX1_goTurns_22 : decode cX1_goTurns 22 = .ok (.iload_n 2, 1) := by decide +kernel
theorem dX1_goTurns_23 : decode cX1_goTurns 23 = .ok (.ireturn, 1) := by decide +kernel
theorem dX1_goTurn_0 : decode cX1_goTurn 0 = .ok (.aload_n 0, 1) := by decide +kernel
theorem dX1_goTurn_1 : decode cX1_goTurn 1 = .ok (.dup, 1) := by decide +kernel
theorem dX1_goTurn_2 : decode cX1_goTurn 2 = .ok (.getfield 41, 3) := by decide +kernel
theorem dX1_goTurn_5 : decode cX1_goTurn 5 = .ok (.iconst 1, 1) := by decide +kernel
theorem dX1_goTurn_6 : decode cX1_goTurn 6 = .ok (.iadd, 1) := by decide +kernel
theorem dX1_goTurn_7 : decode cX1_goTurn 7 = .ok (.putfield 41, 3) := by decide +kernel
theorem dX1_goTurn_10 : decode cX1_goTurn 10 = .ok (.aload_n 0, 1) := by decide +kernel
theorem dX1_goTurn_11 : decode cX1_goTurn 11 = .ok (.getfield 18, 3) := by decide +kernel
theorem dX1_goTurn_14 : decode cX1_goTurn 14 = .ok (.aload_n 0, 1) := by decide +kernel
theorem dX1_goTurn_15 : decode cX1_goTurn 15 = .ok (.invokevirtual 73, 3) := by decide +kernel
theorem dX1_goTurn_18 : decode cX1_goTurn 18 = .ok (.invokevirtual 109, 3) := by decide +kernel
theorem dX1_goTurn_21 : decode cX1_goTurn 21 = .ok (.iconst 0, 1) := by decide +kernel
theorem dX1_goTurn_22 : decode cX1_goTurn 22 = .ok (.istore_n 1, 1) := by decide +kernel
theorem dX1_goTurn_23 : decode cX1_goTurn 23 = .ok (.iconst 0, 1) := by decide +kernel
theorem dX1_goTurn_24 : decode cX1_goTurn 24 = .ok (.istore_n 2, 1) := by decide +kernel
theorem dX1_goTurn_25 : decode cX1_goTurn 25 = .ok (.iload_n 2, 1) := by decide +kernel
theorem dX1_goTurn_26 : decode cX1_goTurn 26 = .ok (.aload_n 0, 1) := by decide +kernel
theorem dX1_goTurn_27 : decode cX1_goTurn 27 = .ok (.getfield 48, 3) := by decide +kernel
theorem dX1_goTurn_30 : decode cX1_goTurn 30 = .ok (.if_icmp .ge 36, 3) := by decide +kernel
theorem dX1_goTurn_33 : decode cX1_goTurn 33 = .ok (.aload_n 0, 1) := by decide +kernel
theorem dX1_goTurn_34 : decode cX1_goTurn 34 = .ok (.getfield 30, 3) := by decide +kernel
theorem dX1_goTurn_37 : decode cX1_goTurn 37 = .ok (.iload_n 2, 1) := by decide +kernel
theorem dX1_goTurn_38 : decode cX1_goTurn 38 = .ok (.aaload, 1) := by decide +kernel
theorem dX1_goTurn_39 : decode cX1_goTurn 39 = .ok (.getfield 103, 3) := by decide +kernel
theorem dX1_goTurn_42 : decode cX1_goTurn 42 = .ok (.aload_n 0, 1) := by decide +kernel
theorem dX1_goTurn_43 : decode cX1_goTurn 43 = .ok (.getfield 41, 3) := by decide +kernel
theorem dX1_goTurn_46 : decode cX1_goTurn 46 = .ok (.if_icmp .gt 20, 3) := by decide +kernel
theorem dX1_goTurn_49 : decode cX1_goTurn 49 = .ok (.aload_n 0, 1) := by decide +kernel
theorem dX1_goTurn_50 : decode cX1_goTurn 50 = .ok (.iload_n 2, 1) := by decide +kernel
theorem dX1_goTurn_51 : decode cX1_goTurn 51 = .ok (.invokevirtual 111, 3) := by decide +kernel
theorem dX1_goTurn_54 : decode cX1_goTurn 54 = .ok (.ifCond .eq 6, 3) := by decide +kernel
theorem dX1_goTurn_57 : decode cX1_goTurn 57 = .ok (.iinc 1 1, 3) := by decide +kernel
theorem dX1_goTurn_60 : decode cX1_goTurn 60 = .ok (.iinc 2 1, 3) := by decide +kernel
theorem dX1_goTurn_63 : decode cX1_goTurn 63 = .ok (.goto (-38), 3) := by decide +kernel
theorem dX1_goTurn_66 : decode cX1_goTurn 66 = .ok (.aload_n 0, 1) := by decide +kernel
theorem dX1_goTurn_67 : decode cX1_goTurn 67 = .ok (.iload_n 2, 1) := by decide +kernel
theorem dX1_goTurn_68 : decode cX1_goTurn 68 = .ok (.invokevirtual 115, 3) := by decide +kernel
theorem dX1_goTurn_71 : decode cX1_goTurn 71 = .ok (.iload_n 1, 1) := by decide +kernel
theorem dX1_goTurn_72 : decode cX1_goTurn 72 = .ok (.ireturn, 1) := by decide +kernel
theorem dX1_isCatch_0 : decode cX1_isCatch 0 = .ok (.aload_n 0, 1) := by decide +kernel
theorem dX1_isCatch_1 : decode cX1_isCatch 1 = .ok (.getfield 30, 3) := by decide +kernel
theorem dX1_isCatch_4 : decode cX1_isCatch 4 = .ok (.iload_n 1, 1) := by decide +kernel
theorem dX1_isCatch_5 : decode cX1_isCatch 5 = .ok (.aaload, 1) := by decide +kernel
theorem dX1_isCatch_6 : decode cX1_isCatch 6 = .ok (.astore_n 2, 1) := by decide +kernel
theorem dX1_isCatch_7 : decode cX1_isCatch 7 = .ok (.aload_n 0, 1) := by decide +kernel
theorem dX1_isCatch_8 : decode cX1_isCatch 8 = .ok (.getfield 24, 3) := by decide +kernel
theorem dX1_isCatch_11 : decode cX1_isCatch 11 = .ok (.aload_n 2, 1) := by decide +kernel
theorem dX1_isCatch_12 : decode cX1_isCatch 12 = .ok (.getfield 77, 3) := by decide +kernel
theorem dX1_isCatch_15 : decode cX1_isCatch 15 = .ok (.aaload, 1) := by decide +kernel
theorem dX1_isCatch_16 : decode cX1_isCatch 16 = .ok (.astore_n 3, 1) := by decide +kernel
theorem dX1_isCatch_17 : decode cX1_isCatch 17 = .ok (.aload_n 0, 1) := by decide +kernel
theorem dX1_isCatch_18 : decode cX1_isCatch 18 = .ok (.iload_n 1, 1) := by decide +kernel
theorem dX1_isCatch_19 : decode cX1_isCatch 19 = .ok (.invokevirtual 118, 3) := by decide +kernel
theorem dX1_isCatch_22 : decode cX1_isCatch 22 = .ok (.ifCond .eq 15, 3) := by decide +kernel
theorem dX1_isCatch_25 : decode cX1_isCatch 25 = .ok (.aload_n 3, 1) := by decide +kernel
theorem dX1_isCatch_26 : decode cX1_isCatch 26 = .ok (.dup, 1) := by decide +kernel
theorem dX1_isCatch_27 : decode cX1_isCatch 27 = .ok (.getfield 121, 3) := by decide +kernel
theorem dX1_isCatch_30 : decode cX1_isCatch 30 = .ok (.iconst 1, 1) := by decide +kernel
theorem dX1_isCatch_31 : decode cX1_isCatch 31 = .ok (.iadd, 1) := by decide +kernel
theorem dX1_isCatch_32 : decode cX1_isCatch 32 = .ok (.putfield 121, 3) := by decide +kernel
theorem dX1_isCatch_35 : decode cX1_isCatch 35 = .ok (.iconst 0, 1) := by decide +kernel
theorem dX1_isCatch_36 : decode cX1_isCatch 36 = .ok (.ireturn, 1) := by decide +kernel
theorem dX1_isCatch_37 : decode cX1_isCatch 37 = .ok (.aload_n 3, 1) := by decide +kernel
theorem dX1_isCatch_38 : decode cX1_isCatch 38 = .ok (.getfield 64, 3) := by decide +kernel
theorem dX1_isCatch_41 : decode cX1_isCatch 41 = .ok (.aload_n 2, 1) := by decide +kernel
theorem dX1_isCatch_42 : decode cX1_isCatch 42 = .ok (.getfield 71, 3) := by decide +kernel
theorem dX1_isCatch_45 : decode cX1_isCatch 45 = .ok (.if_icmp .eq 15, 3) := by decide +kernel
theorem dX1_isCatch_48 : decode cX1_isCatch 48 = .ok (.aload_n 3, 1) := by decide +kernel
theorem dX1_isCatch_49 : decode cX1_isCatch 49 = .ok (.dup, 1) := by decide +kernel
theorem dX1_isCatch_50 : decode cX1_isCatch 50 = .ok (.getfield 124, 3) := by decide +kernel
theorem dX1_isCatch_53 : decode cX1_isCatch 53 = .ok (.iconst 1, 1) := by decide +kernel
theorem dX1_isCatch_54 : decode cX1_isCatch 54 = .ok (.iadd, 1) := by decide +kernel
theorem dX1_isCatch_55 : decode cX1_isCatch 55 = .ok (.putfield 124, 3) := by decide +kernel
theorem dX1_isCatch_58 : decode cX1_isCatch 58 = .ok (.iconst 0, 1) := by decide +kernel
theorem dX1_isCatch_59 : decode cX1_isCatch 59 = .ok (.ireturn, 1) := by decide +kernel
theorem dX1_isCatch_60 : decode cX1_isCatch 60 = .ok (.aload_n 3, 1) := by decide +kernel
theorem dX1_isCatch_61 : decode cX1_isCatch 61 = .ok (.dup, 1) := by decide +kernel
theorem dX1_isCatch_62 : decode cX1_isCatch 62 = .ok (.getfield 127, 3) := by decide +kernel
theorem dX1_isCatch_65 : decode cX1_isCatch 65 = .ok (.iconst 1, 1) := by decide +kernel
theorem dX1_isCatch_66 : decode cX1_isCatch 66 = .ok (.iadd, 1) := by decide +kernel
theorem dX1_isCatch_67 : decode cX1_isCatch 67 = .ok (.putfield 127, 3) := by decide +kernel
theorem dX1_isCatch_70 : decode cX1_isCatch 70 = .ok (.aload_n 0, 1) := by decide +kernel
theorem dX1_isCatch_71 : decode cX1_isCatch 71 = .ok (.getfield 18, 3) := by decide +kernel
theorem dX1_isCatch_74 : decode cX1_isCatch 74 = .ok (.getfield 61, 3) := by decide +kernel
theorem dX1_isCatch_77 : decode cX1_isCatch 77 = .ok (.aload_n 2, 1) := by decide +kernel
theorem dX1_isCatch_78 : decode cX1_isCatch 78 = .ok (.getfield 71, 3) := by decide +kernel
theorem dX1_isCatch_81 : decode cX1_isCatch 81 = .ok (.if_icmp .eq 5, 3) := by decide +kernel
theorem dX1_isCatch_84 : decode cX1_isCatch 84 = .ok (.iconst 0, 1) := by decide +kernel
theorem dX1_isCatch_85 : decode cX1_isCatch 85 = .ok (.ireturn, 1) := by decide +kernel
theorem dX1_isCatch_86 : decode cX1_isCatch 86 = .ok (.aload_n 3, 1) := by decide +kernel
theorem dX1_isCatch_87 : decode cX1_isCatch 87 = .ok (.dup, 1) := by decide +kernel
theorem dX1_isCatch_88 : decode cX1_isCatch 88 = .ok (.getfield 130, 3) := by decide +kernel
theorem dX1_isCatch_91 : decode cX1_isCatch 91 = .ok (.iconst 1, 1) := by decide +kernel
theorem dX1_isCatch_92 : decode cX1_isCatch 92 = .ok (.iadd, 1) := by decide +kernel
theorem dX1_isCatch_93 : decode cX1_isCatch 93 = .ok (.putfield 130, 3) := by decide +kernel
theorem dX1_isCatch_96 : decode cX1_isCatch 96 = .ok (.aload_n 0, 1) := by decide +kernel
theorem dX1_isCatch_97 : decode cX1_isCatch 97 = .ok (.getfield 18, 3) := by decide +kernel
theorem dX1_isCatch_100 : decode cX1_isCatch 100 = .ok (.aload_n 2, 1) := by decide +kernel
theorem dX1_isCatch_101 : decode cX1_isCatch 101 = .ok (.getfield 97, 3) := by decide +kernel
theorem dX1_isCatch_104 : decode cX1_isCatch 104 = .ok (.invokevirtual 133, 3) := by decide +kernel
theorem dX1_isCatch_107 : decode cX1_isCatch 107 = .ok (.iconst 1, 1) := by decide +kernel
theorem dX1_isCatch_108 : decode cX1_isCatch 108 = .ok (.ireturn, 1) := by decide +kernel
theorem dX1_dropFirstEchoes_0 : decode cX1_dropFirstEchoes 0 = .ok (.iload_n 1, 1) := by decide +kernel
theorem dX1_dropFirstEchoes_1 : decode cX1_dropFirstEchoes 1 = .ok (.istore_n 2, 1) := by decide +kernel
theorem dX1_dropFirstEchoes_2 : decode cX1_dropFirstEchoes 2 = .ok (.iload_n 2, 1) := by decide +kernel
theorem dX1_dropFirstEchoes_3 : decode cX1_dropFirstEchoes 3 = .ok (.aload_n 0, 1) := by decide +kernel
theorem dX1_dropFirstEchoes_4 : decode cX1_dropFirstEchoes 4 = .ok (.getfield 48, 3) := by decide +kernel
theorem dX1_dropFirstEchoes_7 : decode cX1_dropFirstEchoes 7 = .ok (.if_icmp .ge 39, 3) := by decide +kernel
theorem dX1_dropFirstEchoes_10 : decode cX1_dropFirstEchoes 10 = .ok (.aload_n 0, 1) := by decide +kernel
theorem dX1_dropFirstEchoes_11 : decode cX1_dropFirstEchoes 11 = .ok (.getfield 30, 3) := by decide +kernel
theorem dX1_dropFirstEchoes_14 : decode cX1_dropFirstEchoes 14 = .ok (.iload_n 2, 1) := by decide +kernel
theorem dX1_dropFirstEchoes_15 : decode cX1_dropFirstEchoes 15 = .ok (.iload_n 1, 1) := by decide +kernel
theorem dX1_dropFirstEchoes_16 : decode cX1_dropFirstEchoes 16 = .ok (.isub, 1) := by decide +kernel
theorem dX1_dropFirstEchoes_17 : decode cX1_dropFirstEchoes 17 = .ok (.aaload, 1) := by decide +kernel
theorem dX1_dropFirstEchoes_18 : decode cX1_dropFirstEchoes 18 = .ok (.astore_n 3, 1) := by decide +kernel
theorem dX1_dropFirstEchoes_19 : decode cX1_dropFirstEchoes 19 = .ok (.aload_n 0, 1) := by decide +kernel
theorem dX1_dropFirstEchoes_20 : decode cX1_dropFirstEchoes 20 = .ok (.getfield 30, 3) := by decide +kernel
theorem dX1_dropFirstEchoes_23 : decode cX1_dropFirstEchoes 23 = .ok (.iload_n 2, 1) := by decide +kernel
theorem dX1_dropFirstEchoes_24 : decode cX1_dropFirstEchoes 24 = .ok (.iload_n 1, 1) := by decide +kernel
theorem dX1_dropFirstEchoes_25 : decode cX1_dropFirstEchoes 25 = .ok (.isub, 1) := by decide +kernel
theorem dX1_dropFirstEchoes_26 : decode cX1_dropFirstEchoes 26 = .ok (.aload_n 0, 1) := by decide +kernel
theorem dX1_dropFirstEchoes_27 : decode cX1_dropFirstEchoes 27 = .ok (.getfield 30, 3) := by decide +kernel
theorem dX1_dropFirstEchoes_30 : decode cX1_dropFirstEchoes 30 = .ok (.iload_n 2, 1) := by decide +kernel
theorem dX1_dropFirstEchoes_31 : decode cX1_dropFirstEchoes 31 = .ok (.aaload, 1) := by decide +kernel
theorem dX1_dropFirstEchoes_32 : decode cX1_dropFirstEchoes 32 = .ok (.aastore, 1) := by decide +kernel
theorem dX1_dropFirstEchoes_33 : decode cX1_dropFirstEchoes 33 = .ok (.aload_n 0, 1) := by decide +kernel
theorem dX1_dropFirstEchoes_34 : decode cX1_dropFirstEchoes 34 = .ok (.getfield 30, 3) := by decide +kernel
theorem dX1_dropFirstEchoes_37 : decode cX1_dropFirstEchoes 37 = .ok (.iload_n 2, 1) := by decide +kernel
theorem dX1_dropFirstEchoes_38 : decode cX1_dropFirstEchoes 38 = .ok (.aload_n 3, 1) := by decide +kernel
theorem dX1_dropFirstEchoes_39 : decode cX1_dropFirstEchoes 39 = .ok (.aastore, 1) := by decide +kernel
theorem dX1_dropFirstEchoes_40 : decode cX1_dropFirstEchoes 40 = .ok (.iinc 2 1, 3) := by decide +kernel
theorem dX1_dropFirstEchoes_43 : decode cX1_dropFirstEchoes 43 = .ok (.goto (-41), 3) := by decide +kernel
theorem dX1_dropFirstEchoes_46 : decode cX1_dropFirstEchoes 46 = .ok (.aload_n 0, 1) := by decide +kernel
theorem dX1_dropFirstEchoes_47 : decode cX1_dropFirstEchoes 47 = .ok (.dup, 1) := by decide +kernel
theorem dX1_dropFirstEchoes_48 : decode cX1_dropFirstEchoes 48 = .ok (.getfield 48, 3) := by decide +kernel
theorem dX1_dropFirstEchoes_51 : decode cX1_dropFirstEchoes 51 = .ok (.iload_n 1, 1) := by decide +kernel
theorem dX1_dropFirstEchoes_52 : decode cX1_dropFirstEchoes 52 = .ok (.isub, 1) := by decide +kernel
theorem dX1_dropFirstEchoes_53 : decode cX1_dropFirstEchoes 53 = .ok (.putfield 48, 3) := by decide +kernel
theorem dX1_dropFirstEchoes_56 : decode cX1_dropFirstEchoes 56 = .ok (.return_, 1) := by decide +kernel
theorem dX1_echoClashes_0 : decode cX1_echoClashes 0 = .ok (.aload_n 0, 1) := by decide +kernel
theorem dX1_echoClashes_1 : decode cX1_echoClashes 1 = .ok (.getfield 30, 3) := by decide +kernel
theorem dX1_echoClashes_4 : decode cX1_echoClashes 4 = .ok (.iload_n 1, 1) := by decide +kernel
theorem dX1_echoClashes_5 : decode cX1_echoClashes 5 = .ok (.aaload, 1) := by decide +kernel
theorem dX1_echoClashes_6 : decode cX1_echoClashes 6 = .ok (.astore_n 2, 1) := by decide +kernel
theorem dX1_echoClashes_7 : decode cX1_echoClashes 7 = .ok (.iconst 0, 1) := by decide +kernel
theorem dX1_echoClashes_8 : decode cX1_echoClashes 8 = .ok (.istore_n 3, 1) := by decide +kernel
theorem dX1_echoClashes_9 : decode cX1_echoClashes 9 = .ok (.iload_n 3, 1) := by decide +kernel
theorem dX1_echoClashes_10 : decode cX1_echoClashes 10 = .ok (.aload_n 0, 1) := by decide +kernel
theorem dX1_echoClashes_11 : decode cX1_echoClashes 11 = .ok (.getfield 48, 3) := by decide +kernel
theorem dX1_echoClashes_14 : decode cX1_echoClashes 14 = .ok (.if_icmp .ge 36, 3) := by decide +kernel
theorem dX1_echoClashes_17 : decode cX1_echoClashes 17 = .ok (.iload_n 3, 1) := by decide +kernel
theorem dX1_echoClashes_18 : decode cX1_echoClashes 18 = .ok (.iload_n 1, 1) := by decide +kernel
theorem dX1_echoClashes_19 : decode cX1_echoClashes 19 = .ok (.if_icmp .eq 25, 3) := by decide +kernel
theorem dX1_echoClashes_22 : decode cX1_echoClashes 22 = .ok (.aload_n 0, 1) := by decide +kernel
theorem dX1_echoClashes_23 : decode cX1_echoClashes 23 = .ok (.getfield 30, 3) := by decide +kernel
theorem dX1_echoClashes_26 : decode cX1_echoClashes 26 = .ok (.iload_n 3, 1) := by decide +kernel
theorem dX1_echoClashes_27 : decode cX1_echoClashes 27 = .ok (.aaload, 1) := by decide +kernel
theorem dX1_echoClashes_28 : decode cX1_echoClashes 28 = .ok (.aload_n 2, 1) := by decide +kernel
theorem dX1_echoClashes_29 : decode cX1_echoClashes 29 = .ok (.getfield 71, 3) := by decide +kernel
theorem dX1_echoClashes_32 : decode cX1_echoClashes 32 = .ok (.aload_n 2, 1) := by decide +kernel
theorem dX1_echoClashes_33 : decode cX1_echoClashes 33 = .ok (.getfield 103, 3) := by decide +kernel
theorem dX1_echoClashes_36 : decode cX1_echoClashes 36 = .ok (.invokevirtual 136, 3) := by decide +kernel
theorem dX1_echoClashes_39 : decode cX1_echoClashes 39 = .ok (.ifCond .eq 5, 3) := by decide +kernel
theorem dX1_echoClashes_42 : decode cX1_echoClashes 42 = .ok (.iconst 1, 1) := by decide +kernel
theorem dX1_echoClashes_43 : decode cX1_echoClashes 43 = .ok (.ireturn, 1) := by decide +kernel
theorem dX1_echoClashes_44 : decode cX1_echoClashes 44 = .ok (.iinc 3 1, 3) := by decide +kernel
theorem dX1_echoClashes_47 : decode cX1_echoClashes 47 = .ok (.goto (-38), 3) := by decide +kernel
theorem dX1_echoClashes_50 : decode cX1_echoClashes 50 = .ok (.iconst 0, 1) := by decide +kernel
theorem dX1_echoClashes_51 : decode cX1_echoClashes 51 = .ok (.ireturn, 1) := by decide +kernel
theorem dX1_isEchoDue_0 : decode cX1_isEchoDue 0 = .ok (.iconst 0, 1) := by decide +kernel
theorem dX1_isEchoDue_1 : decode cX1_isEchoDue 1 = .ok (.istore_n 3, 1) := by decide +kernel
theorem dX1_isEchoDue_2 : decode cX1_isEchoDue 2 = .ok (.iload_n 3, 1) := by decide +kernel
theorem dX1_isEchoDue_3 : decode cX1_isEchoDue 3 = .ok (.aload_n 0, 1) := by decide +kernel
theorem dX1_isEchoDue_4 : decode cX1_isEchoDue 4 = .ok (.getfield 48, 3) := by decide +kernel
theorem dX1_isEchoDue_7 : decode cX1_isEchoDue 7 = .ok (.if_icmp .ge 30, 3) := by decide +kernel
theorem dX1_isEchoDue_10 : decode cX1_isEchoDue 10 = .ok (.aload_n 0, 1) := by decide +kernel
theorem dX1_isEchoDue_11 : decode cX1_isEchoDue 11 = .ok (.getfield 30, 3) := by decide +kernel
theorem dX1_isEchoDue_14 : decode cX1_isEchoDue 14 = .ok (.iload_n 3, 1) := by decide +kernel
theorem dX1_isEchoDue_15 : decode cX1_isEchoDue 15 = .ok (.aaload, 1) := by decide +kernel
theorem dX1_isEchoDue_16 : decode cX1_isEchoDue 16 = .ok (.iload_n 1, 1) := by decide +kernel
theorem dX1_isEchoDue_17 : decode cX1_isEchoDue 17 = .ok (.aload_n 0, 1) := by decide +kernel
theorem dX1_isEchoDue_18 : decode cX1_isEchoDue 18 = .ok (.getfield 41, 3) := by decide +kernel
theorem dX1_isEchoDue_21 : decode cX1_isEchoDue 21 = .ok (.iload_n 2, 1) := by decide +kernel
theorem dX1_isEchoDue_22 : decode cX1_isEchoDue 22 = .ok (.iadd, 1) := by decide +kernel
theorem dX1_isEchoDue_23 : decode cX1_isEchoDue 23 = .ok (.invokevirtual 136, 3) := by decide +kernel
theorem dX1_isEchoDue_26 : decode cX1_isEchoDue 26 = .ok (.ifCond .eq 5, 3) := by decide +kernel
theorem dX1_isEchoDue_29 : decode cX1_isEchoDue 29 = .ok (.iconst 1, 1) := by decide +kernel
theorem dX1_isEchoDue_30 : decode cX1_isEchoDue 30 = .ok (.ireturn, 1) := by decide +kernel
theorem dX1_isEchoDue_31 : decode cX1_isEchoDue 31 = .ok (.iinc 3 1, 3) := by decide +kernel
theorem dX1_isEchoDue_34 : decode cX1_isEchoDue 34 = .ok (.goto (-32), 3) := by decide +kernel
theorem dX1_isEchoDue_37 : decode cX1_isEchoDue 37 = .ok (.iconst 0, 1) := by decide +kernel
theorem dX1_isEchoDue_38 : decode cX1_isEchoDue 38 = .ok (.ireturn, 1) := by decide +kernel
theorem dX1_newEchoClashes_0 : decode cX1_newEchoClashes 0 = .ok (.aload_n 0, 1) := by decide +kernel
theorem dX1_newEchoClashes_1 : decode cX1_newEchoClashes 1 = .ok (.getfield 24, 3) := by decide +kernel
theorem dX1_newEchoClashes_4 : decode cX1_newEchoClashes 4 = .ok (.iload_n 1, 1) := by decide +kernel
theorem dX1_newEchoClashes_5 : decode cX1_newEchoClashes 5 = .ok (.aaload, 1) := by decide +kernel
theorem dX1_newEchoClashes_6 : decode cX1_newEchoClashes 6 = .ok (.getfield 64, 3) := by decide +kernel
theorem dX1_newEchoClashes_9 : decode cX1_newEchoClashes 9 = .ok (.istore_n 3, 1) := by decide +kernel
theorem dX1_newEchoClashes_10 : decode cX1_newEchoClashes 10 = .ok (.aload_n 0, 1) := by decide +kernel
theorem dX1_newEchoClashes_11 : decode cX1_newEchoClashes 11 = .ok (.iload_n 3, 1) := by decide +kernel
theorem dX1_newEchoClashes_12 : decode cX1_newEchoClashes 12 = .ok (.iload_n 2, 1) := by decide +kernel
theorem dX1_newEchoClashes_13 : decode cX1_newEchoClashes 13 = .ok (.invokevirtual 91, 3) := by decide +kernel
theorem dX1_newEchoClashes_16 : decode cX1_newEchoClashes 16 = .ok (.istore 4, 2) := by decide +kernel
theorem dX1_newEchoClashes_18 : decode cX1_newEchoClashes 18 = .ok (.iload 4, 2) := by decide +kernel
theorem dX1_newEchoClashes_20 : decode cX1_newEchoClashes 20 = .ok (.aload_n 0, 1) := by decide +kernel
theorem dX1_newEchoClashes_21 : decode cX1_newEchoClashes 21 = .ok (.iload_n 3, 1) := by decide +kernel
theorem dX1_newEchoClashes_22 : decode cX1_newEchoClashes 22 = .ok (.iconst 1, 1) := by decide +kernel
theorem dX1_newEchoClashes_23 : decode cX1_newEchoClashes 23 = .ok (.iload_n 2, 1) := by decide +kernel
theorem dX1_newEchoClashes_24 : decode cX1_newEchoClashes 24 = .ok (.isub, 1) := by decide +kernel
theorem dX1_newEchoClashes_25 : decode cX1_newEchoClashes 25 = .ok (.invokevirtual 91, 3) := by decide +kernel
theorem dX1_newEchoClashes_28 : decode cX1_newEchoClashes 28 = .ok (.if_icmp .eq 13, 3) := by decide +kernel
theorem dX1_newEchoClashes_31 : decode cX1_newEchoClashes 31 = .ok (.aload_n 0, 1) := by decide +kernel
theorem dX1_newEchoClashes_32 : decode cX1_newEchoClashes 32 = .ok (.iload_n 3, 1) := by decide +kernel
theorem dX1_newEchoClashes_33 : decode cX1_newEchoClashes 33 = .ok (.iload 4, 2) := by decide +kernel
theorem dX1_newEchoClashes_35 : decode cX1_newEchoClashes 35 = .ok (.invokevirtual 140, 3) := by decide +kernel
theorem dX1_newEchoClashes_38 : decode cX1_newEchoClashes 38 = .ok (.ifCond .eq 7, 3) := by decide +kernel
theorem dX1_newEchoClashes_41 : decode cX1_newEchoClashes 41 = .ok (.iconst 1, 1) := by decide +kernel
theorem dX1_newEchoClashes_42 : decode cX1_newEchoClashes 42 = .ok (.goto 4, 3) := by decide +kernel
theorem dX1_newEchoClashes_45 : decode cX1_newEchoClashes 45 = .ok (.iconst 0, 1) := by decide +kernel
theorem dX1_newEchoClashes_46 : decode cX1_newEchoClashes 46 = .ok (.ireturn, 1) := by decide +kernel
theorem dX1_turnsToWait_0 : decode cX1_turnsToWait 0 = .ok (.aload_n 0, 1) := by decide +kernel
theorem dX1_turnsToWait_1 : decode cX1_turnsToWait 1 = .ok (.getfield 24, 3) := by decide +kernel
theorem dX1_turnsToWait_4 : decode cX1_turnsToWait 4 = .ok (.iload_n 1, 1) := by decide +kernel
theorem dX1_turnsToWait_5 : decode cX1_turnsToWait 5 = .ok (.aaload, 1) := by decide +kernel
theorem dX1_turnsToWait_6 : decode cX1_turnsToWait 6 = .ok (.getfield 64, 3) := by decide +kernel
theorem dX1_turnsToWait_9 : decode cX1_turnsToWait 9 = .ok (.istore_n 2, 1) := by decide +kernel
theorem dX1_turnsToWait_10 : decode cX1_turnsToWait 10 = .ok (.aload_n 0, 1) := by decide +kernel
theorem dX1_turnsToWait_11 : decode cX1_turnsToWait 11 = .ok (.iload_n 2, 1) := by decide +kernel
theorem dX1_turnsToWait_12 : decode cX1_turnsToWait 12 = .ok (.iconst 0, 1) := by decide +kernel
theorem dX1_turnsToWait_13 : decode cX1_turnsToWait 13 = .ok (.invokevirtual 91, 3) := by decide +kernel
theorem dX1_turnsToWait_16 : decode cX1_turnsToWait 16 = .ok (.istore_n 3, 1) := by decide +kernel
theorem dX1_turnsToWait_17 : decode cX1_turnsToWait 17 = .ok (.aload_n 0, 1) := by decide +kernel
theorem dX1_turnsToWait_18 : decode cX1_turnsToWait 18 = .ok (.iload_n 2, 1) := by decide +kernel
theorem dX1_turnsToWait_19 : decode cX1_turnsToWait 19 = .ok (.iconst 1, 1) := by decide +kernel
theorem dX1_turnsToWait_20 : decode cX1_turnsToWait 20 = .ok (.invokevirtual 91, 3) := by decide +kernel
theorem dX1_turnsToWait_23 : decode cX1_turnsToWait 23 = .ok (.istore 4, 2) := by decide +kernel
theorem dX1_turnsToWait_25 : decode cX1_turnsToWait 25 = .ok (.iload_n 3, 1) := by decide +kernel
theorem dX1_turnsToWait_26 : decode cX1_turnsToWait 26 = .ok (.iload 4, 2) := by decide +kernel
theorem dX1_turnsToWait_28 : decode cX1_turnsToWait 28 = .ok (.if_icmp .ne 5, 3) := by decide +kernel
theorem dX1_turnsToWait_31 : decode cX1_turnsToWait 31 = .ok (.iconst (-1), 1) := by decide +kernel
theorem dX1_turnsToWait_32 : decode cX1_turnsToWait 32 = .ok (.ireturn, 1) := by decide +kernel
theorem dX1_turnsToWait_33 : decode cX1_turnsToWait 33 = .ok (.iconst 0, 1) := by decide +kernel
theorem dX1_turnsToWait_34 : decode cX1_turnsToWait 34 = .ok (.istore 5, 2) := by decide +kernel
theorem dX1_turnsToWait_36 : decode cX1_turnsToWait 36 = .ok (.iload 5, 2) := by decide +kernel
theorem dX1_turnsToWait_38 : decode cX1_turnsToWait 38 = .ok (.bipush 60, 2) := by decide +kernel
theorem dX1_turnsToWait_40 : decode cX1_turnsToWait 40 = .ok (.if_icmp .gt 37, 3) := by decide +kernel
theorem dX1_turnsToWait_43 : decode cX1_turnsToWait 43 = .ok (.aload_n 0, 1) := by decide +kernel
theorem dX1_turnsToWait_44 : decode cX1_turnsToWait 44 = .ok (.iload_n 2, 1) := by decide +kernel
theorem dX1_turnsToWait_45 : decode cX1_turnsToWait 45 = .ok (.iload 5, 2) := by decide +kernel
theorem dX1_turnsToWait_47 : decode cX1_turnsToWait 47 = .ok (.iload_n 3, 1) := by decide +kernel
theorem dX1_turnsToWait_48 : decode cX1_turnsToWait 48 = .ok (.iadd, 1) := by decide +kernel
theorem dX1_turnsToWait_49 : decode cX1_turnsToWait 49 = .ok (.invokevirtual 143, 3) := by decide +kernel
theorem dX1_turnsToWait_52 : decode cX1_turnsToWait 52 = .ok (.ifCond .ne 16, 3) := by decide +kernel
theorem dX1_turnsToWait_55 : decode cX1_turnsToWait 55 = .ok (.aload_n 0, 1) := by decide +kernel
theorem dX1_turnsToWait_56 : decode cX1_turnsToWait 56 = .ok (.iload_n 2, 1) := by decide +kernel
theorem dX1_turnsToWait_57 : decode cX1_turnsToWait 57 = .ok (.iload 5, 2) := by decide +kernel
theorem dX1_turnsToWait_59 : decode cX1_turnsToWait 59 = .ok (.iload 4, 2) := by decide +kernel
theorem dX1_turnsToWait_61 : decode cX1_turnsToWait 61 = .ok (.iadd, 1) := by decide +kernel
theorem dX1_turnsToWait_62 : decode cX1_turnsToWait 62 = .ok (.invokevirtual 143, 3) := by decide +kernel
theorem dX1_turnsToWait_65 : decode cX1_turnsToWait 65 = .ok (.ifCond .eq 6, 3) := by decide +kernel
theorem dX1_turnsToWait_68 : decode cX1_turnsToWait 68 = .ok (.iload 5, 2) := by decide +kernel
theorem dX1_turnsToWait_70 : decode cX1_turnsToWait 70 = .ok (.ireturn, 1) := by decide +kernel
theorem dX1_turnsToWait_71 : decode cX1_turnsToWait 71 = .ok (.iinc 5 1, 3) := by decide +kernel
theorem dX1_turnsToWait_74 : decode cX1_turnsToWait 74 = .ok (.goto (-38), 3) := by decide +kernel
theorem dX1_turnsToWait_77 : decode cX1_turnsToWait 77 = .ok (.iconst (-1), 1) := by decide +kernel
theorem dX1_turnsToWait_78 : decode cX1_turnsToWait 78 = .ok (.ireturn, 1) := by decide +kernel
theorem dX1_meetsBallAlone_0 : decode cX1_meetsBallAlone 0 = .ok (.aload_n 0, 1) := by decide +kernel
theorem dX1_meetsBallAlone_1 : decode cX1_meetsBallAlone 1 = .ok (.getfield 18, 3) := by decide +kernel
theorem dX1_meetsBallAlone_4 : decode cX1_meetsBallAlone 4 = .ok (.iload_n 2, 1) := by decide +kernel
theorem dX1_meetsBallAlone_5 : decode cX1_meetsBallAlone 5 = .ok (.aload_n 0, 1) := by decide +kernel
theorem dX1_meetsBallAlone_6 : decode cX1_meetsBallAlone 6 = .ok (.invokevirtual 73, 3) := by decide +kernel
theorem dX1_meetsBallAlone_9 : decode cX1_meetsBallAlone 9 = .ok (.invokevirtual 146, 3) := by decide +kernel
theorem dX1_meetsBallAlone_12 : decode cX1_meetsBallAlone 12 = .ok (.iload_n 1, 1) := by decide +kernel
theorem dX1_meetsBallAlone_13 : decode cX1_meetsBallAlone 13 = .ok (.if_icmp .ne 16, 3) := by decide +kernel
theorem dX1_meetsBallAlone_16 : decode cX1_meetsBallAlone 16 = .ok (.aload_n 0, 1) := by decide +kernel
theorem dX1_meetsBallAlone_17 : decode cX1_meetsBallAlone 17 = .ok (.iload_n 1, 1) := by decide +kernel
theorem dX1_meetsBallAlone_18 : decode cX1_meetsBallAlone 18 = .ok (.iload_n 2, 1) := by decide +kernel
theorem dX1_meetsBallAlone_19 : decode cX1_meetsBallAlone 19 = .ok (.invokevirtual 140, 3) := by decide +kernel
theorem dX1_meetsBallAlone_22 : decode cX1_meetsBallAlone 22 = .ok (.ifCond .ne 7, 3) := by decide +kernel
theorem dX1_meetsBallAlone_25 : decode cX1_meetsBallAlone 25 = .ok (.iconst 1, 1) := by decide +kernel
theorem dX1_meetsBallAlone_26 : decode cX1_meetsBallAlone 26 = .ok (.goto 4, 3) := by decide +kernel
theorem dX1_meetsBallAlone_29 : decode cX1_meetsBallAlone 29 = .ok (.iconst 0, 1) := by decide +kernel
theorem dX1_meetsBallAlone_30 : decode cX1_meetsBallAlone 30 = .ok (.ireturn, 1) := by decide +kernel
theorem dX1_turnsToQuiet_0 : decode cX1_turnsToQuiet 0 = .ok (.aload_n 0, 1) := by decide +kernel
theorem dX1_turnsToQuiet_1 : decode cX1_turnsToQuiet 1 = .ok (.getfield 48, 3) := by decide +kernel
theorem dX1_turnsToQuiet_4 : decode cX1_turnsToQuiet 4 = .ok (.ifCond .le 25, 3) := by decide +kernel
theorem dX1_turnsToQuiet_7 : decode cX1_turnsToQuiet 7 = .ok (.aload_n 0, 1) := by decide +kernel
theorem dX1_turnsToQuiet_8 : decode cX1_turnsToQuiet 8 = .ok (.getfield 30, 3) := by decide +kernel
theorem dX1_turnsToQuiet_11 : decode cX1_turnsToQuiet 11 = .ok (.aload_n 0, 1) := by decide +kernel
theorem dX1_turnsToQuiet_12 : decode cX1_turnsToQuiet 12 = .ok (.getfield 48, 3) := by decide +kernel
theorem dX1_turnsToQuiet_15 : decode cX1_turnsToQuiet 15 = .ok (.iconst 1, 1) := by decide +kernel
theorem dX1_turnsToQuiet_16 : decode cX1_turnsToQuiet 16 = .ok (.isub, 1) := by decide +kernel
theorem dX1_turnsToQuiet_17 : decode cX1_turnsToQuiet 17 = .ok (.aaload, 1) := by decide +kernel
theorem dX1_turnsToQuiet_18 : decode cX1_turnsToQuiet 18 = .ok (.getfield 103, 3) := by decide +kernel
theorem dX1_turnsToQuiet_21 : decode cX1_turnsToQuiet 21 = .ok (.aload_n 0, 1) := by decide +kernel
theorem dX1_turnsToQuiet_22 : decode cX1_turnsToQuiet 22 = .ok (.getfield 41, 3) := by decide +kernel
theorem dX1_turnsToQuiet_25 : decode cX1_turnsToQuiet 25 = .ok (.isub, 1) := by decide +kernel
theorem dX1_turnsToQuiet_26 : decode cX1_turnsToQuiet 26 = .ok (.goto 4, 3) := by decide +kernel
theorem dX1_turnsToQuiet_29 : decode cX1_turnsToQuiet 29 = .ok (.iconst 0, 1) := by decide +kernel
theorem dX1_turnsToQuiet_30 : decode cX1_turnsToQuiet 30 = .ok (.ireturn, 1) := by decide +kernel
theorem dX1_shareAnswered_0 : decode cX1_shareAnswered 0 = .ok (.aload_n 0, 1) := by decide +kernel
theorem dX1_shareAnswered_1 : decode cX1_shareAnswered 1 = .ok (.iconst 4, 1) := by decide +kernel
theorem dX1_shareAnswered_2 : decode cX1_shareAnswered 2 = .ok (.invokevirtual 153, 3) := by decide +kernel
theorem dX1_shareAnswered_5 : decode cX1_shareAnswered 5 = .ok (.istore_n 1, 1) := by decide +kernel
theorem dX1_shareAnswered_6 : decode cX1_shareAnswered 6 = .ok (.iload_n 1, 1) := by decide +kernel
theorem dX1_shareAnswered_7 : decode cX1_shareAnswered 7 = .ok (.aload_n 0, 1) := by decide +kernel
theorem dX1_shareAnswered_8 : decode cX1_shareAnswered 8 = .ok (.iconst 5, 1) := by decide +kernel
theorem dX1_shareAnswered_9 : decode cX1_shareAnswered 9 = .ok (.invokevirtual 153, 3) := by decide +kernel
theorem dX1_shareAnswered_12 : decode cX1_shareAnswered 12 = .ok (.iadd, 1) := by decide +kernel
theorem dX1_shareAnswered_13 : decode cX1_shareAnswered 13 = .ok (.aload_n 0, 1) := by decide +kernel
theorem dX1_shareAnswered_14 : decode cX1_shareAnswered 14 = .ok (.bipush 6, 2) := by decide +kernel
theorem dX1_shareAnswered_16 : decode cX1_shareAnswered 16 = .ok (.invokevirtual 153, 3) := by decide +kernel
theorem dX1_shareAnswered_19 : decode cX1_shareAnswered 19 = .ok (.iadd, 1) := by decide +kernel
theorem dX1_shareAnswered_20 : decode cX1_shareAnswered 20 = .ok (.istore_n 2, 1) := by decide +kernel
theorem dX1_shareAnswered_21 : decode cX1_shareAnswered 21 = .ok (.iload_n 2, 1) := by decide +kernel
theorem dX1_shareAnswered_22 : decode cX1_shareAnswered 22 = .ok (.ifCond .le 11, 3) := by decide +kernel
theorem dX1_shareAnswered_25 : decode cX1_shareAnswered 25 = .ok (.iload_n 1, 1) := by decide +kernel
theorem dX1_shareAnswered_26 : decode cX1_shareAnswered 26 = .ok (.i2d, 1) := by decide +kernel
theorem dX1_shareAnswered_27 : decode cX1_shareAnswered 27 = .ok (.iload_n 2, 1) := by decide +kernel
theorem dX1_shareAnswered_28 : decode cX1_shareAnswered 28 = .ok (.i2d, 1) := by decide +kernel
theorem dX1_shareAnswered_29 : decode cX1_shareAnswered 29 = .ok (.ddiv, 1) := by decide +kernel
theorem dX1_shareAnswered_30 : decode cX1_shareAnswered 30 = .ok (.goto 4, 3) := by decide +kernel
theorem dX1_shareAnswered_33 : decode cX1_shareAnswered 33 = .ok (.dconst 1, 1) := by decide +kernel
theorem dX1_shareAnswered_34 : decode cX1_shareAnswered 34 = .ok (.dreturn, 1) := by decide +kernel
theorem dX1_playerNumber_0 : decode cX1_playerNumber 0 = .ok (.iload_n 2, 1) := by decide +kernel
theorem dX1_playerNumber_1 : decode cX1_playerNumber 1 = .ok (.tableswitch 95 0 5 #[39, 49, 59, 69, 75, 85], 39) := by decide +kernel
theorem dX1_playerNumber_40 : decode cX1_playerNumber 40 = .ok (.aload_n 0, 1) := by decide +kernel
theorem dX1_playerNumber_41 : decode cX1_playerNumber 41 = .ok (.getfield 24, 3) := by decide +kernel
theorem dX1_playerNumber_44 : decode cX1_playerNumber 44 = .ok (.iload_n 1, 1) := by decide +kernel
theorem dX1_playerNumber_45 : decode cX1_playerNumber 45 = .ok (.aaload, 1) := by decide +kernel
theorem dX1_playerNumber_46 : decode cX1_playerNumber 46 = .ok (.getfield 64, 3) := by decide +kernel
theorem dX1_playerNumber_49 : decode cX1_playerNumber 49 = .ok (.ireturn, 1) := by decide +kernel
theorem dX1_playerNumber_50 : decode cX1_playerNumber 50 = .ok (.aload_n 0, 1) := by decide +kernel
theorem dX1_playerNumber_51 : decode cX1_playerNumber 51 = .ok (.getfield 24, 3) := by decide +kernel
theorem dX1_playerNumber_54 : decode cX1_playerNumber 54 = .ok (.iload_n 1, 1) := by decide +kernel
theorem dX1_playerNumber_55 : decode cX1_playerNumber 55 = .ok (.aaload, 1) := by decide +kernel
theorem dX1_playerNumber_56 : decode cX1_playerNumber 56 = .ok (.getfield 130, 3) := by decide +kernel
theorem dX1_playerNumber_59 : decode cX1_playerNumber 59 = .ok (.ireturn, 1) := by decide +kernel
theorem dX1_playerNumber_60 : decode cX1_playerNumber 60 = .ok (.aload_n 0, 1) := by decide +kernel
theorem dX1_playerNumber_61 : decode cX1_playerNumber 61 = .ok (.getfield 24, 3) := by decide +kernel
theorem dX1_playerNumber_64 : decode cX1_playerNumber 64 = .ok (.iload_n 1, 1) := by decide +kernel
theorem dX1_playerNumber_65 : decode cX1_playerNumber 65 = .ok (.aaload, 1) := by decide +kernel
theorem dX1_playerNumber_66 : decode cX1_playerNumber 66 = .ok (.getfield 84, 3) := by decide +kernel
theorem dX1_playerNumber_69 : decode cX1_playerNumber 69 = .ok (.ireturn, 1) := by decide +kernel
theorem dX1_playerNumber_70 : decode cX1_playerNumber 70 = .ok (.aload_n 0, 1) := by decide +kernel
theorem dX1_playerNumber_71 : decode cX1_playerNumber 71 = .ok (.iload_n 1, 1) := by decide +kernel
theorem dX1_playerNumber_72 : decode cX1_playerNumber 72 = .ok (.invokevirtual 80, 3) := by decide +kernel
theorem dX1_playerNumber_75 : decode cX1_playerNumber 75 = .ok (.ireturn, 1) := by decide +kernel
theorem dX1_playerNumber_76 : decode cX1_playerNumber 76 = .ok (.aload_n 0, 1) := by decide +kernel
theorem dX1_playerNumber_77 : decode cX1_playerNumber 77 = .ok (.getfield 24, 3) := by decide +kernel
theorem dX1_playerNumber_80 : decode cX1_playerNumber 80 = .ok (.iload_n 1, 1) := by decide +kernel
theorem dX1_playerNumber_81 : decode cX1_playerNumber 81 = .ok (.aaload, 1) := by decide +kernel
theorem dX1_playerNumber_82 : decode cX1_playerNumber 82 = .ok (.getfield 127, 3) := by decide +kernel
theorem dX1_playerNumber_85 : decode cX1_playerNumber 85 = .ok (.ireturn, 1) := by decide +kernel
theorem dX1_playerNumber_86 : decode cX1_playerNumber 86 = .ok (.aload_n 0, 1) := by decide +kernel
theorem dX1_playerNumber_87 : decode cX1_playerNumber 87 = .ok (.getfield 24, 3) := by decide +kernel
theorem dX1_playerNumber_90 : decode cX1_playerNumber 90 = .ok (.iload_n 1, 1) := by decide +kernel
theorem dX1_playerNumber_91 : decode cX1_playerNumber 91 = .ok (.aaload, 1) := by decide +kernel
theorem dX1_playerNumber_92 : decode cX1_playerNumber 92 = .ok (.getfield 121, 3) := by decide +kernel
theorem dX1_playerNumber_95 : decode cX1_playerNumber 95 = .ok (.ireturn, 1) := by decide +kernel
theorem dX1_playerNumber_96 : decode cX1_playerNumber 96 = .ok (.aload_n 0, 1) := by decide +kernel
theorem dX1_playerNumber_97 : decode cX1_playerNumber 97 = .ok (.getfield 24, 3) := by decide +kernel
theorem dX1_playerNumber_100 : decode cX1_playerNumber 100 = .ok (.iload_n 1, 1) := by decide +kernel
theorem dX1_playerNumber_101 : decode cX1_playerNumber 101 = .ok (.aaload, 1) := by decide +kernel
theorem dX1_playerNumber_102 : decode cX1_playerNumber 102 = .ok (.getfield 124, 3) := by decide +kernel
theorem dX1_playerNumber_105 : decode cX1_playerNumber 105 = .ok (.ireturn, 1) := by decide +kernel
theorem dX1_sumOfPlayers_0 : decode cX1_sumOfPlayers 0 = .ok (.iconst 0, 1) := by decide +kernel
theorem dX1_sumOfPlayers_1 : decode cX1_sumOfPlayers 1 = .ok (.istore_n 2, 1) := by decide +kernel
theorem dX1_sumOfPlayers_2 : decode cX1_sumOfPlayers 2 = .ok (.iconst 0, 1) := by decide +kernel
theorem dX1_sumOfPlayers_3 : decode cX1_sumOfPlayers 3 = .ok (.istore_n 3, 1) := by decide +kernel
theorem dX1_sumOfPlayers_4 : decode cX1_sumOfPlayers 4 = .ok (.iload_n 3, 1) := by decide +kernel
theorem dX1_sumOfPlayers_5 : decode cX1_sumOfPlayers 5 = .ok (.iconst 4, 1) := by decide +kernel
theorem dX1_sumOfPlayers_6 : decode cX1_sumOfPlayers 6 = .ok (.if_icmp .ge 18, 3) := by decide +kernel
theorem dX1_sumOfPlayers_9 : decode cX1_sumOfPlayers 9 = .ok (.iload_n 2, 1) := by decide +kernel
theorem dX1_sumOfPlayers_10 : decode cX1_sumOfPlayers 10 = .ok (.aload_n 0, 1) := by decide +kernel
theorem dX1_sumOfPlayers_11 : decode cX1_sumOfPlayers 11 = .ok (.iload_n 3, 1) := by decide +kernel
theorem dX1_sumOfPlayers_12 : decode cX1_sumOfPlayers 12 = .ok (.iload_n 1, 1) := by decide +kernel
theorem dX1_sumOfPlayers_13 : decode cX1_sumOfPlayers 13 = .ok (.invokevirtual 156, 3) := by decide +kernel
theorem dX1_sumOfPlayers_16 : decode cX1_sumOfPlayers 16 = .ok (.iadd, 1) := by decide +kernel
theorem dX1_sumOfPlayers_17 : decode cX1_sumOfPlayers 17 = .ok (.istore_n 2, 1) := by decide +kernel
theorem dX1_sumOfPlayers_18 : decode cX1_sumOfPlayers 18 = .ok (.iinc 3 1, 3) := by decide +kernel
theorem dX1_sumOfPlayers_21 : decode cX1_sumOfPlayers 21 = .ok (.goto (-17), 3) := by decide +kernel
theorem dX1_sumOfPlayers_24 : decode cX1_sumOfPlayers 24 = .ok (.iload_n 2, 1) := by decide +kernel
theorem dX1_sumOfPlayers_25 : decode cX1_sumOfPlayers 25 = .ok (.ireturn, 1) := by decide +kernel
theorem dX1_echoNumber_0 : decode cX1_echoNumber 0 = .ok (.iload_n 1, 1) := by decide +kernel
theorem dX1_echoNumber_1 : decode cX1_echoNumber 1 = .ok (.ifCond .lt 11, 3) := by decide +kernel
theorem dX1_echoNumber_4 : decode cX1_echoNumber 4 = .ok (.iload_n 1, 1) := by decide +kernel
theorem dX1_echoNumber_5 : decode cX1_echoNumber 5 = .ok (.aload_n 0, 1) := by decide +kernel
theorem dX1_echoNumber_6 : decode cX1_echoNumber 6 = .ok (.getfield 48, 3) := by decide +kernel
theorem dX1_echoNumber_9 : decode cX1_echoNumber 9 = .ok (.if_icmp .lt 5, 3) := by decide +kernel
theorem dX1_echoNumber_12 : decode cX1_echoNumber 12 = .ok (.iconst (-1), 1) := by decide +kernel
theorem dX1_echoNumber_13 : decode cX1_echoNumber 13 = .ok (.ireturn, 1) := by decide +kernel
theorem dX1_echoNumber_14 : decode cX1_echoNumber 14 = .ok (.aload_n 0, 1) := by decide +kernel
theorem dX1_echoNumber_15 : decode cX1_echoNumber 15 = .ok (.getfield 30, 3) := by decide +kernel
theorem dX1_echoNumber_18 : decode cX1_echoNumber 18 = .ok (.iload_n 1, 1) := by decide +kernel
theorem dX1_echoNumber_19 : decode cX1_echoNumber 19 = .ok (.aaload, 1) := by decide +kernel
theorem dX1_echoNumber_20 : decode cX1_echoNumber 20 = .ok (.astore_n 3, 1) := by decide +kernel
theorem dX1_echoNumber_21 : decode cX1_echoNumber 21 = .ok (.iload_n 2, 1) := by decide +kernel
theorem dX1_echoNumber_22 : decode cX1_echoNumber 22 = .ok (.tableswitch 64 0 4 #[34, 39, 44, 49, 59], 34) := by decide +kernel
theorem dX1_echoNumber_56 : decode cX1_echoNumber 56 = .ok (.aload_n 3, 1) := by decide +kernel
theorem dX1_echoNumber_57 : decode cX1_echoNumber 57 = .ok (.getfield 77, 3) := by decide +kernel
theorem dX1_echoNumber_60 : decode cX1_echoNumber 60 = .ok (.ireturn, 1) := by decide +kernel
theorem dX1_echoNumber_61 : decode cX1_echoNumber 61 = .ok (.aload_n 3, 1) := by decide +kernel
theorem dX1_echoNumber_62 : decode cX1_echoNumber 62 = .ok (.getfield 71, 3) := by decide +kernel
theorem dX1_echoNumber_65 : decode cX1_echoNumber 65 = .ok (.ireturn, 1) := by decide +kernel
theorem dX1_echoNumber_66 : decode cX1_echoNumber 66 = .ok (.aload_n 3, 1) := by decide +kernel
theorem dX1_echoNumber_67 : decode cX1_echoNumber 67 = .ok (.getfield 97, 3) := by decide +kernel
theorem dX1_echoNumber_70 : decode cX1_echoNumber 70 = .ok (.ireturn, 1) := by decide +kernel
theorem dX1_echoNumber_71 : decode cX1_echoNumber 71 = .ok (.aload_n 3, 1) := by decide +kernel
theorem dX1_echoNumber_72 : decode cX1_echoNumber 72 = .ok (.getfield 103, 3) := by decide +kernel
theorem dX1_echoNumber_75 : decode cX1_echoNumber 75 = .ok (.aload_n 0, 1) := by decide +kernel
theorem dX1_echoNumber_76 : decode cX1_echoNumber 76 = .ok (.getfield 41, 3) := by decide +kernel
theorem dX1_echoNumber_79 : decode cX1_echoNumber 79 = .ok (.isub, 1) := by decide +kernel
theorem dX1_echoNumber_80 : decode cX1_echoNumber 80 = .ok (.ireturn, 1) := by decide +kernel
theorem dX1_echoNumber_81 : decode cX1_echoNumber 81 = .ok (.aload_n 3, 1) := by decide +kernel
theorem dX1_echoNumber_82 : decode cX1_echoNumber 82 = .ok (.getfield 100, 3) := by decide +kernel
theorem dX1_echoNumber_85 : decode cX1_echoNumber 85 = .ok (.ireturn, 1) := by decide +kernel
theorem dX1_echoNumber_86 : decode cX1_echoNumber 86 = .ok (.aload_n 0, 1) := by decide +kernel
theorem dX1_echoNumber_87 : decode cX1_echoNumber 87 = .ok (.iload_n 1, 1) := by decide +kernel
theorem dX1_echoNumber_88 : decode cX1_echoNumber 88 = .ok (.invokevirtual 118, 3) := by decide +kernel
theorem dX1_echoNumber_91 : decode cX1_echoNumber 91 = .ok (.ifCond .eq 7, 3) := by decide +kernel
theorem dX1_echoNumber_94 : decode cX1_echoNumber 94 = .ok (.iconst 1, 1) := by decide +kernel
theorem dX1_echoNumber_95 : decode cX1_echoNumber 95 = .ok (.goto 4, 3) := by decide +kernel
theorem dX1_echoNumber_98 : decode cX1_echoNumber 98 = .ok (.iconst 0, 1) := by decide +kernel
theorem dX1_echoNumber_99 : decode cX1_echoNumber 99 = .ok (.ireturn, 1) := by decide +kernel
theorem dX1_number_0 : decode cX1_number 0 = .ok (.iload_n 1, 1) := by decide +kernel
theorem dX1_number_1 : decode cX1_number 1 = .ok (.tableswitch 122 0 9 #[55, 60, 68, 76, 84, 89, 97, 103, 109, 116], 55) := by decide +kernel
theorem dX1_number_56 : decode cX1_number 56 = .ok (.aload_n 0, 1) := by decide +kernel
theorem dX1_number_57 : decode cX1_number 57 = .ok (.getfield 41, 3) := by decide +kernel
theorem dX1_number_60 : decode cX1_number 60 = .ok (.ireturn, 1) := by decide +kernel
theorem dX1_number_61 : decode cX1_number 61 = .ok (.aload_n 0, 1) := by decide +kernel
theorem dX1_number_62 : decode cX1_number 62 = .ok (.getfield 18, 3) := by decide +kernel
theorem dX1_number_65 : decode cX1_number 65 = .ok (.getfield 61, 3) := by decide +kernel
theorem dX1_number_68 : decode cX1_number 68 = .ok (.ireturn, 1) := by decide +kernel
theorem dX1_number_69 : decode cX1_number 69 = .ok (.aload_n 0, 1) := by decide +kernel
theorem dX1_number_70 : decode cX1_number 70 = .ok (.getfield 18, 3) := by decide +kernel
theorem dX1_number_73 : decode cX1_number 73 = .ok (.getfield 159, 3) := by decide +kernel
theorem dX1_number_76 : decode cX1_number 76 = .ok (.ireturn, 1) := by decide +kernel
theorem dX1_number_77 : decode cX1_number 77 = .ok (.aload_n 0, 1) := by decide +kernel
theorem dX1_number_78 : decode cX1_number 78 = .ok (.getfield 18, 3) := by decide +kernel
theorem dX1_number_81 : decode cX1_number 81 = .ok (.invokevirtual 162, 3) := by decide +kernel
theorem dX1_number_84 : decode cX1_number 84 = .ok (.ireturn, 1) := by decide +kernel
theorem dX1_number_85 : decode cX1_number 85 = .ok (.aload_n 0, 1) := by decide +kernel
theorem dX1_number_86 : decode cX1_number 86 = .ok (.getfield 48, 3) := by decide +kernel
theorem dX1_number_89 : decode cX1_number 89 = .ok (.ireturn, 1) := by decide +kernel
theorem dX1_number_90 : decode cX1_number 90 = .ok (.iconst 2, 1) := by decide +kernel
theorem dX1_number_91 : decode cX1_number 91 = .ok (.aload_n 0, 1) := by decide +kernel
theorem dX1_number_92 : decode cX1_number 92 = .ok (.iconst 2, 1) := by decide +kernel
theorem dX1_number_93 : decode cX1_number 93 = .ok (.invokevirtual 153, 3) := by decide +kernel
theorem dX1_number_96 : decode cX1_number 96 = .ok (.imul, 1) := by decide +kernel
theorem dX1_number_97 : decode cX1_number 97 = .ok (.ireturn, 1) := by decide +kernel
theorem dX1_number_98 : decode cX1_number 98 = .ok (.aload_n 0, 1) := by decide +kernel
theorem dX1_number_99 : decode cX1_number 99 = .ok (.iconst 4, 1) := by decide +kernel
theorem dX1_number_100 : decode cX1_number 100 = .ok (.invokevirtual 153, 3) := by decide +kernel
theorem dX1_number_103 : decode cX1_number 103 = .ok (.ireturn, 1) := by decide +kernel
theorem dX1_number_104 : decode cX1_number 104 = .ok (.aload_n 0, 1) := by decide +kernel
theorem dX1_number_105 : decode cX1_number 105 = .ok (.iconst 5, 1) := by decide +kernel
theorem dX1_number_106 : decode cX1_number 106 = .ok (.invokevirtual 153, 3) := by decide +kernel
theorem dX1_number_109 : decode cX1_number 109 = .ok (.ireturn, 1) := by decide +kernel
theorem dX1_number_110 : decode cX1_number 110 = .ok (.aload_n 0, 1) := by decide +kernel
theorem dX1_number_111 : decode cX1_number 111 = .ok (.bipush 6, 2) := by decide +kernel
theorem dX1_number_113 : decode cX1_number 113 = .ok (.invokevirtual 153, 3) := by decide +kernel
theorem dX1_number_116 : decode cX1_number 116 = .ok (.ireturn, 1) := by decide +kernel
theorem dX1_number_117 : decode cX1_number 117 = .ok (.aload_n 0, 1) := by decide +kernel
theorem dX1_number_118 : decode cX1_number 118 = .ok (.iconst 1, 1) := by decide +kernel
theorem dX1_number_119 : decode cX1_number 119 = .ok (.invokevirtual 153, 3) := by decide +kernel
theorem dX1_number_122 : decode cX1_number 122 = .ok (.ireturn, 1) := by decide +kernel
theorem dX1_number_123 : decode cX1_number 123 = .ok (.aload_n 0, 1) := by decide +kernel
theorem dX1_number_124 : decode cX1_number 124 = .ok (.getfield 45, 3) := by decide +kernel
theorem dX1_number_127 : decode cX1_number 127 = .ok (.ireturn, 1) := by decide +kernel
