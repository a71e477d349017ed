theorem dX9_addEquation_11 : decode cX9_addEquation 11 = .ok (.bipush 30, 2) := by decide +kernel
theorem dX9_addEquation_13 : decode cX9_addEquation 13 = .ok (.if_icmp .ge 33, 3) := by decide +kernel
theorem dX9_addEquation_16 : decode cX9_addEquation 16 = .ok (.aload_n 0, 1) := by decide +kernel
theorem dX9_addEquation_17 : decode cX9_addEquation 17 = .ok (.getfield 9, 3) := by decide +kernel
theorem dX9_addEquation_20 : decode cX9_addEquation 20 = .ok (.aload_n 0, 1) := by decide +kernel
theorem dX9_addEquation_21 : decode cX9_addEquation 21 = .ok (.getfield 71, 3) := by decide +kernel
theorem dX9_addEquation_24 : decode cX9_addEquation 24 = .ok (.iload_n 1, 1) := by decide +kernel
theorem dX9_addEquation_25 : decode cX9_addEquation 25 = .ok (.iastore, 1) := by decide +kernel
theorem dX9_addEquation_26 : decode cX9_addEquation 26 = .ok (.aload_n 0, 1) := by decide +kernel
theorem dX9_addEquation_27 : decode cX9_addEquation 27 = .ok (.getfield 15, 3) := by decide +kernel
theorem dX9_addEquation_30 : decode cX9_addEquation 30 = .ok (.aload_n 0, 1) := by decide +kernel
theorem dX9_addEquation_31 : decode cX9_addEquation 31 = .ok (.getfield 71, 3) := by decide +kernel
theorem dX9_addEquation_34 : decode cX9_addEquation 34 = .ok (.iload_n 2, 1) := by decide +kernel
theorem dX9_addEquation_35 : decode cX9_addEquation 35 = .ok (.iastore, 1) := by decide +kernel
theorem dX9_addEquation_36 : decode cX9_addEquation 36 = .ok (.aload_n 0, 1) := by decide +kernel
theorem dX9_addEquation_37 : decode cX9_addEquation 37 = .ok (.dup, 1) := by decide +kernel
theorem dX9_addEquation_38 : decode cX9_addEquation 38 = .ok (.getfield 71, 3) := by decide +kernel
theorem dX9_addEquation_41 : decode cX9_addEquation 41 = .ok (.iconst 1, 1) := by decide +kernel
theorem dX9_addEquation_42 : decode cX9_addEquation 42 = .ok (.iadd, 1) := by decide +kernel
theorem dX9_addEquation_43 : decode cX9_addEquation 43 = .ok (.putfield 71, 3) := by decide +kernel
theorem dX9_addEquation_46 : decode cX9_addEquation 46 = .ok (.return_, 1) := by decide +kernel
theorem dX9_addRule_0 : decode cX9_addRule 0 = .ok (.aload_n 0, 1) := by decide +kernel
theorem dX9_addRule_1 : decode cX9_addRule 1 = .ok (.getfield 168, 3) := by decide +kernel
theorem dX9_addRule_4 : decode cX9_addRule 4 = .ok (.ifCond .lt 54, 3) := by decide +kernel
theorem dX9_addRule_7 : decode cX9_addRule 7 = .ok (.aload_n 0, 1) := by decide +kernel
theorem dX9_addRule_8 : decode cX9_addRule 8 = .ok (.getfield 168, 3) := by decide +kernel
theorem dX9_addRule_11 : decode cX9_addRule 11 = .ok (.bipush 30, 2) := by decide +kernel
theorem dX9_addRule_13 : decode cX9_addRule 13 = .ok (.if_icmp .ge 45, 3) := by decide +kernel
theorem dX9_addRule_16 : decode cX9_addRule 16 = .ok (.aload_n 0, 1) := by decide +kernel
theorem dX9_addRule_17 : decode cX9_addRule 17 = .ok (.getfield 30, 3) := by decide +kernel
theorem dX9_addRule_20 : decode cX9_addRule 20 = .ok (.aload_n 0, 1) := by decide +kernel
theorem dX9_addRule_21 : decode cX9_addRule 21 = .ok (.getfield 168, 3) := by decide +kernel
theorem dX9_addRule_24 : decode cX9_addRule 24 = .ok (.iload_n 1, 1) := by decide +kernel
theorem dX9_addRule_25 : decode cX9_addRule 25 = .ok (.iastore, 1) := by decide +kernel
theorem dX9_addRule_26 : decode cX9_addRule 26 = .ok (.aload_n 0, 1) := by decide +kernel
theorem dX9_addRule_27 : decode cX9_addRule 27 = .ok (.getfield 33, 3) := by decide +kernel
theorem dX9_addRule_30 : decode cX9_addRule 30 = .ok (.aload_n 0, 1) := by decide +kernel
theorem dX9_addRule_31 : decode cX9_addRule 31 = .ok (.getfield 168, 3) := by decide +kernel
theorem dX9_addRule_34 : decode cX9_addRule 34 = .ok (.iload_n 2, 1) := by decide +kernel
theorem dX9_addRule_35 : decode cX9_addRule 35 = .ok (.iastore, 1) := by decide +kernel
theorem dX9_addRule_36 : decode cX9_addRule 36 = .ok (.aload_n 0, 1) := by decide +kernel
theorem dX9_addRule_37 : decode cX9_addRule 37 = .ok (.getfield 42, 3) := by decide +kernel
theorem dX9_addRule_40 : decode cX9_addRule 40 = .ok (.iload_n 1, 1) := by decide +kernel
theorem dX9_addRule_41 : decode cX9_addRule 41 = .ok (.aload_n 0, 1) := by decide +kernel
theorem dX9_addRule_42 : decode cX9_addRule 42 = .ok (.getfield 168, 3) := by decide +kernel
theorem dX9_addRule_45 : decode cX9_addRule 45 = .ok (.invokevirtual 187, 3) := by decide +kernel
theorem dX9_addRule_48 : decode cX9_addRule 48 = .ok (.aload_n 0, 1) := by decide +kernel
theorem dX9_addRule_49 : decode cX9_addRule 49 = .ok (.dup, 1) := by decide +kernel
theorem dX9_addRule_50 : decode cX9_addRule 50 = .ok (.getfield 168, 3) := by decide +kernel
theorem dX9_addRule_53 : decode cX9_addRule 53 = .ok (.iconst 1, 1) := by decide +kernel
theorem dX9_addRule_54 : decode cX9_addRule 54 = .ok (.iadd, 1) := by decide +kernel
theorem dX9_addRule_55 : decode cX9_addRule 55 = .ok (.putfield 168, 3) := by decide +kernel
theorem dX9_addRule_58 : decode cX9_addRule 58 = .ok (.return_, 1) := by decide +kernel
theorem dX9_closeLevel_0 : decode cX9_closeLevel 0 = .ok (.aload_n 0, 1) := by decide +kernel
theorem dX9_closeLevel_1 : decode cX9_closeLevel 1 = .ok (.getfield 85, 3) := by decide +kernel
theorem dX9_closeLevel_4 : decode cX9_closeLevel 4 = .ok (.ifCond .le 44, 3) := by decide +kernel
theorem dX9_closeLevel_7 : decode cX9_closeLevel 7 = .ok (.aload_n 0, 1) := by decide +kernel
theorem dX9_closeLevel_8 : decode cX9_closeLevel 8 = .ok (.getfield 85, 3) := by decide +kernel
theorem dX9_closeLevel_11 : decode cX9_closeLevel 11 = .ok (.bipush 8, 2) := by decide +kernel
theorem dX9_closeLevel_13 : decode cX9_closeLevel 13 = .ok (.if_icmp .gt 35, 3) := by decide +kernel
theorem dX9_closeLevel_16 : decode cX9_closeLevel 16 = .ok (.aload_n 0, 1) := by decide +kernel
theorem dX9_closeLevel_17 : decode cX9_closeLevel 17 = .ok (.dup, 1) := by decide +kernel
theorem dX9_closeLevel_18 : decode cX9_closeLevel 18 = .ok (.getfield 85, 3) := by decide +kernel
theorem dX9_closeLevel_21 : decode cX9_closeLevel 21 = .ok (.iconst 1, 1) := by decide +kernel
theorem dX9_closeLevel_22 : decode cX9_closeLevel 22 = .ok (.isub, 1) := by decide +kernel
theorem dX9_closeLevel_23 : decode cX9_closeLevel 23 = .ok (.putfield 85, 3) := by decide +kernel
theorem dX9_closeLevel_26 : decode cX9_closeLevel 26 = .ok (.aload_n 0, 1) := by decide +kernel
theorem dX9_closeLevel_27 : decode cX9_closeLevel 27 = .ok (.aload_n 0, 1) := by decide +kernel
theorem dX9_closeLevel_28 : decode cX9_closeLevel 28 = .ok (.getfield 24, 3) := by decide +kernel
theorem dX9_closeLevel_31 : decode cX9_closeLevel 31 = .ok (.aload_n 0, 1) := by decide +kernel
theorem dX9_closeLevel_32 : decode cX9_closeLevel 32 = .ok (.getfield 85, 3) := by decide +kernel
theorem dX9_closeLevel_35 : decode cX9_closeLevel 35 = .ok (.iaload, 1) := by decide +kernel
theorem dX9_closeLevel_36 : decode cX9_closeLevel 36 = .ok (.aload_n 0, 1) := by decide +kernel
theorem dX9_closeLevel_37 : decode cX9_closeLevel 37 = .ok (.getfield 27, 3) := by decide +kernel
theorem dX9_closeLevel_40 : decode cX9_closeLevel 40 = .ok (.aload_n 0, 1) := by decide +kernel
theorem dX9_closeLevel_41 : decode cX9_closeLevel 41 = .ok (.getfield 85, 3) := by decide +kernel
theorem dX9_closeLevel_44 : decode cX9_closeLevel 44 = .ok (.iaload, 1) := by decide +kernel
theorem dX9_closeLevel_45 : decode cX9_closeLevel 45 = .ok (.invokevirtual 88, 3) := by decide +kernel
theorem dX9_closeLevel_48 : decode cX9_closeLevel 48 = .ok (.return_, 1) := by decide +kernel
theorem dX9_complete_0 : decode cX9_complete 0 = .ok (.aload_n 0, 1) := by decide +kernel
theorem dX9_complete_1 : decode cX9_complete 1 = .ok (.iconst (-1), 1) := by decide +kernel
theorem dX9_complete_2 : decode cX9_complete 2 = .ok (.iconst (-1), 1) := by decide +kernel
theorem dX9_complete_3 : decode cX9_complete 3 = .ok (.iconst (-1), 1) := by decide +kernel
theorem dX9_complete_4 : decode cX9_complete 4 = .ok (.invokevirtual 91, 3) := by decide +kernel
theorem dX9_complete_7 : decode cX9_complete 7 = .ok (.aload_n 0, 1) := by decide +kernel
theorem dX9_complete_8 : decode cX9_complete 8 = .ok (.getfield 67, 3) := by decide +kernel
theorem dX9_complete_11 : decode cX9_complete 11 = .ok (.invokevirtual 95, 3) := by decide +kernel
theorem dX9_complete_14 : decode cX9_complete 14 = .ok (.aload_n 0, 1) := by decide +kernel
theorem dX9_complete_15 : decode cX9_complete 15 = .ok (.getfield 67, 3) := by decide +kernel
theorem dX9_complete_18 : decode cX9_complete 18 = .ok (.aload_n 0, 1) := by decide +kernel
theorem dX9_complete_19 : decode cX9_complete 19 = .ok (.getfield 58, 3) := by decide +kernel
theorem dX9_complete_22 : decode cX9_complete 22 = .ok (.invokevirtual 98, 3) := by decide +kernel
theorem dX9_complete_25 : decode cX9_complete 25 = .ok (.aload_n 0, 1) := by decide +kernel
theorem dX9_complete_26 : decode cX9_complete 26 = .ok (.getfield 58, 3) := by decide +kernel
theorem dX9_complete_29 : decode cX9_complete 29 = .ok (.aload_n 0, 1) := by decide +kernel
theorem dX9_complete_30 : decode cX9_complete 30 = .ok (.getfield 46, 3) := by decide +kernel
theorem dX9_complete_33 : decode cX9_complete 33 = .ok (.invokevirtual 102, 3) := by decide +kernel
theorem dX9_complete_36 : decode cX9_complete 36 = .ok (.invokevirtual 108, 3) := by decide +kernel
theorem dX9_complete_39 : decode cX9_complete 39 = .ok (.iconst 0, 1) := by decide +kernel
theorem dX9_complete_40 : decode cX9_complete 40 = .ok (.istore_n 1, 1) := by decide +kernel
theorem dX9_complete_41 : decode cX9_complete 41 = .ok (.iload_n 1, 1) := by decide +kernel
theorem dX9_complete_42 : decode cX9_complete 42 = .ok (.aload_n 0, 1) := by decide +kernel
theorem dX9_complete_43 : decode cX9_complete 43 = .ok (.getfield 58, 3) := by decide +kernel
theorem dX9_complete_46 : decode cX9_complete 46 = .ok (.invokevirtual 113, 3) := by decide +kernel
theorem dX9_complete_49 : decode cX9_complete 49 = .ok (.if_icmp .ge 57, 3) := by decide +kernel
theorem dX9_complete_52 : decode cX9_complete 52 = .ok (.aload_n 0, 1) := by decide +kernel
theorem dX9_complete_53 : decode cX9_complete 53 = .ok (.getfield 58, 3) := by decide +kernel
theorem dX9_complete_56 : decode cX9_complete 56 = .ok (.iload_n 1, 1) := by decide +kernel
theorem dX9_complete_57 : decode cX9_complete 57 = .ok (.invokevirtual 116, 3) := by decide +kernel
theorem dX9_complete_60 : decode cX9_complete 60 = .ok (.istore_n 2, 1) := by decide +kernel
theorem dX9_complete_61 : decode cX9_complete 61 = .ok (.aload_n 0, 1) := by decide +kernel
theorem dX9_complete_62 : decode cX9_complete 62 = .ok (.getfield 58, 3) := by decide +kernel
theorem dX9_complete_65 : decode cX9_complete 65 = .ok (.aload_n 0, 1) := by decide +kernel
theorem dX9_complete_66 : decode cX9_complete 66 = .ok (.getfield 58, 3) := by decide +kernel
theorem dX9_complete_69 : decode cX9_complete 69 = .ok (.iload_n 2, 1) := by decide +kernel
theorem dX9_complete_70 : decode cX9_complete 70 = .ok (.invokevirtual 120, 3) := by decide +kernel
theorem dX9_complete_73 : decode cX9_complete 73 = .ok (.invokevirtual 123, 3) := by decide +kernel
theorem dX9_complete_76 : decode cX9_complete 76 = .ok (.istore_n 3, 1) := by decide +kernel
theorem dX9_complete_77 : decode cX9_complete 77 = .ok (.iload_n 2, 1) := by decide +kernel
theorem dX9_complete_78 : decode cX9_complete 78 = .ok (.iload_n 3, 1) := by decide +kernel
theorem dX9_complete_79 : decode cX9_complete 79 = .ok (.if_icmp .eq 21, 3) := by decide +kernel
theorem dX9_complete_82 : decode cX9_complete 82 = .ok (.aload_n 0, 1) := by decide +kernel
theorem dX9_complete_83 : decode cX9_complete 83 = .ok (.iload_n 2, 1) := by decide +kernel
theorem dX9_complete_84 : decode cX9_complete 84 = .ok (.invokevirtual 126, 3) := by decide +kernel
theorem dX9_complete_87 : decode cX9_complete 87 = .ok (.ifCond .ne 11, 3) := by decide +kernel
theorem dX9_complete_90 : decode cX9_complete 90 = .ok (.aload_n 0, 1) := by decide +kernel
theorem dX9_complete_91 : decode cX9_complete 91 = .ok (.iload_n 3, 1) := by decide +kernel
theorem dX9_complete_92 : decode cX9_complete 92 = .ok (.invokevirtual 126, 3) := by decide +kernel
theorem dX9_complete_95 : decode cX9_complete 95 = .ok (.ifCond .eq 5, 3) := by decide +kernel
theorem dX9_complete_98 : decode cX9_complete 98 = .ok (.iconst 0, 1) := by decide +kernel
theorem dX9_complete_99 : decode cX9_complete 99 = .ok (.ireturn, 1) := by decide +kernel
theorem dX9_complete_100 : decode cX9_complete 100 = .ok (.iinc 1 1, 3) := by decide +kernel
theorem dX9_complete_103 : decode cX9_complete 103 = .ok (.goto (-62), 3) := by decide +kernel
theorem dX9_complete_106 : decode cX9_complete 106 = .ok (.aload_n 0, 1) := by decide +kernel
theorem dX9_complete_107 : decode cX9_complete 107 = .ok (.invokevirtual 130, 3) := by decide +kernel
theorem dX9_complete_110 : decode cX9_complete 110 = .ok (.iconst 1, 1) := by decide +kernel
theorem dX9_complete_111 : decode cX9_complete 111 = .ok (.ireturn, 1) := by decide +kernel
theorem dX9_countSteps_0 : decode cX9_countSteps 0 = .ok (.aload_n 0, 1) := by decide +kernel
theorem dX9_countSteps_1 : decode cX9_countSteps 1 = .ok (.iload_n 1, 1) := by decide +kernel
theorem dX9_countSteps_2 : decode cX9_countSteps 2 = .ok (.invokevirtual 217, 3) := by decide +kernel
theorem dX9_countSteps_5 : decode cX9_countSteps 5 = .ok (.pop, 1) := by decide +kernel
theorem dX9_countSteps_6 : decode cX9_countSteps 6 = .ok (.aload_n 0, 1) := by decide +kernel
theorem dX9_countSteps_7 : decode cX9_countSteps 7 = .ok (.getfield 54, 3) := by decide +kernel
theorem dX9_countSteps_10 : decode cX9_countSteps 10 = .ok (.aload_n 0, 1) := by decide +kernel
theorem dX9_countSteps_11 : decode cX9_countSteps 11 = .ok (.getfield 54, 3) := by decide +kernel
theorem dX9_countSteps_14 : decode cX9_countSteps 14 = .ok (.invokevirtual 193, 3) := by decide +kernel
theorem dX9_countSteps_17 : decode cX9_countSteps 17 = .ok (.iconst 1, 1) := by decide +kernel
theorem dX9_countSteps_18 : decode cX9_countSteps 18 = .ok (.isub, 1) := by decide +kernel
theorem dX9_countSteps_19 : decode cX9_countSteps 19 = .ok (.invokevirtual 223, 3) := by decide +kernel
theorem dX9_countSteps_22 : decode cX9_countSteps 22 = .ok (.ireturn, 1) := by decide +kernel
theorem dX9_gather_0 : decode cX9_gather 0 = .ok (.aload_n 0, 1) := by decide +kernel
theorem dX9_gather_1 : decode cX9_gather 1 = .ok (.getfield 54, 3) := by decide +kernel
theorem dX9_gather_4 : decode cX9_gather 4 = .ok (.invokevirtual 133, 3) := by decide +kernel
theorem dX9_gather_7 : decode cX9_gather 7 = .ok (.iconst 0, 1) := by decide +kernel
theorem dX9_gather_8 : decode cX9_gather 8 = .ok (.istore 4, 2) := by decide +kernel
theorem dX9_gather_10 : decode cX9_gather 10 = .ok (.iload 4, 2) := by decide +kernel
theorem dX9_gather_12 : decode cX9_gather 12 = .ok (.aload_n 0, 1) := by decide +kernel
theorem dX9_gather_13 : decode cX9_gather 13 = .ok (.getfield 71, 3) := by decide +kernel
theorem dX9_gather_16 : decode cX9_gather 16 = .ok (.if_icmp .ge 50, 3) := by decide +kernel
theorem dX9_gather_19 : decode cX9_gather 19 = .ok (.iload 4, 2) := by decide +kernel
theorem dX9_gather_21 : decode cX9_gather 21 = .ok (.bipush 30, 2) := by decide +kernel
theorem dX9_gather_23 : decode cX9_gather 23 = .ok (.if_icmp .ge 43, 3) := by decide +kernel
theorem dX9_gather_26 : decode cX9_gather 26 = .ok (.iload 4, 2) := by decide +kernel
theorem dX9_gather_28 : decode cX9_gather 28 = .ok (.iload_n 1, 1) := by decide +kernel
theorem dX9_gather_29 : decode cX9_gather 29 = .ok (.if_icmp .eq 31, 3) := by decide +kernel
theorem dX9_gather_32 : decode cX9_gather 32 = .ok (.aload_n 0, 1) := by decide +kernel
theorem dX9_gather_33 : decode cX9_gather 33 = .ok (.getfield 54, 3) := by decide +kernel
theorem dX9_gather_36 : decode cX9_gather 36 = .ok (.aload_n 0, 1) := by decide +kernel
theorem dX9_gather_37 : decode cX9_gather 37 = .ok (.getfield 9, 3) := by decide +kernel
theorem dX9_gather_40 : decode cX9_gather 40 = .ok (.iload 4, 2) := by decide +kernel
theorem dX9_gather_42 : decode cX9_gather 42 = .ok (.iaload, 1) := by decide +kernel
theorem dX9_gather_43 : decode cX9_gather 43 = .ok (.invokevirtual 138, 3) := by decide +kernel
theorem dX9_gather_46 : decode cX9_gather 46 = .ok (.aload_n 0, 1) := by decide +kernel
theorem dX9_gather_47 : decode cX9_gather 47 = .ok (.getfield 54, 3) := by decide +kernel
theorem dX9_gather_50 : decode cX9_gather 50 = .ok (.aload_n 0, 1) := by decide +kernel
theorem dX9_gather_51 : decode cX9_gather 51 = .ok (.getfield 15, 3) := by decide +kernel
theorem dX9_gather_54 : decode cX9_gather 54 = .ok (.iload 4, 2) := by decide +kernel
theorem dX9_gather_56 : decode cX9_gather 56 = .ok (.iaload, 1) := by decide +kernel
theorem dX9_gather_57 : decode cX9_gather 57 = .ok (.invokevirtual 138, 3) := by decide +kernel
theorem dX9_gather_60 : decode cX9_gather 60 = .ok (.iinc 4 1, 3) := by decide +kernel
theorem dX9_gather_63 : decode cX9_gather 63 = .ok (.goto (-53), 3) := by decide +kernel
theorem dX9_gather_66 : decode cX9_gather 66 = .ok (.aload_n 0, 1) := by decide +kernel
theorem dX9_gather_67 : decode cX9_gather 67 = .ok (.getfield 54, 3) := by decide +kernel
theorem dX9_gather_70 : decode cX9_gather 70 = .ok (.iload_n 2, 1) := by decide +kernel
theorem dX9_gather_71 : decode cX9_gather 71 = .ok (.invokevirtual 138, 3) := by decide +kernel
theorem dX9_gather_74 : decode cX9_gather 74 = .ok (.aload_n 0, 1) := by decide +kernel
theorem dX9_gather_75 : decode cX9_gather 75 = .ok (.getfield 54, 3) := by decide +kernel
theorem dX9_gather_78 : decode cX9_gather 78 = .ok (.iload_n 3, 1) := by decide +kernel
theorem dX9_gather_79 : decode cX9_gather 79 = .ok (.invokevirtual 138, 3) := by decide +kernel
theorem dX9_gather_82 : decode cX9_gather 82 = .ok (.aload_n 0, 1) := by decide +kernel
theorem dX9_gather_83 : decode cX9_gather 83 = .ok (.getfield 67, 3) := by decide +kernel
theorem dX9_gather_86 : decode cX9_gather 86 = .ok (.invokevirtual 141, 3) := by decide +kernel
theorem dX9_gather_89 : decode cX9_gather 89 = .ok (.iconst 0, 1) := by decide +kernel
theorem dX9_gather_90 : decode cX9_gather 90 = .ok (.istore 4, 2) := by decide +kernel
theorem dX9_gather_92 : decode cX9_gather 92 = .ok (.iload 4, 2) := by decide +kernel
theorem dX9_gather_94 : decode cX9_gather 94 = .ok (.aload_n 0, 1) := by decide +kernel
theorem dX9_gather_95 : decode cX9_gather 95 = .ok (.getfield 71, 3) := by decide +kernel
theorem dX9_gather_98 : decode cX9_gather 98 = .ok (.if_icmp .ge 57, 3) := by decide +kernel
theorem dX9_gather_101 : decode cX9_gather 101 = .ok (.iload 4, 2) := by decide +kernel
theorem dX9_gather_103 : decode cX9_gather 103 = .ok (.bipush 30, 2) := by decide +kernel
theorem dX9_gather_105 : decode cX9_gather 105 = .ok (.if_icmp .ge 50, 3) := by decide +kernel
theorem dX9_gather_108 : decode cX9_gather 108 = .ok (.iload 4, 2) := by decide +kernel
theorem dX9_gather_110 : decode cX9_gather 110 = .ok (.iload_n 1, 1) := by decide +kernel
theorem dX9_gather_111 : decode cX9_gather 111 = .ok (.if_icmp .eq 38, 3) := by decide +kernel
theorem dX9_gather_114 : decode cX9_gather 114 = .ok (.aload_n 0, 1) := by decide +kernel
theorem dX9_gather_115 : decode cX9_gather 115 = .ok (.getfield 67, 3) := by decide +kernel
theorem dX9_gather_118 : decode cX9_gather 118 = .ok (.aload_n 0, 1) := by decide +kernel
theorem dX9_gather_119 : decode cX9_gather 119 = .ok (.getfield 54, 3) := by decide +kernel
theorem dX9_gather_122 : decode cX9_gather 122 = .ok (.aload_n 0, 1) := by decide +kernel
theorem dX9_gather_123 : decode cX9_gather 123 = .ok (.getfield 9, 3) := by decide +kernel
theorem dX9_gather_126 : decode cX9_gather 126 = .ok (.iload 4, 2) := by decide +kernel
theorem dX9_gather_128 : decode cX9_gather 128 = .ok (.iaload, 1) := by decide +kernel
theorem dX9_gather_129 : decode cX9_gather 129 = .ok (.invokevirtual 144, 3) := by decide +kernel
theorem dX9_gather_132 : decode cX9_gather 132 = .ok (.aload_n 0, 1) := by decide +kernel
theorem dX9_gather_133 : decode cX9_gather 133 = .ok (.getfield 54, 3) := by decide +kernel
theorem dX9_gather_136 : decode cX9_gather 136 = .ok (.aload_n 0, 1) := by decide +kernel
theorem dX9_gather_137 : decode cX9_gather 137 = .ok (.getfield 15, 3) := by decide +kernel
theorem dX9_gather_140 : decode cX9_gather 140 = .ok (.iload 4, 2) := by decide +kernel
theorem dX9_gather_142 : decode cX9_gather 142 = .ok (.iaload, 1) := by decide +kernel
theorem dX9_gather_143 : decode cX9_gather 143 = .ok (.invokevirtual 144, 3) := by decide +kernel
theorem dX9_gather_146 : decode cX9_gather 146 = .ok (.invokevirtual 147, 3) := by decide +kernel
theorem dX9_gather_149 : decode cX9_gather 149 = .ok (.iinc 4 1, 3) := by decide +kernel
theorem dX9_gather_152 : decode cX9_gather 152 = .ok (.goto (-60), 3) := by decide +kernel
theorem dX9_gather_155 : decode cX9_gather 155 = .ok (.return_, 1) := by decide +kernel
theorem dX9_goBack_0 : decode cX9_goBack 0 = .ok (.aload_n 0, 1) := by decide +kernel
theorem dX9_goBack_1 : decode cX9_goBack 1 = .ok (.iload_n 1, 1) := by decide +kernel
theorem dX9_goBack_2 : decode cX9_goBack 2 = .ok (.putfield 71, 3) := by decide +kernel
theorem dX9_goBack_5 : decode cX9_goBack 5 = .ok (.aload_n 0, 1) := by decide +kernel
theorem dX9_goBack_6 : decode cX9_goBack 6 = .ok (.iload_n 2, 1) := by decide +kernel
theorem dX9_goBack_7 : decode cX9_goBack 7 = .ok (.putfield 75, 3) := by decide +kernel
theorem dX9_goBack_10 : decode cX9_goBack 10 = .ok (.return_, 1) := by decide +kernel
theorem dX9_isTooLargeSide_0 : decode cX9_isTooLargeSide 0 = .ok (.aload_n 0, 1) := by decide +kernel
theorem dX9_isTooLargeSide_1 : decode cX9_isTooLargeSide 1 = .ok (.getfield 58, 3) := by decide +kernel
theorem dX9_isTooLargeSide_4 : decode cX9_isTooLargeSide 4 = .ok (.iload_n 1, 1) := by decide +kernel
theorem dX9_isTooLargeSide_5 : decode cX9_isTooLargeSide 5 = .ok (.invokevirtual 150, 3) := by decide +kernel
theorem dX9_isTooLargeSide_8 : decode cX9_isTooLargeSide 8 = .ok (.sipush 300, 3) := by decide +kernel
theorem dX9_isTooLargeSide_11 : decode cX9_isTooLargeSide 11 = .ok (.if_icmp .gt 16, 3) := by decide +kernel
theorem dX9_isTooLargeSide_14 : decode cX9_isTooLargeSide 14 = .ok (.aload_n 0, 1) := by decide +kernel
theorem dX9_isTooLargeSide_15 : decode cX9_isTooLargeSide 15 = .ok (.getfield 58, 3) := by decide +kernel
theorem dX9_isTooLargeSide_18 : decode cX9_isTooLargeSide 18 = .ok (.iload_n 1, 1) := by decide +kernel
theorem dX9_isTooLargeSide_19 : decode cX9_isTooLargeSide 19 = .ok (.invokevirtual 153, 3) := by decide +kernel
theorem dX9_isTooLargeSide_22 : decode cX9_isTooLargeSide 22 = .ok (.bipush 40, 2) := by decide +kernel
theorem dX9_isTooLargeSide_24 : decode cX9_isTooLargeSide 24 = .ok (.if_icmp .le 7, 3) := by decide +kernel
theorem dX9_isTooLargeSide_27 : decode cX9_isTooLargeSide 27 = .ok (.iconst 1, 1) := by decide +kernel
theorem dX9_isTooLargeSide_28 : decode cX9_isTooLargeSide 28 = .ok (.goto 4, 3) := by decide +kernel
theorem dX9_isTooLargeSide_31 : decode cX9_isTooLargeSide 31 = .ok (.iconst 0, 1) := by decide +kernel
theorem dX9_isTooLargeSide_32 : decode cX9_isTooLargeSide 32 = .ok (.ireturn, 1) := by decide +kernel
theorem dX9_makesEqual_0 : decode cX9_makesEqual 0 = .ok (.iload_n 1, 1) := by decide +kernel
theorem dX9_makesEqual_1 : decode cX9_makesEqual 1 = .ok (.iload_n 2, 1) := by decide +kernel
theorem dX9_makesEqual_2 : decode cX9_makesEqual 2 = .ok (.if_icmp .eq 16, 3) := by decide +kernel
theorem dX9_makesEqual_5 : decode cX9_makesEqual 5 = .ok (.aload_n 0, 1) := by decide +kernel
theorem dX9_makesEqual_6 : decode cX9_makesEqual 6 = .ok (.iload_n 1, 1) := by decide +kernel
theorem dX9_makesEqual_7 : decode cX9_makesEqual 7 = .ok (.invokevirtual 217, 3) := by decide +kernel
theorem dX9_makesEqual_10 : decode cX9_makesEqual 10 = .ok (.aload_n 0, 1) := by decide +kernel
theorem dX9_makesEqual_11 : decode cX9_makesEqual 11 = .ok (.iload_n 2, 1) := by decide +kernel
theorem dX9_makesEqual_12 : decode cX9_makesEqual 12 = .ok (.invokevirtual 217, 3) := by decide +kernel
theorem dX9_makesEqual_15 : decode cX9_makesEqual 15 = .ok (.if_icmp .ne 7, 3) := by decide +kernel
theorem dX9_makesEqual_18 : decode cX9_makesEqual 18 = .ok (.iconst 1, 1) := by decide +kernel
theorem dX9_makesEqual_19 : decode cX9_makesEqual 19 = .ok (.goto 4, 3) := by decide +kernel
theorem dX9_makesEqual_22 : decode cX9_makesEqual 22 = .ok (.iconst 0, 1) := by decide +kernel
theorem dX9_makesEqual_23 : decode cX9_makesEqual 23 = .ok (.ireturn, 1) := by decide +kernel
theorem dX9_normalize_0 : decode cX9_normalize 0 = .ok (.aload_n 0, 1) := by decide +kernel
theorem dX9_normalize_1 : decode cX9_normalize 1 = .ok (.getfield 54, 3) := by decide +kernel
theorem dX9_normalize_4 : decode cX9_normalize 4 = .ok (.invokevirtual 133, 3) := by decide +kernel
theorem dX9_normalize_7 : decode cX9_normalize 7 = .ok (.aload_n 0, 1) := by decide +kernel
theorem dX9_normalize_8 : decode cX9_normalize 8 = .ok (.getfield 54, 3) := by decide +kernel
theorem dX9_normalize_11 : decode cX9_normalize 11 = .ok (.iload_n 1, 1) := by decide +kernel
theorem dX9_normalize_12 : decode cX9_normalize 12 = .ok (.invokevirtual 138, 3) := by decide +kernel
theorem dX9_normalize_15 : decode cX9_normalize 15 = .ok (.iconst 0, 1) := by decide +kernel
theorem dX9_normalize_16 : decode cX9_normalize 16 = .ok (.istore_n 2, 1) := by decide +kernel
theorem dX9_normalize_17 : decode cX9_normalize 17 = .ok (.iload_n 2, 1) := by decide +kernel
theorem dX9_normalize_18 : decode cX9_normalize 18 = .ok (.aload_n 0, 1) := by decide +kernel
theorem dX9_normalize_19 : decode cX9_normalize 19 = .ok (.getfield 54, 3) := by decide +kernel
theorem dX9_normalize_22 : decode cX9_normalize 22 = .ok (.invokevirtual 193, 3) := by decide +kernel
theorem dX9_normalize_25 : decode cX9_normalize 25 = .ok (.if_icmp .ge 77, 3) := by decide +kernel
theorem dX9_normalize_28 : decode cX9_normalize 28 = .ok (.aload_n 0, 1) := by decide +kernel
theorem dX9_normalize_29 : decode cX9_normalize 29 = .ok (.getfield 54, 3) := by decide +kernel
theorem dX9_normalize_32 : decode cX9_normalize 32 = .ok (.iload_n 2, 1) := by decide +kernel
theorem dX9_normalize_33 : decode cX9_normalize 33 = .ok (.invokevirtual 196, 3) := by decide +kernel
theorem dX9_normalize_36 : decode cX9_normalize 36 = .ok (.istore_n 3, 1) := by decide +kernel
theorem dX9_normalize_37 : decode cX9_normalize 37 = .ok (.aload_n 0, 1) := by decide +kernel
theorem dX9_normalize_38 : decode cX9_normalize 38 = .ok (.iload_n 3, 1) := by decide +kernel
theorem dX9_normalize_39 : decode cX9_normalize 39 = .ok (.invokevirtual 199, 3) := by decide +kernel
theorem dX9_normalize_42 : decode cX9_normalize 42 = .ok (.istore 4, 2) := by decide +kernel
theorem dX9_normalize_44 : decode cX9_normalize 44 = .ok (.aload_n 0, 1) := by decide +kernel
theorem dX9_normalize_45 : decode cX9_normalize 45 = .ok (.getfield 54, 3) := by decide +kernel
theorem dX9_normalize_48 : decode cX9_normalize 48 = .ok (.iload_n 2, 1) := by decide +kernel
theorem dX9_normalize_49 : decode cX9_normalize 49 = .ok (.iload 4, 2) := by decide +kernel
theorem dX9_normalize_51 : decode cX9_normalize 51 = .ok (.iconst (-1), 1) := by decide +kernel
theorem dX9_normalize_52 : decode cX9_normalize 52 = .ok (.if_icmp .ne 7, 3) := by decide +kernel
theorem dX9_normalize_55 : decode cX9_normalize 55 = .ok (.iload_n 3, 1) := by decide +kernel
theorem dX9_normalize_56 : decode cX9_normalize 56 = .ok (.goto 9, 3) := by decide +kernel
theorem dX9_normalize_59 : decode cX9_normalize 59 = .ok (.aload_n 0, 1) := by decide +kernel
theorem dX9_normalize_60 : decode cX9_normalize 60 = .ok (.iload 4, 2) := by decide +kernel
theorem dX9_normalize_62 : decode cX9_normalize 62 = .ok (.invokevirtual 202, 3) := by decide +kernel
theorem dX9_normalize_65 : decode cX9_normalize 65 = .ok (.invokevirtual 205, 3) := by decide +kernel
theorem dX9_normalize_68 : decode cX9_normalize 68 = .ok (.aload_n 0, 1) := by decide +kernel
theorem dX9_normalize_69 : decode cX9_normalize 69 = .ok (.getfield 54, 3) := by decide +kernel
theorem dX9_normalize_72 : decode cX9_normalize 72 = .ok (.iload_n 2, 1) := by decide +kernel
theorem dX9_normalize_73 : decode cX9_normalize 73 = .ok (.aload_n 0, 1) := by decide +kernel
theorem dX9_normalize_74 : decode cX9_normalize 74 = .ok (.getfield 54, 3) := by decide +kernel
theorem dX9_normalize_77 : decode cX9_normalize 77 = .ok (.iload_n 2, 1) := by decide +kernel
theorem dX9_normalize_78 : decode cX9_normalize 78 = .ok (.invokevirtual 208, 3) := by decide +kernel
theorem dX9_normalize_81 : decode cX9_normalize 81 = .ok (.iload 4, 2) := by decide +kernel
theorem dX9_normalize_83 : decode cX9_normalize 83 = .ok (.iconst (-1), 1) := by decide +kernel
theorem dX9_normalize_84 : decode cX9_normalize 84 = .ok (.if_icmp .ne 7, 3) := by decide +kernel
theorem dX9_normalize_87 : decode cX9_normalize 87 = .ok (.iconst 0, 1) := by decide +kernel
theorem dX9_normalize_88 : decode cX9_normalize 88 = .ok (.goto 4, 3) := by decide +kernel
theorem dX9_normalize_91 : decode cX9_normalize 91 = .ok (.iconst 1, 1) := by decide +kernel
theorem dX9_normalize_92 : decode cX9_normalize 92 = .ok (.iadd, 1) := by decide +kernel
theorem dX9_normalize_93 : decode cX9_normalize 93 = .ok (.invokevirtual 211, 3) := by decide +kernel
theorem dX9_normalize_96 : decode cX9_normalize 96 = .ok (.iinc 2 1, 3) := by decide +kernel
theorem dX9_normalize_99 : decode cX9_normalize 99 = .ok (.goto (-82), 3) := by decide +kernel
theorem dX9_normalize_102 : decode cX9_normalize 102 = .ok (.aload_n 0, 1) := by decide +kernel
theorem dX9_normalize_103 : decode cX9_normalize 103 = .ok (.getfield 54, 3) := by decide +kernel
theorem dX9_normalize_106 : decode cX9_normalize 106 = .ok (.aload_n 0, 1) := by decide +kernel
theorem dX9_normalize_107 : decode cX9_normalize 107 = .ok (.getfield 54, 3) := by decide +kernel
theorem dX9_normalize_110 : decode cX9_normalize 110 = .ok (.invokevirtual 193, 3) := by decide +kernel
theorem dX9_normalize_113 : decode cX9_normalize 113 = .ok (.iconst 1, 1) := by decide +kernel
theorem dX9_normalize_114 : decode cX9_normalize 114 = .ok (.isub, 1) := by decide +kernel
theorem dX9_normalize_115 : decode cX9_normalize 115 = .ok (.invokevirtual 214, 3) := by decide +kernel
theorem dX9_normalize_118 : decode cX9_normalize 118 = .ok (.ireturn, 1) := by decide +kernel
theorem dX9_openLevel_0 : decode cX9_openLevel 0 = .ok (.aload_n 0, 1) := by decide +kernel
theorem dX9_openLevel_1 : decode cX9_openLevel 1 = .ok (.getfield 85, 3) := by decide +kernel
theorem dX9_openLevel_4 : decode cX9_openLevel 4 = .ok (.ifCond .lt 48, 3) := by decide +kernel
theorem dX9_openLevel_7 : decode cX9_openLevel 7 = .ok (.aload_n 0, 1) := by decide +kernel
theorem dX9_openLevel_8 : decode cX9_openLevel 8 = .ok (.getfield 85, 3) := by decide +kernel
theorem dX9_openLevel_11 : decode cX9_openLevel 11 = .ok (.bipush 8, 2) := by decide +kernel
theorem dX9_openLevel_13 : decode cX9_openLevel 13 = .ok (.if_icmp .ge 39, 3) := by decide +kernel
theorem dX9_openLevel_16 : decode cX9_openLevel 16 = .ok (.aload_n 0, 1) := by decide +kernel
theorem dX9_openLevel_17 : decode cX9_openLevel 17 = .ok (.getfield 24, 3) := by decide +kernel
theorem dX9_openLevel_20 : decode cX9_openLevel 20 = .ok (.aload_n 0, 1) := by decide +kernel
theorem dX9_openLevel_21 : decode cX9_openLevel 21 = .ok (.getfield 85, 3) := by decide +kernel
theorem dX9_openLevel_24 : decode cX9_openLevel 24 = .ok (.aload_n 0, 1) := by decide +kernel
theorem dX9_openLevel_25 : decode cX9_openLevel 25 = .ok (.getfield 71, 3) := by decide +kernel
theorem dX9_openLevel_28 : decode cX9_openLevel 28 = .ok (.iastore, 1) := by decide +kernel
theorem dX9_openLevel_29 : decode cX9_openLevel 29 = .ok (.aload_n 0, 1) := by decide +kernel
theorem dX9_openLevel_30 : decode cX9_openLevel 30 = .ok (.getfield 27, 3) := by decide +kernel
theorem dX9_openLevel_33 : decode cX9_openLevel 33 = .ok (.aload_n 0, 1) := by decide +kernel
theorem dX9_openLevel_34 : decode cX9_openLevel 34 = .ok (.getfield 85, 3) := by decide +kernel
theorem dX9_openLevel_37 : decode cX9_openLevel 37 = .ok (.aload_n 0, 1) := by decide +kernel
theorem dX9_openLevel_38 : decode cX9_openLevel 38 = .ok (.getfield 75, 3) := by decide +kernel
theorem dX9_openLevel_41 : decode cX9_openLevel 41 = .ok (.iastore, 1) := by decide +kernel
theorem dX9_openLevel_42 : decode cX9_openLevel 42 = .ok (.aload_n 0, 1) := by decide +kernel
theorem dX9_openLevel_43 : decode cX9_openLevel 43 = .ok (.dup, 1) := by decide +kernel
theorem dX9_openLevel_44 : decode cX9_openLevel 44 = .ok (.getfield 85, 3) := by decide +kernel
theorem dX9_openLevel_47 : decode cX9_openLevel 47 = .ok (.iconst 1, 1) := by decide +kernel
theorem dX9_openLevel_48 : decode cX9_openLevel 48 = .ok (.iadd, 1) := by decide +kernel
theorem dX9_openLevel_49 : decode cX9_openLevel 49 = .ok (.putfield 85, 3) := by decide +kernel
theorem dX9_openLevel_52 : decode cX9_openLevel 52 = .ok (.return_, 1) := by decide +kernel
theorem dX9_rightSide_0 : decode cX9_rightSide 0 = .ok (.iload_n 1, 1) := by decide +kernel
theorem dX9_rightSide_1 : decode cX9_rightSide 1 = .ok (.ifCond .lt 18, 3) := by decide +kernel
theorem dX9_rightSide_4 : decode cX9_rightSide 4 = .ok (.iload_n 1, 1) := by decide +kernel
theorem dX9_rightSide_5 : decode cX9_rightSide 5 = .ok (.bipush 30, 2) := by decide +kernel
theorem dX9_rightSide_7 : decode cX9_rightSide 7 = .ok (.if_icmp .ge 12, 3) := by decide +kernel
theorem dX9_rightSide_10 : decode cX9_rightSide 10 = .ok (.aload_n 0, 1) := by decide +kernel
theorem dX9_rightSide_11 : decode cX9_rightSide 11 = .ok (.getfield 33, 3) := by decide +kernel
theorem dX9_rightSide_14 : decode cX9_rightSide 14 = .ok (.iload_n 1, 1) := by decide +kernel
theorem dX9_rightSide_15 : decode cX9_rightSide 15 = .ok (.iaload, 1) := by decide +kernel
theorem dX9_rightSide_16 : decode cX9_rightSide 16 = .ok (.goto 4, 3) := by decide +kernel
theorem dX9_rightSide_19 : decode cX9_rightSide 19 = .ok (.iconst (-1), 1) := by decide +kernel
theorem dX9_rightSide_20 : decode cX9_rightSide 20 = .ok (.ireturn, 1) := by decide +kernel
theorem dX9_ruleFor_0 : decode cX9_ruleFor 0 = .ok (.aload_n 0, 1) := by decide +kernel
theorem dX9_ruleFor_1 : decode cX9_ruleFor 1 = .ok (.getfield 42, 3) := by decide +kernel
theorem dX9_ruleFor_4 : decode cX9_ruleFor 4 = .ok (.iload_n 1, 1) := by decide +kernel
theorem dX9_ruleFor_5 : decode cX9_ruleFor 5 = .ok (.invokevirtual 190, 3) := by decide +kernel
theorem dX9_ruleFor_8 : decode cX9_ruleFor 8 = .ok (.istore_n 2, 1) := by decide +kernel
theorem dX9_ruleFor_9 : decode cX9_ruleFor 9 = .ok (.iload_n 2, 1) := by decide +kernel
theorem dX9_ruleFor_10 : decode cX9_ruleFor 10 = .ok (.ifCond .lt 31, 3) := by decide +kernel
theorem dX9_ruleFor_13 : decode cX9_ruleFor 13 = .ok (.iload_n 2, 1) := by decide +kernel
theorem dX9_ruleFor_14 : decode cX9_ruleFor 14 = .ok (.aload_n 0, 1) := by decide +kernel
theorem dX9_ruleFor_15 : decode cX9_ruleFor 15 = .ok (.getfield 168, 3) := by decide +kernel
theorem dX9_ruleFor_18 : decode cX9_ruleFor 18 = .ok (.if_icmp .ge 23, 3) := by decide +kernel
theorem dX9_ruleFor_21 : decode cX9_ruleFor 21 = .ok (.iload_n 2, 1) := by decide +kernel
theorem dX9_ruleFor_22 : decode cX9_ruleFor 22 = .ok (.bipush 30, 2) := by decide +kernel
theorem dX9_ruleFor_24 : decode cX9_ruleFor 24 = .ok (.if_icmp .ge 17, 3) := by decide +kernel
theorem dX9_ruleFor_27 : decode cX9_ruleFor 27 = .ok (.aload_n 0, 1) := by decide +kernel
theorem dX9_ruleFor_28 : decode cX9_ruleFor 28 = .ok (.getfield 30, 3) := by decide +kernel
theorem dX9_ruleFor_31 : decode cX9_ruleFor 31 = .ok (.iload_n 2, 1) := by decide +kernel
theorem dX9_ruleFor_32 : decode cX9_ruleFor 32 = .ok (.iaload, 1) := by decide +kernel
theorem dX9_ruleFor_33 : decode cX9_ruleFor 33 = .ok (.iload_n 1, 1) := by decide +kernel
theorem dX9_ruleFor_34 : decode cX9_ruleFor 34 = .ok (.if_icmp .ne 7, 3) := by decide +kernel
theorem dX9_ruleFor_37 : decode cX9_ruleFor 37 = .ok (.iload_n 2, 1) := by decide +kernel
theorem dX9_ruleFor_38 : decode cX9_ruleFor 38 = .ok (.goto 4, 3) := by decide +kernel
theorem dX9_ruleFor_41 : decode cX9_ruleFor 41 = .ok (.iconst (-1), 1) := by decide +kernel
theorem dX9_ruleFor_42 : decode cX9_ruleFor 42 = .ok (.ireturn, 1) := by decide +kernel
theorem dX9_takeRules_0 : decode cX9_takeRules 0 = .ok (.aload_n 0, 1) := by decide +kernel
theorem dX9_takeRules_1 : decode cX9_takeRules 1 = .ok (.getfield 58, 3) := by decide +kernel
theorem dX9_takeRules_4 : decode cX9_takeRules 4 = .ok (.invokevirtual 156, 3) := by decide +kernel
theorem dX9_takeRules_7 : decode cX9_takeRules 7 = .ok (.iconst 0, 1) := by decide +kernel
theorem dX9_takeRules_8 : decode cX9_takeRules 8 = .ok (.istore_n 1, 1) := by decide +kernel
theorem dX9_takeRules_9 : decode cX9_takeRules 9 = .ok (.iload_n 1, 1) := by decide +kernel
theorem dX9_takeRules_10 : decode cX9_takeRules 10 = .ok (.aload_n 0, 1) := by decide +kernel
theorem dX9_takeRules_11 : decode cX9_takeRules 11 = .ok (.getfield 58, 3) := by decide +kernel
theorem dX9_takeRules_14 : decode cX9_takeRules 14 = .ok (.invokevirtual 113, 3) := by decide +kernel
theorem dX9_takeRules_17 : decode cX9_takeRules 17 = .ok (.if_icmp .ge 60, 3) := by decide +kernel
theorem dX9_takeRules_20 : decode cX9_takeRules 20 = .ok (.aload_n 0, 1) := by decide +kernel
theorem dX9_takeRules_21 : decode cX9_takeRules 21 = .ok (.getfield 58, 3) := by decide +kernel
theorem dX9_takeRules_24 : decode cX9_takeRules 24 = .ok (.iload_n 1, 1) := by decide +kernel
theorem dX9_takeRules_25 : decode cX9_takeRules 25 = .ok (.invokevirtual 116, 3) := by decide +kernel
theorem dX9_takeRules_28 : decode cX9_takeRules 28 = .ok (.istore_n 2, 1) := by decide +kernel
theorem dX9_takeRules_29 : decode cX9_takeRules 29 = .ok (.aload_n 0, 1) := by decide +kernel
theorem dX9_takeRules_30 : decode cX9_takeRules 30 = .ok (.getfield 58, 3) := by decide +kernel
theorem dX9_takeRules_33 : decode cX9_takeRules 33 = .ok (.aload_n 0, 1) := by decide +kernel
theorem dX9_takeRules_34 : decode cX9_takeRules 34 = .ok (.getfield 58, 3) := by decide +kernel
theorem dX9_takeRules_37 : decode cX9_takeRules 37 = .ok (.iload_n 2, 1) := by decide +kernel
theorem dX9_takeRules_38 : decode cX9_takeRules 38 = .ok (.invokevirtual 120, 3) := by decide +kernel
theorem dX9_takeRules_41 : decode cX9_takeRules 41 = .ok (.invokevirtual 123, 3) := by decide +kernel
theorem dX9_takeRules_44 : decode cX9_takeRules 44 = .ok (.iload_n 2, 1) := by decide +kernel
theorem dX9_takeRules_45 : decode cX9_takeRules 45 = .ok (.if_icmp .eq 26, 3) := by decide +kernel
theorem dX9_takeRules_48 : decode cX9_takeRules 48 = .ok (.aload_n 0, 1) := by decide +kernel
theorem dX9_takeRules_49 : decode cX9_takeRules 49 = .ok (.getfield 58, 3) := by decide +kernel
theorem dX9_takeRules_52 : decode cX9_takeRules 52 = .ok (.aload_n 0, 1) := by decide +kernel
theorem dX9_takeRules_53 : decode cX9_takeRules 53 = .ok (.getfield 58, 3) := by decide +kernel
theorem dX9_takeRules_56 : decode cX9_takeRules 56 = .ok (.iload_n 2, 1) := by decide +kernel
theorem dX9_takeRules_57 : decode cX9_takeRules 57 = .ok (.invokevirtual 120, 3) := by decide +kernel
theorem dX9_takeRules_60 : decode cX9_takeRules 60 = .ok (.invokevirtual 159, 3) := by decide +kernel
theorem dX9_takeRules_63 : decode cX9_takeRules 63 = .ok (.aload_n 0, 1) := by decide +kernel
theorem dX9_takeRules_64 : decode cX9_takeRules 64 = .ok (.getfield 58, 3) := by decide +kernel
theorem dX9_takeRules_67 : decode cX9_takeRules 67 = .ok (.iload_n 2, 1) := by decide +kernel
theorem dX9_takeRules_68 : decode cX9_takeRules 68 = .ok (.invokevirtual 162, 3) := by decide +kernel
theorem dX9_takeRules_71 : decode cX9_takeRules 71 = .ok (.iinc 1 1, 3) := by decide +kernel
theorem dX9_takeRules_74 : decode cX9_takeRules 74 = .ok (.goto (-65), 3) := by decide +kernel
theorem dX9_takeRules_77 : decode cX9_takeRules 77 = .ok (.aload_n 0, 1) := by decide +kernel
theorem dX9_takeRules_78 : decode cX9_takeRules 78 = .ok (.getfield 58, 3) := by decide +kernel
theorem dX9_takeRules_81 : decode cX9_takeRules 81 = .ok (.invokevirtual 165, 3) := by decide +kernel
theorem dX9_takeRules_84 : decode cX9_takeRules 84 = .ok (.aload_n 0, 1) := by decide +kernel
theorem dX9_takeRules_85 : decode cX9_takeRules 85 = .ok (.iconst 0, 1) := by decide +kernel
theorem dX9_takeRules_86 : decode cX9_takeRules 86 = .ok (.putfield 168, 3) := by decide +kernel
theorem dX9_takeRules_89 : decode cX9_takeRules 89 = .ok (.iconst 0, 1) := by decide +kernel
theorem dX9_takeRules_90 : decode cX9_takeRules 90 = .ok (.istore_n 1, 1) := by decide +kernel
theorem dX9_takeRules_91 : decode cX9_takeRules 91 = .ok (.iload_n 1, 1) := by decide +kernel
theorem dX9_takeRules_92 : decode cX9_takeRules 92 = .ok (.aload_n 0, 1) := by decide +kernel
theorem dX9_takeRules_93 : decode cX9_takeRules 93 = .ok (.getfield 58, 3) := by decide +kernel
theorem dX9_takeRules_96 : decode cX9_takeRules 96 = .ok (.invokevirtual 113, 3) := by decide +kernel
theorem dX9_takeRules_99 : decode cX9_takeRules 99 = .ok (.if_icmp .ge 97, 3) := by decide +kernel
theorem dX9_takeRules_102 : decode cX9_takeRules 102 = .ok (.aload_n 0, 1) := by decide +kernel
theorem dX9_takeRules_103 : decode cX9_takeRules 103 = .ok (.getfield 58, 3) := by decide +kernel
theorem dX9_takeRules_106 : decode cX9_takeRules 106 = .ok (.iload_n 1, 1) := by decide +kernel
theorem dX9_takeRules_107 : decode cX9_takeRules 107 = .ok (.invokevirtual 116, 3) := by decide +kernel
theorem dX9_takeRules_110 : decode cX9_takeRules 110 = .ok (.istore_n 2, 1) := by decide +kernel
theorem dX9_takeRules_111 : decode cX9_takeRules 111 = .ok (.aload_n 0, 1) := by decide +kernel
theorem dX9_takeRules_112 : decode cX9_takeRules 112 = .ok (.getfield 58, 3) := by decide +kernel
theorem dX9_takeRules_115 : decode cX9_takeRules 115 = .ok (.iload_n 2, 1) := by decide +kernel
theorem dX9_takeRules_116 : decode cX9_takeRules 116 = .ok (.invokevirtual 120, 3) := by decide +kernel
theorem dX9_takeRules_119 : decode cX9_takeRules 119 = .ok (.istore_n 3, 1) := by decide +kernel
theorem dX9_takeRules_120 : decode cX9_takeRules 120 = .ok (.aload_n 0, 1) := by decide +kernel
theorem dX9_takeRules_121 : decode cX9_takeRules 121 = .ok (.getfield 58, 3) := by decide +kernel
theorem dX9_takeRules_124 : decode cX9_takeRules 124 = .ok (.iload_n 2, 1) := by decide +kernel
theorem dX9_takeRules_125 : decode cX9_takeRules 125 = .ok (.invokevirtual 171, 3) := by decide +kernel
theorem dX9_takeRules_128 : decode cX9_takeRules 128 = .ok (.ifCond .eq 26, 3) := by decide +kernel
theorem dX9_takeRules_131 : decode cX9_takeRules 131 = .ok (.aload_n 0, 1) := by decide +kernel
theorem dX9_takeRules_132 : decode cX9_takeRules 132 = .ok (.getfield 58, 3) := by decide +kernel
theorem dX9_takeRules_135 : decode cX9_takeRules 135 = .ok (.iload_n 3, 1) := by decide +kernel
theorem dX9_takeRules_136 : decode cX9_takeRules 136 = .ok (.aload_n 0, 1) := by decide +kernel
theorem dX9_takeRules_137 : decode cX9_takeRules 137 = .ok (.getfield 58, 3) := by decide +kernel
theorem dX9_takeRules_140 : decode cX9_takeRules 140 = .ok (.iload_n 2, 1) := by decide +kernel
theorem dX9_takeRules_141 : decode cX9_takeRules 141 = .ok (.aload_n 0, 1) := by decide +kernel
theorem dX9_takeRules_142 : decode cX9_takeRules 142 = .ok (.getfield 50, 3) := by decide +kernel
theorem dX9_takeRules_145 : decode cX9_takeRules 145 = .ok (.invokevirtual 174, 3) := by decide +kernel
theorem dX9_takeRules_148 : decode cX9_takeRules 148 = .ok (.invokevirtual 178, 3) := by decide +kernel
theorem dX9_takeRules_151 : decode cX9_takeRules 151 = .ok (.goto 39, 3) := by decide +kernel
theorem dX9_takeRules_154 : decode cX9_takeRules 154 = .ok (.aload_n 0, 1) := by decide +kernel
theorem dX9_takeRules_155 : decode cX9_takeRules 155 = .ok (.getfield 58, 3) := by decide +kernel
theorem dX9_takeRules_158 : decode cX9_takeRules 158 = .ok (.iload_n 3, 1) := by decide +kernel
theorem dX9_takeRules_159 : decode cX9_takeRules 159 = .ok (.invokevirtual 123, 3) := by decide +kernel
theorem dX9_takeRules_162 : decode cX9_takeRules 162 = .ok (.iload_n 2, 1) := by decide +kernel
theorem dX9_takeRules_163 : decode cX9_takeRules 163 = .ok (.if_icmp .eq 27, 3) := by decide +kernel
theorem dX9_takeRules_166 : decode cX9_takeRules 166 = .ok (.aload_n 0, 1) := by decide +kernel
theorem dX9_takeRules_167 : decode cX9_takeRules 167 = .ok (.aload_n 0, 1) := by decide +kernel
theorem dX9_takeRules_168 : decode cX9_takeRules 168 = .ok (.getfield 58, 3) := by decide +kernel
theorem dX9_takeRules_171 : decode cX9_takeRules 171 = .ok (.iload_n 2, 1) := by decide +kernel
theorem dX9_takeRules_172 : decode cX9_takeRules 172 = .ok (.aload_n 0, 1) := by decide +kernel
theorem dX9_takeRules_173 : decode cX9_takeRules 173 = .ok (.getfield 50, 3) := by decide +kernel
theorem dX9_takeRules_176 : decode cX9_takeRules 176 = .ok (.invokevirtual 174, 3) := by decide +kernel
theorem dX9_takeRules_179 : decode cX9_takeRules 179 = .ok (.aload_n 0, 1) := by decide +kernel
theorem dX9_takeRules_180 : decode cX9_takeRules 180 = .ok (.getfield 58, 3) := by decide +kernel
theorem dX9_takeRules_183 : decode cX9_takeRules 183 = .ok (.iload_n 3, 1) := by decide +kernel
theorem dX9_takeRules_184 : decode cX9_takeRules 184 = .ok (.invokevirtual 181, 3) := by decide +kernel
theorem dX9_takeRules_187 : decode cX9_takeRules 187 = .ok (.invokevirtual 184, 3) := by decide +kernel
theorem dX9_takeRules_190 : decode cX9_takeRules 190 = .ok (.iinc 1 1, 3) := by decide +kernel
theorem dX9_takeRules_193 : decode cX9_takeRules 193 = .ok (.goto (-102), 3) := by decide +kernel
theorem dX9_takeRules_196 : decode cX9_takeRules 196 = .ok (.return_, 1) := by decide +kernel
