theorem dX10_rebuild_9 : decode cX10_rebuild 9 = .ok (.aload_n 0, 1) := by decide +kernel
theorem dX10_rebuild_10 : decode cX10_rebuild 10 = .ok (.getfield 35, 3) := by decide +kernel
theorem dX10_rebuild_13 : decode cX10_rebuild 13 = .ok (.iload_n 2, 1) := by decide +kernel
theorem dX10_rebuild_14 : decode cX10_rebuild 14 = .ok (.invokevirtual 67, 3) := by decide +kernel
theorem dX10_rebuild_17 : decode cX10_rebuild 17 = .ok (.istore_n 3, 1) := by decide +kernel
theorem dX10_rebuild_18 : decode cX10_rebuild 18 = .ok (.iload_n 3, 1) := by decide +kernel
theorem dX10_rebuild_19 : decode cX10_rebuild 19 = .ok (.ifCond .le 19, 3) := by decide +kernel
theorem dX10_rebuild_22 : decode cX10_rebuild 22 = .ok (.aload_n 0, 1) := by decide +kernel
theorem dX10_rebuild_23 : decode cX10_rebuild 23 = .ok (.getfield 25, 3) := by decide +kernel
theorem dX10_rebuild_26 : decode cX10_rebuild 26 = .ok (.aload_n 0, 1) := by decide +kernel
theorem dX10_rebuild_27 : decode cX10_rebuild 27 = .ok (.iload_n 1, 1) := by decide +kernel
theorem dX10_rebuild_28 : decode cX10_rebuild 28 = .ok (.iconst 0, 1) := by decide +kernel
theorem dX10_rebuild_29 : decode cX10_rebuild 29 = .ok (.invokevirtual 79, 3) := by decide +kernel
theorem dX10_rebuild_32 : decode cX10_rebuild 32 = .ok (.invokevirtual 43, 3) := by decide +kernel
theorem dX10_rebuild_35 : decode cX10_rebuild 35 = .ok (.goto 4, 3) := by decide +kernel
theorem dX10_rebuild_38 : decode cX10_rebuild 38 = .ok (.iconst (-1), 1) := by decide +kernel
theorem dX10_rebuild_39 : decode cX10_rebuild 39 = .ok (.istore 4, 2) := by decide +kernel
theorem dX10_rebuild_41 : decode cX10_rebuild 41 = .ok (.iload_n 3, 1) := by decide +kernel
theorem dX10_rebuild_42 : decode cX10_rebuild 42 = .ok (.iconst 1, 1) := by decide +kernel
theorem dX10_rebuild_43 : decode cX10_rebuild 43 = .ok (.if_icmp .le 19, 3) := by decide +kernel
theorem dX10_rebuild_46 : decode cX10_rebuild 46 = .ok (.aload_n 0, 1) := by decide +kernel
theorem dX10_rebuild_47 : decode cX10_rebuild 47 = .ok (.getfield 25, 3) := by decide +kernel
theorem dX10_rebuild_50 : decode cX10_rebuild 50 = .ok (.aload_n 0, 1) := by decide +kernel
theorem dX10_rebuild_51 : decode cX10_rebuild 51 = .ok (.iload_n 1, 1) := by decide +kernel
theorem dX10_rebuild_52 : decode cX10_rebuild 52 = .ok (.iconst 1, 1) := by decide +kernel
theorem dX10_rebuild_53 : decode cX10_rebuild 53 = .ok (.invokevirtual 79, 3) := by decide +kernel
theorem dX10_rebuild_56 : decode cX10_rebuild 56 = .ok (.invokevirtual 43, 3) := by decide +kernel
theorem dX10_rebuild_59 : decode cX10_rebuild 59 = .ok (.goto 4, 3) := by decide +kernel
theorem dX10_rebuild_62 : decode cX10_rebuild 62 = .ok (.iconst (-1), 1) := by decide +kernel
theorem dX10_rebuild_63 : decode cX10_rebuild 63 = .ok (.istore 5, 2) := by decide +kernel
theorem dX10_rebuild_65 : decode cX10_rebuild 65 = .ok (.iload_n 3, 1) := by decide +kernel
theorem dX10_rebuild_66 : decode cX10_rebuild 66 = .ok (.iconst 2, 1) := by decide +kernel
theorem dX10_rebuild_67 : decode cX10_rebuild 67 = .ok (.if_icmp .le 19, 3) := by decide +kernel
theorem dX10_rebuild_70 : decode cX10_rebuild 70 = .ok (.aload_n 0, 1) := by decide +kernel
theorem dX10_rebuild_71 : decode cX10_rebuild 71 = .ok (.getfield 25, 3) := by decide +kernel
theorem dX10_rebuild_74 : decode cX10_rebuild 74 = .ok (.aload_n 0, 1) := by decide +kernel
theorem dX10_rebuild_75 : decode cX10_rebuild 75 = .ok (.iload_n 1, 1) := by decide +kernel
theorem dX10_rebuild_76 : decode cX10_rebuild 76 = .ok (.iconst 2, 1) := by decide +kernel
theorem dX10_rebuild_77 : decode cX10_rebuild 77 = .ok (.invokevirtual 79, 3) := by decide +kernel
theorem dX10_rebuild_80 : decode cX10_rebuild 80 = .ok (.invokevirtual 43, 3) := by decide +kernel
theorem dX10_rebuild_83 : decode cX10_rebuild 83 = .ok (.goto 4, 3) := by decide +kernel
theorem dX10_rebuild_86 : decode cX10_rebuild 86 = .ok (.iconst (-1), 1) := by decide +kernel
theorem dX10_rebuild_87 : decode cX10_rebuild 87 = .ok (.istore 6, 2) := by decide +kernel
theorem dX10_rebuild_89 : decode cX10_rebuild 89 = .ok (.aload_n 0, 1) := by decide +kernel
theorem dX10_rebuild_90 : decode cX10_rebuild 90 = .ok (.getfield 35, 3) := by decide +kernel
theorem dX10_rebuild_93 : decode cX10_rebuild 93 = .ok (.aload_n 0, 1) := by decide +kernel
theorem dX10_rebuild_94 : decode cX10_rebuild 94 = .ok (.getfield 35, 3) := by decide +kernel
theorem dX10_rebuild_97 : decode cX10_rebuild 97 = .ok (.iload_n 2, 1) := by decide +kernel
theorem dX10_rebuild_98 : decode cX10_rebuild 98 = .ok (.invokevirtual 85, 3) := by decide +kernel
theorem dX10_rebuild_101 : decode cX10_rebuild 101 = .ok (.iload 4, 2) := by decide +kernel
theorem dX10_rebuild_103 : decode cX10_rebuild 103 = .ok (.iload 5, 2) := by decide +kernel
theorem dX10_rebuild_105 : decode cX10_rebuild 105 = .ok (.iload 6, 2) := by decide +kernel
theorem dX10_rebuild_107 : decode cX10_rebuild 107 = .ok (.invokevirtual 88, 3) := by decide +kernel
theorem dX10_rebuild_110 : decode cX10_rebuild 110 = .ok (.ireturn, 1) := by decide +kernel
theorem dX10_setTally_0 : decode cX10_setTally 0 = .ok (.aload_n 0, 1) := by decide +kernel
theorem dX10_setTally_1 : decode cX10_setTally 1 = .ok (.getfield 28, 3) := by decide +kernel
theorem dX10_setTally_4 : decode cX10_setTally 4 = .ok (.iload_n 1, 1) := by decide +kernel
theorem dX10_setTally_5 : decode cX10_setTally 5 = .ok (.iload_n 2, 1) := by decide +kernel
theorem dX10_setTally_6 : decode cX10_setTally 6 = .ok (.invokevirtual 47, 3) := by decide +kernel
theorem dX10_setTally_9 : decode cX10_setTally 9 = .ok (.return_, 1) := by decide +kernel
theorem dX10_setValue_0 : decode cX10_setValue 0 = .ok (.aload_n 0, 1) := by decide +kernel
theorem dX10_setValue_1 : decode cX10_setValue 1 = .ok (.getfield 25, 3) := by decide +kernel
theorem dX10_setValue_4 : decode cX10_setValue 4 = .ok (.iload_n 1, 1) := by decide +kernel
theorem dX10_setValue_5 : decode cX10_setValue 5 = .ok (.iload_n 2, 1) := by decide +kernel
theorem dX10_setValue_6 : decode cX10_setValue 6 = .ok (.invokevirtual 47, 3) := by decide +kernel
theorem dX10_setValue_9 : decode cX10_setValue 9 = .ok (.return_, 1) := by decide +kernel
theorem dX10_sumOfParts_0 : decode cX10_sumOfParts 0 = .ok (.iconst 0, 1) := by decide +kernel
theorem dX10_sumOfParts_1 : decode cX10_sumOfParts 1 = .ok (.istore_n 2, 1) := by decide +kernel
theorem dX10_sumOfParts_2 : decode cX10_sumOfParts 2 = .ok (.iconst 0, 1) := by decide +kernel
theorem dX10_sumOfParts_3 : decode cX10_sumOfParts 3 = .ok (.istore_n 3, 1) := by decide +kernel
theorem dX10_sumOfParts_4 : decode cX10_sumOfParts 4 = .ok (.iload_n 3, 1) := by decide +kernel
theorem dX10_sumOfParts_5 : decode cX10_sumOfParts 5 = .ok (.aload_n 0, 1) := by decide +kernel
theorem dX10_sumOfParts_6 : decode cX10_sumOfParts 6 = .ok (.getfield 35, 3) := by decide +kernel
theorem dX10_sumOfParts_9 : decode cX10_sumOfParts 9 = .ok (.aload_n 0, 1) := by decide +kernel
theorem dX10_sumOfParts_10 : decode cX10_sumOfParts 10 = .ok (.getfield 22, 3) := by decide +kernel
theorem dX10_sumOfParts_13 : decode cX10_sumOfParts 13 = .ok (.iload_n 1, 1) := by decide +kernel
theorem dX10_sumOfParts_14 : decode cX10_sumOfParts 14 = .ok (.invokevirtual 43, 3) := by decide +kernel
theorem dX10_sumOfParts_17 : decode cX10_sumOfParts 17 = .ok (.invokevirtual 67, 3) := by decide +kernel
theorem dX10_sumOfParts_20 : decode cX10_sumOfParts 20 = .ok (.if_icmp .ge 25, 3) := by decide +kernel
theorem dX10_sumOfParts_23 : decode cX10_sumOfParts 23 = .ok (.iload_n 2, 1) := by decide +kernel
theorem dX10_sumOfParts_24 : decode cX10_sumOfParts 24 = .ok (.aload_n 0, 1) := by decide +kernel
theorem dX10_sumOfParts_25 : decode cX10_sumOfParts 25 = .ok (.getfield 28, 3) := by decide +kernel
theorem dX10_sumOfParts_28 : decode cX10_sumOfParts 28 = .ok (.aload_n 0, 1) := by decide +kernel
theorem dX10_sumOfParts_29 : decode cX10_sumOfParts 29 = .ok (.iload_n 1, 1) := by decide +kernel
theorem dX10_sumOfParts_30 : decode cX10_sumOfParts 30 = .ok (.iload_n 3, 1) := by decide +kernel
theorem dX10_sumOfParts_31 : decode cX10_sumOfParts 31 = .ok (.invokevirtual 79, 3) := by decide +kernel
theorem dX10_sumOfParts_34 : decode cX10_sumOfParts 34 = .ok (.invokevirtual 43, 3) := by decide +kernel
theorem dX10_sumOfParts_37 : decode cX10_sumOfParts 37 = .ok (.iadd, 1) := by decide +kernel
theorem dX10_sumOfParts_38 : decode cX10_sumOfParts 38 = .ok (.istore_n 2, 1) := by decide +kernel
theorem dX10_sumOfParts_39 : decode cX10_sumOfParts 39 = .ok (.iinc 3 1, 3) := by decide +kernel
theorem dX10_sumOfParts_42 : decode cX10_sumOfParts 42 = .ok (.goto (-38), 3) := by decide +kernel
theorem dX10_sumOfParts_45 : decode cX10_sumOfParts 45 = .ok (.iload_n 2, 1) := by decide +kernel
theorem dX10_sumOfParts_46 : decode cX10_sumOfParts 46 = .ok (.ireturn, 1) := by decide +kernel
theorem dX10_tally_0 : decode cX10_tally 0 = .ok (.aload_n 0, 1) := by decide +kernel
theorem dX10_tally_1 : decode cX10_tally 1 = .ok (.getfield 28, 3) := by decide +kernel
theorem dX10_tally_4 : decode cX10_tally 4 = .ok (.iload_n 1, 1) := by decide +kernel
theorem dX10_tally_5 : decode cX10_tally 5 = .ok (.invokevirtual 43, 3) := by decide +kernel
theorem dX10_tally_8 : decode cX10_tally 8 = .ok (.ireturn, 1) := by decide +kernel
theorem dX10_value_0 : decode cX10_value 0 = .ok (.aload_n 0, 1) := by decide +kernel
theorem dX10_value_1 : decode cX10_value 1 = .ok (.getfield 25, 3) := by decide +kernel
theorem dX10_value_4 : decode cX10_value 4 = .ok (.iload_n 1, 1) := by decide +kernel
theorem dX10_value_5 : decode cX10_value 5 = .ok (.invokevirtual 43, 3) := by decide +kernel
theorem dX10_value_8 : decode cX10_value 8 = .ok (.ireturn, 1) := by decide +kernel
theorem dX11_areEqual_0 : decode cX11_areEqual 0 = .ok (.aload_n 0, 1) := by decide +kernel
theorem dX11_areEqual_1 : decode cX11_areEqual 1 = .ok (.iload_n 1, 1) := by decide +kernel
theorem dX11_areEqual_2 : decode cX11_areEqual 2 = .ok (.invokevirtual 194, 3) := by decide +kernel
theorem dX11_areEqual_5 : decode cX11_areEqual 5 = .ok (.ifCond .eq 11, 3) := by decide +kernel
theorem dX11_areEqual_8 : decode cX11_areEqual 8 = .ok (.aload_n 0, 1) := by decide +kernel
theorem dX11_areEqual_9 : decode cX11_areEqual 9 = .ok (.iload_n 2, 1) := by decide +kernel
theorem dX11_areEqual_10 : decode cX11_areEqual 10 = .ok (.invokevirtual 194, 3) := by decide +kernel
theorem dX11_areEqual_13 : decode cX11_areEqual 13 = .ok (.ifCond .ne 13, 3) := by decide +kernel
theorem dX11_areEqual_26 : decode cX11_areEqual 26 = .ok (.aload_n 0, 1) := by decide +kernel
theorem dX11_areEqual_27 : decode cX11_areEqual 27 = .ok (.invokevirtual 199, 3) := by decide +kernel
theorem dX11_areEqual_30 : decode cX11_areEqual 30 = .ok (.aload_n 0, 1) := by decide +kernel
theorem dX11_areEqual_31 : decode cX11_areEqual 31 = .ok (.getfield 46, 3) := by decide +kernel
theorem dX11_areEqual_34 : decode cX11_areEqual 34 = .ok (.aload_n 0, 1) := by decide +kernel
theorem dX11_areEqual_35 : decode cX11_areEqual 35 = .ok (.getfield 90, 3) := by decide +kernel
theorem dX11_areEqual_38 : decode cX11_areEqual 38 = .ok (.iload_n 1, 1) := by decide +kernel
theorem dX11_areEqual_39 : decode cX11_areEqual 39 = .ok (.invokevirtual 202, 3) := by decide +kernel
theorem dX11_areEqual_42 : decode cX11_areEqual 42 = .ok (.aload_n 0, 1) := by decide +kernel
theorem dX11_areEqual_43 : decode cX11_areEqual 43 = .ok (.getfield 90, 3) := by decide +kernel
theorem dX11_areEqual_46 : decode cX11_areEqual 46 = .ok (.iload_n 2, 1) := by decide +kernel
theorem dX11_areEqual_47 : decode cX11_areEqual 47 = .ok (.invokevirtual 202, 3) := by decide +kernel
theorem dX11_areEqual_50 : decode cX11_areEqual 50 = .ok (.invokevirtual 383, 3) := by decide +kernel
theorem dX11_areEqual_53 : decode cX11_areEqual 53 = .ok (.ireturn, 1) := by decide +kernel
theorem dX11_compare_0 : decode cX11_compare 0 = .ok (.aload_n 0, 1) := by decide +kernel
theorem dX11_compare_1 : decode cX11_compare 1 = .ok (.iload_n 1, 1) := by decide +kernel
theorem dX11_compare_2 : decode cX11_compare 2 = .ok (.invokevirtual 194, 3) := by decide +kernel
theorem dX11_compare_5 : decode cX11_compare 5 = .ok (.ifCond .eq 11, 3) := by decide +kernel
theorem dX11_compare_8 : decode cX11_compare 8 = .ok (.aload_n 0, 1) := by decide +kernel
theorem dX11_compare_9 : decode cX11_compare 9 = .ok (.iload_n 2, 1) := by decide +kernel
theorem dX11_compare_10 : decode cX11_compare 10 = .ok (.invokevirtual 194, 3) := by decide +kernel
theorem dX11_compare_13 : decode cX11_compare 13 = .ok (.ifCond .ne 13, 3) := by decide +kernel
theorem dX11_compare_26 : decode cX11_compare 26 = .ok (.iload_n 1, 1) := by decide +kernel
theorem dX11_compare_27 : decode cX11_compare 27 = .ok (.iload_n 2, 1) := by decide +kernel
theorem dX11_compare_28 : decode cX11_compare 28 = .ok (.if_icmp .ne 5, 3) := by decide +kernel
theorem dX11_compare_31 : decode cX11_compare 31 = .ok (.iconst 0, 1) := by decide +kernel
theorem dX11_compare_32 : decode cX11_compare 32 = .ok (.ireturn, 1) := by decide +kernel
theorem dX11_compare_33 : decode cX11_compare 33 = .ok (.aload_n 0, 1) := by decide +kernel
theorem dX11_compare_34 : decode cX11_compare 34 = .ok (.getfield 30, 3) := by decide +kernel
theorem dX11_compare_37 : decode cX11_compare 37 = .ok (.invokevirtual 253, 3) := by decide +kernel
theorem dX11_compare_40 : decode cX11_compare 40 = .ok (.aload_n 0, 1) := by decide +kernel
theorem dX11_compare_41 : decode cX11_compare 41 = .ok (.getfield 30, 3) := by decide +kernel
theorem dX11_compare_44 : decode cX11_compare 44 = .ok (.aload_n 0, 1) := by decide +kernel
theorem dX11_compare_45 : decode cX11_compare 45 = .ok (.getfield 90, 3) := by decide +kernel
theorem dX11_compare_48 : decode cX11_compare 48 = .ok (.iload_n 1, 1) := by decide +kernel
theorem dX11_compare_49 : decode cX11_compare 49 = .ok (.invokevirtual 202, 3) := by decide +kernel
theorem dX11_compare_52 : decode cX11_compare 52 = .ok (.invokevirtual 256, 3) := by decide +kernel
theorem dX11_compare_55 : decode cX11_compare 55 = .ok (.aload_n 0, 1) := by decide +kernel
theorem dX11_compare_56 : decode cX11_compare 56 = .ok (.getfield 30, 3) := by decide +kernel
theorem dX11_compare_59 : decode cX11_compare 59 = .ok (.aload_n 0, 1) := by decide +kernel
theorem dX11_compare_60 : decode cX11_compare 60 = .ok (.getfield 90, 3) := by decide +kernel
theorem dX11_compare_63 : decode cX11_compare 63 = .ok (.iload_n 2, 1) := by decide +kernel
theorem dX11_compare_64 : decode cX11_compare 64 = .ok (.invokevirtual 202, 3) := by decide +kernel
theorem dX11_compare_67 : decode cX11_compare 67 = .ok (.invokevirtual 256, 3) := by decide +kernel
theorem dX11_compare_70 : decode cX11_compare 70 = .ok (.aload_n 0, 1) := by decide +kernel
theorem dX11_compare_71 : decode cX11_compare 71 = .ok (.getfield 37, 3) := by decide +kernel
theorem dX11_compare_74 : decode cX11_compare 74 = .ok (.aload_n 0, 1) := by decide +kernel
theorem dX11_compare_75 : decode cX11_compare 75 = .ok (.getfield 30, 3) := by decide +kernel
theorem dX11_compare_78 : decode cX11_compare 78 = .ok (.aload_n 0, 1) := by decide +kernel
theorem dX11_compare_79 : decode cX11_compare 79 = .ok (.getfield 21, 3) := by decide +kernel
theorem dX11_compare_82 : decode cX11_compare 82 = .ok (.invokevirtual 258, 3) := by decide +kernel
theorem dX11_compare_85 : decode cX11_compare 85 = .ok (.aload_n 0, 1) := by decide +kernel
theorem dX11_compare_86 : decode cX11_compare 86 = .ok (.getfield 37, 3) := by decide +kernel
theorem dX11_compare_89 : decode cX11_compare 89 = .ok (.aload_n 0, 1) := by decide +kernel
theorem dX11_compare_90 : decode cX11_compare 90 = .ok (.getfield 10, 3) := by decide +kernel
theorem dX11_compare_93 : decode cX11_compare 93 = .ok (.invokevirtual 262, 3) := by decide +kernel
theorem dX11_compare_96 : decode cX11_compare 96 = .ok (.invokevirtual 265, 3) := by decide +kernel
theorem dX11_compare_99 : decode cX11_compare 99 = .ok (.aload_n 0, 1) := by decide +kernel
theorem dX11_compare_100 : decode cX11_compare 100 = .ok (.getfield 37, 3) := by decide +kernel
theorem dX11_compare_103 : decode cX11_compare 103 = .ok (.aload_n 0, 1) := by decide +kernel
theorem dX11_compare_104 : decode cX11_compare 104 = .ok (.getfield 30, 3) := by decide +kernel
theorem dX11_compare_107 : decode cX11_compare 107 = .ok (.aload_n 0, 1) := by decide +kernel
theorem dX11_compare_108 : decode cX11_compare 108 = .ok (.getfield 90, 3) := by decide +kernel
theorem dX11_compare_111 : decode cX11_compare 111 = .ok (.iload_n 1, 1) := by decide +kernel
theorem dX11_compare_112 : decode cX11_compare 112 = .ok (.invokevirtual 202, 3) := by decide +kernel
theorem dX11_compare_115 : decode cX11_compare 115 = .ok (.invokevirtual 267, 3) := by decide +kernel
theorem dX11_compare_118 : decode cX11_compare 118 = .ok (.invokevirtual 270, 3) := by decide +kernel
theorem dX11_compare_121 : decode cX11_compare 121 = .ok (.istore_n 3, 1) := by decide +kernel
theorem dX11_compare_122 : decode cX11_compare 122 = .ok (.aload_n 0, 1) := by decide +kernel
theorem dX11_compare_123 : decode cX11_compare 123 = .ok (.getfield 37, 3) := by decide +kernel
theorem dX11_compare_126 : decode cX11_compare 126 = .ok (.aload_n 0, 1) := by decide +kernel
theorem dX11_compare_127 : decode cX11_compare 127 = .ok (.getfield 30, 3) := by decide +kernel
theorem dX11_compare_130 : decode cX11_compare 130 = .ok (.aload_n 0, 1) := by decide +kernel
theorem dX11_compare_131 : decode cX11_compare 131 = .ok (.getfield 90, 3) := by decide +kernel
theorem dX11_compare_134 : decode cX11_compare 134 = .ok (.iload_n 2, 1) := by decide +kernel
theorem dX11_compare_135 : decode cX11_compare 135 = .ok (.invokevirtual 202, 3) := by decide +kernel
theorem dX11_compare_138 : decode cX11_compare 138 = .ok (.invokevirtual 267, 3) := by decide +kernel
theorem dX11_compare_141 : decode cX11_compare 141 = .ok (.invokevirtual 270, 3) := by decide +kernel
theorem dX11_compare_144 : decode cX11_compare 144 = .ok (.istore 4, 2) := by decide +kernel
theorem dX11_compare_146 : decode cX11_compare 146 = .ok (.iload_n 3, 1) := by decide +kernel
theorem dX11_compare_147 : decode cX11_compare 147 = .ok (.iload 4, 2) := by decide +kernel
theorem dX11_compare_149 : decode cX11_compare 149 = .ok (.if_icmp .le 7, 3) := by decide +kernel
theorem dX11_compare_152 : decode cX11_compare 152 = .ok (.iconst 1, 1) := by decide +kernel
theorem dX11_compare_153 : decode cX11_compare 153 = .ok (.goto 4, 3) := by decide +kernel
theorem dX11_compare_156 : decode cX11_compare 156 = .ok (.iconst (-1), 1) := by decide +kernel
theorem dX11_compare_157 : decode cX11_compare 157 = .ok (.ireturn, 1) := by decide +kernel
theorem dX11_declare_0 : decode cX11_declare 0 = .ok (.aload_n 0, 1) := by decide +kernel
theorem dX11_declare_1 : decode cX11_declare 1 = .ok (.getfield 55, 3) := by decide +kernel
theorem dX11_declare_4 : decode cX11_declare 4 = .ok (.invokevirtual 116, 3) := by decide +kernel
theorem dX11_declare_7 : decode cX11_declare 7 = .ok (.istore_n 3, 1) := by decide +kernel
theorem dX11_declare_8 : decode cX11_declare 8 = .ok (.aload_n 0, 1) := by decide +kernel
theorem dX11_declare_9 : decode cX11_declare 9 = .ok (.getfield 55, 3) := by decide +kernel
theorem dX11_declare_12 : decode cX11_declare 12 = .ok (.invokevirtual 120, 3) := by decide +kernel
theorem dX11_declare_15 : decode cX11_declare 15 = .ok (.istore 4, 2) := by decide +kernel
theorem dX11_declare_17 : decode cX11_declare 17 = .ok (.aload_n 0, 1) := by decide +kernel
theorem dX11_declare_18 : decode cX11_declare 18 = .ok (.getfield 55, 3) := by decide +kernel
theorem dX11_declare_21 : decode cX11_declare 21 = .ok (.invokevirtual 123, 3) := by decide +kernel
theorem dX11_declare_24 : decode cX11_declare 24 = .ok (.istore 5, 2) := by decide +kernel
theorem dX11_declare_26 : decode cX11_declare 26 = .ok (.iload_n 1, 1) := by decide +kernel
theorem dX11_declare_27 : decode cX11_declare 27 = .ok (.ifCond .lt 23, 3) := by decide +kernel
theorem dX11_declare_30 : decode cX11_declare 30 = .ok (.iload_n 1, 1) := by decide +kernel
theorem dX11_declare_31 : decode cX11_declare 31 = .ok (.iconst 3, 1) := by decide +kernel
theorem dX11_declare_32 : decode cX11_declare 32 = .ok (.if_icmp .gt 18, 3) := by decide +kernel
theorem dX11_declare_35 : decode cX11_declare 35 = .ok (.iload_n 2, 1) := by decide +kernel
theorem dX11_declare_36 : decode cX11_declare 36 = .ok (.iconst 1, 1) := by decide +kernel
theorem dX11_declare_37 : decode cX11_declare 37 = .ok (.if_icmp .lt 13, 3) := by decide +kernel
theorem dX11_declare_40 : decode cX11_declare 40 = .ok (.iload_n 2, 1) := by decide +kernel
theorem dX11_declare_41 : decode cX11_declare 41 = .ok (.bipush 9, 2) := by decide +kernel
theorem dX11_declare_43 : decode cX11_declare 43 = .ok (.if_icmp .gt 7, 3) := by decide +kernel
theorem dX11_declare_46 : decode cX11_declare 46 = .ok (.iload_n 3, 1) := by decide +kernel
theorem dX11_declare_47 : decode cX11_declare 47 = .ok (.ifCond .ne 13, 3) := by decide +kernel
theorem dX11_declare_60 : decode cX11_declare 60 = .ok (.iload 4, 2) := by decide +kernel
theorem dX11_declare_62 : decode cX11_declare 62 = .ok (.iconst (-1), 1) := by decide +kernel
theorem dX11_declare_63 : decode cX11_declare 63 = .ok (.if_icmp .ne 13, 3) := by decide +kernel
theorem dX11_declare_66 : decode cX11_declare 66 = .ok (.aload_n 0, 1) := by decide +kernel
theorem dX11_declare_67 : decode cX11_declare 67 = .ok (.getfield 10, 3) := by decide +kernel
theorem dX11_declare_70 : decode cX11_declare 70 = .ok (.invokevirtual 128, 3) := by decide +kernel
theorem dX11_declare_73 : decode cX11_declare 73 = .ok (.ifCond .eq 13, 3) := by decide +kernel
theorem dX11_declare_86 : decode cX11_declare 86 = .ok (.aload_n 0, 1) := by decide +kernel
theorem dX11_declare_87 : decode cX11_declare 87 = .ok (.getfield 10, 3) := by decide +kernel
theorem dX11_declare_90 : decode cX11_declare 90 = .ok (.aload_n 0, 1) := by decide +kernel
theorem dX11_declare_91 : decode cX11_declare 91 = .ok (.getfield 55, 3) := by decide +kernel
theorem dX11_declare_94 : decode cX11_declare 94 = .ok (.invokevirtual 133, 3) := by decide +kernel
theorem dX11_declare_97 : decode cX11_declare 97 = .ok (.iload 5, 2) := by decide +kernel
theorem dX11_declare_99 : decode cX11_declare 99 = .ok (.iload_n 1, 1) := by decide +kernel
theorem dX11_declare_100 : decode cX11_declare 100 = .ok (.iload_n 2, 1) := by decide +kernel
theorem dX11_declare_101 : decode cX11_declare 101 = .ok (.invokevirtual 137, 3) := by decide +kernel
theorem dX11_declare_104 : decode cX11_declare 104 = .ok (.ireturn, 1) := by decide +kernel
theorem dX11_equate_0 : decode cX11_equate 0 = .ok (.aload_n 0, 1) := by decide +kernel
theorem dX11_equate_1 : decode cX11_equate 1 = .ok (.iload_n 1, 1) := by decide +kernel
theorem dX11_equate_2 : decode cX11_equate 2 = .ok (.invokevirtual 194, 3) := by decide +kernel
theorem dX11_equate_5 : decode cX11_equate 5 = .ok (.ifCond .eq 11, 3) := by decide +kernel
theorem dX11_equate_8 : decode cX11_equate 8 = .ok (.aload_n 0, 1) := by decide +kernel
theorem dX11_equate_9 : decode cX11_equate 9 = .ok (.iload_n 2, 1) := by decide +kernel
theorem dX11_equate_10 : decode cX11_equate 10 = .ok (.invokevirtual 194, 3) := by decide +kernel
theorem dX11_equate_13 : decode cX11_equate 13 = .ok (.ifCond .ne 13, 3) := by decide +kernel
theorem dX11_equate_26 : decode cX11_equate 26 = .ok (.aload_n 0, 1) := by decide +kernel
theorem dX11_equate_27 : decode cX11_equate 27 = .ok (.getfield 21, 3) := by decide +kernel
theorem dX11_equate_30 : decode cX11_equate 30 = .ok (.aload_n 0, 1) := by decide +kernel
theorem dX11_equate_31 : decode cX11_equate 31 = .ok (.getfield 90, 3) := by decide +kernel
theorem dX11_equate_34 : decode cX11_equate 34 = .ok (.iload_n 1, 1) := by decide +kernel
theorem dX11_equate_35 : decode cX11_equate 35 = .ok (.invokevirtual 202, 3) := by decide +kernel
theorem dX11_equate_38 : decode cX11_equate 38 = .ok (.invokevirtual 293, 3) := by decide +kernel
theorem dX11_equate_41 : decode cX11_equate 41 = .ok (.ifCond .eq 21, 3) := by decide +kernel
theorem dX11_equate_44 : decode cX11_equate 44 = .ok (.aload_n 0, 1) := by decide +kernel
theorem dX11_equate_45 : decode cX11_equate 45 = .ok (.getfield 21, 3) := by decide +kernel
theorem dX11_equate_48 : decode cX11_equate 48 = .ok (.aload_n 0, 1) := by decide +kernel
theorem dX11_equate_49 : decode cX11_equate 49 = .ok (.getfield 90, 3) := by decide +kernel
theorem dX11_equate_52 : decode cX11_equate 52 = .ok (.iload_n 2, 1) := by decide +kernel
theorem dX11_equate_53 : decode cX11_equate 53 = .ok (.invokevirtual 202, 3) := by decide +kernel
theorem dX11_equate_56 : decode cX11_equate 56 = .ok (.invokevirtual 293, 3) := by decide +kernel
theorem dX11_equate_59 : decode cX11_equate 59 = .ok (.ifCond .ne 14, 3) := by decide +kernel
theorem dX11_equate_73 : decode cX11_equate 73 = .ok (.aload_n 0, 1) := by decide +kernel
theorem dX11_equate_74 : decode cX11_equate 74 = .ok (.getfield 46, 3) := by decide +kernel
theorem dX11_equate_77 : decode cX11_equate 77 = .ok (.getfield 298, 3) := by decide +kernel
theorem dX11_equate_80 : decode cX11_equate 80 = .ok (.bipush 30, 2) := by decide +kernel
theorem dX11_equate_82 : decode cX11_equate 82 = .ok (.if_icmp .lt 14, 3) := by decide +kernel
theorem dX11_equate_96 : decode cX11_equate 96 = .ok (.aload_n 0, 1) := by decide +kernel
theorem dX11_equate_97 : decode cX11_equate 97 = .ok (.invokevirtual 199, 3) := by decide +kernel
theorem dX11_equate_100 : decode cX11_equate 100 = .ok (.aload_n 0, 1) := by decide +kernel
theorem dX11_equate_101 : decode cX11_equate 101 = .ok (.getfield 46, 3) := by decide +kernel
theorem dX11_equate_104 : decode cX11_equate 104 = .ok (.aload_n 0, 1) := by decide +kernel
theorem dX11_equate_105 : decode cX11_equate 105 = .ok (.getfield 90, 3) := by decide +kernel
theorem dX11_equate_108 : decode cX11_equate 108 = .ok (.iload_n 1, 1) := by decide +kernel
theorem dX11_equate_109 : decode cX11_equate 109 = .ok (.invokevirtual 202, 3) := by decide +kernel
theorem dX11_equate_112 : decode cX11_equate 112 = .ok (.aload_n 0, 1) := by decide +kernel
theorem dX11_equate_113 : decode cX11_equate 113 = .ok (.getfield 90, 3) := by decide +kernel
theorem dX11_equate_116 : decode cX11_equate 116 = .ok (.iload_n 2, 1) := by decide +kernel
theorem dX11_equate_117 : decode cX11_equate 117 = .ok (.invokevirtual 202, 3) := by decide +kernel
theorem dX11_equate_120 : decode cX11_equate 120 = .ok (.invokevirtual 303, 3) := by decide +kernel
theorem dX11_equate_123 : decode cX11_equate 123 = .ok (.aload_n 0, 1) := by decide +kernel
theorem dX11_equate_124 : decode cX11_equate 124 = .ok (.getfield 46, 3) := by decide +kernel
theorem dX11_equate_127 : decode cX11_equate 127 = .ok (.invokevirtual 306, 3) := by decide +kernel
theorem dX11_equate_130 : decode cX11_equate 130 = .ok (.ifCond .ne 37, 3) := by decide +kernel
theorem dX11_equate_133 : decode cX11_equate 133 = .ok (.aload_n 0, 1) := by decide +kernel
theorem dX11_equate_134 : decode cX11_equate 134 = .ok (.getfield 46, 3) := by decide +kernel
theorem dX11_equate_137 : decode cX11_equate 137 = .ok (.aload_n 0, 1) := by decide +kernel
theorem dX11_equate_138 : decode cX11_equate 138 = .ok (.getfield 46, 3) := by decide +kernel
theorem dX11_equate_141 : decode cX11_equate 141 = .ok (.getfield 298, 3) := by decide +kernel
theorem dX11_equate_144 : decode cX11_equate 144 = .ok (.iconst 1, 1) := by decide +kernel
theorem dX11_equate_145 : decode cX11_equate 145 = .ok (.isub, 1) := by decide +kernel
theorem dX11_equate_146 : decode cX11_equate 146 = .ok (.aload_n 0, 1) := by decide +kernel
theorem dX11_equate_147 : decode cX11_equate 147 = .ok (.getfield 46, 3) := by decide +kernel
theorem dX11_equate_150 : decode cX11_equate 150 = .ok (.getfield 309, 3) := by decide +kernel
theorem dX11_equate_153 : decode cX11_equate 153 = .ok (.invokevirtual 312, 3) := by decide +kernel
theorem dX11_equate_156 : decode cX11_equate 156 = .ok (.new 212, 3) := by decide +kernel
theorem dX11_equate_159 : decode cX11_equate 159 = .ok (.dup, 1) := by decide +kernel
theorem dX11_equate_160 : decode cX11_equate 160 = .ok (.ldc_w 315, 3) := by decide +kernel
theorem dX11_equate_163 : decode cX11_equate 163 = .ok (.invokespecial 216, 3) := by decide +kernel
theorem dX11_equate_166 : decode cX11_equate 166 = .ok (.athrow, 1) := by decide +kernel
theorem dX11_equate_167 : decode cX11_equate 167 = .ok (.aload_n 0, 1) := by decide +kernel
theorem dX11_equate_168 : decode cX11_equate 168 = .ok (.getfield 46, 3) := by decide +kernel
theorem dX11_equate_171 : decode cX11_equate 171 = .ok (.getfield 298, 3) := by decide +kernel
theorem dX11_equate_174 : decode cX11_equate 174 = .ok (.iconst 1, 1) := by decide +kernel
theorem dX11_equate_175 : decode cX11_equate 175 = .ok (.isub, 1) := by decide +kernel
theorem dX11_equate_176 : decode cX11_equate 176 = .ok (.ireturn, 1) := by decide +kernel
theorem dX11_equationCount_0 : decode cX11_equationCount 0 = .ok (.aload_n 0, 1) := by decide +kernel
theorem dX11_equationCount_1 : decode cX11_equationCount 1 = .ok (.getfield 46, 3) := by decide +kernel
theorem dX11_equationCount_4 : decode cX11_equationCount 4 = .ok (.getfield 298, 3) := by decide +kernel
theorem dX11_equationCount_7 : decode cX11_equationCount 7 = .ok (.ireturn, 1) := by decide +kernel
theorem dX11_feed_0 : decode cX11_feed 0 = .ok (.aload_n 0, 1) := by decide +kernel
theorem dX11_feed_1 : decode cX11_feed 1 = .ok (.getfield 55, 3) := by decide +kernel
theorem dX11_feed_4 : decode cX11_feed 4 = .ok (.invokevirtual 94, 3) := by decide +kernel
theorem dX11_feed_7 : decode cX11_feed 7 = .ok (.bipush 20, 2) := by decide +kernel
theorem dX11_feed_9 : decode cX11_feed 9 = .ok (.iadd, 1) := by decide +kernel
theorem dX11_feed_10 : decode cX11_feed 10 = .ok (.sipush 400, 3) := by decide +kernel
theorem dX11_feed_13 : decode cX11_feed 13 = .ok (.if_icmp .le 13, 3) := by decide +kernel
theorem dX11_feed_26 : decode cX11_feed 26 = .ok (.aload_n 0, 1) := by decide +kernel
theorem dX11_feed_27 : decode cX11_feed 27 = .ok (.getfield 55, 3) := by decide +kernel
theorem dX11_feed_30 : decode cX11_feed 30 = .ok (.iload_n 1, 1) := by decide +kernel
theorem dX11_feed_31 : decode cX11_feed 31 = .ok (.invokevirtual 105, 3) := by decide +kernel
theorem dX11_feed_34 : decode cX11_feed 34 = .ok (.aload_n 0, 1) := by decide +kernel
theorem dX11_feed_35 : decode cX11_feed 35 = .ok (.getfield 55, 3) := by decide +kernel
theorem dX11_feed_38 : decode cX11_feed 38 = .ok (.iload_n 2, 1) := by decide +kernel
theorem dX11_feed_39 : decode cX11_feed 39 = .ok (.invokevirtual 105, 3) := by decide +kernel
theorem dX11_feed_42 : decode cX11_feed 42 = .ok (.aload_n 0, 1) := by decide +kernel
theorem dX11_feed_43 : decode cX11_feed 43 = .ok (.getfield 55, 3) := by decide +kernel
theorem dX11_feed_46 : decode cX11_feed 46 = .ok (.iload_n 3, 1) := by decide +kernel
theorem dX11_feed_47 : decode cX11_feed 47 = .ok (.invokevirtual 105, 3) := by decide +kernel
theorem dX11_feed_50 : decode cX11_feed 50 = .ok (.aload_n 0, 1) := by decide +kernel
theorem dX11_feed_51 : decode cX11_feed 51 = .ok (.getfield 55, 3) := by decide +kernel
theorem dX11_feed_54 : decode cX11_feed 54 = .ok (.iload 4, 2) := by decide +kernel
theorem dX11_feed_56 : decode cX11_feed 56 = .ok (.invokevirtual 105, 3) := by decide +kernel
theorem dX11_feed_59 : decode cX11_feed 59 = .ok (.aload_n 0, 1) := by decide +kernel
theorem dX11_feed_60 : decode cX11_feed 60 = .ok (.getfield 55, 3) := by decide +kernel
theorem dX11_feed_63 : decode cX11_feed 63 = .ok (.iload 5, 2) := by decide +kernel
theorem dX11_feed_65 : decode cX11_feed 65 = .ok (.invokevirtual 105, 3) := by decide +kernel
theorem dX11_feed_68 : decode cX11_feed 68 = .ok (.aload_n 0, 1) := by decide +kernel
theorem dX11_feed_69 : decode cX11_feed 69 = .ok (.getfield 55, 3) := by decide +kernel
theorem dX11_feed_72 : decode cX11_feed 72 = .ok (.invokevirtual 94, 3) := by decide +kernel
theorem dX11_feed_75 : decode cX11_feed 75 = .ok (.ireturn, 1) := by decide +kernel
theorem dX11_giveNumber_0 : decode cX11_giveNumber 0 = .ok (.aload_n 0, 1) := by decide +kernel
theorem dX11_giveNumber_1 : decode cX11_giveNumber 1 = .ok (.getfield 21, 3) := by decide +kernel
theorem dX11_giveNumber_4 : decode cX11_giveNumber 4 = .ok (.iload_n 1, 1) := by decide +kernel
theorem dX11_giveNumber_5 : decode cX11_giveNumber 5 = .ok (.invokevirtual 445, 3) := by decide +kernel
theorem dX11_giveNumber_8 : decode cX11_giveNumber 8 = .ok (.istore_n 2, 1) := by decide +kernel
theorem dX11_giveNumber_9 : decode cX11_giveNumber 9 = .ok (.iload_n 2, 1) := by decide +kernel
theorem dX11_giveNumber_10 : decode cX11_giveNumber 10 = .ok (.iconst (-1), 1) := by decide +kernel
theorem dX11_giveNumber_11 : decode cX11_giveNumber 11 = .ok (.if_icmp .ne 43, 3) := by decide +kernel
theorem dX11_giveNumber_14 : decode cX11_giveNumber 14 = .ok (.aload_n 0, 1) := by decide +kernel
theorem dX11_giveNumber_15 : decode cX11_giveNumber 15 = .ok (.getfield 231, 3) := by decide +kernel
theorem dX11_giveNumber_18 : decode cX11_giveNumber 18 = .ok (.istore_n 2, 1) := by decide +kernel
theorem dX11_giveNumber_19 : decode cX11_giveNumber 19 = .ok (.aload_n 0, 1) := by decide +kernel
theorem dX11_giveNumber_20 : decode cX11_giveNumber 20 = .ok (.getfield 21, 3) := by decide +kernel
theorem dX11_giveNumber_23 : decode cX11_giveNumber 23 = .ok (.iload_n 1, 1) := by decide +kernel
theorem dX11_giveNumber_24 : decode cX11_giveNumber 24 = .ok (.iload_n 2, 1) := by decide +kernel
theorem dX11_giveNumber_25 : decode cX11_giveNumber 25 = .ok (.invokevirtual 448, 3) := by decide +kernel
theorem dX11_giveNumber_28 : decode cX11_giveNumber 28 = .ok (.aload_n 0, 1) := by decide +kernel
theorem dX11_giveNumber_29 : decode cX11_giveNumber 29 = .ok (.getfield 90, 3) := by decide +kernel
theorem dX11_giveNumber_32 : decode cX11_giveNumber 32 = .ok (.iload_n 2, 1) := by decide +kernel
theorem dX11_giveNumber_33 : decode cX11_giveNumber 33 = .ok (.iload_n 1, 1) := by decide +kernel
theorem dX11_giveNumber_34 : decode cX11_giveNumber 34 = .ok (.invokevirtual 451, 3) := by decide +kernel
theorem dX11_giveNumber_37 : decode cX11_giveNumber 37 = .ok (.aload_n 0, 1) := by decide +kernel
theorem dX11_giveNumber_38 : decode cX11_giveNumber 38 = .ok (.dup, 1) := by decide +kernel
theorem dX11_giveNumber_39 : decode cX11_giveNumber 39 = .ok (.getfield 231, 3) := by decide +kernel
theorem dX11_giveNumber_42 : decode cX11_giveNumber 42 = .ok (.iconst 1, 1) := by decide +kernel
theorem dX11_giveNumber_43 : decode cX11_giveNumber 43 = .ok (.iadd, 1) := by decide +kernel
theorem dX11_giveNumber_44 : decode cX11_giveNumber 44 = .ok (.putfield 231, 3) := by decide +kernel
theorem dX11_giveNumber_47 : decode cX11_giveNumber 47 = .ok (.aload_n 0, 1) := by decide +kernel
theorem dX11_giveNumber_48 : decode cX11_giveNumber 48 = .ok (.getfield 10, 3) := by decide +kernel
theorem dX11_giveNumber_51 : decode cX11_giveNumber 51 = .ok (.invokevirtual 343, 3) := by decide +kernel
theorem dX11_giveNumber_54 : decode cX11_giveNumber 54 = .ok (.iload_n 2, 1) := by decide +kernel
theorem dX11_giveNumber_55 : decode cX11_giveNumber 55 = .ok (.ireturn, 1) := by decide +kernel
theorem dX11_init_0 : decode cX11_init 0 = .ok (.aload_n 0, 1) := by decide +kernel
theorem dX11_init_1 : decode cX11_init 1 = .ok (.invokespecial 1, 3) := by decide +kernel
theorem dX11_init_4 : decode cX11_init 4 = .ok (.aload_n 0, 1) := by decide +kernel
theorem dX11_init_5 : decode cX11_init 5 = .ok (.new 7, 3) := by decide +kernel
theorem dX11_init_8 : decode cX11_init 8 = .ok (.dup, 1) := by decide +kernel
theorem dX11_init_9 : decode cX11_init 9 = .ok (.invokespecial 9, 3) := by decide +kernel
theorem dX11_init_12 : decode cX11_init 12 = .ok (.putfield 10, 3) := by decide +kernel
theorem dX11_init_15 : decode cX11_init 15 = .ok (.aload_n 0, 1) := by decide +kernel
theorem dX11_init_16 : decode cX11_init 16 = .ok (.new 16, 3) := by decide +kernel
theorem dX11_init_19 : decode cX11_init 19 = .ok (.dup, 1) := by decide +kernel
theorem dX11_init_20 : decode cX11_init 20 = .ok (.aload_n 0, 1) := by decide +kernel
theorem dX11_init_21 : decode cX11_init 21 = .ok (.getfield 10, 3) := by decide +kernel
theorem dX11_init_24 : decode cX11_init 24 = .ok (.invokespecial 18, 3) := by decide +kernel
theorem dX11_init_27 : decode cX11_init 27 = .ok (.putfield 21, 3) := by decide +kernel
theorem dX11_init_30 : decode cX11_init 30 = .ok (.aload_n 0, 1) := by decide +kernel
theorem dX11_init_31 : decode cX11_init 31 = .ok (.new 25, 3) := by decide +kernel
theorem dX11_init_34 : decode cX11_init 34 = .ok (.dup, 1) := by decide +kernel
theorem dX11_init_35 : decode cX11_init 35 = .ok (.aload_n 0, 1) := by decide +kernel
theorem dX11_init_36 : decode cX11_init 36 = .ok (.getfield 21, 3) := by decide +kernel
theorem dX11_init_39 : decode cX11_init 39 = .ok (.invokespecial 27, 3) := by decide +kernel
theorem dX11_init_42 : decode cX11_init 42 = .ok (.putfield 30, 3) := by decide +kernel
theorem dX11_init_45 : decode cX11_init 45 = .ok (.aload_n 0, 1) := by decide +kernel
theorem dX11_init_46 : decode cX11_init 46 = .ok (.new 34, 3) := by decide +kernel
theorem dX11_init_49 : decode cX11_init 49 = .ok (.dup, 1) := by decide +kernel
theorem dX11_init_50 : decode cX11_init 50 = .ok (.aload_n 0, 1) := by decide +kernel
theorem dX11_init_51 : decode cX11_init 51 = .ok (.getfield 10, 3) := by decide +kernel
theorem dX11_init_54 : decode cX11_init 54 = .ok (.invokespecial 36, 3) := by decide +kernel
theorem dX11_init_57 : decode cX11_init 57 = .ok (.putfield 37, 3) := by decide +kernel
theorem dX11_init_60 : decode cX11_init 60 = .ok (.aload_n 0, 1) := by decide +kernel
theorem dX11_init_61 : decode cX11_init 61 = .ok (.new 41, 3) := by decide +kernel
theorem dX11_init_64 : decode cX11_init 64 = .ok (.dup, 1) := by decide +kernel
theorem dX11_init_65 : decode cX11_init 65 = .ok (.aload_n 0, 1) := by decide +kernel
theorem dX11_init_66 : decode cX11_init 66 = .ok (.getfield 10, 3) := by decide +kernel
theorem dX11_init_69 : decode cX11_init 69 = .ok (.aload_n 0, 1) := by decide +kernel
theorem dX11_init_70 : decode cX11_init 70 = .ok (.getfield 21, 3) := by decide +kernel
theorem dX11_init_73 : decode cX11_init 73 = .ok (.aload_n 0, 1) := by decide +kernel
theorem dX11_init_74 : decode cX11_init 74 = .ok (.getfield 30, 3) := by decide +kernel
theorem dX11_init_77 : decode cX11_init 77 = .ok (.aload_n 0, 1) := by decide +kernel
theorem dX11_init_78 : decode cX11_init 78 = .ok (.getfield 37, 3) := by decide +kernel
theorem dX11_init_81 : decode cX11_init 81 = .ok (.invokespecial 43, 3) := by decide +kernel
theorem dX11_init_84 : decode cX11_init 84 = .ok (.putfield 46, 3) := by decide +kernel
theorem dX11_init_87 : decode cX11_init 87 = .ok (.aload_n 0, 1) := by decide +kernel
theorem dX11_init_88 : decode cX11_init 88 = .ok (.new 50, 3) := by decide +kernel
theorem dX11_init_91 : decode cX11_init 91 = .ok (.dup, 1) := by decide +kernel
theorem dX11_init_92 : decode cX11_init 92 = .ok (.aload_n 0, 1) := by decide +kernel
theorem dX11_init_93 : decode cX11_init 93 = .ok (.getfield 10, 3) := by decide +kernel
theorem dX11_init_96 : decode cX11_init 96 = .ok (.aload_n 0, 1) := by decide +kernel
theorem dX11_init_97 : decode cX11_init 97 = .ok (.getfield 21, 3) := by decide +kernel
theorem dX11_init_100 : decode cX11_init 100 = .ok (.invokespecial 52, 3) := by decide +kernel
theorem dX11_init_103 : decode cX11_init 103 = .ok (.putfield 55, 3) := by decide +kernel
theorem dX11_init_106 : decode cX11_init 106 = .ok (.aload_n 0, 1) := by decide +kernel
theorem dX11_init_107 : decode cX11_init 107 = .ok (.new 59, 3) := by decide +kernel
theorem dX11_init_110 : decode cX11_init 110 = .ok (.dup, 1) := by decide +kernel
theorem dX11_init_111 : decode cX11_init 111 = .ok (.aload_n 0, 1) := by decide +kernel
theorem dX11_init_112 : decode cX11_init 112 = .ok (.getfield 10, 3) := by decide +kernel
theorem dX11_init_115 : decode cX11_init 115 = .ok (.aload_n 0, 1) := by decide +kernel
theorem dX11_init_116 : decode cX11_init 116 = .ok (.getfield 21, 3) := by decide +kernel
theorem dX11_init_119 : decode cX11_init 119 = .ok (.aload_n 0, 1) := by decide +kernel
theorem dX11_init_120 : decode cX11_init 120 = .ok (.getfield 30, 3) := by decide +kernel
theorem dX11_init_123 : decode cX11_init 123 = .ok (.invokespecial 61, 3) := by decide +kernel
theorem dX11_init_126 : decode cX11_init 126 = .ok (.putfield 64, 3) := by decide +kernel
theorem dX11_init_129 : decode cX11_init 129 = .ok (.aload_n 0, 1) := by decide +kernel
theorem dX11_init_130 : decode cX11_init 130 = .ok (.new 68, 3) := by decide +kernel
theorem dX11_init_133 : decode cX11_init 133 = .ok (.dup, 1) := by decide +kernel
theorem dX11_init_134 : decode cX11_init 134 = .ok (.aload_n 0, 1) := by decide +kernel
theorem dX11_init_135 : decode cX11_init 135 = .ok (.getfield 46, 3) := by decide +kernel
theorem dX11_init_138 : decode cX11_init 138 = .ok (.aload_n 0, 1) := by decide +kernel
theorem dX11_init_139 : decode cX11_init 139 = .ok (.getfield 21, 3) := by decide +kernel
theorem dX11_init_142 : decode cX11_init 142 = .ok (.aload_n 0, 1) := by decide +kernel
theorem dX11_init_143 : decode cX11_init 143 = .ok (.getfield 30, 3) := by decide +kernel
theorem dX11_init_146 : decode cX11_init 146 = .ok (.aload_n 0, 1) := by decide +kernel
theorem dX11_init_147 : decode cX11_init 147 = .ok (.getfield 37, 3) := by decide +kernel
theorem dX11_init_150 : decode cX11_init 150 = .ok (.invokespecial 70, 3) := by decide +kernel
theorem dX11_init_153 : decode cX11_init 153 = .ok (.putfield 73, 3) := by decide +kernel
theorem dX11_init_156 : decode cX11_init 156 = .ok (.aload_n 0, 1) := by decide +kernel
theorem dX11_init_157 : decode cX11_init 157 = .ok (.new 77, 3) := by decide +kernel
theorem dX11_init_160 : decode cX11_init 160 = .ok (.dup, 1) := by decide +kernel
theorem dX11_init_161 : decode cX11_init 161 = .ok (.aload_n 0, 1) := by decide +kernel
theorem dX11_init_162 : decode cX11_init 162 = .ok (.getfield 46, 3) := by decide +kernel
theorem dX11_init_165 : decode cX11_init 165 = .ok (.aload_n 0, 1) := by decide +kernel
theorem dX11_init_166 : decode cX11_init 166 = .ok (.getfield 21, 3) := by decide +kernel
theorem dX11_init_169 : decode cX11_init 169 = .ok (.aload_n 0, 1) := by decide +kernel
theorem dX11_init_170 : decode cX11_init 170 = .ok (.getfield 30, 3) := by decide +kernel
theorem dX11_init_173 : decode cX11_init 173 = .ok (.aload_n 0, 1) := by decide +kernel
theorem dX11_init_174 : decode cX11_init 174 = .ok (.getfield 37, 3) := by decide +kernel
theorem dX11_init_177 : decode cX11_init 177 = .ok (.invokespecial 79, 3) := by decide +kernel
theorem dX11_init_180 : decode cX11_init 180 = .ok (.putfield 80, 3) := by decide +kernel
theorem dX11_init_183 : decode cX11_init 183 = .ok (.aload_n 0, 1) := by decide +kernel
theorem dX11_init_184 : decode cX11_init 184 = .ok (.new 84, 3) := by decide +kernel
theorem dX11_init_187 : decode cX11_init 187 = .ok (.dup, 1) := by decide +kernel
theorem dX11_init_188 : decode cX11_init 188 = .ok (.ldc 86, 2) := by decide +kernel
theorem dX11_init_190 : decode cX11_init 190 = .ok (.invokespecial 87, 3) := by decide +kernel
theorem dX11_init_193 : decode cX11_init 193 = .ok (.putfield 90, 3) := by decide +kernel
theorem dX11_init_196 : decode cX11_init 196 = .ok (.return_, 1) := by decide +kernel
theorem dX11_isTerm_0 : decode cX11_isTerm 0 = .ok (.iload_n 1, 1) := by decide +kernel
theorem dX11_isTerm_1 : decode cX11_isTerm 1 = .ok (.ifCond .lt 15, 3) := by decide +kernel
theorem dX11_isTerm_4 : decode cX11_isTerm 4 = .ok (.iload_n 1, 1) := by decide +kernel
theorem dX11_isTerm_5 : decode cX11_isTerm 5 = .ok (.aload_n 0, 1) := by decide +kernel
theorem dX11_isTerm_6 : decode cX11_isTerm 6 = .ok (.getfield 231, 3) := by decide +kernel
theorem dX11_isTerm_9 : decode cX11_isTerm 9 = .ok (.if_icmp .ge 7, 3) := by decide +kernel
theorem dX11_isTerm_12 : decode cX11_isTerm 12 = .ok (.iconst 1, 1) := by decide +kernel
theorem dX11_isTerm_13 : decode cX11_isTerm 13 = .ok (.goto 4, 3) := by decide +kernel
theorem dX11_isTerm_16 : decode cX11_isTerm 16 = .ok (.iconst 0, 1) := by decide +kernel
theorem dX11_isTerm_17 : decode cX11_isTerm 17 = .ok (.ireturn, 1) := by decide +kernel
theorem dX11_normalForm_0 : decode cX11_normalForm 0 = .ok (.aload_n 0, 1) := by decide +kernel
theorem dX11_normalForm_1 : decode cX11_normalForm 1 = .ok (.iload_n 1, 1) := by decide +kernel
theorem dX11_normalForm_2 : decode cX11_normalForm 2 = .ok (.invokevirtual 194, 3) := by decide +kernel
theorem dX11_normalForm_5 : decode cX11_normalForm 5 = .ok (.ifCond .ne 13, 3) := by decide +kernel
theorem dX11_normalForm_18 : decode cX11_normalForm 18 = .ok (.aload_n 0, 1) := by decide +kernel
theorem dX11_normalForm_19 : decode cX11_normalForm 19 = .ok (.invokevirtual 199, 3) := by decide +kernel
theorem dX11_normalForm_22 : decode cX11_normalForm 22 = .ok (.aload_n 0, 1) := by decide +kernel
theorem dX11_normalForm_23 : decode cX11_normalForm 23 = .ok (.getfield 46, 3) := by decide +kernel
theorem dX11_normalForm_26 : decode cX11_normalForm 26 = .ok (.aload_n 0, 1) := by decide +kernel
theorem dX11_normalForm_27 : decode cX11_normalForm 27 = .ok (.getfield 90, 3) := by decide +kernel
theorem dX11_normalForm_30 : decode cX11_normalForm 30 = .ok (.iload_n 1, 1) := by decide +kernel
theorem dX11_normalForm_31 : decode cX11_normalForm 31 = .ok (.invokevirtual 202, 3) := by decide +kernel
theorem dX11_normalForm_34 : decode cX11_normalForm 34 = .ok (.invokevirtual 378, 3) := by decide +kernel
theorem dX11_normalForm_37 : decode cX11_normalForm 37 = .ok (.istore_n 2, 1) := by decide +kernel
theorem dX11_normalForm_38 : decode cX11_normalForm 38 = .ok (.aload_n 0, 1) := by decide +kernel
theorem dX11_normalForm_39 : decode cX11_normalForm 39 = .ok (.getfield 21, 3) := by decide +kernel
theorem dX11_normalForm_42 : decode cX11_normalForm 42 = .ok (.iload_n 2, 1) := by decide +kernel
theorem dX11_normalForm_43 : decode cX11_normalForm 43 = .ok (.invokevirtual 209, 3) := by decide +kernel
theorem dX11_normalForm_46 : decode cX11_normalForm 46 = .ok (.ifCond .eq 14, 3) := by decide +kernel
theorem dX11_normalForm_49 : decode cX11_normalForm 49 = .ok (.new 212, 3) := by decide +kernel
theorem dX11_normalForm_52 : decode cX11_normalForm 52 = .ok (.dup, 1) := by decide +kernel
theorem dX11_normalForm_53 : decode cX11_normalForm 53 = .ok (.ldc_w 381, 3) := by decide +kernel
theorem dX11_normalForm_56 : decode cX11_normalForm 56 = .ok (.invokespecial 216, 3) := by decide +kernel
theorem dX11_normalForm_59 : decode cX11_normalForm 59 = .ok (.athrow, 1) := by decide +kernel
theorem dX11_normalForm_60 : decode cX11_normalForm 60 = .ok (.aload_n 0, 1) := by decide +kernel
theorem dX11_normalForm_61 : decode cX11_normalForm 61 = .ok (.iload_n 2, 1) := by decide +kernel
theorem dX11_normalForm_62 : decode cX11_normalForm 62 = .ok (.invokevirtual 217, 3) := by decide +kernel
theorem dX11_normalForm_65 : decode cX11_normalForm 65 = .ok (.ireturn, 1) := by decide +kernel
theorem dX11_orderByWeight_0 : decode cX11_orderByWeight 0 = .ok (.aload_n 0, 1) := by decide +kernel
theorem dX11_orderByWeight_1 : decode cX11_orderByWeight 1 = .ok (.getfield 10, 3) := by decide +kernel
theorem dX11_orderByWeight_4 : decode cX11_orderByWeight 4 = .ok (.invokevirtual 153, 3) := by decide +kernel
theorem dX11_orderByWeight_7 : decode cX11_orderByWeight 7 = .ok (.ifCond .eq 13, 3) := by decide +kernel
theorem dX11_orderByWeight_20 : decode cX11_orderByWeight 20 = .ok (.aload_n 0, 1) := by decide +kernel
theorem dX11_orderByWeight_21 : decode cX11_orderByWeight 21 = .ok (.getfield 10, 3) := by decide +kernel
theorem dX11_orderByWeight_24 : decode cX11_orderByWeight 24 = .ok (.invokevirtual 158, 3) := by decide +kernel
theorem dX11_orderByWeight_27 : decode cX11_orderByWeight 27 = .ok (.istore_n 2, 1) := by decide +kernel
theorem dX11_orderByWeight_28 : decode cX11_orderByWeight 28 = .ok (.aload_n 0, 1) := by decide +kernel
theorem dX11_orderByWeight_29 : decode cX11_orderByWeight 29 = .ok (.getfield 10, 3) := by decide +kernel
theorem dX11_orderByWeight_32 : decode cX11_orderByWeight 32 = .ok (.iload_n 1, 1) := by decide +kernel
theorem dX11_orderByWeight_33 : decode cX11_orderByWeight 33 = .ok (.invokevirtual 161, 3) := by decide +kernel
theorem dX11_orderByWeight_36 : decode cX11_orderByWeight 36 = .ok (.iload_n 2, 1) := by decide +kernel
theorem dX11_orderByWeight_37 : decode cX11_orderByWeight 37 = .ok (.ireturn, 1) := by decide +kernel
theorem dX11_pop_0 : decode cX11_pop 0 = .ok (.aload_n 0, 1) := by decide +kernel
theorem dX11_pop_1 : decode cX11_pop 1 = .ok (.getfield 46, 3) := by decide +kernel
theorem dX11_pop_4 : decode cX11_pop 4 = .ok (.getfield 354, 3) := by decide +kernel
theorem dX11_pop_7 : decode cX11_pop 7 = .ok (.ifCond .gt 14, 3) := by decide +kernel
theorem dX11_pop_10 : decode cX11_pop 10 = .ok (.new 98, 3) := by decide +kernel
theorem dX11_pop_13 : decode cX11_pop 13 = .ok (.dup, 1) := by decide +kernel
theorem dX11_pop_14 : decode cX11_pop 14 = .ok (.ldc_w 362, 3) := by decide +kernel
theorem dX11_pop_17 : decode cX11_pop 17 = .ok (.invokespecial 102, 3) := by decide +kernel
theorem dX11_pop_20 : decode cX11_pop 20 = .ok (.athrow, 1) := by decide +kernel
theorem dX11_pop_21 : decode cX11_pop 21 = .ok (.aload_n 0, 1) := by decide +kernel
theorem dX11_pop_22 : decode cX11_pop 22 = .ok (.invokevirtual 199, 3) := by decide +kernel
theorem dX11_pop_25 : decode cX11_pop 25 = .ok (.aload_n 0, 1) := by decide +kernel
theorem dX11_pop_26 : decode cX11_pop 26 = .ok (.getfield 46, 3) := by decide +kernel
theorem dX11_pop_29 : decode cX11_pop 29 = .ok (.invokevirtual 364, 3) := by decide +kernel
theorem dX11_pop_32 : decode cX11_pop 32 = .ok (.aload_n 0, 1) := by decide +kernel
theorem dX11_pop_33 : decode cX11_pop 33 = .ok (.getfield 46, 3) := by decide +kernel
theorem dX11_pop_36 : decode cX11_pop 36 = .ok (.invokevirtual 306, 3) := by decide +kernel
theorem dX11_pop_39 : decode cX11_pop 39 = .ok (.pop, 1) := by decide +kernel
theorem dX11_pop_40 : decode cX11_pop 40 = .ok (.aload_n 0, 1) := by decide +kernel
theorem dX11_pop_41 : decode cX11_pop 41 = .ok (.getfield 46, 3) := by decide +kernel
theorem dX11_pop_44 : decode cX11_pop 44 = .ok (.getfield 354, 3) := by decide +kernel
theorem dX11_pop_47 : decode cX11_pop 47 = .ok (.ireturn, 1) := by decide +kernel
theorem dX11_promote_0 : decode cX11_promote 0 = .ok (.aload_n 0, 1) := by decide +kernel
theorem dX11_promote_1 : decode cX11_promote 1 = .ok (.getfield 10, 3) := by decide +kernel
theorem dX11_promote_4 : decode cX11_promote 4 = .ok (.iload_n 1, 1) := by decide +kernel
theorem dX11_promote_5 : decode cX11_promote 5 = .ok (.invokevirtual 165, 3) := by decide +kernel
theorem dX11_promote_8 : decode cX11_promote 8 = .ok (.ifCond .eq 14, 3) := by decide +kernel
theorem dX11_promote_11 : decode cX11_promote 11 = .ok (.aload_n 0, 1) := by decide +kernel
theorem dX11_promote_12 : decode cX11_promote 12 = .ok (.getfield 10, 3) := by decide +kernel
theorem dX11_promote_15 : decode cX11_promote 15 = .ok (.iload_n 2, 1) := by decide +kernel
theorem dX11_promote_16 : decode cX11_promote 16 = .ok (.invokevirtual 165, 3) := by decide +kernel
theorem dX11_promote_19 : decode cX11_promote 19 = .ok (.ifCond .ne 13, 3) := by decide +kernel
theorem dX11_promote_32 : decode cX11_promote 32 = .ok (.aload_n 0, 1) := by decide +kernel
theorem dX11_promote_33 : decode cX11_promote 33 = .ok (.getfield 10, 3) := by decide +kernel
theorem dX11_promote_36 : decode cX11_promote 36 = .ok (.invokevirtual 153, 3) := by decide +kernel
theorem dX11_promote_39 : decode cX11_promote 39 = .ok (.ifCond .eq 13, 3) := by decide +kernel
theorem dX11_promote_52 : decode cX11_promote 52 = .ok (.aload_n 0, 1) := by decide +kernel
theorem dX11_promote_53 : decode cX11_promote 53 = .ok (.getfield 10, 3) := by decide +kernel
theorem dX11_promote_56 : decode cX11_promote 56 = .ok (.iload_n 1, 1) := by decide +kernel
theorem dX11_promote_57 : decode cX11_promote 57 = .ok (.invokevirtual 174, 3) := by decide +kernel
theorem dX11_promote_60 : decode cX11_promote 60 = .ok (.istore_n 3, 1) := by decide +kernel
theorem dX11_promote_61 : decode cX11_promote 61 = .ok (.aload_n 0, 1) := by decide +kernel
theorem dX11_promote_62 : decode cX11_promote 62 = .ok (.getfield 10, 3) := by decide +kernel
theorem dX11_promote_65 : decode cX11_promote 65 = .ok (.iload_n 1, 1) := by decide +kernel
theorem dX11_promote_66 : decode cX11_promote 66 = .ok (.iload_n 2, 1) := by decide +kernel
theorem dX11_promote_67 : decode cX11_promote 67 = .ok (.invokevirtual 178, 3) := by decide +kernel
theorem dX11_promote_70 : decode cX11_promote 70 = .ok (.iload_n 3, 1) := by decide +kernel
theorem dX11_promote_71 : decode cX11_promote 71 = .ok (.ireturn, 1) := by decide +kernel
theorem dX11_push_0 : decode cX11_push 0 = .ok (.aload_n 0, 1) := by decide +kernel
theorem dX11_push_1 : decode cX11_push 1 = .ok (.getfield 46, 3) := by decide +kernel
theorem dX11_push_4 : decode cX11_push 4 = .ok (.getfield 354, 3) := by decide +kernel
theorem dX11_push_7 : decode cX11_push 7 = .ok (.bipush 8, 2) := by decide +kernel
theorem dX11_push_9 : decode cX11_push 9 = .ok (.if_icmp .lt 14, 3) := by decide +kernel
theorem dX11_push_23 : decode cX11_push 23 = .ok (.aload_n 0, 1) := by decide +kernel
theorem dX11_push_24 : decode cX11_push 24 = .ok (.getfield 46, 3) := by decide +kernel
theorem dX11_push_27 : decode cX11_push 27 = .ok (.invokevirtual 359, 3) := by decide +kernel
theorem dX11_push_30 : decode cX11_push 30 = .ok (.aload_n 0, 1) := by decide +kernel
theorem dX11_push_31 : decode cX11_push 31 = .ok (.getfield 46, 3) := by decide +kernel
theorem dX11_push_34 : decode cX11_push 34 = .ok (.getfield 354, 3) := by decide +kernel
theorem dX11_push_37 : decode cX11_push 37 = .ok (.ireturn, 1) := by decide +kernel
theorem dX11_rankOf_0 : decode cX11_rankOf 0 = .ok (.aload_n 0, 1) := by decide +kernel
theorem dX11_rankOf_1 : decode cX11_rankOf 1 = .ok (.getfield 10, 3) := by decide +kernel
theorem dX11_rankOf_4 : decode cX11_rankOf 4 = .ok (.iload_n 1, 1) := by decide +kernel
theorem dX11_rankOf_5 : decode cX11_rankOf 5 = .ok (.invokevirtual 165, 3) := by decide +kernel
theorem dX11_rankOf_8 : decode cX11_rankOf 8 = .ok (.ifCond .ne 13, 3) := by decide +kernel
theorem dX11_rankOf_21 : decode cX11_rankOf 21 = .ok (.aload_n 0, 1) := by decide +kernel
theorem dX11_rankOf_22 : decode cX11_rankOf 22 = .ok (.getfield 10, 3) := by decide +kernel
theorem dX11_rankOf_25 : decode cX11_rankOf 25 = .ok (.iload_n 1, 1) := by decide +kernel
theorem dX11_rankOf_26 : decode cX11_rankOf 26 = .ok (.invokevirtual 174, 3) := by decide +kernel
theorem dX11_rankOf_29 : decode cX11_rankOf 29 = .ok (.ireturn, 1) := by decide +kernel
theorem dX11_setDirection_0 : decode cX11_setDirection 0 = .ok (.aload_n 0, 1) := by decide +kernel
theorem dX11_setDirection_1 : decode cX11_setDirection 1 = .ok (.getfield 10, 3) := by decide +kernel
theorem dX11_setDirection_4 : decode cX11_setDirection 4 = .ok (.iload_n 1, 1) := by decide +kernel
theorem dX11_setDirection_5 : decode cX11_setDirection 5 = .ok (.invokevirtual 165, 3) := by decide +kernel
theorem dX11_setDirection_8 : decode cX11_setDirection 8 = .ok (.ifCond .ne 13, 3) := by decide +kernel
theorem dX11_setDirection_21 : decode cX11_setDirection 21 = .ok (.aload_n 0, 1) := by decide +kernel
theorem dX11_setDirection_22 : decode cX11_setDirection 22 = .ok (.getfield 10, 3) := by decide +kernel
theorem dX11_setDirection_25 : decode cX11_setDirection 25 = .ok (.invokevirtual 153, 3) := by decide +kernel
theorem dX11_setDirection_28 : decode cX11_setDirection 28 = .ok (.ifCond .eq 13, 3) := by decide +kernel
theorem dX11_setDirection_41 : decode cX11_setDirection 41 = .ok (.aload_n 0, 1) := by decide +kernel
theorem dX11_setDirection_42 : decode cX11_setDirection 42 = .ok (.getfield 10, 3) := by decide +kernel
theorem dX11_setDirection_45 : decode cX11_setDirection 45 = .ok (.iload_n 1, 1) := by decide +kernel
theorem dX11_setDirection_46 : decode cX11_setDirection 46 = .ok (.invokevirtual 184, 3) := by decide +kernel
theorem dX11_setDirection_49 : decode cX11_setDirection 49 = .ok (.istore_n 3, 1) := by decide +kernel
theorem dX11_setDirection_50 : decode cX11_setDirection 50 = .ok (.aload_n 0, 1) := by decide +kernel
theorem dX11_setDirection_51 : decode cX11_setDirection 51 = .ok (.getfield 10, 3) := by decide +kernel
theorem dX11_setDirection_54 : decode cX11_setDirection 54 = .ok (.iload_n 1, 1) := by decide +kernel
theorem dX11_setDirection_55 : decode cX11_setDirection 55 = .ok (.iload_n 2, 1) := by decide +kernel
theorem dX11_setDirection_56 : decode cX11_setDirection 56 = .ok (.invokevirtual 187, 3) := by decide +kernel
theorem dX11_setDirection_59 : decode cX11_setDirection 59 = .ok (.iload_n 3, 1) := by decide +kernel
theorem dX11_setDirection_60 : decode cX11_setDirection 60 = .ok (.ireturn, 1) := by decide +kernel
theorem dX11_size_0 : decode cX11_size 0 = .ok (.aload_n 0, 1) := by decide +kernel
theorem dX11_size_1 : decode cX11_size 1 = .ok (.iload_n 1, 1) := by decide +kernel
theorem dX11_size_2 : decode cX11_size 2 = .ok (.invokevirtual 194, 3) := by decide +kernel
theorem dX11_size_5 : decode cX11_size 5 = .ok (.ifCond .ne 13, 3) := by decide +kernel
theorem dX11_size_18 : decode cX11_size 18 = .ok (.aload_n 0, 1) := by decide +kernel
theorem dX11_size_19 : decode cX11_size 19 = .ok (.getfield 21, 3) := by decide +kernel
theorem dX11_size_22 : decode cX11_size 22 = .ok (.aload_n 0, 1) := by decide +kernel
theorem dX11_size_23 : decode cX11_size 23 = .ok (.getfield 90, 3) := by decide +kernel
theorem dX11_size_26 : decode cX11_size 26 = .ok (.iload_n 1, 1) := by decide +kernel
theorem dX11_size_27 : decode cX11_size 27 = .ok (.invokevirtual 202, 3) := by decide +kernel
theorem dX11_size_30 : decode cX11_size 30 = .ok (.invokevirtual 247, 3) := by decide +kernel
theorem dX11_size_33 : decode cX11_size 33 = .ok (.ireturn, 1) := by decide +kernel
theorem dX11_stepCount_0 : decode cX11_stepCount 0 = .ok (.aload_n 0, 1) := by decide +kernel
theorem dX11_stepCount_1 : decode cX11_stepCount 1 = .ok (.iload_n 1, 1) := by decide +kernel
theorem dX11_stepCount_2 : decode cX11_stepCount 2 = .ok (.invokevirtual 194, 3) := by decide +kernel
theorem dX11_stepCount_5 : decode cX11_stepCount 5 = .ok (.ifCond .ne 13, 3) := by decide +kernel
theorem dX11_stepCount_18 : decode cX11_stepCount 18 = .ok (.aload_n 0, 1) := by decide +kernel
theorem dX11_stepCount_19 : decode cX11_stepCount 19 = .ok (.invokevirtual 199, 3) := by decide +kernel
theorem dX11_stepCount_22 : decode cX11_stepCount 22 = .ok (.aload_n 0, 1) := by decide +kernel
theorem dX11_stepCount_23 : decode cX11_stepCount 23 = .ok (.getfield 46, 3) := by decide +kernel
theorem dX11_stepCount_26 : decode cX11_stepCount 26 = .ok (.aload_n 0, 1) := by decide +kernel
theorem dX11_stepCount_27 : decode cX11_stepCount 27 = .ok (.getfield 90, 3) := by decide +kernel
theorem dX11_stepCount_30 : decode cX11_stepCount 30 = .ok (.iload_n 1, 1) := by decide +kernel
theorem dX11_stepCount_31 : decode cX11_stepCount 31 = .ok (.invokevirtual 202, 3) := by decide +kernel
theorem dX11_stepCount_34 : decode cX11_stepCount 34 = .ok (.invokevirtual 393, 3) := by decide +kernel
theorem dX11_stepCount_37 : decode cX11_stepCount 37 = .ok (.ireturn, 1) := by decide +kernel
theorem dX11_term_0 : decode cX11_term 0 = .ok (.aload_n 0, 1) := by decide +kernel
theorem dX11_term_1 : decode cX11_term 1 = .ok (.getfield 10, 3) := by decide +kernel
theorem dX11_term_4 : decode cX11_term 4 = .ok (.iload_n 1, 1) := by decide +kernel
theorem dX11_term_5 : decode cX11_term 5 = .ok (.invokevirtual 191, 3) := by decide +kernel
theorem dX11_term_8 : decode cX11_term 8 = .ok (.istore 5, 2) := by decide +kernel
theorem dX11_term_10 : decode cX11_term 10 = .ok (.aload_n 0, 1) := by decide +kernel
theorem dX11_term_11 : decode cX11_term 11 = .ok (.getfield 10, 3) := by decide +kernel
theorem dX11_term_14 : decode cX11_term 14 = .ok (.iload_n 1, 1) := by decide +kernel
theorem dX11_term_15 : decode cX11_term 15 = .ok (.invokevirtual 165, 3) := by decide +kernel
theorem dX11_term_18 : decode cX11_term 18 = .ok (.ifCond .eq 45, 3) := by decide +kernel
theorem dX11_term_21 : decode cX11_term 21 = .ok (.iload 5, 2) := by decide +kernel
theorem dX11_term_23 : decode cX11_term 23 = .ok (.ifCond .le 11, 3) := by decide +kernel
theorem dX11_term_26 : decode cX11_term 26 = .ok (.aload_n 0, 1) := by decide +kernel
theorem dX11_term_27 : decode cX11_term 27 = .ok (.iload_n 2, 1) := by decide +kernel
theorem dX11_term_28 : decode cX11_term 28 = .ok (.invokevirtual 194, 3) := by decide +kernel
theorem dX11_term_31 : decode cX11_term 31 = .ok (.ifCond .eq 32, 3) := by decide +kernel
theorem dX11_term_34 : decode cX11_term 34 = .ok (.iload 5, 2) := by decide +kernel
theorem dX11_term_36 : decode cX11_term 36 = .ok (.iconst 1, 1) := by decide +kernel
theorem dX11_term_37 : decode cX11_term 37 = .ok (.if_icmp .le 11, 3) := by decide +kernel
theorem dX11_term_40 : decode cX11_term 40 = .ok (.aload_n 0, 1) := by decide +kernel
theorem dX11_term_41 : decode cX11_term 41 = .ok (.iload_n 3, 1) := by decide +kernel
theorem dX11_term_42 : decode cX11_term 42 = .ok (.invokevirtual 194, 3) := by decide +kernel
theorem dX11_term_45 : decode cX11_term 45 = .ok (.ifCond .eq 18, 3) := by decide +kernel
theorem dX11_term_48 : decode cX11_term 48 = .ok (.iload 5, 2) := by decide +kernel
theorem dX11_term_50 : decode cX11_term 50 = .ok (.iconst 2, 1) := by decide +kernel
theorem dX11_term_51 : decode cX11_term 51 = .ok (.if_icmp .le 22, 3) := by decide +kernel
theorem dX11_term_54 : decode cX11_term 54 = .ok (.aload_n 0, 1) := by decide +kernel
theorem dX11_term_55 : decode cX11_term 55 = .ok (.iload 4, 2) := by decide +kernel
theorem dX11_term_57 : decode cX11_term 57 = .ok (.invokevirtual 194, 3) := by decide +kernel
theorem dX11_term_60 : decode cX11_term 60 = .ok (.ifCond .ne 13, 3) := by decide +kernel
theorem dX11_term_73 : decode cX11_term 73 = .ok (.aload_n 0, 1) := by decide +kernel
theorem dX11_term_74 : decode cX11_term 74 = .ok (.invokevirtual 199, 3) := by decide +kernel
theorem dX11_term_77 : decode cX11_term 77 = .ok (.aload_n 0, 1) := by decide +kernel
theorem dX11_term_78 : decode cX11_term 78 = .ok (.getfield 21, 3) := by decide +kernel
theorem dX11_term_81 : decode cX11_term 81 = .ok (.iload_n 1, 1) := by decide +kernel
theorem dX11_term_82 : decode cX11_term 82 = .ok (.iload 5, 2) := by decide +kernel
theorem dX11_term_84 : decode cX11_term 84 = .ok (.ifCond .le 14, 3) := by decide +kernel
theorem dX11_term_87 : decode cX11_term 87 = .ok (.aload_n 0, 1) := by decide +kernel
theorem dX11_term_88 : decode cX11_term 88 = .ok (.getfield 90, 3) := by decide +kernel
theorem dX11_term_91 : decode cX11_term 91 = .ok (.iload_n 2, 1) := by decide +kernel
theorem dX11_term_92 : decode cX11_term 92 = .ok (.invokevirtual 202, 3) := by decide +kernel
theorem dX11_term_95 : decode cX11_term 95 = .ok (.goto 4, 3) := by decide +kernel
theorem dX11_term_98 : decode cX11_term 98 = .ok (.iconst (-1), 1) := by decide +kernel
theorem dX11_term_99 : decode cX11_term 99 = .ok (.iload 5, 2) := by decide +kernel
theorem dX11_term_101 : decode cX11_term 101 = .ok (.iconst 1, 1) := by decide +kernel
theorem dX11_term_102 : decode cX11_term 102 = .ok (.if_icmp .le 14, 3) := by decide +kernel
theorem dX11_term_105 : decode cX11_term 105 = .ok (.aload_n 0, 1) := by decide +kernel
theorem dX11_term_106 : decode cX11_term 106 = .ok (.getfield 90, 3) := by decide +kernel
theorem dX11_term_109 : decode cX11_term 109 = .ok (.iload_n 3, 1) := by decide +kernel
theorem dX11_term_110 : decode cX11_term 110 = .ok (.invokevirtual 202, 3) := by decide +kernel
theorem dX11_term_113 : decode cX11_term 113 = .ok (.goto 4, 3) := by decide +kernel
theorem dX11_term_116 : decode cX11_term 116 = .ok (.iconst (-1), 1) := by decide +kernel
theorem dX11_term_117 : decode cX11_term 117 = .ok (.iload 5, 2) := by decide +kernel
theorem dX11_term_119 : decode cX11_term 119 = .ok (.iconst 2, 1) := by decide +kernel
theorem dX11_term_120 : decode cX11_term 120 = .ok (.if_icmp .le 15, 3) := by decide +kernel
theorem dX11_term_123 : decode cX11_term 123 = .ok (.aload_n 0, 1) := by decide +kernel
theorem dX11_term_124 : decode cX11_term 124 = .ok (.getfield 90, 3) := by decide +kernel
theorem dX11_term_127 : decode cX11_term 127 = .ok (.iload 4, 2) := by decide +kernel
theorem dX11_term_129 : decode cX11_term 129 = .ok (.invokevirtual 202, 3) := by decide +kernel
theorem dX11_term_132 : decode cX11_term 132 = .ok (.goto 4, 3) := by decide +kernel
theorem dX11_term_135 : decode cX11_term 135 = .ok (.iconst (-1), 1) := by decide +kernel
theorem dX11_term_136 : decode cX11_term 136 = .ok (.invokevirtual 205, 3) := by decide +kernel
theorem dX11_term_139 : decode cX11_term 139 = .ok (.istore 6, 2) := by decide +kernel
theorem dX11_term_141 : decode cX11_term 141 = .ok (.aload_n 0, 1) := by decide +kernel
theorem dX11_term_142 : decode cX11_term 142 = .ok (.getfield 21, 3) := by decide +kernel
theorem dX11_term_145 : decode cX11_term 145 = .ok (.iload 6, 2) := by decide +kernel
theorem dX11_term_147 : decode cX11_term 147 = .ok (.invokevirtual 209, 3) := by decide +kernel
theorem dX11_term_150 : decode cX11_term 150 = .ok (.ifCond .eq 13, 3) := by decide +kernel
theorem dX11_term_163 : decode cX11_term 163 = .ok (.aload_n 0, 1) := by decide +kernel
theorem dX11_term_164 : decode cX11_term 164 = .ok (.iload 6, 2) := by decide +kernel
theorem dX11_term_166 : decode cX11_term 166 = .ok (.invokevirtual 217, 3) := by decide +kernel
theorem dX11_term_169 : decode cX11_term 169 = .ok (.ireturn, 1) := by decide +kernel
theorem dX11_tidy_0 : decode cX11_tidy 0 = .ok (.aload_n 0, 1) := by decide +kernel
theorem dX11_tidy_1 : decode cX11_tidy 1 = .ok (.getfield 21, 3) := by decide +kernel
theorem dX11_tidy_4 : decode cX11_tidy 4 = .ok (.invokevirtual 454, 3) := by decide +kernel
theorem dX11_tidy_7 : decode cX11_tidy 7 = .ok (.ifCond .ne 4, 3) := by decide +kernel
theorem dX11_tidy_10 : decode cX11_tidy 10 = .ok (.return_, 1) := by decide +kernel
theorem dX11_trim_0 : decode cX11_trim 0 = .ok (.iload_n 1, 1) := by decide +kernel
theorem dX11_trim_1 : decode cX11_trim 1 = .ok (.ifCond .lt 14, 3) := by decide +kernel
theorem dX11_trim_4 : decode cX11_trim 4 = .ok (.iload_n 1, 1) := by decide +kernel
theorem dX11_trim_5 : decode cX11_trim 5 = .ok (.aload_n 0, 1) := by decide +kernel
theorem dX11_trim_6 : decode cX11_trim 6 = .ok (.getfield 55, 3) := by decide +kernel
theorem dX11_trim_9 : decode cX11_trim 9 = .ok (.invokevirtual 94, 3) := by decide +kernel
theorem dX11_trim_12 : decode cX11_trim 12 = .ok (.if_icmp .le 13, 3) := by decide +kernel
theorem dX11_trim_25 : decode cX11_trim 25 = .ok (.aload_n 0, 1) := by decide +kernel
theorem dX11_trim_26 : decode cX11_trim 26 = .ok (.getfield 55, 3) := by decide +kernel
theorem dX11_trim_29 : decode cX11_trim 29 = .ok (.iload_n 1, 1) := by decide +kernel
theorem dX11_trim_30 : decode cX11_trim 30 = .ok (.invokevirtual 113, 3) := by decide +kernel
theorem dX11_trim_33 : decode cX11_trim 33 = .ok (.iload_n 1, 1) := by decide +kernel
theorem dX11_trim_34 : decode cX11_trim 34 = .ok (.ireturn, 1) := by decide +kernel
theorem dX1_areTwins_0 : decode cX1_areTwins 0 = .ok (.aload_n 0, 1) := by decide +kernel
theorem dX1_areTwins_1 : decode cX1_areTwins 1 = .ok (.getfield 30, 3) := by decide +kernel
theorem dX1_areTwins_4 : decode cX1_areTwins 4 = .ok (.iload_n 1, 1) := by decide +kernel
theorem dX1_areTwins_5 : decode cX1_areTwins 5 = .ok (.invokevirtual 78, 3) := by decide +kernel
theorem dX1_areTwins_8 : decode cX1_areTwins 8 = .ok (.aload_n 0, 1) := by decide +kernel
theorem dX1_areTwins_9 : decode cX1_areTwins 9 = .ok (.getfield 30, 3) := by decide +kernel
theorem dX1_areTwins_12 : decode cX1_areTwins 12 = .ok (.iload_n 2, 1) := by decide +kernel
theorem dX1_areTwins_13 : decode cX1_areTwins 13 = .ok (.invokevirtual 78, 3) := by decide +kernel
theorem dX1_areTwins_16 : decode cX1_areTwins 16 = .ok (.if_icmp .ne 7, 3) := by decide +kernel
theorem dX1_areTwins_19 : decode cX1_areTwins 19 = .ok (.iconst 1, 1) := by decide +kernel
theorem dX1_areTwins_20 : decode cX1_areTwins 20 = .ok (.goto 4, 3) := by decide +kernel
theorem dX1_areTwins_23 : decode cX1_areTwins 23 = .ok (.iconst 0, 1) := by decide +kernel
theorem dX1_areTwins_24 : decode cX1_areTwins 24 = .ok (.istore_n 3, 1) := by decide +kernel
theorem dX1_areTwins_25 : decode cX1_areTwins 25 = .ok (.iconst 0, 1) := by decide +kernel
theorem dX1_areTwins_26 : decode cX1_areTwins 26 = .ok (.istore 4, 2) := by decide +kernel
theorem dX1_areTwins_28 : decode cX1_areTwins 28 = .ok (.iload 4, 2) := by decide +kernel
theorem dX1_areTwins_30 : decode cX1_areTwins 30 = .ok (.iconst 3, 1) := by decide +kernel
theorem dX1_areTwins_31 : decode cX1_areTwins 31 = .ok (.if_icmp .ge 62, 3) := by decide +kernel
theorem dX1_areTwins_34 : decode cX1_areTwins 34 = .ok (.iload_n 3, 1) := by decide +kernel
theorem dX1_areTwins_35 : decode cX1_areTwins 35 = .ok (.ifCond .eq 58, 3) := by decide +kernel
theorem dX1_areTwins_38 : decode cX1_areTwins 38 = .ok (.aload_n 0, 1) := by decide +kernel
theorem dX1_areTwins_39 : decode cX1_areTwins 39 = .ok (.getfield 15, 3) := by decide +kernel
theorem dX1_areTwins_42 : decode cX1_areTwins 42 = .ok (.aload_n 0, 1) := by decide +kernel
theorem dX1_areTwins_43 : decode cX1_areTwins 43 = .ok (.getfield 34, 3) := by decide +kernel
theorem dX1_areTwins_46 : decode cX1_areTwins 46 = .ok (.iconst 3, 1) := by decide +kernel
theorem dX1_areTwins_47 : decode cX1_areTwins 47 = .ok (.iload_n 1, 1) := by decide +kernel
theorem dX1_areTwins_48 : decode cX1_areTwins 48 = .ok (.imul, 1) := by decide +kernel
theorem dX1_areTwins_49 : decode cX1_areTwins 49 = .ok (.iload 4, 2) := by decide +kernel
theorem dX1_areTwins_51 : decode cX1_areTwins 51 = .ok (.iadd, 1) := by decide +kernel
theorem dX1_areTwins_52 : decode cX1_areTwins 52 = .ok (.invokevirtual 78, 3) := by decide +kernel
theorem dX1_areTwins_55 : decode cX1_areTwins 55 = .ok (.invokevirtual 78, 3) := by decide +kernel
theorem dX1_areTwins_58 : decode cX1_areTwins 58 = .ok (.aload_n 0, 1) := by decide +kernel
theorem dX1_areTwins_59 : decode cX1_areTwins 59 = .ok (.getfield 15, 3) := by decide +kernel
theorem dX1_areTwins_62 : decode cX1_areTwins 62 = .ok (.aload_n 0, 1) := by decide +kernel
theorem dX1_areTwins_63 : decode cX1_areTwins 63 = .ok (.getfield 34, 3) := by decide +kernel
theorem dX1_areTwins_66 : decode cX1_areTwins 66 = .ok (.iconst 3, 1) := by decide +kernel
theorem dX1_areTwins_67 : decode cX1_areTwins 67 = .ok (.iload_n 2, 1) := by decide +kernel
theorem dX1_areTwins_68 : decode cX1_areTwins 68 = .ok (.imul, 1) := by decide +kernel
theorem dX1_areTwins_69 : decode cX1_areTwins 69 = .ok (.iload 4, 2) := by decide +kernel
theorem dX1_areTwins_71 : decode cX1_areTwins 71 = .ok (.iadd, 1) := by decide +kernel
theorem dX1_areTwins_72 : decode cX1_areTwins 72 = .ok (.invokevirtual 78, 3) := by decide +kernel
theorem dX1_areTwins_75 : decode cX1_areTwins 75 = .ok (.invokevirtual 78, 3) := by decide +kernel
theorem dX1_areTwins_78 : decode cX1_areTwins 78 = .ok (.if_icmp .ne 7, 3) := by decide +kernel
theorem dX1_areTwins_81 : decode cX1_areTwins 81 = .ok (.iconst 1, 1) := by decide +kernel
theorem dX1_areTwins_82 : decode cX1_areTwins 82 = .ok (.goto 4, 3) := by decide +kernel
theorem dX1_areTwins_85 : decode cX1_areTwins 85 = .ok (.iconst 0, 1) := by decide +kernel
theorem dX1_areTwins_86 : decode cX1_areTwins 86 = .ok (.istore_n 3, 1) := by decide +kernel
theorem dX1_areTwins_87 : decode cX1_areTwins 87 = .ok (.iinc 4 1, 3) := by decide +kernel
theorem dX1_areTwins_90 : decode cX1_areTwins 90 = .ok (.goto (-62), 3) := by decide +kernel
theorem dX1_areTwins_93 : decode cX1_areTwins 93 = .ok (.iload_n 3, 1) := by decide +kernel
theorem dX1_areTwins_94 : decode cX1_areTwins 94 = .ok (.ireturn, 1) := by decide +kernel
theorem dX1_bucketOf_0 : decode cX1_bucketOf 0 = .ok (.aload_n 0, 1) := by decide +kernel
theorem dX1_bucketOf_1 : decode cX1_bucketOf 1 = .ok (.getfield 30, 3) := by decide +kernel
theorem dX1_bucketOf_4 : decode cX1_bucketOf 4 = .ok (.iload_n 1, 1) := by decide +kernel
theorem dX1_bucketOf_5 : decode cX1_bucketOf 5 = .ok (.invokevirtual 78, 3) := by decide +kernel
theorem dX1_bucketOf_8 : decode cX1_bucketOf 8 = .ok (.istore_n 2, 1) := by decide +kernel
theorem dX1_bucketOf_9 : decode cX1_bucketOf 9 = .ok (.iconst 0, 1) := by decide +kernel
theorem dX1_bucketOf_10 : decode cX1_bucketOf 10 = .ok (.istore_n 3, 1) := by decide +kernel
theorem dX1_bucketOf_11 : decode cX1_bucketOf 11 = .ok (.iload_n 3, 1) := by decide +kernel
theorem dX1_bucketOf_12 : decode cX1_bucketOf 12 = .ok (.iconst 3, 1) := by decide +kernel
theorem dX1_bucketOf_13 : decode cX1_bucketOf 13 = .ok (.if_icmp .ge 35, 3) := by decide +kernel
theorem dX1_bucketOf_16 : decode cX1_bucketOf 16 = .ok (.iload_n 2, 1) := by decide +kernel
theorem dX1_bucketOf_17 : decode cX1_bucketOf 17 = .ok (.sipush 8191, 3) := by decide +kernel
theorem dX1_bucketOf_20 : decode cX1_bucketOf 20 = .ok (.imul, 1) := by decide +kernel
theorem dX1_bucketOf_21 : decode cX1_bucketOf 21 = .ok (.aload_n 0, 1) := by decide +kernel
theorem dX1_bucketOf_22 : decode cX1_bucketOf 22 = .ok (.getfield 15, 3) := by decide +kernel
theorem dX1_bucketOf_25 : decode cX1_bucketOf 25 = .ok (.aload_n 0, 1) := by decide +kernel
theorem dX1_bucketOf_26 : decode cX1_bucketOf 26 = .ok (.getfield 34, 3) := by decide +kernel
theorem dX1_bucketOf_29 : decode cX1_bucketOf 29 = .ok (.iconst 3, 1) := by decide +kernel
theorem dX1_bucketOf_30 : decode cX1_bucketOf 30 = .ok (.iload_n 1, 1) := by decide +kernel
theorem dX1_bucketOf_31 : decode cX1_bucketOf 31 = .ok (.imul, 1) := by decide +kernel
theorem dX1_bucketOf_32 : decode cX1_bucketOf 32 = .ok (.iload_n 3, 1) := by decide +kernel
theorem dX1_bucketOf_33 : decode cX1_bucketOf 33 = .ok (.iadd, 1) := by decide +kernel
theorem dX1_bucketOf_34 : decode cX1_bucketOf 34 = .ok (.invokevirtual 78, 3) := by decide +kernel
theorem dX1_bucketOf_37 : decode cX1_bucketOf 37 = .ok (.invokevirtual 78, 3) := by decide +kernel
theorem dX1_bucketOf_40 : decode cX1_bucketOf 40 = .ok (.iadd, 1) := by decide +kernel
theorem dX1_bucketOf_41 : decode cX1_bucketOf 41 = .ok (.istore_n 2, 1) := by decide +kernel
theorem dX1_bucketOf_42 : decode cX1_bucketOf 42 = .ok (.iinc 3 1, 3) := by decide +kernel
theorem dX1_bucketOf_45 : decode cX1_bucketOf 45 = .ok (.goto (-34), 3) := by decide +kernel
theorem dX1_bucketOf_48 : decode cX1_bucketOf 48 = .ok (.iload_n 2, 1) := by decide +kernel
theorem dX1_bucketOf_49 : decode cX1_bucketOf 49 = .ok (.ldc 95, 2) := by decide +kernel
theorem dX1_bucketOf_51 : decode cX1_bucketOf 51 = .ok (.imul, 1) := by decide +kernel
theorem dX1_bucketOf_52 : decode cX1_bucketOf 52 = .ok (.istore_n 2, 1) := by decide +kernel
theorem dX1_bucketOf_53 : decode cX1_bucketOf 53 = .ok (.iload_n 2, 1) := by decide +kernel
theorem dX1_bucketOf_54 : decode cX1_bucketOf 54 = .ok (.iload_n 2, 1) := by decide +kernel
theorem dX1_bucketOf_55 : decode cX1_bucketOf 55 = .ok (.bipush 15, 2) := by decide +kernel
theorem dX1_bucketOf_57 : decode cX1_bucketOf 57 = .ok (.iushr, 1) := by decide +kernel
theorem dX1_bucketOf_58 : decode cX1_bucketOf 58 = .ok (.ixor, 1) := by decide +kernel
theorem dX1_bucketOf_59 : decode cX1_bucketOf 59 = .ok (.istore_n 2, 1) := by decide +kernel
theorem dX1_bucketOf_60 : decode cX1_bucketOf 60 = .ok (.iload_n 2, 1) := by decide +kernel
theorem dX1_bucketOf_61 : decode cX1_bucketOf 61 = .ok (.aload_n 0, 1) := by decide +kernel
theorem dX1_bucketOf_62 : decode cX1_bucketOf 62 = .ok (.getfield 51, 3) := by decide +kernel
theorem dX1_bucketOf_65 : decode cX1_bucketOf 65 = .ok (.iconst 1, 1) := by decide +kernel
theorem dX1_bucketOf_66 : decode cX1_bucketOf 66 = .ok (.isub, 1) := by decide +kernel
theorem dX1_bucketOf_67 : decode cX1_bucketOf 67 = .ok (.iand, 1) := by decide +kernel
theorem dX1_bucketOf_68 : decode cX1_bucketOf 68 = .ok (.ireturn, 1) := by decide +kernel
theorem dX1_close_0 : decode cX1_close 0 = .ok (.iconst 0, 1) := by decide +kernel
theorem dX1_close_1 : decode cX1_close 1 = .ok (.istore_n 1, 1) := by decide +kernel
theorem dX1_close_2 : decode cX1_close 2 = .ok (.iload_n 1, 1) := by decide +kernel
theorem dX1_close_3 : decode cX1_close 3 = .ok (.aload_n 0, 1) := by decide +kernel
theorem dX1_close_4 : decode cX1_close 4 = .ok (.getfield 47, 3) := by decide +kernel
theorem dX1_close_7 : decode cX1_close 7 = .ok (.invokevirtual 55, 3) := by decide +kernel
theorem dX1_close_10 : decode cX1_close 10 = .ok (.if_icmp .gt 17, 3) := by decide +kernel
theorem dX1_close_13 : decode cX1_close 13 = .ok (.aload_n 0, 1) := by decide +kernel
theorem dX1_close_14 : decode cX1_close 14 = .ok (.invokevirtual 81, 3) := by decide +kernel
theorem dX1_close_17 : decode cX1_close 17 = .ok (.ifCond .ne 4, 3) := by decide +kernel
theorem dX1_close_20 : decode cX1_close 20 = .ok (.return_, 1) := by decide +kernel
theorem dX1_close_21 : decode cX1_close 21 = .ok (.iinc 1 1, 3) := by decide +kernel
theorem dX1_close_24 : decode cX1_close 24 = .ok (.goto (-22), 3) := by decide +kernel
theorem dX1_close_27 : decode cX1_close 27 = .ok (.return_, 1) := by decide +kernel
theorem dX1_init_0 : decode cX1_init 0 = .ok (.aload_n 0, 1) := by decide +kernel
theorem dX1_init_1 : decode cX1_init 1 = .ok (.invokespecial 3, 3) := by decide +kernel
theorem dX1_init_4 : decode cX1_init 4 = .ok (.aload_n 0, 1) := by decide +kernel
theorem dX1_init_5 : decode cX1_init 5 = .ok (.new 9, 3) := by decide +kernel
theorem dX1_init_8 : decode cX1_init 8 = .ok (.dup, 1) := by decide +kernel
theorem dX1_init_9 : decode cX1_init 9 = .ok (.ldc 11, 2) := by decide +kernel
theorem dX1_init_11 : decode cX1_init 11 = .ok (.invokespecial 12, 3) := by decide +kernel
theorem dX1_init_14 : decode cX1_init 14 = .ok (.putfield 15, 3) := by decide +kernel
theorem dX1_init_17 : decode cX1_init 17 = .ok (.aload_n 0, 1) := by decide +kernel
theorem dX1_init_18 : decode cX1_init 18 = .ok (.new 9, 3) := by decide +kernel
theorem dX1_init_21 : decode cX1_init 21 = .ok (.dup, 1) := by decide +kernel
theorem dX1_init_22 : decode cX1_init 22 = .ok (.ldc 11, 2) := by decide +kernel
theorem dX1_init_24 : decode cX1_init 24 = .ok (.invokespecial 12, 3) := by decide +kernel
theorem dX1_init_27 : decode cX1_init 27 = .ok (.putfield 21, 3) := by decide +kernel
theorem dX1_init_30 : decode cX1_init 30 = .ok (.aload_n 0, 1) := by decide +kernel
theorem dX1_init_31 : decode cX1_init 31 = .ok (.new 9, 3) := by decide +kernel
theorem dX1_init_34 : decode cX1_init 34 = .ok (.dup, 1) := by decide +kernel
theorem dX1_init_35 : decode cX1_init 35 = .ok (.ldc 11, 2) := by decide +kernel
theorem dX1_init_37 : decode cX1_init 37 = .ok (.invokespecial 12, 3) := by decide +kernel
theorem dX1_init_40 : decode cX1_init 40 = .ok (.putfield 24, 3) := by decide +kernel
theorem dX1_init_43 : decode cX1_init 43 = .ok (.aload_n 0, 1) := by decide +kernel
theorem dX1_init_44 : decode cX1_init 44 = .ok (.new 9, 3) := by decide +kernel
theorem dX1_init_47 : decode cX1_init 47 = .ok (.dup, 1) := by decide +kernel
theorem dX1_init_48 : decode cX1_init 48 = .ok (.ldc 11, 2) := by decide +kernel
theorem dX1_init_50 : decode cX1_init 50 = .ok (.invokespecial 12, 3) := by decide +kernel
theorem dX1_init_53 : decode cX1_init 53 = .ok (.putfield 27, 3) := by decide +kernel
theorem dX1_init_56 : decode cX1_init 56 = .ok (.aload_n 0, 1) := by decide +kernel
theorem dX1_init_57 : decode cX1_init 57 = .ok (.new 9, 3) := by decide +kernel
theorem dX1_init_60 : decode cX1_init 60 = .ok (.dup, 1) := by decide +kernel
theorem dX1_init_61 : decode cX1_init 61 = .ok (.ldc 11, 2) := by decide +kernel
theorem dX1_init_63 : decode cX1_init 63 = .ok (.invokespecial 12, 3) := by decide +kernel
theorem dX1_init_66 : decode cX1_init 66 = .ok (.putfield 30, 3) := by decide +kernel
theorem dX1_init_69 : decode cX1_init 69 = .ok (.aload_n 0, 1) := by decide +kernel
theorem dX1_init_70 : decode cX1_init 70 = .ok (.new 9, 3) := by decide +kernel
theorem dX1_init_73 : decode cX1_init 73 = .ok (.dup, 1) := by decide +kernel
theorem dX1_init_74 : decode cX1_init 74 = .ok (.ldc 33, 2) := by decide +kernel
theorem dX1_init_76 : decode cX1_init 76 = .ok (.invokespecial 12, 3) := by decide +kernel
theorem dX1_init_79 : decode cX1_init 79 = .ok (.putfield 34, 3) := by decide +kernel
theorem dX1_init_82 : decode cX1_init 82 = .ok (.aload_n 0, 1) := by decide +kernel
theorem dX1_init_83 : decode cX1_init 83 = .ok (.new 9, 3) := by decide +kernel
theorem dX1_init_86 : decode cX1_init 86 = .ok (.dup, 1) := by decide +kernel
theorem dX1_init_87 : decode cX1_init 87 = .ok (.sipush 16384, 3) := by decide +kernel
theorem dX1_init_90 : decode cX1_init 90 = .ok (.invokespecial 12, 3) := by decide +kernel
theorem dX1_init_93 : decode cX1_init 93 = .ok (.putfield 37, 3) := by decide +kernel
theorem dX1_init_96 : decode cX1_init 96 = .ok (.aload_n 0, 1) := by decide +kernel
theorem dX1_init_97 : decode cX1_init 97 = .ok (.new 9, 3) := by decide +kernel
theorem dX1_init_100 : decode cX1_init 100 = .ok (.dup, 1) := by decide +kernel
theorem dX1_init_101 : decode cX1_init 101 = .ok (.ldc 11, 2) := by decide +kernel
theorem dX1_init_103 : decode cX1_init 103 = .ok (.invokespecial 12, 3) := by decide +kernel
theorem dX1_init_106 : decode cX1_init 106 = .ok (.putfield 40, 3) := by decide +kernel
theorem dX1_init_109 : decode cX1_init 109 = .ok (.aload_n 0, 1) := by decide +kernel
theorem dX1_init_110 : decode cX1_init 110 = .ok (.aload_n 1, 1) := by decide +kernel
theorem dX1_init_111 : decode cX1_init 111 = .ok (.putfield 43, 3) := by decide +kernel
theorem dX1_init_114 : decode cX1_init 114 = .ok (.aload_n 0, 1) := by decide +kernel
theorem dX1_init_115 : decode cX1_init 115 = .ok (.aload_n 2, 1) := by decide +kernel
theorem dX1_init_116 : decode cX1_init 116 = .ok (.putfield 47, 3) := by decide +kernel
theorem dX1_init_119 : decode cX1_init 119 = .ok (.return_, 1) := by decide +kernel
theorem dX1_join_0 : decode cX1_join 0 = .ok (.aload_n 0, 1) := by decide +kernel
theorem dX1_join_1 : decode cX1_join 1 = .ok (.getfield 15, 3) := by decide +kernel
theorem dX1_join_4 : decode cX1_join 4 = .ok (.iload_n 1, 1) := by decide +kernel
theorem dX1_join_5 : decode cX1_join 5 = .ok (.invokevirtual 78, 3) := by decide +kernel
theorem dX1_join_8 : decode cX1_join 8 = .ok (.istore_n 3, 1) := by decide +kernel
theorem dX1_join_9 : decode cX1_join 9 = .ok (.aload_n 0, 1) := by decide +kernel
