theorem dX9_normalize_114 : decode cX9_normalize 114 = .ok (.isub, 1) := by decide +kernel
theorem dX9_normalize_115 : decode cX9_normalize 115 = .ok (.invokevirtual 214, 3) := by decide +kernel
theorem dX9_normalize_118 : decode cX9_normalize 118 = .ok (.ireturn, 1) := by decide +kernel
theorem dX9_openLevel_0 : decode cX9_openLevel 0 = .ok (.aload_n 0, 1) := by decide +kernel
theorem dX9_openLevel_1 : decode cX9_openLevel 1 = .ok (.getfield 85, 3) := by decide +kernel
theorem dX9_openLevel_4 : decode cX9_openLevel 4 = .ok (.ifCond .lt 48, 3) := by decide +kernel
theorem dX9_openLevel_7 : decode cX9_openLevel 7 = .ok (.aload_n 0, 1) := by decide +kernel
theorem dX9_openLevel_8 : decode cX9_openLevel 8 = .ok (.getfield 85, 3) := by decide +kernel
theorem dX9_openLevel_11 : decode cX9_openLevel 11 = .ok (.bipush 8, 2) := by decide +kernel
theorem dX9_openLevel_13 : decode cX9_openLevel 13 = .ok (.if_icmp .ge 39, 3) := by decide +kernel
theorem dX9_openLevel_16 : decode cX9_openLevel 16 = .ok (.aload_n 0, 1) := by decide +kernel
theorem dX9_openLevel_17 : decode cX9_openLevel 17 = .ok (.getfield 24, 3) := by decide +kernel
theorem dX9_openLevel_20 : decode cX9_openLevel 20 = .ok (.aload_n 0, 1) := by decide +kernel
theorem dX9_openLevel_21 : decode cX9_openLevel 21 = .ok (.getfield 85, 3) := by decide +kernel
theorem dX9_openLevel_24 : decode cX9_openLevel 24 = .ok (.aload_n 0, 1) := by decide +kernel
theorem dX9_openLevel_25 : decode cX9_openLevel 25 = .ok (.getfield 71, 3) := by decide +kernel
theorem dX9_openLevel_28 : decode cX9_openLevel 28 = .ok (.iastore, 1) := by decide +kernel
theorem dX9_openLevel_29 : decode cX9_openLevel 29 = .ok (.aload_n 0, 1) := by decide +kernel
theorem dX9_openLevel_30 : decode cX9_openLevel 30 = .ok (.getfield 27, 3) := by decide +kernel
theorem dX9_openLevel_33 : decode cX9_openLevel 33 = .ok (.aload_n 0, 1) := by decide +kernel
theorem dX9_openLevel_34 : decode cX9_openLevel 34 = .ok (.getfield 85, 3) := by decide +kernel
theorem dX9_openLevel_37 : decode cX9_openLevel 37 = .ok (.aload_n 0, 1) := by decide +kernel
theorem dX9_openLevel_38 : decode cX9_openLevel 38 = .ok (.getfield 75, 3) := by decide +kernel
theorem dX9_openLevel_41 : decode cX9_openLevel 41 = .ok (.iastore, 1) := by decide +kernel
theorem dX9_openLevel_42 : decode cX9_openLevel 42 = .ok (.aload_n 0, 1) := by decide +kernel
theorem dX9_openLevel_43 : decode cX9_openLevel 43 = .ok (.dup, 1) := by decide +kernel
theorem dX9_openLevel_44 : decode cX9_openLevel 44 = .ok (.getfield 85, 3) := by decide +kernel
theorem dX9_openLevel_47 : decode cX9_openLevel 47 = .ok (.iconst 1, 1) := by decide +kernel
theorem dX9_openLevel_48 : decode cX9_openLevel 48 = .ok (.iadd, 1) := by decide +kernel
theorem dX9_openLevel_49 : decode cX9_openLevel 49 = .ok (.putfield 85, 3) := by decide +kernel
theorem dX9_openLevel_52 : decode cX9_openLevel 52 = .ok (.return_, 1) := by decide +kernel
theorem dX9_rightSide_0 : decode cX9_rightSide 0 = .ok (.iload_n 1, 1) := by decide +kernel
theorem dX9_rightSide_1 : decode cX9_rightSide 1 = .ok (.ifCond .lt 18, 3) := by decide +kernel
theorem dX9_rightSide_4 : decode cX9_rightSide 4 = .ok (.iload_n 1, 1) := by decide +kernel
theorem dX9_rightSide_5 : decode cX9_rightSide 5 = .ok (.bipush 30, 2) := by decide +kernel
theorem dX9_rightSide_7 : decode cX9_rightSide 7 = .ok (.if_icmp .ge 12, 3) := by decide +kernel
theorem dX9_rightSide_10 : decode cX9_rightSide 10 = .ok (.aload_n 0, 1) := by decide +kernel
theorem dX9_rightSide_11 : decode cX9_rightSide 11 = .ok (.getfield 33, 3) := by decide +kernel
theorem dX9_rightSide_14 : decode cX9_rightSide 14 = .ok (.iload_n 1, 1) := by decide +kernel
theorem dX9_rightSide_15 : decode cX9_rightSide 15 = .ok (.iaload, 1) := by decide +kernel
theorem dX9_rightSide_16 : decode cX9_rightSide 16 = .ok (.goto 4, 3) := by decide +kernel
theorem dX9_rightSide_19 : decode cX9_rightSide 19 = .ok (.iconst (-1), 1) := by decide +kernel
theorem dX9_rightSide_20 : decode cX9_rightSide 20 = .ok (.ireturn, 1) := by decide +kernel
theorem dX9_ruleFor_0 : decode cX9_ruleFor 0 = .ok (.aload_n 0, 1) := by decide +kernel
theorem dX9_ruleFor_1 : decode cX9_ruleFor 1 = .ok (.getfield 42, 3) := by decide +kernel
theorem dX9_ruleFor_4 : decode cX9_ruleFor 4 = .ok (.iload_n 1, 1) := by decide +kernel
theorem dX9_ruleFor_5 : decode cX9_ruleFor 5 = .ok (.invokevirtual 190, 3) := by decide +kernel
theorem dX9_ruleFor_8 : decode cX9_ruleFor 8 = .ok (.istore_n 2, 1) := by decide +kernel
theorem dX9_ruleFor_9 : decode cX9_ruleFor 9 = .ok (.iload_n 2, 1) := by decide +kernel
theorem dX9_ruleFor_10 : decode cX9_ruleFor 10 = .ok (.ifCond .lt 31, 3) := by decide +kernel
theorem dX9_ruleFor_13 : decode cX9_ruleFor 13 = .ok (.iload_n 2, 1) := by decide +kernel
theorem dX9_ruleFor_14 : decode cX9_ruleFor 14 = .ok (.aload_n 0, 1) := by decide +kernel
theorem dX9_ruleFor_15 : decode cX9_ruleFor 15 = .ok (.getfield 168, 3) := by decide +kernel
theorem dX9_ruleFor_18 : decode cX9_ruleFor 18 = .ok (.if_icmp .ge 23, 3) := by decide +kernel
theorem dX9_ruleFor_21 : decode cX9_ruleFor 21 = .ok (.iload_n 2, 1) := by decide +kernel
theorem dX9_ruleFor_22 : decode cX9_ruleFor 22 = .ok (.bipush 30, 2) := by decide +kernel
theorem dX9_ruleFor_24 : decode cX9_ruleFor 24 = .ok (.if_icmp .ge 17, 3) := by decide +kernel
theorem dX9_ruleFor_27 : decode cX9_ruleFor 27 = .ok (.aload_n 0, 1) := by decide +kernel
theorem dX9_ruleFor_28 : decode cX9_ruleFor 28 = .ok (.getfield 30, 3) := by decide +kernel
theorem dX9_ruleFor_31 : decode cX9_ruleFor 31 = .ok (.iload_n 2, 1) := by decide +kernel
theorem dX9_ruleFor_32 : decode cX9_ruleFor 32 = .ok (.iaload, 1) := by decide +kernel
theorem dX9_ruleFor_33 : decode cX9_ruleFor 33 = .ok (.iload_n 1, 1) := by decide +kernel
theorem dX9_ruleFor_34 : decode cX9_ruleFor 34 = .ok (.if_icmp .ne 7, 3) := by decide +kernel
theorem dX9_ruleFor_37 : decode cX9_ruleFor 37 = .ok (.iload_n 2, 1) := by decide +kernel
theorem dX9_ruleFor_38 : decode cX9_ruleFor 38 = .ok (.goto 4, 3) := by decide +kernel
theorem dX9_ruleFor_41 : decode cX9_ruleFor 41 = .ok (.iconst (-1), 1) := by decide +kernel
theorem dX9_ruleFor_42 : decode cX9_ruleFor 42 = .ok (.ireturn, 1) := by decide +kernel
theorem dX9_takeRules_0 : decode cX9_takeRules 0 = .ok (.aload_n 0, 1) := by decide +kernel
theorem dX9_takeRules_1 : decode cX9_takeRules 1 = .ok (.getfield 58, 3) := by decide +kernel
theorem dX9_takeRules_4 : decode cX9_takeRules 4 = .ok (.invokevirtual 156, 3) := by decide +kernel
theorem dX9_takeRules_7 : decode cX9_takeRules 7 = .ok (.iconst 0, 1) := by decide +kernel
theorem dX9_takeRules_8 : decode cX9_takeRules 8 = .ok (.istore_n 1, 1) := by decide +kernel
theorem dX9_takeRules_9 : decode cX9_takeRules 9 = .ok (.iload_n 1, 1) := by decide +kernel
theorem dX9_takeRules_10 : decode cX9_takeRules 10 = .ok (.aload_n 0, 1) := by decide +kernel
theorem dX9_takeRules_11 : decode cX9_takeRules 11 = .ok (.getfield 58, 3) := by decide +kernel
theorem dX9_takeRules_14 : decode cX9_takeRules 14 = .ok (.invokevirtual 113, 3) := by decide +kernel
theorem dX9_takeRules_17 : decode cX9_takeRules 17 = .ok (.if_icmp .ge 60, 3) := by decide +kernel
theorem dX9_takeRules_20 : decode cX9_takeRules 20 = .ok (.aload_n 0, 1) := by decide +kernel
theorem dX9_takeRules_21 : decode cX9_takeRules 21 = .ok (.getfield 58, 3) := by decide +kernel
theorem dX9_takeRules_24 : decode cX9_takeRules 24 = .ok (.iload_n 1, 1) := by decide +kernel
theorem dX9_takeRules_25 : decode cX9_takeRules 25 = .ok (.invokevirtual 116, 3) := by decide +kernel
theorem dX9_takeRules_28 : decode cX9_takeRules 28 = .ok (.istore_n 2, 1) := by decide +kernel
theorem dX9_takeRules_29 : decode cX9_takeRules 29 = .ok (.aload_n 0, 1) := by decide +kernel
theorem dX9_takeRules_30 : decode cX9_takeRules 30 = .ok (.getfield 58, 3) := by decide +kernel
theorem dX9_takeRules_33 : decode cX9_takeRules 33 = .ok (.aload_n 0, 1) := by decide +kernel
theorem dX9_takeRules_34 : decode cX9_takeRules 34 = .ok (.getfield 58, 3) := by decide +kernel
theorem dX9_takeRules_37 : decode cX9_takeRules 37 = .ok (.iload_n 2, 1) := by decide +kernel
theorem dX9_takeRules_38 : decode cX9_takeRules 38 = .ok (.invokevirtual 120, 3) := by decide +kernel
theorem dX9_takeRules_41 : decode cX9_takeRules 41 = .ok (.invokevirtual 123, 3) := by decide +kernel
theorem dX9_takeRules_44 : decode cX9_takeRules 44 = .ok (.iload_n 2, 1) := by decide +kernel
theorem dX9_takeRules_45 : decode cX9_takeRules 45 = .ok (.if_icmp .eq 26, 3) := by decide +kernel
theorem dX9_takeRules_48 : decode cX9_takeRules 48 = .ok (.aload_n 0, 1) := by decide +kernel
theorem dX9_takeRules_49 : decode cX9_takeRules 49 = .ok (.getfield 58, 3) := by decide +kernel
theorem dX9_takeRules_52 : decode cX9_takeRules 52 = .ok (.aload_n 0, 1) := by decide +kernel
theorem dX9_takeRules_53 : decode cX9_takeRules 53 = .ok (.getfield 58, 3) := by decide +kernel
theorem dX9_takeRules_56 : decode cX9_takeRules 56 = .ok (.iload_n 2, 1) := by decide +kernel
theorem dX9_takeRules_57 : decode cX9_takeRules 57 = .ok (.invokevirtual 120, 3) := by decide +kernel
theorem dX9_takeRules_60 : decode cX9_takeRules 60 = .ok (.invokevirtual 159, 3) := by decide +kernel
theorem dX9_takeRules_63 : decode cX9_takeRules 63 = .ok (.aload_n 0, 1) := by decide +kernel
theorem dX9_takeRules_64 : decode cX9_takeRules 64 = .ok (.getfield 58, 3) := by decide +kernel
theorem dX9_takeRules_67 : decode cX9_takeRules 67 = .ok (.iload_n 2, 1) := by decide +kernel
theorem dX9_takeRules_68 : decode cX9_takeRules 68 = .ok (.invokevirtual 162, 3) := by decide +kernel
theorem dX9_takeRules_71 : decode cX9_takeRules 71 = .ok (.iinc 1 1, 3) := by decide +kernel
theorem dX9_takeRules_74 : decode cX9_takeRules 74 = .ok (.goto (-65), 3) := by decide +kernel
theorem dX9_takeRules_77 : decode cX9_takeRules 77 = .ok (.aload_n 0, 1) := by decide +kernel
theorem dX9_takeRules_78 : decode cX9_takeRules 78 = .ok (.getfield 58, 3) := by decide +kernel
theorem dX9_takeRules_81 : decode cX9_takeRules 81 = .ok (.invokevirtual 165, 3) := by decide +kernel
theorem dX9_takeRules_84 : decode cX9_takeRules 84 = .ok (.aload_n 0, 1) := by decide +kernel
theorem dX9_takeRules_85 : decode cX9_takeRules 85 = .ok (.iconst 0, 1) := by decide +kernel
theorem dX9_takeRules_86 : decode cX9_takeRules 86 = .ok (.putfield 168, 3) := by decide +kernel
theorem dX9_takeRules_89 : decode cX9_takeRules 89 = .ok (.iconst 0, 1) := by decide +kernel
theorem dX9_takeRules_90 : decode cX9_takeRules 90 = .ok (.istore_n 1, 1) := by decide +kernel
theorem dX9_takeRules_91 : decode cX9_takeRules 91 = .ok (.iload_n 1, 1) := by decide +kernel
theorem dX9_takeRules_92 : decode cX9_takeRules 92 = .ok (.aload_n 0, 1) := by decide +kernel
theorem dX9_takeRules_93 : decode cX9_takeRules 93 = .ok (.getfield 58, 3) := by decide +kernel
theorem dX9_takeRules_96 : decode cX9_takeRules 96 = .ok (.invokevirtual 113, 3) := by decide +kernel
theorem dX9_takeRules_99 : decode cX9_takeRules 99 = .ok (.if_icmp .ge 97, 3) := by decide +kernel
theorem dX9_takeRules_102 : decode cX9_takeRules 102 = .ok (.aload_n 0, 1) := by decide +kernel
theorem dX9_takeRules_103 : decode cX9_takeRules 103 = .ok (.getfield 58, 3) := by decide +kernel
theorem dX9_takeRules_106 : decode cX9_takeRules 106 = .ok (.iload_n 1, 1) := by decide +kernel
theorem dX9_takeRules_107 : decode cX9_takeRules 107 = .ok (.invokevirtual 116, 3) := by decide +kernel
theorem dX9_takeRules_110 : decode cX9_takeRules 110 = .ok (.istore_n 2, 1) := by decide +kernel
theorem dX9_takeRules_111 : decode cX9_takeRules 111 = .ok (.aload_n 0, 1) := by decide +kernel
theorem dX9_takeRules_112 : decode cX9_takeRules 112 = .ok (.getfield 58, 3) := by decide +kernel
theorem dX9_takeRules_115 : decode cX9_takeRules 115 = .ok (.iload_n 2, 1) := by decide +kernel
theorem dX9_takeRules_116 : decode cX9_takeRules 116 = .ok (.invokevirtual 120, 3) := by decide +kernel
theorem dX9_takeRules_119 : decode cX9_takeRules 119 = .ok (.istore_n 3, 1) := by decide +kernel
theorem dX9_takeRules_120 : decode cX9_takeRules 120 = .ok (.aload_n 0, 1) := by decide +kernel
theorem dX9_takeRules_121 : decode cX9_takeRules 121 = .ok (.getfield 58, 3) := by decide +kernel
theorem dX9_takeRules_124 : decode cX9_takeRules 124 = .ok (.iload_n 2, 1) := by decide +kernel
theorem dX9_takeRules_125 : decode cX9_takeRules 125 = .ok (.invokevirtual 171, 3) := by decide +kernel
theorem dX9_takeRules_128 : decode cX9_takeRules 128 = .ok (.ifCond .eq 26, 3) := by decide +kernel
theorem dX9_takeRules_131 : decode cX9_takeRules 131 = .ok (.aload_n 0, 1) := by decide +kernel
theorem dX9_takeRules_132 : decode cX9_takeRules 132 = .ok (.getfield 58, 3) := by decide +kernel
theorem dX9_takeRules_135 : decode cX9_takeRules 135 = .ok (.iload_n 3, 1) := by decide +kernel
theorem dX9_takeRules_136 : decode cX9_takeRules 136 = .ok (.aload_n 0, 1) := by decide +kernel
theorem dX9_takeRules_137 : decode cX9_takeRules 137 = .ok (.getfield 58, 3) := by decide +kernel
theorem dX9_takeRules_140 : decode cX9_takeRules 140 = .ok (.iload_n 2, 1) := by decide +kernel
theorem dX9_takeRules_141 : decode cX9_takeRules 141 = .ok (.aload_n 0, 1) := by decide +kernel
theorem dX9_takeRules_142 : decode cX9_takeRules 142 = .ok (.getfield 50, 3) := by decide +kernel
theorem dX9_takeRules_145 : decode cX9_takeRules 145 = .ok (.invokevirtual 174, 3) := by decide +kernel
theorem dX9_takeRules_148 : decode cX9_takeRules 148 = .ok (.invokevirtual 178, 3) := by decide +kernel
theorem dX9_takeRules_151 : decode cX9_takeRules 151 = .ok (.goto 39, 3) := by decide +kernel
theorem dX9_takeRules_154 : decode cX9_takeRules 154 = .ok (.aload_n 0, 1) := by decide +kernel
theorem dX9_takeRules_155 : decode cX9_takeRules 155 = .ok (.getfield 58, 3) := by decide +kernel
theorem dX9_takeRules_158 : decode cX9_takeRules 158 = .ok (.iload_n 3, 1) := by decide +kernel
theorem dX9_takeRules_159 : decode cX9_takeRules 159 = .ok (.invokevirtual 123, 3) := by decide +kernel
theorem dX9_takeRules_162 : decode cX9_takeRules 162 = .ok (.iload_n 2, 1) := by decide +kernel
theorem dX9_takeRules_163 : decode cX9_takeRules 163 = .ok (.if_icmp .eq 27, 3) := by decide +kernel
theorem dX9_takeRules_166 : decode cX9_takeRules 166 = .ok (.aload_n 0, 1) := by decide +kernel
theorem dX9_takeRules_167 : decode cX9_takeRules 167 = .ok (.aload_n 0, 1) := by decide +kernel
theorem dX9_takeRules_168 : decode cX9_takeRules 168 = .ok (.getfield 58, 3) := by decide +kernel
theorem dX9_takeRules_171 : decode cX9_takeRules 171 = .ok (.iload_n 2, 1) := by decide +kernel
theorem dX9_takeRules_172 : decode cX9_takeRules 172 = .ok (.aload_n 0, 1) := by decide +kernel
theorem dX9_takeRules_173 : decode cX9_takeRules 173 = .ok (.getfield 50, 3) := by decide +kernel
theorem dX9_takeRules_176 : decode cX9_takeRules 176 = .ok (.invokevirtual 174, 3) := by decide +kernel
theorem dX9_takeRules_179 : decode cX9_takeRules 179 = .ok (.aload_n 0, 1) := by decide +kernel
theorem dX9_takeRules_180 : decode cX9_takeRules 180 = .ok (.getfield 58, 3) := by decide +kernel
theorem dX9_takeRules_183 : decode cX9_takeRules 183 = .ok (.iload_n 3, 1) := by decide +kernel
theorem dX9_takeRules_184 : decode cX9_takeRules 184 = .ok (.invokevirtual 181, 3) := by decide +kernel
theorem dX9_takeRules_187 : decode cX9_takeRules 187 = .ok (.invokevirtual 184, 3) := by decide +kernel
theorem dX9_takeRules_190 : decode cX9_takeRules 190 = .ok (.iinc 1 1, 3) := by decide +kernel
theorem dX9_takeRules_193 : decode cX9_takeRules 193 = .ok (.goto (-102), 3) := by decide +kernel
theorem dX9_takeRules_196 : decode cX9_takeRules 196 = .ok (.return_, 1) := by decide +kernel
