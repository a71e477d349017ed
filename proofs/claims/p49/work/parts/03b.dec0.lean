theorem dL_below_0 : decode cL_below 0 = .ok (.iload_n 0, 1) := by decide +kernel
theorem dL_below_1 : decode cL_below 1 = .ok (.ldc 7, 2) := by decide +kernel
theorem dL_below_3 : decode cL_below 3 = .ok (.iand, 1) := by decide +kernel
theorem dL_below_4 : decode cL_below 4 = .ok (.iload_n 1, 1) := by decide +kernel
theorem dL_below_5 : decode cL_below 5 = .ok (.irem, 1) := by decide +kernel
theorem dL_below_6 : decode cL_below 6 = .ok (.ireturn, 1) := by decide +kernel
theorem dL_build_0 : decode cL_build 0 = .ok (.iconst 0, 1) := by decide +kernel
theorem dL_build_1 : decode cL_build 1 = .ok (.istore 6, 2) := by decide +kernel
theorem dL_build_3 : decode cL_build 3 = .ok (.iload 6, 2) := by decide +kernel
theorem dL_build_5 : decode cL_build 5 = .ok (.aload_n 3, 1) := by decide +kernel
theorem dL_build_6 : decode cL_build 6 = .ok (.arraylength, 1) := by decide +kernel
theorem dL_build_7 : decode cL_build 7 = .ok (.if_icmp .ge 183, 3) := by decide +kernel
theorem dL_build_10 : decode cL_build 10 = .ok (.aload_n 1, 1) := by decide +kernel
theorem dL_build_11 : decode cL_build 11 = .ok (.iload_n 2, 1) := by decide +kernel
theorem dL_build_12 : decode cL_build 12 = .ok (.iload 6, 2) := by decide +kernel
theorem dL_build_14 : decode cL_build 14 = .ok (.iadd, 1) := by decide +kernel
theorem dL_build_15 : decode cL_build 15 = .ok (.invokestatic 45, 3) := by decide +kernel
theorem dL_build_18 : decode cL_build 18 = .ok (.istore 7, 2) := by decide +kernel
theorem dL_build_20 : decode cL_build 20 = .ok (.iload 7, 2) := by decide +kernel
theorem dL_build_22 : decode cL_build 22 = .ok (.iconst 2, 1) := by decide +kernel
theorem dL_build_23 : decode cL_build 23 = .ok (.ishr, 1) := by decide +kernel
theorem dL_build_24 : decode cL_build 24 = .ok (.iload 6, 2) := by decide +kernel
theorem dL_build_26 : decode cL_build 26 = .ok (.iconst 1, 1) := by decide +kernel
theorem dL_build_27 : decode cL_build 27 = .ok (.invokestatic 49, 3) := by decide +kernel
theorem dL_build_30 : decode cL_build 30 = .ok (.invokestatic 23, 3) := by decide +kernel
theorem dL_build_33 : decode cL_build 33 = .ok (.istore 8, 2) := by decide +kernel
theorem dL_build_35 : decode cL_build 35 = .ok (.iload 7, 2) := by decide +kernel
theorem dL_build_37 : decode cL_build 37 = .ok (.bipush 10, 2) := by decide +kernel
theorem dL_build_39 : decode cL_build 39 = .ok (.ishr, 1) := by decide +kernel
theorem dL_build_40 : decode cL_build 40 = .ok (.iload 6, 2) := by decide +kernel
theorem dL_build_42 : decode cL_build 42 = .ok (.iconst 1, 1) := by decide +kernel
theorem dL_build_43 : decode cL_build 43 = .ok (.invokestatic 49, 3) := by decide +kernel
theorem dL_build_46 : decode cL_build 46 = .ok (.invokestatic 23, 3) := by decide +kernel
theorem dL_build_49 : decode cL_build 49 = .ok (.istore 9, 2) := by decide +kernel
theorem dL_build_51 : decode cL_build 51 = .ok (.iload 6, 2) := by decide +kernel
theorem dL_build_53 : decode cL_build 53 = .ok (.iconst 3, 1) := by decide +kernel
theorem dL_build_54 : decode cL_build 54 = .ok (.if_icmp .lt 19, 3) := by decide +kernel
theorem dL_build_57 : decode cL_build 57 = .ok (.aload_n 0, 1) := by decide +kernel
theorem dL_build_58 : decode cL_build 58 = .ok (.aload_n 3, 1) := by decide +kernel
theorem dL_build_59 : decode cL_build 59 = .ok (.iload 8, 2) := by decide +kernel
theorem dL_build_61 : decode cL_build 61 = .ok (.iaload, 1) := by decide +kernel
theorem dL_build_62 : decode cL_build 62 = .ok (.invokevirtual 54, 3) := by decide +kernel
theorem dL_build_65 : decode cL_build 65 = .ok (.bipush 6, 2) := by decide +kernel
theorem dL_build_67 : decode cL_build 67 = .ok (.if_icmp .le 6, 3) := by decide +kernel
theorem dL_build_70 : decode cL_build 70 = .ok (.iconst 0, 1) := by decide +kernel
theorem dL_build_71 : decode cL_build 71 = .ok (.istore 8, 2) := by decide +kernel
theorem dL_build_73 : decode cL_build 73 = .ok (.iload 6, 2) := by decide +kernel
theorem dL_build_75 : decode cL_build 75 = .ok (.iconst 3, 1) := by decide +kernel
theorem dL_build_76 : decode cL_build 76 = .ok (.if_icmp .lt 19, 3) := by decide +kernel
theorem dL_build_79 : decode cL_build 79 = .ok (.aload_n 0, 1) := by decide +kernel
theorem dL_build_80 : decode cL_build 80 = .ok (.aload_n 3, 1) := by decide +kernel
theorem dL_build_81 : decode cL_build 81 = .ok (.iload 9, 2) := by decide +kernel
theorem dL_build_83 : decode cL_build 83 = .ok (.iaload, 1) := by decide +kernel
theorem dL_build_84 : decode cL_build 84 = .ok (.invokevirtual 54, 3) := by decide +kernel
theorem dL_build_87 : decode cL_build 87 = .ok (.bipush 6, 2) := by decide +kernel
theorem dL_build_89 : decode cL_build 89 = .ok (.if_icmp .le 6, 3) := by decide +kernel
theorem dL_build_92 : decode cL_build 92 = .ok (.iconst 1, 1) := by decide +kernel
theorem dL_build_93 : decode cL_build 93 = .ok (.istore 9, 2) := by decide +kernel
theorem dL_build_95 : decode cL_build 95 = .ok (.aload 4, 2) := by decide +kernel
theorem dL_build_97 : decode cL_build 97 = .ok (.iload 6, 2) := by decide +kernel
theorem dL_build_99 : decode cL_build 99 = .ok (.iload 6, 2) := by decide +kernel
theorem dL_build_101 : decode cL_build 101 = .ok (.iconst 3, 1) := by decide +kernel
theorem dL_build_102 : decode cL_build 102 = .ok (.if_icmp .ge 7, 3) := by decide +kernel
theorem dL_build_105 : decode cL_build 105 = .ok (.iconst (-1), 1) := by decide +kernel
theorem dL_build_106 : decode cL_build 106 = .ok (.goto 5, 3) := by decide +kernel
theorem dL_build_109 : decode cL_build 109 = .ok (.iload 8, 2) := by decide +kernel
theorem dL_build_111 : decode cL_build 111 = .ok (.iastore, 1) := by decide +kernel
theorem dL_build_112 : decode cL_build 112 = .ok (.aload 5, 2) := by decide +kernel
theorem dL_build_114 : decode cL_build 114 = .ok (.iload 6, 2) := by decide +kernel
theorem dL_build_116 : decode cL_build 116 = .ok (.iload 6, 2) := by decide +kernel
theorem dL_build_118 : decode cL_build 118 = .ok (.iconst 3, 1) := by decide +kernel
theorem dL_build_119 : decode cL_build 119 = .ok (.if_icmp .lt 10, 3) := by decide +kernel
theorem dL_build_122 : decode cL_build 122 = .ok (.iload 7, 2) := by decide +kernel
theorem dL_build_124 : decode cL_build 124 = .ok (.iconst 3, 1) := by decide +kernel
theorem dL_build_125 : decode cL_build 125 = .ok (.iand, 1) := by decide +kernel
theorem dL_build_126 : decode cL_build 126 = .ok (.ifCond .ne 7, 3) := by decide +kernel
theorem dL_build_129 : decode cL_build 129 = .ok (.iconst (-1), 1) := by decide +kernel
theorem dL_build_130 : decode cL_build 130 = .ok (.goto 5, 3) := by decide +kernel
theorem dL_build_133 : decode cL_build 133 = .ok (.iload 9, 2) := by decide +kernel
theorem dL_build_135 : decode cL_build 135 = .ok (.iastore, 1) := by decide +kernel
theorem dL_build_136 : decode cL_build 136 = .ok (.aload_n 3, 1) := by decide +kernel
theorem dL_build_137 : decode cL_build 137 = .ok (.iload 6, 2) := by decide +kernel
theorem dL_build_139 : decode cL_build 139 = .ok (.iload 6, 2) := by decide +kernel
theorem dL_build_141 : decode cL_build 141 = .ok (.iconst 3, 1) := by decide +kernel
theorem dL_build_142 : decode cL_build 142 = .ok (.if_icmp .ge 15, 3) := by decide +kernel
theorem dL_build_145 : decode cL_build 145 = .ok (.aload_n 0, 1) := by decide +kernel
theorem dL_build_146 : decode cL_build 146 = .ok (.iload 6, 2) := by decide +kernel
theorem dL_build_148 : decode cL_build 148 = .ok (.iconst 0, 1) := by decide +kernel
theorem dL_build_149 : decode cL_build 149 = .ok (.iconst 0, 1) := by decide +kernel
theorem dL_build_150 : decode cL_build 150 = .ok (.iconst 0, 1) := by decide +kernel
theorem dL_build_151 : decode cL_build 151 = .ok (.invokevirtual 57, 3) := by decide +kernel
theorem dL_build_154 : decode cL_build 154 = .ok (.goto 29, 3) := by decide +kernel
theorem dL_build_157 : decode cL_build 157 = .ok (.aload_n 0, 1) := by decide +kernel
theorem dL_build_158 : decode cL_build 158 = .ok (.aload 5, 2) := by decide +kernel
theorem dL_build_160 : decode cL_build 160 = .ok (.iload 6, 2) := by decide +kernel
theorem dL_build_162 : decode cL_build 162 = .ok (.iaload, 1) := by decide +kernel
theorem dL_build_163 : decode cL_build 163 = .ok (.ifCond .ge 7, 3) := by decide +kernel
theorem dL_build_166 : decode cL_build 166 = .ok (.iconst 3, 1) := by decide +kernel
theorem dL_build_167 : decode cL_build 167 = .ok (.goto 4, 3) := by decide +kernel
theorem dL_build_170 : decode cL_build 170 = .ok (.iconst 4, 1) := by decide +kernel
theorem dL_build_171 : decode cL_build 171 = .ok (.aload_n 3, 1) := by decide +kernel
theorem dL_build_172 : decode cL_build 172 = .ok (.iload 8, 2) := by decide +kernel
theorem dL_build_174 : decode cL_build 174 = .ok (.iaload, 1) := by decide +kernel
theorem dL_build_175 : decode cL_build 175 = .ok (.aload_n 3, 1) := by decide +kernel
theorem dL_build_176 : decode cL_build 176 = .ok (.iload 9, 2) := by decide +kernel
theorem dL_build_178 : decode cL_build 178 = .ok (.iaload, 1) := by decide +kernel
theorem dL_build_179 : decode cL_build 179 = .ok (.iconst 0, 1) := by decide +kernel
theorem dL_build_180 : decode cL_build 180 = .ok (.invokevirtual 57, 3) := by decide +kernel
theorem dL_build_183 : decode cL_build 183 = .ok (.iastore, 1) := by decide +kernel
theorem dL_build_184 : decode cL_build 184 = .ok (.iinc 6 1, 3) := by decide +kernel
theorem dL_build_187 : decode cL_build 187 = .ok (.goto (-184), 3) := by decide +kernel
theorem dL_build_190 : decode cL_build 190 = .ok (.return_, 1) := by decide +kernel
theorem dL_cell_0 : decode cL_cell 0 = .ok (.iload_n 1, 1) := by decide +kernel
theorem dL_cell_1 : decode cL_cell 1 = .ok (.aload_n 0, 1) := by decide +kernel
theorem dL_cell_2 : decode cL_cell 2 = .ok (.arraylength, 1) := by decide +kernel
theorem dL_cell_3 : decode cL_cell 3 = .ok (.if_icmp .ge 9, 3) := by decide +kernel
theorem dL_cell_6 : decode cL_cell 6 = .ok (.aload_n 0, 1) := by decide +kernel
theorem dL_cell_7 : decode cL_cell 7 = .ok (.iload_n 1, 1) := by decide +kernel
theorem dL_cell_8 : decode cL_cell 8 = .ok (.iaload, 1) := by decide +kernel
theorem dL_cell_9 : decode cL_cell 9 = .ok (.goto 9, 3) := by decide +kernel
theorem dL_cell_12 : decode cL_cell 12 = .ok (.ldc 8, 2) := by decide +kernel
theorem dL_cell_14 : decode cL_cell 14 = .ok (.iload_n 1, 1) := by decide +kernel
theorem dL_cell_15 : decode cL_cell 15 = .ok (.iconst 3, 1) := by decide +kernel
theorem dL_cell_16 : decode cL_cell 16 = .ok (.iadd, 1) := by decide +kernel
theorem dL_cell_17 : decode cL_cell 17 = .ok (.imul, 1) := by decide +kernel
theorem dL_cell_18 : decode cL_cell 18 = .ok (.ireturn, 1) := by decide +kernel
theorem dL_close_0 : decode cL_close 0 = .ok (.aload_n 0, 1) := by decide +kernel
theorem dL_close_1 : decode cL_close 1 = .ok (.arraylength, 1) := by decide +kernel
theorem dL_close_2 : decode cL_close 2 = .ok (.istore 8, 2) := by decide +kernel
theorem dL_close_4 : decode cL_close 4 = .ok (.iconst 0, 1) := by decide +kernel
theorem dL_close_5 : decode cL_close 5 = .ok (.istore 9, 2) := by decide +kernel
theorem dL_close_7 : decode cL_close 7 = .ok (.iload 9, 2) := by decide +kernel
theorem dL_close_9 : decode cL_close 9 = .ok (.iload 8, 2) := by decide +kernel
theorem dL_close_11 : decode cL_close 11 = .ok (.if_icmp .ge 53, 3) := by decide +kernel
theorem dL_close_14 : decode cL_close 14 = .ok (.aload 7, 2) := by decide +kernel
theorem dL_close_16 : decode cL_close 16 = .ok (.iload 9, 2) := by decide +kernel
theorem dL_close_18 : decode cL_close 18 = .ok (.iload 9, 2) := by decide +kernel
theorem dL_close_20 : decode cL_close 20 = .ok (.iastore, 1) := by decide +kernel
theorem dL_close_21 : decode cL_close 21 = .ok (.iconst 0, 1) := by decide +kernel
theorem dL_close_22 : decode cL_close 22 = .ok (.istore 10, 2) := by decide +kernel
theorem dL_close_24 : decode cL_close 24 = .ok (.iload 10, 2) := by decide +kernel
theorem dL_close_26 : decode cL_close 26 = .ok (.iload 9, 2) := by decide +kernel
theorem dL_close_28 : decode cL_close 28 = .ok (.if_icmp .ge 30, 3) := by decide +kernel
theorem dL_close_31 : decode cL_close 31 = .ok (.aload_n 0, 1) := by decide +kernel
theorem dL_close_32 : decode cL_close 32 = .ok (.iload 10, 2) := by decide +kernel
theorem dL_close_34 : decode cL_close 34 = .ok (.iaload, 1) := by decide +kernel
theorem dL_close_35 : decode cL_close 35 = .ok (.aload_n 0, 1) := by decide +kernel
theorem dL_close_36 : decode cL_close 36 = .ok (.iload 9, 2) := by decide +kernel
theorem dL_close_38 : decode cL_close 38 = .ok (.iaload, 1) := by decide +kernel
theorem dL_close_39 : decode cL_close 39 = .ok (.if_icmp .ne 13, 3) := by decide +kernel
theorem dL_close_42 : decode cL_close 42 = .ok (.aload 7, 2) := by decide +kernel
theorem dL_close_44 : decode cL_close 44 = .ok (.iload 9, 2) := by decide +kernel
theorem dL_close_46 : decode cL_close 46 = .ok (.aload 7, 2) := by decide +kernel
theorem dL_close_48 : decode cL_close 48 = .ok (.iload 10, 2) := by decide +kernel
theorem dL_close_50 : decode cL_close 50 = .ok (.iaload, 1) := by decide +kernel
theorem dL_close_51 : decode cL_close 51 = .ok (.iastore, 1) := by decide +kernel
theorem dL_close_52 : decode cL_close 52 = .ok (.iinc 10 1, 3) := by decide +kernel
theorem dL_close_55 : decode cL_close 55 = .ok (.goto (-31), 3) := by decide +kernel
theorem dL_close_58 : decode cL_close 58 = .ok (.iinc 9 1, 3) := by decide +kernel
theorem dL_close_61 : decode cL_close 61 = .ok (.goto (-54), 3) := by decide +kernel
theorem dL_close_64 : decode cL_close 64 = .ok (.iconst 0, 1) := by decide +kernel
theorem dL_close_65 : decode cL_close 65 = .ok (.istore 9, 2) := by decide +kernel
theorem dL_close_67 : decode cL_close 67 = .ok (.iload 9, 2) := by decide +kernel
theorem dL_close_69 : decode cL_close 69 = .ok (.iload 5, 2) := by decide +kernel
theorem dL_close_71 : decode cL_close 71 = .ok (.if_icmp .ge 36, 3) := by decide +kernel
theorem dL_close_74 : decode cL_close 74 = .ok (.iload 9, 2) := by decide +kernel
theorem dL_close_76 : decode cL_close 76 = .ok (.iload 6, 2) := by decide +kernel
theorem dL_close_78 : decode cL_close 78 = .ok (.if_icmp .eq 23, 3) := by decide +kernel
theorem dL_close_81 : decode cL_close 81 = .ok (.aload 7, 2) := by decide +kernel
theorem dL_close_83 : decode cL_close 83 = .ok (.aload 7, 2) := by decide +kernel
theorem dL_close_85 : decode cL_close 85 = .ok (.aload_n 3, 1) := by decide +kernel
theorem dL_close_86 : decode cL_close 86 = .ok (.iload 9, 2) := by decide +kernel
theorem dL_close_88 : decode cL_close 88 = .ok (.iaload, 1) := by decide +kernel
theorem dL_close_89 : decode cL_close 89 = .ok (.iaload, 1) := by decide +kernel
theorem dL_close_90 : decode cL_close 90 = .ok (.aload 7, 2) := by decide +kernel
theorem dL_close_92 : decode cL_close 92 = .ok (.aload 4, 2) := by decide +kernel
theorem dL_close_94 : decode cL_close 94 = .ok (.iload 9, 2) := by decide +kernel
theorem dL_close_96 : decode cL_close 96 = .ok (.iaload, 1) := by decide +kernel
theorem dL_close_97 : decode cL_close 97 = .ok (.iaload, 1) := by decide +kernel
theorem dL_close_98 : decode cL_close 98 = .ok (.invokestatic 71, 3) := by decide +kernel
theorem dL_close_101 : decode cL_close 101 = .ok (.iinc 9 1, 3) := by decide +kernel
theorem dL_close_104 : decode cL_close 104 = .ok (.goto (-37), 3) := by decide +kernel
theorem dL_close_107 : decode cL_close 107 = .ok (.iconst 1, 1) := by decide +kernel
theorem dL_close_108 : decode cL_close 108 = .ok (.istore 9, 2) := by decide +kernel
theorem dL_close_110 : decode cL_close 110 = .ok (.iload 9, 2) := by decide +kernel
theorem dL_close_112 : decode cL_close 112 = .ok (.ifCond .eq 155, 3) := by decide +kernel
theorem dL_close_115 : decode cL_close 115 = .ok (.iconst 0, 1) := by decide +kernel
theorem dL_close_116 : decode cL_close 116 = .ok (.istore 9, 2) := by decide +kernel
theorem dL_close_118 : decode cL_close 118 = .ok (.iconst 3, 1) := by decide +kernel
theorem dL_close_119 : decode cL_close 119 = .ok (.istore 10, 2) := by decide +kernel
theorem dL_close_121 : decode cL_close 121 = .ok (.iload 10, 2) := by decide +kernel
theorem dL_close_123 : decode cL_close 123 = .ok (.iload 8, 2) := by decide +kernel
theorem dL_close_125 : decode cL_close 125 = .ok (.if_icmp .ge 139, 3) := by decide +kernel
theorem dL_close_128 : decode cL_close 128 = .ok (.iconst 3, 1) := by decide +kernel
theorem dL_close_129 : decode cL_close 129 = .ok (.istore 11, 2) := by decide +kernel
theorem dL_close_131 : decode cL_close 131 = .ok (.iload 11, 2) := by decide +kernel
theorem dL_close_133 : decode cL_close 133 = .ok (.iload 10, 2) := by decide +kernel
theorem dL_close_135 : decode cL_close 135 = .ok (.if_icmp .ge 123, 3) := by decide +kernel
theorem dL_close_138 : decode cL_close 138 = .ok (.aload_n 2, 1) := by decide +kernel
theorem dL_close_139 : decode cL_close 139 = .ok (.iload 10, 2) := by decide +kernel
theorem dL_close_141 : decode cL_close 141 = .ok (.iaload, 1) := by decide +kernel
theorem dL_close_142 : decode cL_close 142 = .ok (.ifCond .ge 7, 3) := by decide +kernel
theorem dL_close_145 : decode cL_close 145 = .ok (.iconst 1, 1) := by decide +kernel
theorem dL_close_146 : decode cL_close 146 = .ok (.goto 4, 3) := by decide +kernel
theorem dL_close_149 : decode cL_close 149 = .ok (.iconst 0, 1) := by decide +kernel
theorem dL_close_150 : decode cL_close 150 = .ok (.aload_n 2, 1) := by decide +kernel
theorem dL_close_151 : decode cL_close 151 = .ok (.iload 11, 2) := by decide +kernel
theorem dL_close_153 : decode cL_close 153 = .ok (.iaload, 1) := by decide +kernel
theorem dL_close_154 : decode cL_close 154 = .ok (.ifCond .ge 7, 3) := by decide +kernel
theorem dL_close_157 : decode cL_close 157 = .ok (.iconst 1, 1) := by decide +kernel
theorem dL_close_158 : decode cL_close 158 = .ok (.goto 4, 3) := by decide +kernel
theorem dL_close_161 : decode cL_close 161 = .ok (.iconst 0, 1) := by decide +kernel
theorem dL_close_162 : decode cL_close 162 = .ok (.if_icmp .ne 48, 3) := by decide +kernel
theorem dL_close_165 : decode cL_close 165 = .ok (.aload 7, 2) := by decide +kernel
theorem dL_close_167 : decode cL_close 167 = .ok (.aload_n 1, 1) := by decide +kernel
theorem dL_close_168 : decode cL_close 168 = .ok (.iload 10, 2) := by decide +kernel
theorem dL_close_170 : decode cL_close 170 = .ok (.iaload, 1) := by decide +kernel
theorem dL_close_171 : decode cL_close 171 = .ok (.iaload, 1) := by decide +kernel
theorem dL_close_172 : decode cL_close 172 = .ok (.aload 7, 2) := by decide +kernel
theorem dL_close_174 : decode cL_close 174 = .ok (.aload_n 1, 1) := by decide +kernel
theorem dL_close_175 : decode cL_close 175 = .ok (.iload 11, 2) := by decide +kernel
theorem dL_close_177 : decode cL_close 177 = .ok (.iaload, 1) := by decide +kernel
theorem dL_close_178 : decode cL_close 178 = .ok (.iaload, 1) := by decide +kernel
theorem dL_close_179 : decode cL_close 179 = .ok (.if_icmp .ne 31, 3) := by decide +kernel
theorem dL_close_182 : decode cL_close 182 = .ok (.aload_n 2, 1) := by decide +kernel
theorem dL_close_183 : decode cL_close 183 = .ok (.iload 10, 2) := by decide +kernel
theorem dL_close_185 : decode cL_close 185 = .ok (.iaload, 1) := by decide +kernel
theorem dL_close_186 : decode cL_close 186 = .ok (.ifCond .lt 20, 3) := by decide +kernel
theorem dL_close_189 : decode cL_close 189 = .ok (.aload 7, 2) := by decide +kernel
theorem dL_close_191 : decode cL_close 191 = .ok (.aload_n 2, 1) := by decide +kernel
theorem dL_close_192 : decode cL_close 192 = .ok (.iload 10, 2) := by decide +kernel
theorem dL_close_194 : decode cL_close 194 = .ok (.iaload, 1) := by decide +kernel
theorem dL_close_195 : decode cL_close 195 = .ok (.iaload, 1) := by decide +kernel
theorem dL_close_196 : decode cL_close 196 = .ok (.aload 7, 2) := by decide +kernel
theorem dL_close_198 : decode cL_close 198 = .ok (.aload_n 2, 1) := by decide +kernel
theorem dL_close_199 : decode cL_close 199 = .ok (.iload 11, 2) := by decide +kernel
theorem dL_close_201 : decode cL_close 201 = .ok (.iaload, 1) := by decide +kernel
theorem dL_close_202 : decode cL_close 202 = .ok (.iaload, 1) := by decide +kernel
theorem dL_close_203 : decode cL_close 203 = .ok (.if_icmp .ne 7, 3) := by decide +kernel
theorem dL_close_206 : decode cL_close 206 = .ok (.iconst 1, 1) := by decide +kernel
theorem dL_close_207 : decode cL_close 207 = .ok (.goto 4, 3) := by decide +kernel
theorem dL_close_210 : decode cL_close 210 = .ok (.iconst 0, 1) := by decide +kernel
theorem dL_close_211 : decode cL_close 211 = .ok (.istore 12, 2) := by decide +kernel
theorem dL_close_213 : decode cL_close 213 = .ok (.iload 12, 2) := by decide +kernel
theorem dL_close_215 : decode cL_close 215 = .ok (.ifCond .eq 37, 3) := by decide +kernel
theorem dL_close_218 : decode cL_close 218 = .ok (.aload 7, 2) := by decide +kernel
theorem dL_close_220 : decode cL_close 220 = .ok (.iload 10, 2) := by decide +kernel
theorem dL_close_222 : decode cL_close 222 = .ok (.iaload, 1) := by decide +kernel
theorem dL_close_223 : decode cL_close 223 = .ok (.aload 7, 2) := by decide +kernel
theorem dL_close_225 : decode cL_close 225 = .ok (.iload 11, 2) := by decide +kernel
theorem dL_close_227 : decode cL_close 227 = .ok (.iaload, 1) := by decide +kernel
theorem dL_close_228 : decode cL_close 228 = .ok (.if_icmp .ne 6, 3) := by decide +kernel
theorem dL_close_231 : decode cL_close 231 = .ok (.goto 21, 3) := by decide +kernel
theorem dL_close_234 : decode cL_close 234 = .ok (.aload 7, 2) := by decide +kernel
theorem dL_close_236 : decode cL_close 236 = .ok (.aload 7, 2) := by decide +kernel
theorem dL_close_238 : decode cL_close 238 = .ok (.iload 11, 2) := by decide +kernel
theorem dL_close_240 : decode cL_close 240 = .ok (.iaload, 1) := by decide +kernel
theorem dL_close_241 : decode cL_close 241 = .ok (.aload 7, 2) := by decide +kernel
theorem dL_close_243 : decode cL_close 243 = .ok (.iload 10, 2) := by decide +kernel
theorem dL_close_245 : decode cL_close 245 = .ok (.iaload, 1) := by decide +kernel
theorem dL_close_246 : decode cL_close 246 = .ok (.invokestatic 71, 3) := by decide +kernel
theorem dL_close_249 : decode cL_close 249 = .ok (.iconst 1, 1) := by decide +kernel
theorem dL_close_250 : decode cL_close 250 = .ok (.istore 9, 2) := by decide +kernel
theorem dL_close_252 : decode cL_close 252 = .ok (.iinc 11 1, 3) := by decide +kernel
theorem dL_close_255 : decode cL_close 255 = .ok (.goto (-124), 3) := by decide +kernel
theorem dL_close_258 : decode cL_close 258 = .ok (.iinc 10 1, 3) := by decide +kernel
theorem dL_close_261 : decode cL_close 261 = .ok (.goto (-140), 3) := by decide +kernel
theorem dL_close_264 : decode cL_close 264 = .ok (.goto (-154), 3) := by decide +kernel
theorem dL_close_267 : decode cL_close 267 = .ok (.return_, 1) := by decide +kernel
theorem dL_declare_0 : decode cL_declare 0 = .ok (.aload_n 0, 1) := by decide +kernel
theorem dL_declare_1 : decode cL_declare 1 = .ok (.iload_n 1, 1) := by decide +kernel
theorem dL_declare_2 : decode cL_declare 2 = .ok (.bipush 24, 2) := by decide +kernel
theorem dL_declare_4 : decode cL_declare 4 = .ok (.ishl, 1) := by decide +kernel
theorem dL_declare_5 : decode cL_declare 5 = .ok (.iconst 0, 1) := by decide +kernel
theorem dL_declare_6 : decode cL_declare 6 = .ok (.iconst 0, 1) := by decide +kernel
theorem dL_declare_7 : decode cL_declare 7 = .ok (.iconst 0, 1) := by decide +kernel
theorem dL_declare_8 : decode cL_declare 8 = .ok (.iconst 0, 1) := by decide +kernel
theorem dL_declare_9 : decode cL_declare 9 = .ok (.invokevirtual 9, 3) := by decide +kernel
theorem dL_declare_12 : decode cL_declare 12 = .ok (.istore 4, 2) := by decide +kernel
theorem dL_declare_14 : decode cL_declare 14 = .ok (.iload 4, 2) := by decide +kernel
theorem dL_declare_16 : decode cL_declare 16 = .ok (.bipush 20, 2) := by decide +kernel
theorem dL_declare_18 : decode cL_declare 18 = .ok (.if_icmp .ne 21, 3) := by decide +kernel
theorem dL_declare_21 : decode cL_declare 21 = .ok (.aload_n 0, 1) := by decide +kernel
theorem dL_declare_22 : decode cL_declare 22 = .ok (.iconst 1, 1) := by decide +kernel
theorem dL_declare_23 : decode cL_declare 23 = .ok (.invokevirtual 15, 3) := by decide +kernel
theorem dL_declare_26 : decode cL_declare 26 = .ok (.iconst 1, 1) := by decide +kernel
theorem dL_declare_27 : decode cL_declare 27 = .ok (.if_icmp .ne 12, 3) := by decide +kernel
theorem dL_declare_30 : decode cL_declare 30 = .ok (.aload_n 0, 1) := by decide +kernel
theorem dL_declare_31 : decode cL_declare 31 = .ok (.iload_n 2, 1) := by decide +kernel
theorem dL_declare_32 : decode cL_declare 32 = .ok (.iload_n 3, 1) := by decide +kernel
theorem dL_declare_33 : decode cL_declare 33 = .ok (.invokevirtual 19, 3) := by decide +kernel
theorem dL_declare_36 : decode cL_declare 36 = .ok (.goto 4, 3) := by decide +kernel
theorem dL_declare_39 : decode cL_declare 39 = .ok (.iconst (-1), 1) := by decide +kernel
theorem dL_declare_40 : decode cL_declare 40 = .ok (.ireturn, 1) := by decide +kernel
theorem dL_equate_0 : decode cL_equate 0 = .ok (.aload_n 0, 1) := by decide +kernel
theorem dL_equate_1 : decode cL_equate 1 = .ok (.iload_n 1, 1) := by decide +kernel
theorem dL_equate_2 : decode cL_equate 2 = .ok (.iload_n 2, 1) := by decide +kernel
theorem dL_equate_3 : decode cL_equate 3 = .ok (.invokevirtual 61, 3) := by decide +kernel
theorem dL_equate_6 : decode cL_equate 6 = .ok (.ireturn, 1) := by decide +kernel
theorem dL_equate_7 : decode cL_equate 7 = .ok (.astore_n 3, 1) := by decide +kernel
theorem dL_equate_8 : decode cL_equate 8 = .ok (.iconst (-1), 1) := by decide +kernel
theorem dL_equate_9 : decode cL_equate 9 = .ok (.ireturn, 1) := by decide +kernel
theorem dL_law_0 : decode cL_law 0 = .ok (.new 10, 3) := by decide +kernel
theorem dL_law_3 : decode cL_law 3 = .ok (.dup, 1) := by decide +kernel
theorem dL_law_4 : decode cL_law 4 = .ok (.invokespecial 79, 3) := by decide +kernel
theorem dL_law_7 : decode cL_law 7 = .ok (.astore_n 1, 1) := by decide +kernel
theorem dL_law_8 : decode cL_law 8 = .ok (.aload_n 1, 1) := by decide +kernel
theorem dL_law_9 : decode cL_law 9 = .ok (.aload_n 0, 1) := by decide +kernel
theorem dL_law_10 : decode cL_law 10 = .ok (.iconst 0, 1) := by decide +kernel
theorem dL_law_11 : decode cL_law 11 = .ok (.invokestatic 45, 3) := by decide +kernel
theorem dL_law_14 : decode cL_law 14 = .ok (.invokestatic 80, 3) := by decide +kernel
theorem dL_law_17 : decode cL_law 17 = .ok (.ifCond .ne 5, 3) := by decide +kernel
theorem dL_law_22 : decode cL_law 22 = .ok (.bipush 14, 2) := by decide +kernel
theorem dL_law_24 : decode cL_law 24 = .ok (.newarray .int, 2) := by decide +kernel
theorem dL_law_26 : decode cL_law 26 = .ok (.astore_n 2, 1) := by decide +kernel
theorem dL_law_27 : decode cL_law 27 = .ok (.bipush 14, 2) := by decide +kernel
theorem dL_law_29 : decode cL_law 29 = .ok (.newarray .int, 2) := by decide +kernel
theorem dL_law_31 : decode cL_law 31 = .ok (.astore_n 3, 1) := by decide +kernel
theorem dL_law_32 : decode cL_law 32 = .ok (.bipush 14, 2) := by decide +kernel
theorem dL_law_34 : decode cL_law 34 = .ok (.newarray .int, 2) := by decide +kernel
theorem dL_law_36 : decode cL_law 36 = .ok (.astore 4, 2) := by decide +kernel
theorem dL_law_38 : decode cL_law 38 = .ok (.bipush 14, 2) := by decide +kernel
theorem dL_law_40 : decode cL_law 40 = .ok (.newarray .int, 2) := by decide +kernel
theorem dL_law_42 : decode cL_law 42 = .ok (.astore 5, 2) := by decide +kernel
theorem dL_law_44 : decode cL_law 44 = .ok (.bipush 30, 2) := by decide +kernel
theorem dL_law_46 : decode cL_law 46 = .ok (.newarray .int, 2) := by decide +kernel
theorem dL_law_48 : decode cL_law 48 = .ok (.astore 6, 2) := by decide +kernel
theorem dL_law_50 : decode cL_law 50 = .ok (.bipush 30, 2) := by decide +kernel
theorem dL_law_52 : decode cL_law 52 = .ok (.newarray .int, 2) := by decide +kernel
theorem dL_law_54 : decode cL_law 54 = .ok (.astore 7, 2) := by decide +kernel
theorem dL_law_56 : decode cL_law 56 = .ok (.bipush 9, 2) := by decide +kernel
theorem dL_law_58 : decode cL_law 58 = .ok (.newarray .int, 2) := by decide +kernel
theorem dL_law_60 : decode cL_law 60 = .ok (.astore 8, 2) := by decide +kernel
theorem dL_law_62 : decode cL_law 62 = .ok (.aload_n 1, 1) := by decide +kernel
theorem dL_law_63 : decode cL_law 63 = .ok (.aload_n 0, 1) := by decide +kernel
theorem dL_law_64 : decode cL_law 64 = .ok (.iconst 1, 1) := by decide +kernel
theorem dL_law_65 : decode cL_law 65 = .ok (.aload_n 2, 1) := by decide +kernel
theorem dL_law_66 : decode cL_law 66 = .ok (.aload_n 3, 1) := by decide +kernel
theorem dL_law_67 : decode cL_law 67 = .ok (.aload 4, 2) := by decide +kernel
theorem dL_law_69 : decode cL_law 69 = .ok (.invokestatic 84, 3) := by decide +kernel
theorem dL_law_72 : decode cL_law 72 = .ok (.iconst 0, 1) := by decide +kernel
theorem dL_law_73 : decode cL_law 73 = .ok (.istore 9, 2) := by decide +kernel
theorem dL_law_75 : decode cL_law 75 = .ok (.iconst 0, 1) := by decide +kernel
theorem dL_law_76 : decode cL_law 76 = .ok (.istore 10, 2) := by decide +kernel
theorem dL_law_78 : decode cL_law 78 = .ok (.iconst 0, 1) := by decide +kernel
theorem dL_law_79 : decode cL_law 79 = .ok (.istore 11, 2) := by decide +kernel
theorem dL_law_81 : decode cL_law 81 = .ok (.iload 11, 2) := by decide +kernel
theorem dL_law_83 : decode cL_law 83 = .ok (.bipush 12, 2) := by decide +kernel
theorem dL_law_85 : decode cL_law 85 = .ok (.if_icmp .ge 390, 3) := by decide +kernel
theorem dL_law_88 : decode cL_law 88 = .ok (.aload_n 0, 1) := by decide +kernel
theorem dL_law_89 : decode cL_law 89 = .ok (.bipush 15, 2) := by decide +kernel
theorem dL_law_91 : decode cL_law 91 = .ok (.iload 11, 2) := by decide +kernel
theorem dL_law_93 : decode cL_law 93 = .ok (.iadd, 1) := by decide +kernel
theorem dL_law_94 : decode cL_law 94 = .ok (.invokestatic 45, 3) := by decide +kernel
theorem dL_law_97 : decode cL_law 97 = .ok (.istore 12, 2) := by decide +kernel
theorem dL_law_99 : decode cL_law 99 = .ok (.iload 12, 2) := by decide +kernel
theorem dL_law_101 : decode cL_law 101 = .ok (.bipush 6, 2) := by decide +kernel
theorem dL_law_103 : decode cL_law 103 = .ok (.invokestatic 23, 3) := by decide +kernel
theorem dL_law_106 : decode cL_law 106 = .ok (.istore 13, 2) := by decide +kernel
theorem dL_law_108 : decode cL_law 108 = .ok (.iload 13, 2) := by decide +kernel
theorem dL_law_110 : decode cL_law 110 = .ok (.ifCond .ne 31, 3) := by decide +kernel
theorem dL_law_113 : decode cL_law 113 = .ok (.iload 10, 2) := by decide +kernel
theorem dL_law_115 : decode cL_law 115 = .ok (.bipush 8, 2) := by decide +kernel
theorem dL_law_117 : decode cL_law 117 = .ok (.if_icmp .ge 24, 3) := by decide +kernel
theorem dL_law_120 : decode cL_law 120 = .ok (.aload 8, 2) := by decide +kernel
theorem dL_law_122 : decode cL_law 122 = .ok (.iload 10, 2) := by decide +kernel
theorem dL_law_124 : decode cL_law 124 = .ok (.iload 9, 2) := by decide +kernel
theorem dL_law_126 : decode cL_law 126 = .ok (.iastore, 1) := by decide +kernel
theorem dL_law_127 : decode cL_law 127 = .ok (.iinc 10 1, 3) := by decide +kernel
theorem dL_law_130 : decode cL_law 130 = .ok (.aload_n 1, 1) := by decide +kernel
theorem dL_law_131 : decode cL_law 131 = .ok (.invokevirtual 88, 3) := by decide +kernel
theorem dL_law_134 : decode cL_law 134 = .ok (.iload 10, 2) := by decide +kernel
theorem dL_law_136 : decode cL_law 136 = .ok (.if_icmp .eq 118, 3) := by decide +kernel
theorem dL_law_139 : decode cL_law 139 = .ok (.iconst 0, 1) := by decide +kernel
theorem dL_law_141 : decode cL_law 141 = .ok (.iload 13, 2) := by decide +kernel
theorem dL_law_143 : decode cL_law 143 = .ok (.iconst 1, 1) := by decide +kernel
theorem dL_law_144 : decode cL_law 144 = .ok (.if_icmp .ne 34, 3) := by decide +kernel
theorem dL_law_147 : decode cL_law 147 = .ok (.aload_n 1, 1) := by decide +kernel
theorem dL_law_148 : decode cL_law 148 = .ok (.invokestatic 91, 3) := by decide +kernel
theorem dL_law_151 : decode cL_law 151 = .ok (.iload 10, 2) := by decide +kernel
theorem dL_law_153 : decode cL_law 153 = .ok (.iconst 1, 1) := by decide +kernel
theorem dL_law_154 : decode cL_law 154 = .ok (.isub, 1) := by decide +kernel
theorem dL_law_155 : decode cL_law 155 = .ok (.if_icmp .eq 5, 3) := by decide +kernel
theorem dL_law_158 : decode cL_law 158 = .ok (.iconst 0, 1) := by decide +kernel
theorem dL_law_160 : decode cL_law 160 = .ok (.iload 10, 2) := by decide +kernel
theorem dL_law_162 : decode cL_law 162 = .ok (.ifCond .le 92, 3) := by decide +kernel
theorem dL_law_165 : decode cL_law 165 = .ok (.iinc 10 (-1), 3) := by decide +kernel
theorem dL_law_168 : decode cL_law 168 = .ok (.aload 8, 2) := by decide +kernel
theorem dL_law_170 : decode cL_law 170 = .ok (.iload 10, 2) := by decide +kernel
theorem dL_law_172 : decode cL_law 172 = .ok (.iaload, 1) := by decide +kernel
theorem dL_law_173 : decode cL_law 173 = .ok (.istore 9, 2) := by decide +kernel
theorem dL_law_175 : decode cL_law 175 = .ok (.goto 79, 3) := by decide +kernel
theorem dL_law_178 : decode cL_law 178 = .ok (.iload 12, 2) := by decide +kernel
theorem dL_law_180 : decode cL_law 180 = .ok (.iconst 4, 1) := by decide +kernel
theorem dL_law_181 : decode cL_law 181 = .ok (.ishr, 1) := by decide +kernel
theorem dL_law_182 : decode cL_law 182 = .ok (.bipush 14, 2) := by decide +kernel
theorem dL_law_184 : decode cL_law 184 = .ok (.invokestatic 23, 3) := by decide +kernel
theorem dL_law_187 : decode cL_law 187 = .ok (.istore 14, 2) := by decide +kernel
theorem dL_law_189 : decode cL_law 189 = .ok (.iload 12, 2) := by decide +kernel
theorem dL_law_191 : decode cL_law 191 = .ok (.bipush 12, 2) := by decide +kernel
theorem dL_law_193 : decode cL_law 193 = .ok (.ishr, 1) := by decide +kernel
theorem dL_law_194 : decode cL_law 194 = .ok (.bipush 14, 2) := by decide +kernel
theorem dL_law_196 : decode cL_law 196 = .ok (.invokestatic 23, 3) := by decide +kernel
theorem dL_law_199 : decode cL_law 199 = .ok (.istore 15, 2) := by decide +kernel
theorem dL_law_201 : decode cL_law 201 = .ok (.aload_n 1, 1) := by decide +kernel
theorem dL_law_202 : decode cL_law 202 = .ok (.aload_n 2, 1) := by decide +kernel
theorem dL_law_203 : decode cL_law 203 = .ok (.iload 14, 2) := by decide +kernel
theorem dL_law_205 : decode cL_law 205 = .ok (.iaload, 1) := by decide +kernel
theorem dL_law_206 : decode cL_law 206 = .ok (.aload_n 2, 1) := by decide +kernel
theorem dL_law_207 : decode cL_law 207 = .ok (.iload 15, 2) := by decide +kernel
theorem dL_law_209 : decode cL_law 209 = .ok (.iaload, 1) := by decide +kernel
theorem dL_law_210 : decode cL_law 210 = .ok (.invokestatic 94, 3) := by decide +kernel
theorem dL_law_213 : decode cL_law 213 = .ok (.istore 16, 2) := by decide +kernel
theorem dL_law_215 : decode cL_law 215 = .ok (.iload 16, 2) := by decide +kernel
theorem dL_law_217 : decode cL_law 217 = .ok (.iconst (-1), 1) := by decide +kernel
theorem dL_law_218 : decode cL_law 218 = .ok (.if_icmp .eq 12, 3) := by decide +kernel
theorem dL_law_221 : decode cL_law 221 = .ok (.iload 16, 2) := by decide +kernel
theorem dL_law_223 : decode cL_law 223 = .ok (.iload 9, 2) := by decide +kernel
theorem dL_law_225 : decode cL_law 225 = .ok (.if_icmp .eq 5, 3) := by decide +kernel
theorem dL_law_228 : decode cL_law 228 = .ok (.iconst 0, 1) := by decide +kernel
theorem dL_law_230 : decode cL_law 230 = .ok (.iload 16, 2) := by decide +kernel
theorem dL_law_232 : decode cL_law 232 = .ok (.iload 9, 2) := by decide +kernel
theorem dL_law_234 : decode cL_law 234 = .ok (.if_icmp .ne 20, 3) := by decide +kernel
theorem dL_law_237 : decode cL_law 237 = .ok (.aload 6, 2) := by decide +kernel
theorem dL_law_239 : decode cL_law 239 = .ok (.iload 9, 2) := by decide +kernel
theorem dL_law_241 : decode cL_law 241 = .ok (.iload 14, 2) := by decide +kernel
theorem dL_law_243 : decode cL_law 243 = .ok (.iastore, 1) := by decide +kernel
theorem dL_law_244 : decode cL_law 244 = .ok (.aload 7, 2) := by decide +kernel
theorem dL_law_246 : decode cL_law 246 = .ok (.iload 9, 2) := by decide +kernel
theorem dL_law_248 : decode cL_law 248 = .ok (.iload 15, 2) := by decide +kernel
theorem dL_law_250 : decode cL_law 250 = .ok (.iastore, 1) := by decide +kernel
theorem dL_law_251 : decode cL_law 251 = .ok (.iinc 9 1, 3) := by decide +kernel
theorem dL_law_254 : decode cL_law 254 = .ok (.aload_n 1, 1) := by decide +kernel
theorem dL_law_255 : decode cL_law 255 = .ok (.invokevirtual 97, 3) := by decide +kernel
theorem dL_law_258 : decode cL_law 258 = .ok (.iload 9, 2) := by decide +kernel
theorem dL_law_260 : decode cL_law 260 = .ok (.if_icmp .eq 5, 3) := by decide +kernel
theorem dL_law_263 : decode cL_law 263 = .ok (.iconst 0, 1) := by decide +kernel
theorem dL_law_265 : decode cL_law 265 = .ok (.aload_n 2, 1) := by decide +kernel
theorem dL_law_266 : decode cL_law 266 = .ok (.aload_n 3, 1) := by decide +kernel
theorem dL_law_267 : decode cL_law 267 = .ok (.aload 4, 2) := by decide +kernel
theorem dL_law_269 : decode cL_law 269 = .ok (.aload 6, 2) := by decide +kernel
theorem dL_law_271 : decode cL_law 271 = .ok (.aload 7, 2) := by decide +kernel
theorem dL_law_273 : decode cL_law 273 = .ok (.iload 9, 2) := by decide +kernel
theorem dL_law_275 : decode cL_law 275 = .ok (.iconst (-1), 1) := by decide +kernel
theorem dL_law_276 : decode cL_law 276 = .ok (.aload 5, 2) := by decide +kernel
theorem dL_law_278 : decode cL_law 278 = .ok (.invokestatic 100, 3) := by decide +kernel
theorem dL_law_281 : decode cL_law 281 = .ok (.iconst 0, 1) := by decide +kernel
theorem dL_law_282 : decode cL_law 282 = .ok (.istore 14, 2) := by decide +kernel
theorem dL_law_284 : decode cL_law 284 = .ok (.iload 14, 2) := by decide +kernel
theorem dL_law_286 : decode cL_law 286 = .ok (.bipush 14, 2) := by decide +kernel
theorem dL_law_288 : decode cL_law 288 = .ok (.if_icmp .ge 181, 3) := by decide +kernel
theorem dL_law_291 : decode cL_law 291 = .ok (.aload_n 1, 1) := by decide +kernel
theorem dL_law_292 : decode cL_law 292 = .ok (.aload_n 2, 1) := by decide +kernel
theorem dL_law_293 : decode cL_law 293 = .ok (.iload 14, 2) := by decide +kernel
theorem dL_law_295 : decode cL_law 295 = .ok (.iaload, 1) := by decide +kernel
theorem dL_law_296 : decode cL_law 296 = .ok (.invokestatic 104, 3) := by decide +kernel
theorem dL_law_299 : decode cL_law 299 = .ok (.istore 15, 2) := by decide +kernel
theorem dL_law_301 : decode cL_law 301 = .ok (.iconst 5, 1) := by decide +kernel
theorem dL_law_302 : decode cL_law 302 = .ok (.iload 14, 2) := by decide +kernel
theorem dL_law_304 : decode cL_law 304 = .ok (.imul, 1) := by decide +kernel
theorem dL_law_305 : decode cL_law 305 = .ok (.iload 12, 2) := by decide +kernel
theorem dL_law_307 : decode cL_law 307 = .ok (.iadd, 1) := by decide +kernel
theorem dL_law_308 : decode cL_law 308 = .ok (.bipush 14, 2) := by decide +kernel
theorem dL_law_310 : decode cL_law 310 = .ok (.invokestatic 23, 3) := by decide +kernel
theorem dL_law_313 : decode cL_law 313 = .ok (.istore 16, 2) := by decide +kernel
theorem dL_law_315 : decode cL_law 315 = .ok (.aload_n 1, 1) := by decide +kernel
theorem dL_law_316 : decode cL_law 316 = .ok (.aload_n 2, 1) := by decide +kernel
theorem dL_law_317 : decode cL_law 317 = .ok (.iload 16, 2) := by decide +kernel
theorem dL_law_319 : decode cL_law 319 = .ok (.iaload, 1) := by decide +kernel
theorem dL_law_320 : decode cL_law 320 = .ok (.invokestatic 104, 3) := by decide +kernel
theorem dL_law_323 : decode cL_law 323 = .ok (.istore 17, 2) := by decide +kernel
theorem dL_law_325 : decode cL_law 325 = .ok (.aload 5, 2) := by decide +kernel
theorem dL_law_327 : decode cL_law 327 = .ok (.iload 14, 2) := by decide +kernel
theorem dL_law_329 : decode cL_law 329 = .ok (.iaload, 1) := by decide +kernel
theorem dL_law_330 : decode cL_law 330 = .ok (.aload 5, 2) := by decide +kernel
theorem dL_law_332 : decode cL_law 332 = .ok (.iload 16, 2) := by decide +kernel
theorem dL_law_334 : decode cL_law 334 = .ok (.iaload, 1) := by decide +kernel
theorem dL_law_335 : decode cL_law 335 = .ok (.if_icmp .ne 7, 3) := by decide +kernel
theorem dL_law_338 : decode cL_law 338 = .ok (.iconst 1, 1) := by decide +kernel
theorem dL_law_339 : decode cL_law 339 = .ok (.goto 4, 3) := by decide +kernel
theorem dL_law_342 : decode cL_law 342 = .ok (.iconst 0, 1) := by decide +kernel
theorem dL_law_343 : decode cL_law 343 = .ok (.istore 18, 2) := by decide +kernel
theorem dL_law_345 : decode cL_law 345 = .ok (.aload_n 1, 1) := by decide +kernel
theorem dL_law_346 : decode cL_law 346 = .ok (.aload_n 2, 1) := by decide +kernel
theorem dL_law_347 : decode cL_law 347 = .ok (.iload 14, 2) := by decide +kernel
theorem dL_law_349 : decode cL_law 349 = .ok (.iaload, 1) := by decide +kernel
theorem dL_law_350 : decode cL_law 350 = .ok (.aload_n 2, 1) := by decide +kernel
theorem dL_law_351 : decode cL_law 351 = .ok (.iload 16, 2) := by decide +kernel
theorem dL_law_353 : decode cL_law 353 = .ok (.iaload, 1) := by decide +kernel
theorem dL_law_354 : decode cL_law 354 = .ok (.invokevirtual 108, 3) := by decide +kernel
theorem dL_law_357 : decode cL_law 357 = .ok (.iload 18, 2) := by decide +kernel
theorem dL_law_359 : decode cL_law 359 = .ok (.if_icmp .ne 53, 3) := by decide +kernel
theorem dL_law_362 : decode cL_law 362 = .ok (.iload 15, 2) := by decide +kernel
theorem dL_law_364 : decode cL_law 364 = .ok (.ifCond .lt 25, 3) := by decide +kernel
theorem dL_law_367 : decode cL_law 367 = .ok (.iload 17, 2) := by decide +kernel
theorem dL_law_369 : decode cL_law 369 = .ok (.ifCond .lt 20, 3) := by decide +kernel
theorem dL_law_372 : decode cL_law 372 = .ok (.iload 15, 2) := by decide +kernel
theorem dL_law_374 : decode cL_law 374 = .ok (.iload 17, 2) := by decide +kernel
theorem dL_law_376 : decode cL_law 376 = .ok (.if_icmp .ne 7, 3) := by decide +kernel
theorem dL_law_379 : decode cL_law 379 = .ok (.iconst 1, 1) := by decide +kernel
theorem dL_law_380 : decode cL_law 380 = .ok (.goto 4, 3) := by decide +kernel
theorem dL_law_383 : decode cL_law 383 = .ok (.iconst 0, 1) := by decide +kernel
theorem dL_law_384 : decode cL_law 384 = .ok (.iload 18, 2) := by decide +kernel
theorem dL_law_386 : decode cL_law 386 = .ok (.if_icmp .ne 26, 3) := by decide +kernel
theorem dL_law_389 : decode cL_law 389 = .ok (.iload 15, 2) := by decide +kernel
theorem dL_law_391 : decode cL_law 391 = .ok (.ifCond .lt 23, 3) := by decide +kernel
theorem dL_law_394 : decode cL_law 394 = .ok (.iload 18, 2) := by decide +kernel
theorem dL_law_396 : decode cL_law 396 = .ok (.ifCond .eq 18, 3) := by decide +kernel
theorem dL_law_399 : decode cL_law 399 = .ok (.aload_n 1, 1) := by decide +kernel
theorem dL_law_400 : decode cL_law 400 = .ok (.aload_n 2, 1) := by decide +kernel
theorem dL_law_401 : decode cL_law 401 = .ok (.iload 16, 2) := by decide +kernel
theorem dL_law_403 : decode cL_law 403 = .ok (.iaload, 1) := by decide +kernel
theorem dL_law_404 : decode cL_law 404 = .ok (.iload 15, 2) := by decide +kernel
theorem dL_law_406 : decode cL_law 406 = .ok (.invokevirtual 112, 3) := by decide +kernel
theorem dL_law_409 : decode cL_law 409 = .ok (.ifCond .ge 5, 3) := by decide +kernel
theorem dL_law_412 : decode cL_law 412 = .ok (.iconst 0, 1) := by decide +kernel
theorem dL_law_414 : decode cL_law 414 = .ok (.aload_n 1, 1) := by decide +kernel
theorem dL_law_415 : decode cL_law 415 = .ok (.aload_n 2, 1) := by decide +kernel
theorem dL_law_416 : decode cL_law 416 = .ok (.iload 14, 2) := by decide +kernel
theorem dL_law_418 : decode cL_law 418 = .ok (.iaload, 1) := by decide +kernel
theorem dL_law_419 : decode cL_law 419 = .ok (.invokevirtual 115, 3) := by decide +kernel
theorem dL_law_422 : decode cL_law 422 = .ok (.ifCond .ne 7, 3) := by decide +kernel
theorem dL_law_425 : decode cL_law 425 = .ok (.iconst 1, 1) := by decide +kernel
theorem dL_law_426 : decode cL_law 426 = .ok (.goto 4, 3) := by decide +kernel
theorem dL_law_429 : decode cL_law 429 = .ok (.iconst 0, 1) := by decide +kernel
theorem dL_law_430 : decode cL_law 430 = .ok (.iload 15, 2) := by decide +kernel
theorem dL_law_432 : decode cL_law 432 = .ok (.aload_n 2, 1) := by decide +kernel
theorem dL_law_433 : decode cL_law 433 = .ok (.iload 14, 2) := by decide +kernel
theorem dL_law_435 : decode cL_law 435 = .ok (.iaload, 1) := by decide +kernel
theorem dL_law_436 : decode cL_law 436 = .ok (.if_icmp .ne 7, 3) := by decide +kernel
theorem dL_law_439 : decode cL_law 439 = .ok (.iconst 1, 1) := by decide +kernel
theorem dL_law_440 : decode cL_law 440 = .ok (.goto 4, 3) := by decide +kernel
theorem dL_law_443 : decode cL_law 443 = .ok (.iconst 0, 1) := by decide +kernel
theorem dL_law_444 : decode cL_law 444 = .ok (.if_icmp .ne 17, 3) := by decide +kernel
theorem dL_law_447 : decode cL_law 447 = .ok (.iload 15, 2) := by decide +kernel
theorem dL_law_449 : decode cL_law 449 = .ok (.ifCond .lt 14, 3) := by decide +kernel
theorem dL_law_452 : decode cL_law 452 = .ok (.aload_n 1, 1) := by decide +kernel
theorem dL_law_453 : decode cL_law 453 = .ok (.iload 15, 2) := by decide +kernel
theorem dL_law_455 : decode cL_law 455 = .ok (.invokevirtual 115, 3) := by decide +kernel
theorem dL_law_458 : decode cL_law 458 = .ok (.ifCond .eq 5, 3) := by decide +kernel
theorem dL_law_461 : decode cL_law 461 = .ok (.iconst 0, 1) := by decide +kernel
theorem dL_law_463 : decode cL_law 463 = .ok (.iinc 14 1, 3) := by decide +kernel
theorem dL_law_466 : decode cL_law 466 = .ok (.goto (-182), 3) := by decide +kernel
theorem dL_law_469 : decode cL_law 469 = .ok (.iinc 11 1, 3) := by decide +kernel
theorem dL_law_472 : decode cL_law 472 = .ok (.goto (-391), 3) := by decide +kernel
theorem dL_law_475 : decode cL_law 475 = .ok (.iconst 1, 1) := by decide +kernel
theorem dL_law_476 : decode cL_law 476 = .ok (.ireturn, 1) := by decide +kernel
theorem dL_normal_0 : decode cL_normal 0 = .ok (.aload_n 0, 1) := by decide +kernel
theorem dL_normal_1 : decode cL_normal 1 = .ok (.iload_n 1, 1) := by decide +kernel
theorem dL_normal_2 : decode cL_normal 2 = .ok (.invokevirtual 68, 3) := by decide +kernel
theorem dL_normal_5 : decode cL_normal 5 = .ok (.ireturn, 1) := by decide +kernel
theorem dL_normal_6 : decode cL_normal 6 = .ok (.astore_n 2, 1) := by decide +kernel
theorem dL_normal_7 : decode cL_normal 7 = .ok (.iconst (-1), 1) := by decide +kernel
theorem dL_normal_8 : decode cL_normal 8 = .ok (.ireturn, 1) := by decide +kernel
theorem dL_pop_0 : decode cL_pop 0 = .ok (.aload_n 0, 1) := by decide +kernel
theorem dL_pop_1 : decode cL_pop 1 = .ok (.invokevirtual 75, 3) := by decide +kernel
theorem dL_pop_4 : decode cL_pop 4 = .ok (.ireturn, 1) := by decide +kernel
theorem dL_pop_5 : decode cL_pop 5 = .ok (.astore_n 1, 1) := by decide +kernel
theorem dL_pop_6 : decode cL_pop 6 = .ok (.iconst (-1), 1) := by decide +kernel
theorem dL_pop_7 : decode cL_pop 7 = .ok (.ireturn, 1) := by decide +kernel
theorem dL_setUp_0 : decode cL_setUp 0 = .ok (.aload_n 0, 1) := by decide +kernel
theorem dL_setUp_1 : decode cL_setUp 1 = .ok (.bipush 97, 2) := by decide +kernel
theorem dL_setUp_3 : decode cL_setUp 3 = .ok (.iconst 0, 1) := by decide +kernel
theorem dL_setUp_4 : decode cL_setUp 4 = .ok (.iconst 1, 1) := by decide +kernel
theorem dL_setUp_5 : decode cL_setUp 5 = .ok (.iload_n 1, 1) := by decide +kernel
theorem dL_setUp_6 : decode cL_setUp 6 = .ok (.bipush 20, 2) := by decide +kernel
theorem dL_setUp_8 : decode cL_setUp 8 = .ok (.ishr, 1) := by decide +kernel
theorem dL_setUp_9 : decode cL_setUp 9 = .ok (.iconst 3, 1) := by decide +kernel
theorem dL_setUp_10 : decode cL_setUp 10 = .ok (.invokestatic 23, 3) := by decide +kernel
theorem dL_setUp_13 : decode cL_setUp 13 = .ok (.iadd, 1) := by decide +kernel
theorem dL_setUp_14 : decode cL_setUp 14 = .ok (.invokestatic 28, 3) := by decide +kernel
theorem dL_setUp_17 : decode cL_setUp 17 = .ok (.ifCond .ne 31, 3) := by decide +kernel
theorem dL_setUp_20 : decode cL_setUp 20 = .ok (.aload_n 0, 1) := by decide +kernel
theorem dL_setUp_21 : decode cL_setUp 21 = .ok (.bipush 98, 2) := by decide +kernel
theorem dL_setUp_23 : decode cL_setUp 23 = .ok (.iconst 0, 1) := by decide +kernel
theorem dL_setUp_24 : decode cL_setUp 24 = .ok (.iconst 1, 1) := by decide +kernel
theorem dL_setUp_25 : decode cL_setUp 25 = .ok (.invokestatic 28, 3) := by decide +kernel
theorem dL_setUp_28 : decode cL_setUp 28 = .ok (.iconst 1, 1) := by decide +kernel
theorem dL_setUp_29 : decode cL_setUp 29 = .ok (.if_icmp .ne 19, 3) := by decide +kernel
theorem dL_setUp_32 : decode cL_setUp 32 = .ok (.aload_n 0, 1) := by decide +kernel
theorem dL_setUp_33 : decode cL_setUp 33 = .ok (.bipush 99, 2) := by decide +kernel
theorem dL_setUp_35 : decode cL_setUp 35 = .ok (.iconst 0, 1) := by decide +kernel
theorem dL_setUp_36 : decode cL_setUp 36 = .ok (.iconst 2, 1) := by decide +kernel
theorem dL_setUp_37 : decode cL_setUp 37 = .ok (.invokestatic 28, 3) := by decide +kernel
theorem dL_setUp_40 : decode cL_setUp 40 = .ok (.iconst 2, 1) := by decide +kernel
theorem dL_setUp_41 : decode cL_setUp 41 = .ok (.if_icmp .ne 7, 3) := by decide +kernel
theorem dL_setUp_44 : decode cL_setUp 44 = .ok (.iconst 1, 1) := by decide +kernel
theorem dL_setUp_45 : decode cL_setUp 45 = .ok (.goto 4, 3) := by decide +kernel
theorem dL_setUp_48 : decode cL_setUp 48 = .ok (.iconst 0, 1) := by decide +kernel
theorem dL_setUp_49 : decode cL_setUp 49 = .ok (.istore_n 2, 1) := by decide +kernel
theorem dL_setUp_50 : decode cL_setUp 50 = .ok (.iload_n 2, 1) := by decide +kernel
theorem dL_setUp_51 : decode cL_setUp 51 = .ok (.ifCond .eq 40, 3) := by decide +kernel
theorem dL_setUp_54 : decode cL_setUp 54 = .ok (.aload_n 0, 1) := by decide +kernel
theorem dL_setUp_55 : decode cL_setUp 55 = .ok (.bipush 102, 2) := by decide +kernel
theorem dL_setUp_57 : decode cL_setUp 57 = .ok (.iconst 1, 1) := by decide +kernel
theorem dL_setUp_58 : decode cL_setUp 58 = .ok (.iconst 1, 1) := by decide +kernel
theorem dL_setUp_59 : decode cL_setUp 59 = .ok (.iload_n 1, 1) := by decide +kernel
theorem dL_setUp_60 : decode cL_setUp 60 = .ok (.bipush 24, 2) := by decide +kernel
theorem dL_setUp_62 : decode cL_setUp 62 = .ok (.ishr, 1) := by decide +kernel
theorem dL_setUp_63 : decode cL_setUp 63 = .ok (.iconst 3, 1) := by decide +kernel
theorem dL_setUp_64 : decode cL_setUp 64 = .ok (.invokestatic 23, 3) := by decide +kernel
theorem dL_setUp_67 : decode cL_setUp 67 = .ok (.iadd, 1) := by decide +kernel
theorem dL_setUp_68 : decode cL_setUp 68 = .ok (.invokestatic 28, 3) := by decide +kernel
theorem dL_setUp_71 : decode cL_setUp 71 = .ok (.iconst 3, 1) := by decide +kernel
theorem dL_setUp_72 : decode cL_setUp 72 = .ok (.if_icmp .ne 19, 3) := by decide +kernel
theorem dL_setUp_75 : decode cL_setUp 75 = .ok (.aload_n 0, 1) := by decide +kernel
theorem dL_setUp_76 : decode cL_setUp 76 = .ok (.bipush 103, 2) := by decide +kernel
theorem dL_setUp_78 : decode cL_setUp 78 = .ok (.iconst 2, 1) := by decide +kernel
theorem dL_setUp_79 : decode cL_setUp 79 = .ok (.iconst 1, 1) := by decide +kernel
theorem dL_setUp_80 : decode cL_setUp 80 = .ok (.invokestatic 28, 3) := by decide +kernel
theorem dL_setUp_83 : decode cL_setUp 83 = .ok (.iconst 4, 1) := by decide +kernel
theorem dL_setUp_84 : decode cL_setUp 84 = .ok (.if_icmp .ne 7, 3) := by decide +kernel
theorem dL_setUp_87 : decode cL_setUp 87 = .ok (.iconst 1, 1) := by decide +kernel
theorem dL_setUp_88 : decode cL_setUp 88 = .ok (.goto 4, 3) := by decide +kernel
theorem dL_setUp_91 : decode cL_setUp 91 = .ok (.iconst 0, 1) := by decide +kernel
theorem dL_setUp_92 : decode cL_setUp 92 = .ok (.istore_n 2, 1) := by decide +kernel
theorem dL_setUp_93 : decode cL_setUp 93 = .ok (.iload_n 1, 1) := by decide +kernel
theorem dL_setUp_94 : decode cL_setUp 94 = .ok (.bipush 8, 2) := by decide +kernel
theorem dL_setUp_96 : decode cL_setUp 96 = .ok (.ishr, 1) := by decide +kernel
theorem dL_setUp_97 : decode cL_setUp 97 = .ok (.iconst 5, 1) := by decide +kernel
theorem dL_setUp_98 : decode cL_setUp 98 = .ok (.invokestatic 23, 3) := by decide +kernel
theorem dL_setUp_101 : decode cL_setUp 101 = .ok (.istore_n 3, 1) := by decide +kernel
theorem dL_setUp_102 : decode cL_setUp 102 = .ok (.iload_n 1, 1) := by decide +kernel
theorem dL_setUp_103 : decode cL_setUp 103 = .ok (.bipush 12, 2) := by decide +kernel
theorem dL_setUp_105 : decode cL_setUp 105 = .ok (.ishr, 1) := by decide +kernel
theorem dL_setUp_106 : decode cL_setUp 106 = .ok (.iconst 5, 1) := by decide +kernel
theorem dL_setUp_107 : decode cL_setUp 107 = .ok (.invokestatic 23, 3) := by decide +kernel
theorem dL_setUp_110 : decode cL_setUp 110 = .ok (.istore 4, 2) := by decide +kernel
theorem dL_setUp_112 : decode cL_setUp 112 = .ok (.iload_n 2, 1) := by decide +kernel
theorem dL_setUp_113 : decode cL_setUp 113 = .ok (.ifCond .eq 53, 3) := by decide +kernel
theorem dL_setUp_116 : decode cL_setUp 116 = .ok (.aload_n 0, 1) := by decide +kernel
theorem dL_setUp_117 : decode cL_setUp 117 = .ok (.iload_n 1, 1) := by decide +kernel
theorem dL_setUp_118 : decode cL_setUp 118 = .ok (.iconst 1, 1) := by decide +kernel
theorem dL_setUp_119 : decode cL_setUp 119 = .ok (.iand, 1) := by decide +kernel
theorem dL_setUp_120 : decode cL_setUp 120 = .ok (.iconst 1, 1) := by decide +kernel
theorem dL_setUp_121 : decode cL_setUp 121 = .ok (.if_icmp .ne 7, 3) := by decide +kernel
theorem dL_setUp_124 : decode cL_setUp 124 = .ok (.iconst 1, 1) := by decide +kernel
theorem dL_setUp_125 : decode cL_setUp 125 = .ok (.goto 4, 3) := by decide +kernel
theorem dL_setUp_128 : decode cL_setUp 128 = .ok (.iconst 0, 1) := by decide +kernel
theorem dL_setUp_129 : decode cL_setUp 129 = .ok (.invokevirtual 31, 3) := by decide +kernel
theorem dL_setUp_132 : decode cL_setUp 132 = .ok (.ifCond .ne 34, 3) := by decide +kernel
theorem dL_setUp_135 : decode cL_setUp 135 = .ok (.aload_n 0, 1) := by decide +kernel
theorem dL_setUp_136 : decode cL_setUp 136 = .ok (.iconst 4, 1) := by decide +kernel
theorem dL_setUp_137 : decode cL_setUp 137 = .ok (.iload_n 1, 1) := by decide +kernel
theorem dL_setUp_138 : decode cL_setUp 138 = .ok (.iconst 2, 1) := by decide +kernel
theorem dL_setUp_139 : decode cL_setUp 139 = .ok (.iand, 1) := by decide +kernel
theorem dL_setUp_140 : decode cL_setUp 140 = .ok (.iconst 2, 1) := by decide +kernel
theorem dL_setUp_141 : decode cL_setUp 141 = .ok (.if_icmp .ne 7, 3) := by decide +kernel
theorem dL_setUp_144 : decode cL_setUp 144 = .ok (.iconst 1, 1) := by decide +kernel
theorem dL_setUp_145 : decode cL_setUp 145 = .ok (.goto 4, 3) := by decide +kernel
theorem dL_setUp_148 : decode cL_setUp 148 = .ok (.iconst 0, 1) := by decide +kernel
theorem dL_setUp_149 : decode cL_setUp 149 = .ok (.invokevirtual 35, 3) := by decide +kernel
theorem dL_setUp_152 : decode cL_setUp 152 = .ok (.ifCond .ne 14, 3) := by decide +kernel
theorem dL_setUp_155 : decode cL_setUp 155 = .ok (.aload_n 0, 1) := by decide +kernel
theorem dL_setUp_156 : decode cL_setUp 156 = .ok (.iload_n 3, 1) := by decide +kernel
theorem dL_setUp_157 : decode cL_setUp 157 = .ok (.iload 4, 2) := by decide +kernel
theorem dL_setUp_159 : decode cL_setUp 159 = .ok (.invokevirtual 39, 3) := by decide +kernel
theorem dL_setUp_162 : decode cL_setUp 162 = .ok (.iload_n 3, 1) := by decide +kernel
theorem dL_setUp_163 : decode cL_setUp 163 = .ok (.if_icmp .eq 5, 3) := by decide +kernel
theorem dL_setUp_166 : decode cL_setUp 166 = .ok (.iconst 0, 1) := by decide +kernel
theorem dL_setUp_167 : decode cL_setUp 167 = .ok (.ireturn, 1) := by decide +kernel
theorem dL_setUp_168 : decode cL_setUp 168 = .ok (.aload_n 0, 1) := by decide +kernel
theorem dL_setUp_169 : decode cL_setUp 169 = .ok (.iload_n 3, 1) := by decide +kernel
theorem dL_setUp_170 : decode cL_setUp 170 = .ok (.invokevirtual 42, 3) := by decide +kernel
theorem dL_setUp_173 : decode cL_setUp 173 = .ok (.iload 4, 2) := by decide +kernel
theorem dL_setUp_175 : decode cL_setUp 175 = .ok (.if_icmp .ne 7, 3) := by decide +kernel
theorem dL_setUp_178 : decode cL_setUp 178 = .ok (.iconst 1, 1) := by decide +kernel
theorem dL_setUp_179 : decode cL_setUp 179 = .ok (.goto 4, 3) := by decide +kernel
theorem dL_setUp_182 : decode cL_setUp 182 = .ok (.iconst 0, 1) := by decide +kernel
theorem dL_setUp_183 : decode cL_setUp 183 = .ok (.ireturn, 1) := by decide +kernel
theorem dL_unite_0 : decode cL_unite 0 = .ok (.iconst 0, 1) := by decide +kernel
theorem dL_unite_1 : decode cL_unite 1 = .ok (.istore_n 3, 1) := by decide +kernel
theorem dL_unite_2 : decode cL_unite 2 = .ok (.iload_n 3, 1) := by decide +kernel
theorem dL_unite_3 : decode cL_unite 3 = .ok (.aload_n 0, 1) := by decide +kernel
theorem dL_unite_4 : decode cL_unite 4 = .ok (.arraylength, 1) := by decide +kernel
theorem dL_unite_5 : decode cL_unite 5 = .ok (.if_icmp .ge 20, 3) := by decide +kernel
theorem dL_unite_8 : decode cL_unite 8 = .ok (.aload_n 0, 1) := by decide +kernel
theorem dL_unite_9 : decode cL_unite 9 = .ok (.iload_n 3, 1) := by decide +kernel
theorem dL_unite_10 : decode cL_unite 10 = .ok (.iaload, 1) := by decide +kernel
theorem dL_unite_11 : decode cL_unite 11 = .ok (.iload_n 2, 1) := by decide +kernel
theorem dL_unite_12 : decode cL_unite 12 = .ok (.if_icmp .ne 7, 3) := by decide +kernel
theorem dL_unite_15 : decode cL_unite 15 = .ok (.aload_n 0, 1) := by decide +kernel
theorem dL_unite_16 : decode cL_unite 16 = .ok (.iload_n 3, 1) := by decide +kernel
theorem dL_unite_17 : decode cL_unite 17 = .ok (.iload_n 1, 1) := by decide +kernel
theorem dL_unite_18 : decode cL_unite 18 = .ok (.iastore, 1) := by decide +kernel
theorem dL_unite_19 : decode cL_unite 19 = .ok (.iinc 3 1, 3) := by decide +kernel
theorem dL_unite_22 : decode cL_unite 22 = .ok (.goto (-20), 3) := by decide +kernel
theorem dL_unite_25 : decode cL_unite 25 = .ok (.return_, 1) := by decide +kernel
theorem dX0_init_0 : decode cX0_init 0 = .ok (.aload_n 0, 1) := by decide +kernel
theorem dX0_init_1 : decode cX0_init 1 = .ok (.invokespecial 3, 3) := by decide +kernel
theorem dX0_init_4 : decode cX0_init 4 = .ok (.aload_n 0, 1) := by decide +kernel
theorem dX0_init_5 : decode cX0_init 5 = .ok (.sipush 832, 3) := by decide +kernel
theorem dX0_init_8 : decode cX0_init 8 = .ok (.newarray .long, 2) := by decide +kernel
theorem dX0_init_10 : decode cX0_init 10 = .ok (.putfield 9, 3) := by decide +kernel
theorem dX0_init_13 : decode cX0_init 13 = .ok (.aload_n 0, 1) := by decide +kernel
theorem dX0_init_14 : decode cX0_init 14 = .ok (.aload_n 1, 1) := by decide +kernel
theorem dX0_init_15 : decode cX0_init 15 = .ok (.putfield 15, 3) := by decide +kernel
theorem dX0_init_18 : decode cX0_init 18 = .ok (.aload_n 0, 1) := by decide +kernel
theorem dX0_init_19 : decode cX0_init 19 = .ok (.aload_n 2, 1) := by decide +kernel
theorem dX0_init_20 : decode cX0_init 20 = .ok (.putfield 19, 3) := by decide +kernel
theorem dX0_init_23 : decode cX0_init 23 = .ok (.aload_n 0, 1) := by decide +kernel
theorem dX0_init_24 : decode cX0_init 24 = .ok (.aload_n 3, 1) := by decide +kernel
theorem dX0_init_25 : decode cX0_init 25 = .ok (.putfield 23, 3) := by decide +kernel
theorem dX0_init_28 : decode cX0_init 28 = .ok (.aload_n 0, 1) := by decide +kernel
theorem dX0_init_29 : decode cX0_init 29 = .ok (.aload 4, 2) := by decide +kernel
theorem dX0_init_31 : decode cX0_init 31 = .ok (.putfield 27, 3) := by decide +kernel
theorem dX0_init_34 : decode cX0_init 34 = .ok (.return_, 1) := by decide +kernel
theorem dX10_add_0 : decode cX10_add 0 = .ok (.iconst (-1), 1) := by decide +kernel
theorem dX10_add_1 : decode cX10_add 1 = .ok (.istore_n 2, 1) := by decide +kernel
theorem dX10_add_2 : decode cX10_add 2 = .ok (.iload_n 1, 1) := by decide +kernel
theorem dX10_add_3 : decode cX10_add 3 = .ok (.ifCond .lt 21, 3) := by decide +kernel
theorem dX10_add_6 : decode cX10_add 6 = .ok (.aload_n 0, 1) := by decide +kernel
theorem dX10_add_7 : decode cX10_add 7 = .ok (.iload_n 1, 1) := by decide +kernel
theorem dX10_add_8 : decode cX10_add 8 = .ok (.invokevirtual 57, 3) := by decide +kernel
theorem dX10_add_11 : decode cX10_add 11 = .ok (.iconst (-1), 1) := by decide +kernel
theorem dX10_add_12 : decode cX10_add 12 = .ok (.if_icmp .ne 12, 3) := by decide +kernel
theorem dX10_add_15 : decode cX10_add 15 = .ok (.iconst 0, 1) := by decide +kernel
theorem dX10_add_16 : decode cX10_add 16 = .ok (.istore_n 2, 1) := by decide +kernel
theorem dX10_add_17 : decode cX10_add 17 = .ok (.aload_n 0, 1) := by decide +kernel
theorem dX10_add_18 : decode cX10_add 18 = .ok (.getfield 31, 3) := by decide +kernel
theorem dX10_add_21 : decode cX10_add 21 = .ok (.iconst 0, 1) := by decide +kernel
theorem dX10_add_22 : decode cX10_add 22 = .ok (.iload_n 1, 1) := by decide +kernel
theorem dX10_add_23 : decode cX10_add 23 = .ok (.iastore, 1) := by decide +kernel
theorem dX10_add_24 : decode cX10_add 24 = .ok (.iconst 0, 1) := by decide +kernel
theorem dX10_add_25 : decode cX10_add 25 = .ok (.istore_n 3, 1) := by decide +kernel
theorem dX10_add_26 : decode cX10_add 26 = .ok (.iload_n 3, 1) := by decide +kernel
theorem dX10_add_27 : decode cX10_add 27 = .ok (.ldc 60, 2) := by decide +kernel
theorem dX10_add_29 : decode cX10_add 29 = .ok (.if_icmp .ge 67, 3) := by decide +kernel
theorem dX10_add_32 : decode cX10_add 32 = .ok (.iload_n 2, 1) := by decide +kernel
theorem dX10_add_33 : decode cX10_add 33 = .ok (.ifCond .lt 63, 3) := by decide +kernel
theorem dX10_add_36 : decode cX10_add 36 = .ok (.iload_n 2, 1) := by decide +kernel
theorem dX10_add_37 : decode cX10_add 37 = .ok (.iconst 1, 1) := by decide +kernel
theorem dX10_add_38 : decode cX10_add 38 = .ok (.iadd, 1) := by decide +kernel
theorem dX10_add_39 : decode cX10_add 39 = .ok (.sipush 256, 3) := by decide +kernel
theorem dX10_add_42 : decode cX10_add 42 = .ok (.if_icmp .ge 54, 3) := by decide +kernel
theorem dX10_add_45 : decode cX10_add 45 = .ok (.aload_n 0, 1) := by decide +kernel
theorem dX10_add_46 : decode cX10_add 46 = .ok (.aload_n 0, 1) := by decide +kernel
theorem dX10_add_47 : decode cX10_add 47 = .ok (.getfield 31, 3) := by decide +kernel
theorem dX10_add_50 : decode cX10_add 50 = .ok (.iload_n 2, 1) := by decide +kernel
theorem dX10_add_51 : decode cX10_add 51 = .ok (.iaload, 1) := by decide +kernel
theorem dX10_add_52 : decode cX10_add 52 = .ok (.invokevirtual 61, 3) := by decide +kernel
theorem dX10_add_55 : decode cX10_add 55 = .ok (.istore 4, 2) := by decide +kernel
theorem dX10_add_57 : decode cX10_add 57 = .ok (.iload 4, 2) := by decide +kernel
theorem dX10_add_59 : decode cX10_add 59 = .ok (.iconst (-1), 1) := by decide +kernel
theorem dX10_add_60 : decode cX10_add 60 = .ok (.if_icmp .ne 19, 3) := by decide +kernel
theorem dX10_add_63 : decode cX10_add 63 = .ok (.aload_n 0, 1) := by decide +kernel
theorem dX10_add_64 : decode cX10_add 64 = .ok (.aload_n 0, 1) := by decide +kernel
theorem dX10_add_65 : decode cX10_add 65 = .ok (.getfield 31, 3) := by decide +kernel
theorem dX10_add_68 : decode cX10_add 68 = .ok (.iload_n 2, 1) := by decide +kernel
theorem dX10_add_69 : decode cX10_add 69 = .ok (.iaload, 1) := by decide +kernel
theorem dX10_add_70 : decode cX10_add 70 = .ok (.invokevirtual 64, 3) := by decide +kernel
theorem dX10_add_73 : decode cX10_add 73 = .ok (.iinc 2 (-1), 3) := by decide +kernel
theorem dX10_add_76 : decode cX10_add 76 = .ok (.goto 14, 3) := by decide +kernel
theorem dX10_add_79 : decode cX10_add 79 = .ok (.iinc 2 1, 3) := by decide +kernel
theorem dX10_add_82 : decode cX10_add 82 = .ok (.aload_n 0, 1) := by decide +kernel
theorem dX10_add_83 : decode cX10_add 83 = .ok (.getfield 31, 3) := by decide +kernel
theorem dX10_add_86 : decode cX10_add 86 = .ok (.iload_n 2, 1) := by decide +kernel
theorem dX10_add_87 : decode cX10_add 87 = .ok (.iload 4, 2) := by decide +kernel
theorem dX10_add_89 : decode cX10_add 89 = .ok (.iastore, 1) := by decide +kernel
theorem dX10_add_90 : decode cX10_add 90 = .ok (.iinc 3 1, 3) := by decide +kernel
theorem dX10_add_93 : decode cX10_add 93 = .ok (.goto (-67), 3) := by decide +kernel
theorem dX10_add_96 : decode cX10_add 96 = .ok (.return_, 1) := by decide +kernel
theorem dX10_append_0 : decode cX10_append 0 = .ok (.iload_n 1, 1) := by decide +kernel
theorem dX10_append_1 : decode cX10_append 1 = .ok (.ifCond .lt 46, 3) := by decide +kernel
theorem dX10_append_4 : decode cX10_append 4 = .ok (.aload_n 0, 1) := by decide +kernel
theorem dX10_append_5 : decode cX10_append 5 = .ok (.iload_n 1, 1) := by decide +kernel
theorem dX10_append_6 : decode cX10_append 6 = .ok (.invokevirtual 57, 3) := by decide +kernel
theorem dX10_append_9 : decode cX10_append 9 = .ok (.iconst (-1), 1) := by decide +kernel
theorem dX10_append_10 : decode cX10_append 10 = .ok (.if_icmp .ne 37, 3) := by decide +kernel
theorem dX10_append_13 : decode cX10_append 13 = .ok (.aload_n 0, 1) := by decide +kernel
theorem dX10_append_14 : decode cX10_append 14 = .ok (.getfield 15, 3) := by decide +kernel
theorem dX10_append_17 : decode cX10_append 17 = .ok (.iload_n 1, 1) := by decide +kernel
theorem dX10_append_18 : decode cX10_append 18 = .ok (.aload_n 0, 1) := by decide +kernel
theorem dX10_append_19 : decode cX10_append 19 = .ok (.getfield 39, 3) := by decide +kernel
theorem dX10_append_22 : decode cX10_append 22 = .ok (.invokevirtual 47, 3) := by decide +kernel
theorem dX10_append_25 : decode cX10_append 25 = .ok (.aload_n 0, 1) := by decide +kernel
theorem dX10_append_26 : decode cX10_append 26 = .ok (.getfield 22, 3) := by decide +kernel
theorem dX10_append_29 : decode cX10_append 29 = .ok (.aload_n 0, 1) := by decide +kernel
theorem dX10_append_30 : decode cX10_append 30 = .ok (.getfield 39, 3) := by decide +kernel
theorem dX10_append_33 : decode cX10_append 33 = .ok (.iload_n 1, 1) := by decide +kernel
theorem dX10_append_34 : decode cX10_append 34 = .ok (.invokevirtual 47, 3) := by decide +kernel
theorem dX10_append_37 : decode cX10_append 37 = .ok (.aload_n 0, 1) := by decide +kernel
theorem dX10_append_38 : decode cX10_append 38 = .ok (.dup, 1) := by decide +kernel
theorem dX10_append_39 : decode cX10_append 39 = .ok (.getfield 39, 3) := by decide +kernel
theorem dX10_append_42 : decode cX10_append 42 = .ok (.iconst 1, 1) := by decide +kernel
theorem dX10_append_43 : decode cX10_append 43 = .ok (.iadd, 1) := by decide +kernel
theorem dX10_append_44 : decode cX10_append 44 = .ok (.putfield 39, 3) := by decide +kernel
theorem dX10_append_47 : decode cX10_append 47 = .ok (.return_, 1) := by decide +kernel
theorem dX10_clear_0 : decode cX10_clear 0 = .ok (.aload_n 0, 1) := by decide +kernel
theorem dX10_clear_1 : decode cX10_clear 1 = .ok (.iconst 0, 1) := by decide +kernel
theorem dX10_clear_2 : decode cX10_clear 2 = .ok (.putfield 39, 3) := by decide +kernel
theorem dX10_clear_5 : decode cX10_clear 5 = .ok (.return_, 1) := by decide +kernel
theorem dX10_count_0 : decode cX10_count 0 = .ok (.aload_n 0, 1) := by decide +kernel
theorem dX10_count_1 : decode cX10_count 1 = .ok (.getfield 39, 3) := by decide +kernel
theorem dX10_count_4 : decode cX10_count 4 = .ok (.ireturn, 1) := by decide +kernel
theorem dX10_firstUnlisted_0 : decode cX10_firstUnlisted 0 = .ok (.iconst 0, 1) := by decide +kernel
theorem dX10_firstUnlisted_1 : decode cX10_firstUnlisted 1 = .ok (.istore_n 2, 1) := by decide +kernel
theorem dX10_firstUnlisted_2 : decode cX10_firstUnlisted 2 = .ok (.iload_n 2, 1) := by decide +kernel
theorem dX10_firstUnlisted_3 : decode cX10_firstUnlisted 3 = .ok (.aload_n 0, 1) := by decide +kernel
theorem dX10_firstUnlisted_4 : decode cX10_firstUnlisted 4 = .ok (.getfield 35, 3) := by decide +kernel
theorem dX10_firstUnlisted_7 : decode cX10_firstUnlisted 7 = .ok (.iload_n 1, 1) := by decide +kernel
theorem dX10_firstUnlisted_8 : decode cX10_firstUnlisted 8 = .ok (.invokevirtual 67, 3) := by decide +kernel
theorem dX10_firstUnlisted_11 : decode cX10_firstUnlisted 11 = .ok (.if_icmp .ge 30, 3) := by decide +kernel
theorem dX10_firstUnlisted_14 : decode cX10_firstUnlisted 14 = .ok (.aload_n 0, 1) := by decide +kernel
theorem dX10_firstUnlisted_15 : decode cX10_firstUnlisted 15 = .ok (.getfield 35, 3) := by decide +kernel
theorem dX10_firstUnlisted_18 : decode cX10_firstUnlisted 18 = .ok (.iload_n 1, 1) := by decide +kernel
theorem dX10_firstUnlisted_19 : decode cX10_firstUnlisted 19 = .ok (.iload_n 2, 1) := by decide +kernel
theorem dX10_firstUnlisted_20 : decode cX10_firstUnlisted 20 = .ok (.invokevirtual 51, 3) := by decide +kernel
theorem dX10_firstUnlisted_23 : decode cX10_firstUnlisted 23 = .ok (.istore_n 3, 1) := by decide +kernel
theorem dX10_firstUnlisted_24 : decode cX10_firstUnlisted 24 = .ok (.aload_n 0, 1) := by decide +kernel
theorem dX10_firstUnlisted_25 : decode cX10_firstUnlisted 25 = .ok (.iload_n 3, 1) := by decide +kernel
theorem dX10_firstUnlisted_26 : decode cX10_firstUnlisted 26 = .ok (.invokevirtual 57, 3) := by decide +kernel
theorem dX10_firstUnlisted_29 : decode cX10_firstUnlisted 29 = .ok (.iconst (-1), 1) := by decide +kernel
theorem dX10_firstUnlisted_30 : decode cX10_firstUnlisted 30 = .ok (.if_icmp .ne 5, 3) := by decide +kernel
theorem dX10_firstUnlisted_33 : decode cX10_firstUnlisted 33 = .ok (.iload_n 3, 1) := by decide +kernel
theorem dX10_firstUnlisted_34 : decode cX10_firstUnlisted 34 = .ok (.ireturn, 1) := by decide +kernel
theorem dX10_firstUnlisted_35 : decode cX10_firstUnlisted 35 = .ok (.iinc 2 1, 3) := by decide +kernel
theorem dX10_firstUnlisted_38 : decode cX10_firstUnlisted 38 = .ok (.goto (-36), 3) := by decide +kernel
theorem dX10_firstUnlisted_41 : decode cX10_firstUnlisted 41 = .ok (.iconst (-1), 1) := by decide +kernel
theorem dX10_firstUnlisted_42 : decode cX10_firstUnlisted 42 = .ok (.ireturn, 1) := by decide +kernel
theorem dX10_indexOf_0 : decode cX10_indexOf 0 = .ok (.iload_n 1, 1) := by decide +kernel
theorem dX10_indexOf_1 : decode cX10_indexOf 1 = .ok (.ifCond .ge 7, 3) := by decide +kernel
theorem dX10_indexOf_4 : decode cX10_indexOf 4 = .ok (.iconst (-1), 1) := by decide +kernel
theorem dX10_indexOf_5 : decode cX10_indexOf 5 = .ok (.goto 11, 3) := by decide +kernel
theorem dX10_indexOf_8 : decode cX10_indexOf 8 = .ok (.aload_n 0, 1) := by decide +kernel
theorem dX10_indexOf_9 : decode cX10_indexOf 9 = .ok (.getfield 15, 3) := by decide +kernel
theorem dX10_indexOf_12 : decode cX10_indexOf 12 = .ok (.iload_n 1, 1) := by decide +kernel
theorem dX10_indexOf_13 : decode cX10_indexOf 13 = .ok (.invokevirtual 43, 3) := by decide +kernel
theorem dX10_indexOf_16 : decode cX10_indexOf 16 = .ok (.istore_n 2, 1) := by decide +kernel
theorem dX10_indexOf_17 : decode cX10_indexOf 17 = .ok (.iload_n 2, 1) := by decide +kernel
theorem dX10_indexOf_18 : decode cX10_indexOf 18 = .ok (.ifCond .lt 27, 3) := by decide +kernel
theorem dX10_indexOf_21 : decode cX10_indexOf 21 = .ok (.iload_n 2, 1) := by decide +kernel
theorem dX10_indexOf_22 : decode cX10_indexOf 22 = .ok (.aload_n 0, 1) := by decide +kernel
theorem dX10_indexOf_23 : decode cX10_indexOf 23 = .ok (.getfield 39, 3) := by decide +kernel
theorem dX10_indexOf_26 : decode cX10_indexOf 26 = .ok (.if_icmp .ge 19, 3) := by decide +kernel
theorem dX10_indexOf_29 : decode cX10_indexOf 29 = .ok (.aload_n 0, 1) := by decide +kernel
theorem dX10_indexOf_30 : decode cX10_indexOf 30 = .ok (.getfield 22, 3) := by decide +kernel
theorem dX10_indexOf_33 : decode cX10_indexOf 33 = .ok (.iload_n 2, 1) := by decide +kernel
theorem dX10_indexOf_34 : decode cX10_indexOf 34 = .ok (.invokevirtual 43, 3) := by decide +kernel
theorem dX10_indexOf_37 : decode cX10_indexOf 37 = .ok (.iload_n 1, 1) := by decide +kernel
theorem dX10_indexOf_38 : decode cX10_indexOf 38 = .ok (.if_icmp .ne 7, 3) := by decide +kernel
theorem dX10_indexOf_41 : decode cX10_indexOf 41 = .ok (.iload_n 2, 1) := by decide +kernel
theorem dX10_indexOf_42 : decode cX10_indexOf 42 = .ok (.goto 4, 3) := by decide +kernel
theorem dX10_indexOf_45 : decode cX10_indexOf 45 = .ok (.iconst (-1), 1) := by decide +kernel
theorem dX10_indexOf_46 : decode cX10_indexOf 46 = .ok (.ireturn, 1) := by decide +kernel
theorem dX10_init_0 : decode cX10_init 0 = .ok (.aload_n 0, 1) := by decide +kernel
theorem dX10_init_1 : decode cX10_init 1 = .ok (.invokespecial 3, 3) := by decide +kernel
theorem dX10_init_4 : decode cX10_init 4 = .ok (.aload_n 0, 1) := by decide +kernel
theorem dX10_init_5 : decode cX10_init 5 = .ok (.new 9, 3) := by decide +kernel
theorem dX10_init_8 : decode cX10_init 8 = .ok (.dup, 1) := by decide +kernel
theorem dX10_init_9 : decode cX10_init 9 = .ok (.ldc 11, 2) := by decide +kernel
theorem dX10_init_11 : decode cX10_init 11 = .ok (.invokespecial 12, 3) := by decide +kernel
theorem dX10_init_14 : decode cX10_init 14 = .ok (.putfield 15, 3) := by decide +kernel
theorem dX10_init_17 : decode cX10_init 17 = .ok (.aload_n 0, 1) := by decide +kernel
theorem dX10_init_18 : decode cX10_init 18 = .ok (.new 9, 3) := by decide +kernel
theorem dX10_init_21 : decode cX10_init 21 = .ok (.dup, 1) := by decide +kernel
theorem dX10_init_22 : decode cX10_init 22 = .ok (.ldc 21, 2) := by decide +kernel
theorem dX10_init_24 : decode cX10_init 24 = .ok (.invokespecial 12, 3) := by decide +kernel
theorem dX10_init_27 : decode cX10_init 27 = .ok (.putfield 22, 3) := by decide +kernel
theorem dX10_init_30 : decode cX10_init 30 = .ok (.aload_n 0, 1) := by decide +kernel
theorem dX10_init_31 : decode cX10_init 31 = .ok (.new 9, 3) := by decide +kernel
theorem dX10_init_34 : decode cX10_init 34 = .ok (.dup, 1) := by decide +kernel
theorem dX10_init_35 : decode cX10_init 35 = .ok (.ldc 21, 2) := by decide +kernel
theorem dX10_init_37 : decode cX10_init 37 = .ok (.invokespecial 12, 3) := by decide +kernel
theorem dX10_init_40 : decode cX10_init 40 = .ok (.putfield 25, 3) := by decide +kernel
theorem dX10_init_43 : decode cX10_init 43 = .ok (.aload_n 0, 1) := by decide +kernel
theorem dX10_init_44 : decode cX10_init 44 = .ok (.new 9, 3) := by decide +kernel
theorem dX10_init_47 : decode cX10_init 47 = .ok (.dup, 1) := by decide +kernel
theorem dX10_init_48 : decode cX10_init 48 = .ok (.ldc 21, 2) := by decide +kernel
theorem dX10_init_50 : decode cX10_init 50 = .ok (.invokespecial 12, 3) := by decide +kernel
theorem dX10_init_53 : decode cX10_init 53 = .ok (.putfield 28, 3) := by decide +kernel
theorem dX10_init_56 : decode cX10_init 56 = .ok (.aload_n 0, 1) := by decide +kernel
theorem dX10_init_57 : decode cX10_init 57 = .ok (.sipush 256, 3) := by decide +kernel
theorem dX10_init_60 : decode cX10_init 60 = .ok (.newarray .int, 2) := by decide +kernel
theorem dX10_init_62 : decode cX10_init 62 = .ok (.putfield 31, 3) := by decide +kernel
theorem dX10_init_65 : decode cX10_init 65 = .ok (.aload_n 0, 1) := by decide +kernel
theorem dX10_init_66 : decode cX10_init 66 = .ok (.aload_n 1, 1) := by decide +kernel
theorem dX10_init_67 : decode cX10_init 67 = .ok (.putfield 35, 3) := by decide +kernel
theorem dX10_init_70 : decode cX10_init 70 = .ok (.return_, 1) := by decide +kernel
theorem dX10_node_0 : decode cX10_node 0 = .ok (.aload_n 0, 1) := by decide +kernel
theorem dX10_node_1 : decode cX10_node 1 = .ok (.getfield 22, 3) := by decide +kernel
theorem dX10_node_4 : decode cX10_node 4 = .ok (.iload_n 1, 1) := by decide +kernel
theorem dX10_node_5 : decode cX10_node 5 = .ok (.invokevirtual 43, 3) := by decide +kernel
theorem dX10_node_8 : decode cX10_node 8 = .ok (.ireturn, 1) := by decide +kernel
theorem dX10_partOf_0 : decode cX10_partOf 0 = .ok (.aload_n 0, 1) := by decide +kernel
theorem dX10_partOf_1 : decode cX10_partOf 1 = .ok (.aload_n 0, 1) := by decide +kernel
theorem dX10_partOf_2 : decode cX10_partOf 2 = .ok (.getfield 35, 3) := by decide +kernel
theorem dX10_partOf_5 : decode cX10_partOf 5 = .ok (.aload_n 0, 1) := by decide +kernel
theorem dX10_partOf_6 : decode cX10_partOf 6 = .ok (.getfield 22, 3) := by decide +kernel
theorem dX10_partOf_9 : decode cX10_partOf 9 = .ok (.iload_n 1, 1) := by decide +kernel
theorem dX10_partOf_10 : decode cX10_partOf 10 = .ok (.invokevirtual 43, 3) := by decide +kernel
theorem dX10_partOf_13 : decode cX10_partOf 13 = .ok (.iload_n 2, 1) := by decide +kernel
theorem dX10_partOf_14 : decode cX10_partOf 14 = .ok (.invokevirtual 51, 3) := by decide +kernel
theorem dX10_partOf_17 : decode cX10_partOf 17 = .ok (.invokevirtual 57, 3) := by decide +kernel
theorem dX10_partOf_20 : decode cX10_partOf 20 = .ok (.ireturn, 1) := by decide +kernel
theorem dX10_rebuild_0 : decode cX10_rebuild 0 = .ok (.aload_n 0, 1) := by decide +kernel
theorem dX10_rebuild_1 : decode cX10_rebuild 1 = .ok (.getfield 22, 3) := by decide +kernel
theorem dX10_rebuild_4 : decode cX10_rebuild 4 = .ok (.iload_n 1, 1) := by decide +kernel
theorem dX10_rebuild_5 : decode cX10_rebuild 5 = .ok (.invokevirtual 43, 3) := by decide +kernel
theorem dX10_rebuild_8 : decode cX10_rebuild 8 = .ok (.istore_n 2, 1) := by decide +kernel
