theorem dX2_needParts_24 : decode cX2_needParts 24 = .ok (.invokevirtual 76, 3) := by decide +kernel
theorem dX2_needParts_27 : decode cX2_needParts 27 = .ok (.iconst 1, 1) := by decide +kernel
theorem dX2_needParts_28 : decode cX2_needParts 28 = .ok (.invokevirtual 72, 3) := by decide +kernel
theorem dX2_needParts_31 : decode cX2_needParts 31 = .ok (.iinc 2 1, 3) := by decide +kernel
theorem dX2_needParts_34 : decode cX2_needParts 34 = .ok (.goto (-32), 3) := by decide +kernel
theorem dX2_needParts_37 : decode cX2_needParts 37 = .ok (.return_, 1) := by decide +kernel
theorem dX2_owner_0 : decode cX2_owner 0 = .ok (.aload_n 0, 1) := by decide +kernel
theorem dX2_owner_1 : decode cX2_owner 1 = .ok (.getfield 15, 3) := by decide +kernel
theorem dX2_owner_4 : decode cX2_owner 4 = .ok (.iload_n 1, 1) := by decide +kernel
theorem dX2_owner_5 : decode cX2_owner 5 = .ok (.invokevirtual 76, 3) := by decide +kernel
theorem dX2_owner_8 : decode cX2_owner 8 = .ok (.ireturn, 1) := by decide +kernel
theorem dX2_position_0 : decode cX2_position 0 = .ok (.aload_n 0, 1) := by decide +kernel
theorem dX2_position_1 : decode cX2_position 1 = .ok (.getfield 52, 3) := by decide +kernel
theorem dX2_position_4 : decode cX2_position 4 = .ok (.iload_n 1, 1) := by decide +kernel
theorem dX2_position_5 : decode cX2_position 5 = .ok (.invokevirtual 76, 3) := by decide +kernel
theorem dX2_position_8 : decode cX2_position 8 = .ok (.ireturn, 1) := by decide +kernel
theorem dX2_rank_0 : decode cX2_rank 0 = .ok (.aload_n 0, 1) := by decide +kernel
theorem dX2_rank_1 : decode cX2_rank 1 = .ok (.iload_n 1, 1) := by decide +kernel
theorem dX2_rank_2 : decode cX2_rank 2 = .ok (.putfield 116, 3) := by decide +kernel
theorem dX2_rank_5 : decode cX2_rank 5 = .ok (.aload_n 0, 1) := by decide +kernel
theorem dX2_rank_6 : decode cX2_rank 6 = .ok (.iconst 0, 1) := by decide +kernel
theorem dX2_rank_7 : decode cX2_rank 7 = .ok (.putfield 119, 3) := by decide +kernel
theorem dX2_rank_10 : decode cX2_rank 10 = .ok (.aload_n 0, 1) := by decide +kernel
theorem dX2_rank_11 : decode cX2_rank 11 = .ok (.iconst 0, 1) := by decide +kernel
theorem dX2_rank_12 : decode cX2_rank 12 = .ok (.putfield 113, 3) := by decide +kernel
theorem dX2_rank_15 : decode cX2_rank 15 = .ok (.aload_n 0, 1) := by decide +kernel
theorem dX2_rank_16 : decode cX2_rank 16 = .ok (.invokevirtual 122, 3) := by decide +kernel
theorem dX2_rank_19 : decode cX2_rank 19 = .ok (.iconst 0, 1) := by decide +kernel
theorem dX2_rank_20 : decode cX2_rank 20 = .ok (.istore_n 2, 1) := by decide +kernel
theorem dX2_rank_21 : decode cX2_rank 21 = .ok (.iload_n 2, 1) := by decide +kernel
theorem dX2_rank_22 : decode cX2_rank 22 = .ok (.aload_n 0, 1) := by decide +kernel
theorem dX2_rank_23 : decode cX2_rank 23 = .ok (.getfield 69, 3) := by decide +kernel
theorem dX2_rank_26 : decode cX2_rank 26 = .ok (.if_icmp .ge 35, 3) := by decide +kernel
theorem dX2_rank_29 : decode cX2_rank 29 = .ok (.aload_n 0, 1) := by decide +kernel
theorem dX2_rank_30 : decode cX2_rank 30 = .ok (.getfield 28, 3) := by decide +kernel
theorem dX2_rank_33 : decode cX2_rank 33 = .ok (.iload_n 2, 1) := by decide +kernel
theorem dX2_rank_34 : decode cX2_rank 34 = .ok (.aload_n 0, 1) := by decide +kernel
theorem dX2_rank_35 : decode cX2_rank 35 = .ok (.iload_n 2, 1) := by decide +kernel
theorem dX2_rank_36 : decode cX2_rank 36 = .ok (.invokevirtual 105, 3) := by decide +kernel
theorem dX2_rank_39 : decode cX2_rank 39 = .ok (.invokevirtual 72, 3) := by decide +kernel
theorem dX2_rank_42 : decode cX2_rank 42 = .ok (.aload_n 0, 1) := by decide +kernel
theorem dX2_rank_43 : decode cX2_rank 43 = .ok (.iload_n 2, 1) := by decide +kernel
theorem dX2_rank_44 : decode cX2_rank 44 = .ok (.invokevirtual 105, 3) := by decide +kernel
theorem dX2_rank_47 : decode cX2_rank 47 = .ok (.ifCond .ne 8, 3) := by decide +kernel
theorem dX2_rank_50 : decode cX2_rank 50 = .ok (.aload_n 0, 1) := by decide +kernel
theorem dX2_rank_51 : decode cX2_rank 51 = .ok (.iload_n 2, 1) := by decide +kernel
theorem dX2_rank_52 : decode cX2_rank 52 = .ok (.invokevirtual 125, 3) := by decide +kernel
theorem dX2_rank_55 : decode cX2_rank 55 = .ok (.iinc 2 1, 3) := by decide +kernel
theorem dX2_rank_58 : decode cX2_rank 58 = .ok (.goto (-37), 3) := by decide +kernel
theorem dX2_rank_61 : decode cX2_rank 61 = .ok (.iconst 0, 1) := by decide +kernel
theorem dX2_rank_62 : decode cX2_rank 62 = .ok (.istore_n 2, 1) := by decide +kernel
theorem dX2_rank_63 : decode cX2_rank 63 = .ok (.iload_n 2, 1) := by decide +kernel
theorem dX2_rank_64 : decode cX2_rank 64 = .ok (.aload_n 0, 1) := by decide +kernel
theorem dX2_rank_65 : decode cX2_rank 65 = .ok (.getfield 69, 3) := by decide +kernel
theorem dX2_rank_68 : decode cX2_rank 68 = .ok (.if_icmp .ge 148, 3) := by decide +kernel
theorem dX2_rank_71 : decode cX2_rank 71 = .ok (.aload_n 0, 1) := by decide +kernel
theorem dX2_rank_72 : decode cX2_rank 72 = .ok (.getfield 119, 3) := by decide +kernel
theorem dX2_rank_75 : decode cX2_rank 75 = .ok (.ifCond .le 141, 3) := by decide +kernel
theorem dX2_rank_78 : decode cX2_rank 78 = .ok (.aload_n 0, 1) := by decide +kernel
theorem dX2_rank_79 : decode cX2_rank 79 = .ok (.invokevirtual 128, 3) := by decide +kernel
theorem dX2_rank_82 : decode cX2_rank 82 = .ok (.istore_n 3, 1) := by decide +kernel
theorem dX2_rank_83 : decode cX2_rank 83 = .ok (.aload_n 0, 1) := by decide +kernel
theorem dX2_rank_84 : decode cX2_rank 84 = .ok (.getfield 15, 3) := by decide +kernel
theorem dX2_rank_87 : decode cX2_rank 87 = .ok (.iload_n 3, 1) := by decide +kernel
theorem dX2_rank_88 : decode cX2_rank 88 = .ok (.invokevirtual 76, 3) := by decide +kernel
theorem dX2_rank_91 : decode cX2_rank 91 = .ok (.istore 4, 2) := by decide +kernel
theorem dX2_rank_93 : decode cX2_rank 93 = .ok (.aload_n 0, 1) := by decide +kernel
theorem dX2_rank_94 : decode cX2_rank 94 = .ok (.getfield 55, 3) := by decide +kernel
theorem dX2_rank_97 : decode cX2_rank 97 = .ok (.iload_n 2, 1) := by decide +kernel
theorem dX2_rank_98 : decode cX2_rank 98 = .ok (.iload_n 3, 1) := by decide +kernel
theorem dX2_rank_99 : decode cX2_rank 99 = .ok (.invokevirtual 72, 3) := by decide +kernel
theorem dX2_rank_102 : decode cX2_rank 102 = .ok (.aload_n 0, 1) := by decide +kernel
theorem dX2_rank_103 : decode cX2_rank 103 = .ok (.iload_n 2, 1) := by decide +kernel
theorem dX2_rank_104 : decode cX2_rank 104 = .ok (.iconst 1, 1) := by decide +kernel
theorem dX2_rank_105 : decode cX2_rank 105 = .ok (.iadd, 1) := by decide +kernel
theorem dX2_rank_106 : decode cX2_rank 106 = .ok (.putfield 113, 3) := by decide +kernel
theorem dX2_rank_109 : decode cX2_rank 109 = .ok (.aload_n 0, 1) := by decide +kernel
theorem dX2_rank_110 : decode cX2_rank 110 = .ok (.getfield 49, 3) := by decide +kernel
theorem dX2_rank_113 : decode cX2_rank 113 = .ok (.iload 4, 2) := by decide +kernel
theorem dX2_rank_115 : decode cX2_rank 115 = .ok (.invokevirtual 76, 3) := by decide +kernel
theorem dX2_rank_118 : decode cX2_rank 118 = .ok (.iconst (-1), 1) := by decide +kernel
theorem dX2_rank_119 : decode cX2_rank 119 = .ok (.if_icmp .ne 91, 3) := by decide +kernel
theorem dX2_rank_122 : decode cX2_rank 122 = .ok (.aload_n 0, 1) := by decide +kernel
theorem dX2_rank_123 : decode cX2_rank 123 = .ok (.getfield 49, 3) := by decide +kernel
theorem dX2_rank_126 : decode cX2_rank 126 = .ok (.iload 4, 2) := by decide +kernel
theorem dX2_rank_128 : decode cX2_rank 128 = .ok (.iload_n 3, 1) := by decide +kernel
theorem dX2_rank_129 : decode cX2_rank 129 = .ok (.invokevirtual 72, 3) := by decide +kernel
theorem dX2_rank_132 : decode cX2_rank 132 = .ok (.aload_n 0, 1) := by decide +kernel
theorem dX2_rank_133 : decode cX2_rank 133 = .ok (.getfield 52, 3) := by decide +kernel
theorem dX2_rank_136 : decode cX2_rank 136 = .ok (.iload 4, 2) := by decide +kernel
theorem dX2_rank_138 : decode cX2_rank 138 = .ok (.iload_n 2, 1) := by decide +kernel
theorem dX2_rank_139 : decode cX2_rank 139 = .ok (.invokevirtual 72, 3) := by decide +kernel
theorem dX2_rank_142 : decode cX2_rank 142 = .ok (.aload_n 0, 1) := by decide +kernel
theorem dX2_rank_143 : decode cX2_rank 143 = .ok (.getfield 31, 3) := by decide +kernel
theorem dX2_rank_146 : decode cX2_rank 146 = .ok (.iload 4, 2) := by decide +kernel
theorem dX2_rank_148 : decode cX2_rank 148 = .ok (.invokevirtual 76, 3) := by decide +kernel
theorem dX2_rank_151 : decode cX2_rank 151 = .ok (.iconst 1, 1) := by decide +kernel
theorem dX2_rank_152 : decode cX2_rank 152 = .ok (.isub, 1) := by decide +kernel
theorem dX2_rank_153 : decode cX2_rank 153 = .ok (.istore 5, 2) := by decide +kernel
theorem dX2_rank_155 : decode cX2_rank 155 = .ok (.iconst 0, 1) := by decide +kernel
theorem dX2_rank_156 : decode cX2_rank 156 = .ok (.istore 6, 2) := by decide +kernel
theorem dX2_rank_158 : decode cX2_rank 158 = .ok (.iload 5, 2) := by decide +kernel
theorem dX2_rank_160 : decode cX2_rank 160 = .ok (.ifCond .lt 50, 3) := by decide +kernel
theorem dX2_rank_163 : decode cX2_rank 163 = .ok (.iload 6, 2) := by decide +kernel
theorem dX2_rank_165 : decode cX2_rank 165 = .ok (.iconst 3, 1) := by decide +kernel
theorem dX2_rank_166 : decode cX2_rank 166 = .ok (.aload_n 0, 1) := by decide +kernel
theorem dX2_rank_167 : decode cX2_rank 167 = .ok (.getfield 69, 3) := by decide +kernel
theorem dX2_rank_170 : decode cX2_rank 170 = .ok (.imul, 1) := by decide +kernel
theorem dX2_rank_171 : decode cX2_rank 171 = .ok (.if_icmp .ge 39, 3) := by decide +kernel
theorem dX2_rank_174 : decode cX2_rank 174 = .ok (.aload_n 0, 1) := by decide +kernel
theorem dX2_rank_175 : decode cX2_rank 175 = .ok (.iload 5, 2) := by decide +kernel
theorem dX2_rank_177 : decode cX2_rank 177 = .ok (.invokevirtual 131, 3) := by decide +kernel
theorem dX2_rank_180 : decode cX2_rank 180 = .ok (.ifCond .eq 11, 3) := by decide +kernel
theorem dX2_rank_183 : decode cX2_rank 183 = .ok (.aload_n 0, 1) := by decide +kernel
theorem dX2_rank_184 : decode cX2_rank 184 = .ok (.iload 5, 2) := by decide +kernel
theorem dX2_rank_186 : decode cX2_rank 186 = .ok (.iconst 3, 1) := by decide +kernel
theorem dX2_rank_187 : decode cX2_rank 187 = .ok (.idiv, 1) := by decide +kernel
theorem dX2_rank_188 : decode cX2_rank 188 = .ok (.invokevirtual 125, 3) := by decide +kernel
theorem dX2_rank_191 : decode cX2_rank 191 = .ok (.aload_n 0, 1) := by decide +kernel
theorem dX2_rank_192 : decode cX2_rank 192 = .ok (.getfield 34, 3) := by decide +kernel
theorem dX2_rank_195 : decode cX2_rank 195 = .ok (.iload 5, 2) := by decide +kernel
theorem dX2_rank_197 : decode cX2_rank 197 = .ok (.invokevirtual 76, 3) := by decide +kernel
theorem dX2_rank_200 : decode cX2_rank 200 = .ok (.iconst 1, 1) := by decide +kernel
theorem dX2_rank_201 : decode cX2_rank 201 = .ok (.isub, 1) := by decide +kernel
theorem dX2_rank_202 : decode cX2_rank 202 = .ok (.istore 5, 2) := by decide +kernel
theorem dX2_rank_204 : decode cX2_rank 204 = .ok (.iinc 6 1, 3) := by decide +kernel
theorem dX2_rank_207 : decode cX2_rank 207 = .ok (.goto (-49), 3) := by decide +kernel
theorem dX2_rank_210 : decode cX2_rank 210 = .ok (.iinc 2 1, 3) := by decide +kernel
theorem dX2_rank_213 : decode cX2_rank 213 = .ok (.goto (-150), 3) := by decide +kernel
theorem dX2_rank_216 : decode cX2_rank 216 = .ok (.return_, 1) := by decide +kernel
theorem dX2_ranked_0 : decode cX2_ranked 0 = .ok (.aload_n 0, 1) := by decide +kernel
theorem dX2_ranked_1 : decode cX2_ranked 1 = .ok (.getfield 55, 3) := by decide +kernel
theorem dX2_ranked_4 : decode cX2_ranked 4 = .ok (.iload_n 1, 1) := by decide +kernel
theorem dX2_ranked_5 : decode cX2_ranked 5 = .ok (.invokevirtual 76, 3) := by decide +kernel
theorem dX2_ranked_8 : decode cX2_ranked 8 = .ok (.ireturn, 1) := by decide +kernel
theorem dX2_sequenceCount_0 : decode cX2_sequenceCount 0 = .ok (.aload_n 0, 1) := by decide +kernel
theorem dX2_sequenceCount_1 : decode cX2_sequenceCount 1 = .ok (.getfield 113, 3) := by decide +kernel
theorem dX2_sequenceCount_4 : decode cX2_sequenceCount 4 = .ok (.ireturn, 1) := by decide +kernel
theorem dX2_setLeastTerm_0 : decode cX2_setLeastTerm 0 = .ok (.aload_n 0, 1) := by decide +kernel
theorem dX2_setLeastTerm_1 : decode cX2_setLeastTerm 1 = .ok (.getfield 58, 3) := by decide +kernel
theorem dX2_setLeastTerm_4 : decode cX2_setLeastTerm 4 = .ok (.iload_n 1, 1) := by decide +kernel
theorem dX2_setLeastTerm_5 : decode cX2_setLeastTerm 5 = .ok (.iload_n 2, 1) := by decide +kernel
theorem dX2_setLeastTerm_6 : decode cX2_setLeastTerm 6 = .ok (.invokevirtual 72, 3) := by decide +kernel
theorem dX2_setLeastTerm_9 : decode cX2_setLeastTerm 9 = .ok (.return_, 1) := by decide +kernel
theorem dX2_setPart_0 : decode cX2_setPart 0 = .ok (.aload_n 0, 1) := by decide +kernel
theorem dX2_setPart_1 : decode cX2_setPart 1 = .ok (.getfield 25, 3) := by decide +kernel
theorem dX2_setPart_4 : decode cX2_setPart 4 = .ok (.iconst 3, 1) := by decide +kernel
theorem dX2_setPart_5 : decode cX2_setPart 5 = .ok (.iload_n 1, 1) := by decide +kernel
theorem dX2_setPart_6 : decode cX2_setPart 6 = .ok (.imul, 1) := by decide +kernel
theorem dX2_setPart_7 : decode cX2_setPart 7 = .ok (.iload_n 2, 1) := by decide +kernel
theorem dX2_setPart_8 : decode cX2_setPart 8 = .ok (.iadd, 1) := by decide +kernel
theorem dX2_setPart_9 : decode cX2_setPart 9 = .ok (.iload_n 3, 1) := by decide +kernel
theorem dX2_setPart_10 : decode cX2_setPart 10 = .ok (.invokevirtual 72, 3) := by decide +kernel
theorem dX2_setPart_13 : decode cX2_setPart 13 = .ok (.return_, 1) := by decide +kernel
theorem dX2_spreadNeeds_0 : decode cX2_spreadNeeds 0 = .ok (.aload_n 0, 1) := by decide +kernel
theorem dX2_spreadNeeds_1 : decode cX2_spreadNeeds 1 = .ok (.getfield 113, 3) := by decide +kernel
theorem dX2_spreadNeeds_4 : decode cX2_spreadNeeds 4 = .ok (.iconst 1, 1) := by decide +kernel
theorem dX2_spreadNeeds_5 : decode cX2_spreadNeeds 5 = .ok (.isub, 1) := by decide +kernel
theorem dX2_spreadNeeds_6 : decode cX2_spreadNeeds 6 = .ok (.istore_n 1, 1) := by decide +kernel
theorem dX2_spreadNeeds_7 : decode cX2_spreadNeeds 7 = .ok (.iload_n 1, 1) := by decide +kernel
theorem dX2_spreadNeeds_8 : decode cX2_spreadNeeds 8 = .ok (.ifCond .lt 31, 3) := by decide +kernel
theorem dX2_spreadNeeds_11 : decode cX2_spreadNeeds 11 = .ok (.aload_n 0, 1) := by decide +kernel
theorem dX2_spreadNeeds_12 : decode cX2_spreadNeeds 12 = .ok (.getfield 55, 3) := by decide +kernel
theorem dX2_spreadNeeds_15 : decode cX2_spreadNeeds 15 = .ok (.iload_n 1, 1) := by decide +kernel
theorem dX2_spreadNeeds_16 : decode cX2_spreadNeeds 16 = .ok (.invokevirtual 76, 3) := by decide +kernel
theorem dX2_spreadNeeds_19 : decode cX2_spreadNeeds 19 = .ok (.istore_n 2, 1) := by decide +kernel
theorem dX2_spreadNeeds_20 : decode cX2_spreadNeeds 20 = .ok (.aload_n 0, 1) := by decide +kernel
theorem dX2_spreadNeeds_21 : decode cX2_spreadNeeds 21 = .ok (.iload_n 2, 1) := by decide +kernel
theorem dX2_spreadNeeds_22 : decode cX2_spreadNeeds 22 = .ok (.invokevirtual 161, 3) := by decide +kernel
theorem dX2_spreadNeeds_25 : decode cX2_spreadNeeds 25 = .ok (.ifCond .eq 8, 3) := by decide +kernel
theorem dX2_spreadNeeds_28 : decode cX2_spreadNeeds 28 = .ok (.aload_n 0, 1) := by decide +kernel
theorem dX2_spreadNeeds_29 : decode cX2_spreadNeeds 29 = .ok (.iload_n 2, 1) := by decide +kernel
theorem dX2_spreadNeeds_30 : decode cX2_spreadNeeds 30 = .ok (.invokevirtual 164, 3) := by decide +kernel
theorem dX2_spreadNeeds_33 : decode cX2_spreadNeeds 33 = .ok (.iinc 1 (-1), 3) := by decide +kernel
theorem dX2_spreadNeeds_36 : decode cX2_spreadNeeds 36 = .ok (.goto (-29), 3) := by decide +kernel
theorem dX2_spreadNeeds_39 : decode cX2_spreadNeeds 39 = .ok (.return_, 1) := by decide +kernel
theorem dX2_takeLeast_0 : decode cX2_takeLeast 0 = .ok (.aload_n 0, 1) := by decide +kernel
theorem dX2_takeLeast_1 : decode cX2_takeLeast 1 = .ok (.getfield 46, 3) := by decide +kernel
theorem dX2_takeLeast_4 : decode cX2_takeLeast 4 = .ok (.iconst 0, 1) := by decide +kernel
theorem dX2_takeLeast_5 : decode cX2_takeLeast 5 = .ok (.invokevirtual 76, 3) := by decide +kernel
theorem dX2_takeLeast_8 : decode cX2_takeLeast 8 = .ok (.istore_n 1, 1) := by decide +kernel
theorem dX2_takeLeast_9 : decode cX2_takeLeast 9 = .ok (.aload_n 0, 1) := by decide +kernel
theorem dX2_takeLeast_10 : decode cX2_takeLeast 10 = .ok (.dup, 1) := by decide +kernel
theorem dX2_takeLeast_11 : decode cX2_takeLeast 11 = .ok (.getfield 119, 3) := by decide +kernel
theorem dX2_takeLeast_14 : decode cX2_takeLeast 14 = .ok (.iconst 1, 1) := by decide +kernel
theorem dX2_takeLeast_15 : decode cX2_takeLeast 15 = .ok (.isub, 1) := by decide +kernel
theorem dX2_takeLeast_16 : decode cX2_takeLeast 16 = .ok (.putfield 119, 3) := by decide +kernel
theorem dX2_takeLeast_19 : decode cX2_takeLeast 19 = .ok (.aload_n 0, 1) := by decide +kernel
theorem dX2_takeLeast_20 : decode cX2_takeLeast 20 = .ok (.getfield 46, 3) := by decide +kernel
theorem dX2_takeLeast_23 : decode cX2_takeLeast 23 = .ok (.aload_n 0, 1) := by decide +kernel
theorem dX2_takeLeast_24 : decode cX2_takeLeast 24 = .ok (.getfield 119, 3) := by decide +kernel
theorem dX2_takeLeast_27 : decode cX2_takeLeast 27 = .ok (.invokevirtual 76, 3) := by decide +kernel
theorem dX2_takeLeast_30 : decode cX2_takeLeast 30 = .ok (.istore_n 2, 1) := by decide +kernel
theorem dX2_takeLeast_31 : decode cX2_takeLeast 31 = .ok (.iconst 0, 1) := by decide +kernel
theorem dX2_takeLeast_32 : decode cX2_takeLeast 32 = .ok (.istore_n 3, 1) := by decide +kernel
theorem dX2_takeLeast_33 : decode cX2_takeLeast 33 = .ok (.iconst 0, 1) := by decide +kernel
theorem dX2_takeLeast_34 : decode cX2_takeLeast 34 = .ok (.istore 4, 2) := by decide +kernel
theorem dX2_takeLeast_36 : decode cX2_takeLeast 36 = .ok (.iload 4, 2) := by decide +kernel
theorem dX2_takeLeast_38 : decode cX2_takeLeast 38 = .ok (.aload_n 0, 1) := by decide +kernel
theorem dX2_takeLeast_39 : decode cX2_takeLeast 39 = .ok (.getfield 119, 3) := by decide +kernel
theorem dX2_takeLeast_42 : decode cX2_takeLeast 42 = .ok (.if_icmp .ge 109, 3) := by decide +kernel
theorem dX2_takeLeast_45 : decode cX2_takeLeast 45 = .ok (.iconst 2, 1) := by decide +kernel
theorem dX2_takeLeast_46 : decode cX2_takeLeast 46 = .ok (.iload_n 3, 1) := by decide +kernel
theorem dX2_takeLeast_47 : decode cX2_takeLeast 47 = .ok (.imul, 1) := by decide +kernel
theorem dX2_takeLeast_48 : decode cX2_takeLeast 48 = .ok (.iconst 1, 1) := by decide +kernel
theorem dX2_takeLeast_49 : decode cX2_takeLeast 49 = .ok (.iadd, 1) := by decide +kernel
theorem dX2_takeLeast_50 : decode cX2_takeLeast 50 = .ok (.istore 5, 2) := by decide +kernel
theorem dX2_takeLeast_52 : decode cX2_takeLeast 52 = .ok (.iload 5, 2) := by decide +kernel
theorem dX2_takeLeast_54 : decode cX2_takeLeast 54 = .ok (.aload_n 0, 1) := by decide +kernel
theorem dX2_takeLeast_55 : decode cX2_takeLeast 55 = .ok (.getfield 119, 3) := by decide +kernel
theorem dX2_takeLeast_58 : decode cX2_takeLeast 58 = .ok (.if_icmp .lt 6, 3) := by decide +kernel
theorem dX2_takeLeast_61 : decode cX2_takeLeast 61 = .ok (.goto 90, 3) := by decide +kernel
theorem dX2_takeLeast_64 : decode cX2_takeLeast 64 = .ok (.iload 5, 2) := by decide +kernel
theorem dX2_takeLeast_66 : decode cX2_takeLeast 66 = .ok (.iconst 1, 1) := by decide +kernel
theorem dX2_takeLeast_67 : decode cX2_takeLeast 67 = .ok (.iadd, 1) := by decide +kernel
theorem dX2_takeLeast_68 : decode cX2_takeLeast 68 = .ok (.aload_n 0, 1) := by decide +kernel
theorem dX2_takeLeast_69 : decode cX2_takeLeast 69 = .ok (.getfield 119, 3) := by decide +kernel
theorem dX2_takeLeast_72 : decode cX2_takeLeast 72 = .ok (.if_icmp .ge 33, 3) := by decide +kernel
theorem dX2_takeLeast_75 : decode cX2_takeLeast 75 = .ok (.aload_n 0, 1) := by decide +kernel
theorem dX2_takeLeast_76 : decode cX2_takeLeast 76 = .ok (.aload_n 0, 1) := by decide +kernel
theorem dX2_takeLeast_77 : decode cX2_takeLeast 77 = .ok (.getfield 46, 3) := by decide +kernel
theorem dX2_takeLeast_80 : decode cX2_takeLeast 80 = .ok (.iload 5, 2) := by decide +kernel
theorem dX2_takeLeast_82 : decode cX2_takeLeast 82 = .ok (.iconst 1, 1) := by decide +kernel
theorem dX2_takeLeast_83 : decode cX2_takeLeast 83 = .ok (.iadd, 1) := by decide +kernel
theorem dX2_takeLeast_84 : decode cX2_takeLeast 84 = .ok (.invokevirtual 76, 3) := by decide +kernel
theorem dX2_takeLeast_87 : decode cX2_takeLeast 87 = .ok (.aload_n 0, 1) := by decide +kernel
theorem dX2_takeLeast_88 : decode cX2_takeLeast 88 = .ok (.getfield 46, 3) := by decide +kernel
theorem dX2_takeLeast_91 : decode cX2_takeLeast 91 = .ok (.iload 5, 2) := by decide +kernel
theorem dX2_takeLeast_93 : decode cX2_takeLeast 93 = .ok (.invokevirtual 76, 3) := by decide +kernel
theorem dX2_takeLeast_96 : decode cX2_takeLeast 96 = .ok (.invokevirtual 147, 3) := by decide +kernel
theorem dX2_takeLeast_99 : decode cX2_takeLeast 99 = .ok (.ifCond .eq 6, 3) := by decide +kernel
theorem dX2_takeLeast_102 : decode cX2_takeLeast 102 = .ok (.iinc 5 1, 3) := by decide +kernel
theorem dX2_takeLeast_105 : decode cX2_takeLeast 105 = .ok (.aload_n 0, 1) := by decide +kernel
theorem dX2_takeLeast_106 : decode cX2_takeLeast 106 = .ok (.aload_n 0, 1) := by decide +kernel
theorem dX2_takeLeast_107 : decode cX2_takeLeast 107 = .ok (.getfield 46, 3) := by decide +kernel
theorem dX2_takeLeast_110 : decode cX2_takeLeast 110 = .ok (.iload 5, 2) := by decide +kernel
theorem dX2_takeLeast_112 : decode cX2_takeLeast 112 = .ok (.invokevirtual 76, 3) := by decide +kernel
theorem dX2_takeLeast_115 : decode cX2_takeLeast 115 = .ok (.iload_n 2, 1) := by decide +kernel
theorem dX2_takeLeast_116 : decode cX2_takeLeast 116 = .ok (.invokevirtual 147, 3) := by decide +kernel
theorem dX2_takeLeast_119 : decode cX2_takeLeast 119 = .ok (.ifCond .ne 6, 3) := by decide +kernel
theorem dX2_takeLeast_122 : decode cX2_takeLeast 122 = .ok (.goto 29, 3) := by decide +kernel
theorem dX2_takeLeast_125 : decode cX2_takeLeast 125 = .ok (.aload_n 0, 1) := by decide +kernel
theorem dX2_takeLeast_126 : decode cX2_takeLeast 126 = .ok (.getfield 46, 3) := by decide +kernel
theorem dX2_takeLeast_129 : decode cX2_takeLeast 129 = .ok (.iload_n 3, 1) := by decide +kernel
theorem dX2_takeLeast_130 : decode cX2_takeLeast 130 = .ok (.aload_n 0, 1) := by decide +kernel
theorem dX2_takeLeast_131 : decode cX2_takeLeast 131 = .ok (.getfield 46, 3) := by decide +kernel
theorem dX2_takeLeast_134 : decode cX2_takeLeast 134 = .ok (.iload 5, 2) := by decide +kernel
theorem dX2_takeLeast_136 : decode cX2_takeLeast 136 = .ok (.invokevirtual 76, 3) := by decide +kernel
theorem dX2_takeLeast_139 : decode cX2_takeLeast 139 = .ok (.invokevirtual 72, 3) := by decide +kernel
theorem dX2_takeLeast_142 : decode cX2_takeLeast 142 = .ok (.iload 5, 2) := by decide +kernel
theorem dX2_takeLeast_144 : decode cX2_takeLeast 144 = .ok (.istore_n 3, 1) := by decide +kernel
theorem dX2_takeLeast_145 : decode cX2_takeLeast 145 = .ok (.iinc 4 1, 3) := by decide +kernel
theorem dX2_takeLeast_148 : decode cX2_takeLeast 148 = .ok (.goto (-112), 3) := by decide +kernel
theorem dX2_takeLeast_151 : decode cX2_takeLeast 151 = .ok (.aload_n 0, 1) := by decide +kernel
theorem dX2_takeLeast_152 : decode cX2_takeLeast 152 = .ok (.getfield 46, 3) := by decide +kernel
theorem dX2_takeLeast_155 : decode cX2_takeLeast 155 = .ok (.iload_n 3, 1) := by decide +kernel
theorem dX2_takeLeast_156 : decode cX2_takeLeast 156 = .ok (.iload_n 2, 1) := by decide +kernel
theorem dX2_takeLeast_157 : decode cX2_takeLeast 157 = .ok (.invokevirtual 72, 3) := by decide +kernel
theorem dX2_takeLeast_160 : decode cX2_takeLeast 160 = .ok (.iload_n 1, 1) := by decide +kernel
theorem dX2_takeLeast_161 : decode cX2_takeLeast 161 = .ok (.ireturn, 1) := by decide +kernel
theorem dX2_takeTerms_0 : decode cX2_takeTerms 0 = .ok (.aload_n 0, 1) := by decide +kernel
theorem dX2_takeTerms_1 : decode cX2_takeTerms 1 = .ok (.aload_n 1, 1) := by decide +kernel
theorem dX2_takeTerms_2 : decode cX2_takeTerms 2 = .ok (.invokevirtual 85, 3) := by decide +kernel
theorem dX2_takeTerms_5 : decode cX2_takeTerms 5 = .ok (.invokevirtual 90, 3) := by decide +kernel
theorem dX2_takeTerms_8 : decode cX2_takeTerms 8 = .ok (.iconst 0, 1) := by decide +kernel
theorem dX2_takeTerms_9 : decode cX2_takeTerms 9 = .ok (.istore_n 3, 1) := by decide +kernel
theorem dX2_takeTerms_10 : decode cX2_takeTerms 10 = .ok (.iload_n 3, 1) := by decide +kernel
theorem dX2_takeTerms_11 : decode cX2_takeTerms 11 = .ok (.aload_n 1, 1) := by decide +kernel
theorem dX2_takeTerms_12 : decode cX2_takeTerms 12 = .ok (.invokevirtual 85, 3) := by decide +kernel
theorem dX2_takeTerms_15 : decode cX2_takeTerms 15 = .ok (.if_icmp .ge 60, 3) := by decide +kernel
theorem dX2_takeTerms_18 : decode cX2_takeTerms 18 = .ok (.aload_n 0, 1) := by decide +kernel
theorem dX2_takeTerms_19 : decode cX2_takeTerms 19 = .ok (.iload_n 3, 1) := by decide +kernel
theorem dX2_takeTerms_20 : decode cX2_takeTerms 20 = .ok (.aload_n 2, 1) := by decide +kernel
theorem dX2_takeTerms_21 : decode cX2_takeTerms 21 = .ok (.aload_n 1, 1) := by decide +kernel
theorem dX2_takeTerms_22 : decode cX2_takeTerms 22 = .ok (.iload_n 3, 1) := by decide +kernel
theorem dX2_takeTerms_23 : decode cX2_takeTerms 23 = .ok (.invokevirtual 93, 3) := by decide +kernel
theorem dX2_takeTerms_26 : decode cX2_takeTerms 26 = .ok (.invokevirtual 96, 3) := by decide +kernel
theorem dX2_takeTerms_29 : decode cX2_takeTerms 29 = .ok (.invokevirtual 101, 3) := by decide +kernel
theorem dX2_takeTerms_32 : decode cX2_takeTerms 32 = .ok (.istore 4, 2) := by decide +kernel
theorem dX2_takeTerms_34 : decode cX2_takeTerms 34 = .ok (.iconst 0, 1) := by decide +kernel
theorem dX2_takeTerms_35 : decode cX2_takeTerms 35 = .ok (.istore 5, 2) := by decide +kernel
theorem dX2_takeTerms_37 : decode cX2_takeTerms 37 = .ok (.iload 5, 2) := by decide +kernel
theorem dX2_takeTerms_39 : decode cX2_takeTerms 39 = .ok (.aload_n 0, 1) := by decide +kernel
theorem dX2_takeTerms_40 : decode cX2_takeTerms 40 = .ok (.iload 4, 2) := by decide +kernel
theorem dX2_takeTerms_42 : decode cX2_takeTerms 42 = .ok (.invokevirtual 105, 3) := by decide +kernel
theorem dX2_takeTerms_45 : decode cX2_takeTerms 45 = .ok (.if_icmp .ge 24, 3) := by decide +kernel
theorem dX2_takeTerms_48 : decode cX2_takeTerms 48 = .ok (.aload_n 0, 1) := by decide +kernel
theorem dX2_takeTerms_49 : decode cX2_takeTerms 49 = .ok (.iload 4, 2) := by decide +kernel
theorem dX2_takeTerms_51 : decode cX2_takeTerms 51 = .ok (.iload 5, 2) := by decide +kernel
theorem dX2_takeTerms_53 : decode cX2_takeTerms 53 = .ok (.aload_n 1, 1) := by decide +kernel
theorem dX2_takeTerms_54 : decode cX2_takeTerms 54 = .ok (.iload_n 3, 1) := by decide +kernel
theorem dX2_takeTerms_55 : decode cX2_takeTerms 55 = .ok (.iload 5, 2) := by decide +kernel
theorem dX2_takeTerms_57 : decode cX2_takeTerms 57 = .ok (.invokevirtual 106, 3) := by decide +kernel
theorem dX2_takeTerms_60 : decode cX2_takeTerms 60 = .ok (.invokevirtual 109, 3) := by decide +kernel
theorem dX2_takeTerms_63 : decode cX2_takeTerms 63 = .ok (.iinc 5 1, 3) := by decide +kernel
theorem dX2_takeTerms_66 : decode cX2_takeTerms 66 = .ok (.goto (-29), 3) := by decide +kernel
theorem dX2_takeTerms_69 : decode cX2_takeTerms 69 = .ok (.iinc 3 1, 3) := by decide +kernel
theorem dX2_takeTerms_72 : decode cX2_takeTerms 72 = .ok (.goto (-62), 3) := by decide +kernel
theorem dX2_takeTerms_75 : decode cX2_takeTerms 75 = .ok (.return_, 1) := by decide +kernel
theorem dX2_termDepth_0 : decode cX2_termDepth 0 = .ok (.aload_n 0, 1) := by decide +kernel
theorem dX2_termDepth_1 : decode cX2_termDepth 1 = .ok (.getfield 43, 3) := by decide +kernel
theorem dX2_termDepth_4 : decode cX2_termDepth 4 = .ok (.iload_n 1, 1) := by decide +kernel
theorem dX2_termDepth_5 : decode cX2_termDepth 5 = .ok (.invokevirtual 76, 3) := by decide +kernel
theorem dX2_termDepth_8 : decode cX2_termDepth 8 = .ok (.ireturn, 1) := by decide +kernel
theorem dX2_termSize_0 : decode cX2_termSize 0 = .ok (.aload_n 0, 1) := by decide +kernel
theorem dX2_termSize_1 : decode cX2_termSize 1 = .ok (.getfield 40, 3) := by decide +kernel
theorem dX2_termSize_4 : decode cX2_termSize 4 = .ok (.iload_n 1, 1) := by decide +kernel
theorem dX2_termSize_5 : decode cX2_termSize 5 = .ok (.invokevirtual 76, 3) := by decide +kernel
theorem dX2_termSize_8 : decode cX2_termSize 8 = .ok (.ireturn, 1) := by decide +kernel
theorem dX3_init_0 : decode cX3_init 0 = .ok (.aload_n 0, 1) := by decide +kernel
theorem dX3_init_1 : decode cX3_init 1 = .ok (.invokespecial 5, 3) := by decide +kernel
theorem dX3_init_4 : decode cX3_init 4 = .ok (.aload_n 0, 1) := by decide +kernel
theorem dX3_init_5 : decode cX3_init 5 = .ok (.new 11, 3) := by decide +kernel
theorem dX3_init_8 : decode cX3_init 8 = .ok (.dup, 1) := by decide +kernel
theorem dX3_init_9 : decode cX3_init 9 = .ok (.sipush 1503, 3) := by decide +kernel
theorem dX3_init_12 : decode cX3_init 12 = .ok (.invokespecial 13, 3) := by decide +kernel
theorem dX3_init_15 : decode cX3_init 15 = .ok (.putfield 16, 3) := by decide +kernel
theorem dX3_init_18 : decode cX3_init 18 = .ok (.aload_n 0, 1) := by decide +kernel
theorem dX3_init_19 : decode cX3_init 19 = .ok (.new 11, 3) := by decide +kernel
theorem dX3_init_22 : decode cX3_init 22 = .ok (.dup, 1) := by decide +kernel
theorem dX3_init_23 : decode cX3_init 23 = .ok (.sipush 1503, 3) := by decide +kernel
theorem dX3_init_26 : decode cX3_init 26 = .ok (.invokespecial 13, 3) := by decide +kernel
theorem dX3_init_29 : decode cX3_init 29 = .ok (.putfield 20, 3) := by decide +kernel
theorem dX3_init_32 : decode cX3_init 32 = .ok (.aload_n 0, 1) := by decide +kernel
theorem dX3_init_33 : decode cX3_init 33 = .ok (.iconst 3, 1) := by decide +kernel
theorem dX3_init_34 : decode cX3_init 34 = .ok (.newarray .int, 2) := by decide +kernel
theorem dX3_init_36 : decode cX3_init 36 = .ok (.putfield 23, 3) := by decide +kernel
theorem dX3_init_39 : decode cX3_init 39 = .ok (.aload_n 0, 1) := by decide +kernel
theorem dX3_init_40 : decode cX3_init 40 = .ok (.bipush 12, 2) := by decide +kernel
theorem dX3_init_42 : decode cX3_init 42 = .ok (.newarray .int, 2) := by decide +kernel
theorem dX3_init_44 : decode cX3_init 44 = .ok (.putfield 27, 3) := by decide +kernel
theorem dX3_init_47 : decode cX3_init 47 = .ok (.aload_n 0, 1) := by decide +kernel
theorem dX3_init_48 : decode cX3_init 48 = .ok (.bipush 12, 2) := by decide +kernel
theorem dX3_init_50 : decode cX3_init 50 = .ok (.newarray .int, 2) := by decide +kernel
theorem dX3_init_52 : decode cX3_init 52 = .ok (.putfield 30, 3) := by decide +kernel
theorem dX3_init_55 : decode cX3_init 55 = .ok (.aload_n 0, 1) := by decide +kernel
theorem dX3_init_56 : decode cX3_init 56 = .ok (.sipush 500, 3) := by decide +kernel
theorem dX3_init_59 : decode cX3_init 59 = .ok (.newarray .long, 2) := by decide +kernel
theorem dX3_init_61 : decode cX3_init 61 = .ok (.putfield 33, 3) := by decide +kernel
theorem dX3_init_64 : decode cX3_init 64 = .ok (.aload_n 0, 1) := by decide +kernel
theorem dX3_init_65 : decode cX3_init 65 = .ok (.aload_n 1, 1) := by decide +kernel
theorem dX3_init_66 : decode cX3_init 66 = .ok (.putfield 37, 3) := by decide +kernel
theorem dX3_init_69 : decode cX3_init 69 = .ok (.aload_n 0, 1) := by decide +kernel
theorem dX3_init_70 : decode cX3_init 70 = .ok (.aload_n 2, 1) := by decide +kernel
theorem dX3_init_71 : decode cX3_init 71 = .ok (.putfield 41, 3) := by decide +kernel
theorem dX3_init_74 : decode cX3_init 74 = .ok (.aload_n 0, 1) := by decide +kernel
theorem dX3_init_75 : decode cX3_init 75 = .ok (.aload_n 3, 1) := by decide +kernel
theorem dX3_init_76 : decode cX3_init 76 = .ok (.putfield 45, 3) := by decide +kernel
theorem dX3_init_79 : decode cX3_init 79 = .ok (.aload_n 0, 1) := by decide +kernel
theorem dX3_init_80 : decode cX3_init 80 = .ok (.aload 4, 2) := by decide +kernel
theorem dX3_init_82 : decode cX3_init 82 = .ok (.putfield 49, 3) := by decide +kernel
theorem dX3_init_85 : decode cX3_init 85 = .ok (.return_, 1) := by decide +kernel
theorem dX4_init_0 : decode cX4_init 0 = .ok (.aload_n 0, 1) := by decide +kernel
theorem dX4_init_1 : decode cX4_init 1 = .ok (.invokespecial 3, 3) := by decide +kernel
theorem dX4_init_4 : decode cX4_init 4 = .ok (.aload_n 0, 1) := by decide +kernel
theorem dX4_init_5 : decode cX4_init 5 = .ok (.sipush 2000, 3) := by decide +kernel
theorem dX4_init_8 : decode cX4_init 8 = .ok (.newarray .byte, 2) := by decide +kernel
theorem dX4_init_10 : decode cX4_init 10 = .ok (.putfield 9, 3) := by decide +kernel
theorem dX4_init_13 : decode cX4_init 13 = .ok (.aload_n 0, 1) := by decide +kernel
theorem dX4_init_14 : decode cX4_init 14 = .ok (.aload_n 1, 1) := by decide +kernel
theorem dX4_init_15 : decode cX4_init 15 = .ok (.putfield 15, 3) := by decide +kernel
theorem dX4_init_18 : decode cX4_init 18 = .ok (.aload_n 0, 1) := by decide +kernel
theorem dX4_init_19 : decode cX4_init 19 = .ok (.aload_n 2, 1) := by decide +kernel
theorem dX4_init_20 : decode cX4_init 20 = .ok (.putfield 19, 3) := by decide +kernel
theorem dX4_init_23 : decode cX4_init 23 = .ok (.aload_n 0, 1) := by decide +kernel
theorem dX4_init_24 : decode cX4_init 24 = .ok (.aload_n 3, 1) := by decide +kernel
theorem dX4_init_25 : decode cX4_init 25 = .ok (.putfield 23, 3) := by decide +kernel
theorem dX4_init_28 : decode cX4_init 28 = .ok (.return_, 1) := by decide +kernel
theorem dX5_append_0 : decode cX5_append 0 = .ok (.bipush 24, 2) := by decide +kernel
theorem dX5_append_2 : decode cX5_append 2 = .ok (.istore_n 2, 1) := by decide +kernel
theorem dX5_append_3 : decode cX5_append 3 = .ok (.iload_n 2, 1) := by decide +kernel
theorem dX5_append_4 : decode cX5_append 4 = .ok (.ifCond .lt 49, 3) := by decide +kernel
theorem dX5_append_7 : decode cX5_append 7 = .ok (.aload_n 0, 1) := by decide +kernel
theorem dX5_append_8 : decode cX5_append 8 = .ok (.getfield 50, 3) := by decide +kernel
theorem dX5_append_11 : decode cX5_append 11 = .ok (.ifCond .lt 36, 3) := by decide +kernel
theorem dX5_append_14 : decode cX5_append 14 = .ok (.aload_n 0, 1) := by decide +kernel
theorem dX5_append_15 : decode cX5_append 15 = .ok (.getfield 50, 3) := by decide +kernel
theorem dX5_append_18 : decode cX5_append 18 = .ok (.sipush 400, 3) := by decide +kernel
theorem dX5_append_21 : decode cX5_append 21 = .ok (.if_icmp .ge 26, 3) := by decide +kernel
theorem dX5_append_24 : decode cX5_append 24 = .ok (.aload_n 0, 1) := by decide +kernel
theorem dX5_append_25 : decode cX5_append 25 = .ok (.getfield 9, 3) := by decide +kernel
theorem dX5_append_28 : decode cX5_append 28 = .ok (.aload_n 0, 1) := by decide +kernel
theorem dX5_append_29 : decode cX5_append 29 = .ok (.getfield 50, 3) := by decide +kernel
theorem dX5_append_32 : decode cX5_append 32 = .ok (.iload_n 1, 1) := by decide +kernel
theorem dX5_append_33 : decode cX5_append 33 = .ok (.iload_n 2, 1) := by decide +kernel
theorem dX5_append_34 : decode cX5_append 34 = .ok (.ishr, 1) := by decide +kernel
theorem dX5_append_35 : decode cX5_append 35 = .ok (.i2b, 1) := by decide +kernel
theorem dX5_append_36 : decode cX5_append 36 = .ok (.bastore, 1) := by decide +kernel
theorem dX5_append_37 : decode cX5_append 37 = .ok (.aload_n 0, 1) := by decide +kernel
theorem dX5_append_38 : decode cX5_append 38 = .ok (.dup, 1) := by decide +kernel
theorem dX5_append_39 : decode cX5_append 39 = .ok (.getfield 50, 3) := by decide +kernel
theorem dX5_append_42 : decode cX5_append 42 = .ok (.iconst 1, 1) := by decide +kernel
theorem dX5_append_43 : decode cX5_append 43 = .ok (.iadd, 1) := by decide +kernel
theorem dX5_append_44 : decode cX5_append 44 = .ok (.putfield 50, 3) := by decide +kernel
theorem dX5_append_47 : decode cX5_append 47 = .ok (.iinc 2 (-8), 3) := by decide +kernel
theorem dX5_append_50 : decode cX5_append 50 = .ok (.goto (-47), 3) := by decide +kernel
theorem dX5_append_53 : decode cX5_append 53 = .ok (.return_, 1) := by decide +kernel
theorem dX5_bytes_0 : decode cX5_bytes 0 = .ok (.aload_n 0, 1) := by decide +kernel
theorem dX5_bytes_1 : decode cX5_bytes 1 = .ok (.getfield 9, 3) := by decide +kernel
theorem dX5_bytes_4 : decode cX5_bytes 4 = .ok (.areturn, 1) := by decide +kernel
theorem dX5_drain_0 : decode cX5_drain 0 = .ok (.aload_n 0, 1) := by decide +kernel
theorem dX5_drain_1 : decode cX5_drain 1 = .ok (.getfield 50, 3) := by decide +kernel
theorem dX5_drain_4 : decode cX5_drain 4 = .ok (.istore_n 1, 1) := by decide +kernel
theorem dX5_drain_5 : decode cX5_drain 5 = .ok (.aload_n 0, 1) := by decide +kernel
theorem dX5_drain_6 : decode cX5_drain 6 = .ok (.iconst 0, 1) := by decide +kernel
theorem dX5_drain_7 : decode cX5_drain 7 = .ok (.putfield 50, 3) := by decide +kernel
theorem dX5_drain_10 : decode cX5_drain 10 = .ok (.iload_n 1, 1) := by decide +kernel
theorem dX5_drain_11 : decode cX5_drain 11 = .ok (.ireturn, 1) := by decide +kernel
theorem dX5_heldSymbol_0 : decode cX5_heldSymbol 0 = .ok (.aload_n 0, 1) := by decide +kernel
theorem dX5_heldSymbol_1 : decode cX5_heldSymbol 1 = .ok (.getfield 42, 3) := by decide +kernel
theorem dX5_heldSymbol_4 : decode cX5_heldSymbol 4 = .ok (.aload_n 0, 1) := by decide +kernel
theorem dX5_heldSymbol_5 : decode cX5_heldSymbol 5 = .ok (.getfield 9, 3) := by decide +kernel
theorem dX5_heldSymbol_8 : decode cX5_heldSymbol 8 = .ok (.iconst 0, 1) := by decide +kernel
theorem dX5_heldSymbol_9 : decode cX5_heldSymbol 9 = .ok (.aload_n 0, 1) := by decide +kernel
theorem dX5_heldSymbol_10 : decode cX5_heldSymbol 10 = .ok (.getfield 50, 3) := by decide +kernel
theorem dX5_heldSymbol_13 : decode cX5_heldSymbol 13 = .ok (.invokevirtual 66, 3) := by decide +kernel
theorem dX5_heldSymbol_16 : decode cX5_heldSymbol 16 = .ok (.ireturn, 1) := by decide +kernel
theorem dX5_holdsName_0 : decode cX5_holdsName 0 = .ok (.aload_n 0, 1) := by decide +kernel
theorem dX5_holdsName_1 : decode cX5_holdsName 1 = .ok (.getfield 50, 3) := by decide +kernel
theorem dX5_holdsName_4 : decode cX5_holdsName 4 = .ok (.iconst 1, 1) := by decide +kernel
theorem dX5_holdsName_5 : decode cX5_holdsName 5 = .ok (.if_icmp .lt 25, 3) := by decide +kernel
theorem dX5_holdsName_8 : decode cX5_holdsName 8 = .ok (.aload_n 0, 1) := by decide +kernel
theorem dX5_holdsName_9 : decode cX5_holdsName 9 = .ok (.getfield 50, 3) := by decide +kernel
theorem dX5_holdsName_12 : decode cX5_holdsName 12 = .ok (.bipush 8, 2) := by decide +kernel
theorem dX5_holdsName_14 : decode cX5_holdsName 14 = .ok (.if_icmp .gt 16, 3) := by decide +kernel
theorem dX5_holdsName_17 : decode cX5_holdsName 17 = .ok (.aload_n 0, 1) := by decide +kernel
theorem dX5_holdsName_18 : decode cX5_holdsName 18 = .ok (.aload_n 0, 1) := by decide +kernel
theorem dX5_holdsName_19 : decode cX5_holdsName 19 = .ok (.getfield 9, 3) := by decide +kernel
theorem dX5_holdsName_22 : decode cX5_holdsName 22 = .ok (.iconst 0, 1) := by decide +kernel
theorem dX5_holdsName_23 : decode cX5_holdsName 23 = .ok (.baload, 1) := by decide +kernel
theorem dX5_holdsName_24 : decode cX5_holdsName 24 = .ok (.invokevirtual 59, 3) := by decide +kernel
theorem dX5_holdsName_27 : decode cX5_holdsName 27 = .ok (.ifCond .ne 5, 3) := by decide +kernel
theorem dX5_holdsName_30 : decode cX5_holdsName 30 = .ok (.iconst 0, 1) := by decide +kernel
theorem dX5_holdsName_31 : decode cX5_holdsName 31 = .ok (.ireturn, 1) := by decide +kernel
theorem dX5_holdsName_32 : decode cX5_holdsName 32 = .ok (.iconst 1, 1) := by decide +kernel
theorem dX5_holdsName_33 : decode cX5_holdsName 33 = .ok (.istore_n 1, 1) := by decide +kernel
theorem dX5_holdsName_34 : decode cX5_holdsName 34 = .ok (.iload_n 1, 1) := by decide +kernel
theorem dX5_holdsName_35 : decode cX5_holdsName 35 = .ok (.aload_n 0, 1) := by decide +kernel
theorem dX5_holdsName_36 : decode cX5_holdsName 36 = .ok (.getfield 50, 3) := by decide +kernel
theorem dX5_holdsName_39 : decode cX5_holdsName 39 = .ok (.if_icmp .ge 24, 3) := by decide +kernel
theorem dX5_holdsName_42 : decode cX5_holdsName 42 = .ok (.aload_n 0, 1) := by decide +kernel
theorem dX5_holdsName_43 : decode cX5_holdsName 43 = .ok (.aload_n 0, 1) := by decide +kernel
theorem dX5_holdsName_44 : decode cX5_holdsName 44 = .ok (.getfield 9, 3) := by decide +kernel
theorem dX5_holdsName_47 : decode cX5_holdsName 47 = .ok (.iload_n 1, 1) := by decide +kernel
theorem dX5_holdsName_48 : decode cX5_holdsName 48 = .ok (.baload, 1) := by decide +kernel
theorem dX5_holdsName_49 : decode cX5_holdsName 49 = .ok (.invokevirtual 63, 3) := by decide +kernel
theorem dX5_holdsName_52 : decode cX5_holdsName 52 = .ok (.ifCond .ne 5, 3) := by decide +kernel
theorem dX5_holdsName_55 : decode cX5_holdsName 55 = .ok (.iconst 0, 1) := by decide +kernel
theorem dX5_holdsName_56 : decode cX5_holdsName 56 = .ok (.ireturn, 1) := by decide +kernel
theorem dX5_holdsName_57 : decode cX5_holdsName 57 = .ok (.iinc 1 1, 3) := by decide +kernel
theorem dX5_holdsName_60 : decode cX5_holdsName 60 = .ok (.goto (-26), 3) := by decide +kernel
theorem dX5_holdsName_63 : decode cX5_holdsName 63 = .ok (.iconst 1, 1) := by decide +kernel
theorem dX5_holdsName_64 : decode cX5_holdsName 64 = .ok (.ireturn, 1) := by decide +kernel
theorem dX5_init_0 : decode cX5_init 0 = .ok (.aload_n 0, 1) := by decide +kernel
theorem dX5_init_1 : decode cX5_init 1 = .ok (.invokespecial 3, 3) := by decide +kernel
theorem dX5_init_4 : decode cX5_init 4 = .ok (.aload_n 0, 1) := by decide +kernel
theorem dX5_init_5 : decode cX5_init 5 = .ok (.sipush 400, 3) := by decide +kernel
theorem dX5_init_8 : decode cX5_init 8 = .ok (.newarray .byte, 2) := by decide +kernel
theorem dX5_init_10 : decode cX5_init 10 = .ok (.putfield 9, 3) := by decide +kernel
theorem dX5_init_13 : decode cX5_init 13 = .ok (.aload_n 0, 1) := by decide +kernel
theorem dX5_init_14 : decode cX5_init 14 = .ok (.iconst (-1), 1) := by decide +kernel
theorem dX5_init_15 : decode cX5_init 15 = .ok (.putfield 15, 3) := by decide +kernel
theorem dX5_init_18 : decode cX5_init 18 = .ok (.aload_n 0, 1) := by decide +kernel
theorem dX5_init_19 : decode cX5_init 19 = .ok (.bipush 60, 2) := by decide +kernel
theorem dX5_init_21 : decode cX5_init 21 = .ok (.newarray .int, 2) := by decide +kernel
theorem dX5_init_23 : decode cX5_init 23 = .ok (.putfield 19, 3) := by decide +kernel
theorem dX5_init_26 : decode cX5_init 26 = .ok (.aload_n 0, 1) := by decide +kernel
theorem dX5_init_27 : decode cX5_init 27 = .ok (.bipush 60, 2) := by decide +kernel
theorem dX5_init_29 : decode cX5_init 29 = .ok (.newarray .int, 2) := by decide +kernel
theorem dX5_init_31 : decode cX5_init 31 = .ok (.putfield 23, 3) := by decide +kernel
theorem dX5_init_34 : decode cX5_init 34 = .ok (.aload_n 0, 1) := by decide +kernel
theorem dX5_init_35 : decode cX5_init 35 = .ok (.bipush 60, 2) := by decide +kernel
theorem dX5_init_37 : decode cX5_init 37 = .ok (.newarray .int, 2) := by decide +kernel
theorem dX5_init_39 : decode cX5_init 39 = .ok (.putfield 26, 3) := by decide +kernel
theorem dX5_init_42 : decode cX5_init 42 = .ok (.aload_n 0, 1) := by decide +kernel
theorem dX5_init_43 : decode cX5_init 43 = .ok (.sipush 180, 3) := by decide +kernel
theorem dX5_init_46 : decode cX5_init 46 = .ok (.newarray .int, 2) := by decide +kernel
theorem dX5_init_48 : decode cX5_init 48 = .ok (.putfield 29, 3) := by decide +kernel
theorem dX5_init_51 : decode cX5_init 51 = .ok (.aload_n 0, 1) := by decide +kernel
theorem dX5_init_52 : decode cX5_init 52 = .ok (.bipush 100, 2) := by decide +kernel
theorem dX5_init_54 : decode cX5_init 54 = .ok (.newarray .int, 2) := by decide +kernel
theorem dX5_init_56 : decode cX5_init 56 = .ok (.putfield 32, 3) := by decide +kernel
theorem dX5_init_59 : decode cX5_init 59 = .ok (.aload_n 0, 1) := by decide +kernel
theorem dX5_init_60 : decode cX5_init 60 = .ok (.bipush 100, 2) := by decide +kernel
theorem dX5_init_62 : decode cX5_init 62 = .ok (.newarray .int, 2) := by decide +kernel
theorem dX5_init_64 : decode cX5_init 64 = .ok (.putfield 35, 3) := by decide +kernel
theorem dX5_init_67 : decode cX5_init 67 = .ok (.aload_n 0, 1) := by decide +kernel
theorem dX5_init_68 : decode cX5_init 68 = .ok (.bipush 100, 2) := by decide +kernel
theorem dX5_init_70 : decode cX5_init 70 = .ok (.newarray .boolean, 2) := by decide +kernel
theorem dX5_init_72 : decode cX5_init 72 = .ok (.putfield 38, 3) := by decide +kernel
theorem dX5_init_75 : decode cX5_init 75 = .ok (.aload_n 0, 1) := by decide +kernel
theorem dX5_init_76 : decode cX5_init 76 = .ok (.aload_n 1, 1) := by decide +kernel
theorem dX5_init_77 : decode cX5_init 77 = .ok (.putfield 42, 3) := by decide +kernel
theorem dX5_init_80 : decode cX5_init 80 = .ok (.aload_n 0, 1) := by decide +kernel
theorem dX5_init_81 : decode cX5_init 81 = .ok (.aload_n 2, 1) := by decide +kernel
theorem dX5_init_82 : decode cX5_init 82 = .ok (.putfield 46, 3) := by decide +kernel
theorem dX5_init_85 : decode cX5_init 85 = .ok (.return_, 1) := by decide +kernel
theorem dX5_isLetter_0 : decode cX5_isLetter 0 = .ok (.iload_n 1, 1) := by decide +kernel
theorem dX5_isLetter_1 : decode cX5_isLetter 1 = .ok (.bipush 97, 2) := by decide +kernel
theorem dX5_isLetter_3 : decode cX5_isLetter 3 = .ok (.if_icmp .lt 13, 3) := by decide +kernel
theorem dX5_isLetter_6 : decode cX5_isLetter 6 = .ok (.iload_n 1, 1) := by decide +kernel
theorem dX5_isLetter_7 : decode cX5_isLetter 7 = .ok (.bipush 122, 2) := by decide +kernel
theorem dX5_isLetter_9 : decode cX5_isLetter 9 = .ok (.if_icmp .gt 7, 3) := by decide +kernel
theorem dX5_isLetter_12 : decode cX5_isLetter 12 = .ok (.iconst 1, 1) := by decide +kernel
theorem dX5_isLetter_13 : decode cX5_isLetter 13 = .ok (.goto 4, 3) := by decide +kernel
theorem dX5_isLetter_16 : decode cX5_isLetter 16 = .ok (.iconst 0, 1) := by decide +kernel
theorem dX5_isLetter_17 : decode cX5_isLetter 17 = .ok (.ireturn, 1) := by decide +kernel
theorem dX5_isNamePart_0 : decode cX5_isNamePart 0 = .ok (.aload_n 0, 1) := by decide +kernel
theorem dX5_isNamePart_1 : decode cX5_isNamePart 1 = .ok (.iload_n 1, 1) := by decide +kernel
theorem dX5_isNamePart_2 : decode cX5_isNamePart 2 = .ok (.invokevirtual 59, 3) := by decide +kernel
theorem dX5_isNamePart_5 : decode cX5_isNamePart 5 = .ok (.ifCond .ne 15, 3) := by decide +kernel
theorem dX5_isNamePart_8 : decode cX5_isNamePart 8 = .ok (.iload_n 1, 1) := by decide +kernel
theorem dX5_isNamePart_9 : decode cX5_isNamePart 9 = .ok (.bipush 48, 2) := by decide +kernel
theorem dX5_isNamePart_11 : decode cX5_isNamePart 11 = .ok (.if_icmp .lt 13, 3) := by decide +kernel
theorem dX5_isNamePart_14 : decode cX5_isNamePart 14 = .ok (.iload_n 1, 1) := by decide +kernel
theorem dX5_isNamePart_15 : decode cX5_isNamePart 15 = .ok (.bipush 57, 2) := by decide +kernel
theorem dX5_isNamePart_17 : decode cX5_isNamePart 17 = .ok (.if_icmp .gt 7, 3) := by decide +kernel
theorem dX5_isNamePart_20 : decode cX5_isNamePart 20 = .ok (.iconst 1, 1) := by decide +kernel
theorem dX5_isNamePart_21 : decode cX5_isNamePart 21 = .ok (.goto 4, 3) := by decide +kernel
theorem dX5_isNamePart_24 : decode cX5_isNamePart 24 = .ok (.iconst 0, 1) := by decide +kernel
theorem dX5_isNamePart_25 : decode cX5_isNamePart 25 = .ok (.ireturn, 1) := by decide +kernel
theorem dX5_length_0 : decode cX5_length 0 = .ok (.aload_n 0, 1) := by decide +kernel
theorem dX5_length_1 : decode cX5_length 1 = .ok (.getfield 50, 3) := by decide +kernel
theorem dX5_length_4 : decode cX5_length 4 = .ok (.ireturn, 1) := by decide +kernel
theorem dX5_shorten_0 : decode cX5_shorten 0 = .ok (.aload_n 0, 1) := by decide +kernel
theorem dX5_shorten_1 : decode cX5_shorten 1 = .ok (.iload_n 1, 1) := by decide +kernel
theorem dX5_shorten_2 : decode cX5_shorten 2 = .ok (.putfield 50, 3) := by decide +kernel
theorem dX5_shorten_5 : decode cX5_shorten 5 = .ok (.return_, 1) := by decide +kernel
theorem dX6_get_0 : decode cX6_get 0 = .ok (.iload_n 1, 1) := by decide +kernel
theorem dX6_get_1 : decode cX6_get 1 = .ok (.bipush 10, 2) := by decide +kernel
theorem dX6_get_3 : decode cX6_get 3 = .ok (.ishr, 1) := by decide +kernel
theorem dX6_get_4 : decode cX6_get 4 = .ok (.istore_n 2, 1) := by decide +kernel
theorem dX6_get_5 : decode cX6_get 5 = .ok (.iload_n 2, 1) := by decide +kernel
theorem dX6_get_6 : decode cX6_get 6 = .ok (.ifCond .lt 21, 3) := by decide +kernel
theorem dX6_get_9 : decode cX6_get 9 = .ok (.iload_n 2, 1) := by decide +kernel
theorem dX6_get_10 : decode cX6_get 10 = .ok (.aload_n 0, 1) := by decide +kernel
theorem dX6_get_11 : decode cX6_get 11 = .ok (.getfield 17, 3) := by decide +kernel
theorem dX6_get_14 : decode cX6_get 14 = .ok (.arraylength, 1) := by decide +kernel
theorem dX6_get_15 : decode cX6_get 15 = .ok (.if_icmp .ge 12, 3) := by decide +kernel
theorem dX6_get_18 : decode cX6_get 18 = .ok (.aload_n 0, 1) := by decide +kernel
theorem dX6_get_19 : decode cX6_get 19 = .ok (.getfield 17, 3) := by decide +kernel
theorem dX6_get_22 : decode cX6_get 22 = .ok (.iload_n 2, 1) := by decide +kernel
theorem dX6_get_23 : decode cX6_get 23 = .ok (.aaload, 1) := by decide +kernel
theorem dX6_get_24 : decode cX6_get 24 = .ok (.ifnonnull 5, 3) := by decide +kernel
theorem dX6_get_27 : decode cX6_get 27 = .ok (.iconst 0, 1) := by decide +kernel
theorem dX6_get_28 : decode cX6_get 28 = .ok (.ireturn, 1) := by decide +kernel
theorem dX6_get_29 : decode cX6_get 29 = .ok (.aload_n 0, 1) := by decide +kernel
theorem dX6_get_30 : decode cX6_get 30 = .ok (.getfield 17, 3) := by decide +kernel
theorem dX6_get_33 : decode cX6_get 33 = .ok (.iload_n 2, 1) := by decide +kernel
theorem dX6_get_34 : decode cX6_get 34 = .ok (.aaload, 1) := by decide +kernel
theorem dX6_get_35 : decode cX6_get 35 = .ok (.iload_n 1, 1) := by decide +kernel
theorem dX6_get_36 : decode cX6_get 36 = .ok (.sipush 1023, 3) := by decide +kernel
theorem dX6_get_39 : decode cX6_get 39 = .ok (.iand, 1) := by decide +kernel
theorem dX6_get_40 : decode cX6_get 40 = .ok (.iaload, 1) := by decide +kernel
theorem dX6_get_41 : decode cX6_get 41 = .ok (.ireturn, 1) := by decide +kernel
theorem dX6_init_0 : decode cX6_init 0 = .ok (.aload_n 0, 1) := by decide +kernel
theorem dX6_init_1 : decode cX6_init 1 = .ok (.invokespecial 3, 3) := by decide +kernel
theorem dX6_init_4 : decode cX6_init 4 = .ok (.aload_n 0, 1) := by decide +kernel
theorem dX6_init_5 : decode cX6_init 5 = .ok (.iload_n 1, 1) := by decide +kernel
theorem dX6_init_6 : decode cX6_init 6 = .ok (.iconst 0, 1) := by decide +kernel
theorem dX6_init_7 : decode cX6_init 7 = .ok (.invokestatic 9, 3) := by decide +kernel
theorem dX6_init_10 : decode cX6_init 10 = .ok (.bipush 10, 2) := by decide +kernel
theorem dX6_init_12 : decode cX6_init 12 = .ok (.ishr, 1) := by decide +kernel
theorem dX6_init_13 : decode cX6_init 13 = .ok (.iconst 1, 1) := by decide +kernel
theorem dX6_init_14 : decode cX6_init 14 = .ok (.iadd, 1) := by decide +kernel
theorem dX6_init_15 : decode cX6_init 15 = .ok (.anewarray 15, 3) := by decide +kernel
theorem dX6_init_18 : decode cX6_init 18 = .ok (.putfield 17, 3) := by decide +kernel
theorem dX6_init_21 : decode cX6_init 21 = .ok (.return_, 1) := by decide +kernel
theorem dX6_set_0 : decode cX6_set 0 = .ok (.iload_n 1, 1) := by decide +kernel
theorem dX6_set_1 : decode cX6_set 1 = .ok (.bipush 10, 2) := by decide +kernel
theorem dX6_set_3 : decode cX6_set 3 = .ok (.ishr, 1) := by decide +kernel
theorem dX6_set_4 : decode cX6_set 4 = .ok (.istore_n 3, 1) := by decide +kernel
theorem dX6_set_5 : decode cX6_set 5 = .ok (.iload_n 3, 1) := by decide +kernel
theorem dX6_set_6 : decode cX6_set 6 = .ok (.ifCond .lt 12, 3) := by decide +kernel
theorem dX6_set_9 : decode cX6_set 9 = .ok (.iload_n 3, 1) := by decide +kernel
theorem dX6_set_10 : decode cX6_set 10 = .ok (.aload_n 0, 1) := by decide +kernel
theorem dX6_set_11 : decode cX6_set 11 = .ok (.getfield 17, 3) := by decide +kernel
theorem dX6_set_14 : decode cX6_set 14 = .ok (.arraylength, 1) := by decide +kernel
theorem dX6_set_15 : decode cX6_set 15 = .ok (.if_icmp .lt 4, 3) := by decide +kernel
theorem dX6_set_18 : decode cX6_set 18 = .ok (.return_, 1) := by decide +kernel
theorem dX6_set_19 : decode cX6_set 19 = .ok (.aload_n 0, 1) := by decide +kernel
theorem dX6_set_20 : decode cX6_set 20 = .ok (.getfield 17, 3) := by decide +kernel
theorem dX6_set_23 : decode cX6_set 23 = .ok (.iload_n 3, 1) := by decide +kernel
theorem dX6_set_24 : decode cX6_set 24 = .ok (.aaload, 1) := by decide +kernel
theorem dX6_set_25 : decode cX6_set 25 = .ok (.ifnonnull 14, 3) := by decide +kernel
theorem dX6_set_28 : decode cX6_set 28 = .ok (.aload_n 0, 1) := by decide +kernel
theorem dX6_set_29 : decode cX6_set 29 = .ok (.getfield 17, 3) := by decide +kernel
theorem dX6_set_32 : decode cX6_set 32 = .ok (.iload_n 3, 1) := by decide +kernel
theorem dX6_set_33 : decode cX6_set 33 = .ok (.sipush 1024, 3) := by decide +kernel
theorem dX6_set_36 : decode cX6_set 36 = .ok (.newarray .int, 2) := by decide +kernel
theorem dX6_set_38 : decode cX6_set 38 = .ok (.aastore, 1) := by decide +kernel
theorem dX6_set_39 : decode cX6_set 39 = .ok (.aload_n 0, 1) := by decide +kernel
theorem dX6_set_40 : decode cX6_set 40 = .ok (.getfield 17, 3) := by decide +kernel
theorem dX6_set_43 : decode cX6_set 43 = .ok (.iload_n 3, 1) := by decide +kernel
theorem dX6_set_44 : decode cX6_set 44 = .ok (.aaload, 1) := by decide +kernel
theorem dX6_set_45 : decode cX6_set 45 = .ok (.iload_n 1, 1) := by decide +kernel
theorem dX6_set_46 : decode cX6_set 46 = .ok (.sipush 1023, 3) := by decide +kernel
theorem dX6_set_49 : decode cX6_set 49 = .ok (.iand, 1) := by decide +kernel
theorem dX6_set_50 : decode cX6_set 50 = .ok (.iload_n 2, 1) := by decide +kernel
theorem dX6_set_51 : decode cX6_set 51 = .ok (.iastore, 1) := by decide +kernel
theorem dX6_set_52 : decode cX6_set 52 = .ok (.return_, 1) := by decide +kernel
theorem dX7_add_0 : decode cX7_add 0 = .ok (.aload_n 0, 1) := by decide +kernel
theorem dX7_add_1 : decode cX7_add 1 = .ok (.getfield 35, 3) := by decide +kernel
theorem dX7_add_4 : decode cX7_add 4 = .ok (.bipush 24, 2) := by decide +kernel
theorem dX7_add_6 : decode cX7_add 6 = .ok (.if_icmp .ge 15, 3) := by decide +kernel
theorem dX7_add_9 : decode cX7_add 9 = .ok (.iload_n 2, 1) := by decide +kernel
theorem dX7_add_10 : decode cX7_add 10 = .ok (.bipush 8, 2) := by decide +kernel
theorem dX7_add_12 : decode cX7_add 12 = .ok (.if_icmp .gt 9, 3) := by decide +kernel
theorem dX7_add_15 : decode cX7_add 15 = .ok (.iload_n 2, 1) := by decide +kernel
theorem dX7_add_16 : decode cX7_add 16 = .ok (.aload_n 1, 1) := by decide +kernel
theorem dX7_add_17 : decode cX7_add 17 = .ok (.arraylength, 1) := by decide +kernel
theorem dX7_add_18 : decode cX7_add 18 = .ok (.if_icmp .le 5, 3) := by decide +kernel
theorem dX7_add_21 : decode cX7_add 21 = .ok (.iconst (-1), 1) := by decide +kernel
theorem dX7_add_22 : decode cX7_add 22 = .ok (.ireturn, 1) := by decide +kernel
theorem dX7_add_23 : decode cX7_add 23 = .ok (.aload_n 0, 1) := by decide +kernel
theorem dX7_add_24 : decode cX7_add 24 = .ok (.getfield 35, 3) := by decide +kernel
theorem dX7_add_27 : decode cX7_add 27 = .ok (.istore 5, 2) := by decide +kernel
theorem dX7_add_29 : decode cX7_add 29 = .ok (.iconst 0, 1) := by decide +kernel
theorem dX7_add_30 : decode cX7_add 30 = .ok (.istore 6, 2) := by decide +kernel
theorem dX7_add_32 : decode cX7_add 32 = .ok (.iload 6, 2) := by decide +kernel
theorem dX7_add_34 : decode cX7_add 34 = .ok (.iload_n 2, 1) := by decide +kernel
theorem dX7_add_35 : decode cX7_add 35 = .ok (.if_icmp .ge 26, 3) := by decide +kernel
theorem dX7_add_38 : decode cX7_add 38 = .ok (.aload_n 0, 1) := by decide +kernel
theorem dX7_add_39 : decode cX7_add 39 = .ok (.getfield 9, 3) := by decide +kernel
theorem dX7_add_42 : decode cX7_add 42 = .ok (.iload 5, 2) := by decide +kernel
theorem dX7_add_44 : decode cX7_add 44 = .ok (.bipush 8, 2) := by decide +kernel
theorem dX7_add_46 : decode cX7_add 46 = .ok (.imul, 1) := by decide +kernel
theorem dX7_add_47 : decode cX7_add 47 = .ok (.iload 6, 2) := by decide +kernel
theorem dX7_add_49 : decode cX7_add 49 = .ok (.iadd, 1) := by decide +kernel
theorem dX7_add_50 : decode cX7_add 50 = .ok (.aload_n 1, 1) := by decide +kernel
theorem dX7_add_51 : decode cX7_add 51 = .ok (.iload 6, 2) := by decide +kernel
theorem dX7_add_53 : decode cX7_add 53 = .ok (.baload, 1) := by decide +kernel
theorem dX7_add_54 : decode cX7_add 54 = .ok (.bastore, 1) := by decide +kernel
theorem dX7_add_55 : decode cX7_add 55 = .ok (.iinc 6 1, 3) := by decide +kernel
theorem dX7_add_58 : decode cX7_add 58 = .ok (.goto (-26), 3) := by decide +kernel
theorem dX7_add_61 : decode cX7_add 61 = .ok (.aload_n 0, 1) := by decide +kernel
theorem dX7_add_62 : decode cX7_add 62 = .ok (.getfield 15, 3) := by decide +kernel
theorem dX7_add_65 : decode cX7_add 65 = .ok (.iload 5, 2) := by decide +kernel
theorem dX7_add_67 : decode cX7_add 67 = .ok (.iload_n 2, 1) := by decide +kernel
theorem dX7_add_68 : decode cX7_add 68 = .ok (.iastore, 1) := by decide +kernel
theorem dX7_add_69 : decode cX7_add 69 = .ok (.aload_n 0, 1) := by decide +kernel
theorem dX7_add_70 : decode cX7_add 70 = .ok (.getfield 19, 3) := by decide +kernel
theorem dX7_add_73 : decode cX7_add 73 = .ok (.iload 5, 2) := by decide +kernel
theorem dX7_add_75 : decode cX7_add 75 = .ok (.iload_n 3, 1) := by decide +kernel
theorem dX7_add_76 : decode cX7_add 76 = .ok (.iastore, 1) := by decide +kernel
theorem dX7_add_77 : decode cX7_add 77 = .ok (.aload_n 0, 1) := by decide +kernel
theorem dX7_add_78 : decode cX7_add 78 = .ok (.getfield 22, 3) := by decide +kernel
theorem dX7_add_81 : decode cX7_add 81 = .ok (.iload 5, 2) := by decide +kernel
theorem dX7_add_83 : decode cX7_add 83 = .ok (.iload 4, 2) := by decide +kernel
theorem dX7_add_85 : decode cX7_add 85 = .ok (.iastore, 1) := by decide +kernel
theorem dX7_add_86 : decode cX7_add 86 = .ok (.aload_n 0, 1) := by decide +kernel
theorem dX7_add_87 : decode cX7_add 87 = .ok (.getfield 25, 3) := by decide +kernel
theorem dX7_add_90 : decode cX7_add 90 = .ok (.iload 5, 2) := by decide +kernel
theorem dX7_add_92 : decode cX7_add 92 = .ok (.iload 5, 2) := by decide +kernel
theorem dX7_add_94 : decode cX7_add 94 = .ok (.iastore, 1) := by decide +kernel
theorem dX7_add_95 : decode cX7_add 95 = .ok (.aload_n 0, 1) := by decide +kernel
theorem dX7_add_96 : decode cX7_add 96 = .ok (.getfield 28, 3) := by decide +kernel
theorem dX7_add_99 : decode cX7_add 99 = .ok (.iload 5, 2) := by decide +kernel
theorem dX7_add_101 : decode cX7_add 101 = .ok (.iconst (-1), 1) := by decide +kernel
theorem dX7_add_102 : decode cX7_add 102 = .ok (.iastore, 1) := by decide +kernel
theorem dX7_add_103 : decode cX7_add 103 = .ok (.aload_n 0, 1) := by decide +kernel
theorem dX7_add_104 : decode cX7_add 104 = .ok (.dup, 1) := by decide +kernel
theorem dX7_add_105 : decode cX7_add 105 = .ok (.getfield 35, 3) := by decide +kernel
theorem dX7_add_108 : decode cX7_add 108 = .ok (.iconst 1, 1) := by decide +kernel
theorem dX7_add_109 : decode cX7_add 109 = .ok (.iadd, 1) := by decide +kernel
theorem dX7_add_110 : decode cX7_add 110 = .ok (.putfield 35, 3) := by decide +kernel
theorem dX7_add_113 : decode cX7_add 113 = .ok (.iload 5, 2) := by decide +kernel
theorem dX7_add_115 : decode cX7_add 115 = .ok (.ireturn, 1) := by decide +kernel
theorem dX7_arity_0 : decode cX7_arity 0 = .ok (.iload_n 1, 1) := by decide +kernel
theorem dX7_arity_1 : decode cX7_arity 1 = .ok (.ifCond .lt 20, 3) := by decide +kernel
theorem dX7_arity_4 : decode cX7_arity 4 = .ok (.iload_n 1, 1) := by decide +kernel
theorem dX7_arity_5 : decode cX7_arity 5 = .ok (.aload_n 0, 1) := by decide +kernel
theorem dX7_arity_6 : decode cX7_arity 6 = .ok (.getfield 35, 3) := by decide +kernel
theorem dX7_arity_9 : decode cX7_arity 9 = .ok (.if_icmp .ge 12, 3) := by decide +kernel
theorem dX7_arity_12 : decode cX7_arity 12 = .ok (.aload_n 0, 1) := by decide +kernel
theorem dX7_arity_13 : decode cX7_arity 13 = .ok (.getfield 19, 3) := by decide +kernel
theorem dX7_arity_16 : decode cX7_arity 16 = .ok (.iload_n 1, 1) := by decide +kernel
theorem dX7_arity_17 : decode cX7_arity 17 = .ok (.iaload, 1) := by decide +kernel
theorem dX7_arity_18 : decode cX7_arity 18 = .ok (.goto 4, 3) := by decide +kernel
theorem dX7_arity_21 : decode cX7_arity 21 = .ok (.iconst 0, 1) := by decide +kernel
theorem dX7_arity_22 : decode cX7_arity 22 = .ok (.ireturn, 1) := by decide +kernel
theorem dX7_chooseOrder_0 : decode cX7_chooseOrder 0 = .ok (.aload_n 0, 1) := by decide +kernel
theorem dX7_chooseOrder_1 : decode cX7_chooseOrder 1 = .ok (.iload_n 1, 1) := by decide +kernel
theorem dX7_chooseOrder_2 : decode cX7_chooseOrder 2 = .ok (.putfield 58, 3) := by decide +kernel
theorem dX7_chooseOrder_5 : decode cX7_chooseOrder 5 = .ok (.return_, 1) := by decide +kernel
theorem dX7_direct_0 : decode cX7_direct 0 = .ok (.iload_n 1, 1) := by decide +kernel
theorem dX7_direct_1 : decode cX7_direct 1 = .ok (.ifCond .lt 18, 3) := by decide +kernel
theorem dX7_direct_4 : decode cX7_direct 4 = .ok (.iload_n 1, 1) := by decide +kernel
theorem dX7_direct_5 : decode cX7_direct 5 = .ok (.aload_n 0, 1) := by decide +kernel
theorem dX7_direct_6 : decode cX7_direct 6 = .ok (.getfield 35, 3) := by decide +kernel
theorem dX7_direct_9 : decode cX7_direct 9 = .ok (.if_icmp .ge 10, 3) := by decide +kernel
theorem dX7_direct_12 : decode cX7_direct 12 = .ok (.aload_n 0, 1) := by decide +kernel
theorem dX7_direct_13 : decode cX7_direct 13 = .ok (.getfield 31, 3) := by decide +kernel
theorem dX7_direct_16 : decode cX7_direct 16 = .ok (.iload_n 1, 1) := by decide +kernel
theorem dX7_direct_17 : decode cX7_direct 17 = .ok (.iload_n 2, 1) := by decide +kernel
theorem dX7_direct_18 : decode cX7_direct 18 = .ok (.bastore, 1) := by decide +kernel
theorem dX7_direct_19 : decode cX7_direct 19 = .ok (.return_, 1) := by decide +kernel
theorem dX7_find_0 : decode cX7_find 0 = .ok (.iload_n 2, 1) := by decide +kernel
theorem dX7_find_1 : decode cX7_find 1 = .ok (.ifCond .lt 22, 3) := by decide +kernel
theorem dX7_find_4 : decode cX7_find 4 = .ok (.iload_n 3, 1) := by decide +kernel
theorem dX7_find_5 : decode cX7_find 5 = .ok (.iconst 1, 1) := by decide +kernel
theorem dX7_find_6 : decode cX7_find 6 = .ok (.if_icmp .lt 17, 3) := by decide +kernel
theorem dX7_find_9 : decode cX7_find 9 = .ok (.iload_n 3, 1) := by decide +kernel
theorem dX7_find_10 : decode cX7_find 10 = .ok (.bipush 8, 2) := by decide +kernel
theorem dX7_find_12 : decode cX7_find 12 = .ok (.if_icmp .gt 11, 3) := by decide +kernel
theorem dX7_find_15 : decode cX7_find 15 = .ok (.iload_n 2, 1) := by decide +kernel
theorem dX7_find_16 : decode cX7_find 16 = .ok (.iload_n 3, 1) := by decide +kernel
theorem dX7_find_17 : decode cX7_find 17 = .ok (.iadd, 1) := by decide +kernel
theorem dX7_find_18 : decode cX7_find 18 = .ok (.aload_n 1, 1) := by decide +kernel
theorem dX7_find_19 : decode cX7_find 19 = .ok (.arraylength, 1) := by decide +kernel
theorem dX7_find_20 : decode cX7_find 20 = .ok (.if_icmp .le 5, 3) := by decide +kernel
theorem dX7_find_23 : decode cX7_find 23 = .ok (.iconst (-1), 1) := by decide +kernel
theorem dX7_find_24 : decode cX7_find 24 = .ok (.ireturn, 1) := by decide +kernel
theorem dX7_find_25 : decode cX7_find 25 = .ok (.iconst 0, 1) := by decide +kernel
theorem dX7_find_26 : decode cX7_find 26 = .ok (.istore 4, 2) := by decide +kernel
theorem dX7_find_28 : decode cX7_find 28 = .ok (.iload 4, 2) := by decide +kernel
theorem dX7_find_30 : decode cX7_find 30 = .ok (.aload_n 0, 1) := by decide +kernel
theorem dX7_find_31 : decode cX7_find 31 = .ok (.getfield 35, 3) := by decide +kernel
theorem dX7_find_34 : decode cX7_find 34 = .ok (.if_icmp .ge 34, 3) := by decide +kernel
theorem dX7_find_37 : decode cX7_find 37 = .ok (.aload_n 0, 1) := by decide +kernel
theorem dX7_find_38 : decode cX7_find 38 = .ok (.getfield 15, 3) := by decide +kernel
theorem dX7_find_41 : decode cX7_find 41 = .ok (.iload 4, 2) := by decide +kernel
theorem dX7_find_43 : decode cX7_find 43 = .ok (.iaload, 1) := by decide +kernel
theorem dX7_find_44 : decode cX7_find 44 = .ok (.iload_n 3, 1) := by decide +kernel
theorem dX7_find_45 : decode cX7_find 45 = .ok (.if_icmp .ne 17, 3) := by decide +kernel
theorem dX7_find_48 : decode cX7_find 48 = .ok (.aload_n 0, 1) := by decide +kernel
theorem dX7_find_49 : decode cX7_find 49 = .ok (.iload 4, 2) := by decide +kernel
theorem dX7_find_51 : decode cX7_find 51 = .ok (.aload_n 1, 1) := by decide +kernel
theorem dX7_find_52 : decode cX7_find 52 = .ok (.iload_n 2, 1) := by decide +kernel
theorem dX7_find_53 : decode cX7_find 53 = .ok (.invokevirtual 46, 3) := by decide +kernel
theorem dX7_find_56 : decode cX7_find 56 = .ok (.ifCond .eq 6, 3) := by decide +kernel
theorem dX7_find_59 : decode cX7_find 59 = .ok (.iload 4, 2) := by decide +kernel
theorem dX7_find_61 : decode cX7_find 61 = .ok (.ireturn, 1) := by decide +kernel
theorem dX7_find_62 : decode cX7_find 62 = .ok (.iinc 4 1, 3) := by decide +kernel
theorem dX7_find_65 : decode cX7_find 65 = .ok (.goto (-37), 3) := by decide +kernel
theorem dX7_find_68 : decode cX7_find 68 = .ok (.iconst (-1), 1) := by decide +kernel
theorem dX7_find_69 : decode cX7_find 69 = .ok (.ireturn, 1) := by decide +kernel
theorem dX7_fixOrder_0 : decode cX7_fixOrder 0 = .ok (.aload_n 0, 1) := by decide +kernel
theorem dX7_fixOrder_1 : decode cX7_fixOrder 1 = .ok (.iconst 1, 1) := by decide +kernel
theorem dX7_fixOrder_2 : decode cX7_fixOrder 2 = .ok (.putfield 62, 3) := by decide +kernel
theorem dX7_fixOrder_5 : decode cX7_fixOrder 5 = .ok (.return_, 1) := by decide +kernel
theorem dX7_has_0 : decode cX7_has 0 = .ok (.iload_n 1, 1) := by decide +kernel
theorem dX7_has_1 : decode cX7_has 1 = .ok (.ifCond .lt 15, 3) := by decide +kernel
theorem dX7_has_4 : decode cX7_has 4 = .ok (.iload_n 1, 1) := by decide +kernel
theorem dX7_has_5 : decode cX7_has 5 = .ok (.aload_n 0, 1) := by decide +kernel
theorem dX7_has_6 : decode cX7_has 6 = .ok (.getfield 35, 3) := by decide +kernel
theorem dX7_has_9 : decode cX7_has 9 = .ok (.if_icmp .ge 7, 3) := by decide +kernel
theorem dX7_has_12 : decode cX7_has 12 = .ok (.iconst 1, 1) := by decide +kernel
theorem dX7_has_13 : decode cX7_has 13 = .ok (.goto 4, 3) := by decide +kernel
theorem dX7_has_16 : decode cX7_has 16 = .ok (.iconst 0, 1) := by decide +kernel
theorem dX7_has_17 : decode cX7_has 17 = .ok (.ireturn, 1) := by decide +kernel
theorem dX7_init_0 : decode cX7_init 0 = .ok (.aload_n 0, 1) := by decide +kernel
theorem dX7_init_1 : decode cX7_init 1 = .ok (.invokespecial 3, 3) := by decide +kernel
theorem dX7_init_4 : decode cX7_init 4 = .ok (.aload_n 0, 1) := by decide +kernel
theorem dX7_init_5 : decode cX7_init 5 = .ok (.sipush 192, 3) := by decide +kernel
theorem dX7_init_8 : decode cX7_init 8 = .ok (.newarray .byte, 2) := by decide +kernel
theorem dX7_init_10 : decode cX7_init 10 = .ok (.putfield 9, 3) := by decide +kernel
theorem dX7_init_13 : decode cX7_init 13 = .ok (.aload_n 0, 1) := by decide +kernel
theorem dX7_init_14 : decode cX7_init 14 = .ok (.bipush 24, 2) := by decide +kernel
theorem dX7_init_16 : decode cX7_init 16 = .ok (.newarray .int, 2) := by decide +kernel
theorem dX7_init_18 : decode cX7_init 18 = .ok (.putfield 15, 3) := by decide +kernel
theorem dX7_init_21 : decode cX7_init 21 = .ok (.aload_n 0, 1) := by decide +kernel
theorem dX7_init_22 : decode cX7_init 22 = .ok (.bipush 24, 2) := by decide +kernel
theorem dX7_init_24 : decode cX7_init 24 = .ok (.newarray .int, 2) := by decide +kernel
theorem dX7_init_26 : decode cX7_init 26 = .ok (.putfield 19, 3) := by decide +kernel
theorem dX7_init_29 : decode cX7_init 29 = .ok (.aload_n 0, 1) := by decide +kernel
theorem dX7_init_30 : decode cX7_init 30 = .ok (.bipush 24, 2) := by decide +kernel
theorem dX7_init_32 : decode cX7_init 32 = .ok (.newarray .int, 2) := by decide +kernel
theorem dX7_init_34 : decode cX7_init 34 = .ok (.putfield 22, 3) := by decide +kernel
theorem dX7_init_37 : decode cX7_init 37 = .ok (.aload_n 0, 1) := by decide +kernel
theorem dX7_init_38 : decode cX7_init 38 = .ok (.bipush 24, 2) := by decide +kernel
theorem dX7_init_40 : decode cX7_init 40 = .ok (.newarray .int, 2) := by decide +kernel
theorem dX7_init_42 : decode cX7_init 42 = .ok (.putfield 25, 3) := by decide +kernel
theorem dX7_init_45 : decode cX7_init 45 = .ok (.aload_n 0, 1) := by decide +kernel
theorem dX7_init_46 : decode cX7_init 46 = .ok (.bipush 24, 2) := by decide +kernel
theorem dX7_init_48 : decode cX7_init 48 = .ok (.newarray .int, 2) := by decide +kernel
theorem dX7_init_50 : decode cX7_init 50 = .ok (.putfield 28, 3) := by decide +kernel
theorem dX7_init_53 : decode cX7_init 53 = .ok (.aload_n 0, 1) := by decide +kernel
theorem dX7_init_54 : decode cX7_init 54 = .ok (.bipush 24, 2) := by decide +kernel
theorem dX7_init_56 : decode cX7_init 56 = .ok (.newarray .boolean, 2) := by decide +kernel
theorem dX7_init_58 : decode cX7_init 58 = .ok (.putfield 31, 3) := by decide +kernel
theorem dX7_init_61 : decode cX7_init 61 = .ok (.return_, 1) := by decide +kernel
theorem dX7_isByWeight_0 : decode cX7_isByWeight 0 = .ok (.aload_n 0, 1) := by decide +kernel
theorem dX7_isByWeight_1 : decode cX7_isByWeight 1 = .ok (.getfield 58, 3) := by decide +kernel
theorem dX7_isByWeight_4 : decode cX7_isByWeight 4 = .ok (.ireturn, 1) := by decide +kernel
theorem dX7_isFromRight_0 : decode cX7_isFromRight 0 = .ok (.iload_n 1, 1) := by decide +kernel
theorem dX7_isFromRight_1 : decode cX7_isFromRight 1 = .ok (.ifCond .lt 24, 3) := by decide +kernel
theorem dX7_isFromRight_4 : decode cX7_isFromRight 4 = .ok (.iload_n 1, 1) := by decide +kernel
theorem dX7_isFromRight_5 : decode cX7_isFromRight 5 = .ok (.aload_n 0, 1) := by decide +kernel
theorem dX7_isFromRight_6 : decode cX7_isFromRight 6 = .ok (.getfield 35, 3) := by decide +kernel
theorem dX7_isFromRight_9 : decode cX7_isFromRight 9 = .ok (.if_icmp .ge 16, 3) := by decide +kernel
theorem dX7_isFromRight_12 : decode cX7_isFromRight 12 = .ok (.aload_n 0, 1) := by decide +kernel
theorem dX7_isFromRight_13 : decode cX7_isFromRight 13 = .ok (.getfield 31, 3) := by decide +kernel
theorem dX7_isFromRight_16 : decode cX7_isFromRight 16 = .ok (.iload_n 1, 1) := by decide +kernel
theorem dX7_isFromRight_17 : decode cX7_isFromRight 17 = .ok (.baload, 1) := by decide +kernel
theorem dX7_isFromRight_18 : decode cX7_isFromRight 18 = .ok (.ifCond .eq 7, 3) := by decide +kernel
theorem dX7_isFromRight_21 : decode cX7_isFromRight 21 = .ok (.iconst 1, 1) := by decide +kernel
theorem dX7_isFromRight_22 : decode cX7_isFromRight 22 = .ok (.goto 4, 3) := by decide +kernel
theorem dX7_isFromRight_25 : decode cX7_isFromRight 25 = .ok (.iconst 0, 1) := by decide +kernel
theorem dX7_isFromRight_26 : decode cX7_isFromRight 26 = .ok (.ireturn, 1) := by decide +kernel
theorem dX7_isFull_0 : decode cX7_isFull 0 = .ok (.aload_n 0, 1) := by decide +kernel
theorem dX7_isFull_1 : decode cX7_isFull 1 = .ok (.getfield 35, 3) := by decide +kernel
theorem dX7_isFull_4 : decode cX7_isFull 4 = .ok (.bipush 24, 2) := by decide +kernel
theorem dX7_isFull_6 : decode cX7_isFull 6 = .ok (.if_icmp .lt 7, 3) := by decide +kernel
theorem dX7_isFull_9 : decode cX7_isFull 9 = .ok (.iconst 1, 1) := by decide +kernel
theorem dX7_isFull_10 : decode cX7_isFull 10 = .ok (.goto 4, 3) := by decide +kernel
theorem dX7_isFull_13 : decode cX7_isFull 13 = .ok (.iconst 0, 1) := by decide +kernel
theorem dX7_isFull_14 : decode cX7_isFull 14 = .ok (.ireturn, 1) := by decide +kernel
theorem dX7_isNameAt_0 : decode cX7_isNameAt 0 = .ok (.iconst 0, 1) := by decide +kernel
theorem dX7_isNameAt_1 : decode cX7_isNameAt 1 = .ok (.istore 4, 2) := by decide +kernel
theorem dX7_isNameAt_3 : decode cX7_isNameAt 3 = .ok (.iload 4, 2) := by decide +kernel
theorem dX7_isNameAt_5 : decode cX7_isNameAt 5 = .ok (.aload_n 0, 1) := by decide +kernel
theorem dX7_isNameAt_6 : decode cX7_isNameAt 6 = .ok (.iload_n 1, 1) := by decide +kernel
theorem dX7_isNameAt_7 : decode cX7_isNameAt 7 = .ok (.invokevirtual 50, 3) := by decide +kernel
theorem dX7_isNameAt_10 : decode cX7_isNameAt 10 = .ok (.if_icmp .ge 43, 3) := by decide +kernel
theorem dX7_isNameAt_13 : decode cX7_isNameAt 13 = .ok (.iload_n 3, 1) := by decide +kernel
theorem dX7_isNameAt_14 : decode cX7_isNameAt 14 = .ok (.iload 4, 2) := by decide +kernel
theorem dX7_isNameAt_16 : decode cX7_isNameAt 16 = .ok (.iadd, 1) := by decide +kernel
theorem dX7_isNameAt_17 : decode cX7_isNameAt 17 = .ok (.istore 5, 2) := by decide +kernel
theorem dX7_isNameAt_19 : decode cX7_isNameAt 19 = .ok (.iload 5, 2) := by decide +kernel
theorem dX7_isNameAt_21 : decode cX7_isNameAt 21 = .ok (.ifCond .lt 24, 3) := by decide +kernel
theorem dX7_isNameAt_24 : decode cX7_isNameAt 24 = .ok (.iload 5, 2) := by decide +kernel
theorem dX7_isNameAt_26 : decode cX7_isNameAt 26 = .ok (.aload_n 2, 1) := by decide +kernel
theorem dX7_isNameAt_27 : decode cX7_isNameAt 27 = .ok (.arraylength, 1) := by decide +kernel
theorem dX7_isNameAt_28 : decode cX7_isNameAt 28 = .ok (.if_icmp .ge 17, 3) := by decide +kernel
theorem dX7_isNameAt_31 : decode cX7_isNameAt 31 = .ok (.aload_n 2, 1) := by decide +kernel
theorem dX7_isNameAt_32 : decode cX7_isNameAt 32 = .ok (.iload 5, 2) := by decide +kernel
theorem dX7_isNameAt_34 : decode cX7_isNameAt 34 = .ok (.baload, 1) := by decide +kernel
theorem dX7_isNameAt_35 : decode cX7_isNameAt 35 = .ok (.aload_n 0, 1) := by decide +kernel
theorem dX7_isNameAt_36 : decode cX7_isNameAt 36 = .ok (.iload_n 1, 1) := by decide +kernel
theorem dX7_isNameAt_37 : decode cX7_isNameAt 37 = .ok (.iload 4, 2) := by decide +kernel
theorem dX7_isNameAt_39 : decode cX7_isNameAt 39 = .ok (.invokevirtual 54, 3) := by decide +kernel
theorem dX7_isNameAt_42 : decode cX7_isNameAt 42 = .ok (.if_icmp .eq 5, 3) := by decide +kernel
theorem dX7_isNameAt_45 : decode cX7_isNameAt 45 = .ok (.iconst 0, 1) := by decide +kernel
theorem dX7_isNameAt_46 : decode cX7_isNameAt 46 = .ok (.ireturn, 1) := by decide +kernel
theorem dX7_isNameAt_47 : decode cX7_isNameAt 47 = .ok (.iinc 4 1, 3) := by decide +kernel
theorem dX7_isNameAt_50 : decode cX7_isNameAt 50 = .ok (.goto (-47), 3) := by decide +kernel
theorem dX7_isNameAt_53 : decode cX7_isNameAt 53 = .ok (.iconst 1, 1) := by decide +kernel
theorem dX7_isNameAt_54 : decode cX7_isNameAt 54 = .ok (.ireturn, 1) := by decide +kernel
theorem dX7_isOrderFixed_0 : decode cX7_isOrderFixed 0 = .ok (.aload_n 0, 1) := by decide +kernel
theorem dX7_isOrderFixed_1 : decode cX7_isOrderFixed 1 = .ok (.getfield 62, 3) := by decide +kernel
theorem dX7_isOrderFixed_4 : decode cX7_isOrderFixed 4 = .ok (.ireturn, 1) := by decide +kernel
theorem dX7_moveTo_0 : decode cX7_moveTo 0 = .ok (.iload_n 1, 1) := by decide +kernel
theorem dX7_moveTo_1 : decode cX7_moveTo 1 = .ok (.ifCond .lt 11, 3) := by decide +kernel
theorem dX7_moveTo_4 : decode cX7_moveTo 4 = .ok (.iload_n 1, 1) := by decide +kernel
theorem dX7_moveTo_5 : decode cX7_moveTo 5 = .ok (.aload_n 0, 1) := by decide +kernel
theorem dX7_moveTo_6 : decode cX7_moveTo 6 = .ok (.getfield 35, 3) := by decide +kernel
theorem dX7_moveTo_9 : decode cX7_moveTo 9 = .ok (.if_icmp .lt 4, 3) := by decide +kernel
theorem dX7_moveTo_12 : decode cX7_moveTo 12 = .ok (.return_, 1) := by decide +kernel
theorem dX7_moveTo_13 : decode cX7_moveTo 13 = .ok (.aload_n 0, 1) := by decide +kernel
theorem dX7_moveTo_14 : decode cX7_moveTo 14 = .ok (.getfield 25, 3) := by decide +kernel
theorem dX7_moveTo_17 : decode cX7_moveTo 17 = .ok (.iload_n 1, 1) := by decide +kernel
theorem dX7_moveTo_18 : decode cX7_moveTo 18 = .ok (.iaload, 1) := by decide +kernel
theorem dX7_moveTo_19 : decode cX7_moveTo 19 = .ok (.istore_n 3, 1) := by decide +kernel
theorem dX7_moveTo_20 : decode cX7_moveTo 20 = .ok (.iconst 0, 1) := by decide +kernel
theorem dX7_moveTo_21 : decode cX7_moveTo 21 = .ok (.istore 4, 2) := by decide +kernel
theorem dX7_moveTo_23 : decode cX7_moveTo 23 = .ok (.iload 4, 2) := by decide +kernel
theorem dX7_moveTo_25 : decode cX7_moveTo 25 = .ok (.aload_n 0, 1) := by decide +kernel
theorem dX7_moveTo_26 : decode cX7_moveTo 26 = .ok (.getfield 35, 3) := by decide +kernel
theorem dX7_moveTo_29 : decode cX7_moveTo 29 = .ok (.if_icmp .ge 78, 3) := by decide +kernel
theorem dX7_moveTo_32 : decode cX7_moveTo 32 = .ok (.aload_n 0, 1) := by decide +kernel
theorem dX7_moveTo_33 : decode cX7_moveTo 33 = .ok (.getfield 25, 3) := by decide +kernel
theorem dX7_moveTo_36 : decode cX7_moveTo 36 = .ok (.iload 4, 2) := by decide +kernel
theorem dX7_moveTo_38 : decode cX7_moveTo 38 = .ok (.iaload, 1) := by decide +kernel
theorem dX7_moveTo_39 : decode cX7_moveTo 39 = .ok (.iload_n 3, 1) := by decide +kernel
theorem dX7_moveTo_40 : decode cX7_moveTo 40 = .ok (.if_icmp .le 28, 3) := by decide +kernel
theorem dX7_moveTo_43 : decode cX7_moveTo 43 = .ok (.aload_n 0, 1) := by decide +kernel
theorem dX7_moveTo_44 : decode cX7_moveTo 44 = .ok (.getfield 25, 3) := by decide +kernel
theorem dX7_moveTo_47 : decode cX7_moveTo 47 = .ok (.iload 4, 2) := by decide +kernel
theorem dX7_moveTo_49 : decode cX7_moveTo 49 = .ok (.iaload, 1) := by decide +kernel
theorem dX7_moveTo_50 : decode cX7_moveTo 50 = .ok (.iload_n 2, 1) := by decide +kernel
theorem dX7_moveTo_51 : decode cX7_moveTo 51 = .ok (.if_icmp .gt 17, 3) := by decide +kernel
theorem dX7_moveTo_54 : decode cX7_moveTo 54 = .ok (.aload_n 0, 1) := by decide +kernel
theorem dX7_moveTo_55 : decode cX7_moveTo 55 = .ok (.getfield 25, 3) := by decide +kernel
theorem dX7_moveTo_58 : decode cX7_moveTo 58 = .ok (.iload 4, 2) := by decide +kernel
theorem dX7_moveTo_60 : decode cX7_moveTo 60 = .ok (.dup2, 1) := by decide +kernel
theorem dX7_moveTo_61 : decode cX7_moveTo 61 = .ok (.iaload, 1) := by decide +kernel
theorem dX7_moveTo_62 : decode cX7_moveTo 62 = .ok (.iconst 1, 1) := by decide +kernel
theorem dX7_moveTo_63 : decode cX7_moveTo 63 = .ok (.isub, 1) := by decide +kernel
theorem dX7_moveTo_64 : decode cX7_moveTo 64 = .ok (.iastore, 1) := by decide +kernel
theorem dX7_moveTo_65 : decode cX7_moveTo 65 = .ok (.goto 36, 3) := by decide +kernel
theorem dX7_moveTo_68 : decode cX7_moveTo 68 = .ok (.aload_n 0, 1) := by decide +kernel
theorem dX7_moveTo_69 : decode cX7_moveTo 69 = .ok (.getfield 25, 3) := by decide +kernel
theorem dX7_moveTo_72 : decode cX7_moveTo 72 = .ok (.iload 4, 2) := by decide +kernel
theorem dX7_moveTo_74 : decode cX7_moveTo 74 = .ok (.iaload, 1) := by decide +kernel
theorem dX7_moveTo_75 : decode cX7_moveTo 75 = .ok (.iload_n 3, 1) := by decide +kernel
theorem dX7_moveTo_76 : decode cX7_moveTo 76 = .ok (.if_icmp .ge 25, 3) := by decide +kernel
theorem dX7_moveTo_79 : decode cX7_moveTo 79 = .ok (.aload_n 0, 1) := by decide +kernel
theorem dX7_moveTo_80 : decode cX7_moveTo 80 = .ok (.getfield 25, 3) := by decide +kernel
theorem dX7_moveTo_83 : decode cX7_moveTo 83 = .ok (.iload 4, 2) := by decide +kernel
theorem dX7_moveTo_85 : decode cX7_moveTo 85 = .ok (.iaload, 1) := by decide +kernel
theorem dX7_moveTo_86 : decode cX7_moveTo 86 = .ok (.iload_n 2, 1) := by decide +kernel
theorem dX7_moveTo_87 : decode cX7_moveTo 87 = .ok (.if_icmp .lt 14, 3) := by decide +kernel
theorem dX7_moveTo_90 : decode cX7_moveTo 90 = .ok (.aload_n 0, 1) := by decide +kernel
theorem dX7_moveTo_91 : decode cX7_moveTo 91 = .ok (.getfield 25, 3) := by decide +kernel
theorem dX7_moveTo_94 : decode cX7_moveTo 94 = .ok (.iload 4, 2) := by decide +kernel
theorem dX7_moveTo_96 : decode cX7_moveTo 96 = .ok (.dup2, 1) := by decide +kernel
theorem dX7_moveTo_97 : decode cX7_moveTo 97 = .ok (.iaload, 1) := by decide +kernel
theorem dX7_moveTo_98 : decode cX7_moveTo 98 = .ok (.iconst 1, 1) := by decide +kernel
theorem dX7_moveTo_99 : decode cX7_moveTo 99 = .ok (.iadd, 1) := by decide +kernel
