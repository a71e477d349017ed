theorem dX1_join_10 : decode cX1_join 10 = .ok (.getfield 15, 3) := by decide +kernel
theorem dX1_join_13 : decode cX1_join 13 = .ok (.iload_n 2, 1) := by decide +kernel
theorem dX1_join_14 : decode cX1_join 14 = .ok (.invokevirtual 78, 3) := by decide +kernel
theorem dX1_join_17 : decode cX1_join 17 = .ok (.istore 4, 2) := by decide +kernel
theorem dX1_join_19 : decode cX1_join 19 = .ok (.iload_n 3, 1) := by decide +kernel
theorem dX1_join_20 : decode cX1_join 20 = .ok (.iload 4, 2) := by decide +kernel
theorem dX1_join_22 : decode cX1_join 22 = .ok (.if_icmp .ne 4, 3) := by decide +kernel
theorem dX1_join_25 : decode cX1_join 25 = .ok (.return_, 1) := by decide +kernel
theorem dX1_join_26 : decode cX1_join 26 = .ok (.aload_n 0, 1) := by decide +kernel
theorem dX1_join_27 : decode cX1_join 27 = .ok (.getfield 24, 3) := by decide +kernel
theorem dX1_join_30 : decode cX1_join 30 = .ok (.iload_n 3, 1) := by decide +kernel
theorem dX1_join_31 : decode cX1_join 31 = .ok (.invokevirtual 78, 3) := by decide +kernel
theorem dX1_join_34 : decode cX1_join 34 = .ok (.aload_n 0, 1) := by decide +kernel
theorem dX1_join_35 : decode cX1_join 35 = .ok (.getfield 24, 3) := by decide +kernel
theorem dX1_join_38 : decode cX1_join 38 = .ok (.iload 4, 2) := by decide +kernel
theorem dX1_join_40 : decode cX1_join 40 = .ok (.invokevirtual 78, 3) := by decide +kernel
theorem dX1_join_43 : decode cX1_join 43 = .ok (.if_icmp .ge 16, 3) := by decide +kernel
theorem dX1_join_46 : decode cX1_join 46 = .ok (.iload 4, 2) := by decide +kernel
theorem dX1_join_48 : decode cX1_join 48 = .ok (.istore_n 3, 1) := by decide +kernel
theorem dX1_join_49 : decode cX1_join 49 = .ok (.aload_n 0, 1) := by decide +kernel
theorem dX1_join_50 : decode cX1_join 50 = .ok (.getfield 15, 3) := by decide +kernel
theorem dX1_join_53 : decode cX1_join 53 = .ok (.iload_n 1, 1) := by decide +kernel
theorem dX1_join_54 : decode cX1_join 54 = .ok (.invokevirtual 78, 3) := by decide +kernel
theorem dX1_join_57 : decode cX1_join 57 = .ok (.istore 4, 2) := by decide +kernel
theorem dX1_join_59 : decode cX1_join 59 = .ok (.iload 4, 2) := by decide +kernel
theorem dX1_join_61 : decode cX1_join 61 = .ok (.istore 5, 2) := by decide +kernel
theorem dX1_join_63 : decode cX1_join 63 = .ok (.iconst 0, 1) := by decide +kernel
theorem dX1_join_64 : decode cX1_join 64 = .ok (.istore 6, 2) := by decide +kernel
theorem dX1_join_66 : decode cX1_join 66 = .ok (.iload 6, 2) := by decide +kernel
theorem dX1_join_68 : decode cX1_join 68 = .ok (.aload_n 0, 1) := by decide +kernel
theorem dX1_join_69 : decode cX1_join 69 = .ok (.getfield 24, 3) := by decide +kernel
theorem dX1_join_72 : decode cX1_join 72 = .ok (.iload 4, 2) := by decide +kernel
theorem dX1_join_74 : decode cX1_join 74 = .ok (.invokevirtual 78, 3) := by decide +kernel
theorem dX1_join_77 : decode cX1_join 77 = .ok (.if_icmp .ge 30, 3) := by decide +kernel
theorem dX1_join_80 : decode cX1_join 80 = .ok (.aload_n 0, 1) := by decide +kernel
theorem dX1_join_81 : decode cX1_join 81 = .ok (.getfield 15, 3) := by decide +kernel
theorem dX1_join_84 : decode cX1_join 84 = .ok (.iload 5, 2) := by decide +kernel
theorem dX1_join_86 : decode cX1_join 86 = .ok (.iload_n 3, 1) := by decide +kernel
theorem dX1_join_87 : decode cX1_join 87 = .ok (.invokevirtual 61, 3) := by decide +kernel
theorem dX1_join_90 : decode cX1_join 90 = .ok (.aload_n 0, 1) := by decide +kernel
theorem dX1_join_91 : decode cX1_join 91 = .ok (.getfield 21, 3) := by decide +kernel
theorem dX1_join_94 : decode cX1_join 94 = .ok (.iload 5, 2) := by decide +kernel
theorem dX1_join_96 : decode cX1_join 96 = .ok (.invokevirtual 78, 3) := by decide +kernel
theorem dX1_join_99 : decode cX1_join 99 = .ok (.istore 5, 2) := by decide +kernel
theorem dX1_join_101 : decode cX1_join 101 = .ok (.iinc 6 1, 3) := by decide +kernel
theorem dX1_join_104 : decode cX1_join 104 = .ok (.goto (-38), 3) := by decide +kernel
theorem dX1_join_107 : decode cX1_join 107 = .ok (.aload_n 0, 1) := by decide +kernel
theorem dX1_join_108 : decode cX1_join 108 = .ok (.getfield 24, 3) := by decide +kernel
theorem dX1_join_111 : decode cX1_join 111 = .ok (.iload_n 3, 1) := by decide +kernel
theorem dX1_join_112 : decode cX1_join 112 = .ok (.aload_n 0, 1) := by decide +kernel
theorem dX1_join_113 : decode cX1_join 113 = .ok (.getfield 24, 3) := by decide +kernel
theorem dX1_join_116 : decode cX1_join 116 = .ok (.iload_n 3, 1) := by decide +kernel
theorem dX1_join_117 : decode cX1_join 117 = .ok (.invokevirtual 78, 3) := by decide +kernel
theorem dX1_join_120 : decode cX1_join 120 = .ok (.aload_n 0, 1) := by decide +kernel
theorem dX1_join_121 : decode cX1_join 121 = .ok (.getfield 24, 3) := by decide +kernel
theorem dX1_join_124 : decode cX1_join 124 = .ok (.iload 4, 2) := by decide +kernel
theorem dX1_join_126 : decode cX1_join 126 = .ok (.invokevirtual 78, 3) := by decide +kernel
theorem dX1_join_129 : decode cX1_join 129 = .ok (.iadd, 1) := by decide +kernel
theorem dX1_join_130 : decode cX1_join 130 = .ok (.invokevirtual 61, 3) := by decide +kernel
theorem dX1_join_133 : decode cX1_join 133 = .ok (.aload_n 0, 1) := by decide +kernel
theorem dX1_join_134 : decode cX1_join 134 = .ok (.getfield 21, 3) := by decide +kernel
theorem dX1_join_137 : decode cX1_join 137 = .ok (.iload_n 3, 1) := by decide +kernel
theorem dX1_join_138 : decode cX1_join 138 = .ok (.invokevirtual 78, 3) := by decide +kernel
theorem dX1_join_141 : decode cX1_join 141 = .ok (.istore 6, 2) := by decide +kernel
theorem dX1_join_143 : decode cX1_join 143 = .ok (.aload_n 0, 1) := by decide +kernel
theorem dX1_join_144 : decode cX1_join 144 = .ok (.getfield 21, 3) := by decide +kernel
theorem dX1_join_147 : decode cX1_join 147 = .ok (.iload_n 3, 1) := by decide +kernel
theorem dX1_join_148 : decode cX1_join 148 = .ok (.aload_n 0, 1) := by decide +kernel
theorem dX1_join_149 : decode cX1_join 149 = .ok (.getfield 21, 3) := by decide +kernel
theorem dX1_join_152 : decode cX1_join 152 = .ok (.iload 4, 2) := by decide +kernel
theorem dX1_join_154 : decode cX1_join 154 = .ok (.invokevirtual 78, 3) := by decide +kernel
theorem dX1_join_157 : decode cX1_join 157 = .ok (.invokevirtual 61, 3) := by decide +kernel
theorem dX1_join_160 : decode cX1_join 160 = .ok (.aload_n 0, 1) := by decide +kernel
theorem dX1_join_161 : decode cX1_join 161 = .ok (.getfield 21, 3) := by decide +kernel
theorem dX1_join_164 : decode cX1_join 164 = .ok (.iload 4, 2) := by decide +kernel
theorem dX1_join_166 : decode cX1_join 166 = .ok (.iload 6, 2) := by decide +kernel
theorem dX1_join_168 : decode cX1_join 168 = .ok (.invokevirtual 61, 3) := by decide +kernel
theorem dX1_join_171 : decode cX1_join 171 = .ok (.return_, 1) := by decide +kernel
theorem dX1_joinTwins_0 : decode cX1_joinTwins 0 = .ok (.iconst 0, 1) := by decide +kernel
theorem dX1_joinTwins_1 : decode cX1_joinTwins 1 = .ok (.istore_n 1, 1) := by decide +kernel
theorem dX1_joinTwins_2 : decode cX1_joinTwins 2 = .ok (.iconst 0, 1) := by decide +kernel
theorem dX1_joinTwins_3 : decode cX1_joinTwins 3 = .ok (.istore_n 2, 1) := by decide +kernel
theorem dX1_joinTwins_4 : decode cX1_joinTwins 4 = .ok (.iload_n 2, 1) := by decide +kernel
theorem dX1_joinTwins_5 : decode cX1_joinTwins 5 = .ok (.aload_n 0, 1) := by decide +kernel
theorem dX1_joinTwins_6 : decode cX1_joinTwins 6 = .ok (.getfield 51, 3) := by decide +kernel
theorem dX1_joinTwins_9 : decode cX1_joinTwins 9 = .ok (.if_icmp .ge 18, 3) := by decide +kernel
theorem dX1_joinTwins_12 : decode cX1_joinTwins 12 = .ok (.aload_n 0, 1) := by decide +kernel
theorem dX1_joinTwins_13 : decode cX1_joinTwins 13 = .ok (.getfield 37, 3) := by decide +kernel
theorem dX1_joinTwins_16 : decode cX1_joinTwins 16 = .ok (.iload_n 2, 1) := by decide +kernel
theorem dX1_joinTwins_17 : decode cX1_joinTwins 17 = .ok (.iconst 0, 1) := by decide +kernel
theorem dX1_joinTwins_18 : decode cX1_joinTwins 18 = .ok (.invokevirtual 61, 3) := by decide +kernel
theorem dX1_joinTwins_21 : decode cX1_joinTwins 21 = .ok (.iinc 2 1, 3) := by decide +kernel
theorem dX1_joinTwins_24 : decode cX1_joinTwins 24 = .ok (.goto (-20), 3) := by decide +kernel
theorem dX1_joinTwins_27 : decode cX1_joinTwins 27 = .ok (.iconst 0, 1) := by decide +kernel
theorem dX1_joinTwins_28 : decode cX1_joinTwins 28 = .ok (.istore_n 2, 1) := by decide +kernel
theorem dX1_joinTwins_29 : decode cX1_joinTwins 29 = .ok (.iload_n 2, 1) := by decide +kernel
theorem dX1_joinTwins_30 : decode cX1_joinTwins 30 = .ok (.aload_n 0, 1) := by decide +kernel
theorem dX1_joinTwins_31 : decode cX1_joinTwins 31 = .ok (.getfield 47, 3) := by decide +kernel
theorem dX1_joinTwins_34 : decode cX1_joinTwins 34 = .ok (.invokevirtual 55, 3) := by decide +kernel
theorem dX1_joinTwins_37 : decode cX1_joinTwins 37 = .ok (.if_icmp .ge 158, 3) := by decide +kernel
theorem dX1_joinTwins_40 : decode cX1_joinTwins 40 = .ok (.aload_n 0, 1) := by decide +kernel
theorem dX1_joinTwins_41 : decode cX1_joinTwins 41 = .ok (.iload_n 2, 1) := by decide +kernel
theorem dX1_joinTwins_42 : decode cX1_joinTwins 42 = .ok (.invokevirtual 85, 3) := by decide +kernel
theorem dX1_joinTwins_45 : decode cX1_joinTwins 45 = .ok (.istore_n 3, 1) := by decide +kernel
theorem dX1_joinTwins_46 : decode cX1_joinTwins 46 = .ok (.aload_n 0, 1) := by decide +kernel
theorem dX1_joinTwins_47 : decode cX1_joinTwins 47 = .ok (.getfield 37, 3) := by decide +kernel
theorem dX1_joinTwins_50 : decode cX1_joinTwins 50 = .ok (.iload_n 3, 1) := by decide +kernel
theorem dX1_joinTwins_51 : decode cX1_joinTwins 51 = .ok (.invokevirtual 78, 3) := by decide +kernel
theorem dX1_joinTwins_54 : decode cX1_joinTwins 54 = .ok (.iconst 1, 1) := by decide +kernel
theorem dX1_joinTwins_55 : decode cX1_joinTwins 55 = .ok (.isub, 1) := by decide +kernel
theorem dX1_joinTwins_56 : decode cX1_joinTwins 56 = .ok (.istore 4, 2) := by decide +kernel
theorem dX1_joinTwins_58 : decode cX1_joinTwins 58 = .ok (.iconst 0, 1) := by decide +kernel
theorem dX1_joinTwins_59 : decode cX1_joinTwins 59 = .ok (.istore 5, 2) := by decide +kernel
theorem dX1_joinTwins_61 : decode cX1_joinTwins 61 = .ok (.iload 5, 2) := by decide +kernel
theorem dX1_joinTwins_63 : decode cX1_joinTwins 63 = .ok (.aload_n 0, 1) := by decide +kernel
theorem dX1_joinTwins_64 : decode cX1_joinTwins 64 = .ok (.getfield 47, 3) := by decide +kernel
theorem dX1_joinTwins_67 : decode cX1_joinTwins 67 = .ok (.invokevirtual 55, 3) := by decide +kernel
theorem dX1_joinTwins_70 : decode cX1_joinTwins 70 = .ok (.if_icmp .ge 37, 3) := by decide +kernel
theorem dX1_joinTwins_73 : decode cX1_joinTwins 73 = .ok (.iload 4, 2) := by decide +kernel
theorem dX1_joinTwins_75 : decode cX1_joinTwins 75 = .ok (.ifCond .lt 32, 3) := by decide +kernel
theorem dX1_joinTwins_78 : decode cX1_joinTwins 78 = .ok (.aload_n 0, 1) := by decide +kernel
theorem dX1_joinTwins_79 : decode cX1_joinTwins 79 = .ok (.iload_n 2, 1) := by decide +kernel
theorem dX1_joinTwins_80 : decode cX1_joinTwins 80 = .ok (.iload 4, 2) := by decide +kernel
theorem dX1_joinTwins_82 : decode cX1_joinTwins 82 = .ok (.invokevirtual 88, 3) := by decide +kernel
theorem dX1_joinTwins_85 : decode cX1_joinTwins 85 = .ok (.ifCond .ne 22, 3) := by decide +kernel
theorem dX1_joinTwins_88 : decode cX1_joinTwins 88 = .ok (.aload_n 0, 1) := by decide +kernel
theorem dX1_joinTwins_89 : decode cX1_joinTwins 89 = .ok (.getfield 40, 3) := by decide +kernel
theorem dX1_joinTwins_92 : decode cX1_joinTwins 92 = .ok (.iload 4, 2) := by decide +kernel
theorem dX1_joinTwins_94 : decode cX1_joinTwins 94 = .ok (.invokevirtual 78, 3) := by decide +kernel
theorem dX1_joinTwins_97 : decode cX1_joinTwins 97 = .ok (.iconst 1, 1) := by decide +kernel
theorem dX1_joinTwins_98 : decode cX1_joinTwins 98 = .ok (.isub, 1) := by decide +kernel
theorem dX1_joinTwins_99 : decode cX1_joinTwins 99 = .ok (.istore 4, 2) := by decide +kernel
theorem dX1_joinTwins_101 : decode cX1_joinTwins 101 = .ok (.iinc 5 1, 3) := by decide +kernel
theorem dX1_joinTwins_104 : decode cX1_joinTwins 104 = .ok (.goto (-43), 3) := by decide +kernel
theorem dX1_joinTwins_107 : decode cX1_joinTwins 107 = .ok (.aload_n 0, 1) := by decide +kernel
theorem dX1_joinTwins_108 : decode cX1_joinTwins 108 = .ok (.getfield 27, 3) := by decide +kernel
theorem dX1_joinTwins_111 : decode cX1_joinTwins 111 = .ok (.iload_n 2, 1) := by decide +kernel
theorem dX1_joinTwins_112 : decode cX1_joinTwins 112 = .ok (.iload 4, 2) := by decide +kernel
theorem dX1_joinTwins_114 : decode cX1_joinTwins 114 = .ok (.ifCond .ge 7, 3) := by decide +kernel
theorem dX1_joinTwins_117 : decode cX1_joinTwins 117 = .ok (.iconst 0, 1) := by decide +kernel
theorem dX1_joinTwins_118 : decode cX1_joinTwins 118 = .ok (.goto 4, 3) := by decide +kernel
theorem dX1_joinTwins_121 : decode cX1_joinTwins 121 = .ok (.iconst 1, 1) := by decide +kernel
theorem dX1_joinTwins_122 : decode cX1_joinTwins 122 = .ok (.invokevirtual 61, 3) := by decide +kernel
theorem dX1_joinTwins_125 : decode cX1_joinTwins 125 = .ok (.iload 4, 2) := by decide +kernel
theorem dX1_joinTwins_127 : decode cX1_joinTwins 127 = .ok (.ifCond .ge 33, 3) := by decide +kernel
theorem dX1_joinTwins_130 : decode cX1_joinTwins 130 = .ok (.aload_n 0, 1) := by decide +kernel
theorem dX1_joinTwins_131 : decode cX1_joinTwins 131 = .ok (.getfield 40, 3) := by decide +kernel
theorem dX1_joinTwins_134 : decode cX1_joinTwins 134 = .ok (.iload_n 2, 1) := by decide +kernel
theorem dX1_joinTwins_135 : decode cX1_joinTwins 135 = .ok (.aload_n 0, 1) := by decide +kernel
theorem dX1_joinTwins_136 : decode cX1_joinTwins 136 = .ok (.getfield 37, 3) := by decide +kernel
theorem dX1_joinTwins_139 : decode cX1_joinTwins 139 = .ok (.iload_n 3, 1) := by decide +kernel
theorem dX1_joinTwins_140 : decode cX1_joinTwins 140 = .ok (.invokevirtual 78, 3) := by decide +kernel
theorem dX1_joinTwins_143 : decode cX1_joinTwins 143 = .ok (.invokevirtual 61, 3) := by decide +kernel
theorem dX1_joinTwins_146 : decode cX1_joinTwins 146 = .ok (.aload_n 0, 1) := by decide +kernel
theorem dX1_joinTwins_147 : decode cX1_joinTwins 147 = .ok (.getfield 37, 3) := by decide +kernel
theorem dX1_joinTwins_150 : decode cX1_joinTwins 150 = .ok (.iload_n 3, 1) := by decide +kernel
theorem dX1_joinTwins_151 : decode cX1_joinTwins 151 = .ok (.iload_n 2, 1) := by decide +kernel
theorem dX1_joinTwins_152 : decode cX1_joinTwins 152 = .ok (.iconst 1, 1) := by decide +kernel
theorem dX1_joinTwins_153 : decode cX1_joinTwins 153 = .ok (.iadd, 1) := by decide +kernel
theorem dX1_joinTwins_154 : decode cX1_joinTwins 154 = .ok (.invokevirtual 61, 3) := by decide +kernel
theorem dX1_joinTwins_157 : decode cX1_joinTwins 157 = .ok (.goto 32, 3) := by decide +kernel
theorem dX1_joinTwins_160 : decode cX1_joinTwins 160 = .ok (.aload_n 0, 1) := by decide +kernel
theorem dX1_joinTwins_161 : decode cX1_joinTwins 161 = .ok (.getfield 15, 3) := by decide +kernel
theorem dX1_joinTwins_164 : decode cX1_joinTwins 164 = .ok (.iload 4, 2) := by decide +kernel
theorem dX1_joinTwins_166 : decode cX1_joinTwins 166 = .ok (.invokevirtual 78, 3) := by decide +kernel
theorem dX1_joinTwins_169 : decode cX1_joinTwins 169 = .ok (.aload_n 0, 1) := by decide +kernel
theorem dX1_joinTwins_170 : decode cX1_joinTwins 170 = .ok (.getfield 15, 3) := by decide +kernel
theorem dX1_joinTwins_173 : decode cX1_joinTwins 173 = .ok (.iload_n 2, 1) := by decide +kernel
theorem dX1_joinTwins_174 : decode cX1_joinTwins 174 = .ok (.invokevirtual 78, 3) := by decide +kernel
theorem dX1_joinTwins_177 : decode cX1_joinTwins 177 = .ok (.if_icmp .eq 12, 3) := by decide +kernel
theorem dX1_joinTwins_180 : decode cX1_joinTwins 180 = .ok (.aload_n 0, 1) := by decide +kernel
theorem dX1_joinTwins_181 : decode cX1_joinTwins 181 = .ok (.iload 4, 2) := by decide +kernel
theorem dX1_joinTwins_183 : decode cX1_joinTwins 183 = .ok (.iload_n 2, 1) := by decide +kernel
theorem dX1_joinTwins_184 : decode cX1_joinTwins 184 = .ok (.invokevirtual 92, 3) := by decide +kernel
theorem dX1_joinTwins_187 : decode cX1_joinTwins 187 = .ok (.iconst 1, 1) := by decide +kernel
theorem dX1_joinTwins_188 : decode cX1_joinTwins 188 = .ok (.istore_n 1, 1) := by decide +kernel
theorem dX1_joinTwins_189 : decode cX1_joinTwins 189 = .ok (.iinc 2 1, 3) := by decide +kernel
theorem dX1_joinTwins_192 : decode cX1_joinTwins 192 = .ok (.goto (-163), 3) := by decide +kernel
theorem dX1_joinTwins_195 : decode cX1_joinTwins 195 = .ok (.iload_n 1, 1) := by decide +kernel
theorem dX1_joinTwins_196 : decode cX1_joinTwins 196 = .ok (.ireturn, 1) := by decide +kernel
theorem dX1_pourInto_0 : decode cX1_pourInto 0 = .ok (.aload_n 1, 1) := by decide +kernel
theorem dX1_pourInto_1 : decode cX1_pourInto 1 = .ok (.aload_n 0, 1) := by decide +kernel
theorem dX1_pourInto_2 : decode cX1_pourInto 2 = .ok (.getfield 47, 3) := by decide +kernel
theorem dX1_pourInto_5 : decode cX1_pourInto 5 = .ok (.invokevirtual 55, 3) := by decide +kernel
theorem dX1_pourInto_8 : decode cX1_pourInto 8 = .ok (.invokevirtual 96, 3) := by decide +kernel
theorem dX1_pourInto_11 : decode cX1_pourInto 11 = .ok (.iconst 0, 1) := by decide +kernel
theorem dX1_pourInto_12 : decode cX1_pourInto 12 = .ok (.istore_n 2, 1) := by decide +kernel
theorem dX1_pourInto_13 : decode cX1_pourInto 13 = .ok (.iload_n 2, 1) := by decide +kernel
theorem dX1_pourInto_14 : decode cX1_pourInto 14 = .ok (.aload_n 0, 1) := by decide +kernel
theorem dX1_pourInto_15 : decode cX1_pourInto 15 = .ok (.getfield 47, 3) := by decide +kernel
theorem dX1_pourInto_18 : decode cX1_pourInto 18 = .ok (.invokevirtual 55, 3) := by decide +kernel
theorem dX1_pourInto_21 : decode cX1_pourInto 21 = .ok (.if_icmp .ge 94, 3) := by decide +kernel
theorem dX1_pourInto_24 : decode cX1_pourInto 24 = .ok (.aload_n 0, 1) := by decide +kernel
theorem dX1_pourInto_25 : decode cX1_pourInto 25 = .ok (.getfield 27, 3) := by decide +kernel
theorem dX1_pourInto_28 : decode cX1_pourInto 28 = .ok (.iload_n 2, 1) := by decide +kernel
theorem dX1_pourInto_29 : decode cX1_pourInto 29 = .ok (.invokevirtual 78, 3) := by decide +kernel
theorem dX1_pourInto_32 : decode cX1_pourInto 32 = .ok (.ifCond .ne 77, 3) := by decide +kernel
theorem dX1_pourInto_35 : decode cX1_pourInto 35 = .ok (.aload_n 1, 1) := by decide +kernel
theorem dX1_pourInto_36 : decode cX1_pourInto 36 = .ok (.aload_n 0, 1) := by decide +kernel
theorem dX1_pourInto_37 : decode cX1_pourInto 37 = .ok (.getfield 15, 3) := by decide +kernel
theorem dX1_pourInto_40 : decode cX1_pourInto 40 = .ok (.iload_n 2, 1) := by decide +kernel
theorem dX1_pourInto_41 : decode cX1_pourInto 41 = .ok (.invokevirtual 78, 3) := by decide +kernel
theorem dX1_pourInto_44 : decode cX1_pourInto 44 = .ok (.aload_n 0, 1) := by decide +kernel
theorem dX1_pourInto_45 : decode cX1_pourInto 45 = .ok (.getfield 43, 3) := by decide +kernel
theorem dX1_pourInto_48 : decode cX1_pourInto 48 = .ok (.aload_n 0, 1) := by decide +kernel
theorem dX1_pourInto_49 : decode cX1_pourInto 49 = .ok (.getfield 47, 3) := by decide +kernel
theorem dX1_pourInto_52 : decode cX1_pourInto 52 = .ok (.iload_n 2, 1) := by decide +kernel
theorem dX1_pourInto_53 : decode cX1_pourInto 53 = .ok (.invokevirtual 65, 3) := by decide +kernel
theorem dX1_pourInto_56 : decode cX1_pourInto 56 = .ok (.invokevirtual 69, 3) := by decide +kernel
theorem dX1_pourInto_59 : decode cX1_pourInto 59 = .ok (.invokevirtual 101, 3) := by decide +kernel
theorem dX1_pourInto_62 : decode cX1_pourInto 62 = .ok (.istore_n 3, 1) := by decide +kernel
theorem dX1_pourInto_63 : decode cX1_pourInto 63 = .ok (.iconst 0, 1) := by decide +kernel
theorem dX1_pourInto_64 : decode cX1_pourInto 64 = .ok (.istore 4, 2) := by decide +kernel
theorem dX1_pourInto_66 : decode cX1_pourInto 66 = .ok (.iload 4, 2) := by decide +kernel
theorem dX1_pourInto_68 : decode cX1_pourInto 68 = .ok (.aload_n 1, 1) := by decide +kernel
theorem dX1_pourInto_69 : decode cX1_pourInto 69 = .ok (.iload_n 3, 1) := by decide +kernel
theorem dX1_pourInto_70 : decode cX1_pourInto 70 = .ok (.invokevirtual 104, 3) := by decide +kernel
theorem dX1_pourInto_73 : decode cX1_pourInto 73 = .ok (.if_icmp .ge 36, 3) := by decide +kernel
theorem dX1_pourInto_76 : decode cX1_pourInto 76 = .ok (.aload_n 1, 1) := by decide +kernel
theorem dX1_pourInto_77 : decode cX1_pourInto 77 = .ok (.iload_n 3, 1) := by decide +kernel
theorem dX1_pourInto_78 : decode cX1_pourInto 78 = .ok (.iload 4, 2) := by decide +kernel
theorem dX1_pourInto_80 : decode cX1_pourInto 80 = .ok (.aload_n 0, 1) := by decide +kernel
theorem dX1_pourInto_81 : decode cX1_pourInto 81 = .ok (.getfield 15, 3) := by decide +kernel
theorem dX1_pourInto_84 : decode cX1_pourInto 84 = .ok (.aload_n 0, 1) := by decide +kernel
theorem dX1_pourInto_85 : decode cX1_pourInto 85 = .ok (.getfield 34, 3) := by decide +kernel
theorem dX1_pourInto_88 : decode cX1_pourInto 88 = .ok (.iconst 3, 1) := by decide +kernel
theorem dX1_pourInto_89 : decode cX1_pourInto 89 = .ok (.iload_n 2, 1) := by decide +kernel
theorem dX1_pourInto_90 : decode cX1_pourInto 90 = .ok (.imul, 1) := by decide +kernel
theorem dX1_pourInto_91 : decode cX1_pourInto 91 = .ok (.iload 4, 2) := by decide +kernel
theorem dX1_pourInto_93 : decode cX1_pourInto 93 = .ok (.iadd, 1) := by decide +kernel
theorem dX1_pourInto_94 : decode cX1_pourInto 94 = .ok (.invokevirtual 78, 3) := by decide +kernel
theorem dX1_pourInto_97 : decode cX1_pourInto 97 = .ok (.invokevirtual 78, 3) := by decide +kernel
theorem dX1_pourInto_100 : decode cX1_pourInto 100 = .ok (.invokevirtual 107, 3) := by decide +kernel
theorem dX1_pourInto_103 : decode cX1_pourInto 103 = .ok (.iinc 4 1, 3) := by decide +kernel
theorem dX1_pourInto_106 : decode cX1_pourInto 106 = .ok (.goto (-40), 3) := by decide +kernel
theorem dX1_pourInto_109 : decode cX1_pourInto 109 = .ok (.iinc 2 1, 3) := by decide +kernel
theorem dX1_pourInto_112 : decode cX1_pourInto 112 = .ok (.goto (-99), 3) := by decide +kernel
theorem dX1_pourInto_115 : decode cX1_pourInto 115 = .ok (.return_, 1) := by decide +kernel
theorem dX1_start_0 : decode cX1_start 0 = .ok (.aload_n 0, 1) := by decide +kernel
theorem dX1_start_1 : decode cX1_start 1 = .ok (.bipush 64, 2) := by decide +kernel
theorem dX1_start_3 : decode cX1_start 3 = .ok (.putfield 51, 3) := by decide +kernel
theorem dX1_start_6 : decode cX1_start 6 = .ok (.iconst 0, 1) := by decide +kernel
theorem dX1_start_7 : decode cX1_start 7 = .ok (.istore_n 1, 1) := by decide +kernel
theorem dX1_start_8 : decode cX1_start 8 = .ok (.iload_n 1, 1) := by decide +kernel
theorem dX1_start_9 : decode cX1_start 9 = .ok (.aload_n 0, 1) := by decide +kernel
theorem dX1_start_10 : decode cX1_start 10 = .ok (.getfield 47, 3) := by decide +kernel
theorem dX1_start_13 : decode cX1_start 13 = .ok (.invokevirtual 55, 3) := by decide +kernel
theorem dX1_start_16 : decode cX1_start 16 = .ok (.if_icmp .ge 121, 3) := by decide +kernel
theorem dX1_start_19 : decode cX1_start 19 = .ok (.aload_n 0, 1) := by decide +kernel
theorem dX1_start_20 : decode cX1_start 20 = .ok (.getfield 15, 3) := by decide +kernel
theorem dX1_start_23 : decode cX1_start 23 = .ok (.iload_n 1, 1) := by decide +kernel
theorem dX1_start_24 : decode cX1_start 24 = .ok (.iload_n 1, 1) := by decide +kernel
theorem dX1_start_25 : decode cX1_start 25 = .ok (.invokevirtual 61, 3) := by decide +kernel
theorem dX1_start_28 : decode cX1_start 28 = .ok (.aload_n 0, 1) := by decide +kernel
theorem dX1_start_29 : decode cX1_start 29 = .ok (.getfield 21, 3) := by decide +kernel
theorem dX1_start_32 : decode cX1_start 32 = .ok (.iload_n 1, 1) := by decide +kernel
theorem dX1_start_33 : decode cX1_start 33 = .ok (.iload_n 1, 1) := by decide +kernel
theorem dX1_start_34 : decode cX1_start 34 = .ok (.invokevirtual 61, 3) := by decide +kernel
theorem dX1_start_37 : decode cX1_start 37 = .ok (.aload_n 0, 1) := by decide +kernel
theorem dX1_start_38 : decode cX1_start 38 = .ok (.getfield 24, 3) := by decide +kernel
theorem dX1_start_41 : decode cX1_start 41 = .ok (.iload_n 1, 1) := by decide +kernel
theorem dX1_start_42 : decode cX1_start 42 = .ok (.iconst 1, 1) := by decide +kernel
theorem dX1_start_43 : decode cX1_start 43 = .ok (.invokevirtual 61, 3) := by decide +kernel
theorem dX1_start_46 : decode cX1_start 46 = .ok (.aload_n 0, 1) := by decide +kernel
theorem dX1_start_47 : decode cX1_start 47 = .ok (.getfield 30, 3) := by decide +kernel
theorem dX1_start_50 : decode cX1_start 50 = .ok (.iload_n 1, 1) := by decide +kernel
theorem dX1_start_51 : decode cX1_start 51 = .ok (.aload_n 0, 1) := by decide +kernel
theorem dX1_start_52 : decode cX1_start 52 = .ok (.getfield 43, 3) := by decide +kernel
theorem dX1_start_55 : decode cX1_start 55 = .ok (.aload_n 0, 1) := by decide +kernel
theorem dX1_start_56 : decode cX1_start 56 = .ok (.getfield 47, 3) := by decide +kernel
theorem dX1_start_59 : decode cX1_start 59 = .ok (.iload_n 1, 1) := by decide +kernel
theorem dX1_start_60 : decode cX1_start 60 = .ok (.invokevirtual 65, 3) := by decide +kernel
theorem dX1_start_63 : decode cX1_start 63 = .ok (.invokevirtual 69, 3) := by decide +kernel
theorem dX1_start_66 : decode cX1_start 66 = .ok (.invokevirtual 61, 3) := by decide +kernel
theorem dX1_start_69 : decode cX1_start 69 = .ok (.iconst 0, 1) := by decide +kernel
theorem dX1_start_70 : decode cX1_start 70 = .ok (.istore_n 2, 1) := by decide +kernel
theorem dX1_start_71 : decode cX1_start 71 = .ok (.iload_n 2, 1) := by decide +kernel
theorem dX1_start_72 : decode cX1_start 72 = .ok (.iconst 3, 1) := by decide +kernel
theorem dX1_start_73 : decode cX1_start 73 = .ok (.if_icmp .ge 30, 3) := by decide +kernel
theorem dX1_start_76 : decode cX1_start 76 = .ok (.aload_n 0, 1) := by decide +kernel
theorem dX1_start_77 : decode cX1_start 77 = .ok (.getfield 34, 3) := by decide +kernel
theorem dX1_start_80 : decode cX1_start 80 = .ok (.iconst 3, 1) := by decide +kernel
theorem dX1_start_81 : decode cX1_start 81 = .ok (.iload_n 1, 1) := by decide +kernel
theorem dX1_start_82 : decode cX1_start 82 = .ok (.imul, 1) := by decide +kernel
theorem dX1_start_83 : decode cX1_start 83 = .ok (.iload_n 2, 1) := by decide +kernel
theorem dX1_start_84 : decode cX1_start 84 = .ok (.iadd, 1) := by decide +kernel
theorem dX1_start_85 : decode cX1_start 85 = .ok (.aload_n 0, 1) := by decide +kernel
theorem dX1_start_86 : decode cX1_start 86 = .ok (.getfield 47, 3) := by decide +kernel
theorem dX1_start_89 : decode cX1_start 89 = .ok (.iload_n 1, 1) := by decide +kernel
theorem dX1_start_90 : decode cX1_start 90 = .ok (.iload_n 2, 1) := by decide +kernel
theorem dX1_start_91 : decode cX1_start 91 = .ok (.invokevirtual 74, 3) := by decide +kernel
theorem dX1_start_94 : decode cX1_start 94 = .ok (.invokevirtual 61, 3) := by decide +kernel
theorem dX1_start_97 : decode cX1_start 97 = .ok (.iinc 2 1, 3) := by decide +kernel
theorem dX1_start_100 : decode cX1_start 100 = .ok (.goto (-29), 3) := by decide +kernel
theorem dX1_start_103 : decode cX1_start 103 = .ok (.iload_n 1, 1) := by decide +kernel
theorem dX1_start_104 : decode cX1_start 104 = .ok (.aload_n 0, 1) := by decide +kernel
theorem dX1_start_105 : decode cX1_start 105 = .ok (.getfield 51, 3) := by decide +kernel
theorem dX1_start_108 : decode cX1_start 108 = .ok (.if_icmp .le 23, 3) := by decide +kernel
theorem dX1_start_111 : decode cX1_start 111 = .ok (.aload_n 0, 1) := by decide +kernel
theorem dX1_start_112 : decode cX1_start 112 = .ok (.getfield 51, 3) := by decide +kernel
theorem dX1_start_115 : decode cX1_start 115 = .ok (.sipush 16384, 3) := by decide +kernel
theorem dX1_start_118 : decode cX1_start 118 = .ok (.if_icmp .ge 13, 3) := by decide +kernel
theorem dX1_start_121 : decode cX1_start 121 = .ok (.aload_n 0, 1) := by decide +kernel
theorem dX1_start_122 : decode cX1_start 122 = .ok (.dup, 1) := by decide +kernel
theorem dX1_start_123 : decode cX1_start 123 = .ok (.getfield 51, 3) := by decide +kernel
theorem dX1_start_126 : decode cX1_start 126 = .ok (.iconst 2, 1) := by decide +kernel
theorem dX1_start_127 : decode cX1_start 127 = .ok (.imul, 1) := by decide +kernel
theorem dX1_start_128 : decode cX1_start 128 = .ok (.putfield 51, 3) := by decide +kernel
theorem dX1_start_131 : decode cX1_start 131 = .ok (.iinc 1 1, 3) := by decide +kernel
theorem dX1_start_134 : decode cX1_start 134 = .ok (.goto (-126), 3) := by decide +kernel
theorem dX1_start_137 : decode cX1_start 137 = .ok (.return_, 1) := by decide +kernel
theorem dX2_addProduction_0 : decode cX2_addProduction 0 = .ok (.aload_n 0, 1) := by decide +kernel
theorem dX2_addProduction_1 : decode cX2_addProduction 1 = .ok (.getfield 69, 3) := by decide +kernel
theorem dX2_addProduction_4 : decode cX2_addProduction 4 = .ok (.istore_n 3, 1) := by decide +kernel
theorem dX2_addProduction_5 : decode cX2_addProduction 5 = .ok (.aload_n 0, 1) := by decide +kernel
theorem dX2_addProduction_6 : decode cX2_addProduction 6 = .ok (.getfield 15, 3) := by decide +kernel
theorem dX2_addProduction_9 : decode cX2_addProduction 9 = .ok (.iload_n 3, 1) := by decide +kernel
theorem dX2_addProduction_10 : decode cX2_addProduction 10 = .ok (.iload_n 1, 1) := by decide +kernel
theorem dX2_addProduction_11 : decode cX2_addProduction 11 = .ok (.invokevirtual 72, 3) := by decide +kernel
theorem dX2_addProduction_14 : decode cX2_addProduction 14 = .ok (.aload_n 0, 1) := by decide +kernel
theorem dX2_addProduction_15 : decode cX2_addProduction 15 = .ok (.getfield 21, 3) := by decide +kernel
theorem dX2_addProduction_18 : decode cX2_addProduction 18 = .ok (.iload_n 3, 1) := by decide +kernel
theorem dX2_addProduction_19 : decode cX2_addProduction 19 = .ok (.iload_n 2, 1) := by decide +kernel
theorem dX2_addProduction_20 : decode cX2_addProduction 20 = .ok (.invokevirtual 72, 3) := by decide +kernel
theorem dX2_addProduction_23 : decode cX2_addProduction 23 = .ok (.aload_n 0, 1) := by decide +kernel
theorem dX2_addProduction_24 : decode cX2_addProduction 24 = .ok (.dup, 1) := by decide +kernel
theorem dX2_addProduction_25 : decode cX2_addProduction 25 = .ok (.getfield 69, 3) := by decide +kernel
theorem dX2_addProduction_28 : decode cX2_addProduction 28 = .ok (.iconst 1, 1) := by decide +kernel
theorem dX2_addProduction_29 : decode cX2_addProduction 29 = .ok (.iadd, 1) := by decide +kernel
theorem dX2_addProduction_30 : decode cX2_addProduction 30 = .ok (.putfield 69, 3) := by decide +kernel
theorem dX2_addProduction_33 : decode cX2_addProduction 33 = .ok (.iload_n 3, 1) := by decide +kernel
theorem dX2_addProduction_34 : decode cX2_addProduction 34 = .ok (.ireturn, 1) := by decide +kernel
theorem dX2_arity_0 : decode cX2_arity 0 = .ok (.aload_n 0, 1) := by decide +kernel
theorem dX2_arity_1 : decode cX2_arity 1 = .ok (.getfield 61, 3) := by decide +kernel
theorem dX2_arity_4 : decode cX2_arity 4 = .ok (.aload_n 0, 1) := by decide +kernel
theorem dX2_arity_5 : decode cX2_arity 5 = .ok (.getfield 21, 3) := by decide +kernel
theorem dX2_arity_8 : decode cX2_arity 8 = .ok (.iload_n 1, 1) := by decide +kernel
theorem dX2_arity_9 : decode cX2_arity 9 = .ok (.invokevirtual 76, 3) := by decide +kernel
theorem dX2_arity_12 : decode cX2_arity 12 = .ok (.invokevirtual 80, 3) := by decide +kernel
theorem dX2_arity_15 : decode cX2_arity 15 = .ok (.ireturn, 1) := by decide +kernel
theorem dX2_choice_0 : decode cX2_choice 0 = .ok (.aload_n 0, 1) := by decide +kernel
theorem dX2_choice_1 : decode cX2_choice 1 = .ok (.getfield 49, 3) := by decide +kernel
theorem dX2_choice_4 : decode cX2_choice 4 = .ok (.iload_n 1, 1) := by decide +kernel
theorem dX2_choice_5 : decode cX2_choice 5 = .ok (.invokevirtual 76, 3) := by decide +kernel
theorem dX2_choice_8 : decode cX2_choice 8 = .ok (.ireturn, 1) := by decide +kernel
theorem dX2_clear_0 : decode cX2_clear 0 = .ok (.aload_n 0, 1) := by decide +kernel
theorem dX2_clear_1 : decode cX2_clear 1 = .ok (.iload_n 1, 1) := by decide +kernel
theorem dX2_clear_2 : decode cX2_clear 2 = .ok (.putfield 65, 3) := by decide +kernel
theorem dX2_clear_5 : decode cX2_clear 5 = .ok (.aload_n 0, 1) := by decide +kernel
theorem dX2_clear_6 : decode cX2_clear 6 = .ok (.iconst 0, 1) := by decide +kernel
theorem dX2_clear_7 : decode cX2_clear 7 = .ok (.putfield 69, 3) := by decide +kernel
theorem dX2_clear_10 : decode cX2_clear 10 = .ok (.return_, 1) := by decide +kernel
theorem dX2_dropNeeds_0 : decode cX2_dropNeeds 0 = .ok (.iconst 0, 1) := by decide +kernel
theorem dX2_dropNeeds_1 : decode cX2_dropNeeds 1 = .ok (.istore_n 1, 1) := by decide +kernel
theorem dX2_dropNeeds_2 : decode cX2_dropNeeds 2 = .ok (.iload_n 1, 1) := by decide +kernel
theorem dX2_dropNeeds_3 : decode cX2_dropNeeds 3 = .ok (.aload_n 0, 1) := by decide +kernel
theorem dX2_dropNeeds_4 : decode cX2_dropNeeds 4 = .ok (.getfield 65, 3) := by decide +kernel
theorem dX2_dropNeeds_7 : decode cX2_dropNeeds 7 = .ok (.if_icmp .ge 18, 3) := by decide +kernel
theorem dX2_dropNeeds_10 : decode cX2_dropNeeds 10 = .ok (.aload_n 0, 1) := by decide +kernel
theorem dX2_dropNeeds_11 : decode cX2_dropNeeds 11 = .ok (.getfield 28, 3) := by decide +kernel
theorem dX2_dropNeeds_14 : decode cX2_dropNeeds 14 = .ok (.iload_n 1, 1) := by decide +kernel
theorem dX2_dropNeeds_15 : decode cX2_dropNeeds 15 = .ok (.iconst 0, 1) := by decide +kernel
theorem dX2_dropNeeds_16 : decode cX2_dropNeeds 16 = .ok (.invokevirtual 72, 3) := by decide +kernel
theorem dX2_dropNeeds_19 : decode cX2_dropNeeds 19 = .ok (.iinc 1 1, 3) := by decide +kernel
theorem dX2_dropNeeds_22 : decode cX2_dropNeeds 22 = .ok (.goto (-20), 3) := by decide +kernel
theorem dX2_dropNeeds_25 : decode cX2_dropNeeds 25 = .ok (.return_, 1) := by decide +kernel
theorem dX2_enter_0 : decode cX2_enter 0 = .ok (.iconst 1, 1) := by decide +kernel
theorem dX2_enter_1 : decode cX2_enter 1 = .ok (.istore_n 2, 1) := by decide +kernel
theorem dX2_enter_2 : decode cX2_enter 2 = .ok (.iconst 0, 1) := by decide +kernel
theorem dX2_enter_3 : decode cX2_enter 3 = .ok (.istore_n 3, 1) := by decide +kernel
theorem dX2_enter_4 : decode cX2_enter 4 = .ok (.aload_n 0, 1) := by decide +kernel
theorem dX2_enter_5 : decode cX2_enter 5 = .ok (.getfield 61, 3) := by decide +kernel
theorem dX2_enter_8 : decode cX2_enter 8 = .ok (.aload_n 0, 1) := by decide +kernel
theorem dX2_enter_9 : decode cX2_enter 9 = .ok (.getfield 21, 3) := by decide +kernel
theorem dX2_enter_12 : decode cX2_enter 12 = .ok (.iload_n 1, 1) := by decide +kernel
theorem dX2_enter_13 : decode cX2_enter 13 = .ok (.invokevirtual 76, 3) := by decide +kernel
theorem dX2_enter_16 : decode cX2_enter 16 = .ok (.invokevirtual 135, 3) := by decide +kernel
theorem dX2_enter_19 : decode cX2_enter 19 = .ok (.istore 4, 2) := by decide +kernel
theorem dX2_enter_21 : decode cX2_enter 21 = .ok (.iconst 0, 1) := by decide +kernel
theorem dX2_enter_22 : decode cX2_enter 22 = .ok (.istore 5, 2) := by decide +kernel
theorem dX2_enter_24 : decode cX2_enter 24 = .ok (.iload 5, 2) := by decide +kernel
theorem dX2_enter_26 : decode cX2_enter 26 = .ok (.aload_n 0, 1) := by decide +kernel
theorem dX2_enter_27 : decode cX2_enter 27 = .ok (.iload_n 1, 1) := by decide +kernel
theorem dX2_enter_28 : decode cX2_enter 28 = .ok (.invokevirtual 105, 3) := by decide +kernel
theorem dX2_enter_31 : decode cX2_enter 31 = .ok (.if_icmp .ge 71, 3) := by decide +kernel
theorem dX2_enter_34 : decode cX2_enter 34 = .ok (.aload_n 0, 1) := by decide +kernel
theorem dX2_enter_35 : decode cX2_enter 35 = .ok (.getfield 49, 3) := by decide +kernel
theorem dX2_enter_38 : decode cX2_enter 38 = .ok (.aload_n 0, 1) := by decide +kernel
theorem dX2_enter_39 : decode cX2_enter 39 = .ok (.getfield 25, 3) := by decide +kernel
theorem dX2_enter_42 : decode cX2_enter 42 = .ok (.iconst 3, 1) := by decide +kernel
theorem dX2_enter_43 : decode cX2_enter 43 = .ok (.iload_n 1, 1) := by decide +kernel
theorem dX2_enter_44 : decode cX2_enter 44 = .ok (.imul, 1) := by decide +kernel
theorem dX2_enter_45 : decode cX2_enter 45 = .ok (.iload 5, 2) := by decide +kernel
theorem dX2_enter_47 : decode cX2_enter 47 = .ok (.iadd, 1) := by decide +kernel
theorem dX2_enter_48 : decode cX2_enter 48 = .ok (.invokevirtual 76, 3) := by decide +kernel
theorem dX2_enter_51 : decode cX2_enter 51 = .ok (.invokevirtual 76, 3) := by decide +kernel
theorem dX2_enter_54 : decode cX2_enter 54 = .ok (.istore 6, 2) := by decide +kernel
theorem dX2_enter_56 : decode cX2_enter 56 = .ok (.iload_n 2, 1) := by decide +kernel
theorem dX2_enter_57 : decode cX2_enter 57 = .ok (.aload_n 0, 1) := by decide +kernel
theorem dX2_enter_58 : decode cX2_enter 58 = .ok (.getfield 40, 3) := by decide +kernel
theorem dX2_enter_61 : decode cX2_enter 61 = .ok (.iload 6, 2) := by decide +kernel
theorem dX2_enter_63 : decode cX2_enter 63 = .ok (.invokevirtual 76, 3) := by decide +kernel
theorem dX2_enter_66 : decode cX2_enter 66 = .ok (.iadd, 1) := by decide +kernel
theorem dX2_enter_67 : decode cX2_enter 67 = .ok (.istore_n 2, 1) := by decide +kernel
theorem dX2_enter_68 : decode cX2_enter 68 = .ok (.iload_n 3, 1) := by decide +kernel
theorem dX2_enter_69 : decode cX2_enter 69 = .ok (.aload_n 0, 1) := by decide +kernel
theorem dX2_enter_70 : decode cX2_enter 70 = .ok (.getfield 43, 3) := by decide +kernel
theorem dX2_enter_73 : decode cX2_enter 73 = .ok (.iload 6, 2) := by decide +kernel
theorem dX2_enter_75 : decode cX2_enter 75 = .ok (.invokevirtual 76, 3) := by decide +kernel
theorem dX2_enter_78 : decode cX2_enter 78 = .ok (.invokestatic 138, 3) := by decide +kernel
theorem dX2_enter_81 : decode cX2_enter 81 = .ok (.istore_n 3, 1) := by decide +kernel
theorem dX2_enter_82 : decode cX2_enter 82 = .ok (.iload 4, 2) := by decide +kernel
theorem dX2_enter_84 : decode cX2_enter 84 = .ok (.aload_n 0, 1) := by decide +kernel
theorem dX2_enter_85 : decode cX2_enter 85 = .ok (.getfield 37, 3) := by decide +kernel
theorem dX2_enter_88 : decode cX2_enter 88 = .ok (.iload 6, 2) := by decide +kernel
theorem dX2_enter_90 : decode cX2_enter 90 = .ok (.invokevirtual 76, 3) := by decide +kernel
theorem dX2_enter_93 : decode cX2_enter 93 = .ok (.iadd, 1) := by decide +kernel
theorem dX2_enter_94 : decode cX2_enter 94 = .ok (.istore 4, 2) := by decide +kernel
theorem dX2_enter_96 : decode cX2_enter 96 = .ok (.iinc 5 1, 3) := by decide +kernel
theorem dX2_enter_99 : decode cX2_enter 99 = .ok (.goto (-75), 3) := by decide +kernel
theorem dX2_enter_102 : decode cX2_enter 102 = .ok (.aload_n 0, 1) := by decide +kernel
theorem dX2_enter_103 : decode cX2_enter 103 = .ok (.getfield 40, 3) := by decide +kernel
theorem dX2_enter_106 : decode cX2_enter 106 = .ok (.iload_n 1, 1) := by decide +kernel
theorem dX2_enter_107 : decode cX2_enter 107 = .ok (.iload_n 2, 1) := by decide +kernel
theorem dX2_enter_108 : decode cX2_enter 108 = .ok (.ldc 143, 2) := by decide +kernel
theorem dX2_enter_110 : decode cX2_enter 110 = .ok (.invokestatic 144, 3) := by decide +kernel
theorem dX2_enter_113 : decode cX2_enter 113 = .ok (.invokevirtual 72, 3) := by decide +kernel
theorem dX2_enter_116 : decode cX2_enter 116 = .ok (.aload_n 0, 1) := by decide +kernel
theorem dX2_enter_117 : decode cX2_enter 117 = .ok (.getfield 43, 3) := by decide +kernel
theorem dX2_enter_120 : decode cX2_enter 120 = .ok (.iload_n 1, 1) := by decide +kernel
theorem dX2_enter_121 : decode cX2_enter 121 = .ok (.iload_n 3, 1) := by decide +kernel
theorem dX2_enter_122 : decode cX2_enter 122 = .ok (.iconst 1, 1) := by decide +kernel
theorem dX2_enter_123 : decode cX2_enter 123 = .ok (.iadd, 1) := by decide +kernel
theorem dX2_enter_124 : decode cX2_enter 124 = .ok (.ldc 143, 2) := by decide +kernel
theorem dX2_enter_126 : decode cX2_enter 126 = .ok (.invokestatic 144, 3) := by decide +kernel
theorem dX2_enter_129 : decode cX2_enter 129 = .ok (.invokevirtual 72, 3) := by decide +kernel
theorem dX2_enter_132 : decode cX2_enter 132 = .ok (.aload_n 0, 1) := by decide +kernel
theorem dX2_enter_133 : decode cX2_enter 133 = .ok (.getfield 37, 3) := by decide +kernel
theorem dX2_enter_136 : decode cX2_enter 136 = .ok (.iload_n 1, 1) := by decide +kernel
theorem dX2_enter_137 : decode cX2_enter 137 = .ok (.aload_n 0, 1) := by decide +kernel
theorem dX2_enter_138 : decode cX2_enter 138 = .ok (.getfield 116, 3) := by decide +kernel
theorem dX2_enter_141 : decode cX2_enter 141 = .ok (.iconst 1, 1) := by decide +kernel
theorem dX2_enter_142 : decode cX2_enter 142 = .ok (.if_icmp .ne 13, 3) := by decide +kernel
theorem dX2_enter_145 : decode cX2_enter 145 = .ok (.iload 4, 2) := by decide +kernel
theorem dX2_enter_147 : decode cX2_enter 147 = .ok (.ldc 143, 2) := by decide +kernel
theorem dX2_enter_149 : decode cX2_enter 149 = .ok (.invokestatic 144, 3) := by decide +kernel
theorem dX2_enter_152 : decode cX2_enter 152 = .ok (.goto 16, 3) := by decide +kernel
theorem dX2_enter_155 : decode cX2_enter 155 = .ok (.aload_n 0, 1) := by decide +kernel
theorem dX2_enter_156 : decode cX2_enter 156 = .ok (.getfield 116, 3) := by decide +kernel
theorem dX2_enter_159 : decode cX2_enter 159 = .ok (.iconst 2, 1) := by decide +kernel
theorem dX2_enter_160 : decode cX2_enter 160 = .ok (.if_icmp .ne 7, 3) := by decide +kernel
theorem dX2_enter_163 : decode cX2_enter 163 = .ok (.iload_n 2, 1) := by decide +kernel
theorem dX2_enter_164 : decode cX2_enter 164 = .ok (.goto 4, 3) := by decide +kernel
theorem dX2_enter_167 : decode cX2_enter 167 = .ok (.iconst 0, 1) := by decide +kernel
theorem dX2_enter_168 : decode cX2_enter 168 = .ok (.invokevirtual 72, 3) := by decide +kernel
theorem dX2_enter_171 : decode cX2_enter 171 = .ok (.aload_n 0, 1) := by decide +kernel
theorem dX2_enter_172 : decode cX2_enter 172 = .ok (.getfield 119, 3) := by decide +kernel
theorem dX2_enter_175 : decode cX2_enter 175 = .ok (.istore 5, 2) := by decide +kernel
theorem dX2_enter_177 : decode cX2_enter 177 = .ok (.aload_n 0, 1) := by decide +kernel
theorem dX2_enter_178 : decode cX2_enter 178 = .ok (.dup, 1) := by decide +kernel
theorem dX2_enter_179 : decode cX2_enter 179 = .ok (.getfield 119, 3) := by decide +kernel
theorem dX2_enter_182 : decode cX2_enter 182 = .ok (.iconst 1, 1) := by decide +kernel
theorem dX2_enter_183 : decode cX2_enter 183 = .ok (.iadd, 1) := by decide +kernel
theorem dX2_enter_184 : decode cX2_enter 184 = .ok (.putfield 119, 3) := by decide +kernel
theorem dX2_enter_187 : decode cX2_enter 187 = .ok (.iconst 0, 1) := by decide +kernel
theorem dX2_enter_188 : decode cX2_enter 188 = .ok (.istore 6, 2) := by decide +kernel
theorem dX2_enter_190 : decode cX2_enter 190 = .ok (.iload 6, 2) := by decide +kernel
theorem dX2_enter_192 : decode cX2_enter 192 = .ok (.aload_n 0, 1) := by decide +kernel
theorem dX2_enter_193 : decode cX2_enter 193 = .ok (.getfield 119, 3) := by decide +kernel
theorem dX2_enter_196 : decode cX2_enter 196 = .ok (.if_icmp .ge 64, 3) := by decide +kernel
theorem dX2_enter_199 : decode cX2_enter 199 = .ok (.iload 5, 2) := by decide +kernel
theorem dX2_enter_201 : decode cX2_enter 201 = .ok (.ifCond .le 59, 3) := by decide +kernel
theorem dX2_enter_204 : decode cX2_enter 204 = .ok (.iload 5, 2) := by decide +kernel
theorem dX2_enter_206 : decode cX2_enter 206 = .ok (.iconst 1, 1) := by decide +kernel
theorem dX2_enter_207 : decode cX2_enter 207 = .ok (.isub, 1) := by decide +kernel
theorem dX2_enter_208 : decode cX2_enter 208 = .ok (.iconst 2, 1) := by decide +kernel
theorem dX2_enter_209 : decode cX2_enter 209 = .ok (.idiv, 1) := by decide +kernel
theorem dX2_enter_210 : decode cX2_enter 210 = .ok (.istore 7, 2) := by decide +kernel
theorem dX2_enter_212 : decode cX2_enter 212 = .ok (.aload_n 0, 1) := by decide +kernel
theorem dX2_enter_213 : decode cX2_enter 213 = .ok (.iload_n 1, 1) := by decide +kernel
theorem dX2_enter_214 : decode cX2_enter 214 = .ok (.aload_n 0, 1) := by decide +kernel
theorem dX2_enter_215 : decode cX2_enter 215 = .ok (.getfield 46, 3) := by decide +kernel
theorem dX2_enter_218 : decode cX2_enter 218 = .ok (.iload 7, 2) := by decide +kernel
theorem dX2_enter_220 : decode cX2_enter 220 = .ok (.invokevirtual 76, 3) := by decide +kernel
theorem dX2_enter_223 : decode cX2_enter 223 = .ok (.invokevirtual 147, 3) := by decide +kernel
theorem dX2_enter_226 : decode cX2_enter 226 = .ok (.ifCond .ne 6, 3) := by decide +kernel
theorem dX2_enter_229 : decode cX2_enter 229 = .ok (.goto 31, 3) := by decide +kernel
theorem dX2_enter_232 : decode cX2_enter 232 = .ok (.aload_n 0, 1) := by decide +kernel
theorem dX2_enter_233 : decode cX2_enter 233 = .ok (.getfield 46, 3) := by decide +kernel
theorem dX2_enter_236 : decode cX2_enter 236 = .ok (.iload 5, 2) := by decide +kernel
theorem dX2_enter_238 : decode cX2_enter 238 = .ok (.aload_n 0, 1) := by decide +kernel
theorem dX2_enter_239 : decode cX2_enter 239 = .ok (.getfield 46, 3) := by decide +kernel
theorem dX2_enter_242 : decode cX2_enter 242 = .ok (.iload 7, 2) := by decide +kernel
theorem dX2_enter_244 : decode cX2_enter 244 = .ok (.invokevirtual 76, 3) := by decide +kernel
theorem dX2_enter_247 : decode cX2_enter 247 = .ok (.invokevirtual 72, 3) := by decide +kernel
theorem dX2_enter_250 : decode cX2_enter 250 = .ok (.iload 7, 2) := by decide +kernel
theorem dX2_enter_252 : decode cX2_enter 252 = .ok (.istore 5, 2) := by decide +kernel
theorem dX2_enter_254 : decode cX2_enter 254 = .ok (.iinc 6 1, 3) := by decide +kernel
theorem dX2_enter_257 : decode cX2_enter 257 = .ok (.goto (-67), 3) := by decide +kernel
theorem dX2_enter_260 : decode cX2_enter 260 = .ok (.aload_n 0, 1) := by decide +kernel
theorem dX2_enter_261 : decode cX2_enter 261 = .ok (.getfield 46, 3) := by decide +kernel
theorem dX2_enter_264 : decode cX2_enter 264 = .ok (.iload 5, 2) := by decide +kernel
theorem dX2_enter_266 : decode cX2_enter 266 = .ok (.iload_n 1, 1) := by decide +kernel
theorem dX2_enter_267 : decode cX2_enter 267 = .ok (.invokevirtual 72, 3) := by decide +kernel
theorem dX2_enter_270 : decode cX2_enter 270 = .ok (.return_, 1) := by decide +kernel
theorem dX2_init_0 : decode cX2_init 0 = .ok (.aload_n 0, 1) := by decide +kernel
theorem dX2_init_1 : decode cX2_init 1 = .ok (.invokespecial 3, 3) := by decide +kernel
theorem dX2_init_4 : decode cX2_init 4 = .ok (.aload_n 0, 1) := by decide +kernel
theorem dX2_init_5 : decode cX2_init 5 = .ok (.new 9, 3) := by decide +kernel
theorem dX2_init_8 : decode cX2_init 8 = .ok (.dup, 1) := by decide +kernel
theorem dX2_init_9 : decode cX2_init 9 = .ok (.ldc 11, 2) := by decide +kernel
theorem dX2_init_11 : decode cX2_init 11 = .ok (.invokespecial 12, 3) := by decide +kernel
theorem dX2_init_14 : decode cX2_init 14 = .ok (.putfield 15, 3) := by decide +kernel
theorem dX2_init_17 : decode cX2_init 17 = .ok (.aload_n 0, 1) := by decide +kernel
theorem dX2_init_18 : decode cX2_init 18 = .ok (.new 9, 3) := by decide +kernel
theorem dX2_init_21 : decode cX2_init 21 = .ok (.dup, 1) := by decide +kernel
theorem dX2_init_22 : decode cX2_init 22 = .ok (.ldc 11, 2) := by decide +kernel
theorem dX2_init_24 : decode cX2_init 24 = .ok (.invokespecial 12, 3) := by decide +kernel
theorem dX2_init_27 : decode cX2_init 27 = .ok (.putfield 21, 3) := by decide +kernel
theorem dX2_init_30 : decode cX2_init 30 = .ok (.aload_n 0, 1) := by decide +kernel
theorem dX2_init_31 : decode cX2_init 31 = .ok (.new 9, 3) := by decide +kernel
theorem dX2_init_34 : decode cX2_init 34 = .ok (.dup, 1) := by decide +kernel
theorem dX2_init_35 : decode cX2_init 35 = .ok (.ldc 24, 2) := by decide +kernel
theorem dX2_init_37 : decode cX2_init 37 = .ok (.invokespecial 12, 3) := by decide +kernel
theorem dX2_init_40 : decode cX2_init 40 = .ok (.putfield 25, 3) := by decide +kernel
theorem dX2_init_43 : decode cX2_init 43 = .ok (.aload_n 0, 1) := by decide +kernel
theorem dX2_init_44 : decode cX2_init 44 = .ok (.new 9, 3) := by decide +kernel
theorem dX2_init_47 : decode cX2_init 47 = .ok (.dup, 1) := by decide +kernel
theorem dX2_init_48 : decode cX2_init 48 = .ok (.ldc 11, 2) := by decide +kernel
theorem dX2_init_50 : decode cX2_init 50 = .ok (.invokespecial 12, 3) := by decide +kernel
theorem dX2_init_53 : decode cX2_init 53 = .ok (.putfield 28, 3) := by decide +kernel
theorem dX2_init_56 : decode cX2_init 56 = .ok (.aload_n 0, 1) := by decide +kernel
theorem dX2_init_57 : decode cX2_init 57 = .ok (.new 9, 3) := by decide +kernel
theorem dX2_init_60 : decode cX2_init 60 = .ok (.dup, 1) := by decide +kernel
theorem dX2_init_61 : decode cX2_init 61 = .ok (.ldc 11, 2) := by decide +kernel
theorem dX2_init_63 : decode cX2_init 63 = .ok (.invokespecial 12, 3) := by decide +kernel
theorem dX2_init_66 : decode cX2_init 66 = .ok (.putfield 31, 3) := by decide +kernel
theorem dX2_init_69 : decode cX2_init 69 = .ok (.aload_n 0, 1) := by decide +kernel
theorem dX2_init_70 : decode cX2_init 70 = .ok (.new 9, 3) := by decide +kernel
theorem dX2_init_73 : decode cX2_init 73 = .ok (.dup, 1) := by decide +kernel
theorem dX2_init_74 : decode cX2_init 74 = .ok (.ldc 24, 2) := by decide +kernel
theorem dX2_init_76 : decode cX2_init 76 = .ok (.invokespecial 12, 3) := by decide +kernel
theorem dX2_init_79 : decode cX2_init 79 = .ok (.putfield 34, 3) := by decide +kernel
theorem dX2_init_82 : decode cX2_init 82 = .ok (.aload_n 0, 1) := by decide +kernel
theorem dX2_init_83 : decode cX2_init 83 = .ok (.new 9, 3) := by decide +kernel
theorem dX2_init_86 : decode cX2_init 86 = .ok (.dup, 1) := by decide +kernel
theorem dX2_init_87 : decode cX2_init 87 = .ok (.ldc 11, 2) := by decide +kernel
theorem dX2_init_89 : decode cX2_init 89 = .ok (.invokespecial 12, 3) := by decide +kernel
theorem dX2_init_92 : decode cX2_init 92 = .ok (.putfield 37, 3) := by decide +kernel
theorem dX2_init_95 : decode cX2_init 95 = .ok (.aload_n 0, 1) := by decide +kernel
theorem dX2_init_96 : decode cX2_init 96 = .ok (.new 9, 3) := by decide +kernel
theorem dX2_init_99 : decode cX2_init 99 = .ok (.dup, 1) := by decide +kernel
theorem dX2_init_100 : decode cX2_init 100 = .ok (.ldc 11, 2) := by decide +kernel
theorem dX2_init_102 : decode cX2_init 102 = .ok (.invokespecial 12, 3) := by decide +kernel
theorem dX2_init_105 : decode cX2_init 105 = .ok (.putfield 40, 3) := by decide +kernel
theorem dX2_init_108 : decode cX2_init 108 = .ok (.aload_n 0, 1) := by decide +kernel
theorem dX2_init_109 : decode cX2_init 109 = .ok (.new 9, 3) := by decide +kernel
theorem dX2_init_112 : decode cX2_init 112 = .ok (.dup, 1) := by decide +kernel
theorem dX2_init_113 : decode cX2_init 113 = .ok (.ldc 11, 2) := by decide +kernel
theorem dX2_init_115 : decode cX2_init 115 = .ok (.invokespecial 12, 3) := by decide +kernel
theorem dX2_init_118 : decode cX2_init 118 = .ok (.putfield 43, 3) := by decide +kernel
theorem dX2_init_121 : decode cX2_init 121 = .ok (.aload_n 0, 1) := by decide +kernel
theorem dX2_init_122 : decode cX2_init 122 = .ok (.new 9, 3) := by decide +kernel
theorem dX2_init_125 : decode cX2_init 125 = .ok (.dup, 1) := by decide +kernel
theorem dX2_init_126 : decode cX2_init 126 = .ok (.ldc 11, 2) := by decide +kernel
theorem dX2_init_128 : decode cX2_init 128 = .ok (.invokespecial 12, 3) := by decide +kernel
theorem dX2_init_131 : decode cX2_init 131 = .ok (.putfield 46, 3) := by decide +kernel
theorem dX2_init_134 : decode cX2_init 134 = .ok (.aload_n 0, 1) := by decide +kernel
theorem dX2_init_135 : decode cX2_init 135 = .ok (.new 9, 3) := by decide +kernel
theorem dX2_init_138 : decode cX2_init 138 = .ok (.dup, 1) := by decide +kernel
theorem dX2_init_139 : decode cX2_init 139 = .ok (.ldc 11, 2) := by decide +kernel
theorem dX2_init_141 : decode cX2_init 141 = .ok (.invokespecial 12, 3) := by decide +kernel
theorem dX2_init_144 : decode cX2_init 144 = .ok (.putfield 49, 3) := by decide +kernel
theorem dX2_init_147 : decode cX2_init 147 = .ok (.aload_n 0, 1) := by decide +kernel
theorem dX2_init_148 : decode cX2_init 148 = .ok (.new 9, 3) := by decide +kernel
theorem dX2_init_151 : decode cX2_init 151 = .ok (.dup, 1) := by decide +kernel
theorem dX2_init_152 : decode cX2_init 152 = .ok (.ldc 11, 2) := by decide +kernel
theorem dX2_init_154 : decode cX2_init 154 = .ok (.invokespecial 12, 3) := by decide +kernel
theorem dX2_init_157 : decode cX2_init 157 = .ok (.putfield 52, 3) := by decide +kernel
theorem dX2_init_160 : decode cX2_init 160 = .ok (.aload_n 0, 1) := by decide +kernel
theorem dX2_init_161 : decode cX2_init 161 = .ok (.new 9, 3) := by decide +kernel
theorem dX2_init_164 : decode cX2_init 164 = .ok (.dup, 1) := by decide +kernel
theorem dX2_init_165 : decode cX2_init 165 = .ok (.ldc 11, 2) := by decide +kernel
theorem dX2_init_167 : decode cX2_init 167 = .ok (.invokespecial 12, 3) := by decide +kernel
theorem dX2_init_170 : decode cX2_init 170 = .ok (.putfield 55, 3) := by decide +kernel
theorem dX2_init_173 : decode cX2_init 173 = .ok (.aload_n 0, 1) := by decide +kernel
theorem dX2_init_174 : decode cX2_init 174 = .ok (.new 9, 3) := by decide +kernel
theorem dX2_init_177 : decode cX2_init 177 = .ok (.dup, 1) := by decide +kernel
theorem dX2_init_178 : decode cX2_init 178 = .ok (.ldc 11, 2) := by decide +kernel
theorem dX2_init_180 : decode cX2_init 180 = .ok (.invokespecial 12, 3) := by decide +kernel
theorem dX2_init_183 : decode cX2_init 183 = .ok (.putfield 58, 3) := by decide +kernel
theorem dX2_init_186 : decode cX2_init 186 = .ok (.aload_n 0, 1) := by decide +kernel
theorem dX2_init_187 : decode cX2_init 187 = .ok (.aload_n 1, 1) := by decide +kernel
theorem dX2_init_188 : decode cX2_init 188 = .ok (.putfield 61, 3) := by decide +kernel
theorem dX2_init_191 : decode cX2_init 191 = .ok (.return_, 1) := by decide +kernel
theorem dX2_isBefore_0 : decode cX2_isBefore 0 = .ok (.aload_n 0, 1) := by decide +kernel
theorem dX2_isBefore_1 : decode cX2_isBefore 1 = .ok (.getfield 37, 3) := by decide +kernel
theorem dX2_isBefore_4 : decode cX2_isBefore 4 = .ok (.iload_n 1, 1) := by decide +kernel
theorem dX2_isBefore_5 : decode cX2_isBefore 5 = .ok (.invokevirtual 76, 3) := by decide +kernel
theorem dX2_isBefore_8 : decode cX2_isBefore 8 = .ok (.aload_n 0, 1) := by decide +kernel
theorem dX2_isBefore_9 : decode cX2_isBefore 9 = .ok (.getfield 37, 3) := by decide +kernel
theorem dX2_isBefore_12 : decode cX2_isBefore 12 = .ok (.iload_n 2, 1) := by decide +kernel
theorem dX2_isBefore_13 : decode cX2_isBefore 13 = .ok (.invokevirtual 76, 3) := by decide +kernel
theorem dX2_isBefore_16 : decode cX2_isBefore 16 = .ok (.if_icmp .eq 28, 3) := by decide +kernel
theorem dX2_isBefore_19 : decode cX2_isBefore 19 = .ok (.aload_n 0, 1) := by decide +kernel
theorem dX2_isBefore_20 : decode cX2_isBefore 20 = .ok (.getfield 37, 3) := by decide +kernel
theorem dX2_isBefore_23 : decode cX2_isBefore 23 = .ok (.iload_n 1, 1) := by decide +kernel
theorem dX2_isBefore_24 : decode cX2_isBefore 24 = .ok (.invokevirtual 76, 3) := by decide +kernel
theorem dX2_isBefore_27 : decode cX2_isBefore 27 = .ok (.aload_n 0, 1) := by decide +kernel
theorem dX2_isBefore_28 : decode cX2_isBefore 28 = .ok (.getfield 37, 3) := by decide +kernel
theorem dX2_isBefore_31 : decode cX2_isBefore 31 = .ok (.iload_n 2, 1) := by decide +kernel
theorem dX2_isBefore_32 : decode cX2_isBefore 32 = .ok (.invokevirtual 76, 3) := by decide +kernel
theorem dX2_isBefore_35 : decode cX2_isBefore 35 = .ok (.if_icmp .ge 7, 3) := by decide +kernel
theorem dX2_isBefore_38 : decode cX2_isBefore 38 = .ok (.iconst 1, 1) := by decide +kernel
theorem dX2_isBefore_39 : decode cX2_isBefore 39 = .ok (.goto 4, 3) := by decide +kernel
theorem dX2_isBefore_42 : decode cX2_isBefore 42 = .ok (.iconst 0, 1) := by decide +kernel
theorem dX2_isBefore_43 : decode cX2_isBefore 43 = .ok (.ireturn, 1) := by decide +kernel
theorem dX2_isBefore_44 : decode cX2_isBefore 44 = .ok (.aload_n 0, 1) := by decide +kernel
theorem dX2_isBefore_45 : decode cX2_isBefore 45 = .ok (.getfield 21, 3) := by decide +kernel
theorem dX2_isBefore_48 : decode cX2_isBefore 48 = .ok (.iload_n 1, 1) := by decide +kernel
theorem dX2_isBefore_49 : decode cX2_isBefore 49 = .ok (.invokevirtual 76, 3) := by decide +kernel
theorem dX2_isBefore_52 : decode cX2_isBefore 52 = .ok (.istore_n 3, 1) := by decide +kernel
theorem dX2_isBefore_53 : decode cX2_isBefore 53 = .ok (.iload_n 3, 1) := by decide +kernel
theorem dX2_isBefore_54 : decode cX2_isBefore 54 = .ok (.aload_n 0, 1) := by decide +kernel
theorem dX2_isBefore_55 : decode cX2_isBefore 55 = .ok (.getfield 21, 3) := by decide +kernel
theorem dX2_isBefore_58 : decode cX2_isBefore 58 = .ok (.iload_n 2, 1) := by decide +kernel
theorem dX2_isBefore_59 : decode cX2_isBefore 59 = .ok (.invokevirtual 76, 3) := by decide +kernel
theorem dX2_isBefore_62 : decode cX2_isBefore 62 = .ok (.if_icmp .eq 35, 3) := by decide +kernel
theorem dX2_isBefore_65 : decode cX2_isBefore 65 = .ok (.aload_n 0, 1) := by decide +kernel
theorem dX2_isBefore_66 : decode cX2_isBefore 66 = .ok (.getfield 61, 3) := by decide +kernel
theorem dX2_isBefore_69 : decode cX2_isBefore 69 = .ok (.iload_n 3, 1) := by decide +kernel
theorem dX2_isBefore_70 : decode cX2_isBefore 70 = .ok (.invokevirtual 151, 3) := by decide +kernel
theorem dX2_isBefore_73 : decode cX2_isBefore 73 = .ok (.aload_n 0, 1) := by decide +kernel
theorem dX2_isBefore_74 : decode cX2_isBefore 74 = .ok (.getfield 61, 3) := by decide +kernel
theorem dX2_isBefore_77 : decode cX2_isBefore 77 = .ok (.aload_n 0, 1) := by decide +kernel
theorem dX2_isBefore_78 : decode cX2_isBefore 78 = .ok (.getfield 21, 3) := by decide +kernel
theorem dX2_isBefore_81 : decode cX2_isBefore 81 = .ok (.iload_n 2, 1) := by decide +kernel
theorem dX2_isBefore_82 : decode cX2_isBefore 82 = .ok (.invokevirtual 76, 3) := by decide +kernel
theorem dX2_isBefore_85 : decode cX2_isBefore 85 = .ok (.invokevirtual 151, 3) := by decide +kernel
theorem dX2_isBefore_88 : decode cX2_isBefore 88 = .ok (.if_icmp .ge 7, 3) := by decide +kernel
theorem dX2_isBefore_91 : decode cX2_isBefore 91 = .ok (.iconst 1, 1) := by decide +kernel
theorem dX2_isBefore_92 : decode cX2_isBefore 92 = .ok (.goto 4, 3) := by decide +kernel
theorem dX2_isBefore_95 : decode cX2_isBefore 95 = .ok (.iconst 0, 1) := by decide +kernel
theorem dX2_isBefore_96 : decode cX2_isBefore 96 = .ok (.ireturn, 1) := by decide +kernel
theorem dX2_isBefore_97 : decode cX2_isBefore 97 = .ok (.aload_n 0, 1) := by decide +kernel
theorem dX2_isBefore_98 : decode cX2_isBefore 98 = .ok (.getfield 61, 3) := by decide +kernel
theorem dX2_isBefore_101 : decode cX2_isBefore 101 = .ok (.iload_n 3, 1) := by decide +kernel
theorem dX2_isBefore_102 : decode cX2_isBefore 102 = .ok (.invokevirtual 80, 3) := by decide +kernel
theorem dX2_isBefore_105 : decode cX2_isBefore 105 = .ok (.istore 4, 2) := by decide +kernel
theorem dX2_isBefore_107 : decode cX2_isBefore 107 = .ok (.aload_n 0, 1) := by decide +kernel
theorem dX2_isBefore_108 : decode cX2_isBefore 108 = .ok (.getfield 61, 3) := by decide +kernel
theorem dX2_isBefore_111 : decode cX2_isBefore 111 = .ok (.iload_n 3, 1) := by decide +kernel
theorem dX2_isBefore_112 : decode cX2_isBefore 112 = .ok (.invokevirtual 154, 3) := by decide +kernel
theorem dX2_isBefore_115 : decode cX2_isBefore 115 = .ok (.istore 5, 2) := by decide +kernel
theorem dX2_isBefore_117 : decode cX2_isBefore 117 = .ok (.iconst 0, 1) := by decide +kernel
theorem dX2_isBefore_118 : decode cX2_isBefore 118 = .ok (.istore 6, 2) := by decide +kernel
theorem dX2_isBefore_120 : decode cX2_isBefore 120 = .ok (.iload 6, 2) := by decide +kernel
theorem dX2_isBefore_122 : decode cX2_isBefore 122 = .ok (.iload 4, 2) := by decide +kernel
theorem dX2_isBefore_124 : decode cX2_isBefore 124 = .ok (.if_icmp .ge 92, 3) := by decide +kernel
theorem dX2_isBefore_127 : decode cX2_isBefore 127 = .ok (.iload 5, 2) := by decide +kernel
theorem dX2_isBefore_129 : decode cX2_isBefore 129 = .ok (.ifCond .eq 13, 3) := by decide +kernel
theorem dX2_isBefore_132 : decode cX2_isBefore 132 = .ok (.iload 4, 2) := by decide +kernel
theorem dX2_isBefore_134 : decode cX2_isBefore 134 = .ok (.iconst 1, 1) := by decide +kernel
theorem dX2_isBefore_135 : decode cX2_isBefore 135 = .ok (.isub, 1) := by decide +kernel
theorem dX2_isBefore_136 : decode cX2_isBefore 136 = .ok (.iload 6, 2) := by decide +kernel
theorem dX2_isBefore_138 : decode cX2_isBefore 138 = .ok (.isub, 1) := by decide +kernel
theorem dX2_isBefore_139 : decode cX2_isBefore 139 = .ok (.goto 5, 3) := by decide +kernel
theorem dX2_isBefore_142 : decode cX2_isBefore 142 = .ok (.iload 6, 2) := by decide +kernel
theorem dX2_isBefore_144 : decode cX2_isBefore 144 = .ok (.istore 7, 2) := by decide +kernel
theorem dX2_isBefore_146 : decode cX2_isBefore 146 = .ok (.aload_n 0, 1) := by decide +kernel
theorem dX2_isBefore_147 : decode cX2_isBefore 147 = .ok (.getfield 25, 3) := by decide +kernel
theorem dX2_isBefore_150 : decode cX2_isBefore 150 = .ok (.iconst 3, 1) := by decide +kernel
theorem dX2_isBefore_151 : decode cX2_isBefore 151 = .ok (.iload_n 1, 1) := by decide +kernel
theorem dX2_isBefore_152 : decode cX2_isBefore 152 = .ok (.imul, 1) := by decide +kernel
theorem dX2_isBefore_153 : decode cX2_isBefore 153 = .ok (.iload 7, 2) := by decide +kernel
theorem dX2_isBefore_155 : decode cX2_isBefore 155 = .ok (.iadd, 1) := by decide +kernel
theorem dX2_isBefore_156 : decode cX2_isBefore 156 = .ok (.invokevirtual 76, 3) := by decide +kernel
theorem dX2_isBefore_159 : decode cX2_isBefore 159 = .ok (.istore 8, 2) := by decide +kernel
theorem dX2_isBefore_161 : decode cX2_isBefore 161 = .ok (.aload_n 0, 1) := by decide +kernel
theorem dX2_isBefore_162 : decode cX2_isBefore 162 = .ok (.getfield 25, 3) := by decide +kernel
theorem dX2_isBefore_165 : decode cX2_isBefore 165 = .ok (.iconst 3, 1) := by decide +kernel
theorem dX2_isBefore_166 : decode cX2_isBefore 166 = .ok (.iload_n 2, 1) := by decide +kernel
theorem dX2_isBefore_167 : decode cX2_isBefore 167 = .ok (.imul, 1) := by decide +kernel
theorem dX2_isBefore_168 : decode cX2_isBefore 168 = .ok (.iload 7, 2) := by decide +kernel
theorem dX2_isBefore_170 : decode cX2_isBefore 170 = .ok (.iadd, 1) := by decide +kernel
theorem dX2_isBefore_171 : decode cX2_isBefore 171 = .ok (.invokevirtual 76, 3) := by decide +kernel
theorem dX2_isBefore_174 : decode cX2_isBefore 174 = .ok (.istore 9, 2) := by decide +kernel
theorem dX2_isBefore_176 : decode cX2_isBefore 176 = .ok (.iload 8, 2) := by decide +kernel
theorem dX2_isBefore_178 : decode cX2_isBefore 178 = .ok (.iload 9, 2) := by decide +kernel
theorem dX2_isBefore_180 : decode cX2_isBefore 180 = .ok (.if_icmp .eq 30, 3) := by decide +kernel
theorem dX2_isBefore_183 : decode cX2_isBefore 183 = .ok (.aload_n 0, 1) := by decide +kernel
theorem dX2_isBefore_184 : decode cX2_isBefore 184 = .ok (.getfield 52, 3) := by decide +kernel
theorem dX2_isBefore_187 : decode cX2_isBefore 187 = .ok (.iload 8, 2) := by decide +kernel
theorem dX2_isBefore_189 : decode cX2_isBefore 189 = .ok (.invokevirtual 76, 3) := by decide +kernel
theorem dX2_isBefore_192 : decode cX2_isBefore 192 = .ok (.aload_n 0, 1) := by decide +kernel
theorem dX2_isBefore_193 : decode cX2_isBefore 193 = .ok (.getfield 52, 3) := by decide +kernel
theorem dX2_isBefore_196 : decode cX2_isBefore 196 = .ok (.iload 9, 2) := by decide +kernel
theorem dX2_isBefore_198 : decode cX2_isBefore 198 = .ok (.invokevirtual 76, 3) := by decide +kernel
theorem dX2_isBefore_201 : decode cX2_isBefore 201 = .ok (.if_icmp .ge 7, 3) := by decide +kernel
theorem dX2_isBefore_204 : decode cX2_isBefore 204 = .ok (.iconst 1, 1) := by decide +kernel
theorem dX2_isBefore_205 : decode cX2_isBefore 205 = .ok (.goto 4, 3) := by decide +kernel
theorem dX2_isBefore_208 : decode cX2_isBefore 208 = .ok (.iconst 0, 1) := by decide +kernel
theorem dX2_isBefore_209 : decode cX2_isBefore 209 = .ok (.ireturn, 1) := by decide +kernel
theorem dX2_isBefore_210 : decode cX2_isBefore 210 = .ok (.iinc 6 1, 3) := by decide +kernel
theorem dX2_isBefore_213 : decode cX2_isBefore 213 = .ok (.goto (-93), 3) := by decide +kernel
theorem dX2_isBefore_216 : decode cX2_isBefore 216 = .ok (.iconst 0, 1) := by decide +kernel
theorem dX2_isBefore_217 : decode cX2_isBefore 217 = .ok (.ireturn, 1) := by decide +kernel
theorem dX2_isNeeded_0 : decode cX2_isNeeded 0 = .ok (.aload_n 0, 1) := by decide +kernel
theorem dX2_isNeeded_1 : decode cX2_isNeeded 1 = .ok (.getfield 15, 3) := by decide +kernel
theorem dX2_isNeeded_4 : decode cX2_isNeeded 4 = .ok (.iload_n 1, 1) := by decide +kernel
theorem dX2_isNeeded_5 : decode cX2_isNeeded 5 = .ok (.invokevirtual 76, 3) := by decide +kernel
theorem dX2_isNeeded_8 : decode cX2_isNeeded 8 = .ok (.istore_n 2, 1) := by decide +kernel
theorem dX2_isNeeded_9 : decode cX2_isNeeded 9 = .ok (.aload_n 0, 1) := by decide +kernel
theorem dX2_isNeeded_10 : decode cX2_isNeeded 10 = .ok (.getfield 49, 3) := by decide +kernel
theorem dX2_isNeeded_13 : decode cX2_isNeeded 13 = .ok (.iload_n 2, 1) := by decide +kernel
theorem dX2_isNeeded_14 : decode cX2_isNeeded 14 = .ok (.invokevirtual 76, 3) := by decide +kernel
theorem dX2_isNeeded_17 : decode cX2_isNeeded 17 = .ok (.iload_n 1, 1) := by decide +kernel
theorem dX2_isNeeded_18 : decode cX2_isNeeded 18 = .ok (.if_icmp .ne 19, 3) := by decide +kernel
theorem dX2_isNeeded_21 : decode cX2_isNeeded 21 = .ok (.aload_n 0, 1) := by decide +kernel
theorem dX2_isNeeded_22 : decode cX2_isNeeded 22 = .ok (.getfield 28, 3) := by decide +kernel
theorem dX2_isNeeded_25 : decode cX2_isNeeded 25 = .ok (.iload_n 2, 1) := by decide +kernel
theorem dX2_isNeeded_26 : decode cX2_isNeeded 26 = .ok (.invokevirtual 76, 3) := by decide +kernel
theorem dX2_isNeeded_29 : decode cX2_isNeeded 29 = .ok (.iconst 1, 1) := by decide +kernel
theorem dX2_isNeeded_30 : decode cX2_isNeeded 30 = .ok (.if_icmp .ne 7, 3) := by decide +kernel
theorem dX2_isNeeded_33 : decode cX2_isNeeded 33 = .ok (.iconst 1, 1) := by decide +kernel
theorem dX2_isNeeded_34 : decode cX2_isNeeded 34 = .ok (.goto 4, 3) := by decide +kernel
theorem dX2_isNeeded_37 : decode cX2_isNeeded 37 = .ok (.iconst 0, 1) := by decide +kernel
theorem dX2_isNeeded_38 : decode cX2_isNeeded 38 = .ok (.ireturn, 1) := by decide +kernel
theorem dX2_isReadyAfter_0 : decode cX2_isReadyAfter 0 = .ok (.iload_n 1, 1) := by decide +kernel
theorem dX2_isReadyAfter_1 : decode cX2_isReadyAfter 1 = .ok (.iconst 3, 1) := by decide +kernel
theorem dX2_isReadyAfter_2 : decode cX2_isReadyAfter 2 = .ok (.idiv, 1) := by decide +kernel
theorem dX2_isReadyAfter_3 : decode cX2_isReadyAfter 3 = .ok (.istore_n 2, 1) := by decide +kernel
theorem dX2_isReadyAfter_4 : decode cX2_isReadyAfter 4 = .ok (.aload_n 0, 1) := by decide +kernel
theorem dX2_isReadyAfter_5 : decode cX2_isReadyAfter 5 = .ok (.getfield 28, 3) := by decide +kernel
theorem dX2_isReadyAfter_8 : decode cX2_isReadyAfter 8 = .ok (.iload_n 2, 1) := by decide +kernel
theorem dX2_isReadyAfter_9 : decode cX2_isReadyAfter 9 = .ok (.aload_n 0, 1) := by decide +kernel
theorem dX2_isReadyAfter_10 : decode cX2_isReadyAfter 10 = .ok (.getfield 28, 3) := by decide +kernel
theorem dX2_isReadyAfter_13 : decode cX2_isReadyAfter 13 = .ok (.iload_n 2, 1) := by decide +kernel
theorem dX2_isReadyAfter_14 : decode cX2_isReadyAfter 14 = .ok (.invokevirtual 76, 3) := by decide +kernel
theorem dX2_isReadyAfter_17 : decode cX2_isReadyAfter 17 = .ok (.iconst 1, 1) := by decide +kernel
theorem dX2_isReadyAfter_18 : decode cX2_isReadyAfter 18 = .ok (.isub, 1) := by decide +kernel
theorem dX2_isReadyAfter_19 : decode cX2_isReadyAfter 19 = .ok (.invokevirtual 72, 3) := by decide +kernel
theorem dX2_isReadyAfter_22 : decode cX2_isReadyAfter 22 = .ok (.aload_n 0, 1) := by decide +kernel
theorem dX2_isReadyAfter_23 : decode cX2_isReadyAfter 23 = .ok (.getfield 28, 3) := by decide +kernel
theorem dX2_isReadyAfter_26 : decode cX2_isReadyAfter 26 = .ok (.iload_n 2, 1) := by decide +kernel
theorem dX2_isReadyAfter_27 : decode cX2_isReadyAfter 27 = .ok (.invokevirtual 76, 3) := by decide +kernel
theorem dX2_isReadyAfter_30 : decode cX2_isReadyAfter 30 = .ok (.ifCond .ne 7, 3) := by decide +kernel
theorem dX2_isReadyAfter_33 : decode cX2_isReadyAfter 33 = .ok (.iconst 1, 1) := by decide +kernel
theorem dX2_isReadyAfter_34 : decode cX2_isReadyAfter 34 = .ok (.goto 4, 3) := by decide +kernel
theorem dX2_isReadyAfter_37 : decode cX2_isReadyAfter 37 = .ok (.iconst 0, 1) := by decide +kernel
theorem dX2_isReadyAfter_38 : decode cX2_isReadyAfter 38 = .ok (.ireturn, 1) := by decide +kernel
theorem dX2_leastTerm_0 : decode cX2_leastTerm 0 = .ok (.aload_n 0, 1) := by decide +kernel
theorem dX2_leastTerm_1 : decode cX2_leastTerm 1 = .ok (.getfield 58, 3) := by decide +kernel
theorem dX2_leastTerm_4 : decode cX2_leastTerm 4 = .ok (.iload_n 1, 1) := by decide +kernel
theorem dX2_leastTerm_5 : decode cX2_leastTerm 5 = .ok (.invokevirtual 76, 3) := by decide +kernel
theorem dX2_leastTerm_8 : decode cX2_leastTerm 8 = .ok (.ireturn, 1) := by decide +kernel
theorem dX2_linkUsers_0 : decode cX2_linkUsers 0 = .ok (.iconst 0, 1) := by decide +kernel
theorem dX2_linkUsers_1 : decode cX2_linkUsers 1 = .ok (.istore_n 1, 1) := by decide +kernel
theorem dX2_linkUsers_2 : decode cX2_linkUsers 2 = .ok (.iload_n 1, 1) := by decide +kernel
theorem dX2_linkUsers_3 : decode cX2_linkUsers 3 = .ok (.aload_n 0, 1) := by decide +kernel
theorem dX2_linkUsers_4 : decode cX2_linkUsers 4 = .ok (.getfield 65, 3) := by decide +kernel
theorem dX2_linkUsers_7 : decode cX2_linkUsers 7 = .ok (.if_icmp .ge 27, 3) := by decide +kernel
theorem dX2_linkUsers_10 : decode cX2_linkUsers 10 = .ok (.aload_n 0, 1) := by decide +kernel
theorem dX2_linkUsers_11 : decode cX2_linkUsers 11 = .ok (.getfield 31, 3) := by decide +kernel
theorem dX2_linkUsers_14 : decode cX2_linkUsers 14 = .ok (.iload_n 1, 1) := by decide +kernel
theorem dX2_linkUsers_15 : decode cX2_linkUsers 15 = .ok (.iconst 0, 1) := by decide +kernel
theorem dX2_linkUsers_16 : decode cX2_linkUsers 16 = .ok (.invokevirtual 72, 3) := by decide +kernel
theorem dX2_linkUsers_19 : decode cX2_linkUsers 19 = .ok (.aload_n 0, 1) := by decide +kernel
theorem dX2_linkUsers_20 : decode cX2_linkUsers 20 = .ok (.getfield 49, 3) := by decide +kernel
theorem dX2_linkUsers_23 : decode cX2_linkUsers 23 = .ok (.iload_n 1, 1) := by decide +kernel
theorem dX2_linkUsers_24 : decode cX2_linkUsers 24 = .ok (.iconst (-1), 1) := by decide +kernel
theorem dX2_linkUsers_25 : decode cX2_linkUsers 25 = .ok (.invokevirtual 72, 3) := by decide +kernel
theorem dX2_linkUsers_28 : decode cX2_linkUsers 28 = .ok (.iinc 1 1, 3) := by decide +kernel
theorem dX2_linkUsers_31 : decode cX2_linkUsers 31 = .ok (.goto (-29), 3) := by decide +kernel
theorem dX2_linkUsers_34 : decode cX2_linkUsers 34 = .ok (.iconst 0, 1) := by decide +kernel
theorem dX2_linkUsers_35 : decode cX2_linkUsers 35 = .ok (.istore_n 1, 1) := by decide +kernel
theorem dX2_linkUsers_36 : decode cX2_linkUsers 36 = .ok (.iload_n 1, 1) := by decide +kernel
theorem dX2_linkUsers_37 : decode cX2_linkUsers 37 = .ok (.aload_n 0, 1) := by decide +kernel
theorem dX2_linkUsers_38 : decode cX2_linkUsers 38 = .ok (.getfield 69, 3) := by decide +kernel
theorem dX2_linkUsers_41 : decode cX2_linkUsers 41 = .ok (.if_icmp .ge 71, 3) := by decide +kernel
theorem dX2_linkUsers_44 : decode cX2_linkUsers 44 = .ok (.iconst 0, 1) := by decide +kernel
theorem dX2_linkUsers_45 : decode cX2_linkUsers 45 = .ok (.istore_n 2, 1) := by decide +kernel
theorem dX2_linkUsers_46 : decode cX2_linkUsers 46 = .ok (.iload_n 2, 1) := by decide +kernel
theorem dX2_linkUsers_47 : decode cX2_linkUsers 47 = .ok (.aload_n 0, 1) := by decide +kernel
theorem dX2_linkUsers_48 : decode cX2_linkUsers 48 = .ok (.iload_n 1, 1) := by decide +kernel
theorem dX2_linkUsers_49 : decode cX2_linkUsers 49 = .ok (.invokevirtual 105, 3) := by decide +kernel
theorem dX2_linkUsers_52 : decode cX2_linkUsers 52 = .ok (.if_icmp .ge 54, 3) := by decide +kernel
theorem dX2_linkUsers_55 : decode cX2_linkUsers 55 = .ok (.iconst 3, 1) := by decide +kernel
theorem dX2_linkUsers_56 : decode cX2_linkUsers 56 = .ok (.iload_n 1, 1) := by decide +kernel
theorem dX2_linkUsers_57 : decode cX2_linkUsers 57 = .ok (.imul, 1) := by decide +kernel
theorem dX2_linkUsers_58 : decode cX2_linkUsers 58 = .ok (.iload_n 2, 1) := by decide +kernel
theorem dX2_linkUsers_59 : decode cX2_linkUsers 59 = .ok (.iadd, 1) := by decide +kernel
theorem dX2_linkUsers_60 : decode cX2_linkUsers 60 = .ok (.istore_n 3, 1) := by decide +kernel
theorem dX2_linkUsers_61 : decode cX2_linkUsers 61 = .ok (.aload_n 0, 1) := by decide +kernel
theorem dX2_linkUsers_62 : decode cX2_linkUsers 62 = .ok (.getfield 25, 3) := by decide +kernel
theorem dX2_linkUsers_65 : decode cX2_linkUsers 65 = .ok (.iload_n 3, 1) := by decide +kernel
theorem dX2_linkUsers_66 : decode cX2_linkUsers 66 = .ok (.invokevirtual 76, 3) := by decide +kernel
theorem dX2_linkUsers_69 : decode cX2_linkUsers 69 = .ok (.istore 4, 2) := by decide +kernel
theorem dX2_linkUsers_71 : decode cX2_linkUsers 71 = .ok (.aload_n 0, 1) := by decide +kernel
theorem dX2_linkUsers_72 : decode cX2_linkUsers 72 = .ok (.getfield 34, 3) := by decide +kernel
theorem dX2_linkUsers_75 : decode cX2_linkUsers 75 = .ok (.iload_n 3, 1) := by decide +kernel
theorem dX2_linkUsers_76 : decode cX2_linkUsers 76 = .ok (.aload_n 0, 1) := by decide +kernel
theorem dX2_linkUsers_77 : decode cX2_linkUsers 77 = .ok (.getfield 31, 3) := by decide +kernel
theorem dX2_linkUsers_80 : decode cX2_linkUsers 80 = .ok (.iload 4, 2) := by decide +kernel
theorem dX2_linkUsers_82 : decode cX2_linkUsers 82 = .ok (.invokevirtual 76, 3) := by decide +kernel
theorem dX2_linkUsers_85 : decode cX2_linkUsers 85 = .ok (.invokevirtual 72, 3) := by decide +kernel
theorem dX2_linkUsers_88 : decode cX2_linkUsers 88 = .ok (.aload_n 0, 1) := by decide +kernel
theorem dX2_linkUsers_89 : decode cX2_linkUsers 89 = .ok (.getfield 31, 3) := by decide +kernel
theorem dX2_linkUsers_92 : decode cX2_linkUsers 92 = .ok (.iload 4, 2) := by decide +kernel
theorem dX2_linkUsers_94 : decode cX2_linkUsers 94 = .ok (.iload_n 3, 1) := by decide +kernel
theorem dX2_linkUsers_95 : decode cX2_linkUsers 95 = .ok (.iconst 1, 1) := by decide +kernel
theorem dX2_linkUsers_96 : decode cX2_linkUsers 96 = .ok (.iadd, 1) := by decide +kernel
theorem dX2_linkUsers_97 : decode cX2_linkUsers 97 = .ok (.invokevirtual 72, 3) := by decide +kernel
theorem dX2_linkUsers_100 : decode cX2_linkUsers 100 = .ok (.iinc 2 1, 3) := by decide +kernel
theorem dX2_linkUsers_103 : decode cX2_linkUsers 103 = .ok (.goto (-57), 3) := by decide +kernel
theorem dX2_linkUsers_106 : decode cX2_linkUsers 106 = .ok (.iinc 1 1, 3) := by decide +kernel
theorem dX2_linkUsers_109 : decode cX2_linkUsers 109 = .ok (.goto (-73), 3) := by decide +kernel
theorem dX2_linkUsers_112 : decode cX2_linkUsers 112 = .ok (.return_, 1) := by decide +kernel
theorem dX2_makeTerm_0 : decode cX2_makeTerm 0 = .ok (.iconst 3, 1) := by decide +kernel
theorem dX2_makeTerm_1 : decode cX2_makeTerm 1 = .ok (.iload_n 1, 1) := by decide +kernel
theorem dX2_makeTerm_2 : decode cX2_makeTerm 2 = .ok (.imul, 1) := by decide +kernel
theorem dX2_makeTerm_3 : decode cX2_makeTerm 3 = .ok (.istore_n 3, 1) := by decide +kernel
theorem dX2_makeTerm_4 : decode cX2_makeTerm 4 = .ok (.aload_n 0, 1) := by decide +kernel
theorem dX2_makeTerm_5 : decode cX2_makeTerm 5 = .ok (.iload_n 1, 1) := by decide +kernel
theorem dX2_makeTerm_6 : decode cX2_makeTerm 6 = .ok (.invokevirtual 105, 3) := by decide +kernel
theorem dX2_makeTerm_9 : decode cX2_makeTerm 9 = .ok (.istore 4, 2) := by decide +kernel
theorem dX2_makeTerm_11 : decode cX2_makeTerm 11 = .ok (.iload 4, 2) := by decide +kernel
theorem dX2_makeTerm_13 : decode cX2_makeTerm 13 = .ok (.ifCond .le 21, 3) := by decide +kernel
theorem dX2_makeTerm_16 : decode cX2_makeTerm 16 = .ok (.aload_n 0, 1) := by decide +kernel
theorem dX2_makeTerm_17 : decode cX2_makeTerm 17 = .ok (.getfield 58, 3) := by decide +kernel
theorem dX2_makeTerm_20 : decode cX2_makeTerm 20 = .ok (.aload_n 0, 1) := by decide +kernel
theorem dX2_makeTerm_21 : decode cX2_makeTerm 21 = .ok (.getfield 25, 3) := by decide +kernel
theorem dX2_makeTerm_24 : decode cX2_makeTerm 24 = .ok (.iload_n 3, 1) := by decide +kernel
theorem dX2_makeTerm_25 : decode cX2_makeTerm 25 = .ok (.invokevirtual 76, 3) := by decide +kernel
theorem dX2_makeTerm_28 : decode cX2_makeTerm 28 = .ok (.invokevirtual 76, 3) := by decide +kernel
theorem dX2_makeTerm_31 : decode cX2_makeTerm 31 = .ok (.goto 4, 3) := by decide +kernel
theorem dX2_makeTerm_34 : decode cX2_makeTerm 34 = .ok (.iconst (-1), 1) := by decide +kernel
theorem dX2_makeTerm_35 : decode cX2_makeTerm 35 = .ok (.istore 5, 2) := by decide +kernel
theorem dX2_makeTerm_37 : decode cX2_makeTerm 37 = .ok (.iload 4, 2) := by decide +kernel
theorem dX2_makeTerm_39 : decode cX2_makeTerm 39 = .ok (.iconst 1, 1) := by decide +kernel
theorem dX2_makeTerm_40 : decode cX2_makeTerm 40 = .ok (.if_icmp .le 23, 3) := by decide +kernel
theorem dX2_makeTerm_43 : decode cX2_makeTerm 43 = .ok (.aload_n 0, 1) := by decide +kernel
theorem dX2_makeTerm_44 : decode cX2_makeTerm 44 = .ok (.getfield 58, 3) := by decide +kernel
theorem dX2_makeTerm_47 : decode cX2_makeTerm 47 = .ok (.aload_n 0, 1) := by decide +kernel
theorem dX2_makeTerm_48 : decode cX2_makeTerm 48 = .ok (.getfield 25, 3) := by decide +kernel
theorem dX2_makeTerm_51 : decode cX2_makeTerm 51 = .ok (.iload_n 3, 1) := by decide +kernel
theorem dX2_makeTerm_52 : decode cX2_makeTerm 52 = .ok (.iconst 1, 1) := by decide +kernel
theorem dX2_makeTerm_53 : decode cX2_makeTerm 53 = .ok (.iadd, 1) := by decide +kernel
theorem dX2_makeTerm_54 : decode cX2_makeTerm 54 = .ok (.invokevirtual 76, 3) := by decide +kernel
theorem dX2_makeTerm_57 : decode cX2_makeTerm 57 = .ok (.invokevirtual 76, 3) := by decide +kernel
theorem dX2_makeTerm_60 : decode cX2_makeTerm 60 = .ok (.goto 4, 3) := by decide +kernel
theorem dX2_makeTerm_63 : decode cX2_makeTerm 63 = .ok (.iconst (-1), 1) := by decide +kernel
theorem dX2_makeTerm_64 : decode cX2_makeTerm 64 = .ok (.istore 6, 2) := by decide +kernel
theorem dX2_makeTerm_66 : decode cX2_makeTerm 66 = .ok (.iload 4, 2) := by decide +kernel
theorem dX2_makeTerm_68 : decode cX2_makeTerm 68 = .ok (.iconst 2, 1) := by decide +kernel
theorem dX2_makeTerm_69 : decode cX2_makeTerm 69 = .ok (.if_icmp .le 23, 3) := by decide +kernel
theorem dX2_makeTerm_72 : decode cX2_makeTerm 72 = .ok (.aload_n 0, 1) := by decide +kernel
theorem dX2_makeTerm_73 : decode cX2_makeTerm 73 = .ok (.getfield 58, 3) := by decide +kernel
theorem dX2_makeTerm_76 : decode cX2_makeTerm 76 = .ok (.aload_n 0, 1) := by decide +kernel
theorem dX2_makeTerm_77 : decode cX2_makeTerm 77 = .ok (.getfield 25, 3) := by decide +kernel
theorem dX2_makeTerm_80 : decode cX2_makeTerm 80 = .ok (.iload_n 3, 1) := by decide +kernel
theorem dX2_makeTerm_81 : decode cX2_makeTerm 81 = .ok (.iconst 2, 1) := by decide +kernel
theorem dX2_makeTerm_82 : decode cX2_makeTerm 82 = .ok (.iadd, 1) := by decide +kernel
theorem dX2_makeTerm_83 : decode cX2_makeTerm 83 = .ok (.invokevirtual 76, 3) := by decide +kernel
theorem dX2_makeTerm_86 : decode cX2_makeTerm 86 = .ok (.invokevirtual 76, 3) := by decide +kernel
theorem dX2_makeTerm_89 : decode cX2_makeTerm 89 = .ok (.goto 4, 3) := by decide +kernel
theorem dX2_makeTerm_92 : decode cX2_makeTerm 92 = .ok (.iconst (-1), 1) := by decide +kernel
theorem dX2_makeTerm_93 : decode cX2_makeTerm 93 = .ok (.istore 7, 2) := by decide +kernel
theorem dX2_makeTerm_95 : decode cX2_makeTerm 95 = .ok (.aload_n 2, 1) := by decide +kernel
theorem dX2_makeTerm_96 : decode cX2_makeTerm 96 = .ok (.aload_n 0, 1) := by decide +kernel
theorem dX2_makeTerm_97 : decode cX2_makeTerm 97 = .ok (.getfield 21, 3) := by decide +kernel
theorem dX2_makeTerm_100 : decode cX2_makeTerm 100 = .ok (.iload_n 1, 1) := by decide +kernel
theorem dX2_makeTerm_101 : decode cX2_makeTerm 101 = .ok (.invokevirtual 76, 3) := by decide +kernel
theorem dX2_makeTerm_104 : decode cX2_makeTerm 104 = .ok (.iload 5, 2) := by decide +kernel
theorem dX2_makeTerm_106 : decode cX2_makeTerm 106 = .ok (.iload 6, 2) := by decide +kernel
theorem dX2_makeTerm_108 : decode cX2_makeTerm 108 = .ok (.iload 7, 2) := by decide +kernel
theorem dX2_makeTerm_110 : decode cX2_makeTerm 110 = .ok (.invokevirtual 157, 3) := by decide +kernel
theorem dX2_makeTerm_113 : decode cX2_makeTerm 113 = .ok (.ireturn, 1) := by decide +kernel
theorem dX2_need_0 : decode cX2_need 0 = .ok (.aload_n 0, 1) := by decide +kernel
theorem dX2_need_1 : decode cX2_need 1 = .ok (.getfield 28, 3) := by decide +kernel
theorem dX2_need_4 : decode cX2_need 4 = .ok (.iload_n 1, 1) := by decide +kernel
theorem dX2_need_5 : decode cX2_need 5 = .ok (.iconst 1, 1) := by decide +kernel
theorem dX2_need_6 : decode cX2_need 6 = .ok (.invokevirtual 72, 3) := by decide +kernel
theorem dX2_need_9 : decode cX2_need 9 = .ok (.return_, 1) := by decide +kernel
theorem dX2_needParts_0 : decode cX2_needParts 0 = .ok (.iconst 0, 1) := by decide +kernel
theorem dX2_needParts_1 : decode cX2_needParts 1 = .ok (.istore_n 2, 1) := by decide +kernel
theorem dX2_needParts_2 : decode cX2_needParts 2 = .ok (.iload_n 2, 1) := by decide +kernel
theorem dX2_needParts_3 : decode cX2_needParts 3 = .ok (.aload_n 0, 1) := by decide +kernel
theorem dX2_needParts_4 : decode cX2_needParts 4 = .ok (.iload_n 1, 1) := by decide +kernel
theorem dX2_needParts_5 : decode cX2_needParts 5 = .ok (.invokevirtual 105, 3) := by decide +kernel
theorem dX2_needParts_8 : decode cX2_needParts 8 = .ok (.if_icmp .ge 29, 3) := by decide +kernel
theorem dX2_needParts_11 : decode cX2_needParts 11 = .ok (.aload_n 0, 1) := by decide +kernel
theorem dX2_needParts_12 : decode cX2_needParts 12 = .ok (.getfield 28, 3) := by decide +kernel
theorem dX2_needParts_15 : decode cX2_needParts 15 = .ok (.aload_n 0, 1) := by decide +kernel
theorem dX2_needParts_16 : decode cX2_needParts 16 = .ok (.getfield 25, 3) := by decide +kernel
theorem dX2_needParts_19 : decode cX2_needParts 19 = .ok (.iconst 3, 1) := by decide +kernel
theorem dX2_needParts_20 : decode cX2_needParts 20 = .ok (.iload_n 1, 1) := by decide +kernel
theorem dX2_needParts_21 : decode cX2_needParts 21 = .ok (.imul, 1) := by decide +kernel
theorem dX2_needParts_22 : decode cX2_needParts 22 = .ok (.iload_n 2, 1) := by decide +kernel
theorem dX2_needParts_23 : decode cX2_needParts 23 = .ok (.iadd, 1) := by decide +kernel
