theorem dL_act_116 : decode cL_act 116 = .ok (.bipush 22, 2) := by decide +kernel
theorem dL_act_118 : decode cL_act 118 = .ok (.invokestatic 90, 3) := by decide +kernel
theorem dL_act_121 : decode cL_act 121 = .ok (.invokestatic 99, 3) := by decide +kernel
theorem dL_act_124 : decode cL_act 124 = .ok (.ireturn, 1) := by decide +kernel
theorem dL_act_125 : decode cL_act 125 = .ok (.iload_n 1, 1) := by decide +kernel
theorem dL_act_126 : decode cL_act 126 = .ok (.bipush 9, 2) := by decide +kernel
theorem dL_act_128 : decode cL_act 128 = .ok (.if_icmp .ne 14, 3) := by decide +kernel
theorem dL_act_131 : decode cL_act 131 = .ok (.aload_n 0, 1) := by decide +kernel
theorem dL_act_132 : decode cL_act 132 = .ok (.iload_n 2, 1) := by decide +kernel
theorem dL_act_133 : decode cL_act 133 = .ok (.bipush 30, 2) := by decide +kernel
theorem dL_act_135 : decode cL_act 135 = .ok (.invokestatic 90, 3) := by decide +kernel
theorem dL_act_138 : decode cL_act 138 = .ok (.invokestatic 102, 3) := by decide +kernel
theorem dL_act_141 : decode cL_act 141 = .ok (.ireturn, 1) := by decide +kernel
theorem dL_act_142 : decode cL_act 142 = .ok (.iload_n 1, 1) := by decide +kernel
theorem dL_act_143 : decode cL_act 143 = .ok (.bipush 10, 2) := by decide +kernel
theorem dL_act_145 : decode cL_act 145 = .ok (.if_icmp .ne 42, 3) := by decide +kernel
theorem dL_act_148 : decode cL_act 148 = .ok (.aload_n 0, 1) := by decide +kernel
theorem dL_act_149 : decode cL_act 149 = .ok (.iload 5, 2) := by decide +kernel
theorem dL_act_151 : decode cL_act 151 = .ok (.iload_n 2, 1) := by decide +kernel
theorem dL_act_152 : decode cL_act 152 = .ok (.bipush 8, 2) := by decide +kernel
theorem dL_act_154 : decode cL_act 154 = .ok (.ishr, 1) := by decide +kernel
theorem dL_act_155 : decode cL_act 155 = .ok (.bipush 9, 2) := by decide +kernel
theorem dL_act_157 : decode cL_act 157 = .ok (.invokestatic 90, 3) := by decide +kernel
theorem dL_act_160 : decode cL_act 160 = .ok (.invokestatic 105, 3) := by decide +kernel
theorem dL_act_163 : decode cL_act 163 = .ok (.istore 7, 2) := by decide +kernel
theorem dL_act_165 : decode cL_act 165 = .ok (.iload 7, 2) := by decide +kernel
theorem dL_act_167 : decode cL_act 167 = .ok (.ifCond .lt 17, 3) := by decide +kernel
theorem dL_act_170 : decode cL_act 170 = .ok (.aload 4, 2) := by decide +kernel
theorem dL_act_172 : decode cL_act 172 = .ok (.iload 5, 2) := by decide +kernel
theorem dL_act_174 : decode cL_act 174 = .ok (.iload_n 2, 1) := by decide +kernel
theorem dL_act_175 : decode cL_act 175 = .ok (.bipush 8, 2) := by decide +kernel
theorem dL_act_177 : decode cL_act 177 = .ok (.ishr, 1) := by decide +kernel
theorem dL_act_178 : decode cL_act 178 = .ok (.bipush 9, 2) := by decide +kernel
theorem dL_act_180 : decode cL_act 180 = .ok (.invokestatic 90, 3) := by decide +kernel
theorem dL_act_183 : decode cL_act 183 = .ok (.iastore, 1) := by decide +kernel
theorem dL_act_184 : decode cL_act 184 = .ok (.iload 7, 2) := by decide +kernel
theorem dL_act_186 : decode cL_act 186 = .ok (.ireturn, 1) := by decide +kernel
theorem dL_act_187 : decode cL_act 187 = .ok (.iload_n 2, 1) := by decide +kernel
theorem dL_act_188 : decode cL_act 188 = .ok (.bipush 7, 2) := by decide +kernel
theorem dL_act_190 : decode cL_act 190 = .ok (.ishr, 1) := by decide +kernel
theorem dL_act_191 : decode cL_act 191 = .ok (.bipush 90, 2) := by decide +kernel
theorem dL_act_193 : decode cL_act 193 = .ok (.invokestatic 90, 3) := by decide +kernel
theorem dL_act_196 : decode cL_act 196 = .ok (.istore 7, 2) := by decide +kernel
theorem dL_act_198 : decode cL_act 198 = .ok (.aload_n 0, 1) := by decide +kernel
theorem dL_act_199 : decode cL_act 199 = .ok (.iload 5, 2) := by decide +kernel
theorem dL_act_201 : decode cL_act 201 = .ok (.iload 6, 2) := by decide +kernel
theorem dL_act_203 : decode cL_act 203 = .ok (.iload 7, 2) := by decide +kernel
theorem dL_act_205 : decode cL_act 205 = .ok (.iload 7, 2) := by decide +kernel
theorem dL_act_207 : decode cL_act 207 = .ok (.iconst 1, 1) := by decide +kernel
theorem dL_act_208 : decode cL_act 208 = .ok (.isub, 1) := by decide +kernel
theorem dL_act_209 : decode cL_act 209 = .ok (.iload_n 2, 1) := by decide +kernel
theorem dL_act_210 : decode cL_act 210 = .ok (.bipush 14, 2) := by decide +kernel
theorem dL_act_212 : decode cL_act 212 = .ok (.ishr, 1) := by decide +kernel
theorem dL_act_213 : decode cL_act 213 = .ok (.bipush 25, 2) := by decide +kernel
theorem dL_act_215 : decode cL_act 215 = .ok (.invokestatic 90, 3) := by decide +kernel
theorem dL_act_218 : decode cL_act 218 = .ok (.iadd, 1) := by decide +kernel
theorem dL_act_219 : decode cL_act 219 = .ok (.invokestatic 108, 3) := by decide +kernel
theorem dL_act_222 : decode cL_act 222 = .ok (.ireturn, 1) := by decide +kernel
theorem dL_left_0 : decode cL_left 0 = .ok (.iload_n 1, 1) := by decide +kernel
theorem dL_left_1 : decode cL_left 1 = .ok (.iconst 4, 1) := by decide +kernel
theorem dL_left_2 : decode cL_left 2 = .ok (.if_icmp .ge 95, 3) := by decide +kernel
theorem dL_left_5 : decode cL_left 5 = .ok (.aload_n 0, 1) := by decide +kernel
theorem dL_left_6 : decode cL_left 6 = .ok (.invokevirtual 47, 3) := by decide +kernel
theorem dL_left_9 : decode cL_left 9 = .ok (.iconst 1, 1) := by decide +kernel
theorem dL_left_10 : decode cL_left 10 = .ok (.isub, 1) := by decide +kernel
theorem dL_left_11 : decode cL_left 11 = .ok (.istore 5, 2) := by decide +kernel
theorem dL_left_13 : decode cL_left 13 = .ok (.iload_n 3, 1) := by decide +kernel
theorem dL_left_14 : decode cL_left 14 = .ok (.aload 4, 2) := by decide +kernel
theorem dL_left_16 : decode cL_left 16 = .ok (.iconst 1, 1) := by decide +kernel
theorem dL_left_17 : decode cL_left 17 = .ok (.iaload, 1) := by decide +kernel
theorem dL_left_18 : decode cL_left 18 = .ok (.if_icmp .ne 77, 3) := by decide +kernel
theorem dL_left_21 : decode cL_left 21 = .ok (.iload 5, 2) := by decide +kernel
theorem dL_left_23 : decode cL_left 23 = .ok (.iload_n 3, 1) := by decide +kernel
theorem dL_left_24 : decode cL_left 24 = .ok (.if_icmp .ne 71, 3) := by decide +kernel
theorem dL_left_27 : decode cL_left 27 = .ok (.aload_n 0, 1) := by decide +kernel
theorem dL_left_28 : decode cL_left 28 = .ok (.iload 5, 2) := by decide +kernel
theorem dL_left_30 : decode cL_left 30 = .ok (.invokevirtual 69, 3) := by decide +kernel
theorem dL_left_33 : decode cL_left 33 = .ok (.iload_n 2, 1) := by decide +kernel
theorem dL_left_34 : decode cL_left 34 = .ok (.bipush 9, 2) := by decide +kernel
theorem dL_left_36 : decode cL_left 36 = .ok (.invokestatic 90, 3) := by decide +kernel
theorem dL_left_39 : decode cL_left 39 = .ok (.if_icmp .ne 56, 3) := by decide +kernel
theorem dL_left_42 : decode cL_left 42 = .ok (.aload_n 0, 1) := by decide +kernel
theorem dL_left_43 : decode cL_left 43 = .ok (.iload 5, 2) := by decide +kernel
theorem dL_left_45 : decode cL_left 45 = .ok (.invokevirtual 81, 3) := by decide +kernel
theorem dL_left_48 : decode cL_left 48 = .ok (.iconst 1, 1) := by decide +kernel
theorem dL_left_49 : decode cL_left 49 = .ok (.iload_n 2, 1) := by decide +kernel
theorem dL_left_50 : decode cL_left 50 = .ok (.bipush 9, 2) := by decide +kernel
theorem dL_left_52 : decode cL_left 52 = .ok (.invokestatic 90, 3) := by decide +kernel
theorem dL_left_55 : decode cL_left 55 = .ok (.ishl, 1) := by decide +kernel
theorem dL_left_56 : decode cL_left 56 = .ok (.if_icmp .ne 39, 3) := by decide +kernel
theorem dL_left_59 : decode cL_left 59 = .ok (.aload_n 0, 1) := by decide +kernel
theorem dL_left_60 : decode cL_left 60 = .ok (.iload 5, 2) := by decide +kernel
theorem dL_left_62 : decode cL_left 62 = .ok (.invokevirtual 72, 3) := by decide +kernel
theorem dL_left_65 : decode cL_left 65 = .ok (.iconst (-1), 1) := by decide +kernel
theorem dL_left_66 : decode cL_left 66 = .ok (.if_icmp .ne 29, 3) := by decide +kernel
theorem dL_left_69 : decode cL_left 69 = .ok (.aload_n 0, 1) := by decide +kernel
theorem dL_left_70 : decode cL_left 70 = .ok (.iload 5, 2) := by decide +kernel
theorem dL_left_72 : decode cL_left 72 = .ok (.invokevirtual 75, 3) := by decide +kernel
theorem dL_left_75 : decode cL_left 75 = .ok (.ifCond .ne 20, 3) := by decide +kernel
theorem dL_left_78 : decode cL_left 78 = .ok (.aload_n 0, 1) := by decide +kernel
theorem dL_left_79 : decode cL_left 79 = .ok (.iload 5, 2) := by decide +kernel
theorem dL_left_81 : decode cL_left 81 = .ok (.iconst 1, 1) := by decide +kernel
theorem dL_left_82 : decode cL_left 82 = .ok (.iadd, 1) := by decide +kernel
theorem dL_left_83 : decode cL_left 83 = .ok (.invokestatic 112, 3) := by decide +kernel
theorem dL_left_86 : decode cL_left 86 = .ok (.bipush (-2), 2) := by decide +kernel
theorem dL_left_88 : decode cL_left 88 = .ok (.if_icmp .ne 7, 3) := by decide +kernel
theorem dL_left_91 : decode cL_left 91 = .ok (.iconst 1, 1) := by decide +kernel
theorem dL_left_92 : decode cL_left 92 = .ok (.goto 4, 3) := by decide +kernel
theorem dL_left_95 : decode cL_left 95 = .ok (.iconst 0, 1) := by decide +kernel
theorem dL_left_96 : decode cL_left 96 = .ok (.ireturn, 1) := by decide +kernel
