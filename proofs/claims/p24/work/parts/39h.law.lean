theorem dL_left_97 : decode cL_left 97 = .ok (.iload_n 1, 1) := by decide +kernel
theorem dL_left_98 : decode cL_left 98 = .ok (.bipush 9, 2) := by decide +kernel
theorem dL_left_100 : decode cL_left 100 = .ok (.if_icmp .ge 37, 3) := by decide +kernel
theorem dL_left_103 : decode cL_left 103 = .ok (.iload_n 3, 1) := by decide +kernel
theorem dL_left_104 : decode cL_left 104 = .ok (.bipush 20, 2) := by decide +kernel
theorem dL_left_106 : decode cL_left 106 = .ok (.if_icmp .gt 29, 3) := by decide +kernel
theorem dL_left_109 : decode cL_left 109 = .ok (.aload_n 0, 1) := by decide +kernel
theorem dL_left_110 : decode cL_left 110 = .ok (.invokevirtual 43, 3) := by decide +kernel
theorem dL_left_113 : decode cL_left 113 = .ok (.aload 4, 2) := by decide +kernel
theorem dL_left_115 : decode cL_left 115 = .ok (.iconst 0, 1) := by decide +kernel
theorem dL_left_116 : decode cL_left 116 = .ok (.iaload, 1) := by decide +kernel
theorem dL_left_117 : decode cL_left 117 = .ok (.if_icmp .ne 18, 3) := by decide +kernel
theorem dL_left_120 : decode cL_left 120 = .ok (.aload_n 0, 1) := by decide +kernel
theorem dL_left_121 : decode cL_left 121 = .ok (.invokevirtual 47, 3) := by decide +kernel
theorem dL_left_124 : decode cL_left 124 = .ok (.aload 4, 2) := by decide +kernel
theorem dL_left_126 : decode cL_left 126 = .ok (.iconst 1, 1) := by decide +kernel
theorem dL_left_127 : decode cL_left 127 = .ok (.iaload, 1) := by decide +kernel
theorem dL_left_128 : decode cL_left 128 = .ok (.if_icmp .ne 7, 3) := by decide +kernel
theorem dL_left_131 : decode cL_left 131 = .ok (.iconst 1, 1) := by decide +kernel
theorem dL_left_132 : decode cL_left 132 = .ok (.goto 4, 3) := by decide +kernel
theorem dL_left_135 : decode cL_left 135 = .ok (.iconst 0, 1) := by decide +kernel
theorem dL_left_136 : decode cL_left 136 = .ok (.ireturn, 1) := by decide +kernel
theorem dL_left_137 : decode cL_left 137 = .ok (.iload_n 1, 1) := by decide +kernel
theorem dL_left_138 : decode cL_left 138 = .ok (.bipush 9, 2) := by decide +kernel
theorem dL_left_140 : decode cL_left 140 = .ok (.if_icmp .ne 35, 3) := by decide +kernel
theorem dL_left_143 : decode cL_left 143 = .ok (.aload_n 0, 1) := by decide +kernel
theorem dL_left_144 : decode cL_left 144 = .ok (.invokevirtual 43, 3) := by decide +kernel
theorem dL_left_147 : decode cL_left 147 = .ok (.aload 4, 2) := by decide +kernel
theorem dL_left_149 : decode cL_left 149 = .ok (.iconst 0, 1) := by decide +kernel
theorem dL_left_150 : decode cL_left 150 = .ok (.iaload, 1) := by decide +kernel
theorem dL_left_151 : decode cL_left 151 = .ok (.iload_n 2, 1) := by decide +kernel
theorem dL_left_152 : decode cL_left 152 = .ok (.bipush 30, 2) := by decide +kernel
theorem dL_left_154 : decode cL_left 154 = .ok (.invokestatic 90, 3) := by decide +kernel
theorem dL_left_157 : decode cL_left 157 = .ok (.iadd, 1) := by decide +kernel
theorem dL_left_158 : decode cL_left 158 = .ok (.if_icmp .ne 15, 3) := by decide +kernel
theorem dL_left_161 : decode cL_left 161 = .ok (.iload_n 3, 1) := by decide +kernel
theorem dL_left_162 : decode cL_left 162 = .ok (.aload 4, 2) := by decide +kernel
theorem dL_left_164 : decode cL_left 164 = .ok (.iconst 1, 1) := by decide +kernel
theorem dL_left_165 : decode cL_left 165 = .ok (.iaload, 1) := by decide +kernel
theorem dL_left_166 : decode cL_left 166 = .ok (.if_icmp .gt 7, 3) := by decide +kernel
theorem dL_left_169 : decode cL_left 169 = .ok (.iconst 1, 1) := by decide +kernel
theorem dL_left_170 : decode cL_left 170 = .ok (.goto 4, 3) := by decide +kernel
theorem dL_left_173 : decode cL_left 173 = .ok (.iconst 0, 1) := by decide +kernel
theorem dL_left_174 : decode cL_left 174 = .ok (.ireturn, 1) := by decide +kernel
theorem dL_left_175 : decode cL_left 175 = .ok (.iload_n 1, 1) := by decide +kernel
theorem dL_left_176 : decode cL_left 176 = .ok (.bipush 10, 2) := by decide +kernel
theorem dL_left_178 : decode cL_left 178 = .ok (.if_icmp .ne 22, 3) := by decide +kernel
theorem dL_left_181 : decode cL_left 181 = .ok (.iload_n 3, 1) := by decide +kernel
theorem dL_left_182 : decode cL_left 182 = .ok (.iconst 1, 1) := by decide +kernel
theorem dL_left_183 : decode cL_left 183 = .ok (.if_icmp .lt 13, 3) := by decide +kernel
theorem dL_left_186 : decode cL_left 186 = .ok (.iload_n 3, 1) := by decide +kernel
theorem dL_left_187 : decode cL_left 187 = .ok (.bipush 8, 2) := by decide +kernel
theorem dL_left_189 : decode cL_left 189 = .ok (.if_icmp .gt 7, 3) := by decide +kernel
theorem dL_left_192 : decode cL_left 192 = .ok (.iconst 1, 1) := by decide +kernel
theorem dL_left_193 : decode cL_left 193 = .ok (.goto 23, 3) := by decide +kernel
theorem dL_left_196 : decode cL_left 196 = .ok (.iconst 0, 1) := by decide +kernel
theorem dL_left_197 : decode cL_left 197 = .ok (.goto 19, 3) := by decide +kernel
theorem dL_left_200 : decode cL_left 200 = .ok (.iload_n 3, 1) := by decide +kernel
theorem dL_left_201 : decode cL_left 201 = .ok (.iconst 1, 1) := by decide +kernel
theorem dL_left_202 : decode cL_left 202 = .ok (.if_icmp .lt 13, 3) := by decide +kernel
theorem dL_left_205 : decode cL_left 205 = .ok (.iload_n 3, 1) := by decide +kernel
theorem dL_left_206 : decode cL_left 206 = .ok (.bipush 30, 2) := by decide +kernel
theorem dL_left_208 : decode cL_left 208 = .ok (.if_icmp .gt 7, 3) := by decide +kernel
theorem dL_left_211 : decode cL_left 211 = .ok (.iconst 1, 1) := by decide +kernel
theorem dL_left_212 : decode cL_left 212 = .ok (.goto 4, 3) := by decide +kernel
theorem dL_left_215 : decode cL_left 215 = .ok (.iconst 0, 1) := by decide +kernel
theorem dL_left_216 : decode cL_left 216 = .ok (.ireturn, 1) := by decide +kernel
theorem dL_deliveries_0 : decode cL_deliveries 0 = .ok (.iconst 0, 1) := by decide +kernel
theorem dL_deliveries_1 : decode cL_deliveries 1 = .ok (.istore_n 1, 1) := by decide +kernel
theorem dL_deliveries_2 : decode cL_deliveries 2 = .ok (.iconst 0, 1) := by decide +kernel
theorem dL_deliveries_3 : decode cL_deliveries 3 = .ok (.istore_n 2, 1) := by decide +kernel
theorem dL_deliveries_4 : decode cL_deliveries 4 = .ok (.iload_n 2, 1) := by decide +kernel
theorem dL_deliveries_5 : decode cL_deliveries 5 = .ok (.aload_n 0, 1) := by decide +kernel
theorem dL_deliveries_6 : decode cL_deliveries 6 = .ok (.invokevirtual 47, 3) := by decide +kernel
theorem dL_deliveries_9 : decode cL_deliveries 9 = .ok (.if_icmp .ge 25, 3) := by decide +kernel
theorem dL_deliveries_12 : decode cL_deliveries 12 = .ok (.iload_n 1, 1) := by decide +kernel
theorem dL_deliveries_13 : decode cL_deliveries 13 = .ok (.aload_n 0, 1) := by decide +kernel
theorem dL_deliveries_14 : decode cL_deliveries 14 = .ok (.iload_n 2, 1) := by decide +kernel
theorem dL_deliveries_15 : decode cL_deliveries 15 = .ok (.invokevirtual 72, 3) := by decide +kernel
theorem dL_deliveries_18 : decode cL_deliveries 18 = .ok (.ifCond .ge 7, 3) := by decide +kernel
theorem dL_deliveries_21 : decode cL_deliveries 21 = .ok (.iconst 0, 1) := by decide +kernel
theorem dL_deliveries_22 : decode cL_deliveries 22 = .ok (.goto 4, 3) := by decide +kernel
theorem dL_deliveries_25 : decode cL_deliveries 25 = .ok (.iconst 1, 1) := by decide +kernel
theorem dL_deliveries_26 : decode cL_deliveries 26 = .ok (.iadd, 1) := by decide +kernel
theorem dL_deliveries_27 : decode cL_deliveries 27 = .ok (.istore_n 1, 1) := by decide +kernel
theorem dL_deliveries_28 : decode cL_deliveries 28 = .ok (.iinc 2 1, 3) := by decide +kernel
theorem dL_deliveries_31 : decode cL_deliveries 31 = .ok (.goto (-27), 3) := by decide +kernel
theorem dL_deliveries_34 : decode cL_deliveries 34 = .ok (.iload_n 1, 1) := by decide +kernel
theorem dL_deliveries_35 : decode cL_deliveries 35 = .ok (.ireturn, 1) := by decide +kernel
theorem dL_again_0 : decode cL_again 0 = .ok (.iload_n 1, 1) := by decide +kernel
theorem dL_again_1 : decode cL_again 1 = .ok (.bipush 8, 2) := by decide +kernel
theorem dL_again_3 : decode cL_again 3 = .ok (.invokestatic 90, 3) := by decide +kernel
theorem dL_again_6 : decode cL_again 6 = .ok (.istore_n 2, 1) := by decide +kernel
theorem dL_again_7 : decode cL_again 7 = .ok (.iload_n 2, 1) := by decide +kernel
theorem dL_again_8 : decode cL_again 8 = .ok (.iconst 1, 1) := by decide +kernel
theorem dL_again_9 : decode cL_again 9 = .ok (.iadd, 1) := by decide +kernel
theorem dL_again_10 : decode cL_again 10 = .ok (.iload_n 1, 1) := by decide +kernel
theorem dL_again_11 : decode cL_again 11 = .ok (.iconst 3, 1) := by decide +kernel
theorem dL_again_12 : decode cL_again 12 = .ok (.ishr, 1) := by decide +kernel
theorem dL_again_13 : decode cL_again 13 = .ok (.bipush 7, 2) := by decide +kernel
theorem dL_again_15 : decode cL_again 15 = .ok (.invokestatic 90, 3) := by decide +kernel
theorem dL_again_18 : decode cL_again 18 = .ok (.iadd, 1) := by decide +kernel
theorem dL_again_19 : decode cL_again 19 = .ok (.bipush 8, 2) := by decide +kernel
theorem dL_again_21 : decode cL_again 21 = .ok (.irem, 1) := by decide +kernel
theorem dL_again_22 : decode cL_again 22 = .ok (.istore_n 3, 1) := by decide +kernel
theorem dL_again_23 : decode cL_again 23 = .ok (.aload_n 0, 1) := by decide +kernel
theorem dL_again_24 : decode cL_again 24 = .ok (.iload_n 2, 1) := by decide +kernel
theorem dL_again_25 : decode cL_again 25 = .ok (.iload_n 3, 1) := by decide +kernel
theorem dL_again_26 : decode cL_again 26 = .ok (.bipush 20, 2) := by decide +kernel
theorem dL_again_28 : decode cL_again 28 = .ok (.invokestatic 99, 3) := by decide +kernel
