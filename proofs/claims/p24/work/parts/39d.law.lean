theorem dL_bundles_74 : decode cL_bundles 74 = .ok (.iload_n 2, 1) := by decide +kernel
theorem dL_bundles_75 : decode cL_bundles 75 = .ok (.invokevirtual 65, 3) := by decide +kernel
theorem dL_bundles_78 : decode cL_bundles 78 = .ok (.ior, 1) := by decide +kernel
theorem dL_bundles_79 : decode cL_bundles 79 = .ok (.istore 6, 2) := by decide +kernel
theorem dL_bundles_81 : decode cL_bundles 81 = .ok (.iload 8, 2) := by decide +kernel
theorem dL_bundles_83 : decode cL_bundles 83 = .ok (.ifCond .le 15, 3) := by decide +kernel
theorem dL_bundles_86 : decode cL_bundles 86 = .ok (.aload_n 0, 1) := by decide +kernel
theorem dL_bundles_87 : decode cL_bundles 87 = .ok (.iload 7, 2) := by decide +kernel
theorem dL_bundles_89 : decode cL_bundles 89 = .ok (.iload_n 2, 1) := by decide +kernel
theorem dL_bundles_90 : decode cL_bundles 90 = .ok (.invokevirtual 65, 3) := by decide +kernel
theorem dL_bundles_93 : decode cL_bundles 93 = .ok (.ifCond .eq 5, 3) := by decide +kernel
theorem dL_bundles_96 : decode cL_bundles 96 = .ok (.iconst 0, 1) := by decide +kernel
theorem dL_bundles_97 : decode cL_bundles 97 = .ok (.ireturn, 1) := by decide +kernel
theorem dL_bundles_98 : decode cL_bundles 98 = .ok (.iinc 7 1, 3) := by decide +kernel
theorem dL_bundles_101 : decode cL_bundles 101 = .ok (.goto (-73), 3) := by decide +kernel
theorem dL_bundles_104 : decode cL_bundles 104 = .ok (.aload_n 0, 1) := by decide +kernel
theorem dL_bundles_105 : decode cL_bundles 105 = .ok (.iload_n 2, 1) := by decide +kernel
theorem dL_bundles_106 : decode cL_bundles 106 = .ok (.invokevirtual 37, 3) := by decide +kernel
theorem dL_bundles_109 : decode cL_bundles 109 = .ok (.aload_n 0, 1) := by decide +kernel
theorem dL_bundles_110 : decode cL_bundles 110 = .ok (.invokevirtual 43, 3) := by decide +kernel
theorem dL_bundles_113 : decode cL_bundles 113 = .ok (.if_icmp .gt 7, 3) := by decide +kernel
theorem dL_bundles_116 : decode cL_bundles 116 = .ok (.iconst 1, 1) := by decide +kernel
theorem dL_bundles_117 : decode cL_bundles 117 = .ok (.goto 4, 3) := by decide +kernel
theorem dL_bundles_120 : decode cL_bundles 120 = .ok (.iconst 0, 1) := by decide +kernel
theorem dL_bundles_121 : decode cL_bundles 121 = .ok (.istore 7, 2) := by decide +kernel
theorem dL_bundles_123 : decode cL_bundles 123 = .ok (.aload_n 0, 1) := by decide +kernel
theorem dL_bundles_124 : decode cL_bundles 124 = .ok (.iload_n 2, 1) := by decide +kernel
theorem dL_bundles_125 : decode cL_bundles 125 = .ok (.invokevirtual 72, 3) := by decide +kernel
theorem dL_bundles_128 : decode cL_bundles 128 = .ok (.ifCond .lt 7, 3) := by decide +kernel
theorem dL_bundles_131 : decode cL_bundles 131 = .ok (.iconst 1, 1) := by decide +kernel
theorem dL_bundles_132 : decode cL_bundles 132 = .ok (.goto 4, 3) := by decide +kernel
theorem dL_bundles_135 : decode cL_bundles 135 = .ok (.iconst 0, 1) := by decide +kernel
theorem dL_bundles_136 : decode cL_bundles 136 = .ok (.istore 8, 2) := by decide +kernel
theorem dL_bundles_138 : decode cL_bundles 138 = .ok (.iload 5, 2) := by decide +kernel
theorem dL_bundles_140 : decode cL_bundles 140 = .ok (.aload_n 0, 1) := by decide +kernel
theorem dL_bundles_141 : decode cL_bundles 141 = .ok (.iload_n 2, 1) := by decide +kernel
theorem dL_bundles_142 : decode cL_bundles 142 = .ok (.invokevirtual 81, 3) := by decide +kernel
theorem dL_bundles_145 : decode cL_bundles 145 = .ok (.if_icmp .ne 46, 3) := by decide +kernel
theorem dL_bundles_148 : decode cL_bundles 148 = .ok (.iload 4, 2) := by decide +kernel
theorem dL_bundles_150 : decode cL_bundles 150 = .ok (.aload_n 1, 1) := by decide +kernel
theorem dL_bundles_151 : decode cL_bundles 151 = .ok (.iload_n 2, 1) := by decide +kernel
theorem dL_bundles_152 : decode cL_bundles 152 = .ok (.iaload, 1) := by decide +kernel
theorem dL_bundles_153 : decode cL_bundles 153 = .ok (.if_icmp .gt 38, 3) := by decide +kernel
theorem dL_bundles_156 : decode cL_bundles 156 = .ok (.iload 6, 2) := by decide +kernel
theorem dL_bundles_158 : decode cL_bundles 158 = .ok (.iload 8, 2) := by decide +kernel
theorem dL_bundles_160 : decode cL_bundles 160 = .ok (.if_icmp .ne 31, 3) := by decide +kernel
theorem dL_bundles_163 : decode cL_bundles 163 = .ok (.iload_n 3, 1) := by decide +kernel
theorem dL_bundles_164 : decode cL_bundles 164 = .ok (.ifCond .lt 12, 3) := by decide +kernel
theorem dL_bundles_167 : decode cL_bundles 167 = .ok (.iload 5, 2) := by decide +kernel
theorem dL_bundles_169 : decode cL_bundles 169 = .ok (.iload_n 3, 1) := by decide +kernel
theorem dL_bundles_170 : decode cL_bundles 170 = .ok (.ishr, 1) := by decide +kernel
theorem dL_bundles_171 : decode cL_bundles 171 = .ok (.iconst 1, 1) := by decide +kernel
theorem dL_bundles_172 : decode cL_bundles 172 = .ok (.iand, 1) := by decide +kernel
theorem dL_bundles_173 : decode cL_bundles 173 = .ok (.ifCond .eq 18, 3) := by decide +kernel
theorem dL_bundles_176 : decode cL_bundles 176 = .ok (.iload 7, 2) := by decide +kernel
theorem dL_bundles_178 : decode cL_bundles 178 = .ok (.ifCond .eq 15, 3) := by decide +kernel
theorem dL_bundles_181 : decode cL_bundles 181 = .ok (.iload 5, 2) := by decide +kernel
theorem dL_bundles_183 : decode cL_bundles 183 = .ok (.ifCond .ne 8, 3) := by decide +kernel
theorem dL_bundles_186 : decode cL_bundles 186 = .ok (.iload_n 3, 1) := by decide +kernel
theorem dL_bundles_187 : decode cL_bundles 187 = .ok (.iconst (-1), 1) := by decide +kernel
theorem dL_bundles_188 : decode cL_bundles 188 = .ok (.if_icmp .eq 5, 3) := by decide +kernel
theorem dL_bundles_191 : decode cL_bundles 191 = .ok (.iconst 0, 1) := by decide +kernel
theorem dL_bundles_192 : decode cL_bundles 192 = .ok (.ireturn, 1) := by decide +kernel
theorem dL_bundles_193 : decode cL_bundles 193 = .ok (.iload 8, 2) := by decide +kernel
theorem dL_bundles_195 : decode cL_bundles 195 = .ok (.ifCond .ne 12, 3) := by decide +kernel
theorem dL_bundles_198 : decode cL_bundles 198 = .ok (.iload 7, 2) := by decide +kernel
theorem dL_bundles_200 : decode cL_bundles 200 = .ok (.ifCond .ne 7, 3) := by decide +kernel
theorem dL_bundles_203 : decode cL_bundles 203 = .ok (.iload_n 3, 1) := by decide +kernel
theorem dL_bundles_204 : decode cL_bundles 204 = .ok (.ifCond .lt 46, 3) := by decide +kernel
theorem dL_bundles_207 : decode cL_bundles 207 = .ok (.aload_n 0, 1) := by decide +kernel
theorem dL_bundles_208 : decode cL_bundles 208 = .ok (.iload_n 2, 1) := by decide +kernel
theorem dL_bundles_209 : decode cL_bundles 209 = .ok (.invokevirtual 75, 3) := by decide +kernel
theorem dL_bundles_212 : decode cL_bundles 212 = .ok (.ifCond .le 7, 3) := by decide +kernel
theorem dL_bundles_215 : decode cL_bundles 215 = .ok (.iconst 1, 1) := by decide +kernel
theorem dL_bundles_216 : decode cL_bundles 216 = .ok (.goto 4, 3) := by decide +kernel
theorem dL_bundles_219 : decode cL_bundles 219 = .ok (.iconst 0, 1) := by decide +kernel
theorem dL_bundles_220 : decode cL_bundles 220 = .ok (.iload 8, 2) := by decide +kernel
theorem dL_bundles_222 : decode cL_bundles 222 = .ok (.if_icmp .ne 28, 3) := by decide +kernel
theorem dL_bundles_225 : decode cL_bundles 225 = .ok (.aload_n 0, 1) := by decide +kernel
theorem dL_bundles_226 : decode cL_bundles 226 = .ok (.iload_n 2, 1) := by decide +kernel
theorem dL_bundles_227 : decode cL_bundles 227 = .ok (.invokevirtual 72, 3) := by decide +kernel
theorem dL_bundles_230 : decode cL_bundles 230 = .ok (.aload_n 0, 1) := by decide +kernel
theorem dL_bundles_231 : decode cL_bundles 231 = .ok (.iload_n 2, 1) := by decide +kernel
theorem dL_bundles_232 : decode cL_bundles 232 = .ok (.invokevirtual 37, 3) := by decide +kernel
theorem dL_bundles_235 : decode cL_bundles 235 = .ok (.if_icmp .ge 15, 3) := by decide +kernel
theorem dL_bundles_238 : decode cL_bundles 238 = .ok (.aload_n 0, 1) := by decide +kernel
theorem dL_bundles_239 : decode cL_bundles 239 = .ok (.iload_n 2, 1) := by decide +kernel
theorem dL_bundles_240 : decode cL_bundles 240 = .ok (.invokevirtual 72, 3) := by decide +kernel
theorem dL_bundles_243 : decode cL_bundles 243 = .ok (.aload_n 0, 1) := by decide +kernel
theorem dL_bundles_244 : decode cL_bundles 244 = .ok (.invokevirtual 43, 3) := by decide +kernel
theorem dL_bundles_247 : decode cL_bundles 247 = .ok (.if_icmp .le 5, 3) := by decide +kernel
theorem dL_bundles_250 : decode cL_bundles 250 = .ok (.iconst 0, 1) := by decide +kernel
theorem dL_bundles_251 : decode cL_bundles 251 = .ok (.ireturn, 1) := by decide +kernel
theorem dL_bundles_252 : decode cL_bundles 252 = .ok (.iinc 2 1, 3) := by decide +kernel
theorem dL_bundles_255 : decode cL_bundles 255 = .ok (.goto (-253), 3) := by decide +kernel
theorem dL_bundles_258 : decode cL_bundles 258 = .ok (.iconst 1, 1) := by decide +kernel
theorem dL_bundles_259 : decode cL_bundles 259 = .ok (.ireturn, 1) := by decide +kernel
theorem dL_buffers_0 : decode cL_buffers 0 = .ok (.iconst 0, 1) := by decide +kernel
theorem dL_buffers_1 : decode cL_buffers 1 = .ok (.istore_n 2, 1) := by decide +kernel
theorem dL_buffers_2 : decode cL_buffers 2 = .ok (.iload_n 2, 1) := by decide +kernel
theorem dL_buffers_3 : decode cL_buffers 3 = .ok (.bipush 8, 2) := by decide +kernel
theorem dL_buffers_5 : decode cL_buffers 5 = .ok (.if_icmp .ge 165, 3) := by decide +kernel
theorem dL_buffers_8 : decode cL_buffers 8 = .ok (.iconst 0, 1) := by decide +kernel
theorem dL_buffers_9 : decode cL_buffers 9 = .ok (.istore_n 3, 1) := by decide +kernel
theorem dL_buffers_10 : decode cL_buffers 10 = .ok (.iconst 0, 1) := by decide +kernel
theorem dL_buffers_11 : decode cL_buffers 11 = .ok (.istore 4, 2) := by decide +kernel
theorem dL_buffers_13 : decode cL_buffers 13 = .ok (.iconst 0, 1) := by decide +kernel
theorem dL_buffers_14 : decode cL_buffers 14 = .ok (.istore 5, 2) := by decide +kernel
theorem dL_buffers_16 : decode cL_buffers 16 = .ok (.iload 5, 2) := by decide +kernel
theorem dL_buffers_18 : decode cL_buffers 18 = .ok (.aload_n 0, 1) := by decide +kernel
