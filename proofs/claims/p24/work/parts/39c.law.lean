theorem dL_tell_172 : decode cL_tell 172 = .ok (.aload_n 1, 1) := by decide +kernel
theorem dL_tell_173 : decode cL_tell 173 = .ok (.bipush 43, 2) := by decide +kernel
theorem dL_tell_175 : decode cL_tell 175 = .ok (.iaload, 1) := by decide +kernel
theorem dL_tell_176 : decode cL_tell 176 = .ok (.imul, 1) := by decide +kernel
theorem dL_tell_177 : decode cL_tell 177 = .ok (.aload_n 0, 1) := by decide +kernel
theorem dL_tell_178 : decode cL_tell 178 = .ok (.iload_n 2, 1) := by decide +kernel
theorem dL_tell_179 : decode cL_tell 179 = .ok (.invokevirtual 72, 3) := by decide +kernel
theorem dL_tell_182 : decode cL_tell 182 = .ok (.iadd, 1) := by decide +kernel
theorem dL_tell_183 : decode cL_tell 183 = .ok (.iastore, 1) := by decide +kernel
theorem dL_tell_184 : decode cL_tell 184 = .ok (.aload_n 1, 1) := by decide +kernel
theorem dL_tell_185 : decode cL_tell 185 = .ok (.bipush 44, 2) := by decide +kernel
theorem dL_tell_187 : decode cL_tell 187 = .ok (.bipush 31, 2) := by decide +kernel
theorem dL_tell_189 : decode cL_tell 189 = .ok (.aload_n 1, 1) := by decide +kernel
theorem dL_tell_190 : decode cL_tell 190 = .ok (.bipush 44, 2) := by decide +kernel
theorem dL_tell_192 : decode cL_tell 192 = .ok (.iaload, 1) := by decide +kernel
theorem dL_tell_193 : decode cL_tell 193 = .ok (.imul, 1) := by decide +kernel
theorem dL_tell_194 : decode cL_tell 194 = .ok (.aload_n 0, 1) := by decide +kernel
theorem dL_tell_195 : decode cL_tell 195 = .ok (.iload_n 2, 1) := by decide +kernel
theorem dL_tell_196 : decode cL_tell 196 = .ok (.invokevirtual 75, 3) := by decide +kernel
theorem dL_tell_199 : decode cL_tell 199 = .ok (.iadd, 1) := by decide +kernel
theorem dL_tell_200 : decode cL_tell 200 = .ok (.iastore, 1) := by decide +kernel
theorem dL_tell_201 : decode cL_tell 201 = .ok (.aload_n 1, 1) := by decide +kernel
theorem dL_tell_202 : decode cL_tell 202 = .ok (.bipush 45, 2) := by decide +kernel
theorem dL_tell_204 : decode cL_tell 204 = .ok (.bipush 31, 2) := by decide +kernel
theorem dL_tell_206 : decode cL_tell 206 = .ok (.aload_n 1, 1) := by decide +kernel
theorem dL_tell_207 : decode cL_tell 207 = .ok (.bipush 45, 2) := by decide +kernel
theorem dL_tell_209 : decode cL_tell 209 = .ok (.iaload, 1) := by decide +kernel
theorem dL_tell_210 : decode cL_tell 210 = .ok (.imul, 1) := by decide +kernel
theorem dL_tell_211 : decode cL_tell 211 = .ok (.aload_n 0, 1) := by decide +kernel
theorem dL_tell_212 : decode cL_tell 212 = .ok (.iload_n 2, 1) := by decide +kernel
theorem dL_tell_213 : decode cL_tell 213 = .ok (.invokevirtual 37, 3) := by decide +kernel
theorem dL_tell_216 : decode cL_tell 216 = .ok (.iadd, 1) := by decide +kernel
theorem dL_tell_217 : decode cL_tell 217 = .ok (.iastore, 1) := by decide +kernel
theorem dL_tell_218 : decode cL_tell 218 = .ok (.aload_n 1, 1) := by decide +kernel
theorem dL_tell_219 : decode cL_tell 219 = .ok (.bipush 46, 2) := by decide +kernel
theorem dL_tell_221 : decode cL_tell 221 = .ok (.bipush 31, 2) := by decide +kernel
theorem dL_tell_223 : decode cL_tell 223 = .ok (.aload_n 1, 1) := by decide +kernel
theorem dL_tell_224 : decode cL_tell 224 = .ok (.bipush 46, 2) := by decide +kernel
theorem dL_tell_226 : decode cL_tell 226 = .ok (.iaload, 1) := by decide +kernel
theorem dL_tell_227 : decode cL_tell 227 = .ok (.imul, 1) := by decide +kernel
theorem dL_tell_228 : decode cL_tell 228 = .ok (.aload_n 0, 1) := by decide +kernel
theorem dL_tell_229 : decode cL_tell 229 = .ok (.iload_n 2, 1) := by decide +kernel
theorem dL_tell_230 : decode cL_tell 230 = .ok (.invokevirtual 78, 3) := by decide +kernel
theorem dL_tell_233 : decode cL_tell 233 = .ok (.iadd, 1) := by decide +kernel
theorem dL_tell_234 : decode cL_tell 234 = .ok (.iastore, 1) := by decide +kernel
theorem dL_tell_235 : decode cL_tell 235 = .ok (.iinc 2 1, 3) := by decide +kernel
theorem dL_tell_238 : decode cL_tell 238 = .ok (.goto (-95), 3) := by decide +kernel
theorem dL_tell_241 : decode cL_tell 241 = .ok (.aload_n 1, 1) := by decide +kernel
theorem dL_tell_242 : decode cL_tell 242 = .ok (.areturn, 1) := by decide +kernel
theorem dL_same_0 : decode cL_same 0 = .ok (.iconst 0, 1) := by decide +kernel
theorem dL_same_1 : decode cL_same 1 = .ok (.istore_n 2, 1) := by decide +kernel
theorem dL_same_2 : decode cL_same 2 = .ok (.iload_n 2, 1) := by decide +kernel
theorem dL_same_3 : decode cL_same 3 = .ok (.bipush 64, 2) := by decide +kernel
theorem dL_same_5 : decode cL_same 5 = .ok (.if_icmp .ge 20, 3) := by decide +kernel
theorem dL_same_8 : decode cL_same 8 = .ok (.aload_n 0, 1) := by decide +kernel
theorem dL_same_9 : decode cL_same 9 = .ok (.iload_n 2, 1) := by decide +kernel
theorem dL_same_10 : decode cL_same 10 = .ok (.iaload, 1) := by decide +kernel
theorem dL_same_11 : decode cL_same 11 = .ok (.aload_n 1, 1) := by decide +kernel
theorem dL_same_12 : decode cL_same 12 = .ok (.iload_n 2, 1) := by decide +kernel
theorem dL_same_13 : decode cL_same 13 = .ok (.iaload, 1) := by decide +kernel
theorem dL_same_14 : decode cL_same 14 = .ok (.if_icmp .eq 5, 3) := by decide +kernel
theorem dL_same_17 : decode cL_same 17 = .ok (.iconst 0, 1) := by decide +kernel
theorem dL_same_18 : decode cL_same 18 = .ok (.ireturn, 1) := by decide +kernel
theorem dL_same_19 : decode cL_same 19 = .ok (.iinc 2 1, 3) := by decide +kernel
theorem dL_same_22 : decode cL_same 22 = .ok (.goto (-20), 3) := by decide +kernel
theorem dL_same_25 : decode cL_same 25 = .ok (.iconst 1, 1) := by decide +kernel
theorem dL_same_26 : decode cL_same 26 = .ok (.ireturn, 1) := by decide +kernel
theorem dL_bundles_0 : decode cL_bundles 0 = .ok (.iconst 0, 1) := by decide +kernel
theorem dL_bundles_1 : decode cL_bundles 1 = .ok (.istore_n 2, 1) := by decide +kernel
theorem dL_bundles_2 : decode cL_bundles 2 = .ok (.iload_n 2, 1) := by decide +kernel
theorem dL_bundles_3 : decode cL_bundles 3 = .ok (.aload_n 0, 1) := by decide +kernel
theorem dL_bundles_4 : decode cL_bundles 4 = .ok (.invokevirtual 47, 3) := by decide +kernel
theorem dL_bundles_7 : decode cL_bundles 7 = .ok (.if_icmp .ge 251, 3) := by decide +kernel
theorem dL_bundles_10 : decode cL_bundles 10 = .ok (.aload_n 0, 1) := by decide +kernel
theorem dL_bundles_11 : decode cL_bundles 11 = .ok (.iload_n 2, 1) := by decide +kernel
theorem dL_bundles_12 : decode cL_bundles 12 = .ok (.invokevirtual 69, 3) := by decide +kernel
theorem dL_bundles_15 : decode cL_bundles 15 = .ok (.istore_n 3, 1) := by decide +kernel
theorem dL_bundles_16 : decode cL_bundles 16 = .ok (.iconst 0, 1) := by decide +kernel
theorem dL_bundles_17 : decode cL_bundles 17 = .ok (.istore 4, 2) := by decide +kernel
theorem dL_bundles_19 : decode cL_bundles 19 = .ok (.iconst 0, 1) := by decide +kernel
theorem dL_bundles_20 : decode cL_bundles 20 = .ok (.istore 5, 2) := by decide +kernel
theorem dL_bundles_22 : decode cL_bundles 22 = .ok (.iconst 0, 1) := by decide +kernel
theorem dL_bundles_23 : decode cL_bundles 23 = .ok (.istore 6, 2) := by decide +kernel
theorem dL_bundles_25 : decode cL_bundles 25 = .ok (.iconst 0, 1) := by decide +kernel
theorem dL_bundles_26 : decode cL_bundles 26 = .ok (.istore 7, 2) := by decide +kernel
theorem dL_bundles_28 : decode cL_bundles 28 = .ok (.iload 7, 2) := by decide +kernel
theorem dL_bundles_30 : decode cL_bundles 30 = .ok (.bipush 8, 2) := by decide +kernel
theorem dL_bundles_32 : decode cL_bundles 32 = .ok (.if_icmp .ge 72, 3) := by decide +kernel
theorem dL_bundles_35 : decode cL_bundles 35 = .ok (.aload_n 0, 1) := by decide +kernel
theorem dL_bundles_36 : decode cL_bundles 36 = .ok (.iload 7, 2) := by decide +kernel
theorem dL_bundles_38 : decode cL_bundles 38 = .ok (.iload_n 2, 1) := by decide +kernel
theorem dL_bundles_39 : decode cL_bundles 39 = .ok (.invokevirtual 62, 3) := by decide +kernel
theorem dL_bundles_42 : decode cL_bundles 42 = .ok (.istore 8, 2) := by decide +kernel
theorem dL_bundles_44 : decode cL_bundles 44 = .ok (.iload 4, 2) := by decide +kernel
theorem dL_bundles_46 : decode cL_bundles 46 = .ok (.iload 8, 2) := by decide +kernel
theorem dL_bundles_48 : decode cL_bundles 48 = .ok (.iadd, 1) := by decide +kernel
theorem dL_bundles_49 : decode cL_bundles 49 = .ok (.istore 4, 2) := by decide +kernel
theorem dL_bundles_51 : decode cL_bundles 51 = .ok (.iload 5, 2) := by decide +kernel
theorem dL_bundles_53 : decode cL_bundles 53 = .ok (.iload 8, 2) := by decide +kernel
theorem dL_bundles_55 : decode cL_bundles 55 = .ok (.ifCond .le 10, 3) := by decide +kernel
theorem dL_bundles_58 : decode cL_bundles 58 = .ok (.iconst 1, 1) := by decide +kernel
theorem dL_bundles_59 : decode cL_bundles 59 = .ok (.iload 7, 2) := by decide +kernel
theorem dL_bundles_61 : decode cL_bundles 61 = .ok (.ishl, 1) := by decide +kernel
theorem dL_bundles_62 : decode cL_bundles 62 = .ok (.goto 4, 3) := by decide +kernel
theorem dL_bundles_65 : decode cL_bundles 65 = .ok (.iconst 0, 1) := by decide +kernel
theorem dL_bundles_66 : decode cL_bundles 66 = .ok (.ior, 1) := by decide +kernel
theorem dL_bundles_67 : decode cL_bundles 67 = .ok (.istore 5, 2) := by decide +kernel
theorem dL_bundles_69 : decode cL_bundles 69 = .ok (.iload 6, 2) := by decide +kernel
theorem dL_bundles_71 : decode cL_bundles 71 = .ok (.aload_n 0, 1) := by decide +kernel
theorem dL_bundles_72 : decode cL_bundles 72 = .ok (.iload 7, 2) := by decide +kernel
