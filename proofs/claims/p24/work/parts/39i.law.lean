theorem dL_again_31 : decode cL_again 31 = .ok (.istore 4, 2) := by decide +kernel
theorem dL_again_33 : decode cL_again 33 = .ok (.iload 4, 2) := by decide +kernel
theorem dL_again_35 : decode cL_again 35 = .ok (.ifCond .lt 10, 3) := by decide +kernel
theorem dL_again_38 : decode cL_again 38 = .ok (.iload 4, 2) := by decide +kernel
theorem dL_again_40 : decode cL_again 40 = .ok (.bipush 19, 2) := by decide +kernel
theorem dL_again_42 : decode cL_again 42 = .ok (.if_icmp .le 16, 3) := by decide +kernel
theorem dL_again_45 : decode cL_again 45 = .ok (.iload 4, 2) := by decide +kernel
theorem dL_again_47 : decode cL_again 47 = .ok (.bipush 20, 2) := by decide +kernel
theorem dL_again_49 : decode cL_again 49 = .ok (.if_icmp .ne 7, 3) := by decide +kernel
theorem dL_again_52 : decode cL_again 52 = .ok (.iconst 1, 1) := by decide +kernel
theorem dL_again_53 : decode cL_again 53 = .ok (.goto 4, 3) := by decide +kernel
theorem dL_again_56 : decode cL_again 56 = .ok (.iconst 0, 1) := by decide +kernel
theorem dL_again_57 : decode cL_again 57 = .ok (.ireturn, 1) := by decide +kernel
theorem dL_again_58 : decode cL_again 58 = .ok (.aload_n 0, 1) := by decide +kernel
theorem dL_again_59 : decode cL_again 59 = .ok (.invokestatic 115, 3) := by decide +kernel
theorem dL_again_62 : decode cL_again 62 = .ok (.istore 5, 2) := by decide +kernel
theorem dL_again_64 : decode cL_again 64 = .ok (.iconst 0, 1) := by decide +kernel
theorem dL_again_65 : decode cL_again 65 = .ok (.istore 6, 2) := by decide +kernel
theorem dL_again_67 : decode cL_again 67 = .ok (.iload 6, 2) := by decide +kernel
theorem dL_again_69 : decode cL_again 69 = .ok (.aload_n 0, 1) := by decide +kernel
theorem dL_again_70 : decode cL_again 70 = .ok (.invokevirtual 47, 3) := by decide +kernel
theorem dL_again_73 : decode cL_again 73 = .ok (.if_icmp .ge 53, 3) := by decide +kernel
theorem dL_again_76 : decode cL_again 76 = .ok (.aload_n 0, 1) := by decide +kernel
theorem dL_again_77 : decode cL_again 77 = .ok (.iload 6, 2) := by decide +kernel
theorem dL_again_79 : decode cL_again 79 = .ok (.invokevirtual 72, 3) := by decide +kernel
theorem dL_again_82 : decode cL_again 82 = .ok (.aload_n 0, 1) := by decide +kernel
theorem dL_again_83 : decode cL_again 83 = .ok (.invokevirtual 43, 3) := by decide +kernel
theorem dL_again_86 : decode cL_again 86 = .ok (.if_icmp .ne 7, 3) := by decide +kernel
theorem dL_again_89 : decode cL_again 89 = .ok (.iconst 1, 1) := by decide +kernel
theorem dL_again_90 : decode cL_again 90 = .ok (.goto 4, 3) := by decide +kernel
theorem dL_again_93 : decode cL_again 93 = .ok (.iconst 0, 1) := by decide +kernel
theorem dL_again_94 : decode cL_again 94 = .ok (.istore 7, 2) := by decide +kernel
theorem dL_again_96 : decode cL_again 96 = .ok (.iload 7, 2) := by decide +kernel
theorem dL_again_98 : decode cL_again 98 = .ok (.ifCond .ne 22, 3) := by decide +kernel
theorem dL_again_101 : decode cL_again 101 = .ok (.aload_n 0, 1) := by decide +kernel
theorem dL_again_102 : decode cL_again 102 = .ok (.iload_n 2, 1) := by decide +kernel
theorem dL_again_103 : decode cL_again 103 = .ok (.iload 6, 2) := by decide +kernel
theorem dL_again_105 : decode cL_again 105 = .ok (.invokevirtual 65, 3) := by decide +kernel
theorem dL_again_108 : decode cL_again 108 = .ok (.aload_n 0, 1) := by decide +kernel
theorem dL_again_109 : decode cL_again 109 = .ok (.iload_n 3, 1) := by decide +kernel
theorem dL_again_110 : decode cL_again 110 = .ok (.iload 6, 2) := by decide +kernel
theorem dL_again_112 : decode cL_again 112 = .ok (.invokevirtual 65, 3) := by decide +kernel
theorem dL_again_115 : decode cL_again 115 = .ok (.if_icmp .eq 5, 3) := by decide +kernel
theorem dL_again_118 : decode cL_again 118 = .ok (.iconst 0, 1) := by decide +kernel
theorem dL_again_119 : decode cL_again 119 = .ok (.ireturn, 1) := by decide +kernel
theorem dL_again_120 : decode cL_again 120 = .ok (.iinc 6 1, 3) := by decide +kernel
theorem dL_again_123 : decode cL_again 123 = .ok (.goto (-56), 3) := by decide +kernel
theorem dL_again_126 : decode cL_again 126 = .ok (.aload_n 0, 1) := by decide +kernel
theorem dL_again_127 : decode cL_again 127 = .ok (.iload_n 3, 1) := by decide +kernel
theorem dL_again_128 : decode cL_again 128 = .ok (.iload_n 2, 1) := by decide +kernel
theorem dL_again_129 : decode cL_again 129 = .ok (.bipush 20, 2) := by decide +kernel
theorem dL_again_131 : decode cL_again 131 = .ok (.invokestatic 99, 3) := by decide +kernel
theorem dL_again_134 : decode cL_again 134 = .ok (.istore 6, 2) := by decide +kernel
theorem dL_again_136 : decode cL_again 136 = .ok (.iload 6, 2) := by decide +kernel
theorem dL_again_138 : decode cL_again 138 = .ok (.ifCond .lt 33, 3) := by decide +kernel
theorem dL_again_141 : decode cL_again 141 = .ok (.iload 6, 2) := by decide +kernel
theorem dL_again_143 : decode cL_again 143 = .ok (.bipush 20, 2) := by decide +kernel
theorem dL_again_145 : decode cL_again 145 = .ok (.if_icmp .gt 26, 3) := by decide +kernel
theorem dL_again_148 : decode cL_again 148 = .ok (.aload_n 0, 1) := by decide +kernel
theorem dL_again_149 : decode cL_again 149 = .ok (.invokestatic 115, 3) := by decide +kernel
theorem dL_again_152 : decode cL_again 152 = .ok (.iload 5, 2) := by decide +kernel
theorem dL_again_154 : decode cL_again 154 = .ok (.if_icmp .ne 17, 3) := by decide +kernel
theorem dL_again_157 : decode cL_again 157 = .ok (.aload_n 0, 1) := by decide +kernel
theorem dL_again_158 : decode cL_again 158 = .ok (.iload_n 2, 1) := by decide +kernel
theorem dL_again_159 : decode cL_again 159 = .ok (.iload_n 3, 1) := by decide +kernel
theorem dL_again_160 : decode cL_again 160 = .ok (.iconst 0, 1) := by decide +kernel
theorem dL_again_161 : decode cL_again 161 = .ok (.invokestatic 99, 3) := by decide +kernel
theorem dL_again_164 : decode cL_again 164 = .ok (.ifCond .ne 7, 3) := by decide +kernel
theorem dL_again_167 : decode cL_again 167 = .ok (.iconst 1, 1) := by decide +kernel
theorem dL_again_168 : decode cL_again 168 = .ok (.goto 4, 3) := by decide +kernel
theorem dL_again_171 : decode cL_again 171 = .ok (.iconst 0, 1) := by decide +kernel
theorem dL_again_172 : decode cL_again 172 = .ok (.ireturn, 1) := by decide +kernel
theorem dL_law_0 : decode cL_law 0 = .ok (.new 10, 3) := by decide +kernel
theorem dL_law_3 : decode cL_law 3 = .ok (.dup, 1) := by decide +kernel
theorem dL_law_4 : decode cL_law 4 = .ok (.invokespecial 119, 3) := by decide +kernel
theorem dL_law_7 : decode cL_law 7 = .ok (.astore_n 1, 1) := by decide +kernel
theorem dL_law_8 : decode cL_law 8 = .ok (.bipush 40, 2) := by decide +kernel
theorem dL_law_10 : decode cL_law 10 = .ok (.newarray .int, 2) := by decide +kernel
theorem dL_law_12 : decode cL_law 12 = .ok (.astore_n 2, 1) := by decide +kernel
theorem dL_law_13 : decode cL_law 13 = .ok (.bipush 8, 2) := by decide +kernel
theorem dL_law_15 : decode cL_law 15 = .ok (.newarray .int, 2) := by decide +kernel
theorem dL_law_17 : decode cL_law 17 = .ok (.astore_n 3, 1) := by decide +kernel
theorem dL_law_18 : decode cL_law 18 = .ok (.iconst 0, 1) := by decide +kernel
theorem dL_law_19 : decode cL_law 19 = .ok (.istore 4, 2) := by decide +kernel
theorem dL_law_21 : decode cL_law 21 = .ok (.iload 4, 2) := by decide +kernel
theorem dL_law_23 : decode cL_law 23 = .ok (.bipush 8, 2) := by decide +kernel
theorem dL_law_25 : decode cL_law 25 = .ok (.if_icmp .ge 14, 3) := by decide +kernel
theorem dL_law_28 : decode cL_law 28 = .ok (.aload_n 3, 1) := by decide +kernel
theorem dL_law_29 : decode cL_law 29 = .ok (.iload 4, 2) := by decide +kernel
theorem dL_law_31 : decode cL_law 31 = .ok (.iconst 4, 1) := by decide +kernel
theorem dL_law_32 : decode cL_law 32 = .ok (.iastore, 1) := by decide +kernel
theorem dL_law_33 : decode cL_law 33 = .ok (.iinc 4 1, 3) := by decide +kernel
theorem dL_law_36 : decode cL_law 36 = .ok (.goto (-15), 3) := by decide +kernel
theorem dL_law_39 : decode cL_law 39 = .ok (.iconst 0, 1) := by decide +kernel
theorem dL_law_40 : decode cL_law 40 = .ok (.istore 4, 2) := by decide +kernel
theorem dL_law_42 : decode cL_law 42 = .ok (.iload 4, 2) := by decide +kernel
theorem dL_law_44 : decode cL_law 44 = .ok (.bipush 34, 2) := by decide +kernel
theorem dL_law_46 : decode cL_law 46 = .ok (.if_icmp .ge 177, 3) := by decide +kernel
theorem dL_law_49 : decode cL_law 49 = .ok (.aload_n 0, 1) := by decide +kernel
theorem dL_law_50 : decode cL_law 50 = .ok (.iconst 2, 1) := by decide +kernel
theorem dL_law_51 : decode cL_law 51 = .ok (.iload 4, 2) := by decide +kernel
theorem dL_law_53 : decode cL_law 53 = .ok (.imul, 1) := by decide +kernel
theorem dL_law_54 : decode cL_law 54 = .ok (.invokestatic 120, 3) := by decide +kernel
theorem dL_law_57 : decode cL_law 57 = .ok (.istore 5, 2) := by decide +kernel
theorem dL_law_59 : decode cL_law 59 = .ok (.aload_n 0, 1) := by decide +kernel
theorem dL_law_60 : decode cL_law 60 = .ok (.iconst 2, 1) := by decide +kernel
theorem dL_law_61 : decode cL_law 61 = .ok (.iload 4, 2) := by decide +kernel
theorem dL_law_63 : decode cL_law 63 = .ok (.imul, 1) := by decide +kernel
theorem dL_law_64 : decode cL_law 64 = .ok (.iconst 1, 1) := by decide +kernel
theorem dL_law_65 : decode cL_law 65 = .ok (.iadd, 1) := by decide +kernel
