theorem dL_buffers_19 : decode cL_buffers 19 = .ok (.invokevirtual 47, 3) := by decide +kernel
theorem dL_buffers_22 : decode cL_buffers 22 = .ok (.if_icmp .ge 27, 3) := by decide +kernel
theorem dL_buffers_25 : decode cL_buffers 25 = .ok (.iload_n 3, 1) := by decide +kernel
theorem dL_buffers_26 : decode cL_buffers 26 = .ok (.aload_n 0, 1) := by decide +kernel
theorem dL_buffers_27 : decode cL_buffers 27 = .ok (.iload_n 2, 1) := by decide +kernel
theorem dL_buffers_28 : decode cL_buffers 28 = .ok (.iload 5, 2) := by decide +kernel
theorem dL_buffers_30 : decode cL_buffers 30 = .ok (.invokevirtual 62, 3) := by decide +kernel
theorem dL_buffers_33 : decode cL_buffers 33 = .ok (.ifCond .le 7, 3) := by decide +kernel
theorem dL_buffers_36 : decode cL_buffers 36 = .ok (.iconst 1, 1) := by decide +kernel
theorem dL_buffers_37 : decode cL_buffers 37 = .ok (.goto 4, 3) := by decide +kernel
theorem dL_buffers_40 : decode cL_buffers 40 = .ok (.iconst 0, 1) := by decide +kernel
theorem dL_buffers_41 : decode cL_buffers 41 = .ok (.iadd, 1) := by decide +kernel
theorem dL_buffers_42 : decode cL_buffers 42 = .ok (.istore_n 3, 1) := by decide +kernel
theorem dL_buffers_43 : decode cL_buffers 43 = .ok (.iinc 5 1, 3) := by decide +kernel
theorem dL_buffers_46 : decode cL_buffers 46 = .ok (.goto (-30), 3) := by decide +kernel
theorem dL_buffers_49 : decode cL_buffers 49 = .ok (.iload_n 3, 1) := by decide +kernel
theorem dL_buffers_50 : decode cL_buffers 50 = .ok (.aload_n 0, 1) := by decide +kernel
theorem dL_buffers_51 : decode cL_buffers 51 = .ok (.iload_n 2, 1) := by decide +kernel
theorem dL_buffers_52 : decode cL_buffers 52 = .ok (.invokevirtual 50, 3) := by decide +kernel
theorem dL_buffers_55 : decode cL_buffers 55 = .ok (.if_icmp .ne 21, 3) := by decide +kernel
theorem dL_buffers_58 : decode cL_buffers 58 = .ok (.iload_n 3, 1) := by decide +kernel
theorem dL_buffers_59 : decode cL_buffers 59 = .ok (.aload_n 1, 1) := by decide +kernel
theorem dL_buffers_60 : decode cL_buffers 60 = .ok (.iload_n 2, 1) := by decide +kernel
theorem dL_buffers_61 : decode cL_buffers 61 = .ok (.iaload, 1) := by decide +kernel
theorem dL_buffers_62 : decode cL_buffers 62 = .ok (.if_icmp .gt 14, 3) := by decide +kernel
theorem dL_buffers_65 : decode cL_buffers 65 = .ok (.aload_n 0, 1) := by decide +kernel
theorem dL_buffers_66 : decode cL_buffers 66 = .ok (.iload_n 2, 1) := by decide +kernel
theorem dL_buffers_67 : decode cL_buffers 67 = .ok (.iload_n 3, 1) := by decide +kernel
theorem dL_buffers_68 : decode cL_buffers 68 = .ok (.invokestatic 84, 3) := by decide +kernel
theorem dL_buffers_71 : decode cL_buffers 71 = .ok (.bipush (-2), 2) := by decide +kernel
theorem dL_buffers_73 : decode cL_buffers 73 = .ok (.if_icmp .eq 5, 3) := by decide +kernel
theorem dL_buffers_76 : decode cL_buffers 76 = .ok (.iconst 0, 1) := by decide +kernel
theorem dL_buffers_77 : decode cL_buffers 77 = .ok (.ireturn, 1) := by decide +kernel
theorem dL_buffers_78 : decode cL_buffers 78 = .ok (.iconst 0, 1) := by decide +kernel
theorem dL_buffers_79 : decode cL_buffers 79 = .ok (.istore 5, 2) := by decide +kernel
theorem dL_buffers_81 : decode cL_buffers 81 = .ok (.iload 5, 2) := by decide +kernel
theorem dL_buffers_83 : decode cL_buffers 83 = .ok (.iload_n 3, 1) := by decide +kernel
theorem dL_buffers_84 : decode cL_buffers 84 = .ok (.if_icmp .ge 73, 3) := by decide +kernel
theorem dL_buffers_87 : decode cL_buffers 87 = .ok (.aload_n 0, 1) := by decide +kernel
theorem dL_buffers_88 : decode cL_buffers 88 = .ok (.iload_n 2, 1) := by decide +kernel
theorem dL_buffers_89 : decode cL_buffers 89 = .ok (.iload 5, 2) := by decide +kernel
theorem dL_buffers_91 : decode cL_buffers 91 = .ok (.invokestatic 84, 3) := by decide +kernel
theorem dL_buffers_94 : decode cL_buffers 94 = .ok (.istore 6, 2) := by decide +kernel
theorem dL_buffers_96 : decode cL_buffers 96 = .ok (.iload 6, 2) := by decide +kernel
theorem dL_buffers_98 : decode cL_buffers 98 = .ok (.ifCond .lt 13, 3) := by decide +kernel
theorem dL_buffers_101 : decode cL_buffers 101 = .ok (.aload_n 0, 1) := by decide +kernel
theorem dL_buffers_102 : decode cL_buffers 102 = .ok (.iload_n 2, 1) := by decide +kernel
theorem dL_buffers_103 : decode cL_buffers 103 = .ok (.iload 6, 2) := by decide +kernel
theorem dL_buffers_105 : decode cL_buffers 105 = .ok (.invokevirtual 62, 3) := by decide +kernel
theorem dL_buffers_108 : decode cL_buffers 108 = .ok (.ifCond .ne 5, 3) := by decide +kernel
theorem dL_buffers_111 : decode cL_buffers 111 = .ok (.iconst 0, 1) := by decide +kernel
theorem dL_buffers_112 : decode cL_buffers 112 = .ok (.ireturn, 1) := by decide +kernel
theorem dL_buffers_113 : decode cL_buffers 113 = .ok (.iconst 0, 1) := by decide +kernel
theorem dL_buffers_114 : decode cL_buffers 114 = .ok (.istore 7, 2) := by decide +kernel
theorem dL_buffers_116 : decode cL_buffers 116 = .ok (.iload 7, 2) := by decide +kernel
theorem dL_buffers_118 : decode cL_buffers 118 = .ok (.iload 5, 2) := by decide +kernel
theorem dL_buffers_120 : decode cL_buffers 120 = .ok (.if_icmp .ge 31, 3) := by decide +kernel
theorem dL_buffers_123 : decode cL_buffers 123 = .ok (.iload 4, 2) := by decide +kernel
theorem dL_buffers_125 : decode cL_buffers 125 = .ok (.aload_n 0, 1) := by decide +kernel
theorem dL_buffers_126 : decode cL_buffers 126 = .ok (.iload_n 2, 1) := by decide +kernel
theorem dL_buffers_127 : decode cL_buffers 127 = .ok (.iload 7, 2) := by decide +kernel
theorem dL_buffers_129 : decode cL_buffers 129 = .ok (.invokestatic 84, 3) := by decide +kernel
theorem dL_buffers_132 : decode cL_buffers 132 = .ok (.iload 6, 2) := by decide +kernel
theorem dL_buffers_134 : decode cL_buffers 134 = .ok (.if_icmp .ne 7, 3) := by decide +kernel
theorem dL_buffers_137 : decode cL_buffers 137 = .ok (.iconst 1, 1) := by decide +kernel
theorem dL_buffers_138 : decode cL_buffers 138 = .ok (.goto 4, 3) := by decide +kernel
theorem dL_buffers_141 : decode cL_buffers 141 = .ok (.iconst 0, 1) := by decide +kernel
theorem dL_buffers_142 : decode cL_buffers 142 = .ok (.iadd, 1) := by decide +kernel
theorem dL_buffers_143 : decode cL_buffers 143 = .ok (.istore 4, 2) := by decide +kernel
theorem dL_buffers_145 : decode cL_buffers 145 = .ok (.iinc 7 1, 3) := by decide +kernel
theorem dL_buffers_148 : decode cL_buffers 148 = .ok (.goto (-32), 3) := by decide +kernel
theorem dL_buffers_151 : decode cL_buffers 151 = .ok (.iinc 5 1, 3) := by decide +kernel
theorem dL_buffers_154 : decode cL_buffers 154 = .ok (.goto (-73), 3) := by decide +kernel
theorem dL_buffers_157 : decode cL_buffers 157 = .ok (.iload 4, 2) := by decide +kernel
theorem dL_buffers_159 : decode cL_buffers 159 = .ok (.ifCond .eq 5, 3) := by decide +kernel
theorem dL_buffers_162 : decode cL_buffers 162 = .ok (.iconst 0, 1) := by decide +kernel
theorem dL_buffers_163 : decode cL_buffers 163 = .ok (.ireturn, 1) := by decide +kernel
theorem dL_buffers_164 : decode cL_buffers 164 = .ok (.iinc 2 1, 3) := by decide +kernel
theorem dL_buffers_167 : decode cL_buffers 167 = .ok (.goto (-165), 3) := by decide +kernel
theorem dL_buffers_170 : decode cL_buffers 170 = .ok (.iconst 1, 1) := by decide +kernel
theorem dL_buffers_171 : decode cL_buffers 171 = .ok (.ireturn, 1) := by decide +kernel
theorem dL_plan_0 : decode cL_plan 0 = .ok (.iconst 0, 1) := by decide +kernel
theorem dL_plan_1 : decode cL_plan 1 = .ok (.istore_n 2, 1) := by decide +kernel
theorem dL_plan_2 : decode cL_plan 2 = .ok (.iload_n 2, 1) := by decide +kernel
theorem dL_plan_3 : decode cL_plan 3 = .ok (.bipush 8, 2) := by decide +kernel
theorem dL_plan_5 : decode cL_plan 5 = .ok (.if_icmp .ge 72, 3) := by decide +kernel
theorem dL_plan_8 : decode cL_plan 8 = .ok (.iload_n 1, 1) := by decide +kernel
theorem dL_plan_9 : decode cL_plan 9 = .ok (.iload_n 2, 1) := by decide +kernel
theorem dL_plan_10 : decode cL_plan 10 = .ok (.ishr, 1) := by decide +kernel
theorem dL_plan_11 : decode cL_plan 11 = .ok (.bipush 8, 2) := by decide +kernel
theorem dL_plan_13 : decode cL_plan 13 = .ok (.invokestatic 90, 3) := by decide +kernel
theorem dL_plan_16 : decode cL_plan 16 = .ok (.istore_n 3, 1) := by decide +kernel
theorem dL_plan_17 : decode cL_plan 17 = .ok (.aload_n 0, 1) := by decide +kernel
theorem dL_plan_18 : decode cL_plan 18 = .ok (.iload_n 2, 1) := by decide +kernel
theorem dL_plan_19 : decode cL_plan 19 = .ok (.iload_n 3, 1) := by decide +kernel
theorem dL_plan_20 : decode cL_plan 20 = .ok (.invokevirtual 59, 3) := by decide +kernel
theorem dL_plan_23 : decode cL_plan 23 = .ok (.istore 4, 2) := by decide +kernel
theorem dL_plan_25 : decode cL_plan 25 = .ok (.iload 4, 2) := by decide +kernel
theorem dL_plan_27 : decode cL_plan 27 = .ok (.aload_n 0, 1) := by decide +kernel
theorem dL_plan_28 : decode cL_plan 28 = .ok (.iload_n 2, 1) := by decide +kernel
theorem dL_plan_29 : decode cL_plan 29 = .ok (.iload_n 3, 1) := by decide +kernel
theorem dL_plan_30 : decode cL_plan 30 = .ok (.invokevirtual 93, 3) := by decide +kernel
theorem dL_plan_33 : decode cL_plan 33 = .ok (.if_icmp .ne 36, 3) := by decide +kernel
theorem dL_plan_36 : decode cL_plan 36 = .ok (.iload 4, 2) := by decide +kernel
theorem dL_plan_38 : decode cL_plan 38 = .ok (.iconst (-1), 1) := by decide +kernel
theorem dL_plan_39 : decode cL_plan 39 = .ok (.if_icmp .lt 30, 3) := by decide +kernel
theorem dL_plan_42 : decode cL_plan 42 = .ok (.iload 4, 2) := by decide +kernel
theorem dL_plan_44 : decode cL_plan 44 = .ok (.ifCond .lt 12, 3) := by decide +kernel
theorem dL_plan_47 : decode cL_plan 47 = .ok (.iload 4, 2) := by decide +kernel
theorem dL_plan_49 : decode cL_plan 49 = .ok (.aload_n 0, 1) := by decide +kernel
