theorem dL_plan_50 : decode cL_plan 50 = .ok (.invokevirtual 43, 3) := by decide +kernel
theorem dL_plan_53 : decode cL_plan 53 = .ok (.if_icmp .lt 16, 3) := by decide +kernel
theorem dL_plan_56 : decode cL_plan 56 = .ok (.aload_n 0, 1) := by decide +kernel
theorem dL_plan_57 : decode cL_plan 57 = .ok (.iload_n 2, 1) := by decide +kernel
theorem dL_plan_58 : decode cL_plan 58 = .ok (.iload_n 2, 1) := by decide +kernel
theorem dL_plan_59 : decode cL_plan 59 = .ok (.invokevirtual 59, 3) := by decide +kernel
theorem dL_plan_62 : decode cL_plan 62 = .ok (.aload_n 0, 1) := by decide +kernel
theorem dL_plan_63 : decode cL_plan 63 = .ok (.invokevirtual 43, 3) := by decide +kernel
theorem dL_plan_66 : decode cL_plan 66 = .ok (.if_icmp .eq 5, 3) := by decide +kernel
theorem dL_plan_69 : decode cL_plan 69 = .ok (.iconst 0, 1) := by decide +kernel
theorem dL_plan_70 : decode cL_plan 70 = .ok (.ireturn, 1) := by decide +kernel
theorem dL_plan_71 : decode cL_plan 71 = .ok (.iinc 2 1, 3) := by decide +kernel
theorem dL_plan_74 : decode cL_plan 74 = .ok (.goto (-72), 3) := by decide +kernel
theorem dL_plan_77 : decode cL_plan 77 = .ok (.iconst 0, 1) := by decide +kernel
theorem dL_plan_78 : decode cL_plan 78 = .ok (.istore_n 2, 1) := by decide +kernel
theorem dL_plan_79 : decode cL_plan 79 = .ok (.iload_n 2, 1) := by decide +kernel
theorem dL_plan_80 : decode cL_plan 80 = .ok (.aload_n 0, 1) := by decide +kernel
theorem dL_plan_81 : decode cL_plan 81 = .ok (.invokevirtual 47, 3) := by decide +kernel
theorem dL_plan_84 : decode cL_plan 84 = .ok (.if_icmp .ge 46, 3) := by decide +kernel
theorem dL_plan_87 : decode cL_plan 87 = .ok (.aload_n 0, 1) := by decide +kernel
theorem dL_plan_88 : decode cL_plan 88 = .ok (.iload_n 2, 1) := by decide +kernel
theorem dL_plan_89 : decode cL_plan 89 = .ok (.invokevirtual 78, 3) := by decide +kernel
theorem dL_plan_92 : decode cL_plan 92 = .ok (.istore_n 3, 1) := by decide +kernel
theorem dL_plan_93 : decode cL_plan 93 = .ok (.iload_n 3, 1) := by decide +kernel
theorem dL_plan_94 : decode cL_plan 94 = .ok (.aload_n 0, 1) := by decide +kernel
theorem dL_plan_95 : decode cL_plan 95 = .ok (.iload_n 2, 1) := by decide +kernel
theorem dL_plan_96 : decode cL_plan 96 = .ok (.invokevirtual 37, 3) := by decide +kernel
theorem dL_plan_99 : decode cL_plan 99 = .ok (.if_icmp .ge 23, 3) := by decide +kernel
theorem dL_plan_102 : decode cL_plan 102 = .ok (.iload_n 3, 1) := by decide +kernel
theorem dL_plan_103 : decode cL_plan 103 = .ok (.ifCond .lt 21, 3) := by decide +kernel
theorem dL_plan_106 : decode cL_plan 106 = .ok (.iload_n 3, 1) := by decide +kernel
theorem dL_plan_107 : decode cL_plan 107 = .ok (.aload_n 0, 1) := by decide +kernel
theorem dL_plan_108 : decode cL_plan 108 = .ok (.invokevirtual 43, 3) := by decide +kernel
theorem dL_plan_111 : decode cL_plan 111 = .ok (.if_icmp .lt 11, 3) := by decide +kernel
theorem dL_plan_114 : decode cL_plan 114 = .ok (.aload_n 0, 1) := by decide +kernel
theorem dL_plan_115 : decode cL_plan 115 = .ok (.iload_n 2, 1) := by decide +kernel
theorem dL_plan_116 : decode cL_plan 116 = .ok (.invokevirtual 81, 3) := by decide +kernel
theorem dL_plan_119 : decode cL_plan 119 = .ok (.ifCond .ne 5, 3) := by decide +kernel
theorem dL_plan_122 : decode cL_plan 122 = .ok (.iconst 0, 1) := by decide +kernel
theorem dL_plan_123 : decode cL_plan 123 = .ok (.ireturn, 1) := by decide +kernel
theorem dL_plan_124 : decode cL_plan 124 = .ok (.iinc 2 1, 3) := by decide +kernel
theorem dL_plan_127 : decode cL_plan 127 = .ok (.goto (-48), 3) := by decide +kernel
theorem dL_plan_130 : decode cL_plan 130 = .ok (.iconst 1, 1) := by decide +kernel
theorem dL_plan_131 : decode cL_plan 131 = .ok (.ireturn, 1) := by decide +kernel
theorem dL_act_0 : decode cL_act 0 = .ok (.iload_n 2, 1) := by decide +kernel
theorem dL_act_1 : decode cL_act 1 = .ok (.bipush 9, 2) := by decide +kernel
theorem dL_act_3 : decode cL_act 3 = .ok (.invokestatic 90, 3) := by decide +kernel
theorem dL_act_6 : decode cL_act 6 = .ok (.istore 5, 2) := by decide +kernel
theorem dL_act_8 : decode cL_act 8 = .ok (.iload_n 2, 1) := by decide +kernel
theorem dL_act_9 : decode cL_act 9 = .ok (.iconst 4, 1) := by decide +kernel
theorem dL_act_10 : decode cL_act 10 = .ok (.ishr, 1) := by decide +kernel
theorem dL_act_11 : decode cL_act 11 = .ok (.bipush 8, 2) := by decide +kernel
theorem dL_act_13 : decode cL_act 13 = .ok (.invokestatic 90, 3) := by decide +kernel
theorem dL_act_16 : decode cL_act 16 = .ok (.istore 6, 2) := by decide +kernel
theorem dL_act_18 : decode cL_act 18 = .ok (.iload_n 1, 1) := by decide +kernel
theorem dL_act_19 : decode cL_act 19 = .ok (.iconst 4, 1) := by decide +kernel
theorem dL_act_20 : decode cL_act 20 = .ok (.if_icmp .ge 59, 3) := by decide +kernel
theorem dL_act_23 : decode cL_act 23 = .ok (.iload_n 2, 1) := by decide +kernel
theorem dL_act_24 : decode cL_act 24 = .ok (.bipush 8, 2) := by decide +kernel
theorem dL_act_26 : decode cL_act 26 = .ok (.ishr, 1) := by decide +kernel
theorem dL_act_27 : decode cL_act 27 = .ok (.bipush 12, 2) := by decide +kernel
theorem dL_act_29 : decode cL_act 29 = .ok (.invokestatic 90, 3) := by decide +kernel
theorem dL_act_32 : decode cL_act 32 = .ok (.istore 7, 2) := by decide +kernel
theorem dL_act_34 : decode cL_act 34 = .ok (.aload_n 0, 1) := by decide +kernel
theorem dL_act_35 : decode cL_act 35 = .ok (.iload 5, 2) := by decide +kernel
theorem dL_act_37 : decode cL_act 37 = .ok (.iload 6, 2) := by decide +kernel
theorem dL_act_39 : decode cL_act 39 = .ok (.iload_n 2, 1) := by decide +kernel
theorem dL_act_40 : decode cL_act 40 = .ok (.bipush 12, 2) := by decide +kernel
theorem dL_act_42 : decode cL_act 42 = .ok (.ishr, 1) := by decide +kernel
theorem dL_act_43 : decode cL_act 43 = .ok (.iconst 3, 1) := by decide +kernel
theorem dL_act_44 : decode cL_act 44 = .ok (.invokestatic 90, 3) := by decide +kernel
theorem dL_act_47 : decode cL_act 47 = .ok (.iload 7, 2) := by decide +kernel
theorem dL_act_49 : decode cL_act 49 = .ok (.iconst 1, 1) := by decide +kernel
theorem dL_act_50 : decode cL_act 50 = .ok (.iload_n 2, 1) := by decide +kernel
theorem dL_act_51 : decode cL_act 51 = .ok (.bipush 14, 2) := by decide +kernel
theorem dL_act_53 : decode cL_act 53 = .ok (.ishr, 1) := by decide +kernel
theorem dL_act_54 : decode cL_act 54 = .ok (.bipush 90, 2) := by decide +kernel
theorem dL_act_56 : decode cL_act 56 = .ok (.invokestatic 90, 3) := by decide +kernel
theorem dL_act_59 : decode cL_act 59 = .ok (.iadd, 1) := by decide +kernel
theorem dL_act_60 : decode cL_act 60 = .ok (.invokestatic 96, 3) := by decide +kernel
theorem dL_act_63 : decode cL_act 63 = .ok (.istore 8, 2) := by decide +kernel
theorem dL_act_65 : decode cL_act 65 = .ok (.iload 8, 2) := by decide +kernel
theorem dL_act_67 : decode cL_act 67 = .ok (.ifCond .lt 9, 3) := by decide +kernel
theorem dL_act_70 : decode cL_act 70 = .ok (.aload_n 3, 1) := by decide +kernel
theorem dL_act_71 : decode cL_act 71 = .ok (.iload 8, 2) := by decide +kernel
theorem dL_act_73 : decode cL_act 73 = .ok (.iload 7, 2) := by decide +kernel
theorem dL_act_75 : decode cL_act 75 = .ok (.iastore, 1) := by decide +kernel
theorem dL_act_76 : decode cL_act 76 = .ok (.iload 8, 2) := by decide +kernel
theorem dL_act_78 : decode cL_act 78 = .ok (.ireturn, 1) := by decide +kernel
theorem dL_act_79 : decode cL_act 79 = .ok (.iload_n 1, 1) := by decide +kernel
theorem dL_act_80 : decode cL_act 80 = .ok (.bipush 9, 2) := by decide +kernel
theorem dL_act_82 : decode cL_act 82 = .ok (.if_icmp .ge 43, 3) := by decide +kernel
theorem dL_act_85 : decode cL_act 85 = .ok (.aload_n 0, 1) := by decide +kernel
theorem dL_act_86 : decode cL_act 86 = .ok (.iload 5, 2) := by decide +kernel
theorem dL_act_88 : decode cL_act 88 = .ok (.iload 6, 2) := by decide +kernel
theorem dL_act_90 : decode cL_act 90 = .ok (.iload_n 2, 1) := by decide +kernel
theorem dL_act_91 : decode cL_act 91 = .ok (.bipush 8, 2) := by decide +kernel
theorem dL_act_93 : decode cL_act 93 = .ok (.ishr, 1) := by decide +kernel
theorem dL_act_94 : decode cL_act 94 = .ok (.iconst 3, 1) := by decide +kernel
theorem dL_act_95 : decode cL_act 95 = .ok (.invokestatic 90, 3) := by decide +kernel
theorem dL_act_98 : decode cL_act 98 = .ok (.ifCond .ne 14, 3) := by decide +kernel
theorem dL_act_101 : decode cL_act 101 = .ok (.iload_n 2, 1) := by decide +kernel
theorem dL_act_102 : decode cL_act 102 = .ok (.bipush 10, 2) := by decide +kernel
theorem dL_act_104 : decode cL_act 104 = .ok (.ishr, 1) := by decide +kernel
theorem dL_act_105 : decode cL_act 105 = .ok (.iconst 4, 1) := by decide +kernel
theorem dL_act_106 : decode cL_act 106 = .ok (.invokestatic 90, 3) := by decide +kernel
theorem dL_act_109 : decode cL_act 109 = .ok (.goto 12, 3) := by decide +kernel
theorem dL_act_112 : decode cL_act 112 = .ok (.iload_n 2, 1) := by decide +kernel
theorem dL_act_113 : decode cL_act 113 = .ok (.bipush 10, 2) := by decide +kernel
theorem dL_act_115 : decode cL_act 115 = .ok (.ishr, 1) := by decide +kernel
