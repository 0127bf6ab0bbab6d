theorem dL_tell_13 : decode cL_tell 13 = .ok (.iconst 1, 1) := by decide +kernel
theorem dL_tell_14 : decode cL_tell 14 = .ok (.aload_n 0, 1) := by decide +kernel
theorem dL_tell_15 : decode cL_tell 15 = .ok (.invokevirtual 47, 3) := by decide +kernel
theorem dL_tell_18 : decode cL_tell 18 = .ok (.iastore, 1) := by decide +kernel
theorem dL_tell_19 : decode cL_tell 19 = .ok (.iconst 0, 1) := by decide +kernel
theorem dL_tell_20 : decode cL_tell 20 = .ok (.istore_n 2, 1) := by decide +kernel
theorem dL_tell_21 : decode cL_tell 21 = .ok (.iload_n 2, 1) := by decide +kernel
theorem dL_tell_22 : decode cL_tell 22 = .ok (.bipush 8, 2) := by decide +kernel
theorem dL_tell_24 : decode cL_tell 24 = .ok (.if_icmp .ge 117, 3) := by decide +kernel
theorem dL_tell_27 : decode cL_tell 27 = .ok (.aload_n 1, 1) := by decide +kernel
theorem dL_tell_28 : decode cL_tell 28 = .ok (.iconst 2, 1) := by decide +kernel
theorem dL_tell_29 : decode cL_tell 29 = .ok (.iload_n 2, 1) := by decide +kernel
theorem dL_tell_30 : decode cL_tell 30 = .ok (.iadd, 1) := by decide +kernel
theorem dL_tell_31 : decode cL_tell 31 = .ok (.aload_n 0, 1) := by decide +kernel
theorem dL_tell_32 : decode cL_tell 32 = .ok (.iload_n 2, 1) := by decide +kernel
theorem dL_tell_33 : decode cL_tell 33 = .ok (.invokevirtual 50, 3) := by decide +kernel
theorem dL_tell_36 : decode cL_tell 36 = .ok (.iastore, 1) := by decide +kernel
theorem dL_tell_37 : decode cL_tell 37 = .ok (.aload_n 1, 1) := by decide +kernel
theorem dL_tell_38 : decode cL_tell 38 = .ok (.bipush 10, 2) := by decide +kernel
theorem dL_tell_40 : decode cL_tell 40 = .ok (.iload_n 2, 1) := by decide +kernel
theorem dL_tell_41 : decode cL_tell 41 = .ok (.iadd, 1) := by decide +kernel
theorem dL_tell_42 : decode cL_tell 42 = .ok (.aload_n 0, 1) := by decide +kernel
theorem dL_tell_43 : decode cL_tell 43 = .ok (.iload_n 2, 1) := by decide +kernel
theorem dL_tell_44 : decode cL_tell 44 = .ok (.invokevirtual 53, 3) := by decide +kernel
theorem dL_tell_47 : decode cL_tell 47 = .ok (.iastore, 1) := by decide +kernel
theorem dL_tell_48 : decode cL_tell 48 = .ok (.aload_n 1, 1) := by decide +kernel
theorem dL_tell_49 : decode cL_tell 49 = .ok (.bipush 18, 2) := by decide +kernel
theorem dL_tell_51 : decode cL_tell 51 = .ok (.iload_n 2, 1) := by decide +kernel
theorem dL_tell_52 : decode cL_tell 52 = .ok (.iadd, 1) := by decide +kernel
theorem dL_tell_53 : decode cL_tell 53 = .ok (.aload_n 0, 1) := by decide +kernel
theorem dL_tell_54 : decode cL_tell 54 = .ok (.iload_n 2, 1) := by decide +kernel
theorem dL_tell_55 : decode cL_tell 55 = .ok (.invokevirtual 56, 3) := by decide +kernel
theorem dL_tell_58 : decode cL_tell 58 = .ok (.iastore, 1) := by decide +kernel
theorem dL_tell_59 : decode cL_tell 59 = .ok (.aload_n 1, 1) := by decide +kernel
theorem dL_tell_60 : decode cL_tell 60 = .ok (.bipush 26, 2) := by decide +kernel
theorem dL_tell_62 : decode cL_tell 62 = .ok (.iload_n 2, 1) := by decide +kernel
theorem dL_tell_63 : decode cL_tell 63 = .ok (.iadd, 1) := by decide +kernel
theorem dL_tell_64 : decode cL_tell 64 = .ok (.aload_n 0, 1) := by decide +kernel
theorem dL_tell_65 : decode cL_tell 65 = .ok (.iload_n 2, 1) := by decide +kernel
theorem dL_tell_66 : decode cL_tell 66 = .ok (.iconst 0, 1) := by decide +kernel
theorem dL_tell_67 : decode cL_tell 67 = .ok (.invokevirtual 59, 3) := by decide +kernel
theorem dL_tell_70 : decode cL_tell 70 = .ok (.bipush 31, 2) := by decide +kernel
theorem dL_tell_72 : decode cL_tell 72 = .ok (.aload_n 0, 1) := by decide +kernel
theorem dL_tell_73 : decode cL_tell 73 = .ok (.iload_n 2, 1) := by decide +kernel
theorem dL_tell_74 : decode cL_tell 74 = .ok (.iconst 3, 1) := by decide +kernel
theorem dL_tell_75 : decode cL_tell 75 = .ok (.invokevirtual 59, 3) := by decide +kernel
theorem dL_tell_78 : decode cL_tell 78 = .ok (.imul, 1) := by decide +kernel
theorem dL_tell_79 : decode cL_tell 79 = .ok (.iadd, 1) := by decide +kernel
theorem dL_tell_80 : decode cL_tell 80 = .ok (.iastore, 1) := by decide +kernel
theorem dL_tell_81 : decode cL_tell 81 = .ok (.iconst 0, 1) := by decide +kernel
theorem dL_tell_82 : decode cL_tell 82 = .ok (.istore_n 3, 1) := by decide +kernel
theorem dL_tell_83 : decode cL_tell 83 = .ok (.iload_n 3, 1) := by decide +kernel
theorem dL_tell_84 : decode cL_tell 84 = .ok (.aload_n 1, 1) := by decide +kernel
theorem dL_tell_85 : decode cL_tell 85 = .ok (.iconst 1, 1) := by decide +kernel
theorem dL_tell_86 : decode cL_tell 86 = .ok (.iaload, 1) := by decide +kernel
theorem dL_tell_87 : decode cL_tell 87 = .ok (.if_icmp .ge 48, 3) := by decide +kernel
theorem dL_tell_90 : decode cL_tell 90 = .ok (.aload_n 1, 1) := by decide +kernel
theorem dL_tell_91 : decode cL_tell 91 = .ok (.bipush 34, 2) := by decide +kernel
theorem dL_tell_93 : decode cL_tell 93 = .ok (.iload_n 2, 1) := by decide +kernel
theorem dL_tell_94 : decode cL_tell 94 = .ok (.iadd, 1) := by decide +kernel
theorem dL_tell_95 : decode cL_tell 95 = .ok (.bipush 31, 2) := by decide +kernel
theorem dL_tell_97 : decode cL_tell 97 = .ok (.aload_n 1, 1) := by decide +kernel
theorem dL_tell_98 : decode cL_tell 98 = .ok (.bipush 34, 2) := by decide +kernel
theorem dL_tell_100 : decode cL_tell 100 = .ok (.iload_n 2, 1) := by decide +kernel
theorem dL_tell_101 : decode cL_tell 101 = .ok (.iadd, 1) := by decide +kernel
theorem dL_tell_102 : decode cL_tell 102 = .ok (.iaload, 1) := by decide +kernel
theorem dL_tell_103 : decode cL_tell 103 = .ok (.imul, 1) := by decide +kernel
theorem dL_tell_104 : decode cL_tell 104 = .ok (.iconst 2, 1) := by decide +kernel
theorem dL_tell_105 : decode cL_tell 105 = .ok (.aload_n 0, 1) := by decide +kernel
theorem dL_tell_106 : decode cL_tell 106 = .ok (.iload_n 2, 1) := by decide +kernel
theorem dL_tell_107 : decode cL_tell 107 = .ok (.iload_n 3, 1) := by decide +kernel
theorem dL_tell_108 : decode cL_tell 108 = .ok (.invokevirtual 62, 3) := by decide +kernel
theorem dL_tell_111 : decode cL_tell 111 = .ok (.imul, 1) := by decide +kernel
theorem dL_tell_112 : decode cL_tell 112 = .ok (.iadd, 1) := by decide +kernel
theorem dL_tell_113 : decode cL_tell 113 = .ok (.aload_n 0, 1) := by decide +kernel
theorem dL_tell_114 : decode cL_tell 114 = .ok (.iload_n 2, 1) := by decide +kernel
theorem dL_tell_115 : decode cL_tell 115 = .ok (.iload_n 3, 1) := by decide +kernel
theorem dL_tell_116 : decode cL_tell 116 = .ok (.invokevirtual 65, 3) := by decide +kernel
theorem dL_tell_119 : decode cL_tell 119 = .ok (.ifCond .eq 7, 3) := by decide +kernel
theorem dL_tell_122 : decode cL_tell 122 = .ok (.iconst 1, 1) := by decide +kernel
theorem dL_tell_123 : decode cL_tell 123 = .ok (.goto 4, 3) := by decide +kernel
theorem dL_tell_126 : decode cL_tell 126 = .ok (.iconst 0, 1) := by decide +kernel
theorem dL_tell_127 : decode cL_tell 127 = .ok (.iadd, 1) := by decide +kernel
theorem dL_tell_128 : decode cL_tell 128 = .ok (.iastore, 1) := by decide +kernel
theorem dL_tell_129 : decode cL_tell 129 = .ok (.iinc 3 1, 3) := by decide +kernel
theorem dL_tell_132 : decode cL_tell 132 = .ok (.goto (-49), 3) := by decide +kernel
theorem dL_tell_135 : decode cL_tell 135 = .ok (.iinc 2 1, 3) := by decide +kernel
theorem dL_tell_138 : decode cL_tell 138 = .ok (.goto (-117), 3) := by decide +kernel
theorem dL_tell_141 : decode cL_tell 141 = .ok (.iconst 0, 1) := by decide +kernel
theorem dL_tell_142 : decode cL_tell 142 = .ok (.istore_n 2, 1) := by decide +kernel
theorem dL_tell_143 : decode cL_tell 143 = .ok (.iload_n 2, 1) := by decide +kernel
theorem dL_tell_144 : decode cL_tell 144 = .ok (.aload_n 1, 1) := by decide +kernel
theorem dL_tell_145 : decode cL_tell 145 = .ok (.iconst 1, 1) := by decide +kernel
theorem dL_tell_146 : decode cL_tell 146 = .ok (.iaload, 1) := by decide +kernel
theorem dL_tell_147 : decode cL_tell 147 = .ok (.if_icmp .ge 94, 3) := by decide +kernel
theorem dL_tell_150 : decode cL_tell 150 = .ok (.aload_n 1, 1) := by decide +kernel
theorem dL_tell_151 : decode cL_tell 151 = .ok (.bipush 42, 2) := by decide +kernel
theorem dL_tell_153 : decode cL_tell 153 = .ok (.bipush 31, 2) := by decide +kernel
theorem dL_tell_155 : decode cL_tell 155 = .ok (.aload_n 1, 1) := by decide +kernel
theorem dL_tell_156 : decode cL_tell 156 = .ok (.bipush 42, 2) := by decide +kernel
theorem dL_tell_158 : decode cL_tell 158 = .ok (.iaload, 1) := by decide +kernel
theorem dL_tell_159 : decode cL_tell 159 = .ok (.imul, 1) := by decide +kernel
theorem dL_tell_160 : decode cL_tell 160 = .ok (.aload_n 0, 1) := by decide +kernel
theorem dL_tell_161 : decode cL_tell 161 = .ok (.iload_n 2, 1) := by decide +kernel
theorem dL_tell_162 : decode cL_tell 162 = .ok (.invokevirtual 69, 3) := by decide +kernel
theorem dL_tell_165 : decode cL_tell 165 = .ok (.iadd, 1) := by decide +kernel
theorem dL_tell_166 : decode cL_tell 166 = .ok (.iastore, 1) := by decide +kernel
theorem dL_tell_167 : decode cL_tell 167 = .ok (.aload_n 1, 1) := by decide +kernel
theorem dL_tell_168 : decode cL_tell 168 = .ok (.bipush 43, 2) := by decide +kernel
theorem dL_tell_170 : decode cL_tell 170 = .ok (.bipush 31, 2) := by decide +kernel
