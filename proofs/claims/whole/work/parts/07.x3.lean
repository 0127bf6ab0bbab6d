theorem dX3_init_0 : decode cX3_init 0 = .ok (.aload_n 0, 1) := by decide +kernel
theorem dX3_init_1 : decode cX3_init 1 = .ok (.invokespecial 1, 3) := by decide +kernel
theorem dX3_init_4 : decode cX3_init 4 = .ok (.aload_n 0, 1) := by decide +kernel
theorem dX3_init_5 : decode cX3_init 5 = .ok (.bipush 40, 2) := by decide +kernel
theorem dX3_init_7 : decode cX3_init 7 = .ok (.newarray .int, 2) := by decide +kernel
theorem dX3_init_9 : decode cX3_init 9 = .ok (.putfield 7, 3) := by decide +kernel
theorem dX3_init_12 : decode cX3_init 12 = .ok (.aload_n 0, 1) := by decide +kernel
theorem dX3_init_13 : decode cX3_init 13 = .ok (.bipush 40, 2) := by decide +kernel
theorem dX3_init_15 : decode cX3_init 15 = .ok (.newarray .int, 2) := by decide +kernel
theorem dX3_init_17 : decode cX3_init 17 = .ok (.putfield 13, 3) := by decide +kernel
theorem dX3_init_20 : decode cX3_init 20 = .ok (.aload_n 0, 1) := by decide +kernel
theorem dX3_init_21 : decode cX3_init 21 = .ok (.bipush 40, 2) := by decide +kernel
theorem dX3_init_23 : decode cX3_init 23 = .ok (.newarray .int, 2) := by decide +kernel
theorem dX3_init_25 : decode cX3_init 25 = .ok (.putfield 16, 3) := by decide +kernel
theorem dX3_init_28 : decode cX3_init 28 = .ok (.aload_n 0, 1) := by decide +kernel
theorem dX3_init_29 : decode cX3_init 29 = .ok (.bipush 40, 2) := by decide +kernel
theorem dX3_init_31 : decode cX3_init 31 = .ok (.newarray .int, 2) := by decide +kernel
theorem dX3_init_33 : decode cX3_init 33 = .ok (.putfield 19, 3) := by decide +kernel
theorem dX3_init_36 : decode cX3_init 36 = .ok (.aload_n 0, 1) := by decide +kernel
theorem dX3_init_37 : decode cX3_init 37 = .ok (.bipush 40, 2) := by decide +kernel
theorem dX3_init_39 : decode cX3_init 39 = .ok (.newarray .int, 2) := by decide +kernel
theorem dX3_init_41 : decode cX3_init 41 = .ok (.putfield 22, 3) := by decide +kernel
theorem dX3_init_44 : decode cX3_init 44 = .ok (.aload_n 0, 1) := by decide +kernel
theorem dX3_init_45 : decode cX3_init 45 = .ok (.bipush 40, 2) := by decide +kernel
theorem dX3_init_47 : decode cX3_init 47 = .ok (.newarray .int, 2) := by decide +kernel
theorem dX3_init_49 : decode cX3_init 49 = .ok (.putfield 25, 3) := by decide +kernel
theorem dX3_init_52 : decode cX3_init 52 = .ok (.aload_n 0, 1) := by decide +kernel
theorem dX3_init_53 : decode cX3_init 53 = .ok (.sipush 320, 3) := by decide +kernel
theorem dX3_init_56 : decode cX3_init 56 = .ok (.newarray .int, 2) := by decide +kernel
theorem dX3_init_58 : decode cX3_init 58 = .ok (.putfield 28, 3) := by decide +kernel
theorem dX3_init_61 : decode cX3_init 61 = .ok (.aload_n 0, 1) := by decide +kernel
theorem dX3_init_62 : decode cX3_init 62 = .ok (.sipush 320, 3) := by decide +kernel
theorem dX3_init_65 : decode cX3_init 65 = .ok (.newarray .int, 2) := by decide +kernel
theorem dX3_init_67 : decode cX3_init 67 = .ok (.putfield 31, 3) := by decide +kernel
theorem dX3_init_70 : decode cX3_init 70 = .ok (.aload_n 0, 1) := by decide +kernel
theorem dX3_init_71 : decode cX3_init 71 = .ok (.sipush 320, 3) := by decide +kernel
theorem dX3_init_74 : decode cX3_init 74 = .ok (.newarray .int, 2) := by decide +kernel
theorem dX3_init_76 : decode cX3_init 76 = .ok (.putfield 34, 3) := by decide +kernel
theorem dX3_init_79 : decode cX3_init 79 = .ok (.aload_n 0, 1) := by decide +kernel
theorem dX3_init_80 : decode cX3_init 80 = .ok (.bipush 8, 2) := by decide +kernel
theorem dX3_init_82 : decode cX3_init 82 = .ok (.newarray .int, 2) := by decide +kernel
theorem dX3_init_84 : decode cX3_init 84 = .ok (.putfield 37, 3) := by decide +kernel
theorem dX3_init_87 : decode cX3_init 87 = .ok (.aload_n 0, 1) := by decide +kernel
theorem dX3_init_88 : decode cX3_init 88 = .ok (.bipush 8, 2) := by decide +kernel
theorem dX3_init_90 : decode cX3_init 90 = .ok (.newarray .int, 2) := by decide +kernel
theorem dX3_init_92 : decode cX3_init 92 = .ok (.putfield 40, 3) := by decide +kernel
theorem dX3_init_95 : decode cX3_init 95 = .ok (.aload_n 0, 1) := by decide +kernel
theorem dX3_init_96 : decode cX3_init 96 = .ok (.bipush 8, 2) := by decide +kernel
theorem dX3_init_98 : decode cX3_init 98 = .ok (.newarray .int, 2) := by decide +kernel
theorem dX3_init_100 : decode cX3_init 100 = .ok (.putfield 43, 3) := by decide +kernel
theorem dX3_init_103 : decode cX3_init 103 = .ok (.aload_n 0, 1) := by decide +kernel
theorem dX3_init_104 : decode cX3_init 104 = .ok (.bipush 120, 2) := by decide +kernel
theorem dX3_init_106 : decode cX3_init 106 = .ok (.newarray .int, 2) := by decide +kernel
theorem dX3_init_108 : decode cX3_init 108 = .ok (.putfield 46, 3) := by decide +kernel
theorem dX3_init_111 : decode cX3_init 111 = .ok (.aload_n 0, 1) := by decide +kernel
theorem dX3_init_112 : decode cX3_init 112 = .ok (.bipush 80, 2) := by decide +kernel
theorem dX3_init_114 : decode cX3_init 114 = .ok (.newarray .int, 2) := by decide +kernel
theorem dX3_init_116 : decode cX3_init 116 = .ok (.putfield 49, 3) := by decide +kernel
theorem dX3_init_119 : decode cX3_init 119 = .ok (.aload_n 0, 1) := by decide +kernel
theorem dX3_init_120 : decode cX3_init 120 = .ok (.bipush 80, 2) := by decide +kernel
theorem dX3_init_122 : decode cX3_init 122 = .ok (.newarray .int, 2) := by decide +kernel
theorem dX3_init_124 : decode cX3_init 124 = .ok (.putfield 52, 3) := by decide +kernel
theorem dX3_init_127 : decode cX3_init 127 = .ok (.aload_n 0, 1) := by decide +kernel
theorem dX3_init_128 : decode cX3_init 128 = .ok (.bipush 8, 2) := by decide +kernel
theorem dX3_init_130 : decode cX3_init 130 = .ok (.newarray .int, 2) := by decide +kernel
theorem dX3_init_132 : decode cX3_init 132 = .ok (.putfield 55, 3) := by decide +kernel
theorem dX3_init_135 : decode cX3_init 135 = .ok (.aload_n 0, 1) := by decide +kernel
theorem dX3_init_136 : decode cX3_init 136 = .ok (.bipush 8, 2) := by decide +kernel
theorem dX3_init_138 : decode cX3_init 138 = .ok (.newarray .int, 2) := by decide +kernel
theorem dX3_init_140 : decode cX3_init 140 = .ok (.putfield 58, 3) := by decide +kernel
theorem dX3_init_143 : decode cX3_init 143 = .ok (.iconst 0, 1) := by decide +kernel
theorem dX3_init_144 : decode cX3_init 144 = .ok (.istore_n 1, 1) := by decide +kernel
theorem dX3_init_145 : decode cX3_init 145 = .ok (.iload_n 1, 1) := by decide +kernel
theorem dX3_init_146 : decode cX3_init 146 = .ok (.bipush 8, 2) := by decide +kernel
theorem dX3_init_148 : decode cX3_init 148 = .ok (.if_icmp .ge 16, 3) := by decide +kernel
theorem dX3_init_151 : decode cX3_init 151 = .ok (.aload_n 0, 1) := by decide +kernel
theorem dX3_init_152 : decode cX3_init 152 = .ok (.getfield 37, 3) := by decide +kernel
theorem dX3_init_155 : decode cX3_init 155 = .ok (.iload_n 1, 1) := by decide +kernel
theorem dX3_init_156 : decode cX3_init 156 = .ok (.iconst 4, 1) := by decide +kernel
theorem dX3_init_157 : decode cX3_init 157 = .ok (.iastore, 1) := by decide +kernel
theorem dX3_init_158 : decode cX3_init 158 = .ok (.iinc 1 1, 3) := by decide +kernel
theorem dX3_init_161 : decode cX3_init 161 = .ok (.goto (-16), 3) := by decide +kernel
theorem dX3_init_164 : decode cX3_init 164 = .ok (.return_, 1) := by decide +kernel
theorem dX3_thrown_0 : decode cX3_thrown 0 = .ok (.aload_n 0, 1) := by decide +kernel
theorem dX3_thrown_1 : decode cX3_thrown 1 = .ok (.getfield 61, 3) := by decide +kernel
theorem dX3_thrown_4 : decode cX3_thrown 4 = .ok (.ireturn, 1) := by decide +kernel
theorem dX3_holds_0 : decode cX3_holds 0 = .ok (.aload_n 0, 1) := by decide +kernel
theorem dX3_holds_1 : decode cX3_holds 1 = .ok (.iload_n 1, 1) := by decide +kernel
theorem dX3_holds_2 : decode cX3_holds 2 = .ok (.putfield 61, 3) := by decide +kernel
theorem dX3_holds_5 : decode cX3_holds 5 = .ok (.iload_n 1, 1) := by decide +kernel
theorem dX3_holds_6 : decode cX3_holds 6 = .ok (.ifCond .le 7, 3) := by decide +kernel
theorem dX3_holds_9 : decode cX3_holds 9 = .ok (.iconst 1, 1) := by decide +kernel
theorem dX3_holds_10 : decode cX3_holds 10 = .ok (.goto 4, 3) := by decide +kernel
theorem dX3_holds_13 : decode cX3_holds 13 = .ok (.iconst 0, 1) := by decide +kernel
theorem dX3_holds_14 : decode cX3_holds 14 = .ok (.ireturn, 1) := by decide +kernel
theorem dX3_plain_0 : decode cX3_plain 0 = .ok (.aload_n 0, 1) := by decide +kernel
theorem dX3_plain_1 : decode cX3_plain 1 = .ok (.iconst 0, 1) := by decide +kernel
theorem dX3_plain_2 : decode cX3_plain 2 = .ok (.putfield 61, 3) := by decide +kernel
theorem dX3_plain_5 : decode cX3_plain 5 = .ok (.iload_n 1, 1) := by decide +kernel
theorem dX3_plain_6 : decode cX3_plain 6 = .ok (.ireturn, 1) := by decide +kernel
theorem dX3_between_0 : decode cX3_between 0 = .ok (.iload_n 1, 1) := by decide +kernel
theorem dX3_between_1 : decode cX3_between 1 = .ok (.iload_n 2, 1) := by decide +kernel
theorem dX3_between_2 : decode cX3_between 2 = .ok (.if_icmp .lt 12, 3) := by decide +kernel
theorem dX3_between_5 : decode cX3_between 5 = .ok (.iload_n 1, 1) := by decide +kernel
theorem dX3_between_6 : decode cX3_between 6 = .ok (.iload_n 3, 1) := by decide +kernel
theorem dX3_between_7 : decode cX3_between 7 = .ok (.if_icmp .gt 7, 3) := by decide +kernel
theorem dX3_between_10 : decode cX3_between 10 = .ok (.iconst 1, 1) := by decide +kernel
theorem dX3_between_11 : decode cX3_between 11 = .ok (.goto 4, 3) := by decide +kernel
theorem dX3_between_14 : decode cX3_between 14 = .ok (.iconst 0, 1) := by decide +kernel
theorem dX3_between_15 : decode cX3_between 15 = .ok (.ireturn, 1) := by decide +kernel
set_option maxRecDepth 20000 in
theorem ggX3_isNode_X3_between : GoodIn wsX3_isNode wsX3_between := goodIn_r _ [5] (by decide +kernel) (by decide +kernel)
set_option maxRecDepth 20000 in
theorem gX3_isNode_X3_between : GoodIn wsX3_isNode (wsV RX3 65 RX3 yX3_between wsX3_between) := goodIn_app (goodIn_of _ (by decide +kernel)) ggX3_isNode_X3_between
theorem dX3_isNode_0 : decode cX3_isNode 0 = .ok (.aload_n 0, 1) := by decide +kernel
theorem dX3_isNode_1 : decode cX3_isNode 1 = .ok (.iload_n 1, 1) := by decide +kernel
theorem dX3_isNode_2 : decode cX3_isNode 2 = .ok (.iconst 0, 1) := by decide +kernel
theorem dX3_isNode_3 : decode cX3_isNode 3 = .ok (.bipush 7, 2) := by decide +kernel
theorem dX3_isNode_5 : decode cX3_isNode 5 = .ok (.invokevirtual 65, 3) := by decide +kernel
theorem dX3_isNode_8 : decode cX3_isNode 8 = .ok (.ireturn, 1) := by decide +kernel
set_option maxRecDepth 20000 in
theorem ggX3_isBundle_X3_between : GoodIn wsX3_isBundle wsX3_between := goodIn_r _ [6] (by decide +kernel) (by decide +kernel)
set_option maxRecDepth 20000 in
theorem gX3_isBundle_X3_between : GoodIn wsX3_isBundle (wsV RX3 65 RX3 yX3_between wsX3_between) := goodIn_app (goodIn_of _ (by decide +kernel)) ggX3_isBundle_X3_between
theorem dX3_isBundle_0 : decode cX3_isBundle 0 = .ok (.aload_n 0, 1) := by decide +kernel
theorem dX3_isBundle_1 : decode cX3_isBundle 1 = .ok (.iload_n 1, 1) := by decide +kernel
theorem dX3_isBundle_2 : decode cX3_isBundle 2 = .ok (.iconst 0, 1) := by decide +kernel
theorem dX3_isBundle_3 : decode cX3_isBundle 3 = .ok (.aload_n 0, 1) := by decide +kernel
theorem dX3_isBundle_4 : decode cX3_isBundle 4 = .ok (.getfield 69, 3) := by decide +kernel
theorem dX3_isBundle_7 : decode cX3_isBundle 7 = .ok (.iconst 1, 1) := by decide +kernel
theorem dX3_isBundle_8 : decode cX3_isBundle 8 = .ok (.isub, 1) := by decide +kernel
theorem dX3_isBundle_9 : decode cX3_isBundle 9 = .ok (.invokevirtual 65, 3) := by decide +kernel
theorem dX3_isBundle_12 : decode cX3_isBundle 12 = .ok (.ireturn, 1) := by decide +kernel
theorem dX3_precedes_0 : decode cX3_precedes 0 = .ok (.aload_n 0, 1) := by decide +kernel
theorem dX3_precedes_1 : decode cX3_precedes 1 = .ok (.getfield 13, 3) := by decide +kernel
theorem dX3_precedes_4 : decode cX3_precedes 4 = .ok (.iload_n 1, 1) := by decide +kernel
theorem dX3_precedes_5 : decode cX3_precedes 5 = .ok (.iaload, 1) := by decide +kernel
theorem dX3_precedes_6 : decode cX3_precedes 6 = .ok (.aload_n 0, 1) := by decide +kernel
theorem dX3_precedes_7 : decode cX3_precedes 7 = .ok (.getfield 13, 3) := by decide +kernel
theorem dX3_precedes_10 : decode cX3_precedes 10 = .ok (.iload_n 2, 1) := by decide +kernel
theorem dX3_precedes_11 : decode cX3_precedes 11 = .ok (.iaload, 1) := by decide +kernel
theorem dX3_precedes_12 : decode cX3_precedes 12 = .ok (.if_icmp .eq 24, 3) := by decide +kernel
theorem dX3_precedes_15 : decode cX3_precedes 15 = .ok (.aload_n 0, 1) := by decide +kernel
theorem dX3_precedes_16 : decode cX3_precedes 16 = .ok (.getfield 13, 3) := by decide +kernel
theorem dX3_precedes_19 : decode cX3_precedes 19 = .ok (.iload_n 1, 1) := by decide +kernel
theorem dX3_precedes_20 : decode cX3_precedes 20 = .ok (.iaload, 1) := by decide +kernel
theorem dX3_precedes_21 : decode cX3_precedes 21 = .ok (.aload_n 0, 1) := by decide +kernel
theorem dX3_precedes_22 : decode cX3_precedes 22 = .ok (.getfield 13, 3) := by decide +kernel
theorem dX3_precedes_25 : decode cX3_precedes 25 = .ok (.iload_n 2, 1) := by decide +kernel
theorem dX3_precedes_26 : decode cX3_precedes 26 = .ok (.iaload, 1) := by decide +kernel
theorem dX3_precedes_27 : decode cX3_precedes 27 = .ok (.if_icmp .le 7, 3) := by decide +kernel
theorem dX3_precedes_30 : decode cX3_precedes 30 = .ok (.iconst 1, 1) := by decide +kernel
theorem dX3_precedes_31 : decode cX3_precedes 31 = .ok (.goto 4, 3) := by decide +kernel
theorem dX3_precedes_34 : decode cX3_precedes 34 = .ok (.iconst 0, 1) := by decide +kernel
theorem dX3_precedes_35 : decode cX3_precedes 35 = .ok (.ireturn, 1) := by decide +kernel
theorem dX3_precedes_36 : decode cX3_precedes 36 = .ok (.aload_n 0, 1) := by decide +kernel
theorem dX3_precedes_37 : decode cX3_precedes 37 = .ok (.getfield 16, 3) := by decide +kernel
theorem dX3_precedes_40 : decode cX3_precedes 40 = .ok (.iload_n 1, 1) := by decide +kernel
theorem dX3_precedes_41 : decode cX3_precedes 41 = .ok (.iaload, 1) := by decide +kernel
theorem dX3_precedes_42 : decode cX3_precedes 42 = .ok (.aload_n 0, 1) := by decide +kernel
theorem dX3_precedes_43 : decode cX3_precedes 43 = .ok (.getfield 16, 3) := by decide +kernel
theorem dX3_precedes_46 : decode cX3_precedes 46 = .ok (.iload_n 2, 1) := by decide +kernel
theorem dX3_precedes_47 : decode cX3_precedes 47 = .ok (.iaload, 1) := by decide +kernel
theorem dX3_precedes_48 : decode cX3_precedes 48 = .ok (.if_icmp .ne 16, 3) := by decide +kernel
theorem dX3_precedes_51 : decode cX3_precedes 51 = .ok (.iload_n 1, 1) := by decide +kernel
theorem dX3_precedes_52 : decode cX3_precedes 52 = .ok (.iload_n 2, 1) := by decide +kernel
theorem dX3_precedes_53 : decode cX3_precedes 53 = .ok (.if_icmp .ge 7, 3) := by decide +kernel
theorem dX3_precedes_56 : decode cX3_precedes 56 = .ok (.iconst 1, 1) := by decide +kernel
theorem dX3_precedes_57 : decode cX3_precedes 57 = .ok (.goto 27, 3) := by decide +kernel
theorem dX3_precedes_60 : decode cX3_precedes 60 = .ok (.iconst 0, 1) := by decide +kernel
theorem dX3_precedes_61 : decode cX3_precedes 61 = .ok (.goto 23, 3) := by decide +kernel
theorem dX3_precedes_64 : decode cX3_precedes 64 = .ok (.aload_n 0, 1) := by decide +kernel
theorem dX3_precedes_65 : decode cX3_precedes 65 = .ok (.getfield 16, 3) := by decide +kernel
theorem dX3_precedes_68 : decode cX3_precedes 68 = .ok (.iload_n 1, 1) := by decide +kernel
theorem dX3_precedes_69 : decode cX3_precedes 69 = .ok (.iaload, 1) := by decide +kernel
theorem dX3_precedes_70 : decode cX3_precedes 70 = .ok (.aload_n 0, 1) := by decide +kernel
theorem dX3_precedes_71 : decode cX3_precedes 71 = .ok (.getfield 16, 3) := by decide +kernel
theorem dX3_precedes_74 : decode cX3_precedes 74 = .ok (.iload_n 2, 1) := by decide +kernel
theorem dX3_precedes_75 : decode cX3_precedes 75 = .ok (.iaload, 1) := by decide +kernel
theorem dX3_precedes_76 : decode cX3_precedes 76 = .ok (.if_icmp .ge 7, 3) := by decide +kernel
theorem dX3_precedes_79 : decode cX3_precedes 79 = .ok (.iconst 1, 1) := by decide +kernel
theorem dX3_precedes_80 : decode cX3_precedes 80 = .ok (.goto 4, 3) := by decide +kernel
theorem dX3_precedes_83 : decode cX3_precedes 83 = .ok (.iconst 0, 1) := by decide +kernel
theorem dX3_precedes_84 : decode cX3_precedes 84 = .ok (.ireturn, 1) := by decide +kernel
theorem dX3_load_0 : decode cX3_load 0 = .ok (.iconst 0, 1) := by decide +kernel
theorem dX3_load_1 : decode cX3_load 1 = .ok (.istore_n 2, 1) := by decide +kernel
theorem dX3_load_2 : decode cX3_load 2 = .ok (.iconst 0, 1) := by decide +kernel
theorem dX3_load_3 : decode cX3_load 3 = .ok (.istore_n 3, 1) := by decide +kernel
theorem dX3_load_4 : decode cX3_load 4 = .ok (.iload_n 3, 1) := by decide +kernel
theorem dX3_load_5 : decode cX3_load 5 = .ok (.aload_n 0, 1) := by decide +kernel
theorem dX3_load_6 : decode cX3_load 6 = .ok (.getfield 69, 3) := by decide +kernel
theorem dX3_load_9 : decode cX3_load 9 = .ok (.if_icmp .ge 31, 3) := by decide +kernel
theorem dX3_load_12 : decode cX3_load 12 = .ok (.iload_n 2, 1) := by decide +kernel
theorem dX3_load_13 : decode cX3_load 13 = .ok (.aload_n 0, 1) := by decide +kernel
theorem dX3_load_14 : decode cX3_load 14 = .ok (.getfield 28, 3) := by decide +kernel
theorem dX3_load_17 : decode cX3_load 17 = .ok (.bipush 40, 2) := by decide +kernel
theorem dX3_load_19 : decode cX3_load 19 = .ok (.iload_n 1, 1) := by decide +kernel
theorem dX3_load_20 : decode cX3_load 20 = .ok (.imul, 1) := by decide +kernel
theorem dX3_load_21 : decode cX3_load 21 = .ok (.iload_n 3, 1) := by decide +kernel
theorem dX3_load_22 : decode cX3_load 22 = .ok (.iadd, 1) := by decide +kernel
theorem dX3_load_23 : decode cX3_load 23 = .ok (.iaload, 1) := by decide +kernel
theorem dX3_load_24 : decode cX3_load 24 = .ok (.ifCond .le 7, 3) := by decide +kernel
theorem dX3_load_27 : decode cX3_load 27 = .ok (.iconst 1, 1) := by decide +kernel
theorem dX3_load_28 : decode cX3_load 28 = .ok (.goto 4, 3) := by decide +kernel
theorem dX3_load_31 : decode cX3_load 31 = .ok (.iconst 0, 1) := by decide +kernel
theorem dX3_load_32 : decode cX3_load 32 = .ok (.iadd, 1) := by decide +kernel
theorem dX3_load_33 : decode cX3_load 33 = .ok (.istore_n 2, 1) := by decide +kernel
theorem dX3_load_34 : decode cX3_load 34 = .ok (.iinc 3 1, 3) := by decide +kernel
theorem dX3_load_37 : decode cX3_load 37 = .ok (.goto (-33), 3) := by decide +kernel
theorem dX3_load_40 : decode cX3_load 40 = .ok (.iload_n 2, 1) := by decide +kernel
theorem dX3_load_41 : decode cX3_load 41 = .ok (.ireturn, 1) := by decide +kernel
set_option maxRecDepth 20000 in
theorem ggX3_last_X3_precedes : GoodIn wsX3_last wsX3_precedes := goodIn_r _ [8, 9, 10, 11, 12, 13, 14, 15, 16, 17, 18, 19, 20, 21, 22, 23, 24, 25, 26, 27, 28, 29, 30, 31] (by decide +kernel) (by decide +kernel)
set_option maxRecDepth 20000 in
theorem gX3_last_X3_precedes : GoodIn wsX3_last (wsV RX3 72 RX3 yX3_precedes wsX3_precedes) := goodIn_app (goodIn_of _ (by decide +kernel)) ggX3_last_X3_precedes
theorem dX3_last_0 : decode cX3_last 0 = .ok (.iconst (-1), 1) := by decide +kernel
theorem dX3_last_1 : decode cX3_last 1 = .ok (.istore_n 2, 1) := by decide +kernel
theorem dX3_last_2 : decode cX3_last 2 = .ok (.iconst 0, 1) := by decide +kernel
theorem dX3_last_3 : decode cX3_last 3 = .ok (.istore_n 3, 1) := by decide +kernel
theorem dX3_last_4 : decode cX3_last 4 = .ok (.iload_n 3, 1) := by decide +kernel
theorem dX3_last_5 : decode cX3_last 5 = .ok (.aload_n 0, 1) := by decide +kernel
theorem dX3_last_6 : decode cX3_last 6 = .ok (.getfield 69, 3) := by decide +kernel
theorem dX3_last_9 : decode cX3_last 9 = .ok (.if_icmp .ge 48, 3) := by decide +kernel
theorem dX3_last_12 : decode cX3_last 12 = .ok (.aload_n 0, 1) := by decide +kernel
theorem dX3_last_13 : decode cX3_last 13 = .ok (.getfield 28, 3) := by decide +kernel
theorem dX3_last_16 : decode cX3_last 16 = .ok (.bipush 40, 2) := by decide +kernel
theorem dX3_last_18 : decode cX3_last 18 = .ok (.iload_n 1, 1) := by decide +kernel
theorem dX3_last_19 : decode cX3_last 19 = .ok (.imul, 1) := by decide +kernel
theorem dX3_last_20 : decode cX3_last 20 = .ok (.iload_n 3, 1) := by decide +kernel
theorem dX3_last_21 : decode cX3_last 21 = .ok (.iadd, 1) := by decide +kernel
theorem dX3_last_22 : decode cX3_last 22 = .ok (.iaload, 1) := by decide +kernel
theorem dX3_last_23 : decode cX3_last 23 = .ok (.ifCond .le 28, 3) := by decide +kernel
theorem dX3_last_26 : decode cX3_last 26 = .ok (.aload_n 0, 1) := by decide +kernel
theorem dX3_last_27 : decode cX3_last 27 = .ok (.getfield 19, 3) := by decide +kernel
theorem dX3_last_30 : decode cX3_last 30 = .ok (.iload_n 3, 1) := by decide +kernel
theorem dX3_last_31 : decode cX3_last 31 = .ok (.iaload, 1) := by decide +kernel
theorem dX3_last_32 : decode cX3_last 32 = .ok (.iload_n 1, 1) := by decide +kernel
theorem dX3_last_33 : decode cX3_last 33 = .ok (.if_icmp .eq 18, 3) := by decide +kernel
theorem dX3_last_36 : decode cX3_last 36 = .ok (.iload_n 2, 1) := by decide +kernel
theorem dX3_last_37 : decode cX3_last 37 = .ok (.ifCond .lt 12, 3) := by decide +kernel
theorem dX3_last_40 : decode cX3_last 40 = .ok (.aload_n 0, 1) := by decide +kernel
theorem dX3_last_41 : decode cX3_last 41 = .ok (.iload_n 2, 1) := by decide +kernel
theorem dX3_last_42 : decode cX3_last 42 = .ok (.iload_n 3, 1) := by decide +kernel
theorem dX3_last_43 : decode cX3_last 43 = .ok (.invokevirtual 72, 3) := by decide +kernel
theorem dX3_last_46 : decode cX3_last 46 = .ok (.ifCond .eq 5, 3) := by decide +kernel
theorem dX3_last_49 : decode cX3_last 49 = .ok (.iload_n 3, 1) := by decide +kernel
theorem dX3_last_50 : decode cX3_last 50 = .ok (.istore_n 2, 1) := by decide +kernel
theorem dX3_last_51 : decode cX3_last 51 = .ok (.iinc 3 1, 3) := by decide +kernel
theorem dX3_last_54 : decode cX3_last 54 = .ok (.goto (-50), 3) := by decide +kernel
theorem dX3_last_57 : decode cX3_last 57 = .ok (.iload_n 2, 1) := by decide +kernel
theorem dX3_last_58 : decode cX3_last 58 = .ok (.ireturn, 1) := by decide +kernel
set_option maxRecDepth 20000 in
theorem ggX3_hasRoom_X3_load : GoodIn wsX3_hasRoom wsX3_load := goodIn_r _ [9, 10, 3, 21, 22, 23, 24, 25, 26, 27, 28, 29, 30, 31, 32, 33, 34, 35, 36, 37, 38, 39, 40, 41] (by decide +kernel) (by decide +kernel)
set_option maxRecDepth 20000 in
theorem gX3_hasRoom_X3_load : GoodIn wsX3_hasRoom (wsV RX3 76 RX3 yX3_load wsX3_load) := goodIn_app (goodIn_of _ (by decide +kernel)) ggX3_hasRoom_X3_load
set_option maxRecDepth 20000 in
theorem ggX3_hasRoom_X3_last : GoodIn wsX3_hasRoom wsX3_last := goodIn_r _ [14, 10, 3, 15, 16, 17, 18, 8, 19, 2, 20, 21, 22, 23, 24, 25, 26, 27, 28, 29, 30, 31, 32, 33, 34, 35, 36, 37, 38, 39, 40, 41] (by decide +kernel) (by decide +kernel)
set_option maxRecDepth 20000 in
theorem gX3_hasRoom_X3_last : GoodIn wsX3_hasRoom (wsV RX3 80 RX3 yX3_last wsX3_last) := goodIn_app (goodIn_of _ (by decide +kernel)) ggX3_hasRoom_X3_last
theorem dX3_hasRoom_0 : decode cX3_hasRoom 0 = .ok (.aload_n 0, 1) := by decide +kernel
theorem dX3_hasRoom_1 : decode cX3_hasRoom 1 = .ok (.iload_n 1, 1) := by decide +kernel
theorem dX3_hasRoom_2 : decode cX3_hasRoom 2 = .ok (.invokevirtual 76, 3) := by decide +kernel
theorem dX3_hasRoom_5 : decode cX3_hasRoom 5 = .ok (.aload_n 0, 1) := by decide +kernel
theorem dX3_hasRoom_6 : decode cX3_hasRoom 6 = .ok (.getfield 37, 3) := by decide +kernel
theorem dX3_hasRoom_9 : decode cX3_hasRoom 9 = .ok (.iload_n 1, 1) := by decide +kernel
theorem dX3_hasRoom_10 : decode cX3_hasRoom 10 = .ok (.iaload, 1) := by decide +kernel
theorem dX3_hasRoom_11 : decode cX3_hasRoom 11 = .ok (.if_icmp .ge 5, 3) := by decide +kernel
theorem dX3_hasRoom_14 : decode cX3_hasRoom 14 = .ok (.iconst 1, 1) := by decide +kernel
theorem dX3_hasRoom_15 : decode cX3_hasRoom 15 = .ok (.ireturn, 1) := by decide +kernel
theorem dX3_hasRoom_16 : decode cX3_hasRoom 16 = .ok (.aload_n 0, 1) := by decide +kernel
theorem dX3_hasRoom_17 : decode cX3_hasRoom 17 = .ok (.iload_n 1, 1) := by decide +kernel
theorem dX3_hasRoom_18 : decode cX3_hasRoom 18 = .ok (.invokevirtual 80, 3) := by decide +kernel
theorem dX3_hasRoom_21 : decode cX3_hasRoom 21 = .ok (.istore_n 3, 1) := by decide +kernel
theorem dX3_hasRoom_22 : decode cX3_hasRoom 22 = .ok (.iload_n 3, 1) := by decide +kernel
theorem dX3_hasRoom_23 : decode cX3_hasRoom 23 = .ok (.ifCond .lt 13, 3) := by decide +kernel
theorem dX3_hasRoom_26 : decode cX3_hasRoom 26 = .ok (.aload_n 0, 1) := by decide +kernel
theorem dX3_hasRoom_27 : decode cX3_hasRoom 27 = .ok (.getfield 13, 3) := by decide +kernel
theorem dX3_hasRoom_30 : decode cX3_hasRoom 30 = .ok (.iload_n 3, 1) := by decide +kernel
theorem dX3_hasRoom_31 : decode cX3_hasRoom 31 = .ok (.iaload, 1) := by decide +kernel
theorem dX3_hasRoom_32 : decode cX3_hasRoom 32 = .ok (.iload_n 2, 1) := by decide +kernel
theorem dX3_hasRoom_33 : decode cX3_hasRoom 33 = .ok (.if_icmp .lt 5, 3) := by decide +kernel
theorem dX3_hasRoom_36 : decode cX3_hasRoom 36 = .ok (.iconst 0, 1) := by decide +kernel
theorem dX3_hasRoom_37 : decode cX3_hasRoom 37 = .ok (.ireturn, 1) := by decide +kernel
theorem dX3_hasRoom_38 : decode cX3_hasRoom 38 = .ok (.aload_n 0, 1) := by decide +kernel
theorem dX3_hasRoom_39 : decode cX3_hasRoom 39 = .ok (.getfield 28, 3) := by decide +kernel
theorem dX3_hasRoom_42 : decode cX3_hasRoom 42 = .ok (.bipush 40, 2) := by decide +kernel
theorem dX3_hasRoom_44 : decode cX3_hasRoom 44 = .ok (.iload_n 1, 1) := by decide +kernel
theorem dX3_hasRoom_45 : decode cX3_hasRoom 45 = .ok (.imul, 1) := by decide +kernel
theorem dX3_hasRoom_46 : decode cX3_hasRoom 46 = .ok (.iload_n 3, 1) := by decide +kernel
theorem dX3_hasRoom_47 : decode cX3_hasRoom 47 = .ok (.iadd, 1) := by decide +kernel
theorem dX3_hasRoom_48 : decode cX3_hasRoom 48 = .ok (.iconst 0, 1) := by decide +kernel
theorem dX3_hasRoom_49 : decode cX3_hasRoom 49 = .ok (.iastore, 1) := by decide +kernel
theorem dX3_hasRoom_50 : decode cX3_hasRoom 50 = .ok (.aload_n 0, 1) := by decide +kernel
theorem dX3_hasRoom_51 : decode cX3_hasRoom 51 = .ok (.getfield 40, 3) := by decide +kernel
theorem dX3_hasRoom_54 : decode cX3_hasRoom 54 = .ok (.iload_n 1, 1) := by decide +kernel
theorem dX3_hasRoom_55 : decode cX3_hasRoom 55 = .ok (.dup2, 1) := by decide +kernel
theorem dX3_hasRoom_56 : decode cX3_hasRoom 56 = .ok (.iaload, 1) := by decide +kernel
theorem dX3_hasRoom_57 : decode cX3_hasRoom 57 = .ok (.iconst 1, 1) := by decide +kernel
theorem dX3_hasRoom_58 : decode cX3_hasRoom 58 = .ok (.iadd, 1) := by decide +kernel
theorem dX3_hasRoom_59 : decode cX3_hasRoom 59 = .ok (.iastore, 1) := by decide +kernel
theorem dX3_hasRoom_60 : decode cX3_hasRoom 60 = .ok (.iconst 1, 1) := by decide +kernel
theorem dX3_hasRoom_61 : decode cX3_hasRoom 61 = .ok (.ireturn, 1) := by decide +kernel
theorem dX3_learn_0 : decode cX3_learn 0 = .ok (.aload_n 0, 1) := by decide +kernel
theorem dX3_learn_1 : decode cX3_learn 1 = .ok (.getfield 34, 3) := by decide +kernel
theorem dX3_learn_4 : decode cX3_learn 4 = .ok (.bipush 40, 2) := by decide +kernel
theorem dX3_learn_6 : decode cX3_learn 6 = .ok (.iload_n 1, 1) := by decide +kernel
theorem dX3_learn_7 : decode cX3_learn 7 = .ok (.imul, 1) := by decide +kernel
theorem dX3_learn_8 : decode cX3_learn 8 = .ok (.iload_n 2, 1) := by decide +kernel
theorem dX3_learn_9 : decode cX3_learn 9 = .ok (.iadd, 1) := by decide +kernel
theorem dX3_learn_10 : decode cX3_learn 10 = .ok (.iconst 1, 1) := by decide +kernel
theorem dX3_learn_11 : decode cX3_learn 11 = .ok (.iastore, 1) := by decide +kernel
theorem dX3_learn_12 : decode cX3_learn 12 = .ok (.aload_n 0, 1) := by decide +kernel
theorem dX3_learn_13 : decode cX3_learn 13 = .ok (.getfield 28, 3) := by decide +kernel
theorem dX3_learn_16 : decode cX3_learn 16 = .ok (.bipush 40, 2) := by decide +kernel
theorem dX3_learn_18 : decode cX3_learn 18 = .ok (.iload_n 1, 1) := by decide +kernel
theorem dX3_learn_19 : decode cX3_learn 19 = .ok (.imul, 1) := by decide +kernel
theorem dX3_learn_20 : decode cX3_learn 20 = .ok (.iload_n 2, 1) := by decide +kernel
theorem dX3_learn_21 : decode cX3_learn 21 = .ok (.iadd, 1) := by decide +kernel
theorem dX3_learn_22 : decode cX3_learn 22 = .ok (.iconst 0, 1) := by decide +kernel
theorem dX3_learn_23 : decode cX3_learn 23 = .ok (.iastore, 1) := by decide +kernel
theorem dX3_learn_24 : decode cX3_learn 24 = .ok (.aload_n 0, 1) := by decide +kernel
theorem dX3_learn_25 : decode cX3_learn 25 = .ok (.getfield 19, 3) := by decide +kernel
theorem dX3_learn_28 : decode cX3_learn 28 = .ok (.iload_n 2, 1) := by decide +kernel
theorem dX3_learn_29 : decode cX3_learn 29 = .ok (.iaload, 1) := by decide +kernel
theorem dX3_learn_30 : decode cX3_learn 30 = .ok (.iload_n 1, 1) := by decide +kernel
theorem dX3_learn_31 : decode cX3_learn 31 = .ok (.if_icmp .ne 10, 3) := by decide +kernel
theorem dX3_learn_34 : decode cX3_learn 34 = .ok (.aload_n 0, 1) := by decide +kernel
theorem dX3_learn_35 : decode cX3_learn 35 = .ok (.getfield 19, 3) := by decide +kernel
theorem dX3_learn_38 : decode cX3_learn 38 = .ok (.iload_n 2, 1) := by decide +kernel
theorem dX3_learn_39 : decode cX3_learn 39 = .ok (.iconst (-1), 1) := by decide +kernel
theorem dX3_learn_40 : decode cX3_learn 40 = .ok (.iastore, 1) := by decide +kernel
theorem dX3_learn_41 : decode cX3_learn 41 = .ok (.return_, 1) := by decide +kernel
set_option maxRecDepth 20000 in
theorem ggX3_send_X3_between : GoodIn wsX3_send wsX3_between := goodIn_r _ [13] (by decide +kernel) (by decide +kernel)
set_option maxRecDepth 20000 in
theorem gX3_send_X3_between : GoodIn wsX3_send (wsV RX3 65 RX3 yX3_between wsX3_between) := goodIn_app (goodIn_of _ (by decide +kernel)) ggX3_send_X3_between
set_option maxRecDepth 20000 in
theorem ggX3_send_X3_isNode : GoodIn wsX3_send wsX3_isNode := goodIn_r _ [17, 9, 10, 11, 12, 13] (by decide +kernel) (by decide +kernel)
set_option maxRecDepth 20000 in
theorem gX3_send_X3_isNode : GoodIn wsX3_send (wsV RX3 83 RX3 yX3_isNode wsX3_isNode) := goodIn_app (goodIn_of _ (by decide +kernel)) ggX3_send_X3_isNode
set_option maxRecDepth 20000 in
theorem ggX3_send_X3_holds : GoodIn wsX3_send wsX3_holds := goodIn_r _ [21, 22, 41, 42, 43, 44, 45, 46, 47, 48, 49, 50, 51, 52, 53, 54, 55, 56, 57, 58, 59, 60, 61] (by decide +kernel) (by decide +kernel)
set_option maxRecDepth 20000 in
theorem gX3_send_X3_holds : GoodIn wsX3_send (wsV RX3 87 RX3 yX3_holds wsX3_holds) := goodIn_app (goodIn_of _ (by decide +kernel)) ggX3_send_X3_holds
set_option maxRecDepth 20000 in
theorem ggX3_send_X3_hasRoom : GoodIn wsX3_send wsX3_hasRoom := goodIn_r _ [26, 27, 3, 8, 28, 29, 30, 31, 12, 32, 1, 33, 34, 35, 36, 6, 37, 38, 39, 40, 4, 41, 42, 43, 44, 45, 46, 47, 48, 49, 50, 51, 52, 53, 54, 55, 56, 57, 58, 59, 60, 61] (by decide +kernel) (by decide +kernel)
set_option maxRecDepth 20000 in
theorem gX3_send_X3_hasRoom : GoodIn wsX3_send (wsV RX3 90 RX3 yX3_hasRoom wsX3_hasRoom) := goodIn_app (goodIn_of _ (by decide +kernel)) ggX3_send_X3_hasRoom
theorem dX3_send_0 : decode cX3_send 0 = .ok (.iload_n 1, 1) := by decide +kernel
theorem dX3_send_1 : decode cX3_send 1 = .ok (.iload_n 2, 1) := by decide +kernel
theorem dX3_send_2 : decode cX3_send 2 = .ok (.if_icmp .eq 42, 3) := by decide +kernel
theorem dX3_send_5 : decode cX3_send 5 = .ok (.aload_n 0, 1) := by decide +kernel
theorem dX3_send_6 : decode cX3_send 6 = .ok (.iload_n 3, 1) := by decide +kernel
theorem dX3_send_7 : decode cX3_send 7 = .ok (.iconst 0, 1) := by decide +kernel
theorem dX3_send_8 : decode cX3_send 8 = .ok (.iconst 2, 1) := by decide +kernel
theorem dX3_send_9 : decode cX3_send 9 = .ok (.invokevirtual 65, 3) := by decide +kernel
theorem dX3_send_12 : decode cX3_send 12 = .ok (.ifCond .eq 32, 3) := by decide +kernel
theorem dX3_send_15 : decode cX3_send 15 = .ok (.aload_n 0, 1) := by decide +kernel
theorem dX3_send_16 : decode cX3_send 16 = .ok (.iload 4, 2) := by decide +kernel
theorem dX3_send_18 : decode cX3_send 18 = .ok (.iconst 1, 1) := by decide +kernel
theorem dX3_send_19 : decode cX3_send 19 = .ok (.bipush 64, 2) := by decide +kernel
theorem dX3_send_21 : decode cX3_send 21 = .ok (.invokevirtual 65, 3) := by decide +kernel
theorem dX3_send_24 : decode cX3_send 24 = .ok (.ifCond .eq 20, 3) := by decide +kernel
theorem dX3_send_27 : decode cX3_send 27 = .ok (.aload_n 0, 1) := by decide +kernel
theorem dX3_send_28 : decode cX3_send 28 = .ok (.iload 5, 2) := by decide +kernel
theorem dX3_send_30 : decode cX3_send 30 = .ok (.iconst 1, 1) := by decide +kernel
theorem dX3_send_31 : decode cX3_send 31 = .ok (.sipush 10000, 3) := by decide +kernel
theorem dX3_send_34 : decode cX3_send 34 = .ok (.invokevirtual 65, 3) := by decide +kernel
theorem dX3_send_37 : decode cX3_send 37 = .ok (.ifCond .eq 7, 3) := by decide +kernel
theorem dX3_send_40 : decode cX3_send 40 = .ok (.iconst 1, 1) := by decide +kernel
theorem dX3_send_41 : decode cX3_send 41 = .ok (.goto 4, 3) := by decide +kernel
theorem dX3_send_44 : decode cX3_send 44 = .ok (.iconst 0, 1) := by decide +kernel
theorem dX3_send_45 : decode cX3_send 45 = .ok (.istore 6, 2) := by decide +kernel
theorem dX3_send_47 : decode cX3_send 47 = .ok (.aload_n 0, 1) := by decide +kernel
theorem dX3_send_48 : decode cX3_send 48 = .ok (.aload_n 0, 1) := by decide +kernel
theorem dX3_send_49 : decode cX3_send 49 = .ok (.iload_n 1, 1) := by decide +kernel
theorem dX3_send_50 : decode cX3_send 50 = .ok (.invokevirtual 83, 3) := by decide +kernel
theorem dX3_send_53 : decode cX3_send 53 = .ok (.ifCond .eq 11, 3) := by decide +kernel
theorem dX3_send_56 : decode cX3_send 56 = .ok (.aload_n 0, 1) := by decide +kernel
theorem dX3_send_57 : decode cX3_send 57 = .ok (.iload_n 2, 1) := by decide +kernel
theorem dX3_send_58 : decode cX3_send 58 = .ok (.invokevirtual 83, 3) := by decide +kernel
theorem dX3_send_61 : decode cX3_send 61 = .ok (.ifCond .ne 7, 3) := by decide +kernel
theorem dX3_send_64 : decode cX3_send 64 = .ok (.iconst 1, 1) := by decide +kernel
theorem dX3_send_65 : decode cX3_send 65 = .ok (.goto 26, 3) := by decide +kernel
theorem dX3_send_68 : decode cX3_send 68 = .ok (.iload 6, 2) := by decide +kernel
theorem dX3_send_70 : decode cX3_send 70 = .ok (.ifCond .ne 7, 3) := by decide +kernel
theorem dX3_send_73 : decode cX3_send 73 = .ok (.iconst 2, 1) := by decide +kernel
theorem dX3_send_74 : decode cX3_send 74 = .ok (.goto 17, 3) := by decide +kernel
theorem dX3_send_77 : decode cX3_send 77 = .ok (.aload_n 0, 1) := by decide +kernel
theorem dX3_send_78 : decode cX3_send 78 = .ok (.getfield 69, 3) := by decide +kernel
theorem dX3_send_81 : decode cX3_send 81 = .ok (.bipush 40, 2) := by decide +kernel
theorem dX3_send_83 : decode cX3_send 83 = .ok (.if_icmp .ne 7, 3) := by decide +kernel
theorem dX3_send_86 : decode cX3_send 86 = .ok (.iconst 3, 1) := by decide +kernel
theorem dX3_send_87 : decode cX3_send 87 = .ok (.goto 4, 3) := by decide +kernel
theorem dX3_send_90 : decode cX3_send 90 = .ok (.iconst 0, 1) := by decide +kernel
theorem dX3_send_91 : decode cX3_send 91 = .ok (.invokevirtual 87, 3) := by decide +kernel
theorem dX3_send_94 : decode cX3_send 94 = .ok (.ifCond .eq 5, 3) := by decide +kernel
theorem dX3_send_97 : decode cX3_send 97 = .ok (.iconst (-1), 1) := by decide +kernel
theorem dX3_send_98 : decode cX3_send 98 = .ok (.ireturn, 1) := by decide +kernel
theorem dX3_send_99 : decode cX3_send 99 = .ok (.aload_n 0, 1) := by decide +kernel
theorem dX3_send_100 : decode cX3_send 100 = .ok (.aload_n 0, 1) := by decide +kernel
theorem dX3_send_101 : decode cX3_send 101 = .ok (.iload_n 1, 1) := by decide +kernel
theorem dX3_send_102 : decode cX3_send 102 = .ok (.iload_n 3, 1) := by decide +kernel
theorem dX3_send_103 : decode cX3_send 103 = .ok (.invokevirtual 90, 3) := by decide +kernel
theorem dX3_send_106 : decode cX3_send 106 = .ok (.ifCond .eq 7, 3) := by decide +kernel
theorem dX3_send_109 : decode cX3_send 109 = .ok (.iconst 0, 1) := by decide +kernel
theorem dX3_send_110 : decode cX3_send 110 = .ok (.goto 4, 3) := by decide +kernel
theorem dX3_send_113 : decode cX3_send 113 = .ok (.iconst 3, 1) := by decide +kernel
theorem dX3_send_114 : decode cX3_send 114 = .ok (.invokevirtual 87, 3) := by decide +kernel
theorem dX3_send_117 : decode cX3_send 117 = .ok (.ifCond .eq 5, 3) := by decide +kernel
theorem dX3_send_120 : decode cX3_send 120 = .ok (.iconst (-1), 1) := by decide +kernel
theorem dX3_send_121 : decode cX3_send 121 = .ok (.ireturn, 1) := by decide +kernel
theorem dX3_send_122 : decode cX3_send 122 = .ok (.aload_n 0, 1) := by decide +kernel
theorem dX3_send_123 : decode cX3_send 123 = .ok (.getfield 7, 3) := by decide +kernel
theorem dX3_send_126 : decode cX3_send 126 = .ok (.aload_n 0, 1) := by decide +kernel
theorem dX3_send_127 : decode cX3_send 127 = .ok (.getfield 69, 3) := by decide +kernel
theorem dX3_send_130 : decode cX3_send 130 = .ok (.iload_n 2, 1) := by decide +kernel
theorem dX3_send_131 : decode cX3_send 131 = .ok (.iastore, 1) := by decide +kernel
theorem dX3_send_132 : decode cX3_send 132 = .ok (.aload_n 0, 1) := by decide +kernel
theorem dX3_send_133 : decode cX3_send 133 = .ok (.getfield 13, 3) := by decide +kernel
theorem dX3_send_136 : decode cX3_send 136 = .ok (.aload_n 0, 1) := by decide +kernel
theorem dX3_send_137 : decode cX3_send 137 = .ok (.getfield 69, 3) := by decide +kernel
theorem dX3_send_140 : decode cX3_send 140 = .ok (.iload_n 3, 1) := by decide +kernel
theorem dX3_send_141 : decode cX3_send 141 = .ok (.iastore, 1) := by decide +kernel
theorem dX3_send_142 : decode cX3_send 142 = .ok (.aload_n 0, 1) := by decide +kernel
theorem dX3_send_143 : decode cX3_send 143 = .ok (.getfield 16, 3) := by decide +kernel
theorem dX3_send_146 : decode cX3_send 146 = .ok (.aload_n 0, 1) := by decide +kernel
theorem dX3_send_147 : decode cX3_send 147 = .ok (.getfield 69, 3) := by decide +kernel
theorem dX3_send_150 : decode cX3_send 150 = .ok (.aload_n 0, 1) := by decide +kernel
theorem dX3_send_151 : decode cX3_send 151 = .ok (.getfield 93, 3) := by decide +kernel
theorem dX3_send_154 : decode cX3_send 154 = .ok (.iload 5, 2) := by decide +kernel
theorem dX3_send_156 : decode cX3_send 156 = .ok (.iadd, 1) := by decide +kernel
theorem dX3_send_157 : decode cX3_send 157 = .ok (.iastore, 1) := by decide +kernel
theorem dX3_send_158 : decode cX3_send 158 = .ok (.aload_n 0, 1) := by decide +kernel
theorem dX3_send_159 : decode cX3_send 159 = .ok (.getfield 19, 3) := by decide +kernel
theorem dX3_send_162 : decode cX3_send 162 = .ok (.aload_n 0, 1) := by decide +kernel
theorem dX3_send_163 : decode cX3_send 163 = .ok (.getfield 69, 3) := by decide +kernel
theorem dX3_send_166 : decode cX3_send 166 = .ok (.iload_n 1, 1) := by decide +kernel
theorem dX3_send_167 : decode cX3_send 167 = .ok (.iastore, 1) := by decide +kernel
theorem dX3_send_168 : decode cX3_send 168 = .ok (.aload_n 0, 1) := by decide +kernel
theorem dX3_send_169 : decode cX3_send 169 = .ok (.getfield 22, 3) := by decide +kernel
theorem dX3_send_172 : decode cX3_send 172 = .ok (.aload_n 0, 1) := by decide +kernel
theorem dX3_send_173 : decode cX3_send 173 = .ok (.getfield 69, 3) := by decide +kernel
theorem dX3_send_176 : decode cX3_send 176 = .ok (.iconst (-1), 1) := by decide +kernel
theorem dX3_send_177 : decode cX3_send 177 = .ok (.iastore, 1) := by decide +kernel
theorem dX3_send_178 : decode cX3_send 178 = .ok (.aload_n 0, 1) := by decide +kernel
theorem dX3_send_179 : decode cX3_send 179 = .ok (.getfield 28, 3) := by decide +kernel
theorem dX3_send_182 : decode cX3_send 182 = .ok (.bipush 40, 2) := by decide +kernel
theorem dX3_send_184 : decode cX3_send 184 = .ok (.iload_n 1, 1) := by decide +kernel
theorem dX3_send_185 : decode cX3_send 185 = .ok (.imul, 1) := by decide +kernel
theorem dX3_send_186 : decode cX3_send 186 = .ok (.aload_n 0, 1) := by decide +kernel
theorem dX3_send_187 : decode cX3_send 187 = .ok (.getfield 69, 3) := by decide +kernel
theorem dX3_send_190 : decode cX3_send 190 = .ok (.iadd, 1) := by decide +kernel
theorem dX3_send_191 : decode cX3_send 191 = .ok (.iload 4, 2) := by decide +kernel
theorem dX3_send_193 : decode cX3_send 193 = .ok (.iastore, 1) := by decide +kernel
theorem dX3_send_194 : decode cX3_send 194 = .ok (.aload_n 0, 1) := by decide +kernel
theorem dX3_send_195 : decode cX3_send 195 = .ok (.dup, 1) := by decide +kernel
theorem dX3_send_196 : decode cX3_send 196 = .ok (.getfield 69, 3) := by decide +kernel
theorem dX3_send_199 : decode cX3_send 199 = .ok (.iconst 1, 1) := by decide +kernel
theorem dX3_send_200 : decode cX3_send 200 = .ok (.iadd, 1) := by decide +kernel
theorem dX3_send_201 : decode cX3_send 201 = .ok (.putfield 69, 3) := by decide +kernel
theorem dX3_send_204 : decode cX3_send 204 = .ok (.aload_n 0, 1) := by decide +kernel
theorem dX3_send_205 : decode cX3_send 205 = .ok (.getfield 69, 3) := by decide +kernel
theorem dX3_send_208 : decode cX3_send 208 = .ok (.iconst 1, 1) := by decide +kernel
theorem dX3_send_209 : decode cX3_send 209 = .ok (.isub, 1) := by decide +kernel
theorem dX3_send_210 : decode cX3_send 210 = .ok (.ireturn, 1) := by decide +kernel
set_option maxRecDepth 20000 in
theorem ggX3_talk_X3_learn : GoodIn wsX3_talk wsX3_learn := goodIn_r _ [7, 2, 8, 9, 10, 11, 12, 13, 14, 15, 16, 17, 18, 19, 20, 21, 22, 23, 24, 25, 26, 27, 28, 29, 30] (by decide +kernel) (by decide +kernel)
set_option maxRecDepth 20000 in
theorem gX3_talk_X3_learn : GoodIn wsX3_talk (wsV RX3 96 RX3 yX3_learn wsX3_learn) := goodIn_app (goodIn_of _ (by decide +kernel)) ggX3_talk_X3_learn
theorem dX3_talk_0 : decode cX3_talk 0 = .ok (.iconst 0, 1) := by decide +kernel
theorem dX3_talk_1 : decode cX3_talk 1 = .ok (.istore_n 3, 1) := by decide +kernel
theorem dX3_talk_2 : decode cX3_talk 2 = .ok (.iload_n 3, 1) := by decide +kernel
theorem dX3_talk_3 : decode cX3_talk 3 = .ok (.aload_n 0, 1) := by decide +kernel
theorem dX3_talk_4 : decode cX3_talk 4 = .ok (.getfield 69, 3) := by decide +kernel
theorem dX3_talk_7 : decode cX3_talk 7 = .ok (.if_icmp .ge 48, 3) := by decide +kernel
theorem dX3_talk_10 : decode cX3_talk 10 = .ok (.aload_n 0, 1) := by decide +kernel
theorem dX3_talk_11 : decode cX3_talk 11 = .ok (.getfield 34, 3) := by decide +kernel
theorem dX3_talk_14 : decode cX3_talk 14 = .ok (.bipush 40, 2) := by decide +kernel
theorem dX3_talk_16 : decode cX3_talk 16 = .ok (.iload_n 1, 1) := by decide +kernel
theorem dX3_talk_17 : decode cX3_talk 17 = .ok (.imul, 1) := by decide +kernel
theorem dX3_talk_18 : decode cX3_talk 18 = .ok (.iload_n 3, 1) := by decide +kernel
theorem dX3_talk_19 : decode cX3_talk 19 = .ok (.iadd, 1) := by decide +kernel
theorem dX3_talk_20 : decode cX3_talk 20 = .ok (.iaload, 1) := by decide +kernel
theorem dX3_talk_21 : decode cX3_talk 21 = .ok (.aload_n 0, 1) := by decide +kernel
theorem dX3_talk_22 : decode cX3_talk 22 = .ok (.getfield 34, 3) := by decide +kernel
theorem dX3_talk_25 : decode cX3_talk 25 = .ok (.bipush 40, 2) := by decide +kernel
theorem dX3_talk_27 : decode cX3_talk 27 = .ok (.iload_n 2, 1) := by decide +kernel
theorem dX3_talk_28 : decode cX3_talk 28 = .ok (.imul, 1) := by decide +kernel
theorem dX3_talk_29 : decode cX3_talk 29 = .ok (.iload_n 3, 1) := by decide +kernel
theorem dX3_talk_30 : decode cX3_talk 30 = .ok (.iadd, 1) := by decide +kernel
theorem dX3_talk_31 : decode cX3_talk 31 = .ok (.iaload, 1) := by decide +kernel
theorem dX3_talk_32 : decode cX3_talk 32 = .ok (.iadd, 1) := by decide +kernel
theorem dX3_talk_33 : decode cX3_talk 33 = .ok (.iconst 1, 1) := by decide +kernel
theorem dX3_talk_34 : decode cX3_talk 34 = .ok (.if_icmp .ne 15, 3) := by decide +kernel
theorem dX3_talk_37 : decode cX3_talk 37 = .ok (.aload_n 0, 1) := by decide +kernel
theorem dX3_talk_38 : decode cX3_talk 38 = .ok (.iload_n 1, 1) := by decide +kernel
theorem dX3_talk_39 : decode cX3_talk 39 = .ok (.iload_n 3, 1) := by decide +kernel
theorem dX3_talk_40 : decode cX3_talk 40 = .ok (.invokevirtual 96, 3) := by decide +kernel
theorem dX3_talk_43 : decode cX3_talk 43 = .ok (.aload_n 0, 1) := by decide +kernel
theorem dX3_talk_44 : decode cX3_talk 44 = .ok (.iload_n 2, 1) := by decide +kernel
theorem dX3_talk_45 : decode cX3_talk 45 = .ok (.iload_n 3, 1) := by decide +kernel
theorem dX3_talk_46 : decode cX3_talk 46 = .ok (.invokevirtual 96, 3) := by decide +kernel
theorem dX3_talk_49 : decode cX3_talk 49 = .ok (.iinc 3 1, 3) := by decide +kernel
theorem dX3_talk_52 : decode cX3_talk 52 = .ok (.goto (-50), 3) := by decide +kernel
theorem dX3_talk_55 : decode cX3_talk 55 = .ok (.return_, 1) := by decide +kernel
theorem dX3_wants_0 : decode cX3_wants 0 = .ok (.aload_n 0, 1) := by decide +kernel
theorem dX3_wants_1 : decode cX3_wants 1 = .ok (.getfield 28, 3) := by decide +kernel
theorem dX3_wants_4 : decode cX3_wants 4 = .ok (.bipush 40, 2) := by decide +kernel
theorem dX3_wants_6 : decode cX3_wants 6 = .ok (.iload_n 1, 1) := by decide +kernel
theorem dX3_wants_7 : decode cX3_wants 7 = .ok (.imul, 1) := by decide +kernel
theorem dX3_wants_8 : decode cX3_wants 8 = .ok (.iload_n 3, 1) := by decide +kernel
theorem dX3_wants_9 : decode cX3_wants 9 = .ok (.iadd, 1) := by decide +kernel
theorem dX3_wants_10 : decode cX3_wants 10 = .ok (.iaload, 1) := by decide +kernel
theorem dX3_wants_11 : decode cX3_wants 11 = .ok (.istore 5, 2) := by decide +kernel
theorem dX3_wants_13 : decode cX3_wants 13 = .ok (.iload 4, 2) := by decide +kernel
theorem dX3_wants_15 : decode cX3_wants 15 = .ok (.ifCond .eq 24, 3) := by decide +kernel
theorem dX3_wants_18 : decode cX3_wants 18 = .ok (.iload 5, 2) := by decide +kernel
theorem dX3_wants_20 : decode cX3_wants 20 = .ok (.ifCond .le 17, 3) := by decide +kernel
theorem dX3_wants_23 : decode cX3_wants 23 = .ok (.aload_n 0, 1) := by decide +kernel
theorem dX3_wants_24 : decode cX3_wants 24 = .ok (.getfield 7, 3) := by decide +kernel
theorem dX3_wants_27 : decode cX3_wants 27 = .ok (.iload_n 3, 1) := by decide +kernel
theorem dX3_wants_28 : decode cX3_wants 28 = .ok (.iaload, 1) := by decide +kernel
theorem dX3_wants_29 : decode cX3_wants 29 = .ok (.iload_n 2, 1) := by decide +kernel
theorem dX3_wants_30 : decode cX3_wants 30 = .ok (.if_icmp .ne 7, 3) := by decide +kernel
theorem dX3_wants_33 : decode cX3_wants 33 = .ok (.iconst 1, 1) := by decide +kernel
theorem dX3_wants_34 : decode cX3_wants 34 = .ok (.goto 4, 3) := by decide +kernel
theorem dX3_wants_37 : decode cX3_wants 37 = .ok (.iconst 0, 1) := by decide +kernel
theorem dX3_wants_38 : decode cX3_wants 38 = .ok (.ireturn, 1) := by decide +kernel
theorem dX3_wants_39 : decode cX3_wants 39 = .ok (.iload 5, 2) := by decide +kernel
theorem dX3_wants_41 : decode cX3_wants 41 = .ok (.iconst 1, 1) := by decide +kernel
theorem dX3_wants_42 : decode cX3_wants 42 = .ok (.if_icmp .le 41, 3) := by decide +kernel
theorem dX3_wants_45 : decode cX3_wants 45 = .ok (.aload_n 0, 1) := by decide +kernel
theorem dX3_wants_46 : decode cX3_wants 46 = .ok (.getfield 7, 3) := by decide +kernel
theorem dX3_wants_49 : decode cX3_wants 49 = .ok (.iload_n 3, 1) := by decide +kernel
theorem dX3_wants_50 : decode cX3_wants 50 = .ok (.iaload, 1) := by decide +kernel
theorem dX3_wants_51 : decode cX3_wants 51 = .ok (.iload_n 2, 1) := by decide +kernel
theorem dX3_wants_52 : decode cX3_wants 52 = .ok (.if_icmp .eq 31, 3) := by decide +kernel
theorem dX3_wants_55 : decode cX3_wants 55 = .ok (.aload_n 0, 1) := by decide +kernel
theorem dX3_wants_56 : decode cX3_wants 56 = .ok (.getfield 7, 3) := by decide +kernel
theorem dX3_wants_59 : decode cX3_wants 59 = .ok (.iload_n 3, 1) := by decide +kernel
theorem dX3_wants_60 : decode cX3_wants 60 = .ok (.iaload, 1) := by decide +kernel
theorem dX3_wants_61 : decode cX3_wants 61 = .ok (.iload_n 1, 1) := by decide +kernel
theorem dX3_wants_62 : decode cX3_wants 62 = .ok (.if_icmp .eq 21, 3) := by decide +kernel
theorem dX3_wants_65 : decode cX3_wants 65 = .ok (.aload_n 0, 1) := by decide +kernel
theorem dX3_wants_66 : decode cX3_wants 66 = .ok (.getfield 28, 3) := by decide +kernel
theorem dX3_wants_69 : decode cX3_wants 69 = .ok (.bipush 40, 2) := by decide +kernel
theorem dX3_wants_71 : decode cX3_wants 71 = .ok (.iload_n 2, 1) := by decide +kernel
theorem dX3_wants_72 : decode cX3_wants 72 = .ok (.imul, 1) := by decide +kernel
theorem dX3_wants_73 : decode cX3_wants 73 = .ok (.iload_n 3, 1) := by decide +kernel
theorem dX3_wants_74 : decode cX3_wants 74 = .ok (.iadd, 1) := by decide +kernel
theorem dX3_wants_75 : decode cX3_wants 75 = .ok (.iaload, 1) := by decide +kernel
theorem dX3_wants_76 : decode cX3_wants 76 = .ok (.ifCond .ne 7, 3) := by decide +kernel
theorem dX3_wants_79 : decode cX3_wants 79 = .ok (.iconst 1, 1) := by decide +kernel
theorem dX3_wants_80 : decode cX3_wants 80 = .ok (.goto 4, 3) := by decide +kernel
theorem dX3_wants_83 : decode cX3_wants 83 = .ok (.iconst 0, 1) := by decide +kernel
theorem dX3_wants_84 : decode cX3_wants 84 = .ok (.ireturn, 1) := by decide +kernel
set_option maxRecDepth 20000 in
theorem ggX3_gather_X3_wants : GoodIn wsX3_gather wsX3_wants := goodIn_r _ [8, 9, 10, 17, 18, 19, 20, 21, 22, 23, 24, 25, 26, 27, 28, 29, 30, 31, 32, 33, 34, 35, 36, 37] (by decide +kernel) (by decide +kernel)
set_option maxRecDepth 20000 in
theorem gX3_gather_X3_wants : GoodIn wsX3_gather (wsV RX3 100 RX3 yX3_wants wsX3_wants) := goodIn_app (goodIn_of _ (by decide +kernel)) ggX3_gather_X3_wants
set_option maxRecDepth 20000 in
theorem ggX3_gather_X3_precedes : GoodIn wsX3_gather wsX3_precedes := goodIn_r _ [14, 15, 16, 17, 18, 19, 20, 21, 22, 23, 24, 25, 26, 27, 28, 29, 30, 31, 32, 33, 34, 35, 36, 37] (by decide +kernel) (by decide +kernel)
set_option maxRecDepth 20000 in
theorem gX3_gather_X3_precedes : GoodIn wsX3_gather (wsV RX3 72 RX3 yX3_precedes wsX3_precedes) := goodIn_app (goodIn_of _ (by decide +kernel)) ggX3_gather_X3_precedes
theorem dX3_gather_0 : decode cX3_gather 0 = .ok (.iload 4, 2) := by decide +kernel
theorem dX3_gather_2 : decode cX3_gather 2 = .ok (.istore 5, 2) := by decide +kernel
theorem dX3_gather_4 : decode cX3_gather 4 = .ok (.iconst 0, 1) := by decide +kernel
theorem dX3_gather_5 : decode cX3_gather 5 = .ok (.istore 6, 2) := by decide +kernel
theorem dX3_gather_7 : decode cX3_gather 7 = .ok (.iload 6, 2) := by decide +kernel
theorem dX3_gather_9 : decode cX3_gather 9 = .ok (.aload_n 0, 1) := by decide +kernel
theorem dX3_gather_10 : decode cX3_gather 10 = .ok (.getfield 69, 3) := by decide +kernel
theorem dX3_gather_13 : decode cX3_gather 13 = .ok (.if_icmp .ge 133, 3) := by decide +kernel
theorem dX3_gather_16 : decode cX3_gather 16 = .ok (.aload_n 0, 1) := by decide +kernel
theorem dX3_gather_17 : decode cX3_gather 17 = .ok (.iload_n 2, 1) := by decide +kernel
theorem dX3_gather_18 : decode cX3_gather 18 = .ok (.iload_n 1, 1) := by decide +kernel
theorem dX3_gather_19 : decode cX3_gather 19 = .ok (.iload 6, 2) := by decide +kernel
theorem dX3_gather_21 : decode cX3_gather 21 = .ok (.iload_n 3, 1) := by decide +kernel
theorem dX3_gather_22 : decode cX3_gather 22 = .ok (.invokevirtual 100, 3) := by decide +kernel
theorem dX3_gather_25 : decode cX3_gather 25 = .ok (.istore 7, 2) := by decide +kernel
theorem dX3_gather_27 : decode cX3_gather 27 = .ok (.iload 7, 2) := by decide +kernel
theorem dX3_gather_29 : decode cX3_gather 29 = .ok (.ifCond .ne 15, 3) := by decide +kernel
theorem dX3_gather_32 : decode cX3_gather 32 = .ok (.aload_n 0, 1) := by decide +kernel
theorem dX3_gather_33 : decode cX3_gather 33 = .ok (.iload_n 1, 1) := by decide +kernel
theorem dX3_gather_34 : decode cX3_gather 34 = .ok (.iload_n 2, 1) := by decide +kernel
theorem dX3_gather_35 : decode cX3_gather 35 = .ok (.iload 6, 2) := by decide +kernel
theorem dX3_gather_37 : decode cX3_gather 37 = .ok (.iload_n 3, 1) := by decide +kernel
theorem dX3_gather_38 : decode cX3_gather 38 = .ok (.invokevirtual 100, 3) := by decide +kernel
theorem dX3_gather_41 : decode cX3_gather 41 = .ok (.ifCond .eq 99, 3) := by decide +kernel
theorem dX3_gather_44 : decode cX3_gather 44 = .ok (.iload 5, 2) := by decide +kernel
theorem dX3_gather_46 : decode cX3_gather 46 = .ok (.istore 8, 2) := by decide +kernel
theorem dX3_gather_48 : decode cX3_gather 48 = .ok (.iload 8, 2) := by decide +kernel
theorem dX3_gather_50 : decode cX3_gather 50 = .ok (.iload 4, 2) := by decide +kernel
theorem dX3_gather_52 : decode cX3_gather 52 = .ok (.if_icmp .le 59, 3) := by decide +kernel
theorem dX3_gather_55 : decode cX3_gather 55 = .ok (.aload_n 0, 1) := by decide +kernel
theorem dX3_gather_56 : decode cX3_gather 56 = .ok (.iload 6, 2) := by decide +kernel
theorem dX3_gather_58 : decode cX3_gather 58 = .ok (.aload_n 0, 1) := by decide +kernel
theorem dX3_gather_59 : decode cX3_gather 59 = .ok (.getfield 49, 3) := by decide +kernel
theorem dX3_gather_62 : decode cX3_gather 62 = .ok (.iload 8, 2) := by decide +kernel
theorem dX3_gather_64 : decode cX3_gather 64 = .ok (.iconst 1, 1) := by decide +kernel
theorem dX3_gather_65 : decode cX3_gather 65 = .ok (.isub, 1) := by decide +kernel
theorem dX3_gather_66 : decode cX3_gather 66 = .ok (.iaload, 1) := by decide +kernel
theorem dX3_gather_67 : decode cX3_gather 67 = .ok (.invokevirtual 72, 3) := by decide +kernel
theorem dX3_gather_70 : decode cX3_gather 70 = .ok (.ifCond .eq 41, 3) := by decide +kernel
theorem dX3_gather_73 : decode cX3_gather 73 = .ok (.aload_n 0, 1) := by decide +kernel
theorem dX3_gather_74 : decode cX3_gather 74 = .ok (.getfield 49, 3) := by decide +kernel
theorem dX3_gather_77 : decode cX3_gather 77 = .ok (.iload 8, 2) := by decide +kernel
theorem dX3_gather_79 : decode cX3_gather 79 = .ok (.aload_n 0, 1) := by decide +kernel
theorem dX3_gather_80 : decode cX3_gather 80 = .ok (.getfield 49, 3) := by decide +kernel
theorem dX3_gather_83 : decode cX3_gather 83 = .ok (.iload 8, 2) := by decide +kernel
theorem dX3_gather_85 : decode cX3_gather 85 = .ok (.iconst 1, 1) := by decide +kernel
theorem dX3_gather_86 : decode cX3_gather 86 = .ok (.isub, 1) := by decide +kernel
theorem dX3_gather_87 : decode cX3_gather 87 = .ok (.iaload, 1) := by decide +kernel
theorem dX3_gather_88 : decode cX3_gather 88 = .ok (.iastore, 1) := by decide +kernel
theorem dX3_gather_89 : decode cX3_gather 89 = .ok (.aload_n 0, 1) := by decide +kernel
theorem dX3_gather_90 : decode cX3_gather 90 = .ok (.getfield 52, 3) := by decide +kernel
theorem dX3_gather_93 : decode cX3_gather 93 = .ok (.iload 8, 2) := by decide +kernel
theorem dX3_gather_95 : decode cX3_gather 95 = .ok (.aload_n 0, 1) := by decide +kernel
theorem dX3_gather_96 : decode cX3_gather 96 = .ok (.getfield 52, 3) := by decide +kernel
theorem dX3_gather_99 : decode cX3_gather 99 = .ok (.iload 8, 2) := by decide +kernel
theorem dX3_gather_101 : decode cX3_gather 101 = .ok (.iconst 1, 1) := by decide +kernel
theorem dX3_gather_102 : decode cX3_gather 102 = .ok (.isub, 1) := by decide +kernel
theorem dX3_gather_103 : decode cX3_gather 103 = .ok (.iaload, 1) := by decide +kernel
theorem dX3_gather_104 : decode cX3_gather 104 = .ok (.iastore, 1) := by decide +kernel
theorem dX3_gather_105 : decode cX3_gather 105 = .ok (.iinc 8 (-1), 3) := by decide +kernel
theorem dX3_gather_108 : decode cX3_gather 108 = .ok (.goto (-60), 3) := by decide +kernel
theorem dX3_gather_111 : decode cX3_gather 111 = .ok (.aload_n 0, 1) := by decide +kernel
theorem dX3_gather_112 : decode cX3_gather 112 = .ok (.getfield 49, 3) := by decide +kernel
theorem dX3_gather_115 : decode cX3_gather 115 = .ok (.iload 8, 2) := by decide +kernel
theorem dX3_gather_117 : decode cX3_gather 117 = .ok (.iload 6, 2) := by decide +kernel
theorem dX3_gather_119 : decode cX3_gather 119 = .ok (.iastore, 1) := by decide +kernel
theorem dX3_gather_120 : decode cX3_gather 120 = .ok (.aload_n 0, 1) := by decide +kernel
theorem dX3_gather_121 : decode cX3_gather 121 = .ok (.getfield 52, 3) := by decide +kernel
theorem dX3_gather_124 : decode cX3_gather 124 = .ok (.iload 8, 2) := by decide +kernel
theorem dX3_gather_126 : decode cX3_gather 126 = .ok (.iload 7, 2) := by decide +kernel
theorem dX3_gather_128 : decode cX3_gather 128 = .ok (.ifCond .eq 7, 3) := by decide +kernel
theorem dX3_gather_131 : decode cX3_gather 131 = .ok (.iload_n 2, 1) := by decide +kernel
theorem dX3_gather_132 : decode cX3_gather 132 = .ok (.goto 4, 3) := by decide +kernel
theorem dX3_gather_135 : decode cX3_gather 135 = .ok (.iload_n 1, 1) := by decide +kernel
theorem dX3_gather_136 : decode cX3_gather 136 = .ok (.iastore, 1) := by decide +kernel
theorem dX3_gather_137 : decode cX3_gather 137 = .ok (.iinc 5 1, 3) := by decide +kernel
theorem dX3_gather_140 : decode cX3_gather 140 = .ok (.iinc 6 1, 3) := by decide +kernel
theorem dX3_gather_143 : decode cX3_gather 143 = .ok (.goto (-136), 3) := by decide +kernel
theorem dX3_gather_146 : decode cX3_gather 146 = .ok (.iload 5, 2) := by decide +kernel
theorem dX3_gather_148 : decode cX3_gather 148 = .ok (.ireturn, 1) := by decide +kernel
set_option maxRecDepth 20000 in
theorem ggX3_deliver_X3_learn : GoodIn wsX3_deliver wsX3_learn := goodIn_r _ [9, 10, 11, 12, 13, 14, 15, 16, 17, 18, 19, 20, 21, 22, 23, 24, 25, 26, 27, 28, 29, 30, 31, 32, 33] (by decide +kernel) (by decide +kernel)
set_option maxRecDepth 20000 in
theorem gX3_deliver_X3_learn : GoodIn wsX3_deliver (wsV RX3 96 RX3 yX3_learn wsX3_learn) := goodIn_app (goodIn_of _ (by decide +kernel)) ggX3_deliver_X3_learn
theorem dX3_deliver_0 : decode cX3_deliver 0 = .ok (.aload_n 0, 1) := by decide +kernel
theorem dX3_deliver_1 : decode cX3_deliver 1 = .ok (.getfield 22, 3) := by decide +kernel
theorem dX3_deliver_4 : decode cX3_deliver 4 = .ok (.iload_n 3, 1) := by decide +kernel
theorem dX3_deliver_5 : decode cX3_deliver 5 = .ok (.aload_n 0, 1) := by decide +kernel
theorem dX3_deliver_6 : decode cX3_deliver 6 = .ok (.getfield 93, 3) := by decide +kernel
theorem dX3_deliver_9 : decode cX3_deliver 9 = .ok (.iastore, 1) := by decide +kernel
theorem dX3_deliver_10 : decode cX3_deliver 10 = .ok (.aload_n 0, 1) := by decide +kernel
theorem dX3_deliver_11 : decode cX3_deliver 11 = .ok (.getfield 25, 3) := by decide +kernel
theorem dX3_deliver_14 : decode cX3_deliver 14 = .ok (.iload_n 3, 1) := by decide +kernel
theorem dX3_deliver_15 : decode cX3_deliver 15 = .ok (.aload_n 0, 1) := by decide +kernel
theorem dX3_deliver_16 : decode cX3_deliver 16 = .ok (.getfield 31, 3) := by decide +kernel
theorem dX3_deliver_19 : decode cX3_deliver 19 = .ok (.bipush 40, 2) := by decide +kernel
theorem dX3_deliver_21 : decode cX3_deliver 21 = .ok (.iload_n 1, 1) := by decide +kernel
theorem dX3_deliver_22 : decode cX3_deliver 22 = .ok (.imul, 1) := by decide +kernel
theorem dX3_deliver_23 : decode cX3_deliver 23 = .ok (.iload_n 3, 1) := by decide +kernel
theorem dX3_deliver_24 : decode cX3_deliver 24 = .ok (.iadd, 1) := by decide +kernel
theorem dX3_deliver_25 : decode cX3_deliver 25 = .ok (.iaload, 1) := by decide +kernel
theorem dX3_deliver_26 : decode cX3_deliver 26 = .ok (.iconst 1, 1) := by decide +kernel
theorem dX3_deliver_27 : decode cX3_deliver 27 = .ok (.iadd, 1) := by decide +kernel
theorem dX3_deliver_28 : decode cX3_deliver 28 = .ok (.iastore, 1) := by decide +kernel
theorem dX3_deliver_29 : decode cX3_deliver 29 = .ok (.aload_n 0, 1) := by decide +kernel
theorem dX3_deliver_30 : decode cX3_deliver 30 = .ok (.iload_n 1, 1) := by decide +kernel
theorem dX3_deliver_31 : decode cX3_deliver 31 = .ok (.iload_n 3, 1) := by decide +kernel
theorem dX3_deliver_32 : decode cX3_deliver 32 = .ok (.invokevirtual 96, 3) := by decide +kernel
theorem dX3_deliver_35 : decode cX3_deliver 35 = .ok (.aload_n 0, 1) := by decide +kernel
theorem dX3_deliver_36 : decode cX3_deliver 36 = .ok (.iload_n 2, 1) := by decide +kernel
theorem dX3_deliver_37 : decode cX3_deliver 37 = .ok (.iload_n 3, 1) := by decide +kernel
theorem dX3_deliver_38 : decode cX3_deliver 38 = .ok (.invokevirtual 96, 3) := by decide +kernel
theorem dX3_deliver_41 : decode cX3_deliver 41 = .ok (.iconst 1, 1) := by decide +kernel
theorem dX3_deliver_42 : decode cX3_deliver 42 = .ok (.ireturn, 1) := by decide +kernel
set_option maxRecDepth 20000 in
theorem ggX3_spray_X3_hasRoom : GoodIn wsX3_spray wsX3_hasRoom := goodIn_r _ [9, 10, 2, 1, 11, 12, 13, 14, 8, 15, 16, 17, 18, 19, 20, 21, 22, 23, 24, 25, 26, 27, 28, 29, 30, 31, 32, 33, 34, 35, 36, 37, 38, 39, 40, 41, 42, 43, 44, 45, 46, 47] (by decide +kernel) (by decide +kernel)
set_option maxRecDepth 20000 in
theorem gX3_spray_X3_hasRoom : GoodIn wsX3_spray (wsV RX3 90 RX3 yX3_hasRoom wsX3_hasRoom) := goodIn_app (goodIn_of _ (by decide +kernel)) ggX3_spray_X3_hasRoom
theorem dX3_spray_0 : decode cX3_spray 0 = .ok (.aload_n 0, 1) := by decide +kernel
theorem dX3_spray_1 : decode cX3_spray 1 = .ok (.getfield 28, 3) := by decide +kernel
theorem dX3_spray_4 : decode cX3_spray 4 = .ok (.bipush 40, 2) := by decide +kernel
theorem dX3_spray_6 : decode cX3_spray 6 = .ok (.iload_n 1, 1) := by decide +kernel
theorem dX3_spray_7 : decode cX3_spray 7 = .ok (.imul, 1) := by decide +kernel
theorem dX3_spray_8 : decode cX3_spray 8 = .ok (.iload_n 3, 1) := by decide +kernel
theorem dX3_spray_9 : decode cX3_spray 9 = .ok (.iadd, 1) := by decide +kernel
theorem dX3_spray_10 : decode cX3_spray 10 = .ok (.iaload, 1) := by decide +kernel
theorem dX3_spray_11 : decode cX3_spray 11 = .ok (.istore 4, 2) := by decide +kernel
theorem dX3_spray_13 : decode cX3_spray 13 = .ok (.iload 4, 2) := by decide +kernel
theorem dX3_spray_15 : decode cX3_spray 15 = .ok (.ifCond .ne 5, 3) := by decide +kernel
theorem dX3_spray_18 : decode cX3_spray 18 = .ok (.iconst 0, 1) := by decide +kernel
theorem dX3_spray_19 : decode cX3_spray 19 = .ok (.ireturn, 1) := by decide +kernel
theorem dX3_spray_20 : decode cX3_spray 20 = .ok (.aload_n 0, 1) := by decide +kernel
theorem dX3_spray_21 : decode cX3_spray 21 = .ok (.iload_n 2, 1) := by decide +kernel
theorem dX3_spray_22 : decode cX3_spray 22 = .ok (.aload_n 0, 1) := by decide +kernel
theorem dX3_spray_23 : decode cX3_spray 23 = .ok (.getfield 13, 3) := by decide +kernel
theorem dX3_spray_26 : decode cX3_spray 26 = .ok (.iload_n 3, 1) := by decide +kernel
theorem dX3_spray_27 : decode cX3_spray 27 = .ok (.iaload, 1) := by decide +kernel
theorem dX3_spray_28 : decode cX3_spray 28 = .ok (.invokevirtual 90, 3) := by decide +kernel
theorem dX3_spray_31 : decode cX3_spray 31 = .ok (.ifCond .ne 15, 3) := by decide +kernel
theorem dX3_spray_34 : decode cX3_spray 34 = .ok (.aload_n 0, 1) := by decide +kernel
theorem dX3_spray_35 : decode cX3_spray 35 = .ok (.getfield 43, 3) := by decide +kernel
theorem dX3_spray_38 : decode cX3_spray 38 = .ok (.iload_n 2, 1) := by decide +kernel
theorem dX3_spray_39 : decode cX3_spray 39 = .ok (.dup2, 1) := by decide +kernel
theorem dX3_spray_40 : decode cX3_spray 40 = .ok (.iaload, 1) := by decide +kernel
theorem dX3_spray_41 : decode cX3_spray 41 = .ok (.iconst 1, 1) := by decide +kernel
theorem dX3_spray_42 : decode cX3_spray 42 = .ok (.iadd, 1) := by decide +kernel
theorem dX3_spray_43 : decode cX3_spray 43 = .ok (.iastore, 1) := by decide +kernel
theorem dX3_spray_44 : decode cX3_spray 44 = .ok (.iconst 0, 1) := by decide +kernel
theorem dX3_spray_45 : decode cX3_spray 45 = .ok (.ireturn, 1) := by decide +kernel
theorem dX3_spray_46 : decode cX3_spray 46 = .ok (.aload_n 0, 1) := by decide +kernel
theorem dX3_spray_47 : decode cX3_spray 47 = .ok (.getfield 28, 3) := by decide +kernel
theorem dX3_spray_50 : decode cX3_spray 50 = .ok (.bipush 40, 2) := by decide +kernel
theorem dX3_spray_52 : decode cX3_spray 52 = .ok (.iload_n 2, 1) := by decide +kernel
theorem dX3_spray_53 : decode cX3_spray 53 = .ok (.imul, 1) := by decide +kernel
theorem dX3_spray_54 : decode cX3_spray 54 = .ok (.iload_n 3, 1) := by decide +kernel
theorem dX3_spray_55 : decode cX3_spray 55 = .ok (.iadd, 1) := by decide +kernel
theorem dX3_spray_56 : decode cX3_spray 56 = .ok (.iload 4, 2) := by decide +kernel
theorem dX3_spray_58 : decode cX3_spray 58 = .ok (.iconst 2, 1) := by decide +kernel
theorem dX3_spray_59 : decode cX3_spray 59 = .ok (.idiv, 1) := by decide +kernel
theorem dX3_spray_60 : decode cX3_spray 60 = .ok (.iastore, 1) := by decide +kernel
theorem dX3_spray_61 : decode cX3_spray 61 = .ok (.aload_n 0, 1) := by decide +kernel
theorem dX3_spray_62 : decode cX3_spray 62 = .ok (.getfield 28, 3) := by decide +kernel
theorem dX3_spray_65 : decode cX3_spray 65 = .ok (.bipush 40, 2) := by decide +kernel
theorem dX3_spray_67 : decode cX3_spray 67 = .ok (.iload_n 1, 1) := by decide +kernel
theorem dX3_spray_68 : decode cX3_spray 68 = .ok (.imul, 1) := by decide +kernel
theorem dX3_spray_69 : decode cX3_spray 69 = .ok (.iload_n 3, 1) := by decide +kernel
theorem dX3_spray_70 : decode cX3_spray 70 = .ok (.iadd, 1) := by decide +kernel
theorem dX3_spray_71 : decode cX3_spray 71 = .ok (.iload 4, 2) := by decide +kernel
theorem dX3_spray_73 : decode cX3_spray 73 = .ok (.iload 4, 2) := by decide +kernel
theorem dX3_spray_75 : decode cX3_spray 75 = .ok (.iconst 2, 1) := by decide +kernel
theorem dX3_spray_76 : decode cX3_spray 76 = .ok (.idiv, 1) := by decide +kernel
theorem dX3_spray_77 : decode cX3_spray 77 = .ok (.isub, 1) := by decide +kernel
theorem dX3_spray_78 : decode cX3_spray 78 = .ok (.iastore, 1) := by decide +kernel
theorem dX3_spray_79 : decode cX3_spray 79 = .ok (.aload_n 0, 1) := by decide +kernel
theorem dX3_spray_80 : decode cX3_spray 80 = .ok (.getfield 31, 3) := by decide +kernel
theorem dX3_spray_83 : decode cX3_spray 83 = .ok (.bipush 40, 2) := by decide +kernel
theorem dX3_spray_85 : decode cX3_spray 85 = .ok (.iload_n 2, 1) := by decide +kernel
theorem dX3_spray_86 : decode cX3_spray 86 = .ok (.imul, 1) := by decide +kernel
theorem dX3_spray_87 : decode cX3_spray 87 = .ok (.iload_n 3, 1) := by decide +kernel
theorem dX3_spray_88 : decode cX3_spray 88 = .ok (.iadd, 1) := by decide +kernel
theorem dX3_spray_89 : decode cX3_spray 89 = .ok (.aload_n 0, 1) := by decide +kernel
theorem dX3_spray_90 : decode cX3_spray 90 = .ok (.getfield 31, 3) := by decide +kernel
theorem dX3_spray_93 : decode cX3_spray 93 = .ok (.bipush 40, 2) := by decide +kernel
theorem dX3_spray_95 : decode cX3_spray 95 = .ok (.iload_n 1, 1) := by decide +kernel
theorem dX3_spray_96 : decode cX3_spray 96 = .ok (.imul, 1) := by decide +kernel
theorem dX3_spray_97 : decode cX3_spray 97 = .ok (.iload_n 3, 1) := by decide +kernel
theorem dX3_spray_98 : decode cX3_spray 98 = .ok (.iadd, 1) := by decide +kernel
theorem dX3_spray_99 : decode cX3_spray 99 = .ok (.iaload, 1) := by decide +kernel
theorem dX3_spray_100 : decode cX3_spray 100 = .ok (.iconst 1, 1) := by decide +kernel
theorem dX3_spray_101 : decode cX3_spray 101 = .ok (.iadd, 1) := by decide +kernel
theorem dX3_spray_102 : decode cX3_spray 102 = .ok (.iastore, 1) := by decide +kernel
theorem dX3_spray_103 : decode cX3_spray 103 = .ok (.iconst 1, 1) := by decide +kernel
theorem dX3_spray_104 : decode cX3_spray 104 = .ok (.ireturn, 1) := by decide +kernel
set_option maxRecDepth 20000 in
theorem ggX3_entrust_X3_reach : GoodIn wsX3_entrust wsX3_reach := goodIn_r _ [9, 10, 11, 12, 13, 14, 15, 16, 8, 17, 18, 19, 20, 21, 22, 23, 24, 25, 26, 27, 28, 29, 30, 31, 32, 33, 34, 35, 36, 37, 38, 39, 40, 41, 42, 43, 44, 45, 46, 47, 48, 49, 50, 51] (by decide +kernel) (by decide +kernel)
set_option maxRecDepth 20000 in
theorem gX3_entrust_X3_reach : GoodIn wsX3_entrust (wsV RX3 104 RX3 yX3_reach wsX3_reach) := goodIn_app (goodIn_of _ (by decide +kernel)) ggX3_entrust_X3_reach
theorem dX3_entrust_0 : decode cX3_entrust 0 = .ok (.iconst 0, 1) := by decide +kernel
theorem dX3_entrust_1 : decode cX3_entrust 1 = .ok (.istore_n 3, 1) := by decide +kernel
theorem dX3_entrust_2 : decode cX3_entrust 2 = .ok (.iload_n 3, 1) := by decide +kernel
theorem dX3_entrust_3 : decode cX3_entrust 3 = .ok (.aload_n 0, 1) := by decide +kernel
theorem dX3_entrust_4 : decode cX3_entrust 4 = .ok (.getfield 69, 3) := by decide +kernel
theorem dX3_entrust_7 : decode cX3_entrust 7 = .ok (.if_icmp .ge 143, 3) := by decide +kernel
theorem dX3_entrust_10 : decode cX3_entrust 10 = .ok (.aload_n 0, 1) := by decide +kernel
theorem dX3_entrust_11 : decode cX3_entrust 11 = .ok (.getfield 28, 3) := by decide +kernel
theorem dX3_entrust_14 : decode cX3_entrust 14 = .ok (.bipush 40, 2) := by decide +kernel
theorem dX3_entrust_16 : decode cX3_entrust 16 = .ok (.iload_n 1, 1) := by decide +kernel
theorem dX3_entrust_17 : decode cX3_entrust 17 = .ok (.imul, 1) := by decide +kernel
theorem dX3_entrust_18 : decode cX3_entrust 18 = .ok (.iload_n 3, 1) := by decide +kernel
theorem dX3_entrust_19 : decode cX3_entrust 19 = .ok (.iadd, 1) := by decide +kernel
theorem dX3_entrust_20 : decode cX3_entrust 20 = .ok (.iaload, 1) := by decide +kernel
theorem dX3_entrust_21 : decode cX3_entrust 21 = .ok (.ifCond .le 21, 3) := by decide +kernel
theorem dX3_entrust_24 : decode cX3_entrust 24 = .ok (.aload_n 0, 1) := by decide +kernel
theorem dX3_entrust_25 : decode cX3_entrust 25 = .ok (.getfield 28, 3) := by decide +kernel
theorem dX3_entrust_28 : decode cX3_entrust 28 = .ok (.bipush 40, 2) := by decide +kernel
theorem dX3_entrust_30 : decode cX3_entrust 30 = .ok (.iload_n 2, 1) := by decide +kernel
theorem dX3_entrust_31 : decode cX3_entrust 31 = .ok (.imul, 1) := by decide +kernel
theorem dX3_entrust_32 : decode cX3_entrust 32 = .ok (.iload_n 3, 1) := by decide +kernel
theorem dX3_entrust_33 : decode cX3_entrust 33 = .ok (.iadd, 1) := by decide +kernel
theorem dX3_entrust_34 : decode cX3_entrust 34 = .ok (.iaload, 1) := by decide +kernel
theorem dX3_entrust_35 : decode cX3_entrust 35 = .ok (.ifCond .le 7, 3) := by decide +kernel
theorem dX3_entrust_38 : decode cX3_entrust 38 = .ok (.iconst 1, 1) := by decide +kernel
theorem dX3_entrust_39 : decode cX3_entrust 39 = .ok (.goto 4, 3) := by decide +kernel
theorem dX3_entrust_42 : decode cX3_entrust 42 = .ok (.iconst 0, 1) := by decide +kernel
theorem dX3_entrust_43 : decode cX3_entrust 43 = .ok (.istore 4, 2) := by decide +kernel
theorem dX3_entrust_45 : decode cX3_entrust 45 = .ok (.iload 4, 2) := by decide +kernel
theorem dX3_entrust_47 : decode cX3_entrust 47 = .ok (.ifCond .eq 97, 3) := by decide +kernel
theorem dX3_entrust_50 : decode cX3_entrust 50 = .ok (.aload_n 0, 1) := by decide +kernel
theorem dX3_entrust_51 : decode cX3_entrust 51 = .ok (.getfield 19, 3) := by decide +kernel
theorem dX3_entrust_54 : decode cX3_entrust 54 = .ok (.iload_n 3, 1) := by decide +kernel
theorem dX3_entrust_55 : decode cX3_entrust 55 = .ok (.iaload, 1) := by decide +kernel
theorem dX3_entrust_56 : decode cX3_entrust 56 = .ok (.iload_n 1, 1) := by decide +kernel
theorem dX3_entrust_57 : decode cX3_entrust 57 = .ok (.if_icmp .eq 13, 3) := by decide +kernel
theorem dX3_entrust_60 : decode cX3_entrust 60 = .ok (.aload_n 0, 1) := by decide +kernel
theorem dX3_entrust_61 : decode cX3_entrust 61 = .ok (.getfield 19, 3) := by decide +kernel
theorem dX3_entrust_64 : decode cX3_entrust 64 = .ok (.iload_n 3, 1) := by decide +kernel
theorem dX3_entrust_65 : decode cX3_entrust 65 = .ok (.iaload, 1) := by decide +kernel
theorem dX3_entrust_66 : decode cX3_entrust 66 = .ok (.iload_n 2, 1) := by decide +kernel
theorem dX3_entrust_67 : decode cX3_entrust 67 = .ok (.if_icmp .ne 77, 3) := by decide +kernel
theorem dX3_entrust_70 : decode cX3_entrust 70 = .ok (.aload_n 0, 1) := by decide +kernel
theorem dX3_entrust_71 : decode cX3_entrust 71 = .ok (.getfield 19, 3) := by decide +kernel
theorem dX3_entrust_74 : decode cX3_entrust 74 = .ok (.iload_n 3, 1) := by decide +kernel
theorem dX3_entrust_75 : decode cX3_entrust 75 = .ok (.iaload, 1) := by decide +kernel
theorem dX3_entrust_76 : decode cX3_entrust 76 = .ok (.iload_n 1, 1) := by decide +kernel
theorem dX3_entrust_77 : decode cX3_entrust 77 = .ok (.if_icmp .ne 7, 3) := by decide +kernel
theorem dX3_entrust_80 : decode cX3_entrust 80 = .ok (.iload_n 2, 1) := by decide +kernel
theorem dX3_entrust_81 : decode cX3_entrust 81 = .ok (.goto 4, 3) := by decide +kernel
theorem dX3_entrust_84 : decode cX3_entrust 84 = .ok (.iload_n 1, 1) := by decide +kernel
theorem dX3_entrust_85 : decode cX3_entrust 85 = .ok (.istore 5, 2) := by decide +kernel
theorem dX3_entrust_87 : decode cX3_entrust 87 = .ok (.aload_n 0, 1) := by decide +kernel
theorem dX3_entrust_88 : decode cX3_entrust 88 = .ok (.aload_n 0, 1) := by decide +kernel
theorem dX3_entrust_89 : decode cX3_entrust 89 = .ok (.getfield 19, 3) := by decide +kernel
theorem dX3_entrust_92 : decode cX3_entrust 92 = .ok (.iload_n 3, 1) := by decide +kernel
theorem dX3_entrust_93 : decode cX3_entrust 93 = .ok (.iaload, 1) := by decide +kernel
theorem dX3_entrust_94 : decode cX3_entrust 94 = .ok (.aload_n 0, 1) := by decide +kernel
theorem dX3_entrust_95 : decode cX3_entrust 95 = .ok (.getfield 7, 3) := by decide +kernel
theorem dX3_entrust_98 : decode cX3_entrust 98 = .ok (.iload_n 3, 1) := by decide +kernel
theorem dX3_entrust_99 : decode cX3_entrust 99 = .ok (.iaload, 1) := by decide +kernel
theorem dX3_entrust_100 : decode cX3_entrust 100 = .ok (.invokevirtual 104, 3) := by decide +kernel
theorem dX3_entrust_103 : decode cX3_entrust 103 = .ok (.istore 6, 2) := by decide +kernel
theorem dX3_entrust_105 : decode cX3_entrust 105 = .ok (.aload_n 0, 1) := by decide +kernel
theorem dX3_entrust_106 : decode cX3_entrust 106 = .ok (.iload 5, 2) := by decide +kernel
theorem dX3_entrust_108 : decode cX3_entrust 108 = .ok (.aload_n 0, 1) := by decide +kernel
theorem dX3_entrust_109 : decode cX3_entrust 109 = .ok (.getfield 7, 3) := by decide +kernel
theorem dX3_entrust_112 : decode cX3_entrust 112 = .ok (.iload_n 3, 1) := by decide +kernel
theorem dX3_entrust_113 : decode cX3_entrust 113 = .ok (.iaload, 1) := by decide +kernel
theorem dX3_entrust_114 : decode cX3_entrust 114 = .ok (.invokevirtual 104, 3) := by decide +kernel
theorem dX3_entrust_117 : decode cX3_entrust 117 = .ok (.istore 7, 2) := by decide +kernel
theorem dX3_entrust_119 : decode cX3_entrust 119 = .ok (.iload 7, 2) := by decide +kernel
theorem dX3_entrust_121 : decode cX3_entrust 121 = .ok (.ifCond .lt 23, 3) := by decide +kernel
theorem dX3_entrust_124 : decode cX3_entrust 124 = .ok (.iload 6, 2) := by decide +kernel
theorem dX3_entrust_126 : decode cX3_entrust 126 = .ok (.ifCond .lt 10, 3) := by decide +kernel
theorem dX3_entrust_129 : decode cX3_entrust 129 = .ok (.iload 7, 2) := by decide +kernel
theorem dX3_entrust_131 : decode cX3_entrust 131 = .ok (.iload 6, 2) := by decide +kernel
theorem dX3_entrust_133 : decode cX3_entrust 133 = .ok (.if_icmp .ge 11, 3) := by decide +kernel
theorem dX3_entrust_136 : decode cX3_entrust 136 = .ok (.aload_n 0, 1) := by decide +kernel
theorem dX3_entrust_137 : decode cX3_entrust 137 = .ok (.getfield 19, 3) := by decide +kernel
theorem dX3_entrust_140 : decode cX3_entrust 140 = .ok (.iload_n 3, 1) := by decide +kernel
theorem dX3_entrust_141 : decode cX3_entrust 141 = .ok (.iload 5, 2) := by decide +kernel
theorem dX3_entrust_143 : decode cX3_entrust 143 = .ok (.iastore, 1) := by decide +kernel
theorem dX3_entrust_144 : decode cX3_entrust 144 = .ok (.iinc 3 1, 3) := by decide +kernel
theorem dX3_entrust_147 : decode cX3_entrust 147 = .ok (.goto (-145), 3) := by decide +kernel
theorem dX3_entrust_150 : decode cX3_entrust 150 = .ok (.return_, 1) := by decide +kernel
set_option maxRecDepth 20000 in
theorem ggX3_meet_X3_isNode : GoodIn wsX3_meet wsX3_isNode := goodIn_r _ [7, 8, 9, 10, 6, 11] (by decide +kernel) (by decide +kernel)
set_option maxRecDepth 20000 in
theorem gX3_meet_X3_isNode : GoodIn wsX3_meet (wsV RX3 83 RX3 yX3_isNode wsX3_isNode) := goodIn_app (goodIn_of _ (by decide +kernel)) ggX3_meet_X3_isNode
set_option maxRecDepth 20000 in
theorem ggX3_meet_X3_between : GoodIn wsX3_meet wsX3_between := goodIn_r _ [11] (by decide +kernel) (by decide +kernel)
set_option maxRecDepth 20000 in
theorem gX3_meet_X3_between : GoodIn wsX3_meet (wsV RX3 65 RX3 yX3_between wsX3_between) := goodIn_app (goodIn_of _ (by decide +kernel)) ggX3_meet_X3_between
set_option maxRecDepth 20000 in
theorem ggX3_meet_X3_holds : GoodIn wsX3_meet wsX3_holds := goodIn_r _ [15, 16, 99, 100, 101, 102, 103, 104, 105, 106, 107, 108, 109, 110, 111, 112, 113, 114, 115, 116, 117, 118, 119] (by decide +kernel) (by decide +kernel)
set_option maxRecDepth 20000 in
theorem gX3_meet_X3_holds : GoodIn wsX3_meet (wsV RX3 87 RX3 yX3_holds wsX3_holds) := goodIn_app (goodIn_of _ (by decide +kernel)) ggX3_meet_X3_holds
set_option maxRecDepth 20000 in
theorem ggX3_meet_X3_talk : GoodIn wsX3_meet wsX3_talk := goodIn_r _ [20, 21, 22, 23, 24, 25, 6, 26, 27, 28, 99, 100, 101, 102, 103, 104, 105, 106, 107, 108, 109, 110, 111, 112, 113, 114, 115, 116, 117, 118, 119] (by decide +kernel) (by decide +kernel)
set_option maxRecDepth 20000 in
theorem gX3_meet_X3_talk : GoodIn wsX3_meet (wsV RX3 108 RX3 yX3_talk wsX3_talk) := goodIn_app (goodIn_of _ (by decide +kernel)) ggX3_meet_X3_talk
set_option maxRecDepth 20000 in
theorem ggX3_meet_X3_gather : GoodIn wsX3_meet wsX3_gather := goodIn_r _ [32, 21, 2, 1, 33, 34, 35, 6, 36, 27, 37, 38, 39, 40, 41, 42, 43, 99, 100, 101, 102, 103, 104, 105, 106, 107, 108, 109, 110, 111, 112, 113, 114, 115, 116, 117, 118, 119] (by decide +kernel) (by decide +kernel)
set_option maxRecDepth 20000 in
theorem gX3_meet_X3_gather : GoodIn wsX3_meet (wsV RX3 111 RX3 yX3_gather wsX3_gather) := goodIn_app (goodIn_of _ (by decide +kernel)) ggX3_meet_X3_gather
set_option maxRecDepth 20000 in
theorem ggX3_meet_X3_deliver : GoodIn wsX3_meet wsX3_deliver := goodIn_r _ [47, 48, 49, 50, 51, 23, 24, 25, 6, 26, 22, 27, 28, 99, 100, 101, 102, 103, 104, 105, 106, 107, 108, 109, 110, 111, 112, 113, 114, 115, 116, 117, 118, 119] (by decide +kernel) (by decide +kernel)
set_option maxRecDepth 20000 in
theorem gX3_meet_X3_deliver : GoodIn wsX3_meet (wsV RX3 115 RX3 yX3_deliver wsX3_deliver) := goodIn_app (goodIn_of _ (by decide +kernel)) ggX3_meet_X3_deliver
set_option maxRecDepth 20000 in
theorem ggX3_meet_X3_spray : GoodIn wsX3_meet wsX3_spray := goodIn_r _ [55, 27, 42, 56, 51, 57, 58, 59, 6, 60, 61, 62, 63, 64, 65, 66, 21, 67, 68, 69, 70, 28, 38, 39, 40, 41, 43, 99, 100, 101, 102, 103, 104, 105, 106, 107, 108, 109, 110, 111, 112, 113, 114, 115, 116, 117, 118, 119] (by decide +kernel) (by decide +kernel)
set_option maxRecDepth 20000 in
theorem gX3_meet_X3_spray : GoodIn wsX3_meet (wsV RX3 119 RX3 yX3_spray wsX3_spray) := goodIn_app (goodIn_of _ (by decide +kernel)) ggX3_meet_X3_spray
set_option maxRecDepth 20000 in
theorem ggX3_meet_X3_entrust : GoodIn wsX3_meet wsX3_entrust := goodIn_r _ [74, 21, 27, 28, 37, 75, 76, 77, 6, 78, 79, 80, 81, 82, 83, 84, 85, 86, 49, 87, 88, 89, 90, 91, 92, 93, 94, 95, 96, 97, 98, 99, 100, 101, 102, 103, 104, 105, 106, 107, 108, 109, 110, 111, 112, 113, 114, 115, 116, 117, 118, 119] (by decide +kernel) (by decide +kernel)
set_option maxRecDepth 20000 in
theorem gX3_meet_X3_entrust : GoodIn wsX3_meet (wsV RX3 122 RX3 yX3_entrust wsX3_entrust) := goodIn_app (goodIn_of _ (by decide +kernel)) ggX3_meet_X3_entrust
theorem dX3_meet_0 : decode cX3_meet 0 = .ok (.aload_n 0, 1) := by decide +kernel
theorem dX3_meet_1 : decode cX3_meet 1 = .ok (.aload_n 0, 1) := by decide +kernel
theorem dX3_meet_2 : decode cX3_meet 2 = .ok (.iload_n 1, 1) := by decide +kernel
theorem dX3_meet_3 : decode cX3_meet 3 = .ok (.invokevirtual 83, 3) := by decide +kernel
theorem dX3_meet_6 : decode cX3_meet 6 = .ok (.ifCond .eq 11, 3) := by decide +kernel
theorem dX3_meet_9 : decode cX3_meet 9 = .ok (.aload_n 0, 1) := by decide +kernel
theorem dX3_meet_10 : decode cX3_meet 10 = .ok (.iload_n 2, 1) := by decide +kernel
theorem dX3_meet_11 : decode cX3_meet 11 = .ok (.invokevirtual 83, 3) := by decide +kernel
theorem dX3_meet_14 : decode cX3_meet 14 = .ok (.ifCond .ne 7, 3) := by decide +kernel
theorem dX3_meet_17 : decode cX3_meet 17 = .ok (.iconst 1, 1) := by decide +kernel
theorem dX3_meet_18 : decode cX3_meet 18 = .ok (.goto 24, 3) := by decide +kernel
theorem dX3_meet_21 : decode cX3_meet 21 = .ok (.iload_n 1, 1) := by decide +kernel
theorem dX3_meet_22 : decode cX3_meet 22 = .ok (.iload_n 2, 1) := by decide +kernel
theorem dX3_meet_23 : decode cX3_meet 23 = .ok (.if_icmp .eq 14, 3) := by decide +kernel
theorem dX3_meet_26 : decode cX3_meet 26 = .ok (.aload_n 0, 1) := by decide +kernel
theorem dX3_meet_27 : decode cX3_meet 27 = .ok (.iload_n 3, 1) := by decide +kernel
theorem dX3_meet_28 : decode cX3_meet 28 = .ok (.iconst 0, 1) := by decide +kernel
theorem dX3_meet_29 : decode cX3_meet 29 = .ok (.bipush 20, 2) := by decide +kernel
theorem dX3_meet_31 : decode cX3_meet 31 = .ok (.invokevirtual 65, 3) := by decide +kernel
theorem dX3_meet_34 : decode cX3_meet 34 = .ok (.ifCond .ne 7, 3) := by decide +kernel
theorem dX3_meet_37 : decode cX3_meet 37 = .ok (.iconst 2, 1) := by decide +kernel
theorem dX3_meet_38 : decode cX3_meet 38 = .ok (.goto 4, 3) := by decide +kernel
theorem dX3_meet_41 : decode cX3_meet 41 = .ok (.iconst 0, 1) := by decide +kernel
theorem dX3_meet_42 : decode cX3_meet 42 = .ok (.invokevirtual 87, 3) := by decide +kernel
theorem dX3_meet_45 : decode cX3_meet 45 = .ok (.ifCond .eq 5, 3) := by decide +kernel
theorem dX3_meet_48 : decode cX3_meet 48 = .ok (.iconst (-1), 1) := by decide +kernel
theorem dX3_meet_49 : decode cX3_meet 49 = .ok (.ireturn, 1) := by decide +kernel
theorem dX3_meet_50 : decode cX3_meet 50 = .ok (.aload_n 0, 1) := by decide +kernel
theorem dX3_meet_51 : decode cX3_meet 51 = .ok (.iload_n 1, 1) := by decide +kernel
theorem dX3_meet_52 : decode cX3_meet 52 = .ok (.iload_n 2, 1) := by decide +kernel
theorem dX3_meet_53 : decode cX3_meet 53 = .ok (.invokevirtual 108, 3) := by decide +kernel
theorem dX3_meet_56 : decode cX3_meet 56 = .ok (.aload_n 0, 1) := by decide +kernel
theorem dX3_meet_57 : decode cX3_meet 57 = .ok (.iload_n 1, 1) := by decide +kernel
theorem dX3_meet_58 : decode cX3_meet 58 = .ok (.iload_n 2, 1) := by decide +kernel
theorem dX3_meet_59 : decode cX3_meet 59 = .ok (.iconst 1, 1) := by decide +kernel
theorem dX3_meet_60 : decode cX3_meet 60 = .ok (.iconst 0, 1) := by decide +kernel
theorem dX3_meet_61 : decode cX3_meet 61 = .ok (.invokevirtual 111, 3) := by decide +kernel
theorem dX3_meet_64 : decode cX3_meet 64 = .ok (.istore 4, 2) := by decide +kernel
theorem dX3_meet_66 : decode cX3_meet 66 = .ok (.aload_n 0, 1) := by decide +kernel
theorem dX3_meet_67 : decode cX3_meet 67 = .ok (.iload_n 1, 1) := by decide +kernel
theorem dX3_meet_68 : decode cX3_meet 68 = .ok (.iload_n 2, 1) := by decide +kernel
theorem dX3_meet_69 : decode cX3_meet 69 = .ok (.iconst 0, 1) := by decide +kernel
theorem dX3_meet_70 : decode cX3_meet 70 = .ok (.iload 4, 2) := by decide +kernel
theorem dX3_meet_72 : decode cX3_meet 72 = .ok (.invokevirtual 111, 3) := by decide +kernel
theorem dX3_meet_75 : decode cX3_meet 75 = .ok (.istore 5, 2) := by decide +kernel
theorem dX3_meet_77 : decode cX3_meet 77 = .ok (.iconst 0, 1) := by decide +kernel
theorem dX3_meet_78 : decode cX3_meet 78 = .ok (.istore 6, 2) := by decide +kernel
theorem dX3_meet_80 : decode cX3_meet 80 = .ok (.iconst 0, 1) := by decide +kernel
theorem dX3_meet_81 : decode cX3_meet 81 = .ok (.istore 7, 2) := by decide +kernel
theorem dX3_meet_83 : decode cX3_meet 83 = .ok (.iload 7, 2) := by decide +kernel
theorem dX3_meet_85 : decode cX3_meet 85 = .ok (.iload 5, 2) := by decide +kernel
theorem dX3_meet_87 : decode cX3_meet 87 = .ok (.if_icmp .ge 88, 3) := by decide +kernel
theorem dX3_meet_90 : decode cX3_meet 90 = .ok (.iload 6, 2) := by decide +kernel
theorem dX3_meet_92 : decode cX3_meet 92 = .ok (.iload_n 3, 1) := by decide +kernel
theorem dX3_meet_93 : decode cX3_meet 93 = .ok (.if_icmp .ge 82, 3) := by decide +kernel
theorem dX3_meet_96 : decode cX3_meet 96 = .ok (.aload_n 0, 1) := by decide +kernel
theorem dX3_meet_97 : decode cX3_meet 97 = .ok (.getfield 52, 3) := by decide +kernel
theorem dX3_meet_100 : decode cX3_meet 100 = .ok (.iload 7, 2) := by decide +kernel
theorem dX3_meet_102 : decode cX3_meet 102 = .ok (.iaload, 1) := by decide +kernel
theorem dX3_meet_103 : decode cX3_meet 103 = .ok (.iload_n 1, 1) := by decide +kernel
theorem dX3_meet_104 : decode cX3_meet 104 = .ok (.if_icmp .ne 7, 3) := by decide +kernel
theorem dX3_meet_107 : decode cX3_meet 107 = .ok (.iload_n 2, 1) := by decide +kernel
theorem dX3_meet_108 : decode cX3_meet 108 = .ok (.goto 4, 3) := by decide +kernel
theorem dX3_meet_111 : decode cX3_meet 111 = .ok (.iload_n 1, 1) := by decide +kernel
theorem dX3_meet_112 : decode cX3_meet 112 = .ok (.istore 8, 2) := by decide +kernel
theorem dX3_meet_114 : decode cX3_meet 114 = .ok (.iload 6, 2) := by decide +kernel
theorem dX3_meet_116 : decode cX3_meet 116 = .ok (.iload 7, 2) := by decide +kernel
theorem dX3_meet_118 : decode cX3_meet 118 = .ok (.iload 4, 2) := by decide +kernel
theorem dX3_meet_120 : decode cX3_meet 120 = .ok (.if_icmp .ge 26, 3) := by decide +kernel
theorem dX3_meet_123 : decode cX3_meet 123 = .ok (.aload_n 0, 1) := by decide +kernel
theorem dX3_meet_124 : decode cX3_meet 124 = .ok (.aload_n 0, 1) := by decide +kernel
theorem dX3_meet_125 : decode cX3_meet 125 = .ok (.getfield 52, 3) := by decide +kernel
theorem dX3_meet_128 : decode cX3_meet 128 = .ok (.iload 7, 2) := by decide +kernel
theorem dX3_meet_130 : decode cX3_meet 130 = .ok (.iaload, 1) := by decide +kernel
theorem dX3_meet_131 : decode cX3_meet 131 = .ok (.iload 8, 2) := by decide +kernel
theorem dX3_meet_133 : decode cX3_meet 133 = .ok (.aload_n 0, 1) := by decide +kernel
theorem dX3_meet_134 : decode cX3_meet 134 = .ok (.getfield 49, 3) := by decide +kernel
theorem dX3_meet_137 : decode cX3_meet 137 = .ok (.iload 7, 2) := by decide +kernel
theorem dX3_meet_139 : decode cX3_meet 139 = .ok (.iaload, 1) := by decide +kernel
theorem dX3_meet_140 : decode cX3_meet 140 = .ok (.invokevirtual 115, 3) := by decide +kernel
theorem dX3_meet_143 : decode cX3_meet 143 = .ok (.goto 23, 3) := by decide +kernel
theorem dX3_meet_146 : decode cX3_meet 146 = .ok (.aload_n 0, 1) := by decide +kernel
theorem dX3_meet_147 : decode cX3_meet 147 = .ok (.aload_n 0, 1) := by decide +kernel
theorem dX3_meet_148 : decode cX3_meet 148 = .ok (.getfield 52, 3) := by decide +kernel
theorem dX3_meet_151 : decode cX3_meet 151 = .ok (.iload 7, 2) := by decide +kernel
theorem dX3_meet_153 : decode cX3_meet 153 = .ok (.iaload, 1) := by decide +kernel
theorem dX3_meet_154 : decode cX3_meet 154 = .ok (.iload 8, 2) := by decide +kernel
theorem dX3_meet_156 : decode cX3_meet 156 = .ok (.aload_n 0, 1) := by decide +kernel
theorem dX3_meet_157 : decode cX3_meet 157 = .ok (.getfield 49, 3) := by decide +kernel
theorem dX3_meet_160 : decode cX3_meet 160 = .ok (.iload 7, 2) := by decide +kernel
theorem dX3_meet_162 : decode cX3_meet 162 = .ok (.iaload, 1) := by decide +kernel
theorem dX3_meet_163 : decode cX3_meet 163 = .ok (.invokevirtual 119, 3) := by decide +kernel
theorem dX3_meet_166 : decode cX3_meet 166 = .ok (.iadd, 1) := by decide +kernel
theorem dX3_meet_167 : decode cX3_meet 167 = .ok (.istore 6, 2) := by decide +kernel
theorem dX3_meet_169 : decode cX3_meet 169 = .ok (.iinc 7 1, 3) := by decide +kernel
theorem dX3_meet_172 : decode cX3_meet 172 = .ok (.goto (-89), 3) := by decide +kernel
theorem dX3_meet_175 : decode cX3_meet 175 = .ok (.aload_n 0, 1) := by decide +kernel
theorem dX3_meet_176 : decode cX3_meet 176 = .ok (.iload_n 1, 1) := by decide +kernel
theorem dX3_meet_177 : decode cX3_meet 177 = .ok (.iload_n 2, 1) := by decide +kernel
theorem dX3_meet_178 : decode cX3_meet 178 = .ok (.invokevirtual 122, 3) := by decide +kernel
theorem dX3_meet_181 : decode cX3_meet 181 = .ok (.iload 6, 2) := by decide +kernel
theorem dX3_meet_183 : decode cX3_meet 183 = .ok (.ireturn, 1) := by decide +kernel
set_option maxRecDepth 20000 in
theorem ggX3_pass_X3_between : GoodIn wsX3_pass wsX3_between := goodIn_r _ [11] (by decide +kernel) (by decide +kernel)
set_option maxRecDepth 20000 in
theorem gX3_pass_X3_between : GoodIn wsX3_pass (wsV RX3 65 RX3 yX3_between wsX3_between) := goodIn_app (goodIn_of _ (by decide +kernel)) ggX3_pass_X3_between
set_option maxRecDepth 20000 in
theorem ggX3_pass_X3_holds : GoodIn wsX3_pass wsX3_holds := goodIn_r _ [15, 16, 17, 18, 19, 20, 21, 22, 23, 24, 25, 26, 27, 28, 29, 30, 31, 32, 33, 34, 35, 36, 37] (by decide +kernel) (by decide +kernel)
set_option maxRecDepth 20000 in
theorem gX3_pass_X3_holds : GoodIn wsX3_pass (wsV RX3 87 RX3 yX3_holds wsX3_holds) := goodIn_app (goodIn_of _ (by decide +kernel)) ggX3_pass_X3_holds
theorem dX3_pass_0 : decode cX3_pass 0 = .ok (.aload_n 0, 1) := by decide +kernel
theorem dX3_pass_1 : decode cX3_pass 1 = .ok (.aload_n 0, 1) := by decide +kernel
theorem dX3_pass_2 : decode cX3_pass 2 = .ok (.iload_n 1, 1) := by decide +kernel
theorem dX3_pass_3 : decode cX3_pass 3 = .ok (.iconst 1, 1) := by decide +kernel
theorem dX3_pass_4 : decode cX3_pass 4 = .ok (.sipush 10000, 3) := by decide +kernel
theorem dX3_pass_7 : decode cX3_pass 7 = .ok (.invokevirtual 65, 3) := by decide +kernel
theorem dX3_pass_10 : decode cX3_pass 10 = .ok (.ifCond .eq 7, 3) := by decide +kernel
theorem dX3_pass_13 : decode cX3_pass 13 = .ok (.iconst 0, 1) := by decide +kernel
theorem dX3_pass_14 : decode cX3_pass 14 = .ok (.goto 4, 3) := by decide +kernel
theorem dX3_pass_17 : decode cX3_pass 17 = .ok (.iconst 1, 1) := by decide +kernel
theorem dX3_pass_18 : decode cX3_pass 18 = .ok (.invokevirtual 87, 3) := by decide +kernel
theorem dX3_pass_21 : decode cX3_pass 21 = .ok (.ifCond .eq 5, 3) := by decide +kernel
theorem dX3_pass_24 : decode cX3_pass 24 = .ok (.iconst (-1), 1) := by decide +kernel
theorem dX3_pass_25 : decode cX3_pass 25 = .ok (.ireturn, 1) := by decide +kernel
theorem dX3_pass_26 : decode cX3_pass 26 = .ok (.aload_n 0, 1) := by decide +kernel
theorem dX3_pass_27 : decode cX3_pass 27 = .ok (.getfield 93, 3) := by decide +kernel
theorem dX3_pass_30 : decode cX3_pass 30 = .ok (.istore_n 2, 1) := by decide +kernel
theorem dX3_pass_31 : decode cX3_pass 31 = .ok (.iconst 0, 1) := by decide +kernel
theorem dX3_pass_32 : decode cX3_pass 32 = .ok (.istore_n 3, 1) := by decide +kernel
theorem dX3_pass_33 : decode cX3_pass 33 = .ok (.aload_n 0, 1) := by decide +kernel
theorem dX3_pass_34 : decode cX3_pass 34 = .ok (.dup, 1) := by decide +kernel
theorem dX3_pass_35 : decode cX3_pass 35 = .ok (.getfield 93, 3) := by decide +kernel
theorem dX3_pass_38 : decode cX3_pass 38 = .ok (.iload_n 1, 1) := by decide +kernel
theorem dX3_pass_39 : decode cX3_pass 39 = .ok (.iadd, 1) := by decide +kernel
theorem dX3_pass_40 : decode cX3_pass 40 = .ok (.putfield 93, 3) := by decide +kernel
theorem dX3_pass_43 : decode cX3_pass 43 = .ok (.iconst 0, 1) := by decide +kernel
theorem dX3_pass_44 : decode cX3_pass 44 = .ok (.istore 4, 2) := by decide +kernel
theorem dX3_pass_46 : decode cX3_pass 46 = .ok (.iload 4, 2) := by decide +kernel
theorem dX3_pass_48 : decode cX3_pass 48 = .ok (.aload_n 0, 1) := by decide +kernel
theorem dX3_pass_49 : decode cX3_pass 49 = .ok (.getfield 69, 3) := by decide +kernel
theorem dX3_pass_52 : decode cX3_pass 52 = .ok (.if_icmp .ge 90, 3) := by decide +kernel
theorem dX3_pass_55 : decode cX3_pass 55 = .ok (.aload_n 0, 1) := by decide +kernel
theorem dX3_pass_56 : decode cX3_pass 56 = .ok (.getfield 16, 3) := by decide +kernel
theorem dX3_pass_59 : decode cX3_pass 59 = .ok (.iload 4, 2) := by decide +kernel
theorem dX3_pass_61 : decode cX3_pass 61 = .ok (.iaload, 1) := by decide +kernel
theorem dX3_pass_62 : decode cX3_pass 62 = .ok (.iload_n 2, 1) := by decide +kernel
theorem dX3_pass_63 : decode cX3_pass 63 = .ok (.if_icmp .le 73, 3) := by decide +kernel
theorem dX3_pass_66 : decode cX3_pass 66 = .ok (.aload_n 0, 1) := by decide +kernel
theorem dX3_pass_67 : decode cX3_pass 67 = .ok (.getfield 16, 3) := by decide +kernel
theorem dX3_pass_70 : decode cX3_pass 70 = .ok (.iload 4, 2) := by decide +kernel
theorem dX3_pass_72 : decode cX3_pass 72 = .ok (.iaload, 1) := by decide +kernel
theorem dX3_pass_73 : decode cX3_pass 73 = .ok (.aload_n 0, 1) := by decide +kernel
theorem dX3_pass_74 : decode cX3_pass 74 = .ok (.getfield 93, 3) := by decide +kernel
theorem dX3_pass_77 : decode cX3_pass 77 = .ok (.if_icmp .gt 59, 3) := by decide +kernel
theorem dX3_pass_80 : decode cX3_pass 80 = .ok (.iload_n 3, 1) := by decide +kernel
theorem dX3_pass_81 : decode cX3_pass 81 = .ok (.aload_n 0, 1) := by decide +kernel
theorem dX3_pass_82 : decode cX3_pass 82 = .ok (.getfield 22, 3) := by decide +kernel
theorem dX3_pass_85 : decode cX3_pass 85 = .ok (.iload 4, 2) := by decide +kernel
theorem dX3_pass_87 : decode cX3_pass 87 = .ok (.iaload, 1) := by decide +kernel
theorem dX3_pass_88 : decode cX3_pass 88 = .ok (.ifCond .ge 7, 3) := by decide +kernel
theorem dX3_pass_91 : decode cX3_pass 91 = .ok (.iconst 1, 1) := by decide +kernel
theorem dX3_pass_92 : decode cX3_pass 92 = .ok (.goto 4, 3) := by decide +kernel
theorem dX3_pass_95 : decode cX3_pass 95 = .ok (.iconst 0, 1) := by decide +kernel
theorem dX3_pass_96 : decode cX3_pass 96 = .ok (.iadd, 1) := by decide +kernel
theorem dX3_pass_97 : decode cX3_pass 97 = .ok (.istore_n 3, 1) := by decide +kernel
theorem dX3_pass_98 : decode cX3_pass 98 = .ok (.aload_n 0, 1) := by decide +kernel
theorem dX3_pass_99 : decode cX3_pass 99 = .ok (.getfield 19, 3) := by decide +kernel
theorem dX3_pass_102 : decode cX3_pass 102 = .ok (.iload 4, 2) := by decide +kernel
theorem dX3_pass_104 : decode cX3_pass 104 = .ok (.iconst (-1), 1) := by decide +kernel
theorem dX3_pass_105 : decode cX3_pass 105 = .ok (.iastore, 1) := by decide +kernel
theorem dX3_pass_106 : decode cX3_pass 106 = .ok (.iconst 0, 1) := by decide +kernel
theorem dX3_pass_107 : decode cX3_pass 107 = .ok (.istore 5, 2) := by decide +kernel
theorem dX3_pass_109 : decode cX3_pass 109 = .ok (.iload 5, 2) := by decide +kernel
theorem dX3_pass_111 : decode cX3_pass 111 = .ok (.bipush 8, 2) := by decide +kernel
theorem dX3_pass_113 : decode cX3_pass 113 = .ok (.if_icmp .ge 23, 3) := by decide +kernel
theorem dX3_pass_116 : decode cX3_pass 116 = .ok (.aload_n 0, 1) := by decide +kernel
theorem dX3_pass_117 : decode cX3_pass 117 = .ok (.getfield 28, 3) := by decide +kernel
theorem dX3_pass_120 : decode cX3_pass 120 = .ok (.bipush 40, 2) := by decide +kernel
theorem dX3_pass_122 : decode cX3_pass 122 = .ok (.iload 5, 2) := by decide +kernel
theorem dX3_pass_124 : decode cX3_pass 124 = .ok (.imul, 1) := by decide +kernel
theorem dX3_pass_125 : decode cX3_pass 125 = .ok (.iload 4, 2) := by decide +kernel
theorem dX3_pass_127 : decode cX3_pass 127 = .ok (.iadd, 1) := by decide +kernel
theorem dX3_pass_128 : decode cX3_pass 128 = .ok (.iconst 0, 1) := by decide +kernel
theorem dX3_pass_129 : decode cX3_pass 129 = .ok (.iastore, 1) := by decide +kernel
theorem dX3_pass_130 : decode cX3_pass 130 = .ok (.iinc 5 1, 3) := by decide +kernel
theorem dX3_pass_133 : decode cX3_pass 133 = .ok (.goto (-24), 3) := by decide +kernel
theorem dX3_pass_136 : decode cX3_pass 136 = .ok (.iinc 4 1, 3) := by decide +kernel
theorem dX3_pass_139 : decode cX3_pass 139 = .ok (.goto (-93), 3) := by decide +kernel
theorem dX3_pass_142 : decode cX3_pass 142 = .ok (.iload_n 3, 1) := by decide +kernel
theorem dX3_pass_143 : decode cX3_pass 143 = .ok (.ireturn, 1) := by decide +kernel
set_option maxRecDepth 20000 in
theorem ggX3_setBuffer_X3_isNode : GoodIn wsX3_setBuffer wsX3_isNode := goodIn_r _ [6, 7, 8, 9, 5, 10] (by decide +kernel) (by decide +kernel)
set_option maxRecDepth 20000 in
theorem gX3_setBuffer_X3_isNode : GoodIn wsX3_setBuffer (wsV RX3 83 RX3 yX3_isNode wsX3_isNode) := goodIn_app (goodIn_of _ (by decide +kernel)) ggX3_setBuffer_X3_isNode
set_option maxRecDepth 20000 in
theorem ggX3_setBuffer_X3_between : GoodIn wsX3_setBuffer wsX3_between := goodIn_r _ [10] (by decide +kernel) (by decide +kernel)
set_option maxRecDepth 20000 in
theorem gX3_setBuffer_X3_between : GoodIn wsX3_setBuffer (wsV RX3 65 RX3 yX3_between wsX3_between) := goodIn_app (goodIn_of _ (by decide +kernel)) ggX3_setBuffer_X3_between
set_option maxRecDepth 20000 in
theorem ggX3_setBuffer_X3_load : GoodIn wsX3_setBuffer wsX3_load := goodIn_r _ [14, 15, 16, 22, 23, 24, 25, 26, 27, 28, 29, 30, 31, 32, 33, 34, 35, 36, 37, 38, 39, 40, 41, 42] (by decide +kernel) (by decide +kernel)
set_option maxRecDepth 20000 in
theorem gX3_setBuffer_X3_load : GoodIn wsX3_setBuffer (wsV RX3 76 RX3 yX3_load wsX3_load) := goodIn_app (goodIn_of _ (by decide +kernel)) ggX3_setBuffer_X3_load
set_option maxRecDepth 20000 in
theorem ggX3_setBuffer_X3_holds : GoodIn wsX3_setBuffer wsX3_holds := goodIn_r _ [20, 21, 22, 23, 24, 25, 26, 27, 28, 29, 30, 31, 32, 33, 34, 35, 36, 37, 38, 39, 40, 41, 42] (by decide +kernel) (by decide +kernel)
set_option maxRecDepth 20000 in
theorem gX3_setBuffer_X3_holds : GoodIn wsX3_setBuffer (wsV RX3 87 RX3 yX3_holds wsX3_holds) := goodIn_app (goodIn_of _ (by decide +kernel)) ggX3_setBuffer_X3_holds
theorem dX3_setBuffer_0 : decode cX3_setBuffer 0 = .ok (.aload_n 0, 1) := by decide +kernel
theorem dX3_setBuffer_1 : decode cX3_setBuffer 1 = .ok (.aload_n 0, 1) := by decide +kernel
theorem dX3_setBuffer_2 : decode cX3_setBuffer 2 = .ok (.iload_n 1, 1) := by decide +kernel
theorem dX3_setBuffer_3 : decode cX3_setBuffer 3 = .ok (.invokevirtual 83, 3) := by decide +kernel
theorem dX3_setBuffer_6 : decode cX3_setBuffer 6 = .ok (.ifCond .ne 7, 3) := by decide +kernel
theorem dX3_setBuffer_9 : decode cX3_setBuffer 9 = .ok (.iconst 1, 1) := by decide +kernel
theorem dX3_setBuffer_10 : decode cX3_setBuffer 10 = .ok (.goto 32, 3) := by decide +kernel
theorem dX3_setBuffer_13 : decode cX3_setBuffer 13 = .ok (.aload_n 0, 1) := by decide +kernel
theorem dX3_setBuffer_14 : decode cX3_setBuffer 14 = .ok (.iload_n 2, 1) := by decide +kernel
theorem dX3_setBuffer_15 : decode cX3_setBuffer 15 = .ok (.iconst 1, 1) := by decide +kernel
theorem dX3_setBuffer_16 : decode cX3_setBuffer 16 = .ok (.bipush 8, 2) := by decide +kernel
theorem dX3_setBuffer_18 : decode cX3_setBuffer 18 = .ok (.invokevirtual 65, 3) := by decide +kernel
theorem dX3_setBuffer_21 : decode cX3_setBuffer 21 = .ok (.ifCond .ne 7, 3) := by decide +kernel
theorem dX3_setBuffer_24 : decode cX3_setBuffer 24 = .ok (.iconst 2, 1) := by decide +kernel
theorem dX3_setBuffer_25 : decode cX3_setBuffer 25 = .ok (.goto 17, 3) := by decide +kernel
theorem dX3_setBuffer_28 : decode cX3_setBuffer 28 = .ok (.aload_n 0, 1) := by decide +kernel
theorem dX3_setBuffer_29 : decode cX3_setBuffer 29 = .ok (.iload_n 1, 1) := by decide +kernel
theorem dX3_setBuffer_30 : decode cX3_setBuffer 30 = .ok (.invokevirtual 76, 3) := by decide +kernel
theorem dX3_setBuffer_33 : decode cX3_setBuffer 33 = .ok (.iload_n 2, 1) := by decide +kernel
theorem dX3_setBuffer_34 : decode cX3_setBuffer 34 = .ok (.if_icmp .le 7, 3) := by decide +kernel
theorem dX3_setBuffer_37 : decode cX3_setBuffer 37 = .ok (.iconst 3, 1) := by decide +kernel
theorem dX3_setBuffer_38 : decode cX3_setBuffer 38 = .ok (.goto 4, 3) := by decide +kernel
theorem dX3_setBuffer_41 : decode cX3_setBuffer 41 = .ok (.iconst 0, 1) := by decide +kernel
theorem dX3_setBuffer_42 : decode cX3_setBuffer 42 = .ok (.invokevirtual 87, 3) := by decide +kernel
theorem dX3_setBuffer_45 : decode cX3_setBuffer 45 = .ok (.ifCond .eq 5, 3) := by decide +kernel
theorem dX3_setBuffer_48 : decode cX3_setBuffer 48 = .ok (.iconst (-1), 1) := by decide +kernel
theorem dX3_setBuffer_49 : decode cX3_setBuffer 49 = .ok (.ireturn, 1) := by decide +kernel
theorem dX3_setBuffer_50 : decode cX3_setBuffer 50 = .ok (.aload_n 0, 1) := by decide +kernel
theorem dX3_setBuffer_51 : decode cX3_setBuffer 51 = .ok (.getfield 37, 3) := by decide +kernel
theorem dX3_setBuffer_54 : decode cX3_setBuffer 54 = .ok (.iload_n 1, 1) := by decide +kernel
theorem dX3_setBuffer_55 : decode cX3_setBuffer 55 = .ok (.iaload, 1) := by decide +kernel
theorem dX3_setBuffer_56 : decode cX3_setBuffer 56 = .ok (.istore_n 3, 1) := by decide +kernel
theorem dX3_setBuffer_57 : decode cX3_setBuffer 57 = .ok (.aload_n 0, 1) := by decide +kernel
theorem dX3_setBuffer_58 : decode cX3_setBuffer 58 = .ok (.getfield 37, 3) := by decide +kernel
theorem dX3_setBuffer_61 : decode cX3_setBuffer 61 = .ok (.iload_n 1, 1) := by decide +kernel
theorem dX3_setBuffer_62 : decode cX3_setBuffer 62 = .ok (.iload_n 2, 1) := by decide +kernel
theorem dX3_setBuffer_63 : decode cX3_setBuffer 63 = .ok (.iastore, 1) := by decide +kernel
theorem dX3_setBuffer_64 : decode cX3_setBuffer 64 = .ok (.iload_n 3, 1) := by decide +kernel
theorem dX3_setBuffer_65 : decode cX3_setBuffer 65 = .ok (.ireturn, 1) := by decide +kernel
set_option maxRecDepth 20000 in
theorem ggX3_addContact_X3_between : GoodIn wsX3_addContact wsX3_between := goodIn_r _ [8] (by decide +kernel) (by decide +kernel)
set_option maxRecDepth 20000 in
theorem gX3_addContact_X3_between : GoodIn wsX3_addContact (wsV RX3 65 RX3 yX3_between wsX3_between) := goodIn_app (goodIn_of _ (by decide +kernel)) ggX3_addContact_X3_between
set_option maxRecDepth 20000 in
theorem ggX3_addContact_X3_isNode : GoodIn wsX3_addContact wsX3_isNode := goodIn_r _ [12, 4, 5, 6, 7, 8] (by decide +kernel) (by decide +kernel)
set_option maxRecDepth 20000 in
theorem gX3_addContact_X3_isNode : GoodIn wsX3_addContact (wsV RX3 83 RX3 yX3_isNode wsX3_isNode) := goodIn_app (goodIn_of _ (by decide +kernel)) ggX3_addContact_X3_isNode
set_option maxRecDepth 20000 in
theorem ggX3_addContact_X3_holds : GoodIn wsX3_addContact wsX3_holds := goodIn_r _ [16, 17, 18, 19, 20, 21, 22, 23, 24, 25, 26, 27, 28, 29, 30, 31, 32, 33, 34, 35, 36, 37, 38] (by decide +kernel) (by decide +kernel)
set_option maxRecDepth 20000 in
theorem gX3_addContact_X3_holds : GoodIn wsX3_addContact (wsV RX3 87 RX3 yX3_holds wsX3_holds) := goodIn_app (goodIn_of _ (by decide +kernel)) ggX3_addContact_X3_holds
theorem dX3_addContact_0 : decode cX3_addContact 0 = .ok (.iload_n 1, 1) := by decide +kernel
theorem dX3_addContact_1 : decode cX3_addContact 1 = .ok (.iload_n 2, 1) := by decide +kernel
theorem dX3_addContact_2 : decode cX3_addContact 2 = .ok (.if_icmp .eq 30, 3) := by decide +kernel
theorem dX3_addContact_5 : decode cX3_addContact 5 = .ok (.aload_n 0, 1) := by decide +kernel
theorem dX3_addContact_6 : decode cX3_addContact 6 = .ok (.iload_n 3, 1) := by decide +kernel
theorem dX3_addContact_7 : decode cX3_addContact 7 = .ok (.iconst 0, 1) := by decide +kernel
theorem dX3_addContact_8 : decode cX3_addContact 8 = .ok (.ldc 125, 2) := by decide +kernel
theorem dX3_addContact_10 : decode cX3_addContact 10 = .ok (.invokevirtual 65, 3) := by decide +kernel
theorem dX3_addContact_13 : decode cX3_addContact 13 = .ok (.ifCond .eq 19, 3) := by decide +kernel
theorem dX3_addContact_16 : decode cX3_addContact 16 = .ok (.aload_n 0, 1) := by decide +kernel
theorem dX3_addContact_17 : decode cX3_addContact 17 = .ok (.iload 4, 2) := by decide +kernel
theorem dX3_addContact_19 : decode cX3_addContact 19 = .ok (.iload_n 3, 1) := by decide +kernel
theorem dX3_addContact_20 : decode cX3_addContact 20 = .ok (.ldc 125, 2) := by decide +kernel
theorem dX3_addContact_22 : decode cX3_addContact 22 = .ok (.invokevirtual 65, 3) := by decide +kernel
theorem dX3_addContact_25 : decode cX3_addContact 25 = .ok (.ifCond .eq 7, 3) := by decide +kernel
theorem dX3_addContact_28 : decode cX3_addContact 28 = .ok (.iconst 1, 1) := by decide +kernel
theorem dX3_addContact_29 : decode cX3_addContact 29 = .ok (.goto 4, 3) := by decide +kernel
theorem dX3_addContact_32 : decode cX3_addContact 32 = .ok (.iconst 0, 1) := by decide +kernel
theorem dX3_addContact_33 : decode cX3_addContact 33 = .ok (.istore 5, 2) := by decide +kernel
theorem dX3_addContact_35 : decode cX3_addContact 35 = .ok (.aload_n 0, 1) := by decide +kernel
theorem dX3_addContact_36 : decode cX3_addContact 36 = .ok (.aload_n 0, 1) := by decide +kernel
theorem dX3_addContact_37 : decode cX3_addContact 37 = .ok (.iload_n 1, 1) := by decide +kernel
theorem dX3_addContact_38 : decode cX3_addContact 38 = .ok (.invokevirtual 83, 3) := by decide +kernel
theorem dX3_addContact_41 : decode cX3_addContact 41 = .ok (.ifCond .eq 11, 3) := by decide +kernel
theorem dX3_addContact_44 : decode cX3_addContact 44 = .ok (.aload_n 0, 1) := by decide +kernel
theorem dX3_addContact_45 : decode cX3_addContact 45 = .ok (.iload_n 2, 1) := by decide +kernel
theorem dX3_addContact_46 : decode cX3_addContact 46 = .ok (.invokevirtual 83, 3) := by decide +kernel
theorem dX3_addContact_49 : decode cX3_addContact 49 = .ok (.ifCond .ne 7, 3) := by decide +kernel
theorem dX3_addContact_52 : decode cX3_addContact 52 = .ok (.iconst 1, 1) := by decide +kernel
theorem dX3_addContact_53 : decode cX3_addContact 53 = .ok (.goto 26, 3) := by decide +kernel
theorem dX3_addContact_56 : decode cX3_addContact 56 = .ok (.iload 5, 2) := by decide +kernel
theorem dX3_addContact_58 : decode cX3_addContact 58 = .ok (.ifCond .ne 7, 3) := by decide +kernel
theorem dX3_addContact_61 : decode cX3_addContact 61 = .ok (.iconst 2, 1) := by decide +kernel
theorem dX3_addContact_62 : decode cX3_addContact 62 = .ok (.goto 17, 3) := by decide +kernel
theorem dX3_addContact_65 : decode cX3_addContact 65 = .ok (.aload_n 0, 1) := by decide +kernel
theorem dX3_addContact_66 : decode cX3_addContact 66 = .ok (.getfield 126, 3) := by decide +kernel
theorem dX3_addContact_69 : decode cX3_addContact 69 = .ok (.bipush 30, 2) := by decide +kernel
theorem dX3_addContact_71 : decode cX3_addContact 71 = .ok (.if_icmp .ne 7, 3) := by decide +kernel
theorem dX3_addContact_74 : decode cX3_addContact 74 = .ok (.iconst 3, 1) := by decide +kernel
theorem dX3_addContact_75 : decode cX3_addContact 75 = .ok (.goto 4, 3) := by decide +kernel
theorem dX3_addContact_78 : decode cX3_addContact 78 = .ok (.iconst 0, 1) := by decide +kernel
theorem dX3_addContact_79 : decode cX3_addContact 79 = .ok (.invokevirtual 87, 3) := by decide +kernel
theorem dX3_addContact_82 : decode cX3_addContact 82 = .ok (.ifCond .eq 5, 3) := by decide +kernel
theorem dX3_addContact_85 : decode cX3_addContact 85 = .ok (.iconst (-1), 1) := by decide +kernel
theorem dX3_addContact_86 : decode cX3_addContact 86 = .ok (.ireturn, 1) := by decide +kernel
theorem dX3_addContact_87 : decode cX3_addContact 87 = .ok (.aload_n 0, 1) := by decide +kernel
theorem dX3_addContact_88 : decode cX3_addContact 88 = .ok (.getfield 46, 3) := by decide +kernel
theorem dX3_addContact_91 : decode cX3_addContact 91 = .ok (.iconst 4, 1) := by decide +kernel
theorem dX3_addContact_92 : decode cX3_addContact 92 = .ok (.aload_n 0, 1) := by decide +kernel
theorem dX3_addContact_93 : decode cX3_addContact 93 = .ok (.getfield 126, 3) := by decide +kernel
theorem dX3_addContact_96 : decode cX3_addContact 96 = .ok (.imul, 1) := by decide +kernel
theorem dX3_addContact_97 : decode cX3_addContact 97 = .ok (.iload_n 1, 1) := by decide +kernel
theorem dX3_addContact_98 : decode cX3_addContact 98 = .ok (.iastore, 1) := by decide +kernel
theorem dX3_addContact_99 : decode cX3_addContact 99 = .ok (.aload_n 0, 1) := by decide +kernel
theorem dX3_addContact_100 : decode cX3_addContact 100 = .ok (.getfield 46, 3) := by decide +kernel
theorem dX3_addContact_103 : decode cX3_addContact 103 = .ok (.iconst 4, 1) := by decide +kernel
theorem dX3_addContact_104 : decode cX3_addContact 104 = .ok (.aload_n 0, 1) := by decide +kernel
theorem dX3_addContact_105 : decode cX3_addContact 105 = .ok (.getfield 126, 3) := by decide +kernel
theorem dX3_addContact_108 : decode cX3_addContact 108 = .ok (.imul, 1) := by decide +kernel
theorem dX3_addContact_109 : decode cX3_addContact 109 = .ok (.iconst 1, 1) := by decide +kernel
theorem dX3_addContact_110 : decode cX3_addContact 110 = .ok (.iadd, 1) := by decide +kernel
theorem dX3_addContact_111 : decode cX3_addContact 111 = .ok (.iload_n 2, 1) := by decide +kernel
theorem dX3_addContact_112 : decode cX3_addContact 112 = .ok (.iastore, 1) := by decide +kernel
theorem dX3_addContact_113 : decode cX3_addContact 113 = .ok (.aload_n 0, 1) := by decide +kernel
theorem dX3_addContact_114 : decode cX3_addContact 114 = .ok (.getfield 46, 3) := by decide +kernel
theorem dX3_addContact_117 : decode cX3_addContact 117 = .ok (.iconst 4, 1) := by decide +kernel
theorem dX3_addContact_118 : decode cX3_addContact 118 = .ok (.aload_n 0, 1) := by decide +kernel
theorem dX3_addContact_119 : decode cX3_addContact 119 = .ok (.getfield 126, 3) := by decide +kernel
theorem dX3_addContact_122 : decode cX3_addContact 122 = .ok (.imul, 1) := by decide +kernel
theorem dX3_addContact_123 : decode cX3_addContact 123 = .ok (.iconst 2, 1) := by decide +kernel
theorem dX3_addContact_124 : decode cX3_addContact 124 = .ok (.iadd, 1) := by decide +kernel
theorem dX3_addContact_125 : decode cX3_addContact 125 = .ok (.iload_n 3, 1) := by decide +kernel
theorem dX3_addContact_126 : decode cX3_addContact 126 = .ok (.iastore, 1) := by decide +kernel
theorem dX3_addContact_127 : decode cX3_addContact 127 = .ok (.aload_n 0, 1) := by decide +kernel
theorem dX3_addContact_128 : decode cX3_addContact 128 = .ok (.getfield 46, 3) := by decide +kernel
theorem dX3_addContact_131 : decode cX3_addContact 131 = .ok (.iconst 4, 1) := by decide +kernel
theorem dX3_addContact_132 : decode cX3_addContact 132 = .ok (.aload_n 0, 1) := by decide +kernel
theorem dX3_addContact_133 : decode cX3_addContact 133 = .ok (.getfield 126, 3) := by decide +kernel
theorem dX3_addContact_136 : decode cX3_addContact 136 = .ok (.imul, 1) := by decide +kernel
theorem dX3_addContact_137 : decode cX3_addContact 137 = .ok (.iconst 3, 1) := by decide +kernel
theorem dX3_addContact_138 : decode cX3_addContact 138 = .ok (.iadd, 1) := by decide +kernel
theorem dX3_addContact_139 : decode cX3_addContact 139 = .ok (.iload 4, 2) := by decide +kernel
theorem dX3_addContact_141 : decode cX3_addContact 141 = .ok (.iastore, 1) := by decide +kernel
theorem dX3_addContact_142 : decode cX3_addContact 142 = .ok (.aload_n 0, 1) := by decide +kernel
theorem dX3_addContact_143 : decode cX3_addContact 143 = .ok (.dup, 1) := by decide +kernel
theorem dX3_addContact_144 : decode cX3_addContact 144 = .ok (.getfield 126, 3) := by decide +kernel
theorem dX3_addContact_147 : decode cX3_addContact 147 = .ok (.iconst 1, 1) := by decide +kernel
theorem dX3_addContact_148 : decode cX3_addContact 148 = .ok (.iadd, 1) := by decide +kernel
theorem dX3_addContact_149 : decode cX3_addContact 149 = .ok (.putfield 126, 3) := by decide +kernel
theorem dX3_addContact_152 : decode cX3_addContact 152 = .ok (.aload_n 0, 1) := by decide +kernel
theorem dX3_addContact_153 : decode cX3_addContact 153 = .ok (.getfield 126, 3) := by decide +kernel
theorem dX3_addContact_156 : decode cX3_addContact 156 = .ok (.ireturn, 1) := by decide +kernel
set_option maxRecDepth 20000 in
theorem ggX3_clock_X3_plain : GoodIn wsX3_clock wsX3_plain := goodIn_r _ [6, 7, 8, 9, 10, 11, 12, 13, 14, 15, 16, 17, 18, 19, 20, 21, 22, 23, 24, 25, 26, 27, 28] (by decide +kernel) (by decide +kernel)
set_option maxRecDepth 20000 in
theorem gX3_clock_X3_plain : GoodIn wsX3_clock (wsV RX3 129 RX3 yX3_plain wsX3_plain) := goodIn_app (goodIn_of _ (by decide +kernel)) ggX3_clock_X3_plain
theorem dX3_clock_0 : decode cX3_clock 0 = .ok (.aload_n 0, 1) := by decide +kernel
theorem dX3_clock_1 : decode cX3_clock 1 = .ok (.aload_n 0, 1) := by decide +kernel
theorem dX3_clock_2 : decode cX3_clock 2 = .ok (.getfield 93, 3) := by decide +kernel
theorem dX3_clock_5 : decode cX3_clock 5 = .ok (.invokevirtual 129, 3) := by decide +kernel
theorem dX3_clock_8 : decode cX3_clock 8 = .ok (.ireturn, 1) := by decide +kernel
set_option maxRecDepth 20000 in
theorem ggX3_bundles_X3_plain : GoodIn wsX3_bundles wsX3_plain := goodIn_r _ [6, 7, 8, 9, 10, 11, 12, 13, 14, 15, 16, 17, 18, 19, 20, 21, 22, 23, 24, 25, 26, 27, 28] (by decide +kernel) (by decide +kernel)
set_option maxRecDepth 20000 in
theorem gX3_bundles_X3_plain : GoodIn wsX3_bundles (wsV RX3 129 RX3 yX3_plain wsX3_plain) := goodIn_app (goodIn_of _ (by decide +kernel)) ggX3_bundles_X3_plain
theorem dX3_bundles_0 : decode cX3_bundles 0 = .ok (.aload_n 0, 1) := by decide +kernel
theorem dX3_bundles_1 : decode cX3_bundles 1 = .ok (.aload_n 0, 1) := by decide +kernel
theorem dX3_bundles_2 : decode cX3_bundles 2 = .ok (.getfield 69, 3) := by decide +kernel
theorem dX3_bundles_5 : decode cX3_bundles 5 = .ok (.invokevirtual 129, 3) := by decide +kernel
theorem dX3_bundles_8 : decode cX3_bundles 8 = .ok (.ireturn, 1) := by decide +kernel
set_option maxRecDepth 20000 in
theorem ggX3_endOf_X3_isBundle : GoodIn wsX3_endOf wsX3_isBundle := goodIn_r _ [6, 7, 8, 9, 10, 5, 11, 17, 18, 19, 20, 21, 22, 23, 24, 25, 26, 27, 28, 29, 30, 31, 32, 33, 34, 35, 36, 37] (by decide +kernel) (by decide +kernel)
set_option maxRecDepth 20000 in
theorem gX3_endOf_X3_isBundle : GoodIn wsX3_endOf (wsV RX3 132 RX3 yX3_isBundle wsX3_isBundle) := goodIn_app (goodIn_of _ (by decide +kernel)) ggX3_endOf_X3_isBundle
set_option maxRecDepth 20000 in
theorem ggX3_endOf_X3_holds : GoodIn wsX3_endOf wsX3_holds := goodIn_r _ [15, 16, 17, 18, 19, 20, 21, 22, 23, 24, 25, 26, 27, 28, 29, 30, 31, 32, 33, 34, 35, 36, 37] (by decide +kernel) (by decide +kernel)
set_option maxRecDepth 20000 in
theorem gX3_endOf_X3_holds : GoodIn wsX3_endOf (wsV RX3 87 RX3 yX3_holds wsX3_holds) := goodIn_app (goodIn_of _ (by decide +kernel)) ggX3_endOf_X3_holds
theorem dX3_endOf_0 : decode cX3_endOf 0 = .ok (.aload_n 0, 1) := by decide +kernel
theorem dX3_endOf_1 : decode cX3_endOf 1 = .ok (.aload_n 0, 1) := by decide +kernel
theorem dX3_endOf_2 : decode cX3_endOf 2 = .ok (.iload_n 1, 1) := by decide +kernel
theorem dX3_endOf_3 : decode cX3_endOf 3 = .ok (.invokevirtual 132, 3) := by decide +kernel
theorem dX3_endOf_6 : decode cX3_endOf 6 = .ok (.ifCond .eq 7, 3) := by decide +kernel
theorem dX3_endOf_9 : decode cX3_endOf 9 = .ok (.iconst 0, 1) := by decide +kernel
theorem dX3_endOf_10 : decode cX3_endOf 10 = .ok (.goto 4, 3) := by decide +kernel
theorem dX3_endOf_13 : decode cX3_endOf 13 = .ok (.iconst 1, 1) := by decide +kernel
theorem dX3_endOf_14 : decode cX3_endOf 14 = .ok (.invokevirtual 87, 3) := by decide +kernel
theorem dX3_endOf_17 : decode cX3_endOf 17 = .ok (.ifCond .eq 7, 3) := by decide +kernel
theorem dX3_endOf_20 : decode cX3_endOf 20 = .ok (.iconst (-1), 1) := by decide +kernel
theorem dX3_endOf_21 : decode cX3_endOf 21 = .ok (.goto 9, 3) := by decide +kernel
theorem dX3_endOf_24 : decode cX3_endOf 24 = .ok (.aload_n 0, 1) := by decide +kernel
theorem dX3_endOf_25 : decode cX3_endOf 25 = .ok (.getfield 16, 3) := by decide +kernel
theorem dX3_endOf_28 : decode cX3_endOf 28 = .ok (.iload_n 1, 1) := by decide +kernel
theorem dX3_endOf_29 : decode cX3_endOf 29 = .ok (.iaload, 1) := by decide +kernel
theorem dX3_endOf_30 : decode cX3_endOf 30 = .ok (.ireturn, 1) := by decide +kernel
set_option maxRecDepth 20000 in
theorem ggX3_deliveredAt_X3_isBundle : GoodIn wsX3_deliveredAt wsX3_isBundle := goodIn_r _ [6, 7, 8, 9, 10, 5, 11, 17, 18, 19, 20, 21, 22, 23, 24, 25, 26, 27, 28, 29, 30, 31, 32, 33, 34, 35, 36, 37] (by decide +kernel) (by decide +kernel)
set_option maxRecDepth 20000 in
theorem gX3_deliveredAt_X3_isBundle : GoodIn wsX3_deliveredAt (wsV RX3 132 RX3 yX3_isBundle wsX3_isBundle) := goodIn_app (goodIn_of _ (by decide +kernel)) ggX3_deliveredAt_X3_isBundle
set_option maxRecDepth 20000 in
theorem ggX3_deliveredAt_X3_holds : GoodIn wsX3_deliveredAt wsX3_holds := goodIn_r _ [15, 16, 17, 18, 19, 20, 21, 22, 23, 24, 25, 26, 27, 28, 29, 30, 31, 32, 33, 34, 35, 36, 37] (by decide +kernel) (by decide +kernel)
set_option maxRecDepth 20000 in
theorem gX3_deliveredAt_X3_holds : GoodIn wsX3_deliveredAt (wsV RX3 87 RX3 yX3_holds wsX3_holds) := goodIn_app (goodIn_of _ (by decide +kernel)) ggX3_deliveredAt_X3_holds
theorem dX3_deliveredAt_0 : decode cX3_deliveredAt 0 = .ok (.aload_n 0, 1) := by decide +kernel
theorem dX3_deliveredAt_1 : decode cX3_deliveredAt 1 = .ok (.aload_n 0, 1) := by decide +kernel
theorem dX3_deliveredAt_2 : decode cX3_deliveredAt 2 = .ok (.iload_n 1, 1) := by decide +kernel
theorem dX3_deliveredAt_3 : decode cX3_deliveredAt 3 = .ok (.invokevirtual 132, 3) := by decide +kernel
theorem dX3_deliveredAt_6 : decode cX3_deliveredAt 6 = .ok (.ifCond .eq 7, 3) := by decide +kernel
theorem dX3_deliveredAt_9 : decode cX3_deliveredAt 9 = .ok (.iconst 0, 1) := by decide +kernel
theorem dX3_deliveredAt_10 : decode cX3_deliveredAt 10 = .ok (.goto 4, 3) := by decide +kernel
theorem dX3_deliveredAt_13 : decode cX3_deliveredAt 13 = .ok (.iconst 1, 1) := by decide +kernel
theorem dX3_deliveredAt_14 : decode cX3_deliveredAt 14 = .ok (.invokevirtual 87, 3) := by decide +kernel
theorem dX3_deliveredAt_17 : decode cX3_deliveredAt 17 = .ok (.ifCond .eq 7, 3) := by decide +kernel
theorem dX3_deliveredAt_20 : decode cX3_deliveredAt 20 = .ok (.iconst (-1), 1) := by decide +kernel
theorem dX3_deliveredAt_21 : decode cX3_deliveredAt 21 = .ok (.goto 9, 3) := by decide +kernel
theorem dX3_deliveredAt_24 : decode cX3_deliveredAt 24 = .ok (.aload_n 0, 1) := by decide +kernel
theorem dX3_deliveredAt_25 : decode cX3_deliveredAt 25 = .ok (.getfield 22, 3) := by decide +kernel
theorem dX3_deliveredAt_28 : decode cX3_deliveredAt 28 = .ok (.iload_n 1, 1) := by decide +kernel
theorem dX3_deliveredAt_29 : decode cX3_deliveredAt 29 = .ok (.iaload, 1) := by decide +kernel
theorem dX3_deliveredAt_30 : decode cX3_deliveredAt 30 = .ok (.ireturn, 1) := by decide +kernel
set_option maxRecDepth 20000 in
theorem ggX3_hops_X3_isBundle : GoodIn wsX3_hops wsX3_isBundle := goodIn_r _ [6, 7, 8, 9, 10, 5, 11, 17, 18, 19, 20, 21, 22, 23, 24, 25, 26, 27, 28, 29, 30, 31, 32, 33, 34, 35, 36, 37] (by decide +kernel) (by decide +kernel)
set_option maxRecDepth 20000 in
theorem gX3_hops_X3_isBundle : GoodIn wsX3_hops (wsV RX3 132 RX3 yX3_isBundle wsX3_isBundle) := goodIn_app (goodIn_of _ (by decide +kernel)) ggX3_hops_X3_isBundle
set_option maxRecDepth 20000 in
theorem ggX3_hops_X3_holds : GoodIn wsX3_hops wsX3_holds := goodIn_r _ [15, 16, 17, 18, 19, 20, 21, 22, 23, 24, 25, 26, 27, 28, 29, 30, 31, 32, 33, 34, 35, 36, 37] (by decide +kernel) (by decide +kernel)
set_option maxRecDepth 20000 in
theorem gX3_hops_X3_holds : GoodIn wsX3_hops (wsV RX3 87 RX3 yX3_holds wsX3_holds) := goodIn_app (goodIn_of _ (by decide +kernel)) ggX3_hops_X3_holds
theorem dX3_hops_0 : decode cX3_hops 0 = .ok (.aload_n 0, 1) := by decide +kernel
theorem dX3_hops_1 : decode cX3_hops 1 = .ok (.aload_n 0, 1) := by decide +kernel
theorem dX3_hops_2 : decode cX3_hops 2 = .ok (.iload_n 1, 1) := by decide +kernel
theorem dX3_hops_3 : decode cX3_hops 3 = .ok (.invokevirtual 132, 3) := by decide +kernel
theorem dX3_hops_6 : decode cX3_hops 6 = .ok (.ifCond .eq 7, 3) := by decide +kernel
theorem dX3_hops_9 : decode cX3_hops 9 = .ok (.iconst 0, 1) := by decide +kernel
theorem dX3_hops_10 : decode cX3_hops 10 = .ok (.goto 4, 3) := by decide +kernel
theorem dX3_hops_13 : decode cX3_hops 13 = .ok (.iconst 1, 1) := by decide +kernel
theorem dX3_hops_14 : decode cX3_hops 14 = .ok (.invokevirtual 87, 3) := by decide +kernel
theorem dX3_hops_17 : decode cX3_hops 17 = .ok (.ifCond .eq 7, 3) := by decide +kernel
theorem dX3_hops_20 : decode cX3_hops 20 = .ok (.iconst (-1), 1) := by decide +kernel
theorem dX3_hops_21 : decode cX3_hops 21 = .ok (.goto 9, 3) := by decide +kernel
theorem dX3_hops_24 : decode cX3_hops 24 = .ok (.aload_n 0, 1) := by decide +kernel
theorem dX3_hops_25 : decode cX3_hops 25 = .ok (.getfield 25, 3) := by decide +kernel
theorem dX3_hops_28 : decode cX3_hops 28 = .ok (.iload_n 1, 1) := by decide +kernel
theorem dX3_hops_29 : decode cX3_hops 29 = .ok (.iaload, 1) := by decide +kernel
theorem dX3_hops_30 : decode cX3_hops 30 = .ok (.ireturn, 1) := by decide +kernel
set_option maxRecDepth 20000 in
theorem ggX3_custodian_X3_isBundle : GoodIn wsX3_custodian wsX3_isBundle := goodIn_r _ [6, 7, 8, 9, 10, 5, 11, 17, 18, 19, 20, 21, 22, 23, 24, 25, 26, 27, 28, 29, 30, 31, 32, 33, 34, 35, 36, 37] (by decide +kernel) (by decide +kernel)
set_option maxRecDepth 20000 in
theorem gX3_custodian_X3_isBundle : GoodIn wsX3_custodian (wsV RX3 132 RX3 yX3_isBundle wsX3_isBundle) := goodIn_app (goodIn_of _ (by decide +kernel)) ggX3_custodian_X3_isBundle
set_option maxRecDepth 20000 in
theorem ggX3_custodian_X3_holds : GoodIn wsX3_custodian wsX3_holds := goodIn_r _ [15, 16, 17, 18, 19, 20, 21, 22, 23, 24, 25, 26, 27, 28, 29, 30, 31, 32, 33, 34, 35, 36, 37] (by decide +kernel) (by decide +kernel)
set_option maxRecDepth 20000 in
theorem gX3_custodian_X3_holds : GoodIn wsX3_custodian (wsV RX3 87 RX3 yX3_holds wsX3_holds) := goodIn_app (goodIn_of _ (by decide +kernel)) ggX3_custodian_X3_holds
theorem dX3_custodian_0 : decode cX3_custodian 0 = .ok (.aload_n 0, 1) := by decide +kernel
theorem dX3_custodian_1 : decode cX3_custodian 1 = .ok (.aload_n 0, 1) := by decide +kernel
theorem dX3_custodian_2 : decode cX3_custodian 2 = .ok (.iload_n 1, 1) := by decide +kernel
theorem dX3_custodian_3 : decode cX3_custodian 3 = .ok (.invokevirtual 132, 3) := by decide +kernel
theorem dX3_custodian_6 : decode cX3_custodian 6 = .ok (.ifCond .eq 7, 3) := by decide +kernel
theorem dX3_custodian_9 : decode cX3_custodian 9 = .ok (.iconst 0, 1) := by decide +kernel
theorem dX3_custodian_10 : decode cX3_custodian 10 = .ok (.goto 4, 3) := by decide +kernel
theorem dX3_custodian_13 : decode cX3_custodian 13 = .ok (.iconst 1, 1) := by decide +kernel
theorem dX3_custodian_14 : decode cX3_custodian 14 = .ok (.invokevirtual 87, 3) := by decide +kernel
theorem dX3_custodian_17 : decode cX3_custodian 17 = .ok (.ifCond .eq 7, 3) := by decide +kernel
theorem dX3_custodian_20 : decode cX3_custodian 20 = .ok (.iconst (-1), 1) := by decide +kernel
theorem dX3_custodian_21 : decode cX3_custodian 21 = .ok (.goto 9, 3) := by decide +kernel
theorem dX3_custodian_24 : decode cX3_custodian 24 = .ok (.aload_n 0, 1) := by decide +kernel
theorem dX3_custodian_25 : decode cX3_custodian 25 = .ok (.getfield 19, 3) := by decide +kernel
theorem dX3_custodian_28 : decode cX3_custodian 28 = .ok (.iload_n 1, 1) := by decide +kernel
theorem dX3_custodian_29 : decode cX3_custodian 29 = .ok (.iaload, 1) := by decide +kernel
theorem dX3_custodian_30 : decode cX3_custodian 30 = .ok (.ireturn, 1) := by decide +kernel
set_option maxRecDepth 20000 in
theorem ggX3_holders_X3_isBundle : GoodIn wsX3_holders wsX3_isBundle := goodIn_r _ [6, 7, 8, 9, 10, 5, 11, 17, 18, 19, 20, 21, 22, 23, 24, 25, 26, 27, 28, 29, 30, 31, 32, 33, 34, 35, 36, 37] (by decide +kernel) (by decide +kernel)
set_option maxRecDepth 20000 in
theorem gX3_holders_X3_isBundle : GoodIn wsX3_holders (wsV RX3 132 RX3 yX3_isBundle wsX3_isBundle) := goodIn_app (goodIn_of _ (by decide +kernel)) ggX3_holders_X3_isBundle
set_option maxRecDepth 20000 in
theorem ggX3_holders_X3_holds : GoodIn wsX3_holders wsX3_holds := goodIn_r _ [15, 16, 17, 18, 19, 20, 21, 22, 23, 24, 25, 26, 27, 28, 29, 30, 31, 32, 33, 34, 35, 36, 37] (by decide +kernel) (by decide +kernel)
set_option maxRecDepth 20000 in
theorem gX3_holders_X3_holds : GoodIn wsX3_holders (wsV RX3 87 RX3 yX3_holds wsX3_holds) := goodIn_app (goodIn_of _ (by decide +kernel)) ggX3_holders_X3_holds
theorem dX3_holders_0 : decode cX3_holders 0 = .ok (.aload_n 0, 1) := by decide +kernel
theorem dX3_holders_1 : decode cX3_holders 1 = .ok (.aload_n 0, 1) := by decide +kernel
theorem dX3_holders_2 : decode cX3_holders 2 = .ok (.iload_n 1, 1) := by decide +kernel
theorem dX3_holders_3 : decode cX3_holders 3 = .ok (.invokevirtual 132, 3) := by decide +kernel
theorem dX3_holders_6 : decode cX3_holders 6 = .ok (.ifCond .eq 7, 3) := by decide +kernel
theorem dX3_holders_9 : decode cX3_holders 9 = .ok (.iconst 0, 1) := by decide +kernel
theorem dX3_holders_10 : decode cX3_holders 10 = .ok (.goto 4, 3) := by decide +kernel
theorem dX3_holders_13 : decode cX3_holders 13 = .ok (.iconst 1, 1) := by decide +kernel
theorem dX3_holders_14 : decode cX3_holders 14 = .ok (.invokevirtual 87, 3) := by decide +kernel
theorem dX3_holders_17 : decode cX3_holders 17 = .ok (.ifCond .eq 5, 3) := by decide +kernel
theorem dX3_holders_20 : decode cX3_holders 20 = .ok (.iconst (-1), 1) := by decide +kernel
theorem dX3_holders_21 : decode cX3_holders 21 = .ok (.ireturn, 1) := by decide +kernel
theorem dX3_holders_22 : decode cX3_holders 22 = .ok (.iconst 0, 1) := by decide +kernel
theorem dX3_holders_23 : decode cX3_holders 23 = .ok (.istore_n 2, 1) := by decide +kernel
theorem dX3_holders_24 : decode cX3_holders 24 = .ok (.bipush 7, 2) := by decide +kernel
theorem dX3_holders_26 : decode cX3_holders 26 = .ok (.istore_n 3, 1) := by decide +kernel
theorem dX3_holders_27 : decode cX3_holders 27 = .ok (.iload_n 3, 1) := by decide +kernel
theorem dX3_holders_28 : decode cX3_holders 28 = .ok (.ifCond .lt 33, 3) := by decide +kernel
theorem dX3_holders_31 : decode cX3_holders 31 = .ok (.iconst 2, 1) := by decide +kernel
theorem dX3_holders_32 : decode cX3_holders 32 = .ok (.iload_n 2, 1) := by decide +kernel
theorem dX3_holders_33 : decode cX3_holders 33 = .ok (.imul, 1) := by decide +kernel
theorem dX3_holders_34 : decode cX3_holders 34 = .ok (.aload_n 0, 1) := by decide +kernel
theorem dX3_holders_35 : decode cX3_holders 35 = .ok (.getfield 28, 3) := by decide +kernel
theorem dX3_holders_38 : decode cX3_holders 38 = .ok (.bipush 40, 2) := by decide +kernel
theorem dX3_holders_40 : decode cX3_holders 40 = .ok (.iload_n 3, 1) := by decide +kernel
theorem dX3_holders_41 : decode cX3_holders 41 = .ok (.imul, 1) := by decide +kernel
theorem dX3_holders_42 : decode cX3_holders 42 = .ok (.iload_n 1, 1) := by decide +kernel
theorem dX3_holders_43 : decode cX3_holders 43 = .ok (.iadd, 1) := by decide +kernel
theorem dX3_holders_44 : decode cX3_holders 44 = .ok (.iaload, 1) := by decide +kernel
theorem dX3_holders_45 : decode cX3_holders 45 = .ok (.ifCond .le 7, 3) := by decide +kernel
theorem dX3_holders_48 : decode cX3_holders 48 = .ok (.iconst 1, 1) := by decide +kernel
theorem dX3_holders_49 : decode cX3_holders 49 = .ok (.goto 4, 3) := by decide +kernel
theorem dX3_holders_52 : decode cX3_holders 52 = .ok (.iconst 0, 1) := by decide +kernel
theorem dX3_holders_53 : decode cX3_holders 53 = .ok (.iadd, 1) := by decide +kernel
theorem dX3_holders_54 : decode cX3_holders 54 = .ok (.istore_n 2, 1) := by decide +kernel
theorem dX3_holders_55 : decode cX3_holders 55 = .ok (.iinc 3 (-1), 3) := by decide +kernel
theorem dX3_holders_58 : decode cX3_holders 58 = .ok (.goto (-31), 3) := by decide +kernel
theorem dX3_holders_61 : decode cX3_holders 61 = .ok (.iload_n 2, 1) := by decide +kernel
theorem dX3_holders_62 : decode cX3_holders 62 = .ok (.ireturn, 1) := by decide +kernel
set_option maxRecDepth 20000 in
theorem ggX3_copies_X3_isNode : GoodIn wsX3_copies wsX3_isNode := goodIn_r _ [6, 7, 8, 9, 5, 10] (by decide +kernel) (by decide +kernel)
set_option maxRecDepth 20000 in
theorem gX3_copies_X3_isNode : GoodIn wsX3_copies (wsV RX3 83 RX3 yX3_isNode wsX3_isNode) := goodIn_app (goodIn_of _ (by decide +kernel)) ggX3_copies_X3_isNode
set_option maxRecDepth 20000 in
theorem ggX3_copies_X3_isBundle : GoodIn wsX3_copies wsX3_isBundle := goodIn_r _ [14, 15, 7, 8, 9, 5, 10, 21, 22, 23, 24, 25, 26, 27, 28, 29, 30, 31, 32, 33, 34, 35, 36, 37, 38, 39, 40, 41] (by decide +kernel) (by decide +kernel)
set_option maxRecDepth 20000 in
theorem gX3_copies_X3_isBundle : GoodIn wsX3_copies (wsV RX3 132 RX3 yX3_isBundle wsX3_isBundle) := goodIn_app (goodIn_of _ (by decide +kernel)) ggX3_copies_X3_isBundle
set_option maxRecDepth 20000 in
theorem ggX3_copies_X3_holds : GoodIn wsX3_copies wsX3_holds := goodIn_r _ [19, 20, 21, 22, 23, 24, 25, 26, 27, 28, 29, 30, 31, 32, 33, 34, 35, 36, 37, 38, 39, 40, 41] (by decide +kernel) (by decide +kernel)
set_option maxRecDepth 20000 in
theorem gX3_copies_X3_holds : GoodIn wsX3_copies (wsV RX3 87 RX3 yX3_holds wsX3_holds) := goodIn_app (goodIn_of _ (by decide +kernel)) ggX3_copies_X3_holds
theorem dX3_copies_0 : decode cX3_copies 0 = .ok (.aload_n 0, 1) := by decide +kernel
theorem dX3_copies_1 : decode cX3_copies 1 = .ok (.aload_n 0, 1) := by decide +kernel
theorem dX3_copies_2 : decode cX3_copies 2 = .ok (.iload_n 1, 1) := by decide +kernel
theorem dX3_copies_3 : decode cX3_copies 3 = .ok (.invokevirtual 83, 3) := by decide +kernel
theorem dX3_copies_6 : decode cX3_copies 6 = .ok (.ifCond .eq 15, 3) := by decide +kernel
theorem dX3_copies_9 : decode cX3_copies 9 = .ok (.aload_n 0, 1) := by decide +kernel
theorem dX3_copies_10 : decode cX3_copies 10 = .ok (.iload_n 2, 1) := by decide +kernel
theorem dX3_copies_11 : decode cX3_copies 11 = .ok (.invokevirtual 132, 3) := by decide +kernel
theorem dX3_copies_14 : decode cX3_copies 14 = .ok (.ifCond .eq 7, 3) := by decide +kernel
theorem dX3_copies_17 : decode cX3_copies 17 = .ok (.iconst 0, 1) := by decide +kernel
theorem dX3_copies_18 : decode cX3_copies 18 = .ok (.goto 4, 3) := by decide +kernel
theorem dX3_copies_21 : decode cX3_copies 21 = .ok (.iconst 1, 1) := by decide +kernel
theorem dX3_copies_22 : decode cX3_copies 22 = .ok (.invokevirtual 87, 3) := by decide +kernel
theorem dX3_copies_25 : decode cX3_copies 25 = .ok (.ifCond .eq 7, 3) := by decide +kernel
theorem dX3_copies_28 : decode cX3_copies 28 = .ok (.iconst (-1), 1) := by decide +kernel
theorem dX3_copies_29 : decode cX3_copies 29 = .ok (.goto 14, 3) := by decide +kernel
theorem dX3_copies_32 : decode cX3_copies 32 = .ok (.aload_n 0, 1) := by decide +kernel
theorem dX3_copies_33 : decode cX3_copies 33 = .ok (.getfield 28, 3) := by decide +kernel
theorem dX3_copies_36 : decode cX3_copies 36 = .ok (.bipush 40, 2) := by decide +kernel
theorem dX3_copies_38 : decode cX3_copies 38 = .ok (.iload_n 1, 1) := by decide +kernel
theorem dX3_copies_39 : decode cX3_copies 39 = .ok (.imul, 1) := by decide +kernel
theorem dX3_copies_40 : decode cX3_copies 40 = .ok (.iload_n 2, 1) := by decide +kernel
theorem dX3_copies_41 : decode cX3_copies 41 = .ok (.iadd, 1) := by decide +kernel
theorem dX3_copies_42 : decode cX3_copies 42 = .ok (.iaload, 1) := by decide +kernel
theorem dX3_copies_43 : decode cX3_copies 43 = .ok (.ireturn, 1) := by decide +kernel
set_option maxRecDepth 20000 in
theorem ggX3_knows_X3_isNode : GoodIn wsX3_knows wsX3_isNode := goodIn_r _ [6, 7, 8, 9, 5, 10] (by decide +kernel) (by decide +kernel)
set_option maxRecDepth 20000 in
theorem gX3_knows_X3_isNode : GoodIn wsX3_knows (wsV RX3 83 RX3 yX3_isNode wsX3_isNode) := goodIn_app (goodIn_of _ (by decide +kernel)) ggX3_knows_X3_isNode
set_option maxRecDepth 20000 in
theorem ggX3_knows_X3_isBundle : GoodIn wsX3_knows wsX3_isBundle := goodIn_r _ [14, 15, 7, 8, 9, 5, 10, 21, 22, 23, 24, 25, 26, 27, 28, 29, 30, 31, 32, 33, 34, 35, 36, 37, 38, 39, 40, 41] (by decide +kernel) (by decide +kernel)
set_option maxRecDepth 20000 in
theorem gX3_knows_X3_isBundle : GoodIn wsX3_knows (wsV RX3 132 RX3 yX3_isBundle wsX3_isBundle) := goodIn_app (goodIn_of _ (by decide +kernel)) ggX3_knows_X3_isBundle
set_option maxRecDepth 20000 in
theorem ggX3_knows_X3_holds : GoodIn wsX3_knows wsX3_holds := goodIn_r _ [19, 20, 21, 22, 23, 24, 25, 26, 27, 28, 29, 30, 31, 32, 33, 34, 35, 36, 37, 38, 39, 40, 41] (by decide +kernel) (by decide +kernel)
set_option maxRecDepth 20000 in
theorem gX3_knows_X3_holds : GoodIn wsX3_knows (wsV RX3 87 RX3 yX3_holds wsX3_holds) := goodIn_app (goodIn_of _ (by decide +kernel)) ggX3_knows_X3_holds
theorem dX3_knows_0 : decode cX3_knows 0 = .ok (.aload_n 0, 1) := by decide +kernel
theorem dX3_knows_1 : decode cX3_knows 1 = .ok (.aload_n 0, 1) := by decide +kernel
theorem dX3_knows_2 : decode cX3_knows 2 = .ok (.iload_n 1, 1) := by decide +kernel
theorem dX3_knows_3 : decode cX3_knows 3 = .ok (.invokevirtual 83, 3) := by decide +kernel
theorem dX3_knows_6 : decode cX3_knows 6 = .ok (.ifCond .eq 15, 3) := by decide +kernel
theorem dX3_knows_9 : decode cX3_knows 9 = .ok (.aload_n 0, 1) := by decide +kernel
theorem dX3_knows_10 : decode cX3_knows 10 = .ok (.iload_n 2, 1) := by decide +kernel
theorem dX3_knows_11 : decode cX3_knows 11 = .ok (.invokevirtual 132, 3) := by decide +kernel
theorem dX3_knows_14 : decode cX3_knows 14 = .ok (.ifCond .eq 7, 3) := by decide +kernel
theorem dX3_knows_17 : decode cX3_knows 17 = .ok (.iconst 0, 1) := by decide +kernel
theorem dX3_knows_18 : decode cX3_knows 18 = .ok (.goto 4, 3) := by decide +kernel
theorem dX3_knows_21 : decode cX3_knows 21 = .ok (.iconst 1, 1) := by decide +kernel
theorem dX3_knows_22 : decode cX3_knows 22 = .ok (.invokevirtual 87, 3) := by decide +kernel
theorem dX3_knows_25 : decode cX3_knows 25 = .ok (.ifCond .ne 22, 3) := by decide +kernel
theorem dX3_knows_28 : decode cX3_knows 28 = .ok (.aload_n 0, 1) := by decide +kernel
theorem dX3_knows_29 : decode cX3_knows 29 = .ok (.getfield 34, 3) := by decide +kernel
theorem dX3_knows_32 : decode cX3_knows 32 = .ok (.bipush 40, 2) := by decide +kernel
theorem dX3_knows_34 : decode cX3_knows 34 = .ok (.iload_n 1, 1) := by decide +kernel
theorem dX3_knows_35 : decode cX3_knows 35 = .ok (.imul, 1) := by decide +kernel
theorem dX3_knows_36 : decode cX3_knows 36 = .ok (.iload_n 2, 1) := by decide +kernel
theorem dX3_knows_37 : decode cX3_knows 37 = .ok (.iadd, 1) := by decide +kernel
theorem dX3_knows_38 : decode cX3_knows 38 = .ok (.iaload, 1) := by decide +kernel
theorem dX3_knows_39 : decode cX3_knows 39 = .ok (.iconst 1, 1) := by decide +kernel
theorem dX3_knows_40 : decode cX3_knows 40 = .ok (.if_icmp .ne 7, 3) := by decide +kernel
theorem dX3_knows_43 : decode cX3_knows 43 = .ok (.iconst 1, 1) := by decide +kernel
theorem dX3_knows_44 : decode cX3_knows 44 = .ok (.goto 4, 3) := by decide +kernel
theorem dX3_knows_47 : decode cX3_knows 47 = .ok (.iconst 0, 1) := by decide +kernel
theorem dX3_knows_48 : decode cX3_knows 48 = .ok (.ireturn, 1) := by decide +kernel
set_option maxRecDepth 20000 in
theorem ggX3_held_X3_isNode : GoodIn wsX3_held wsX3_isNode := goodIn_r _ [5, 6, 7, 8, 4, 9] (by decide +kernel) (by decide +kernel)
set_option maxRecDepth 20000 in
theorem gX3_held_X3_isNode : GoodIn wsX3_held (wsV RX3 83 RX3 yX3_isNode wsX3_isNode) := goodIn_app (goodIn_of _ (by decide +kernel)) ggX3_held_X3_isNode
set_option maxRecDepth 20000 in
theorem ggX3_held_X3_holds : GoodIn wsX3_held wsX3_holds := goodIn_r _ [13, 14, 21, 22, 23, 24, 25, 26, 27, 28, 29, 30, 31, 32, 33, 34, 35, 36, 37, 38, 39, 40, 41] (by decide +kernel) (by decide +kernel)
set_option maxRecDepth 20000 in
theorem gX3_held_X3_holds : GoodIn wsX3_held (wsV RX3 87 RX3 yX3_holds wsX3_holds) := goodIn_app (goodIn_of _ (by decide +kernel)) ggX3_held_X3_holds
set_option maxRecDepth 20000 in
theorem ggX3_held_X3_load : GoodIn wsX3_held wsX3_load := goodIn_r _ [18, 19, 20, 21, 22, 23, 24, 25, 26, 27, 28, 29, 30, 31, 32, 33, 34, 35, 36, 37, 38, 39, 40, 41] (by decide +kernel) (by decide +kernel)
set_option maxRecDepth 20000 in
theorem gX3_held_X3_load : GoodIn wsX3_held (wsV RX3 76 RX3 yX3_load wsX3_load) := goodIn_app (goodIn_of _ (by decide +kernel)) ggX3_held_X3_load
theorem dX3_held_0 : decode cX3_held 0 = .ok (.aload_n 0, 1) := by decide +kernel
theorem dX3_held_1 : decode cX3_held 1 = .ok (.aload_n 0, 1) := by decide +kernel
theorem dX3_held_2 : decode cX3_held 2 = .ok (.iload_n 1, 1) := by decide +kernel
theorem dX3_held_3 : decode cX3_held 3 = .ok (.invokevirtual 83, 3) := by decide +kernel
theorem dX3_held_6 : decode cX3_held 6 = .ok (.ifCond .eq 7, 3) := by decide +kernel
theorem dX3_held_9 : decode cX3_held 9 = .ok (.iconst 0, 1) := by decide +kernel
theorem dX3_held_10 : decode cX3_held 10 = .ok (.goto 4, 3) := by decide +kernel
theorem dX3_held_13 : decode cX3_held 13 = .ok (.iconst 1, 1) := by decide +kernel
theorem dX3_held_14 : decode cX3_held 14 = .ok (.invokevirtual 87, 3) := by decide +kernel
theorem dX3_held_17 : decode cX3_held 17 = .ok (.ifCond .eq 7, 3) := by decide +kernel
theorem dX3_held_20 : decode cX3_held 20 = .ok (.iconst (-1), 1) := by decide +kernel
theorem dX3_held_21 : decode cX3_held 21 = .ok (.goto 8, 3) := by decide +kernel
theorem dX3_held_24 : decode cX3_held 24 = .ok (.aload_n 0, 1) := by decide +kernel
theorem dX3_held_25 : decode cX3_held 25 = .ok (.iload_n 1, 1) := by decide +kernel
theorem dX3_held_26 : decode cX3_held 26 = .ok (.invokevirtual 76, 3) := by decide +kernel
theorem dX3_held_29 : decode cX3_held 29 = .ok (.ireturn, 1) := by decide +kernel
set_option maxRecDepth 20000 in
theorem ggX3_heldAt_X3_isNode : GoodIn wsX3_heldAt wsX3_isNode := goodIn_r _ [7, 8, 9, 10, 6, 11] (by decide +kernel) (by decide +kernel)
set_option maxRecDepth 20000 in
theorem gX3_heldAt_X3_isNode : GoodIn wsX3_heldAt (wsV RX3 83 RX3 yX3_isNode wsX3_isNode) := goodIn_app (goodIn_of _ (by decide +kernel)) ggX3_heldAt_X3_isNode
set_option maxRecDepth 20000 in
theorem ggX3_heldAt_X3_load : GoodIn wsX3_heldAt wsX3_load := goodIn_r _ [15, 1, 2, 27, 28, 29, 30, 31, 32, 33, 34, 35, 36, 37, 38, 39, 40, 41, 42, 43, 44, 45, 46, 47] (by decide +kernel) (by decide +kernel)
set_option maxRecDepth 20000 in
theorem gX3_heldAt_X3_load : GoodIn wsX3_heldAt (wsV RX3 76 RX3 yX3_load wsX3_load) := goodIn_app (goodIn_of _ (by decide +kernel)) ggX3_heldAt_X3_load
set_option maxRecDepth 20000 in
theorem ggX3_heldAt_X3_between : GoodIn wsX3_heldAt wsX3_between := goodIn_r _ [11] (by decide +kernel) (by decide +kernel)
set_option maxRecDepth 20000 in
theorem gX3_heldAt_X3_between : GoodIn wsX3_heldAt (wsV RX3 65 RX3 yX3_between wsX3_between) := goodIn_app (goodIn_of _ (by decide +kernel)) ggX3_heldAt_X3_between
set_option maxRecDepth 20000 in
theorem ggX3_heldAt_X3_holds : GoodIn wsX3_heldAt wsX3_holds := goodIn_r _ [19, 20, 27, 28, 29, 30, 31, 32, 33, 34, 35, 36, 37, 38, 39, 40, 41, 42, 43, 44, 45, 46, 47] (by decide +kernel) (by decide +kernel)
set_option maxRecDepth 20000 in
theorem gX3_heldAt_X3_holds : GoodIn wsX3_heldAt (wsV RX3 87 RX3 yX3_holds wsX3_holds) := goodIn_app (goodIn_of _ (by decide +kernel)) ggX3_heldAt_X3_holds
set_option maxRecDepth 20000 in
theorem ggX3_heldAt_X3_precedes : GoodIn wsX3_heldAt wsX3_precedes := goodIn_r _ [24, 25, 26, 27, 28, 29, 30, 31, 32, 33, 34, 35, 36, 37, 38, 39, 40, 41, 42, 43, 44, 45, 46, 47] (by decide +kernel) (by decide +kernel)
set_option maxRecDepth 20000 in
theorem gX3_heldAt_X3_precedes : GoodIn wsX3_heldAt (wsV RX3 72 RX3 yX3_precedes wsX3_precedes) := goodIn_app (goodIn_of _ (by decide +kernel)) ggX3_heldAt_X3_precedes
theorem dX3_heldAt_0 : decode cX3_heldAt 0 = .ok (.aload_n 0, 1) := by decide +kernel
theorem dX3_heldAt_1 : decode cX3_heldAt 1 = .ok (.aload_n 0, 1) := by decide +kernel
theorem dX3_heldAt_2 : decode cX3_heldAt 2 = .ok (.iload_n 1, 1) := by decide +kernel
theorem dX3_heldAt_3 : decode cX3_heldAt 3 = .ok (.invokevirtual 83, 3) := by decide +kernel
theorem dX3_heldAt_6 : decode cX3_heldAt 6 = .ok (.ifCond .eq 23, 3) := by decide +kernel
theorem dX3_heldAt_9 : decode cX3_heldAt 9 = .ok (.aload_n 0, 1) := by decide +kernel
theorem dX3_heldAt_10 : decode cX3_heldAt 10 = .ok (.iload_n 2, 1) := by decide +kernel
theorem dX3_heldAt_11 : decode cX3_heldAt 11 = .ok (.iconst 0, 1) := by decide +kernel
theorem dX3_heldAt_12 : decode cX3_heldAt 12 = .ok (.aload_n 0, 1) := by decide +kernel
theorem dX3_heldAt_13 : decode cX3_heldAt 13 = .ok (.iload_n 1, 1) := by decide +kernel
theorem dX3_heldAt_14 : decode cX3_heldAt 14 = .ok (.invokevirtual 76, 3) := by decide +kernel
theorem dX3_heldAt_17 : decode cX3_heldAt 17 = .ok (.iconst 1, 1) := by decide +kernel
theorem dX3_heldAt_18 : decode cX3_heldAt 18 = .ok (.isub, 1) := by decide +kernel
theorem dX3_heldAt_19 : decode cX3_heldAt 19 = .ok (.invokevirtual 65, 3) := by decide +kernel
theorem dX3_heldAt_22 : decode cX3_heldAt 22 = .ok (.ifCond .eq 7, 3) := by decide +kernel
theorem dX3_heldAt_25 : decode cX3_heldAt 25 = .ok (.iconst 0, 1) := by decide +kernel
theorem dX3_heldAt_26 : decode cX3_heldAt 26 = .ok (.goto 4, 3) := by decide +kernel
theorem dX3_heldAt_29 : decode cX3_heldAt 29 = .ok (.iconst 1, 1) := by decide +kernel
theorem dX3_heldAt_30 : decode cX3_heldAt 30 = .ok (.invokevirtual 87, 3) := by decide +kernel
theorem dX3_heldAt_33 : decode cX3_heldAt 33 = .ok (.ifCond .eq 5, 3) := by decide +kernel
theorem dX3_heldAt_36 : decode cX3_heldAt 36 = .ok (.iconst (-1), 1) := by decide +kernel
theorem dX3_heldAt_37 : decode cX3_heldAt 37 = .ok (.ireturn, 1) := by decide +kernel
theorem dX3_heldAt_38 : decode cX3_heldAt 38 = .ok (.iconst (-1), 1) := by decide +kernel
theorem dX3_heldAt_39 : decode cX3_heldAt 39 = .ok (.istore_n 3, 1) := by decide +kernel
theorem dX3_heldAt_40 : decode cX3_heldAt 40 = .ok (.iconst 0, 1) := by decide +kernel
theorem dX3_heldAt_41 : decode cX3_heldAt 41 = .ok (.istore 4, 2) := by decide +kernel
theorem dX3_heldAt_43 : decode cX3_heldAt 43 = .ok (.iload 4, 2) := by decide +kernel
theorem dX3_heldAt_45 : decode cX3_heldAt 45 = .ok (.aload_n 0, 1) := by decide +kernel
theorem dX3_heldAt_46 : decode cX3_heldAt 46 = .ok (.getfield 69, 3) := by decide +kernel
theorem dX3_heldAt_49 : decode cX3_heldAt 49 = .ok (.if_icmp .ge 94, 3) := by decide +kernel
theorem dX3_heldAt_52 : decode cX3_heldAt 52 = .ok (.iconst 0, 1) := by decide +kernel
theorem dX3_heldAt_53 : decode cX3_heldAt 53 = .ok (.istore 5, 2) := by decide +kernel
theorem dX3_heldAt_55 : decode cX3_heldAt 55 = .ok (.iconst 0, 1) := by decide +kernel
theorem dX3_heldAt_56 : decode cX3_heldAt 56 = .ok (.istore 6, 2) := by decide +kernel
theorem dX3_heldAt_58 : decode cX3_heldAt 58 = .ok (.iload 6, 2) := by decide +kernel
theorem dX3_heldAt_60 : decode cX3_heldAt 60 = .ok (.aload_n 0, 1) := by decide +kernel
theorem dX3_heldAt_61 : decode cX3_heldAt 61 = .ok (.getfield 69, 3) := by decide +kernel
theorem dX3_heldAt_64 : decode cX3_heldAt 64 = .ok (.if_icmp .ge 45, 3) := by decide +kernel
theorem dX3_heldAt_67 : decode cX3_heldAt 67 = .ok (.iload 5, 2) := by decide +kernel
theorem dX3_heldAt_69 : decode cX3_heldAt 69 = .ok (.aload_n 0, 1) := by decide +kernel
theorem dX3_heldAt_70 : decode cX3_heldAt 70 = .ok (.getfield 28, 3) := by decide +kernel
theorem dX3_heldAt_73 : decode cX3_heldAt 73 = .ok (.bipush 40, 2) := by decide +kernel
theorem dX3_heldAt_75 : decode cX3_heldAt 75 = .ok (.iload_n 1, 1) := by decide +kernel
theorem dX3_heldAt_76 : decode cX3_heldAt 76 = .ok (.imul, 1) := by decide +kernel
theorem dX3_heldAt_77 : decode cX3_heldAt 77 = .ok (.iload 6, 2) := by decide +kernel
theorem dX3_heldAt_79 : decode cX3_heldAt 79 = .ok (.iadd, 1) := by decide +kernel
theorem dX3_heldAt_80 : decode cX3_heldAt 80 = .ok (.iaload, 1) := by decide +kernel
theorem dX3_heldAt_81 : decode cX3_heldAt 81 = .ok (.ifCond .le 18, 3) := by decide +kernel
theorem dX3_heldAt_84 : decode cX3_heldAt 84 = .ok (.aload_n 0, 1) := by decide +kernel
theorem dX3_heldAt_85 : decode cX3_heldAt 85 = .ok (.iload 6, 2) := by decide +kernel
theorem dX3_heldAt_87 : decode cX3_heldAt 87 = .ok (.iload 4, 2) := by decide +kernel
theorem dX3_heldAt_89 : decode cX3_heldAt 89 = .ok (.invokevirtual 72, 3) := by decide +kernel
theorem dX3_heldAt_92 : decode cX3_heldAt 92 = .ok (.ifCond .eq 7, 3) := by decide +kernel
theorem dX3_heldAt_95 : decode cX3_heldAt 95 = .ok (.iconst 1, 1) := by decide +kernel
theorem dX3_heldAt_96 : decode cX3_heldAt 96 = .ok (.goto 4, 3) := by decide +kernel
theorem dX3_heldAt_99 : decode cX3_heldAt 99 = .ok (.iconst 0, 1) := by decide +kernel
theorem dX3_heldAt_100 : decode cX3_heldAt 100 = .ok (.iadd, 1) := by decide +kernel
theorem dX3_heldAt_101 : decode cX3_heldAt 101 = .ok (.istore 5, 2) := by decide +kernel
theorem dX3_heldAt_103 : decode cX3_heldAt 103 = .ok (.iinc 6 1, 3) := by decide +kernel
theorem dX3_heldAt_106 : decode cX3_heldAt 106 = .ok (.goto (-48), 3) := by decide +kernel
theorem dX3_heldAt_109 : decode cX3_heldAt 109 = .ok (.aload_n 0, 1) := by decide +kernel
theorem dX3_heldAt_110 : decode cX3_heldAt 110 = .ok (.getfield 28, 3) := by decide +kernel
theorem dX3_heldAt_113 : decode cX3_heldAt 113 = .ok (.bipush 40, 2) := by decide +kernel
theorem dX3_heldAt_115 : decode cX3_heldAt 115 = .ok (.iload_n 1, 1) := by decide +kernel
theorem dX3_heldAt_116 : decode cX3_heldAt 116 = .ok (.imul, 1) := by decide +kernel
theorem dX3_heldAt_117 : decode cX3_heldAt 117 = .ok (.iload 4, 2) := by decide +kernel
theorem dX3_heldAt_119 : decode cX3_heldAt 119 = .ok (.iadd, 1) := by decide +kernel
theorem dX3_heldAt_120 : decode cX3_heldAt 120 = .ok (.iaload, 1) := by decide +kernel
theorem dX3_heldAt_121 : decode cX3_heldAt 121 = .ok (.ifCond .le 14, 3) := by decide +kernel
theorem dX3_heldAt_124 : decode cX3_heldAt 124 = .ok (.iload 5, 2) := by decide +kernel
theorem dX3_heldAt_126 : decode cX3_heldAt 126 = .ok (.iload_n 2, 1) := by decide +kernel
theorem dX3_heldAt_127 : decode cX3_heldAt 127 = .ok (.if_icmp .ne 8, 3) := by decide +kernel
theorem dX3_heldAt_130 : decode cX3_heldAt 130 = .ok (.iload 4, 2) := by decide +kernel
theorem dX3_heldAt_132 : decode cX3_heldAt 132 = .ok (.goto 4, 3) := by decide +kernel
theorem dX3_heldAt_135 : decode cX3_heldAt 135 = .ok (.iload_n 3, 1) := by decide +kernel
theorem dX3_heldAt_136 : decode cX3_heldAt 136 = .ok (.istore_n 3, 1) := by decide +kernel
theorem dX3_heldAt_137 : decode cX3_heldAt 137 = .ok (.iinc 4 1, 3) := by decide +kernel
theorem dX3_heldAt_140 : decode cX3_heldAt 140 = .ok (.goto (-97), 3) := by decide +kernel
theorem dX3_heldAt_143 : decode cX3_heldAt 143 = .ok (.iload_n 3, 1) := by decide +kernel
theorem dX3_heldAt_144 : decode cX3_heldAt 144 = .ok (.ireturn, 1) := by decide +kernel
set_option maxRecDepth 20000 in
theorem ggX3_dropped_X3_isNode : GoodIn wsX3_dropped wsX3_isNode := goodIn_r _ [6, 7, 8, 9, 5, 10] (by decide +kernel) (by decide +kernel)
set_option maxRecDepth 20000 in
theorem gX3_dropped_X3_isNode : GoodIn wsX3_dropped (wsV RX3 83 RX3 yX3_isNode wsX3_isNode) := goodIn_app (goodIn_of _ (by decide +kernel)) ggX3_dropped_X3_isNode
set_option maxRecDepth 20000 in
theorem ggX3_dropped_X3_holds : GoodIn wsX3_dropped wsX3_holds := goodIn_r _ [14, 15, 16, 17, 18, 19, 20, 21, 22, 23, 24, 25, 26, 27, 28, 29, 30, 31, 32, 33, 34, 35, 36] (by decide +kernel) (by decide +kernel)
set_option maxRecDepth 20000 in
theorem gX3_dropped_X3_holds : GoodIn wsX3_dropped (wsV RX3 87 RX3 yX3_holds wsX3_holds) := goodIn_app (goodIn_of _ (by decide +kernel)) ggX3_dropped_X3_holds
theorem dX3_dropped_0 : decode cX3_dropped 0 = .ok (.aload_n 0, 1) := by decide +kernel
theorem dX3_dropped_1 : decode cX3_dropped 1 = .ok (.aload_n 0, 1) := by decide +kernel
theorem dX3_dropped_2 : decode cX3_dropped 2 = .ok (.iload_n 1, 1) := by decide +kernel
theorem dX3_dropped_3 : decode cX3_dropped 3 = .ok (.invokevirtual 83, 3) := by decide +kernel
theorem dX3_dropped_6 : decode cX3_dropped 6 = .ok (.ifCond .eq 7, 3) := by decide +kernel
theorem dX3_dropped_9 : decode cX3_dropped 9 = .ok (.iconst 0, 1) := by decide +kernel
theorem dX3_dropped_10 : decode cX3_dropped 10 = .ok (.goto 4, 3) := by decide +kernel
theorem dX3_dropped_13 : decode cX3_dropped 13 = .ok (.iconst 1, 1) := by decide +kernel
theorem dX3_dropped_14 : decode cX3_dropped 14 = .ok (.invokevirtual 87, 3) := by decide +kernel
theorem dX3_dropped_17 : decode cX3_dropped 17 = .ok (.ifCond .eq 7, 3) := by decide +kernel
theorem dX3_dropped_20 : decode cX3_dropped 20 = .ok (.iconst (-1), 1) := by decide +kernel
theorem dX3_dropped_21 : decode cX3_dropped 21 = .ok (.goto 9, 3) := by decide +kernel
theorem dX3_dropped_24 : decode cX3_dropped 24 = .ok (.aload_n 0, 1) := by decide +kernel
theorem dX3_dropped_25 : decode cX3_dropped 25 = .ok (.getfield 40, 3) := by decide +kernel
theorem dX3_dropped_28 : decode cX3_dropped 28 = .ok (.iload_n 1, 1) := by decide +kernel
theorem dX3_dropped_29 : decode cX3_dropped 29 = .ok (.iaload, 1) := by decide +kernel
theorem dX3_dropped_30 : decode cX3_dropped 30 = .ok (.ireturn, 1) := by decide +kernel
set_option maxRecDepth 20000 in
theorem ggX3_refused_X3_isNode : GoodIn wsX3_refused wsX3_isNode := goodIn_r _ [6, 7, 8, 9, 5, 10] (by decide +kernel) (by decide +kernel)
set_option maxRecDepth 20000 in
theorem gX3_refused_X3_isNode : GoodIn wsX3_refused (wsV RX3 83 RX3 yX3_isNode wsX3_isNode) := goodIn_app (goodIn_of _ (by decide +kernel)) ggX3_refused_X3_isNode
set_option maxRecDepth 20000 in
theorem ggX3_refused_X3_holds : GoodIn wsX3_refused wsX3_holds := goodIn_r _ [14, 15, 16, 17, 18, 19, 20, 21, 22, 23, 24, 25, 26, 27, 28, 29, 30, 31, 32, 33, 34, 35, 36] (by decide +kernel) (by decide +kernel)
set_option maxRecDepth 20000 in
theorem gX3_refused_X3_holds : GoodIn wsX3_refused (wsV RX3 87 RX3 yX3_holds wsX3_holds) := goodIn_app (goodIn_of _ (by decide +kernel)) ggX3_refused_X3_holds
theorem dX3_refused_0 : decode cX3_refused 0 = .ok (.aload_n 0, 1) := by decide +kernel
theorem dX3_refused_1 : decode cX3_refused 1 = .ok (.aload_n 0, 1) := by decide +kernel
theorem dX3_refused_2 : decode cX3_refused 2 = .ok (.iload_n 1, 1) := by decide +kernel
theorem dX3_refused_3 : decode cX3_refused 3 = .ok (.invokevirtual 83, 3) := by decide +kernel
theorem dX3_refused_6 : decode cX3_refused 6 = .ok (.ifCond .eq 7, 3) := by decide +kernel
theorem dX3_refused_9 : decode cX3_refused 9 = .ok (.iconst 0, 1) := by decide +kernel
theorem dX3_refused_10 : decode cX3_refused 10 = .ok (.goto 4, 3) := by decide +kernel
theorem dX3_refused_13 : decode cX3_refused 13 = .ok (.iconst 1, 1) := by decide +kernel
theorem dX3_refused_14 : decode cX3_refused 14 = .ok (.invokevirtual 87, 3) := by decide +kernel
theorem dX3_refused_17 : decode cX3_refused 17 = .ok (.ifCond .eq 7, 3) := by decide +kernel
theorem dX3_refused_20 : decode cX3_refused 20 = .ok (.iconst (-1), 1) := by decide +kernel
theorem dX3_refused_21 : decode cX3_refused 21 = .ok (.goto 9, 3) := by decide +kernel
theorem dX3_refused_24 : decode cX3_refused 24 = .ok (.aload_n 0, 1) := by decide +kernel
theorem dX3_refused_25 : decode cX3_refused 25 = .ok (.getfield 43, 3) := by decide +kernel
theorem dX3_refused_28 : decode cX3_refused 28 = .ok (.iload_n 1, 1) := by decide +kernel
theorem dX3_refused_29 : decode cX3_refused 29 = .ok (.iaload, 1) := by decide +kernel
theorem dX3_refused_30 : decode cX3_refused 30 = .ok (.ireturn, 1) := by decide +kernel
theorem dX3_use_0 : decode cX3_use 0 = .ok (.aload_n 0, 1) := by decide +kernel
theorem dX3_use_1 : decode cX3_use 1 = .ok (.getfield 46, 3) := by decide +kernel
theorem dX3_use_4 : decode cX3_use 4 = .ok (.iconst 4, 1) := by decide +kernel
theorem dX3_use_5 : decode cX3_use 5 = .ok (.iload_n 1, 1) := by decide +kernel
theorem dX3_use_6 : decode cX3_use 6 = .ok (.imul, 1) := by decide +kernel
theorem dX3_use_7 : decode cX3_use 7 = .ok (.iconst 2, 1) := by decide +kernel
theorem dX3_use_8 : decode cX3_use 8 = .ok (.iadd, 1) := by decide +kernel
theorem dX3_use_9 : decode cX3_use 9 = .ok (.iaload, 1) := by decide +kernel
theorem dX3_use_10 : decode cX3_use 10 = .ok (.istore_n 3, 1) := by decide +kernel
theorem dX3_use_11 : decode cX3_use 11 = .ok (.iload_n 2, 1) := by decide +kernel
theorem dX3_use_12 : decode cX3_use 12 = .ok (.iload_n 3, 1) := by decide +kernel
theorem dX3_use_13 : decode cX3_use 13 = .ok (.if_icmp .le 7, 3) := by decide +kernel
theorem dX3_use_16 : decode cX3_use 16 = .ok (.iload_n 2, 1) := by decide +kernel
theorem dX3_use_17 : decode cX3_use 17 = .ok (.goto 4, 3) := by decide +kernel
theorem dX3_use_20 : decode cX3_use 20 = .ok (.iload_n 3, 1) := by decide +kernel
theorem dX3_use_21 : decode cX3_use 21 = .ok (.istore 4, 2) := by decide +kernel
theorem dX3_use_23 : decode cX3_use 23 = .ok (.iload 4, 2) := by decide +kernel
theorem dX3_use_25 : decode cX3_use 25 = .ok (.aload_n 0, 1) := by decide +kernel
theorem dX3_use_26 : decode cX3_use 26 = .ok (.getfield 46, 3) := by decide +kernel
theorem dX3_use_29 : decode cX3_use 29 = .ok (.iconst 4, 1) := by decide +kernel
theorem dX3_use_30 : decode cX3_use 30 = .ok (.iload_n 1, 1) := by decide +kernel
theorem dX3_use_31 : decode cX3_use 31 = .ok (.imul, 1) := by decide +kernel
theorem dX3_use_32 : decode cX3_use 32 = .ok (.iconst 3, 1) := by decide +kernel
theorem dX3_use_33 : decode cX3_use 33 = .ok (.iadd, 1) := by decide +kernel
theorem dX3_use_34 : decode cX3_use 34 = .ok (.iaload, 1) := by decide +kernel
theorem dX3_use_35 : decode cX3_use 35 = .ok (.if_icmp .gt 8, 3) := by decide +kernel
theorem dX3_use_38 : decode cX3_use 38 = .ok (.iload 4, 2) := by decide +kernel
theorem dX3_use_40 : decode cX3_use 40 = .ok (.goto 4, 3) := by decide +kernel
theorem dX3_use_43 : decode cX3_use 43 = .ok (.iconst (-1), 1) := by decide +kernel
theorem dX3_use_44 : decode cX3_use 44 = .ok (.ireturn, 1) := by decide +kernel
theorem dX3_begin_0 : decode cX3_begin 0 = .ok (.iconst 0, 1) := by decide +kernel
theorem dX3_begin_1 : decode cX3_begin 1 = .ok (.istore_n 2, 1) := by decide +kernel
theorem dX3_begin_2 : decode cX3_begin 2 = .ok (.iload_n 2, 1) := by decide +kernel
theorem dX3_begin_3 : decode cX3_begin 3 = .ok (.bipush 8, 2) := by decide +kernel
theorem dX3_begin_5 : decode cX3_begin 5 = .ok (.if_icmp .ge 35, 3) := by decide +kernel
theorem dX3_begin_8 : decode cX3_begin 8 = .ok (.aload_n 0, 1) := by decide +kernel
theorem dX3_begin_9 : decode cX3_begin 9 = .ok (.getfield 55, 3) := by decide +kernel
theorem dX3_begin_12 : decode cX3_begin 12 = .ok (.iload_n 2, 1) := by decide +kernel
theorem dX3_begin_13 : decode cX3_begin 13 = .ok (.iload_n 2, 1) := by decide +kernel
theorem dX3_begin_14 : decode cX3_begin 14 = .ok (.iload_n 1, 1) := by decide +kernel
theorem dX3_begin_15 : decode cX3_begin 15 = .ok (.if_icmp .ne 10, 3) := by decide +kernel
theorem dX3_begin_18 : decode cX3_begin 18 = .ok (.aload_n 0, 1) := by decide +kernel
theorem dX3_begin_19 : decode cX3_begin 19 = .ok (.getfield 93, 3) := by decide +kernel
theorem dX3_begin_22 : decode cX3_begin 22 = .ok (.goto 4, 3) := by decide +kernel
theorem dX3_begin_25 : decode cX3_begin 25 = .ok (.iconst (-1), 1) := by decide +kernel
theorem dX3_begin_26 : decode cX3_begin 26 = .ok (.iastore, 1) := by decide +kernel
theorem dX3_begin_27 : decode cX3_begin 27 = .ok (.aload_n 0, 1) := by decide +kernel
theorem dX3_begin_28 : decode cX3_begin 28 = .ok (.getfield 58, 3) := by decide +kernel
theorem dX3_begin_31 : decode cX3_begin 31 = .ok (.iload_n 2, 1) := by decide +kernel
theorem dX3_begin_32 : decode cX3_begin 32 = .ok (.iconst 0, 1) := by decide +kernel
theorem dX3_begin_33 : decode cX3_begin 33 = .ok (.iastore, 1) := by decide +kernel
theorem dX3_begin_34 : decode cX3_begin 34 = .ok (.iinc 2 1, 3) := by decide +kernel
theorem dX3_begin_37 : decode cX3_begin 37 = .ok (.goto (-35), 3) := by decide +kernel
theorem dX3_begin_40 : decode cX3_begin 40 = .ok (.return_, 1) := by decide +kernel
theorem dX3_improve_0 : decode cX3_improve 0 = .ok (.iload_n 2, 1) := by decide +kernel
theorem dX3_improve_1 : decode cX3_improve 1 = .ok (.ifCond .lt 29, 3) := by decide +kernel
theorem dX3_improve_4 : decode cX3_improve 4 = .ok (.aload_n 0, 1) := by decide +kernel
theorem dX3_improve_5 : decode cX3_improve 5 = .ok (.getfield 55, 3) := by decide +kernel
theorem dX3_improve_8 : decode cX3_improve 8 = .ok (.iload_n 1, 1) := by decide +kernel
theorem dX3_improve_9 : decode cX3_improve 9 = .ok (.iaload, 1) := by decide +kernel
theorem dX3_improve_10 : decode cX3_improve 10 = .ok (.ifCond .lt 13, 3) := by decide +kernel
theorem dX3_improve_13 : decode cX3_improve 13 = .ok (.iload_n 2, 1) := by decide +kernel
theorem dX3_improve_14 : decode cX3_improve 14 = .ok (.aload_n 0, 1) := by decide +kernel
theorem dX3_improve_15 : decode cX3_improve 15 = .ok (.getfield 55, 3) := by decide +kernel
theorem dX3_improve_18 : decode cX3_improve 18 = .ok (.iload_n 1, 1) := by decide +kernel
theorem dX3_improve_19 : decode cX3_improve 19 = .ok (.iaload, 1) := by decide +kernel
theorem dX3_improve_20 : decode cX3_improve 20 = .ok (.if_icmp .ge 10, 3) := by decide +kernel
theorem dX3_improve_23 : decode cX3_improve 23 = .ok (.aload_n 0, 1) := by decide +kernel
theorem dX3_improve_24 : decode cX3_improve 24 = .ok (.getfield 55, 3) := by decide +kernel
theorem dX3_improve_27 : decode cX3_improve 27 = .ok (.iload_n 1, 1) := by decide +kernel
theorem dX3_improve_28 : decode cX3_improve 28 = .ok (.iload_n 2, 1) := by decide +kernel
theorem dX3_improve_29 : decode cX3_improve 29 = .ok (.iastore, 1) := by decide +kernel
theorem dX3_improve_30 : decode cX3_improve 30 = .ok (.return_, 1) := by decide +kernel
theorem dX3_nearest_0 : decode cX3_nearest 0 = .ok (.iconst (-1), 1) := by decide +kernel
theorem dX3_nearest_1 : decode cX3_nearest 1 = .ok (.istore_n 1, 1) := by decide +kernel
theorem dX3_nearest_2 : decode cX3_nearest 2 = .ok (.iconst 0, 1) := by decide +kernel
theorem dX3_nearest_3 : decode cX3_nearest 3 = .ok (.istore_n 2, 1) := by decide +kernel
theorem dX3_nearest_4 : decode cX3_nearest 4 = .ok (.iload_n 2, 1) := by decide +kernel
theorem dX3_nearest_5 : decode cX3_nearest 5 = .ok (.bipush 8, 2) := by decide +kernel
theorem dX3_nearest_7 : decode cX3_nearest 7 = .ok (.if_icmp .ge 48, 3) := by decide +kernel
theorem dX3_nearest_10 : decode cX3_nearest 10 = .ok (.aload_n 0, 1) := by decide +kernel
theorem dX3_nearest_11 : decode cX3_nearest 11 = .ok (.getfield 58, 3) := by decide +kernel
theorem dX3_nearest_14 : decode cX3_nearest 14 = .ok (.iload_n 2, 1) := by decide +kernel
theorem dX3_nearest_15 : decode cX3_nearest 15 = .ok (.iaload, 1) := by decide +kernel
theorem dX3_nearest_16 : decode cX3_nearest 16 = .ok (.ifCond .ne 33, 3) := by decide +kernel
theorem dX3_nearest_19 : decode cX3_nearest 19 = .ok (.aload_n 0, 1) := by decide +kernel
theorem dX3_nearest_20 : decode cX3_nearest 20 = .ok (.getfield 55, 3) := by decide +kernel
theorem dX3_nearest_23 : decode cX3_nearest 23 = .ok (.iload_n 2, 1) := by decide +kernel
theorem dX3_nearest_24 : decode cX3_nearest 24 = .ok (.iaload, 1) := by decide +kernel
theorem dX3_nearest_25 : decode cX3_nearest 25 = .ok (.ifCond .lt 24, 3) := by decide +kernel
theorem dX3_nearest_28 : decode cX3_nearest 28 = .ok (.iload_n 1, 1) := by decide +kernel
theorem dX3_nearest_29 : decode cX3_nearest 29 = .ok (.ifCond .lt 18, 3) := by decide +kernel
theorem dX3_nearest_32 : decode cX3_nearest 32 = .ok (.aload_n 0, 1) := by decide +kernel
theorem dX3_nearest_33 : decode cX3_nearest 33 = .ok (.getfield 55, 3) := by decide +kernel
theorem dX3_nearest_36 : decode cX3_nearest 36 = .ok (.iload_n 2, 1) := by decide +kernel
theorem dX3_nearest_37 : decode cX3_nearest 37 = .ok (.iaload, 1) := by decide +kernel
theorem dX3_nearest_38 : decode cX3_nearest 38 = .ok (.aload_n 0, 1) := by decide +kernel
theorem dX3_nearest_39 : decode cX3_nearest 39 = .ok (.getfield 55, 3) := by decide +kernel
theorem dX3_nearest_42 : decode cX3_nearest 42 = .ok (.iload_n 1, 1) := by decide +kernel
theorem dX3_nearest_43 : decode cX3_nearest 43 = .ok (.iaload, 1) := by decide +kernel
theorem dX3_nearest_44 : decode cX3_nearest 44 = .ok (.if_icmp .ge 5, 3) := by decide +kernel
theorem dX3_nearest_47 : decode cX3_nearest 47 = .ok (.iload_n 2, 1) := by decide +kernel
theorem dX3_nearest_48 : decode cX3_nearest 48 = .ok (.istore_n 1, 1) := by decide +kernel
theorem dX3_nearest_49 : decode cX3_nearest 49 = .ok (.iinc 2 1, 3) := by decide +kernel
theorem dX3_nearest_52 : decode cX3_nearest 52 = .ok (.goto (-48), 3) := by decide +kernel
theorem dX3_nearest_55 : decode cX3_nearest 55 = .ok (.iload_n 1, 1) := by decide +kernel
theorem dX3_nearest_56 : decode cX3_nearest 56 = .ok (.ireturn, 1) := by decide +kernel
set_option maxRecDepth 20000 in
theorem ggX3_reach_X3_begin : GoodIn wsX3_reach wsX3_begin := goodIn_r _ [9, 4, 10, 1, 23, 24, 25, 26, 27, 28, 29, 30, 31, 32, 33, 34, 35, 36, 37, 38, 39, 40, 41, 42, 43] (by decide +kernel) (by decide +kernel)
set_option maxRecDepth 20000 in
theorem gX3_reach_X3_begin : GoodIn wsX3_reach (wsV RX3 135 RX3 yX3_begin wsX3_begin) := goodIn_app (goodIn_of _ (by decide +kernel)) ggX3_reach_X3_begin
set_option maxRecDepth 20000 in
theorem ggX3_reach_X3_nearest : GoodIn wsX3_reach wsX3_nearest := goodIn_r _ [14, 1, 4, 23, 24, 25, 26, 27, 28, 29, 30, 31, 32, 33, 34, 35, 36, 37, 38, 39, 40, 41, 42, 43] (by decide +kernel) (by decide +kernel)
set_option maxRecDepth 20000 in
theorem gX3_reach_X3_nearest : GoodIn wsX3_reach (wsV RX3 139 RX3 yX3_nearest wsX3_nearest) := goodIn_app (goodIn_of _ (by decide +kernel)) ggX3_reach_X3_nearest
set_option maxRecDepth 20000 in
theorem ggX3_reach_X3_use : GoodIn wsX3_reach wsX3_use := goodIn_r _ [18, 3, 23, 24, 25, 26, 27, 28, 29, 30, 31, 32, 33, 34, 35, 36, 37, 38, 39, 40, 41, 42, 43] (by decide +kernel) (by decide +kernel)
set_option maxRecDepth 20000 in
theorem gX3_reach_X3_use : GoodIn wsX3_reach (wsV RX3 143 RX3 yX3_use wsX3_use) := goodIn_app (goodIn_of _ (by decide +kernel)) ggX3_reach_X3_use
set_option maxRecDepth 20000 in
theorem ggX3_reach_X3_improve : GoodIn wsX3_reach wsX3_improve := goodIn_r _ [22, 4, 23, 24, 25, 26, 27, 28, 29, 30, 31, 32, 33, 34, 35, 36, 37, 38, 39, 40, 41, 42, 43] (by decide +kernel) (by decide +kernel)
set_option maxRecDepth 20000 in
theorem gX3_reach_X3_improve : GoodIn wsX3_reach (wsV RX3 146 RX3 yX3_improve wsX3_improve) := goodIn_app (goodIn_of _ (by decide +kernel)) ggX3_reach_X3_improve
theorem dX3_reach_0 : decode cX3_reach 0 = .ok (.aload_n 0, 1) := by decide +kernel
theorem dX3_reach_1 : decode cX3_reach 1 = .ok (.iload_n 1, 1) := by decide +kernel
theorem dX3_reach_2 : decode cX3_reach 2 = .ok (.invokevirtual 135, 3) := by decide +kernel
theorem dX3_reach_5 : decode cX3_reach 5 = .ok (.aload_n 0, 1) := by decide +kernel
theorem dX3_reach_6 : decode cX3_reach 6 = .ok (.invokevirtual 139, 3) := by decide +kernel
theorem dX3_reach_9 : decode cX3_reach 9 = .ok (.istore_n 3, 1) := by decide +kernel
theorem dX3_reach_10 : decode cX3_reach 10 = .ok (.iload_n 3, 1) := by decide +kernel
theorem dX3_reach_11 : decode cX3_reach 11 = .ok (.ifCond .lt 101, 3) := by decide +kernel
theorem dX3_reach_14 : decode cX3_reach 14 = .ok (.aload_n 0, 1) := by decide +kernel
theorem dX3_reach_15 : decode cX3_reach 15 = .ok (.getfield 58, 3) := by decide +kernel
theorem dX3_reach_18 : decode cX3_reach 18 = .ok (.iload_n 3, 1) := by decide +kernel
theorem dX3_reach_19 : decode cX3_reach 19 = .ok (.iconst 1, 1) := by decide +kernel
theorem dX3_reach_20 : decode cX3_reach 20 = .ok (.iastore, 1) := by decide +kernel
theorem dX3_reach_21 : decode cX3_reach 21 = .ok (.iconst 0, 1) := by decide +kernel
theorem dX3_reach_22 : decode cX3_reach 22 = .ok (.istore 4, 2) := by decide +kernel
theorem dX3_reach_24 : decode cX3_reach 24 = .ok (.iload 4, 2) := by decide +kernel
theorem dX3_reach_26 : decode cX3_reach 26 = .ok (.aload_n 0, 1) := by decide +kernel
theorem dX3_reach_27 : decode cX3_reach 27 = .ok (.getfield 126, 3) := by decide +kernel
theorem dX3_reach_30 : decode cX3_reach 30 = .ok (.if_icmp .ge 74, 3) := by decide +kernel
theorem dX3_reach_33 : decode cX3_reach 33 = .ok (.aload_n 0, 1) := by decide +kernel
theorem dX3_reach_34 : decode cX3_reach 34 = .ok (.getfield 46, 3) := by decide +kernel
theorem dX3_reach_37 : decode cX3_reach 37 = .ok (.iconst 4, 1) := by decide +kernel
theorem dX3_reach_38 : decode cX3_reach 38 = .ok (.iload 4, 2) := by decide +kernel
theorem dX3_reach_40 : decode cX3_reach 40 = .ok (.imul, 1) := by decide +kernel
theorem dX3_reach_41 : decode cX3_reach 41 = .ok (.iaload, 1) := by decide +kernel
theorem dX3_reach_42 : decode cX3_reach 42 = .ok (.istore 5, 2) := by decide +kernel
theorem dX3_reach_44 : decode cX3_reach 44 = .ok (.aload_n 0, 1) := by decide +kernel
theorem dX3_reach_45 : decode cX3_reach 45 = .ok (.getfield 46, 3) := by decide +kernel
theorem dX3_reach_48 : decode cX3_reach 48 = .ok (.iconst 4, 1) := by decide +kernel
theorem dX3_reach_49 : decode cX3_reach 49 = .ok (.iload 4, 2) := by decide +kernel
theorem dX3_reach_51 : decode cX3_reach 51 = .ok (.imul, 1) := by decide +kernel
theorem dX3_reach_52 : decode cX3_reach 52 = .ok (.iconst 1, 1) := by decide +kernel
theorem dX3_reach_53 : decode cX3_reach 53 = .ok (.iadd, 1) := by decide +kernel
theorem dX3_reach_54 : decode cX3_reach 54 = .ok (.iaload, 1) := by decide +kernel
theorem dX3_reach_55 : decode cX3_reach 55 = .ok (.istore 6, 2) := by decide +kernel
theorem dX3_reach_57 : decode cX3_reach 57 = .ok (.iload 5, 2) := by decide +kernel
theorem dX3_reach_59 : decode cX3_reach 59 = .ok (.iload_n 3, 1) := by decide +kernel
theorem dX3_reach_60 : decode cX3_reach 60 = .ok (.if_icmp .eq 9, 3) := by decide +kernel
theorem dX3_reach_63 : decode cX3_reach 63 = .ok (.iload 6, 2) := by decide +kernel
theorem dX3_reach_65 : decode cX3_reach 65 = .ok (.iload_n 3, 1) := by decide +kernel
theorem dX3_reach_66 : decode cX3_reach 66 = .ok (.if_icmp .ne 32, 3) := by decide +kernel
theorem dX3_reach_69 : decode cX3_reach 69 = .ok (.aload_n 0, 1) := by decide +kernel
theorem dX3_reach_70 : decode cX3_reach 70 = .ok (.iload 5, 2) := by decide +kernel
theorem dX3_reach_72 : decode cX3_reach 72 = .ok (.iload_n 3, 1) := by decide +kernel
theorem dX3_reach_73 : decode cX3_reach 73 = .ok (.if_icmp .ne 8, 3) := by decide +kernel
theorem dX3_reach_76 : decode cX3_reach 76 = .ok (.iload 6, 2) := by decide +kernel
theorem dX3_reach_78 : decode cX3_reach 78 = .ok (.goto 5, 3) := by decide +kernel
theorem dX3_reach_81 : decode cX3_reach 81 = .ok (.iload 5, 2) := by decide +kernel
theorem dX3_reach_83 : decode cX3_reach 83 = .ok (.aload_n 0, 1) := by decide +kernel
theorem dX3_reach_84 : decode cX3_reach 84 = .ok (.iload 4, 2) := by decide +kernel
theorem dX3_reach_86 : decode cX3_reach 86 = .ok (.aload_n 0, 1) := by decide +kernel
theorem dX3_reach_87 : decode cX3_reach 87 = .ok (.getfield 55, 3) := by decide +kernel
theorem dX3_reach_90 : decode cX3_reach 90 = .ok (.iload_n 3, 1) := by decide +kernel
theorem dX3_reach_91 : decode cX3_reach 91 = .ok (.iaload, 1) := by decide +kernel
theorem dX3_reach_92 : decode cX3_reach 92 = .ok (.invokevirtual 143, 3) := by decide +kernel
theorem dX3_reach_95 : decode cX3_reach 95 = .ok (.invokevirtual 146, 3) := by decide +kernel
theorem dX3_reach_98 : decode cX3_reach 98 = .ok (.iinc 4 1, 3) := by decide +kernel
theorem dX3_reach_101 : decode cX3_reach 101 = .ok (.goto (-77), 3) := by decide +kernel
theorem dX3_reach_104 : decode cX3_reach 104 = .ok (.aload_n 0, 1) := by decide +kernel
theorem dX3_reach_105 : decode cX3_reach 105 = .ok (.invokevirtual 139, 3) := by decide +kernel
theorem dX3_reach_108 : decode cX3_reach 108 = .ok (.istore_n 3, 1) := by decide +kernel
theorem dX3_reach_109 : decode cX3_reach 109 = .ok (.goto (-99), 3) := by decide +kernel
theorem dX3_reach_112 : decode cX3_reach 112 = .ok (.aload_n 0, 1) := by decide +kernel
theorem dX3_reach_113 : decode cX3_reach 113 = .ok (.getfield 55, 3) := by decide +kernel
theorem dX3_reach_116 : decode cX3_reach 116 = .ok (.iload_n 2, 1) := by decide +kernel
theorem dX3_reach_117 : decode cX3_reach 117 = .ok (.iaload, 1) := by decide +kernel
theorem dX3_reach_118 : decode cX3_reach 118 = .ok (.ireturn, 1) := by decide +kernel
set_option maxRecDepth 20000 in
theorem ggX3_arrival_X3_isNode : GoodIn wsX3_arrival wsX3_isNode := goodIn_r _ [5, 6, 7, 8, 4, 9] (by decide +kernel) (by decide +kernel)
set_option maxRecDepth 20000 in
theorem gX3_arrival_X3_isNode : GoodIn wsX3_arrival (wsV RX3 83 RX3 yX3_isNode wsX3_isNode) := goodIn_app (goodIn_of _ (by decide +kernel)) ggX3_arrival_X3_isNode
set_option maxRecDepth 20000 in
theorem ggX3_arrival_X3_holds : GoodIn wsX3_arrival wsX3_holds := goodIn_r _ [13, 14, 40, 41, 42, 43, 44, 45, 46, 47, 48, 49, 50, 51, 52, 53, 54, 55, 56, 57, 58, 59, 60] (by decide +kernel) (by decide +kernel)
set_option maxRecDepth 20000 in
theorem gX3_arrival_X3_holds : GoodIn wsX3_arrival (wsV RX3 87 RX3 yX3_holds wsX3_holds) := goodIn_app (goodIn_of _ (by decide +kernel)) ggX3_arrival_X3_holds
set_option maxRecDepth 20000 in
theorem ggX3_arrival_X3_reach : GoodIn wsX3_arrival wsX3_reach := goodIn_r _ [18, 19, 20, 21, 22, 23, 24, 25, 4, 26, 27, 28, 29, 30, 31, 32, 33, 34, 35, 36, 37, 38, 39, 40, 41, 42, 43, 44, 45, 46, 47, 48, 49, 50, 51, 52, 53, 54, 55, 56, 57, 58, 59, 60] (by decide +kernel) (by decide +kernel)
set_option maxRecDepth 20000 in
theorem gX3_arrival_X3_reach : GoodIn wsX3_arrival (wsV RX3 104 RX3 yX3_reach wsX3_reach) := goodIn_app (goodIn_of _ (by decide +kernel)) ggX3_arrival_X3_reach
theorem dX3_arrival_0 : decode cX3_arrival 0 = .ok (.aload_n 0, 1) := by decide +kernel
theorem dX3_arrival_1 : decode cX3_arrival 1 = .ok (.aload_n 0, 1) := by decide +kernel
theorem dX3_arrival_2 : decode cX3_arrival 2 = .ok (.iload_n 1, 1) := by decide +kernel
theorem dX3_arrival_3 : decode cX3_arrival 3 = .ok (.invokevirtual 83, 3) := by decide +kernel
theorem dX3_arrival_6 : decode cX3_arrival 6 = .ok (.ifCond .eq 15, 3) := by decide +kernel
theorem dX3_arrival_9 : decode cX3_arrival 9 = .ok (.aload_n 0, 1) := by decide +kernel
theorem dX3_arrival_10 : decode cX3_arrival 10 = .ok (.iload_n 2, 1) := by decide +kernel
theorem dX3_arrival_11 : decode cX3_arrival 11 = .ok (.invokevirtual 83, 3) := by decide +kernel
theorem dX3_arrival_14 : decode cX3_arrival 14 = .ok (.ifCond .eq 7, 3) := by decide +kernel
theorem dX3_arrival_17 : decode cX3_arrival 17 = .ok (.iconst 0, 1) := by decide +kernel
theorem dX3_arrival_18 : decode cX3_arrival 18 = .ok (.goto 4, 3) := by decide +kernel
theorem dX3_arrival_21 : decode cX3_arrival 21 = .ok (.iconst 1, 1) := by decide +kernel
theorem dX3_arrival_22 : decode cX3_arrival 22 = .ok (.invokevirtual 87, 3) := by decide +kernel
theorem dX3_arrival_25 : decode cX3_arrival 25 = .ok (.ifCond .eq 7, 3) := by decide +kernel
theorem dX3_arrival_28 : decode cX3_arrival 28 = .ok (.iconst (-1), 1) := by decide +kernel
theorem dX3_arrival_29 : decode cX3_arrival 29 = .ok (.goto 9, 3) := by decide +kernel
theorem dX3_arrival_32 : decode cX3_arrival 32 = .ok (.aload_n 0, 1) := by decide +kernel
theorem dX3_arrival_33 : decode cX3_arrival 33 = .ok (.iload_n 1, 1) := by decide +kernel
theorem dX3_arrival_34 : decode cX3_arrival 34 = .ok (.iload_n 2, 1) := by decide +kernel
theorem dX3_arrival_35 : decode cX3_arrival 35 = .ok (.invokevirtual 104, 3) := by decide +kernel
theorem dX3_arrival_38 : decode cX3_arrival 38 = .ok (.ireturn, 1) := by decide +kernel
set_option maxRecDepth 20000 in
theorem ggX3_arrivalByRounds_X3_isNode : GoodIn wsX3_arrivalByRounds wsX3_isNode := goodIn_r _ [8, 9, 10, 11, 7, 12] (by decide +kernel) (by decide +kernel)
set_option maxRecDepth 20000 in
theorem gX3_arrivalByRounds_X3_isNode : GoodIn wsX3_arrivalByRounds (wsV RX3 83 RX3 yX3_isNode wsX3_isNode) := goodIn_app (goodIn_of _ (by decide +kernel)) ggX3_arrivalByRounds_X3_isNode
set_option maxRecDepth 20000 in
theorem ggX3_arrivalByRounds_X3_holds : GoodIn wsX3_arrivalByRounds wsX3_holds := goodIn_r _ [16, 17, 32, 33, 34, 35, 36, 37, 38, 39, 40, 41, 42, 43, 44, 45, 46, 47, 48, 49, 50, 51, 52] (by decide +kernel) (by decide +kernel)
set_option maxRecDepth 20000 in
theorem gX3_arrivalByRounds_X3_holds : GoodIn wsX3_arrivalByRounds (wsV RX3 87 RX3 yX3_holds wsX3_holds) := goodIn_app (goodIn_of _ (by decide +kernel)) ggX3_arrivalByRounds_X3_holds
set_option maxRecDepth 20000 in
theorem ggX3_arrivalByRounds_X3_begin : GoodIn wsX3_arrivalByRounds wsX3_begin := goodIn_r _ [21, 3, 22, 23, 32, 33, 34, 35, 36, 37, 38, 39, 40, 41, 42, 43, 44, 45, 46, 47, 48, 49, 50, 51, 52] (by decide +kernel) (by decide +kernel)
set_option maxRecDepth 20000 in
theorem gX3_arrivalByRounds_X3_begin : GoodIn wsX3_arrivalByRounds (wsV RX3 135 RX3 yX3_begin wsX3_begin) := goodIn_app (goodIn_of _ (by decide +kernel)) ggX3_arrivalByRounds_X3_begin
set_option maxRecDepth 20000 in
theorem ggX3_arrivalByRounds_X3_use : GoodIn wsX3_arrivalByRounds wsX3_use := goodIn_r _ [27, 2, 32, 33, 34, 35, 36, 37, 38, 39, 40, 41, 42, 43, 44, 45, 46, 47, 48, 49, 50, 51, 52] (by decide +kernel) (by decide +kernel)
set_option maxRecDepth 20000 in
theorem gX3_arrivalByRounds_X3_use : GoodIn wsX3_arrivalByRounds (wsV RX3 143 RX3 yX3_use wsX3_use) := goodIn_app (goodIn_of _ (by decide +kernel)) ggX3_arrivalByRounds_X3_use
set_option maxRecDepth 20000 in
theorem ggX3_arrivalByRounds_X3_improve : GoodIn wsX3_arrivalByRounds wsX3_improve := goodIn_r _ [31, 3, 32, 33, 34, 35, 36, 37, 38, 39, 40, 41, 42, 43, 44, 45, 46, 47, 48, 49, 50, 51, 52] (by decide +kernel) (by decide +kernel)
set_option maxRecDepth 20000 in
theorem gX3_arrivalByRounds_X3_improve : GoodIn wsX3_arrivalByRounds (wsV RX3 146 RX3 yX3_improve wsX3_improve) := goodIn_app (goodIn_of _ (by decide +kernel)) ggX3_arrivalByRounds_X3_improve
theorem dX3_arrivalByRounds_0 : decode cX3_arrivalByRounds 0 = .ok (.aload_n 0, 1) := by decide +kernel
theorem dX3_arrivalByRounds_1 : decode cX3_arrivalByRounds 1 = .ok (.aload_n 0, 1) := by decide +kernel
theorem dX3_arrivalByRounds_2 : decode cX3_arrivalByRounds 2 = .ok (.iload_n 1, 1) := by decide +kernel
theorem dX3_arrivalByRounds_3 : decode cX3_arrivalByRounds 3 = .ok (.invokevirtual 83, 3) := by decide +kernel
theorem dX3_arrivalByRounds_6 : decode cX3_arrivalByRounds 6 = .ok (.ifCond .eq 15, 3) := by decide +kernel
theorem dX3_arrivalByRounds_9 : decode cX3_arrivalByRounds 9 = .ok (.aload_n 0, 1) := by decide +kernel
theorem dX3_arrivalByRounds_10 : decode cX3_arrivalByRounds 10 = .ok (.iload_n 2, 1) := by decide +kernel
theorem dX3_arrivalByRounds_11 : decode cX3_arrivalByRounds 11 = .ok (.invokevirtual 83, 3) := by decide +kernel
theorem dX3_arrivalByRounds_14 : decode cX3_arrivalByRounds 14 = .ok (.ifCond .eq 7, 3) := by decide +kernel
theorem dX3_arrivalByRounds_17 : decode cX3_arrivalByRounds 17 = .ok (.iconst 0, 1) := by decide +kernel
theorem dX3_arrivalByRounds_18 : decode cX3_arrivalByRounds 18 = .ok (.goto 4, 3) := by decide +kernel
theorem dX3_arrivalByRounds_21 : decode cX3_arrivalByRounds 21 = .ok (.iconst 1, 1) := by decide +kernel
theorem dX3_arrivalByRounds_22 : decode cX3_arrivalByRounds 22 = .ok (.invokevirtual 87, 3) := by decide +kernel
theorem dX3_arrivalByRounds_25 : decode cX3_arrivalByRounds 25 = .ok (.ifCond .eq 5, 3) := by decide +kernel
theorem dX3_arrivalByRounds_28 : decode cX3_arrivalByRounds 28 = .ok (.iconst (-1), 1) := by decide +kernel
theorem dX3_arrivalByRounds_29 : decode cX3_arrivalByRounds 29 = .ok (.ireturn, 1) := by decide +kernel
theorem dX3_arrivalByRounds_30 : decode cX3_arrivalByRounds 30 = .ok (.aload_n 0, 1) := by decide +kernel
theorem dX3_arrivalByRounds_31 : decode cX3_arrivalByRounds 31 = .ok (.iload_n 1, 1) := by decide +kernel
theorem dX3_arrivalByRounds_32 : decode cX3_arrivalByRounds 32 = .ok (.invokevirtual 135, 3) := by decide +kernel
theorem dX3_arrivalByRounds_35 : decode cX3_arrivalByRounds 35 = .ok (.iconst 0, 1) := by decide +kernel
theorem dX3_arrivalByRounds_36 : decode cX3_arrivalByRounds 36 = .ok (.istore_n 3, 1) := by decide +kernel
theorem dX3_arrivalByRounds_37 : decode cX3_arrivalByRounds 37 = .ok (.iload_n 3, 1) := by decide +kernel
theorem dX3_arrivalByRounds_38 : decode cX3_arrivalByRounds 38 = .ok (.bipush 8, 2) := by decide +kernel
theorem dX3_arrivalByRounds_40 : decode cX3_arrivalByRounds 40 = .ok (.if_icmp .ge 109, 3) := by decide +kernel
theorem dX3_arrivalByRounds_43 : decode cX3_arrivalByRounds 43 = .ok (.iconst 0, 1) := by decide +kernel
theorem dX3_arrivalByRounds_44 : decode cX3_arrivalByRounds 44 = .ok (.istore 4, 2) := by decide +kernel
theorem dX3_arrivalByRounds_46 : decode cX3_arrivalByRounds 46 = .ok (.iload 4, 2) := by decide +kernel
theorem dX3_arrivalByRounds_48 : decode cX3_arrivalByRounds 48 = .ok (.aload_n 0, 1) := by decide +kernel
theorem dX3_arrivalByRounds_49 : decode cX3_arrivalByRounds 49 = .ok (.getfield 126, 3) := by decide +kernel
theorem dX3_arrivalByRounds_52 : decode cX3_arrivalByRounds 52 = .ok (.if_icmp .ge 91, 3) := by decide +kernel
theorem dX3_arrivalByRounds_55 : decode cX3_arrivalByRounds 55 = .ok (.aload_n 0, 1) := by decide +kernel
theorem dX3_arrivalByRounds_56 : decode cX3_arrivalByRounds 56 = .ok (.getfield 46, 3) := by decide +kernel
theorem dX3_arrivalByRounds_59 : decode cX3_arrivalByRounds 59 = .ok (.iconst 4, 1) := by decide +kernel
theorem dX3_arrivalByRounds_60 : decode cX3_arrivalByRounds 60 = .ok (.iload 4, 2) := by decide +kernel
theorem dX3_arrivalByRounds_62 : decode cX3_arrivalByRounds 62 = .ok (.imul, 1) := by decide +kernel
theorem dX3_arrivalByRounds_63 : decode cX3_arrivalByRounds 63 = .ok (.iaload, 1) := by decide +kernel
theorem dX3_arrivalByRounds_64 : decode cX3_arrivalByRounds 64 = .ok (.istore 5, 2) := by decide +kernel
theorem dX3_arrivalByRounds_66 : decode cX3_arrivalByRounds 66 = .ok (.aload_n 0, 1) := by decide +kernel
theorem dX3_arrivalByRounds_67 : decode cX3_arrivalByRounds 67 = .ok (.getfield 46, 3) := by decide +kernel
theorem dX3_arrivalByRounds_70 : decode cX3_arrivalByRounds 70 = .ok (.iconst 4, 1) := by decide +kernel
theorem dX3_arrivalByRounds_71 : decode cX3_arrivalByRounds 71 = .ok (.iload 4, 2) := by decide +kernel
theorem dX3_arrivalByRounds_73 : decode cX3_arrivalByRounds 73 = .ok (.imul, 1) := by decide +kernel
theorem dX3_arrivalByRounds_74 : decode cX3_arrivalByRounds 74 = .ok (.iconst 1, 1) := by decide +kernel
theorem dX3_arrivalByRounds_75 : decode cX3_arrivalByRounds 75 = .ok (.iadd, 1) := by decide +kernel
theorem dX3_arrivalByRounds_76 : decode cX3_arrivalByRounds 76 = .ok (.iaload, 1) := by decide +kernel
theorem dX3_arrivalByRounds_77 : decode cX3_arrivalByRounds 77 = .ok (.istore 6, 2) := by decide +kernel
theorem dX3_arrivalByRounds_79 : decode cX3_arrivalByRounds 79 = .ok (.aload_n 0, 1) := by decide +kernel
theorem dX3_arrivalByRounds_80 : decode cX3_arrivalByRounds 80 = .ok (.getfield 55, 3) := by decide +kernel
theorem dX3_arrivalByRounds_83 : decode cX3_arrivalByRounds 83 = .ok (.iload 5, 2) := by decide +kernel
theorem dX3_arrivalByRounds_85 : decode cX3_arrivalByRounds 85 = .ok (.iaload, 1) := by decide +kernel
theorem dX3_arrivalByRounds_86 : decode cX3_arrivalByRounds 86 = .ok (.ifCond .lt 22, 3) := by decide +kernel
theorem dX3_arrivalByRounds_89 : decode cX3_arrivalByRounds 89 = .ok (.aload_n 0, 1) := by decide +kernel
theorem dX3_arrivalByRounds_90 : decode cX3_arrivalByRounds 90 = .ok (.iload 6, 2) := by decide +kernel
theorem dX3_arrivalByRounds_92 : decode cX3_arrivalByRounds 92 = .ok (.aload_n 0, 1) := by decide +kernel
theorem dX3_arrivalByRounds_93 : decode cX3_arrivalByRounds 93 = .ok (.iload 4, 2) := by decide +kernel
theorem dX3_arrivalByRounds_95 : decode cX3_arrivalByRounds 95 = .ok (.aload_n 0, 1) := by decide +kernel
theorem dX3_arrivalByRounds_96 : decode cX3_arrivalByRounds 96 = .ok (.getfield 55, 3) := by decide +kernel
theorem dX3_arrivalByRounds_99 : decode cX3_arrivalByRounds 99 = .ok (.iload 5, 2) := by decide +kernel
theorem dX3_arrivalByRounds_101 : decode cX3_arrivalByRounds 101 = .ok (.iaload, 1) := by decide +kernel
theorem dX3_arrivalByRounds_102 : decode cX3_arrivalByRounds 102 = .ok (.invokevirtual 143, 3) := by decide +kernel
theorem dX3_arrivalByRounds_105 : decode cX3_arrivalByRounds 105 = .ok (.invokevirtual 146, 3) := by decide +kernel
theorem dX3_arrivalByRounds_108 : decode cX3_arrivalByRounds 108 = .ok (.aload_n 0, 1) := by decide +kernel
theorem dX3_arrivalByRounds_109 : decode cX3_arrivalByRounds 109 = .ok (.getfield 55, 3) := by decide +kernel
theorem dX3_arrivalByRounds_112 : decode cX3_arrivalByRounds 112 = .ok (.iload 6, 2) := by decide +kernel
theorem dX3_arrivalByRounds_114 : decode cX3_arrivalByRounds 114 = .ok (.iaload, 1) := by decide +kernel
theorem dX3_arrivalByRounds_115 : decode cX3_arrivalByRounds 115 = .ok (.ifCond .lt 22, 3) := by decide +kernel
theorem dX3_arrivalByRounds_118 : decode cX3_arrivalByRounds 118 = .ok (.aload_n 0, 1) := by decide +kernel
theorem dX3_arrivalByRounds_119 : decode cX3_arrivalByRounds 119 = .ok (.iload 5, 2) := by decide +kernel
theorem dX3_arrivalByRounds_121 : decode cX3_arrivalByRounds 121 = .ok (.aload_n 0, 1) := by decide +kernel
theorem dX3_arrivalByRounds_122 : decode cX3_arrivalByRounds 122 = .ok (.iload 4, 2) := by decide +kernel
theorem dX3_arrivalByRounds_124 : decode cX3_arrivalByRounds 124 = .ok (.aload_n 0, 1) := by decide +kernel
theorem dX3_arrivalByRounds_125 : decode cX3_arrivalByRounds 125 = .ok (.getfield 55, 3) := by decide +kernel
theorem dX3_arrivalByRounds_128 : decode cX3_arrivalByRounds 128 = .ok (.iload 6, 2) := by decide +kernel
theorem dX3_arrivalByRounds_130 : decode cX3_arrivalByRounds 130 = .ok (.iaload, 1) := by decide +kernel
theorem dX3_arrivalByRounds_131 : decode cX3_arrivalByRounds 131 = .ok (.invokevirtual 143, 3) := by decide +kernel
theorem dX3_arrivalByRounds_134 : decode cX3_arrivalByRounds 134 = .ok (.invokevirtual 146, 3) := by decide +kernel
theorem dX3_arrivalByRounds_137 : decode cX3_arrivalByRounds 137 = .ok (.iinc 4 1, 3) := by decide +kernel
theorem dX3_arrivalByRounds_140 : decode cX3_arrivalByRounds 140 = .ok (.goto (-94), 3) := by decide +kernel
theorem dX3_arrivalByRounds_143 : decode cX3_arrivalByRounds 143 = .ok (.iinc 3 1, 3) := by decide +kernel
theorem dX3_arrivalByRounds_146 : decode cX3_arrivalByRounds 146 = .ok (.goto (-109), 3) := by decide +kernel
theorem dX3_arrivalByRounds_149 : decode cX3_arrivalByRounds 149 = .ok (.aload_n 0, 1) := by decide +kernel
theorem dX3_arrivalByRounds_150 : decode cX3_arrivalByRounds 150 = .ok (.getfield 55, 3) := by decide +kernel
theorem dX3_arrivalByRounds_153 : decode cX3_arrivalByRounds 153 = .ok (.iload_n 2, 1) := by decide +kernel
theorem dX3_arrivalByRounds_154 : decode cX3_arrivalByRounds 154 = .ok (.iaload, 1) := by decide +kernel
theorem dX3_arrivalByRounds_155 : decode cX3_arrivalByRounds 155 = .ok (.ireturn, 1) := by decide +kernel
set_option maxRecDepth 20000 in
theorem ggX3_promised_X3_isBundle : GoodIn wsX3_promised wsX3_isBundle := goodIn_r _ [8, 9, 10, 11, 12, 7, 13, 44, 45, 46, 47, 48, 49, 50, 51, 52, 53, 54, 55, 56, 57, 58, 59, 60, 61, 62, 63, 64] (by decide +kernel) (by decide +kernel)
set_option maxRecDepth 20000 in
theorem gX3_promised_X3_isBundle : GoodIn wsX3_promised (wsV RX3 132 RX3 yX3_isBundle wsX3_isBundle) := goodIn_app (goodIn_of _ (by decide +kernel)) ggX3_promised_X3_isBundle
set_option maxRecDepth 20000 in
theorem ggX3_promised_X3_holds : GoodIn wsX3_promised wsX3_holds := goodIn_r _ [17, 18, 44, 45, 46, 47, 48, 49, 50, 51, 52, 53, 54, 55, 56, 57, 58, 59, 60, 61, 62, 63, 64] (by decide +kernel) (by decide +kernel)
set_option maxRecDepth 20000 in
theorem gX3_promised_X3_holds : GoodIn wsX3_promised (wsV RX3 87 RX3 yX3_holds wsX3_holds) := goodIn_app (goodIn_of _ (by decide +kernel)) ggX3_promised_X3_holds
set_option maxRecDepth 20000 in
theorem ggX3_promised_X3_reach : GoodIn wsX3_promised wsX3_reach := goodIn_r _ [22, 23, 24, 25, 26, 27, 28, 29, 7, 30, 31, 32, 33, 34, 35, 36, 37, 38, 39, 40, 41, 42, 43, 44, 45, 46, 47, 48, 49, 50, 51, 52, 53, 54, 55, 56, 57, 58, 59, 60, 61, 62, 63, 64] (by decide +kernel) (by decide +kernel)
set_option maxRecDepth 20000 in
theorem gX3_promised_X3_reach : GoodIn wsX3_promised (wsV RX3 104 RX3 yX3_reach wsX3_reach) := goodIn_app (goodIn_of _ (by decide +kernel)) ggX3_promised_X3_reach
theorem dX3_promised_0 : decode cX3_promised 0 = .ok (.aload_n 0, 1) := by decide +kernel
theorem dX3_promised_1 : decode cX3_promised 1 = .ok (.aload_n 0, 1) := by decide +kernel
theorem dX3_promised_2 : decode cX3_promised 2 = .ok (.iload_n 1, 1) := by decide +kernel
theorem dX3_promised_3 : decode cX3_promised 3 = .ok (.invokevirtual 132, 3) := by decide +kernel
theorem dX3_promised_6 : decode cX3_promised 6 = .ok (.ifCond .eq 7, 3) := by decide +kernel
theorem dX3_promised_9 : decode cX3_promised 9 = .ok (.iconst 0, 1) := by decide +kernel
theorem dX3_promised_10 : decode cX3_promised 10 = .ok (.goto 4, 3) := by decide +kernel
theorem dX3_promised_13 : decode cX3_promised 13 = .ok (.iconst 1, 1) := by decide +kernel
theorem dX3_promised_14 : decode cX3_promised 14 = .ok (.invokevirtual 87, 3) := by decide +kernel
theorem dX3_promised_17 : decode cX3_promised 17 = .ok (.ifCond .eq 5, 3) := by decide +kernel
theorem dX3_promised_20 : decode cX3_promised 20 = .ok (.iconst (-1), 1) := by decide +kernel
theorem dX3_promised_21 : decode cX3_promised 21 = .ok (.ireturn, 1) := by decide +kernel
theorem dX3_promised_22 : decode cX3_promised 22 = .ok (.iconst (-1), 1) := by decide +kernel
theorem dX3_promised_23 : decode cX3_promised 23 = .ok (.istore_n 2, 1) := by decide +kernel
theorem dX3_promised_24 : decode cX3_promised 24 = .ok (.iconst 0, 1) := by decide +kernel
theorem dX3_promised_25 : decode cX3_promised 25 = .ok (.istore_n 3, 1) := by decide +kernel
theorem dX3_promised_26 : decode cX3_promised 26 = .ok (.iload_n 3, 1) := by decide +kernel
theorem dX3_promised_27 : decode cX3_promised 27 = .ok (.bipush 8, 2) := by decide +kernel
theorem dX3_promised_29 : decode cX3_promised 29 = .ok (.if_icmp .ge 62, 3) := by decide +kernel
theorem dX3_promised_32 : decode cX3_promised 32 = .ok (.aload_n 0, 1) := by decide +kernel
theorem dX3_promised_33 : decode cX3_promised 33 = .ok (.getfield 28, 3) := by decide +kernel
theorem dX3_promised_36 : decode cX3_promised 36 = .ok (.bipush 40, 2) := by decide +kernel
theorem dX3_promised_38 : decode cX3_promised 38 = .ok (.iload_n 3, 1) := by decide +kernel
theorem dX3_promised_39 : decode cX3_promised 39 = .ok (.imul, 1) := by decide +kernel
theorem dX3_promised_40 : decode cX3_promised 40 = .ok (.iload_n 1, 1) := by decide +kernel
theorem dX3_promised_41 : decode cX3_promised 41 = .ok (.iadd, 1) := by decide +kernel
theorem dX3_promised_42 : decode cX3_promised 42 = .ok (.iaload, 1) := by decide +kernel
theorem dX3_promised_43 : decode cX3_promised 43 = .ok (.ifCond .le 17, 3) := by decide +kernel
theorem dX3_promised_46 : decode cX3_promised 46 = .ok (.aload_n 0, 1) := by decide +kernel
theorem dX3_promised_47 : decode cX3_promised 47 = .ok (.iload_n 3, 1) := by decide +kernel
theorem dX3_promised_48 : decode cX3_promised 48 = .ok (.aload_n 0, 1) := by decide +kernel
theorem dX3_promised_49 : decode cX3_promised 49 = .ok (.getfield 7, 3) := by decide +kernel
theorem dX3_promised_52 : decode cX3_promised 52 = .ok (.iload_n 1, 1) := by decide +kernel
theorem dX3_promised_53 : decode cX3_promised 53 = .ok (.iaload, 1) := by decide +kernel
theorem dX3_promised_54 : decode cX3_promised 54 = .ok (.invokevirtual 104, 3) := by decide +kernel
theorem dX3_promised_57 : decode cX3_promised 57 = .ok (.goto 4, 3) := by decide +kernel
theorem dX3_promised_60 : decode cX3_promised 60 = .ok (.iconst (-1), 1) := by decide +kernel
theorem dX3_promised_61 : decode cX3_promised 61 = .ok (.istore 4, 2) := by decide +kernel
theorem dX3_promised_63 : decode cX3_promised 63 = .ok (.iload 4, 2) := by decide +kernel
theorem dX3_promised_65 : decode cX3_promised 65 = .ok (.ifCond .lt 18, 3) := by decide +kernel
theorem dX3_promised_68 : decode cX3_promised 68 = .ok (.iload_n 2, 1) := by decide +kernel
theorem dX3_promised_69 : decode cX3_promised 69 = .ok (.ifCond .lt 9, 3) := by decide +kernel
theorem dX3_promised_72 : decode cX3_promised 72 = .ok (.iload 4, 2) := by decide +kernel
theorem dX3_promised_74 : decode cX3_promised 74 = .ok (.iload_n 2, 1) := by decide +kernel
theorem dX3_promised_75 : decode cX3_promised 75 = .ok (.if_icmp .ge 8, 3) := by decide +kernel
theorem dX3_promised_78 : decode cX3_promised 78 = .ok (.iload 4, 2) := by decide +kernel
theorem dX3_promised_80 : decode cX3_promised 80 = .ok (.goto 4, 3) := by decide +kernel
theorem dX3_promised_83 : decode cX3_promised 83 = .ok (.iload_n 2, 1) := by decide +kernel
theorem dX3_promised_84 : decode cX3_promised 84 = .ok (.istore_n 2, 1) := by decide +kernel
theorem dX3_promised_85 : decode cX3_promised 85 = .ok (.iinc 3 1, 3) := by decide +kernel
theorem dX3_promised_88 : decode cX3_promised 88 = .ok (.goto (-62), 3) := by decide +kernel
theorem dX3_promised_91 : decode cX3_promised 91 = .ok (.iload_n 2, 1) := by decide +kernel
theorem dX3_promised_92 : decode cX3_promised 92 = .ok (.ifCond .lt 17, 3) := by decide +kernel
theorem dX3_promised_95 : decode cX3_promised 95 = .ok (.iload_n 2, 1) := by decide +kernel
theorem dX3_promised_96 : decode cX3_promised 96 = .ok (.aload_n 0, 1) := by decide +kernel
theorem dX3_promised_97 : decode cX3_promised 97 = .ok (.getfield 16, 3) := by decide +kernel
theorem dX3_promised_100 : decode cX3_promised 100 = .ok (.iload_n 1, 1) := by decide +kernel
theorem dX3_promised_101 : decode cX3_promised 101 = .ok (.iaload, 1) := by decide +kernel
theorem dX3_promised_102 : decode cX3_promised 102 = .ok (.if_icmp .ge 7, 3) := by decide +kernel
theorem dX3_promised_105 : decode cX3_promised 105 = .ok (.iload_n 2, 1) := by decide +kernel
theorem dX3_promised_106 : decode cX3_promised 106 = .ok (.goto 4, 3) := by decide +kernel
theorem dX3_promised_109 : decode cX3_promised 109 = .ok (.iconst (-1), 1) := by decide +kernel
theorem dX3_promised_110 : decode cX3_promised 110 = .ok (.ireturn, 1) := by decide +kernel
