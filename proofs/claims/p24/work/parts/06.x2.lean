set_option maxRecDepth 20000 in
theorem ggX2_init_Jx4a65c_init_da8c8 : GoodIn wsX2_init wsJx4a65c_init_da8c8 := goodIn_r _ [20, 21, 22, 23, 24, 25, 26, 27, 28, 29, 30, 31, 32, 2, 3, 52, 53, 54] (by decide +kernel) (by decide +kernel)
set_option maxRecDepth 20000 in
theorem gX2_init_Jx4a65c_init_da8c8 : GoodIn wsX2_init (wsJx4a65c_init_da8c8) := ggX2_init_Jx4a65c_init_da8c8
set_option maxRecDepth 20000 in
theorem ggX2_init_X1_init : GoodIn wsX2_init wsX1_init := goodIn_r _ [35, 36, 2, 3, 5, 37, 38, 39, 40, 41, 42, 43, 44, 55, 56, 57, 58, 59, 60, 61] (by decide +kernel) (by decide +kernel)
set_option maxRecDepth 20000 in
theorem gX2_init_X1_init : GoodIn wsX2_init (wsX1_init) := ggX2_init_X1_init
theorem dX2_init_0 : decode cX2_init 0 = .ok (.aload_n 0, 1) := by decide +kernel
theorem dX2_init_1 : decode cX2_init 1 = .ok (.invokespecial 1, 3) := by decide +kernel
theorem dX2_init_4 : decode cX2_init 4 = .ok (.aload_n 0, 1) := by decide +kernel
theorem dX2_init_5 : decode cX2_init 5 = .ok (.iconst 0, 1) := by decide +kernel
theorem dX2_init_6 : decode cX2_init 6 = .ok (.putfield 7, 3) := by decide +kernel
theorem dX2_init_9 : decode cX2_init 9 = .ok (.aload_n 0, 1) := by decide +kernel
theorem dX2_init_10 : decode cX2_init 10 = .ok (.bipush 8, 2) := by decide +kernel
theorem dX2_init_12 : decode cX2_init 12 = .ok (.newarray .int, 2) := by decide +kernel
theorem dX2_init_14 : decode cX2_init 14 = .ok (.putfield 13, 3) := by decide +kernel
theorem dX2_init_17 : decode cX2_init 17 = .ok (.aload_n 0, 1) := by decide +kernel
theorem dX2_init_18 : decode cX2_init 18 = .ok (.bipush 8, 2) := by decide +kernel
theorem dX2_init_20 : decode cX2_init 20 = .ok (.newarray .int, 2) := by decide +kernel
theorem dX2_init_22 : decode cX2_init 22 = .ok (.putfield 17, 3) := by decide +kernel
theorem dX2_init_25 : decode cX2_init 25 = .ok (.aload_n 0, 1) := by decide +kernel
theorem dX2_init_26 : decode cX2_init 26 = .ok (.bipush 8, 2) := by decide +kernel
theorem dX2_init_28 : decode cX2_init 28 = .ok (.newarray .int, 2) := by decide +kernel
theorem dX2_init_30 : decode cX2_init 30 = .ok (.putfield 20, 3) := by decide +kernel
theorem dX2_init_33 : decode cX2_init 33 = .ok (.aload_n 0, 1) := by decide +kernel
theorem dX2_init_34 : decode cX2_init 34 = .ok (.new 23, 3) := by decide +kernel
theorem dX2_init_37 : decode cX2_init 37 = .ok (.dup, 1) := by decide +kernel
theorem dX2_init_38 : decode cX2_init 38 = .ok (.invokespecial 25, 3) := by decide +kernel
theorem dX2_init_41 : decode cX2_init 41 = .ok (.putfield 26, 3) := by decide +kernel
theorem dX2_init_44 : decode cX2_init 44 = .ok (.aload_n 0, 1) := by decide +kernel
theorem dX2_init_45 : decode cX2_init 45 = .ok (.new 23, 3) := by decide +kernel
theorem dX2_init_48 : decode cX2_init 48 = .ok (.dup, 1) := by decide +kernel
theorem dX2_init_49 : decode cX2_init 49 = .ok (.invokespecial 25, 3) := by decide +kernel
theorem dX2_init_52 : decode cX2_init 52 = .ok (.putfield 30, 3) := by decide +kernel
theorem dX2_init_55 : decode cX2_init 55 = .ok (.aload_n 0, 1) := by decide +kernel
theorem dX2_init_56 : decode cX2_init 56 = .ok (.new 33, 3) := by decide +kernel
theorem dX2_init_59 : decode cX2_init 59 = .ok (.dup, 1) := by decide +kernel
theorem dX2_init_60 : decode cX2_init 60 = .ok (.invokespecial 35, 3) := by decide +kernel
theorem dX2_init_63 : decode cX2_init 63 = .ok (.putfield 36, 3) := by decide +kernel
theorem dX2_init_66 : decode cX2_init 66 = .ok (.iconst 0, 1) := by decide +kernel
theorem dX2_init_67 : decode cX2_init 67 = .ok (.istore_n 1, 1) := by decide +kernel
theorem dX2_init_68 : decode cX2_init 68 = .ok (.iload_n 1, 1) := by decide +kernel
theorem dX2_init_69 : decode cX2_init 69 = .ok (.bipush 8, 2) := by decide +kernel
theorem dX2_init_71 : decode cX2_init 71 = .ok (.if_icmp .ge 16, 3) := by decide +kernel
theorem dX2_init_74 : decode cX2_init 74 = .ok (.aload_n 0, 1) := by decide +kernel
theorem dX2_init_75 : decode cX2_init 75 = .ok (.getfield 13, 3) := by decide +kernel
theorem dX2_init_78 : decode cX2_init 78 = .ok (.iload_n 1, 1) := by decide +kernel
theorem dX2_init_79 : decode cX2_init 79 = .ok (.iconst 4, 1) := by decide +kernel
theorem dX2_init_80 : decode cX2_init 80 = .ok (.iastore, 1) := by decide +kernel
theorem dX2_init_81 : decode cX2_init 81 = .ok (.iinc 1 1, 3) := by decide +kernel
theorem dX2_init_84 : decode cX2_init 84 = .ok (.goto (-16), 3) := by decide +kernel
theorem dX2_init_87 : decode cX2_init 87 = .ok (.return_, 1) := by decide +kernel
set_option maxRecDepth 20000 in
theorem ggX2_send_X2_isNode : GoodIn wsX2_send wsX2_isNode := goodIn_r _ [18, 19, 20, 17, 21] (by decide +kernel) (by decide +kernel)
set_option maxRecDepth 20000 in
theorem gX2_send_X2_isNode : GoodIn wsX2_send (va_wsS RX2 40 yX2_isNode wsX2_isNode) := goodIn_app (goodIn_of _ (by decide +kernel)) ggX2_send_X2_isNode
set_option maxRecDepth 20000 in
theorem ggX2_send_X2_isWithin : GoodIn wsX2_send wsX2_isWithin := goodIn_r _ [21] (by decide +kernel) (by decide +kernel)
set_option maxRecDepth 20000 in
theorem gX2_send_X2_isWithin : GoodIn wsX2_send (va_wsS RX2 51 yX2_isWithin wsX2_isWithin) := goodIn_app (goodIn_of _ (by decide +kernel)) ggX2_send_X2_isWithin
set_option maxRecDepth 20000 in
theorem ggX2_send_Jx4a65c_size_8abf5 : GoodIn wsX2_send wsJx4a65c_size_8abf5 := goodIn_r _ [26, 27, 181, 182, 183] (by decide +kernel) (by decide +kernel)
set_option maxRecDepth 20000 in
theorem gX2_send_Jx4a65c_size_8abf5 : GoodIn wsX2_send (wsV RX2 60 RJx4a65c yJx4a65c_size_8abf5 wsJx4a65c_size_8abf5) := goodIn_app (goodIn_of _ (by decide +kernel)) ggX2_send_Jx4a65c_size_8abf5
set_option maxRecDepth 20000 in
theorem ggX2_send_X2_makeRoom : GoodIn wsX2_send wsX2_makeRoom := goodIn_r _ [31, 32, 33, 34, 35, 36, 37, 17, 38, 7, 39, 22, 23, 24, 25, 26, 27, 40, 41, 42, 43, 44, 45, 46, 47, 48, 49, 50, 51, 52, 53, 54, 55, 56, 57, 58, 59, 10, 60, 61, 62, 63, 64, 65, 13, 12, 66, 67, 68, 69, 70, 71, 72, 73, 74, 163, 164, 165, 166, 167, 168, 169, 170, 171, 172, 173, 174, 175, 176, 177, 178, 179, 180, 181, 182, 183] (by decide +kernel) (by decide +kernel)
set_option maxRecDepth 20000 in
theorem gX2_send_X2_makeRoom : GoodIn wsX2_send (wsV RX2 69 RX2 yX2_makeRoom wsX2_makeRoom) := goodIn_app (goodIn_of _ (by decide +kernel)) ggX2_send_X2_makeRoom
set_option maxRecDepth 20000 in
theorem ggX2_send_X0_init : GoodIn wsX2_send wsX0_init := goodIn_r _ [77, 78, 79, 80, 81, 82, 83, 84, 85, 61, 74, 86, 87, 88, 89, 90, 91, 170, 171, 172, 173, 174, 175, 176, 177, 178, 179, 180] (by decide +kernel) (by decide +kernel)
set_option maxRecDepth 20000 in
theorem gX2_send_X0_init : GoodIn wsX2_send (wsX0_init) := ggX2_send_X0_init
set_option maxRecDepth 20000 in
theorem ggX2_send_X0_put : GoodIn wsX2_send wsX0_put := goodIn_r _ [73, 61, 74, 170, 171, 172, 173, 174, 175, 176, 177, 178, 179, 180] (by decide +kernel) (by decide +kernel)
set_option maxRecDepth 20000 in
theorem gX2_send_X0_put : GoodIn wsX2_send (wsV RX2 83 RX0 yX0_put wsX0_put) := goodIn_app (goodIn_of _ (by decide +kernel)) ggX2_send_X0_put
set_option maxRecDepth 20000 in
theorem ggX2_send_X2_placeInOrder : GoodIn wsX2_send wsX2_placeInOrder := goodIn_r _ [96, 13, 39, 22, 23, 24, 25, 26, 27, 40, 41, 42, 43, 44, 45, 46, 47, 48, 49, 50, 51, 52, 53, 54, 55, 56, 97, 98, 99, 10, 100, 83, 84, 81, 163, 164, 165, 166, 167, 168, 169, 181, 182, 183, 170, 171, 172, 173, 174, 175, 176, 177, 178, 179, 180] (by decide +kernel) (by decide +kernel)
set_option maxRecDepth 20000 in
theorem gX2_send_X2_placeInOrder : GoodIn wsX2_send (wsV RX2 87 RX2 yX2_placeInOrder wsX2_placeInOrder) := goodIn_app (goodIn_of _ (by decide +kernel)) ggX2_send_X2_placeInOrder
set_option maxRecDepth 20000 in
theorem ggX2_send_Jx4a65c_add_7a177 : GoodIn wsX2_send wsJx4a65c_add_7a177 := goodIn_r _ [104, 105, 106, 27, 56, 107, 108, 109, 110, 111, 112, 113, 25, 114, 115, 116, 117, 118, 119, 120, 121, 122, 123, 124, 125, 126, 127, 128, 129, 130, 131, 132, 133, 134, 135, 136, 137, 138, 139, 140, 141, 142, 143, 144, 145, 146, 147, 148, 149, 150, 151, 152, 153, 154, 181, 182, 183] (by decide +kernel) (by decide +kernel)
set_option maxRecDepth 20000 in
theorem gX2_send_Jx4a65c_add_7a177 : GoodIn wsX2_send (wsV RX2 91 RJx4a65c yJx4a65c_add_7a177 wsJx4a65c_add_7a177) := goodIn_app (goodIn_of _ (by decide +kernel)) ggX2_send_Jx4a65c_add_7a177
set_option maxRecDepth 20000 in
theorem ggX2_send_Jx4a65c_add_9ea2d : GoodIn wsX2_send wsJx4a65c_add_9ea2d := goodIn_r _ [158, 105, 106, 56, 27, 159, 160, 161, 25, 162, 115, 116, 117, 118, 119, 120, 121, 122, 123, 124, 125, 126, 127, 128, 129, 130, 131, 132, 133, 134, 135, 136, 137, 138, 139, 140, 141, 142, 143, 144, 145, 146, 147, 148, 149, 150, 151, 152, 153, 154, 108, 109, 110, 181, 182, 183] (by decide +kernel) (by decide +kernel)
set_option maxRecDepth 20000 in
theorem gX2_send_Jx4a65c_add_9ea2d : GoodIn wsX2_send (wsV RX2 95 RJx4a65c yJx4a65c_add_9ea2d wsJx4a65c_add_9ea2d) := goodIn_app (goodIn_of _ (by decide +kernel)) ggX2_send_Jx4a65c_add_9ea2d
theorem dX2_send_0 : decode cX2_send 0 = .ok (.iload_n 1, 1) := by decide +kernel
theorem dX2_send_1 : decode cX2_send 1 = .ok (.invokestatic 40, 3) := by decide +kernel
theorem dX2_send_4 : decode cX2_send 4 = .ok (.ifCond .eq 10, 3) := by decide +kernel
theorem dX2_send_7 : decode cX2_send 7 = .ok (.iload_n 2, 1) := by decide +kernel
theorem dX2_send_8 : decode cX2_send 8 = .ok (.invokestatic 40, 3) := by decide +kernel
theorem dX2_send_11 : decode cX2_send 11 = .ok (.ifCond .ne 13, 3) := by decide +kernel
theorem dX2_send_14 : decode cX2_send 14 = .ok (.new 44, 3) := by decide +kernel
theorem dX2_send_17 : decode cX2_send 17 = .ok (.dup, 1) := by decide +kernel
theorem dX2_send_18 : decode cX2_send 18 = .ok (.ldc 46, 2) := by decide +kernel
theorem dX2_send_20 : decode cX2_send 20 = .ok (.invokespecial 48, 3) := by decide +kernel
theorem dX2_send_23 : decode cX2_send 23 = .ok (.athrow, 1) := by decide +kernel
theorem dX2_send_24 : decode cX2_send 24 = .ok (.iload_n 1, 1) := by decide +kernel
theorem dX2_send_25 : decode cX2_send 25 = .ok (.iload_n 2, 1) := by decide +kernel
theorem dX2_send_26 : decode cX2_send 26 = .ok (.if_icmp .eq 35, 3) := by decide +kernel
theorem dX2_send_29 : decode cX2_send 29 = .ok (.iload_n 3, 1) := by decide +kernel
theorem dX2_send_30 : decode cX2_send 30 = .ok (.iconst 0, 1) := by decide +kernel
theorem dX2_send_31 : decode cX2_send 31 = .ok (.iconst 2, 1) := by decide +kernel
theorem dX2_send_32 : decode cX2_send 32 = .ok (.invokestatic 51, 3) := by decide +kernel
theorem dX2_send_35 : decode cX2_send 35 = .ok (.ifCond .eq 26, 3) := by decide +kernel
theorem dX2_send_38 : decode cX2_send 38 = .ok (.iload 4, 2) := by decide +kernel
theorem dX2_send_40 : decode cX2_send 40 = .ok (.iconst 1, 1) := by decide +kernel
theorem dX2_send_41 : decode cX2_send 41 = .ok (.bipush 64, 2) := by decide +kernel
theorem dX2_send_43 : decode cX2_send 43 = .ok (.invokestatic 51, 3) := by decide +kernel
theorem dX2_send_46 : decode cX2_send 46 = .ok (.ifCond .eq 15, 3) := by decide +kernel
theorem dX2_send_49 : decode cX2_send 49 = .ok (.iload 5, 2) := by decide +kernel
theorem dX2_send_51 : decode cX2_send 51 = .ok (.iconst 1, 1) := by decide +kernel
theorem dX2_send_52 : decode cX2_send 52 = .ok (.sipush 10000, 3) := by decide +kernel
theorem dX2_send_55 : decode cX2_send 55 = .ok (.invokestatic 51, 3) := by decide +kernel
theorem dX2_send_58 : decode cX2_send 58 = .ok (.ifCond .ne 13, 3) := by decide +kernel
theorem dX2_send_61 : decode cX2_send 61 = .ok (.new 55, 3) := by decide +kernel
theorem dX2_send_64 : decode cX2_send 64 = .ok (.dup, 1) := by decide +kernel
theorem dX2_send_65 : decode cX2_send 65 = .ok (.ldc 57, 2) := by decide +kernel
theorem dX2_send_67 : decode cX2_send 67 = .ok (.invokespecial 59, 3) := by decide +kernel
theorem dX2_send_70 : decode cX2_send 70 = .ok (.athrow, 1) := by decide +kernel
theorem dX2_send_71 : decode cX2_send 71 = .ok (.aload_n 0, 1) := by decide +kernel
theorem dX2_send_72 : decode cX2_send 72 = .ok (.getfield 26, 3) := by decide +kernel
theorem dX2_send_75 : decode cX2_send 75 = .ok (.invokevirtual 60, 3) := by decide +kernel
theorem dX2_send_78 : decode cX2_send 78 = .ok (.bipush 40, 2) := by decide +kernel
theorem dX2_send_80 : decode cX2_send 80 = .ok (.if_icmp .lt 13, 3) := by decide +kernel
theorem dX2_send_83 : decode cX2_send 83 = .ok (.new 64, 3) := by decide +kernel
theorem dX2_send_86 : decode cX2_send 86 = .ok (.dup, 1) := by decide +kernel
theorem dX2_send_87 : decode cX2_send 87 = .ok (.ldc 66, 2) := by decide +kernel
theorem dX2_send_89 : decode cX2_send 89 = .ok (.invokespecial 68, 3) := by decide +kernel
theorem dX2_send_92 : decode cX2_send 92 = .ok (.athrow, 1) := by decide +kernel
theorem dX2_send_93 : decode cX2_send 93 = .ok (.aload_n 0, 1) := by decide +kernel
theorem dX2_send_94 : decode cX2_send 94 = .ok (.iload_n 1, 1) := by decide +kernel
theorem dX2_send_95 : decode cX2_send 95 = .ok (.iload_n 3, 1) := by decide +kernel
theorem dX2_send_96 : decode cX2_send 96 = .ok (.invokevirtual 69, 3) := by decide +kernel
theorem dX2_send_99 : decode cX2_send 99 = .ok (.ifCond .ne 13, 3) := by decide +kernel
theorem dX2_send_102 : decode cX2_send 102 = .ok (.new 64, 3) := by decide +kernel
theorem dX2_send_105 : decode cX2_send 105 = .ok (.dup, 1) := by decide +kernel
theorem dX2_send_106 : decode cX2_send 106 = .ok (.ldc 73, 2) := by decide +kernel
theorem dX2_send_108 : decode cX2_send 108 = .ok (.invokespecial 68, 3) := by decide +kernel
theorem dX2_send_111 : decode cX2_send 111 = .ok (.athrow, 1) := by decide +kernel
theorem dX2_send_112 : decode cX2_send 112 = .ok (.new 75, 3) := by decide +kernel
theorem dX2_send_115 : decode cX2_send 115 = .ok (.dup, 1) := by decide +kernel
theorem dX2_send_116 : decode cX2_send 116 = .ok (.aload_n 0, 1) := by decide +kernel
theorem dX2_send_117 : decode cX2_send 117 = .ok (.getfield 26, 3) := by decide +kernel
theorem dX2_send_120 : decode cX2_send 120 = .ok (.invokevirtual 60, 3) := by decide +kernel
theorem dX2_send_123 : decode cX2_send 123 = .ok (.iload_n 2, 1) := by decide +kernel
theorem dX2_send_124 : decode cX2_send 124 = .ok (.iload_n 3, 1) := by decide +kernel
theorem dX2_send_125 : decode cX2_send 125 = .ok (.aload_n 0, 1) := by decide +kernel
theorem dX2_send_126 : decode cX2_send 126 = .ok (.getfield 7, 3) := by decide +kernel
theorem dX2_send_129 : decode cX2_send 129 = .ok (.iload 5, 2) := by decide +kernel
theorem dX2_send_131 : decode cX2_send 131 = .ok (.iadd, 1) := by decide +kernel
theorem dX2_send_132 : decode cX2_send 132 = .ok (.invokespecial 77, 3) := by decide +kernel
theorem dX2_send_135 : decode cX2_send 135 = .ok (.astore 6, 2) := by decide +kernel
theorem dX2_send_137 : decode cX2_send 137 = .ok (.aload 6, 2) := by decide +kernel
theorem dX2_send_139 : decode cX2_send 139 = .ok (.iload_n 1, 1) := by decide +kernel
theorem dX2_send_140 : decode cX2_send 140 = .ok (.putfield 80, 3) := by decide +kernel
theorem dX2_send_143 : decode cX2_send 143 = .ok (.aload 6, 2) := by decide +kernel
theorem dX2_send_145 : decode cX2_send 145 = .ok (.iload_n 1, 1) := by decide +kernel
theorem dX2_send_146 : decode cX2_send 146 = .ok (.iload 4, 2) := by decide +kernel
theorem dX2_send_148 : decode cX2_send 148 = .ok (.iconst 0, 1) := by decide +kernel
theorem dX2_send_149 : decode cX2_send 149 = .ok (.invokevirtual 83, 3) := by decide +kernel
theorem dX2_send_152 : decode cX2_send 152 = .ok (.aload_n 0, 1) := by decide +kernel
theorem dX2_send_153 : decode cX2_send 153 = .ok (.getfield 30, 3) := by decide +kernel
theorem dX2_send_156 : decode cX2_send 156 = .ok (.aload_n 0, 1) := by decide +kernel
theorem dX2_send_157 : decode cX2_send 157 = .ok (.aload 6, 2) := by decide +kernel
theorem dX2_send_159 : decode cX2_send 159 = .ok (.invokevirtual 87, 3) := by decide +kernel
theorem dX2_send_162 : decode cX2_send 162 = .ok (.aload 6, 2) := by decide +kernel
theorem dX2_send_164 : decode cX2_send 164 = .ok (.invokevirtual 91, 3) := by decide +kernel
theorem dX2_send_167 : decode cX2_send 167 = .ok (.aload_n 0, 1) := by decide +kernel
theorem dX2_send_168 : decode cX2_send 168 = .ok (.getfield 26, 3) := by decide +kernel
theorem dX2_send_171 : decode cX2_send 171 = .ok (.aload 6, 2) := by decide +kernel
theorem dX2_send_173 : decode cX2_send 173 = .ok (.invokevirtual 95, 3) := by decide +kernel
theorem dX2_send_176 : decode cX2_send 176 = .ok (.pop, 1) := by decide +kernel
theorem dX2_send_177 : decode cX2_send 177 = .ok (.aload 6, 2) := by decide +kernel
theorem dX2_send_179 : decode cX2_send 179 = .ok (.getfield 98, 3) := by decide +kernel
theorem dX2_send_182 : decode cX2_send 182 = .ok (.ireturn, 1) := by decide +kernel
set_option maxRecDepth 20000 in
theorem ggX2_meet_X2_isNode : GoodIn wsX2_meet wsX2_isNode := goodIn_r _ [8, 9, 10, 7, 11] (by decide +kernel) (by decide +kernel)
set_option maxRecDepth 20000 in
theorem gX2_meet_X2_isNode : GoodIn wsX2_meet (va_wsS RX2 40 yX2_isNode wsX2_isNode) := goodIn_app (goodIn_of _ (by decide +kernel)) ggX2_meet_X2_isNode
set_option maxRecDepth 20000 in
theorem ggX2_meet_X2_isWithin : GoodIn wsX2_meet wsX2_isWithin := goodIn_r _ [11] (by decide +kernel) (by decide +kernel)
set_option maxRecDepth 20000 in
theorem gX2_meet_X2_isWithin : GoodIn wsX2_meet (va_wsS RX2 51 yX2_isWithin wsX2_isWithin) := goodIn_app (goodIn_of _ (by decide +kernel)) ggX2_meet_X2_isWithin
set_option maxRecDepth 20000 in
theorem ggX2_meet_X2_exchangeReceipts : GoodIn wsX2_meet wsX2_exchangeReceipts := goodIn_r _ [15, 16, 17, 18, 19, 20, 21, 22, 23, 24, 25, 26, 27, 28, 29, 30, 31, 32, 33, 34, 35, 36, 37, 38, 39, 40, 41, 42, 43, 44, 45, 46, 47, 48, 49, 50, 51, 52, 53, 54, 55, 56, 57, 58, 164, 165, 166, 167, 168, 169, 170, 171, 172, 173, 174, 175, 176, 177, 178, 179, 180, 181, 182, 183, 184] (by decide +kernel) (by decide +kernel)
set_option maxRecDepth 20000 in
theorem gX2_meet_X2_exchangeReceipts : GoodIn wsX2_meet (wsV RX2 103 RX2 yX2_exchangeReceipts wsX2_exchangeReceipts) := goodIn_app (goodIn_of _ (by decide +kernel)) ggX2_meet_X2_exchangeReceipts
set_option maxRecDepth 20000 in
theorem ggX2_meet_X2_findSprays : GoodIn wsX2_meet wsX2_findSprays := goodIn_r _ [62, 16, 17, 63, 19, 20, 21, 22, 23, 24, 25, 26, 27, 28, 29, 30, 31, 32, 33, 34, 35, 36, 37, 38, 39, 40, 41, 64, 65, 66, 45, 67, 68, 57, 69, 70, 71, 72, 164, 165, 166, 167, 168, 169, 170, 171, 172, 173, 174, 175, 176, 177, 178, 179, 180, 181, 182, 183, 184] (by decide +kernel) (by decide +kernel)
set_option maxRecDepth 20000 in
theorem gX2_meet_X2_findSprays : GoodIn wsX2_meet (wsV RX2 107 RX2 yX2_findSprays wsX2_findSprays) := goodIn_app (goodIn_of _ (by decide +kernel)) ggX2_meet_X2_findSprays
set_option maxRecDepth 20000 in
theorem ggX2_meet_X2_deliverSome : GoodIn wsX2_meet wsX2_deliverSome := goodIn_r _ [76, 77, 17, 78, 19, 20, 21, 22, 23, 24, 25, 26, 27, 28, 29, 30, 31, 32, 33, 34, 35, 36, 37, 38, 39, 40, 41, 79, 80, 81, 45, 82, 68, 69, 70, 71, 72, 57, 83, 84, 85, 86, 87, 58, 88, 89, 43, 44, 46, 47, 48, 49, 50, 51, 52, 53, 54, 55, 56, 164, 165, 166, 167, 168, 169, 170, 182, 183, 184, 171, 172, 173, 174, 175, 176, 177, 178, 179, 180, 181] (by decide +kernel) (by decide +kernel)
set_option maxRecDepth 20000 in
theorem gX2_meet_X2_deliverSome : GoodIn wsX2_meet (wsV RX2 110 RX2 yX2_deliverSome wsX2_deliverSome) := goodIn_app (goodIn_of _ (by decide +kernel)) ggX2_meet_X2_deliverSome
set_option maxRecDepth 20000 in
theorem ggX2_meet_X2_spraySome : GoodIn wsX2_meet wsX2_spraySome := goodIn_r _ [93, 77, 17, 63, 19, 20, 21, 22, 23, 24, 25, 26, 27, 28, 29, 30, 31, 32, 33, 34, 35, 36, 37, 38, 39, 40, 41, 94, 95, 96, 7, 97, 98, 99, 100, 70, 71, 45, 72, 57, 101, 102, 103, 104, 105, 106, 107, 108, 109, 110, 16, 111, 112, 113, 114, 115, 116, 50, 51, 52, 53, 54, 55, 56, 58, 117, 118, 119, 120, 164, 165, 166, 167, 168, 169, 170, 171, 172, 173, 174, 175, 176, 177, 178, 179, 180, 181, 182, 183, 184] (by decide +kernel) (by decide +kernel)
set_option maxRecDepth 20000 in
theorem gX2_meet_X2_spraySome : GoodIn wsX2_meet (wsV RX2 114 RX2 yX2_spraySome wsX2_spraySome) := goodIn_app (goodIn_of _ (by decide +kernel)) ggX2_meet_X2_spraySome
set_option maxRecDepth 20000 in
theorem ggX2_meet_X2_moveCustody : GoodIn wsX2_meet wsX2_moveCustody := goodIn_r _ [124, 16, 17, 115, 19, 20, 21, 22, 23, 24, 25, 26, 27, 28, 29, 30, 31, 32, 33, 34, 35, 36, 37, 38, 39, 40, 41, 100, 70, 71, 45, 72, 57, 125, 126, 127, 7, 128, 129, 130, 78, 131, 132, 133, 134, 135, 136, 137, 138, 139, 140, 141, 142, 143, 144, 145, 146, 147, 148, 149, 150, 151, 152, 153, 154, 155, 156, 157, 158, 159, 160, 161, 162, 163, 164, 165, 166, 167, 168, 169, 170, 171, 172, 173, 174, 175, 176, 177, 178, 179, 180, 181, 182, 183, 184, 185, 186, 187, 188, 189, 190, 191] (by decide +kernel) (by decide +kernel)
set_option maxRecDepth 20000 in
theorem gX2_meet_X2_moveCustody : GoodIn wsX2_meet (wsV RX2 117 RX2 yX2_moveCustody wsX2_moveCustody) := goodIn_app (goodIn_of _ (by decide +kernel)) ggX2_meet_X2_moveCustody
theorem dX2_meet_0 : decode cX2_meet 0 = .ok (.iload_n 1, 1) := by decide +kernel
theorem dX2_meet_1 : decode cX2_meet 1 = .ok (.invokestatic 40, 3) := by decide +kernel
theorem dX2_meet_4 : decode cX2_meet 4 = .ok (.ifCond .eq 10, 3) := by decide +kernel
theorem dX2_meet_7 : decode cX2_meet 7 = .ok (.iload_n 2, 1) := by decide +kernel
theorem dX2_meet_8 : decode cX2_meet 8 = .ok (.invokestatic 40, 3) := by decide +kernel
theorem dX2_meet_11 : decode cX2_meet 11 = .ok (.ifCond .ne 13, 3) := by decide +kernel
theorem dX2_meet_14 : decode cX2_meet 14 = .ok (.new 44, 3) := by decide +kernel
theorem dX2_meet_17 : decode cX2_meet 17 = .ok (.dup, 1) := by decide +kernel
theorem dX2_meet_18 : decode cX2_meet 18 = .ok (.ldc 46, 2) := by decide +kernel
theorem dX2_meet_20 : decode cX2_meet 20 = .ok (.invokespecial 48, 3) := by decide +kernel
theorem dX2_meet_23 : decode cX2_meet 23 = .ok (.athrow, 1) := by decide +kernel
theorem dX2_meet_24 : decode cX2_meet 24 = .ok (.iload_n 1, 1) := by decide +kernel
theorem dX2_meet_25 : decode cX2_meet 25 = .ok (.iload_n 2, 1) := by decide +kernel
theorem dX2_meet_26 : decode cX2_meet 26 = .ok (.if_icmp .eq 13, 3) := by decide +kernel
theorem dX2_meet_29 : decode cX2_meet 29 = .ok (.iload_n 3, 1) := by decide +kernel
theorem dX2_meet_30 : decode cX2_meet 30 = .ok (.iconst 0, 1) := by decide +kernel
theorem dX2_meet_31 : decode cX2_meet 31 = .ok (.bipush 20, 2) := by decide +kernel
theorem dX2_meet_33 : decode cX2_meet 33 = .ok (.invokestatic 51, 3) := by decide +kernel
theorem dX2_meet_36 : decode cX2_meet 36 = .ok (.ifCond .ne 13, 3) := by decide +kernel
theorem dX2_meet_39 : decode cX2_meet 39 = .ok (.new 55, 3) := by decide +kernel
theorem dX2_meet_42 : decode cX2_meet 42 = .ok (.dup, 1) := by decide +kernel
theorem dX2_meet_43 : decode cX2_meet 43 = .ok (.ldc 101, 2) := by decide +kernel
theorem dX2_meet_45 : decode cX2_meet 45 = .ok (.invokespecial 59, 3) := by decide +kernel
theorem dX2_meet_48 : decode cX2_meet 48 = .ok (.athrow, 1) := by decide +kernel
theorem dX2_meet_49 : decode cX2_meet 49 = .ok (.aload_n 0, 1) := by decide +kernel
theorem dX2_meet_50 : decode cX2_meet 50 = .ok (.iload_n 1, 1) := by decide +kernel
theorem dX2_meet_51 : decode cX2_meet 51 = .ok (.iload_n 2, 1) := by decide +kernel
theorem dX2_meet_52 : decode cX2_meet 52 = .ok (.invokevirtual 103, 3) := by decide +kernel
theorem dX2_meet_55 : decode cX2_meet 55 = .ok (.aload_n 0, 1) := by decide +kernel
theorem dX2_meet_56 : decode cX2_meet 56 = .ok (.iload_n 1, 1) := by decide +kernel
theorem dX2_meet_57 : decode cX2_meet 57 = .ok (.iload_n 2, 1) := by decide +kernel
theorem dX2_meet_58 : decode cX2_meet 58 = .ok (.invokevirtual 107, 3) := by decide +kernel
theorem dX2_meet_61 : decode cX2_meet 61 = .ok (.aload_n 0, 1) := by decide +kernel
theorem dX2_meet_62 : decode cX2_meet 62 = .ok (.iload_n 1, 1) := by decide +kernel
theorem dX2_meet_63 : decode cX2_meet 63 = .ok (.iload_n 2, 1) := by decide +kernel
theorem dX2_meet_64 : decode cX2_meet 64 = .ok (.iload_n 3, 1) := by decide +kernel
theorem dX2_meet_65 : decode cX2_meet 65 = .ok (.invokevirtual 110, 3) := by decide +kernel
theorem dX2_meet_68 : decode cX2_meet 68 = .ok (.istore 4, 2) := by decide +kernel
theorem dX2_meet_70 : decode cX2_meet 70 = .ok (.aload_n 0, 1) := by decide +kernel
theorem dX2_meet_71 : decode cX2_meet 71 = .ok (.iload_n 1, 1) := by decide +kernel
theorem dX2_meet_72 : decode cX2_meet 72 = .ok (.iload_n 2, 1) := by decide +kernel
theorem dX2_meet_73 : decode cX2_meet 73 = .ok (.iload_n 3, 1) := by decide +kernel
theorem dX2_meet_74 : decode cX2_meet 74 = .ok (.iload 4, 2) := by decide +kernel
theorem dX2_meet_76 : decode cX2_meet 76 = .ok (.isub, 1) := by decide +kernel
theorem dX2_meet_77 : decode cX2_meet 77 = .ok (.invokevirtual 114, 3) := by decide +kernel
theorem dX2_meet_80 : decode cX2_meet 80 = .ok (.istore 5, 2) := by decide +kernel
theorem dX2_meet_82 : decode cX2_meet 82 = .ok (.aload_n 0, 1) := by decide +kernel
theorem dX2_meet_83 : decode cX2_meet 83 = .ok (.iload_n 1, 1) := by decide +kernel
theorem dX2_meet_84 : decode cX2_meet 84 = .ok (.iload_n 2, 1) := by decide +kernel
theorem dX2_meet_85 : decode cX2_meet 85 = .ok (.invokevirtual 117, 3) := by decide +kernel
theorem dX2_meet_88 : decode cX2_meet 88 = .ok (.iload 4, 2) := by decide +kernel
theorem dX2_meet_90 : decode cX2_meet 90 = .ok (.iload 5, 2) := by decide +kernel
theorem dX2_meet_92 : decode cX2_meet 92 = .ok (.iadd, 1) := by decide +kernel
theorem dX2_meet_93 : decode cX2_meet 93 = .ok (.ireturn, 1) := by decide +kernel
set_option maxRecDepth 20000 in
theorem ggX2_pass_X2_isWithin : GoodIn wsX2_pass wsX2_isWithin := goodIn_r _ [11] (by decide +kernel) (by decide +kernel)
set_option maxRecDepth 20000 in
theorem gX2_pass_X2_isWithin : GoodIn wsX2_pass (va_wsS RX2 51 yX2_isWithin wsX2_isWithin) := goodIn_app (goodIn_of _ (by decide +kernel)) ggX2_pass_X2_isWithin
set_option maxRecDepth 20000 in
theorem ggX2_pass_Jx4a65c_size_8abf5 : GoodIn wsX2_pass wsJx4a65c_size_8abf5 := goodIn_r _ [16, 17, 69, 70, 71] (by decide +kernel) (by decide +kernel)
set_option maxRecDepth 20000 in
theorem gX2_pass_Jx4a65c_size_8abf5 : GoodIn wsX2_pass (wsV RX2 60 RJx4a65c yJx4a65c_size_8abf5 wsJx4a65c_size_8abf5) := goodIn_app (goodIn_of _ (by decide +kernel)) ggX2_pass_Jx4a65c_size_8abf5
set_option maxRecDepth 20000 in
theorem ggX2_pass_Jx4a65c_get_915e3 : GoodIn wsX2_pass wsJx4a65c_get_915e3 := goodIn_r _ [21, 17, 22, 23, 24, 25, 26, 27, 28, 29, 30, 31, 32, 15, 33, 34, 69, 70, 71] (by decide +kernel) (by decide +kernel)
set_option maxRecDepth 20000 in
theorem gX2_pass_Jx4a65c_get_915e3 : GoodIn wsX2_pass (wsV RX2 122 RJx4a65c yJx4a65c_get_915e3 wsJx4a65c_get_915e3) := goodIn_app (goodIn_of _ (by decide +kernel)) ggX2_pass_Jx4a65c_get_915e3
set_option maxRecDepth 20000 in
theorem ggX2_pass_X0_vanish : GoodIn wsX2_pass wsX0_vanish := goodIn_r _ [39, 40, 41, 42, 43, 38, 44, 45, 46, 47, 48, 49, 50, 58, 59, 60, 61, 62, 63, 64, 65, 66, 67, 68] (by decide +kernel) (by decide +kernel)
set_option maxRecDepth 20000 in
theorem gX2_pass_X0_vanish : GoodIn wsX2_pass (wsV RX2 129 RX0 yX0_vanish wsX0_vanish) := goodIn_app (goodIn_of _ (by decide +kernel)) ggX2_pass_X0_vanish
theorem dX2_pass_0 : decode cX2_pass 0 = .ok (.iload_n 1, 1) := by decide +kernel
theorem dX2_pass_1 : decode cX2_pass 1 = .ok (.iconst 1, 1) := by decide +kernel
theorem dX2_pass_2 : decode cX2_pass 2 = .ok (.sipush 10000, 3) := by decide +kernel
theorem dX2_pass_5 : decode cX2_pass 5 = .ok (.invokestatic 51, 3) := by decide +kernel
theorem dX2_pass_8 : decode cX2_pass 8 = .ok (.ifCond .ne 13, 3) := by decide +kernel
theorem dX2_pass_11 : decode cX2_pass 11 = .ok (.new 55, 3) := by decide +kernel
theorem dX2_pass_14 : decode cX2_pass 14 = .ok (.dup, 1) := by decide +kernel
theorem dX2_pass_15 : decode cX2_pass 15 = .ok (.ldc 120, 2) := by decide +kernel
theorem dX2_pass_17 : decode cX2_pass 17 = .ok (.invokespecial 59, 3) := by decide +kernel
theorem dX2_pass_20 : decode cX2_pass 20 = .ok (.athrow, 1) := by decide +kernel
theorem dX2_pass_21 : decode cX2_pass 21 = .ok (.aload_n 0, 1) := by decide +kernel
theorem dX2_pass_22 : decode cX2_pass 22 = .ok (.getfield 7, 3) := by decide +kernel
theorem dX2_pass_25 : decode cX2_pass 25 = .ok (.istore_n 2, 1) := by decide +kernel
theorem dX2_pass_26 : decode cX2_pass 26 = .ok (.aload_n 0, 1) := by decide +kernel
theorem dX2_pass_27 : decode cX2_pass 27 = .ok (.dup, 1) := by decide +kernel
theorem dX2_pass_28 : decode cX2_pass 28 = .ok (.getfield 7, 3) := by decide +kernel
theorem dX2_pass_31 : decode cX2_pass 31 = .ok (.iload_n 1, 1) := by decide +kernel
theorem dX2_pass_32 : decode cX2_pass 32 = .ok (.iadd, 1) := by decide +kernel
theorem dX2_pass_33 : decode cX2_pass 33 = .ok (.putfield 7, 3) := by decide +kernel
theorem dX2_pass_36 : decode cX2_pass 36 = .ok (.iconst 0, 1) := by decide +kernel
theorem dX2_pass_37 : decode cX2_pass 37 = .ok (.istore_n 3, 1) := by decide +kernel
theorem dX2_pass_38 : decode cX2_pass 38 = .ok (.iconst 0, 1) := by decide +kernel
theorem dX2_pass_39 : decode cX2_pass 39 = .ok (.istore 4, 2) := by decide +kernel
theorem dX2_pass_41 : decode cX2_pass 41 = .ok (.iload 4, 2) := by decide +kernel
theorem dX2_pass_43 : decode cX2_pass 43 = .ok (.aload_n 0, 1) := by decide +kernel
theorem dX2_pass_44 : decode cX2_pass 44 = .ok (.getfield 26, 3) := by decide +kernel
theorem dX2_pass_47 : decode cX2_pass 47 = .ok (.invokevirtual 60, 3) := by decide +kernel
theorem dX2_pass_50 : decode cX2_pass 50 = .ok (.if_icmp .ge 61, 3) := by decide +kernel
theorem dX2_pass_53 : decode cX2_pass 53 = .ok (.aload_n 0, 1) := by decide +kernel
theorem dX2_pass_54 : decode cX2_pass 54 = .ok (.getfield 26, 3) := by decide +kernel
theorem dX2_pass_57 : decode cX2_pass 57 = .ok (.iload 4, 2) := by decide +kernel
theorem dX2_pass_59 : decode cX2_pass 59 = .ok (.invokevirtual 122, 3) := by decide +kernel
theorem dX2_pass_62 : decode cX2_pass 62 = .ok (.checkcast 75, 3) := by decide +kernel
theorem dX2_pass_65 : decode cX2_pass 65 = .ok (.astore 5, 2) := by decide +kernel
theorem dX2_pass_67 : decode cX2_pass 67 = .ok (.aload 5, 2) := by decide +kernel
theorem dX2_pass_69 : decode cX2_pass 69 = .ok (.getfield 126, 3) := by decide +kernel
theorem dX2_pass_72 : decode cX2_pass 72 = .ok (.iload_n 2, 1) := by decide +kernel
theorem dX2_pass_73 : decode cX2_pass 73 = .ok (.if_icmp .le 32, 3) := by decide +kernel
theorem dX2_pass_76 : decode cX2_pass 76 = .ok (.aload 5, 2) := by decide +kernel
theorem dX2_pass_78 : decode cX2_pass 78 = .ok (.getfield 126, 3) := by decide +kernel
theorem dX2_pass_81 : decode cX2_pass 81 = .ok (.aload_n 0, 1) := by decide +kernel
theorem dX2_pass_82 : decode cX2_pass 82 = .ok (.getfield 7, 3) := by decide +kernel
theorem dX2_pass_85 : decode cX2_pass 85 = .ok (.if_icmp .gt 20, 3) := by decide +kernel
theorem dX2_pass_88 : decode cX2_pass 88 = .ok (.aload 5, 2) := by decide +kernel
theorem dX2_pass_90 : decode cX2_pass 90 = .ok (.invokevirtual 129, 3) := by decide +kernel
theorem dX2_pass_93 : decode cX2_pass 93 = .ok (.aload 5, 2) := by decide +kernel
theorem dX2_pass_95 : decode cX2_pass 95 = .ok (.getfield 132, 3) := by decide +kernel
theorem dX2_pass_98 : decode cX2_pass 98 = .ok (.iconst (-1), 1) := by decide +kernel
theorem dX2_pass_99 : decode cX2_pass 99 = .ok (.if_icmp .ne 6, 3) := by decide +kernel
theorem dX2_pass_102 : decode cX2_pass 102 = .ok (.iinc 3 1, 3) := by decide +kernel
theorem dX2_pass_105 : decode cX2_pass 105 = .ok (.iinc 4 1, 3) := by decide +kernel
theorem dX2_pass_108 : decode cX2_pass 108 = .ok (.goto (-67), 3) := by decide +kernel
theorem dX2_pass_111 : decode cX2_pass 111 = .ok (.iload_n 3, 1) := by decide +kernel
theorem dX2_pass_112 : decode cX2_pass 112 = .ok (.ireturn, 1) := by decide +kernel
set_option maxRecDepth 20000 in
theorem ggX2_setBuffer_X2_isNode : GoodIn wsX2_setBuffer wsX2_isNode := goodIn_r _ [11, 12, 13, 10, 14] (by decide +kernel) (by decide +kernel)
set_option maxRecDepth 20000 in
theorem gX2_setBuffer_X2_isNode : GoodIn wsX2_setBuffer (va_wsS RX2 40 yX2_isNode wsX2_isNode) := goodIn_app (goodIn_of _ (by decide +kernel)) ggX2_setBuffer_X2_isNode
set_option maxRecDepth 20000 in
theorem ggX2_setBuffer_X2_isWithin : GoodIn wsX2_setBuffer wsX2_isWithin := goodIn_r _ [14] (by decide +kernel) (by decide +kernel)
set_option maxRecDepth 20000 in
theorem gX2_setBuffer_X2_isWithin : GoodIn wsX2_setBuffer (va_wsS RX2 51 yX2_isWithin wsX2_isWithin) := goodIn_app (goodIn_of _ (by decide +kernel)) ggX2_setBuffer_X2_isWithin
set_option maxRecDepth 20000 in
theorem ggX2_setBuffer_X2_countAt : GoodIn wsX2_setBuffer wsX2_countAt := goodIn_r _ [18, 19, 20, 21, 22, 23, 24, 25, 26, 27, 28, 29, 30, 31, 32, 33, 34, 35, 36, 37, 38, 39, 40, 41, 42, 43, 44, 45, 46, 47, 48, 49, 50, 51, 52, 53, 54, 55, 56, 57, 58, 59, 60, 61, 62, 63, 64, 65, 66, 67, 68, 69, 70] (by decide +kernel) (by decide +kernel)
set_option maxRecDepth 20000 in
theorem gX2_setBuffer_X2_countAt : GoodIn wsX2_setBuffer (wsV RX2 137 RX2 yX2_countAt wsX2_countAt) := goodIn_app (goodIn_of _ (by decide +kernel)) ggX2_setBuffer_X2_countAt
theorem dX2_setBuffer_0 : decode cX2_setBuffer 0 = .ok (.iload_n 1, 1) := by decide +kernel
theorem dX2_setBuffer_1 : decode cX2_setBuffer 1 = .ok (.invokestatic 40, 3) := by decide +kernel
theorem dX2_setBuffer_4 : decode cX2_setBuffer 4 = .ok (.ifCond .ne 13, 3) := by decide +kernel
theorem dX2_setBuffer_7 : decode cX2_setBuffer 7 = .ok (.new 44, 3) := by decide +kernel
theorem dX2_setBuffer_10 : decode cX2_setBuffer 10 = .ok (.dup, 1) := by decide +kernel
theorem dX2_setBuffer_11 : decode cX2_setBuffer 11 = .ok (.ldc 46, 2) := by decide +kernel
theorem dX2_setBuffer_13 : decode cX2_setBuffer 13 = .ok (.invokespecial 48, 3) := by decide +kernel
theorem dX2_setBuffer_16 : decode cX2_setBuffer 16 = .ok (.athrow, 1) := by decide +kernel
theorem dX2_setBuffer_17 : decode cX2_setBuffer 17 = .ok (.iload_n 2, 1) := by decide +kernel
theorem dX2_setBuffer_18 : decode cX2_setBuffer 18 = .ok (.iconst 1, 1) := by decide +kernel
theorem dX2_setBuffer_19 : decode cX2_setBuffer 19 = .ok (.bipush 8, 2) := by decide +kernel
theorem dX2_setBuffer_21 : decode cX2_setBuffer 21 = .ok (.invokestatic 51, 3) := by decide +kernel
theorem dX2_setBuffer_24 : decode cX2_setBuffer 24 = .ok (.ifCond .ne 13, 3) := by decide +kernel
theorem dX2_setBuffer_27 : decode cX2_setBuffer 27 = .ok (.new 55, 3) := by decide +kernel
theorem dX2_setBuffer_30 : decode cX2_setBuffer 30 = .ok (.dup, 1) := by decide +kernel
theorem dX2_setBuffer_31 : decode cX2_setBuffer 31 = .ok (.ldc 135, 2) := by decide +kernel
theorem dX2_setBuffer_33 : decode cX2_setBuffer 33 = .ok (.invokespecial 59, 3) := by decide +kernel
theorem dX2_setBuffer_36 : decode cX2_setBuffer 36 = .ok (.athrow, 1) := by decide +kernel
theorem dX2_setBuffer_37 : decode cX2_setBuffer 37 = .ok (.aload_n 0, 1) := by decide +kernel
theorem dX2_setBuffer_38 : decode cX2_setBuffer 38 = .ok (.iload_n 1, 1) := by decide +kernel
theorem dX2_setBuffer_39 : decode cX2_setBuffer 39 = .ok (.invokevirtual 137, 3) := by decide +kernel
theorem dX2_setBuffer_42 : decode cX2_setBuffer 42 = .ok (.iload_n 2, 1) := by decide +kernel
theorem dX2_setBuffer_43 : decode cX2_setBuffer 43 = .ok (.if_icmp .le 13, 3) := by decide +kernel
theorem dX2_setBuffer_46 : decode cX2_setBuffer 46 = .ok (.new 64, 3) := by decide +kernel
theorem dX2_setBuffer_49 : decode cX2_setBuffer 49 = .ok (.dup, 1) := by decide +kernel
theorem dX2_setBuffer_50 : decode cX2_setBuffer 50 = .ok (.ldc 141, 2) := by decide +kernel
theorem dX2_setBuffer_52 : decode cX2_setBuffer 52 = .ok (.invokespecial 68, 3) := by decide +kernel
theorem dX2_setBuffer_55 : decode cX2_setBuffer 55 = .ok (.athrow, 1) := by decide +kernel
theorem dX2_setBuffer_56 : decode cX2_setBuffer 56 = .ok (.aload_n 0, 1) := by decide +kernel
theorem dX2_setBuffer_57 : decode cX2_setBuffer 57 = .ok (.getfield 13, 3) := by decide +kernel
theorem dX2_setBuffer_60 : decode cX2_setBuffer 60 = .ok (.iload_n 1, 1) := by decide +kernel
theorem dX2_setBuffer_61 : decode cX2_setBuffer 61 = .ok (.iaload, 1) := by decide +kernel
theorem dX2_setBuffer_62 : decode cX2_setBuffer 62 = .ok (.istore_n 3, 1) := by decide +kernel
theorem dX2_setBuffer_63 : decode cX2_setBuffer 63 = .ok (.aload_n 0, 1) := by decide +kernel
theorem dX2_setBuffer_64 : decode cX2_setBuffer 64 = .ok (.getfield 13, 3) := by decide +kernel
theorem dX2_setBuffer_67 : decode cX2_setBuffer 67 = .ok (.iload_n 1, 1) := by decide +kernel
theorem dX2_setBuffer_68 : decode cX2_setBuffer 68 = .ok (.iload_n 2, 1) := by decide +kernel
theorem dX2_setBuffer_69 : decode cX2_setBuffer 69 = .ok (.iastore, 1) := by decide +kernel
theorem dX2_setBuffer_70 : decode cX2_setBuffer 70 = .ok (.iload_n 3, 1) := by decide +kernel
theorem dX2_setBuffer_71 : decode cX2_setBuffer 71 = .ok (.ireturn, 1) := by decide +kernel
set_option maxRecDepth 20000 in
theorem ggX2_addContact_X2_isNode : GoodIn wsX2_addContact wsX2_isNode := goodIn_r _ [13, 14, 15, 12, 16] (by decide +kernel) (by decide +kernel)
set_option maxRecDepth 20000 in
theorem gX2_addContact_X2_isNode : GoodIn wsX2_addContact (va_wsS RX2 40 yX2_isNode wsX2_isNode) := goodIn_app (goodIn_of _ (by decide +kernel)) ggX2_addContact_X2_isNode
set_option maxRecDepth 20000 in
theorem ggX2_addContact_X2_isWithin : GoodIn wsX2_addContact wsX2_isWithin := goodIn_r _ [16] (by decide +kernel) (by decide +kernel)
set_option maxRecDepth 20000 in
theorem gX2_addContact_X2_isWithin : GoodIn wsX2_addContact (va_wsS RX2 51 yX2_isWithin wsX2_isWithin) := goodIn_app (goodIn_of _ (by decide +kernel)) ggX2_addContact_X2_isWithin
set_option maxRecDepth 20000 in
theorem ggX2_addContact_X1_add : GoodIn wsX2_addContact wsX1_add := goodIn_r _ [21, 22, 23, 24, 25, 26, 34, 35, 36, 37, 38, 39, 40] (by decide +kernel) (by decide +kernel)
set_option maxRecDepth 20000 in
theorem gX2_addContact_X1_add : GoodIn wsX2_addContact (wsV RX2 146 RX1 yX1_add wsX1_add) := goodIn_app (goodIn_of _ (by decide +kernel)) ggX2_addContact_X1_add
theorem dX2_addContact_0 : decode cX2_addContact 0 = .ok (.iload_n 1, 1) := by decide +kernel
theorem dX2_addContact_1 : decode cX2_addContact 1 = .ok (.invokestatic 40, 3) := by decide +kernel
theorem dX2_addContact_4 : decode cX2_addContact 4 = .ok (.ifCond .eq 10, 3) := by decide +kernel
theorem dX2_addContact_7 : decode cX2_addContact 7 = .ok (.iload_n 2, 1) := by decide +kernel
theorem dX2_addContact_8 : decode cX2_addContact 8 = .ok (.invokestatic 40, 3) := by decide +kernel
theorem dX2_addContact_11 : decode cX2_addContact 11 = .ok (.ifCond .ne 13, 3) := by decide +kernel
theorem dX2_addContact_14 : decode cX2_addContact 14 = .ok (.new 44, 3) := by decide +kernel
theorem dX2_addContact_17 : decode cX2_addContact 17 = .ok (.dup, 1) := by decide +kernel
theorem dX2_addContact_18 : decode cX2_addContact 18 = .ok (.ldc 46, 2) := by decide +kernel
theorem dX2_addContact_20 : decode cX2_addContact 20 = .ok (.invokespecial 48, 3) := by decide +kernel
theorem dX2_addContact_23 : decode cX2_addContact 23 = .ok (.athrow, 1) := by decide +kernel
theorem dX2_addContact_24 : decode cX2_addContact 24 = .ok (.iload_n 1, 1) := by decide +kernel
theorem dX2_addContact_25 : decode cX2_addContact 25 = .ok (.iload_n 2, 1) := by decide +kernel
theorem dX2_addContact_26 : decode cX2_addContact 26 = .ok (.if_icmp .eq 24, 3) := by decide +kernel
theorem dX2_addContact_29 : decode cX2_addContact 29 = .ok (.iload_n 3, 1) := by decide +kernel
theorem dX2_addContact_30 : decode cX2_addContact 30 = .ok (.iconst 0, 1) := by decide +kernel
theorem dX2_addContact_31 : decode cX2_addContact 31 = .ok (.ldc 143, 2) := by decide +kernel
theorem dX2_addContact_33 : decode cX2_addContact 33 = .ok (.invokestatic 51, 3) := by decide +kernel
theorem dX2_addContact_36 : decode cX2_addContact 36 = .ok (.ifCond .eq 14, 3) := by decide +kernel
theorem dX2_addContact_39 : decode cX2_addContact 39 = .ok (.iload 4, 2) := by decide +kernel
theorem dX2_addContact_41 : decode cX2_addContact 41 = .ok (.iload_n 3, 1) := by decide +kernel
theorem dX2_addContact_42 : decode cX2_addContact 42 = .ok (.ldc 143, 2) := by decide +kernel
theorem dX2_addContact_44 : decode cX2_addContact 44 = .ok (.invokestatic 51, 3) := by decide +kernel
theorem dX2_addContact_47 : decode cX2_addContact 47 = .ok (.ifCond .ne 13, 3) := by decide +kernel
theorem dX2_addContact_50 : decode cX2_addContact 50 = .ok (.new 55, 3) := by decide +kernel
theorem dX2_addContact_53 : decode cX2_addContact 53 = .ok (.dup, 1) := by decide +kernel
theorem dX2_addContact_54 : decode cX2_addContact 54 = .ok (.ldc 144, 2) := by decide +kernel
theorem dX2_addContact_56 : decode cX2_addContact 56 = .ok (.invokespecial 59, 3) := by decide +kernel
theorem dX2_addContact_59 : decode cX2_addContact 59 = .ok (.athrow, 1) := by decide +kernel
theorem dX2_addContact_60 : decode cX2_addContact 60 = .ok (.aload_n 0, 1) := by decide +kernel
theorem dX2_addContact_61 : decode cX2_addContact 61 = .ok (.getfield 36, 3) := by decide +kernel
theorem dX2_addContact_64 : decode cX2_addContact 64 = .ok (.iload_n 1, 1) := by decide +kernel
theorem dX2_addContact_65 : decode cX2_addContact 65 = .ok (.iload_n 2, 1) := by decide +kernel
theorem dX2_addContact_66 : decode cX2_addContact 66 = .ok (.iload_n 3, 1) := by decide +kernel
theorem dX2_addContact_67 : decode cX2_addContact 67 = .ok (.iload 4, 2) := by decide +kernel
theorem dX2_addContact_69 : decode cX2_addContact 69 = .ok (.invokevirtual 146, 3) := by decide +kernel
theorem dX2_addContact_72 : decode cX2_addContact 72 = .ok (.ifCond .ne 13, 3) := by decide +kernel
theorem dX2_addContact_75 : decode cX2_addContact 75 = .ok (.new 64, 3) := by decide +kernel
theorem dX2_addContact_78 : decode cX2_addContact 78 = .ok (.dup, 1) := by decide +kernel
theorem dX2_addContact_79 : decode cX2_addContact 79 = .ok (.ldc 149, 2) := by decide +kernel
theorem dX2_addContact_81 : decode cX2_addContact 81 = .ok (.invokespecial 68, 3) := by decide +kernel
theorem dX2_addContact_84 : decode cX2_addContact 84 = .ok (.athrow, 1) := by decide +kernel
theorem dX2_addContact_85 : decode cX2_addContact 85 = .ok (.aload_n 0, 1) := by decide +kernel
theorem dX2_addContact_86 : decode cX2_addContact 86 = .ok (.getfield 36, 3) := by decide +kernel
theorem dX2_addContact_89 : decode cX2_addContact 89 = .ok (.getfield 151, 3) := by decide +kernel
theorem dX2_addContact_92 : decode cX2_addContact 92 = .ok (.ireturn, 1) := by decide +kernel
theorem dX2_clock_0 : decode cX2_clock 0 = .ok (.aload_n 0, 1) := by decide +kernel
theorem dX2_clock_1 : decode cX2_clock 1 = .ok (.getfield 7, 3) := by decide +kernel
theorem dX2_clock_4 : decode cX2_clock 4 = .ok (.ireturn, 1) := by decide +kernel
set_option maxRecDepth 20000 in
theorem ggX2_bundles_Jx4a65c_size_8abf5 : GoodIn wsX2_bundles wsJx4a65c_size_8abf5 := goodIn_r _ [6, 7, 15, 16, 17] (by decide +kernel) (by decide +kernel)
set_option maxRecDepth 20000 in
theorem gX2_bundles_Jx4a65c_size_8abf5 : GoodIn wsX2_bundles (wsV RX2 60 RJx4a65c yJx4a65c_size_8abf5 wsJx4a65c_size_8abf5) := goodIn_app (goodIn_of _ (by decide +kernel)) ggX2_bundles_Jx4a65c_size_8abf5
theorem dX2_bundles_0 : decode cX2_bundles 0 = .ok (.aload_n 0, 1) := by decide +kernel
theorem dX2_bundles_1 : decode cX2_bundles 1 = .ok (.getfield 26, 3) := by decide +kernel
theorem dX2_bundles_4 : decode cX2_bundles 4 = .ok (.invokevirtual 60, 3) := by decide +kernel
theorem dX2_bundles_7 : decode cX2_bundles 7 = .ok (.ireturn, 1) := by decide +kernel
set_option maxRecDepth 20000 in
theorem ggX2_endOf_X2_numbered : GoodIn wsX2_endOf wsX2_numbered := goodIn_ca (goodIn_r _ [6, 7, 8, 9, 10, 11, 12, 13, 14, 15, 16, 17, 18, 19, 20, 21, 22, 23, 24, 25, 26, 27, 28, 29, 30, 31, 32, 33, 45, 46, 47, 48, 49, 50, 51, 52, 53, 54] (by decide +kernel) (by decide +kernel)) (goodIn_sub (fun _ h => List.mem_cons_of_mem _ (List.mem_append_right _ h)) (by decide +kernel))
set_option maxRecDepth 20000 in
theorem gX2_endOf_X2_numbered : GoodIn wsX2_endOf (wsV RX2 153 RX2 yX2_numbered wsX2_numbered) := goodIn_app (goodIn_of _ (by decide +kernel)) ggX2_endOf_X2_numbered
theorem dX2_endOf_0 : decode cX2_endOf 0 = .ok (.aload_n 0, 1) := by decide +kernel
theorem dX2_endOf_1 : decode cX2_endOf 1 = .ok (.iload_n 1, 1) := by decide +kernel
theorem dX2_endOf_2 : decode cX2_endOf 2 = .ok (.invokevirtual 153, 3) := by decide +kernel
theorem dX2_endOf_5 : decode cX2_endOf 5 = .ok (.getfield 126, 3) := by decide +kernel
theorem dX2_endOf_8 : decode cX2_endOf 8 = .ok (.ireturn, 1) := by decide +kernel
set_option maxRecDepth 20000 in
theorem ggX2_deliveredAt_X2_numbered : GoodIn wsX2_deliveredAt wsX2_numbered := goodIn_ca (goodIn_r _ [6, 7, 8, 9, 10, 11, 12, 13, 14, 15, 16, 17, 18, 19, 20, 21, 22, 23, 24, 25, 26, 27, 28, 29, 30, 31, 32, 33, 45, 46, 47, 48, 49, 50, 51, 52, 53, 54] (by decide +kernel) (by decide +kernel)) (goodIn_sub (fun _ h => List.mem_cons_of_mem _ (List.mem_append_right _ h)) (by decide +kernel))
set_option maxRecDepth 20000 in
theorem gX2_deliveredAt_X2_numbered : GoodIn wsX2_deliveredAt (wsV RX2 153 RX2 yX2_numbered wsX2_numbered) := goodIn_app (goodIn_of _ (by decide +kernel)) ggX2_deliveredAt_X2_numbered
theorem dX2_deliveredAt_0 : decode cX2_deliveredAt 0 = .ok (.aload_n 0, 1) := by decide +kernel
theorem dX2_deliveredAt_1 : decode cX2_deliveredAt 1 = .ok (.iload_n 1, 1) := by decide +kernel
theorem dX2_deliveredAt_2 : decode cX2_deliveredAt 2 = .ok (.invokevirtual 153, 3) := by decide +kernel
theorem dX2_deliveredAt_5 : decode cX2_deliveredAt 5 = .ok (.getfield 132, 3) := by decide +kernel
theorem dX2_deliveredAt_8 : decode cX2_deliveredAt 8 = .ok (.ireturn, 1) := by decide +kernel
set_option maxRecDepth 20000 in
theorem ggX2_hops_X2_numbered : GoodIn wsX2_hops wsX2_numbered := goodIn_ca (goodIn_r _ [6, 7, 8, 9, 10, 11, 12, 13, 14, 15, 16, 17, 18, 19, 20, 21, 22, 23, 24, 25, 26, 27, 28, 29, 30, 31, 32, 33, 45, 46, 47, 48, 49, 50, 51, 52, 53, 54] (by decide +kernel) (by decide +kernel)) (goodIn_sub (fun _ h => List.mem_cons_of_mem _ (List.mem_append_right _ h)) (by decide +kernel))
set_option maxRecDepth 20000 in
theorem gX2_hops_X2_numbered : GoodIn wsX2_hops (wsV RX2 153 RX2 yX2_numbered wsX2_numbered) := goodIn_app (goodIn_of _ (by decide +kernel)) ggX2_hops_X2_numbered
theorem dX2_hops_0 : decode cX2_hops 0 = .ok (.aload_n 0, 1) := by decide +kernel
theorem dX2_hops_1 : decode cX2_hops 1 = .ok (.iload_n 1, 1) := by decide +kernel
theorem dX2_hops_2 : decode cX2_hops 2 = .ok (.invokevirtual 153, 3) := by decide +kernel
theorem dX2_hops_5 : decode cX2_hops 5 = .ok (.getfield 157, 3) := by decide +kernel
theorem dX2_hops_8 : decode cX2_hops 8 = .ok (.ireturn, 1) := by decide +kernel
set_option maxRecDepth 20000 in
theorem ggX2_custodian_X2_numbered : GoodIn wsX2_custodian wsX2_numbered := goodIn_ca (goodIn_r _ [6, 7, 8, 9, 10, 11, 12, 13, 14, 15, 16, 17, 18, 19, 20, 21, 22, 23, 24, 25, 26, 27, 28, 29, 30, 31, 32, 33, 45, 46, 47, 48, 49, 50, 51, 52, 53, 54] (by decide +kernel) (by decide +kernel)) (goodIn_sub (fun _ h => List.mem_cons_of_mem _ (List.mem_append_right _ h)) (by decide +kernel))
set_option maxRecDepth 20000 in
theorem gX2_custodian_X2_numbered : GoodIn wsX2_custodian (wsV RX2 153 RX2 yX2_numbered wsX2_numbered) := goodIn_app (goodIn_of _ (by decide +kernel)) ggX2_custodian_X2_numbered
theorem dX2_custodian_0 : decode cX2_custodian 0 = .ok (.aload_n 0, 1) := by decide +kernel
theorem dX2_custodian_1 : decode cX2_custodian 1 = .ok (.iload_n 1, 1) := by decide +kernel
theorem dX2_custodian_2 : decode cX2_custodian 2 = .ok (.invokevirtual 153, 3) := by decide +kernel
theorem dX2_custodian_5 : decode cX2_custodian 5 = .ok (.getfield 80, 3) := by decide +kernel
theorem dX2_custodian_8 : decode cX2_custodian 8 = .ok (.ireturn, 1) := by decide +kernel
set_option maxRecDepth 20000 in
theorem ggX2_holders_X2_numbered : GoodIn wsX2_holders wsX2_numbered := goodIn_ca (goodIn_r _ [5, 6, 7, 8, 9, 10, 11, 12, 13, 14, 15, 16, 17, 18, 19, 20, 21, 22, 23, 24, 25, 26, 27, 28, 29, 30, 31, 32, 39, 40, 41, 42, 43, 44, 45, 46, 47, 48] (by decide +kernel) (by decide +kernel)) (goodIn_sub (fun _ h => List.mem_cons_of_mem _ (List.mem_append_right _ h)) (by decide +kernel))
set_option maxRecDepth 20000 in
theorem gX2_holders_X2_numbered : GoodIn wsX2_holders (wsV RX2 153 RX2 yX2_numbered wsX2_numbered) := goodIn_app (goodIn_of _ (by decide +kernel)) ggX2_holders_X2_numbered
set_option maxRecDepth 20000 in
theorem ggX2_holders_X0_isAt : GoodIn wsX2_holders wsX0_isAt := goodIn_r _ [37, 38, 49, 50, 51, 52, 53, 54, 55, 56, 57, 58, 59] (by decide +kernel) (by decide +kernel)
set_option maxRecDepth 20000 in
theorem gX2_holders_X0_isAt : GoodIn wsX2_holders (wsV RX2 160 RX0 yX0_isAt wsX0_isAt) := goodIn_app (goodIn_of _ (by decide +kernel)) ggX2_holders_X0_isAt
theorem dX2_holders_0 : decode cX2_holders 0 = .ok (.aload_n 0, 1) := by decide +kernel
theorem dX2_holders_1 : decode cX2_holders 1 = .ok (.iload_n 1, 1) := by decide +kernel
theorem dX2_holders_2 : decode cX2_holders 2 = .ok (.invokevirtual 153, 3) := by decide +kernel
theorem dX2_holders_5 : decode cX2_holders 5 = .ok (.astore_n 2, 1) := by decide +kernel
theorem dX2_holders_6 : decode cX2_holders 6 = .ok (.iconst 0, 1) := by decide +kernel
theorem dX2_holders_7 : decode cX2_holders 7 = .ok (.istore_n 3, 1) := by decide +kernel
theorem dX2_holders_8 : decode cX2_holders 8 = .ok (.iconst 0, 1) := by decide +kernel
theorem dX2_holders_9 : decode cX2_holders 9 = .ok (.istore 4, 2) := by decide +kernel
theorem dX2_holders_11 : decode cX2_holders 11 = .ok (.iload 4, 2) := by decide +kernel
theorem dX2_holders_13 : decode cX2_holders 13 = .ok (.bipush 8, 2) := by decide +kernel
theorem dX2_holders_15 : decode cX2_holders 15 = .ok (.if_icmp .ge 25, 3) := by decide +kernel
theorem dX2_holders_18 : decode cX2_holders 18 = .ok (.aload_n 2, 1) := by decide +kernel
theorem dX2_holders_19 : decode cX2_holders 19 = .ok (.iload 4, 2) := by decide +kernel
theorem dX2_holders_21 : decode cX2_holders 21 = .ok (.invokevirtual 160, 3) := by decide +kernel
theorem dX2_holders_24 : decode cX2_holders 24 = .ok (.ifCond .eq 10, 3) := by decide +kernel
theorem dX2_holders_27 : decode cX2_holders 27 = .ok (.iload_n 3, 1) := by decide +kernel
theorem dX2_holders_28 : decode cX2_holders 28 = .ok (.iconst 1, 1) := by decide +kernel
theorem dX2_holders_29 : decode cX2_holders 29 = .ok (.iload 4, 2) := by decide +kernel
theorem dX2_holders_31 : decode cX2_holders 31 = .ok (.ishl, 1) := by decide +kernel
theorem dX2_holders_32 : decode cX2_holders 32 = .ok (.ior, 1) := by decide +kernel
theorem dX2_holders_33 : decode cX2_holders 33 = .ok (.istore_n 3, 1) := by decide +kernel
theorem dX2_holders_34 : decode cX2_holders 34 = .ok (.iinc 4 1, 3) := by decide +kernel
theorem dX2_holders_37 : decode cX2_holders 37 = .ok (.goto (-26), 3) := by decide +kernel
theorem dX2_holders_40 : decode cX2_holders 40 = .ok (.iload_n 3, 1) := by decide +kernel
theorem dX2_holders_41 : decode cX2_holders 41 = .ok (.ireturn, 1) := by decide +kernel
set_option maxRecDepth 20000 in
theorem ggX2_copies_X2_checkNode : GoodIn wsX2_copies wsX2_checkNode := goodIn_ca (goodIn_r _ [5, 6, 7, 8, 9, 4, 10, 11, 12, 13] (by decide +kernel) (by decide +kernel)) (goodIn_sub (fun _ h => List.mem_cons_of_mem _ (List.mem_append_right _ h)) (by decide +kernel))
set_option maxRecDepth 20000 in
theorem gX2_copies_X2_checkNode : GoodIn wsX2_copies (va_wsS RX2 163 yX2_checkNode wsX2_checkNode) := goodIn_app (goodIn_of _ (by decide +kernel)) ggX2_copies_X2_checkNode
set_option maxRecDepth 20000 in
theorem ggX2_copies_X2_numbered : GoodIn wsX2_copies wsX2_numbered := goodIn_ca (goodIn_r _ [17, 6, 7, 18, 19, 20, 21, 22, 23, 24, 25, 26, 27, 28, 29, 30, 31, 32, 33, 34, 35, 36, 37, 38, 39, 40, 41, 42, 54, 55, 56, 57, 58, 59, 60, 61, 62, 63] (by decide +kernel) (by decide +kernel)) (goodIn_sub (fun _ h => List.mem_cons_of_mem _ (List.mem_append_right _ h)) (by decide +kernel))
set_option maxRecDepth 20000 in
theorem gX2_copies_X2_numbered : GoodIn wsX2_copies (wsV RX2 153 RX2 yX2_numbered wsX2_numbered) := goodIn_app (goodIn_of _ (by decide +kernel)) ggX2_copies_X2_numbered
theorem dX2_copies_0 : decode cX2_copies 0 = .ok (.iload_n 1, 1) := by decide +kernel
theorem dX2_copies_1 : decode cX2_copies 1 = .ok (.invokestatic 163, 3) := by decide +kernel
theorem dX2_copies_4 : decode cX2_copies 4 = .ok (.aload_n 0, 1) := by decide +kernel
theorem dX2_copies_5 : decode cX2_copies 5 = .ok (.iload_n 2, 1) := by decide +kernel
theorem dX2_copies_6 : decode cX2_copies 6 = .ok (.invokevirtual 153, 3) := by decide +kernel
theorem dX2_copies_9 : decode cX2_copies 9 = .ok (.getfield 167, 3) := by decide +kernel
theorem dX2_copies_12 : decode cX2_copies 12 = .ok (.iload_n 1, 1) := by decide +kernel
theorem dX2_copies_13 : decode cX2_copies 13 = .ok (.iaload, 1) := by decide +kernel
theorem dX2_copies_14 : decode cX2_copies 14 = .ok (.ireturn, 1) := by decide +kernel
set_option maxRecDepth 20000 in
theorem ggX2_knows_X2_checkNode : GoodIn wsX2_knows wsX2_checkNode := goodIn_ca (goodIn_r _ [5, 6, 7, 8, 9, 4, 10, 11, 12, 13] (by decide +kernel) (by decide +kernel)) (goodIn_sub (fun _ h => List.mem_cons_of_mem _ (List.mem_append_right _ h)) (by decide +kernel))
set_option maxRecDepth 20000 in
theorem gX2_knows_X2_checkNode : GoodIn wsX2_knows (va_wsS RX2 163 yX2_checkNode wsX2_checkNode) := goodIn_app (goodIn_of _ (by decide +kernel)) ggX2_knows_X2_checkNode
set_option maxRecDepth 20000 in
theorem ggX2_knows_X2_numbered : GoodIn wsX2_knows wsX2_numbered := goodIn_ca (goodIn_r _ [17, 6, 7, 18, 19, 20, 21, 22, 23, 24, 25, 26, 27, 28, 29, 30, 31, 32, 33, 34, 35, 36, 37, 38, 39, 40, 41, 42, 54, 55, 56, 57, 58, 59, 60, 61, 62, 63] (by decide +kernel) (by decide +kernel)) (goodIn_sub (fun _ h => List.mem_cons_of_mem _ (List.mem_append_right _ h)) (by decide +kernel))
set_option maxRecDepth 20000 in
theorem gX2_knows_X2_numbered : GoodIn wsX2_knows (wsV RX2 153 RX2 yX2_numbered wsX2_numbered) := goodIn_app (goodIn_of _ (by decide +kernel)) ggX2_knows_X2_numbered
theorem dX2_knows_0 : decode cX2_knows 0 = .ok (.iload_n 1, 1) := by decide +kernel
theorem dX2_knows_1 : decode cX2_knows 1 = .ok (.invokestatic 163, 3) := by decide +kernel
theorem dX2_knows_4 : decode cX2_knows 4 = .ok (.aload_n 0, 1) := by decide +kernel
theorem dX2_knows_5 : decode cX2_knows 5 = .ok (.iload_n 2, 1) := by decide +kernel
theorem dX2_knows_6 : decode cX2_knows 6 = .ok (.invokevirtual 153, 3) := by decide +kernel
theorem dX2_knows_9 : decode cX2_knows 9 = .ok (.getfield 170, 3) := by decide +kernel
theorem dX2_knows_12 : decode cX2_knows 12 = .ok (.iload_n 1, 1) := by decide +kernel
theorem dX2_knows_13 : decode cX2_knows 13 = .ok (.baload, 1) := by decide +kernel
theorem dX2_knows_14 : decode cX2_knows 14 = .ok (.ireturn, 1) := by decide +kernel
set_option maxRecDepth 20000 in
theorem ggX2_held_X2_checkNode : GoodIn wsX2_held wsX2_checkNode := goodIn_ca (goodIn_r _ [4, 5, 6, 7, 8, 3, 9, 10, 11, 12] (by decide +kernel) (by decide +kernel)) (goodIn_sub (fun _ h => List.mem_cons_of_mem _ (List.mem_append_right _ h)) (by decide +kernel))
set_option maxRecDepth 20000 in
theorem gX2_held_X2_checkNode : GoodIn wsX2_held (va_wsS RX2 163 yX2_checkNode wsX2_checkNode) := goodIn_app (goodIn_of _ (by decide +kernel)) ggX2_held_X2_checkNode
set_option maxRecDepth 20000 in
theorem ggX2_held_X2_countAt : GoodIn wsX2_held wsX2_countAt := goodIn_r _ [16, 17, 18, 19, 20, 21, 22, 23, 24, 25, 26, 27, 28, 29, 30, 31, 32, 33, 34, 35, 36, 37, 38, 39, 40, 41, 42, 43, 44, 45, 46, 47, 48, 49, 50, 51, 52, 53, 54, 55, 56, 57, 58, 59, 60, 61, 62, 63, 64, 65, 66, 67, 68] (by decide +kernel) (by decide +kernel)
set_option maxRecDepth 20000 in
theorem gX2_held_X2_countAt : GoodIn wsX2_held (wsV RX2 137 RX2 yX2_countAt wsX2_countAt) := goodIn_app (goodIn_of _ (by decide +kernel)) ggX2_held_X2_countAt
theorem dX2_held_0 : decode cX2_held 0 = .ok (.iload_n 1, 1) := by decide +kernel
theorem dX2_held_1 : decode cX2_held 1 = .ok (.invokestatic 163, 3) := by decide +kernel
theorem dX2_held_4 : decode cX2_held 4 = .ok (.aload_n 0, 1) := by decide +kernel
theorem dX2_held_5 : decode cX2_held 5 = .ok (.iload_n 1, 1) := by decide +kernel
theorem dX2_held_6 : decode cX2_held 6 = .ok (.invokevirtual 137, 3) := by decide +kernel
theorem dX2_held_9 : decode cX2_held 9 = .ok (.ireturn, 1) := by decide +kernel
set_option maxRecDepth 20000 in
theorem ggX2_heldAt_X2_checkNode : GoodIn wsX2_heldAt wsX2_checkNode := goodIn_ca (goodIn_r _ [9, 1, 2, 10, 11, 8, 12, 13, 14, 15] (by decide +kernel) (by decide +kernel)) (goodIn_sub (fun _ h => List.mem_cons_of_mem _ (List.mem_append_right _ h)) (by decide +kernel))
set_option maxRecDepth 20000 in
theorem gX2_heldAt_X2_checkNode : GoodIn wsX2_heldAt (va_wsS RX2 163 yX2_checkNode wsX2_checkNode) := goodIn_app (goodIn_of _ (by decide +kernel)) ggX2_heldAt_X2_checkNode
set_option maxRecDepth 20000 in
theorem ggX2_heldAt_Jx4a65c_size_8abf5 : GoodIn wsX2_heldAt wsJx4a65c_size_8abf5 := goodIn_r _ [20, 21, 63, 64, 65] (by decide +kernel) (by decide +kernel)
set_option maxRecDepth 20000 in
theorem gX2_heldAt_Jx4a65c_size_8abf5 : GoodIn wsX2_heldAt (wsV RX2 60 RJx4a65c yJx4a65c_size_8abf5 wsJx4a65c_size_8abf5) := goodIn_app (goodIn_of _ (by decide +kernel)) ggX2_heldAt_Jx4a65c_size_8abf5
set_option maxRecDepth 20000 in
theorem ggX2_heldAt_Jx4a65c_get_915e3 : GoodIn wsX2_heldAt wsJx4a65c_get_915e3 := goodIn_r _ [25, 21, 26, 27, 28, 29, 30, 31, 32, 33, 34, 35, 36, 19, 37, 38, 63, 64, 65] (by decide +kernel) (by decide +kernel)
set_option maxRecDepth 20000 in
theorem gX2_heldAt_Jx4a65c_get_915e3 : GoodIn wsX2_heldAt (wsV RX2 122 RJx4a65c yJx4a65c_get_915e3 wsJx4a65c_get_915e3) := goodIn_app (goodIn_of _ (by decide +kernel)) ggX2_heldAt_Jx4a65c_get_915e3
set_option maxRecDepth 20000 in
theorem ggX2_heldAt_X0_isAt : GoodIn wsX2_heldAt wsX0_isAt := goodIn_r _ [43, 44, 52, 53, 54, 55, 56, 57, 58, 59, 60, 61, 62] (by decide +kernel) (by decide +kernel)
set_option maxRecDepth 20000 in
theorem gX2_heldAt_X0_isAt : GoodIn wsX2_heldAt (wsV RX2 160 RX0 yX0_isAt wsX0_isAt) := goodIn_app (goodIn_of _ (by decide +kernel)) ggX2_heldAt_X0_isAt
theorem dX2_heldAt_0 : decode cX2_heldAt 0 = .ok (.iload_n 1, 1) := by decide +kernel
theorem dX2_heldAt_1 : decode cX2_heldAt 1 = .ok (.invokestatic 163, 3) := by decide +kernel
theorem dX2_heldAt_4 : decode cX2_heldAt 4 = .ok (.iconst 0, 1) := by decide +kernel
theorem dX2_heldAt_5 : decode cX2_heldAt 5 = .ok (.istore_n 3, 1) := by decide +kernel
theorem dX2_heldAt_6 : decode cX2_heldAt 6 = .ok (.iconst 0, 1) := by decide +kernel
theorem dX2_heldAt_7 : decode cX2_heldAt 7 = .ok (.istore 4, 2) := by decide +kernel
theorem dX2_heldAt_9 : decode cX2_heldAt 9 = .ok (.iload 4, 2) := by decide +kernel
theorem dX2_heldAt_11 : decode cX2_heldAt 11 = .ok (.aload_n 0, 1) := by decide +kernel
theorem dX2_heldAt_12 : decode cX2_heldAt 12 = .ok (.getfield 30, 3) := by decide +kernel
theorem dX2_heldAt_15 : decode cX2_heldAt 15 = .ok (.invokevirtual 60, 3) := by decide +kernel
theorem dX2_heldAt_18 : decode cX2_heldAt 18 = .ok (.if_icmp .ge 46, 3) := by decide +kernel
theorem dX2_heldAt_21 : decode cX2_heldAt 21 = .ok (.aload_n 0, 1) := by decide +kernel
theorem dX2_heldAt_22 : decode cX2_heldAt 22 = .ok (.getfield 30, 3) := by decide +kernel
theorem dX2_heldAt_25 : decode cX2_heldAt 25 = .ok (.iload 4, 2) := by decide +kernel
theorem dX2_heldAt_27 : decode cX2_heldAt 27 = .ok (.invokevirtual 122, 3) := by decide +kernel
theorem dX2_heldAt_30 : decode cX2_heldAt 30 = .ok (.checkcast 75, 3) := by decide +kernel
theorem dX2_heldAt_33 : decode cX2_heldAt 33 = .ok (.astore 5, 2) := by decide +kernel
theorem dX2_heldAt_35 : decode cX2_heldAt 35 = .ok (.aload 5, 2) := by decide +kernel
theorem dX2_heldAt_37 : decode cX2_heldAt 37 = .ok (.iload_n 1, 1) := by decide +kernel
theorem dX2_heldAt_38 : decode cX2_heldAt 38 = .ok (.invokevirtual 160, 3) := by decide +kernel
theorem dX2_heldAt_41 : decode cX2_heldAt 41 = .ok (.ifCond .eq 17, 3) := by decide +kernel
theorem dX2_heldAt_44 : decode cX2_heldAt 44 = .ok (.iload_n 3, 1) := by decide +kernel
theorem dX2_heldAt_45 : decode cX2_heldAt 45 = .ok (.iload_n 2, 1) := by decide +kernel
theorem dX2_heldAt_46 : decode cX2_heldAt 46 = .ok (.if_icmp .ne 9, 3) := by decide +kernel
theorem dX2_heldAt_49 : decode cX2_heldAt 49 = .ok (.aload 5, 2) := by decide +kernel
theorem dX2_heldAt_51 : decode cX2_heldAt 51 = .ok (.getfield 98, 3) := by decide +kernel
theorem dX2_heldAt_54 : decode cX2_heldAt 54 = .ok (.ireturn, 1) := by decide +kernel
theorem dX2_heldAt_55 : decode cX2_heldAt 55 = .ok (.iinc 3 1, 3) := by decide +kernel
theorem dX2_heldAt_58 : decode cX2_heldAt 58 = .ok (.iinc 4 1, 3) := by decide +kernel
theorem dX2_heldAt_61 : decode cX2_heldAt 61 = .ok (.goto (-52), 3) := by decide +kernel
theorem dX2_heldAt_64 : decode cX2_heldAt 64 = .ok (.new 44, 3) := by decide +kernel
theorem dX2_heldAt_67 : decode cX2_heldAt 67 = .ok (.dup, 1) := by decide +kernel
theorem dX2_heldAt_68 : decode cX2_heldAt 68 = .ok (.ldc 174, 2) := by decide +kernel
theorem dX2_heldAt_70 : decode cX2_heldAt 70 = .ok (.invokespecial 48, 3) := by decide +kernel
theorem dX2_heldAt_73 : decode cX2_heldAt 73 = .ok (.athrow, 1) := by decide +kernel
set_option maxRecDepth 20000 in
theorem ggX2_dropped_X2_checkNode : GoodIn wsX2_dropped wsX2_checkNode := goodIn_ca (goodIn_r _ [5, 6, 7, 8, 9, 4, 10, 11, 12, 13] (by decide +kernel) (by decide +kernel)) (goodIn_sub (fun _ h => List.mem_cons_of_mem _ (List.mem_append_right _ h)) (by decide +kernel))
set_option maxRecDepth 20000 in
theorem gX2_dropped_X2_checkNode : GoodIn wsX2_dropped (va_wsS RX2 163 yX2_checkNode wsX2_checkNode) := goodIn_app (goodIn_of _ (by decide +kernel)) ggX2_dropped_X2_checkNode
theorem dX2_dropped_0 : decode cX2_dropped 0 = .ok (.iload_n 1, 1) := by decide +kernel
theorem dX2_dropped_1 : decode cX2_dropped 1 = .ok (.invokestatic 163, 3) := by decide +kernel
theorem dX2_dropped_4 : decode cX2_dropped 4 = .ok (.aload_n 0, 1) := by decide +kernel
theorem dX2_dropped_5 : decode cX2_dropped 5 = .ok (.getfield 17, 3) := by decide +kernel
theorem dX2_dropped_8 : decode cX2_dropped 8 = .ok (.iload_n 1, 1) := by decide +kernel
theorem dX2_dropped_9 : decode cX2_dropped 9 = .ok (.iaload, 1) := by decide +kernel
theorem dX2_dropped_10 : decode cX2_dropped 10 = .ok (.ireturn, 1) := by decide +kernel
set_option maxRecDepth 20000 in
theorem ggX2_refused_X2_checkNode : GoodIn wsX2_refused wsX2_checkNode := goodIn_ca (goodIn_r _ [5, 6, 7, 8, 9, 4, 10, 11, 12, 13] (by decide +kernel) (by decide +kernel)) (goodIn_sub (fun _ h => List.mem_cons_of_mem _ (List.mem_append_right _ h)) (by decide +kernel))
set_option maxRecDepth 20000 in
theorem gX2_refused_X2_checkNode : GoodIn wsX2_refused (va_wsS RX2 163 yX2_checkNode wsX2_checkNode) := goodIn_app (goodIn_of _ (by decide +kernel)) ggX2_refused_X2_checkNode
theorem dX2_refused_0 : decode cX2_refused 0 = .ok (.iload_n 1, 1) := by decide +kernel
theorem dX2_refused_1 : decode cX2_refused 1 = .ok (.invokestatic 163, 3) := by decide +kernel
theorem dX2_refused_4 : decode cX2_refused 4 = .ok (.aload_n 0, 1) := by decide +kernel
theorem dX2_refused_5 : decode cX2_refused 5 = .ok (.getfield 20, 3) := by decide +kernel
theorem dX2_refused_8 : decode cX2_refused 8 = .ok (.iload_n 1, 1) := by decide +kernel
theorem dX2_refused_9 : decode cX2_refused 9 = .ok (.iaload, 1) := by decide +kernel
theorem dX2_refused_10 : decode cX2_refused 10 = .ok (.ireturn, 1) := by decide +kernel
set_option maxRecDepth 20000 in
theorem ggX2_arrival_X2_checkNode : GoodIn wsX2_arrival wsX2_checkNode := goodIn_ca (goodIn_r _ [6, 7, 8, 9, 10, 5, 11, 12, 13, 14] (by decide +kernel) (by decide +kernel)) (goodIn_sub (fun _ h => List.mem_cons_of_mem _ (List.mem_append_right _ h)) (by decide +kernel))
set_option maxRecDepth 20000 in
theorem gX2_arrival_X2_checkNode : GoodIn wsX2_arrival (va_wsS RX2 163 yX2_checkNode wsX2_checkNode) := goodIn_app (goodIn_of _ (by decide +kernel)) ggX2_arrival_X2_checkNode
set_option maxRecDepth 20000 in
theorem ggX2_arrival_X1_arrivalByNodes : GoodIn wsX2_arrival wsX1_arrivalByNodes := goodIn_r _ [19, 20, 21, 22, 23, 24, 18, 25, 26, 27, 28, 29, 30, 31, 32, 33, 34, 35, 36, 37, 38, 39, 40, 41, 42, 43, 44, 45, 46, 47, 59, 60, 61, 62, 63, 64, 65] (by decide +kernel) (by decide +kernel)
set_option maxRecDepth 20000 in
theorem gX2_arrival_X1_arrivalByNodes : GoodIn wsX2_arrival (wsV RX2 176 RX1 yX1_arrivalByNodes wsX1_arrivalByNodes) := goodIn_app (goodIn_of _ (by decide +kernel)) ggX2_arrival_X1_arrivalByNodes
set_option maxRecDepth 20000 in
theorem ggX2_arrival_X2_secondOrNone : GoodIn wsX2_arrival wsX2_secondOrNone := goodIn_r _ [50, 51] (by decide +kernel) (by decide +kernel)
set_option maxRecDepth 20000 in
theorem gX2_arrival_X2_secondOrNone : GoodIn wsX2_arrival (va_wsS RX2 179 yX2_secondOrNone wsX2_secondOrNone) := goodIn_app (goodIn_of _ (by decide +kernel)) ggX2_arrival_X2_secondOrNone
theorem dX2_arrival_0 : decode cX2_arrival 0 = .ok (.iload_n 1, 1) := by decide +kernel
theorem dX2_arrival_1 : decode cX2_arrival 1 = .ok (.invokestatic 163, 3) := by decide +kernel
theorem dX2_arrival_4 : decode cX2_arrival 4 = .ok (.iload_n 2, 1) := by decide +kernel
theorem dX2_arrival_5 : decode cX2_arrival 5 = .ok (.invokestatic 163, 3) := by decide +kernel
theorem dX2_arrival_8 : decode cX2_arrival 8 = .ok (.aload_n 0, 1) := by decide +kernel
theorem dX2_arrival_9 : decode cX2_arrival 9 = .ok (.getfield 36, 3) := by decide +kernel
theorem dX2_arrival_12 : decode cX2_arrival 12 = .ok (.iload_n 1, 1) := by decide +kernel
theorem dX2_arrival_13 : decode cX2_arrival 13 = .ok (.iload_n 2, 1) := by decide +kernel
theorem dX2_arrival_14 : decode cX2_arrival 14 = .ok (.aload_n 0, 1) := by decide +kernel
theorem dX2_arrival_15 : decode cX2_arrival 15 = .ok (.getfield 7, 3) := by decide +kernel
theorem dX2_arrival_18 : decode cX2_arrival 18 = .ok (.invokevirtual 176, 3) := by decide +kernel
theorem dX2_arrival_21 : decode cX2_arrival 21 = .ok (.invokestatic 179, 3) := by decide +kernel
theorem dX2_arrival_24 : decode cX2_arrival 24 = .ok (.ireturn, 1) := by decide +kernel
set_option maxRecDepth 20000 in
theorem ggX2_arrivalByRounds_X2_checkNode : GoodIn wsX2_arrivalByRounds wsX2_checkNode := goodIn_ca (goodIn_r _ [6, 7, 8, 9, 10, 5, 11, 12, 13, 14] (by decide +kernel) (by decide +kernel)) (goodIn_sub (fun _ h => List.mem_cons_of_mem _ (List.mem_append_right _ h)) (by decide +kernel))
set_option maxRecDepth 20000 in
theorem gX2_arrivalByRounds_X2_checkNode : GoodIn wsX2_arrivalByRounds (va_wsS RX2 163 yX2_checkNode wsX2_checkNode) := goodIn_app (goodIn_of _ (by decide +kernel)) ggX2_arrivalByRounds_X2_checkNode
set_option maxRecDepth 20000 in
theorem ggX2_arrivalByRounds_X1_arrivalByContacts : GoodIn wsX2_arrivalByRounds wsX1_arrivalByContacts := goodIn_r _ [19, 20, 21, 22, 23, 24, 25, 26, 18, 27, 28, 29, 30, 31, 32, 33, 34, 35, 36, 37, 38, 39, 51, 52, 53, 54, 55, 56, 57] (by decide +kernel) (by decide +kernel)
set_option maxRecDepth 20000 in
theorem gX2_arrivalByRounds_X1_arrivalByContacts : GoodIn wsX2_arrivalByRounds (wsV RX2 182 RX1 yX1_arrivalByContacts wsX1_arrivalByContacts) := goodIn_app (goodIn_of _ (by decide +kernel)) ggX2_arrivalByRounds_X1_arrivalByContacts
set_option maxRecDepth 20000 in
theorem ggX2_arrivalByRounds_X2_secondOrNone : GoodIn wsX2_arrivalByRounds wsX2_secondOrNone := goodIn_r _ [42, 43] (by decide +kernel) (by decide +kernel)
set_option maxRecDepth 20000 in
theorem gX2_arrivalByRounds_X2_secondOrNone : GoodIn wsX2_arrivalByRounds (va_wsS RX2 179 yX2_secondOrNone wsX2_secondOrNone) := goodIn_app (goodIn_of _ (by decide +kernel)) ggX2_arrivalByRounds_X2_secondOrNone
theorem dX2_arrivalByRounds_0 : decode cX2_arrivalByRounds 0 = .ok (.iload_n 1, 1) := by decide +kernel
theorem dX2_arrivalByRounds_1 : decode cX2_arrivalByRounds 1 = .ok (.invokestatic 163, 3) := by decide +kernel
theorem dX2_arrivalByRounds_4 : decode cX2_arrivalByRounds 4 = .ok (.iload_n 2, 1) := by decide +kernel
theorem dX2_arrivalByRounds_5 : decode cX2_arrivalByRounds 5 = .ok (.invokestatic 163, 3) := by decide +kernel
theorem dX2_arrivalByRounds_8 : decode cX2_arrivalByRounds 8 = .ok (.aload_n 0, 1) := by decide +kernel
theorem dX2_arrivalByRounds_9 : decode cX2_arrivalByRounds 9 = .ok (.getfield 36, 3) := by decide +kernel
theorem dX2_arrivalByRounds_12 : decode cX2_arrivalByRounds 12 = .ok (.iload_n 1, 1) := by decide +kernel
theorem dX2_arrivalByRounds_13 : decode cX2_arrivalByRounds 13 = .ok (.iload_n 2, 1) := by decide +kernel
theorem dX2_arrivalByRounds_14 : decode cX2_arrivalByRounds 14 = .ok (.aload_n 0, 1) := by decide +kernel
theorem dX2_arrivalByRounds_15 : decode cX2_arrivalByRounds 15 = .ok (.getfield 7, 3) := by decide +kernel
theorem dX2_arrivalByRounds_18 : decode cX2_arrivalByRounds 18 = .ok (.invokevirtual 182, 3) := by decide +kernel
theorem dX2_arrivalByRounds_21 : decode cX2_arrivalByRounds 21 = .ok (.invokestatic 179, 3) := by decide +kernel
theorem dX2_arrivalByRounds_24 : decode cX2_arrivalByRounds 24 = .ok (.ireturn, 1) := by decide +kernel
set_option maxRecDepth 20000 in
theorem ggX2_promised_X2_numbered : GoodIn wsX2_promised wsX2_numbered := goodIn_ca (goodIn_r _ [14, 15, 16, 17, 18, 19, 20, 21, 22, 23, 24, 25, 26, 27, 28, 29, 30, 31, 32, 33, 34, 35, 36, 37, 38, 39, 40, 41, 83, 84, 85, 86, 87, 88, 89, 101, 102, 103] (by decide +kernel) (by decide +kernel)) (goodIn_sub (fun _ h => List.mem_cons_of_mem _ (List.mem_append_right _ h)) (by decide +kernel))
set_option maxRecDepth 20000 in
theorem gX2_promised_X2_numbered : GoodIn wsX2_promised (wsV RX2 153 RX2 yX2_numbered wsX2_numbered) := goodIn_app (goodIn_of _ (by decide +kernel)) ggX2_promised_X2_numbered
set_option maxRecDepth 20000 in
theorem ggX2_promised_X0_isAt : GoodIn wsX2_promised wsX0_isAt := goodIn_r _ [46, 47, 90, 91, 92, 93, 94, 95, 96, 97, 98, 99, 100] (by decide +kernel) (by decide +kernel)
set_option maxRecDepth 20000 in
theorem gX2_promised_X0_isAt : GoodIn wsX2_promised (wsV RX2 160 RX0 yX0_isAt wsX0_isAt) := goodIn_app (goodIn_of _ (by decide +kernel)) ggX2_promised_X0_isAt
set_option maxRecDepth 20000 in
theorem ggX2_promised_X1_arrivalByNodes : GoodIn wsX2_promised wsX1_arrivalByNodes := goodIn_r _ [52, 53, 54, 55, 56, 57, 51, 58, 59, 60, 61, 62, 63, 64, 65, 66, 67, 68, 69, 70, 71, 72, 73, 74, 75, 76, 77, 78, 7, 79, 104, 105, 106, 107, 108, 109, 110] (by decide +kernel) (by decide +kernel)
set_option maxRecDepth 20000 in
theorem gX2_promised_X1_arrivalByNodes : GoodIn wsX2_promised (wsV RX2 176 RX1 yX1_arrivalByNodes wsX1_arrivalByNodes) := goodIn_app (goodIn_of _ (by decide +kernel)) ggX2_promised_X1_arrivalByNodes
set_option maxRecDepth 20000 in
theorem ggX2_promised_X2_secondOrNone : GoodIn wsX2_promised wsX2_secondOrNone := goodIn_r _ [82, 1] (by decide +kernel) (by decide +kernel)
set_option maxRecDepth 20000 in
theorem gX2_promised_X2_secondOrNone : GoodIn wsX2_promised (va_wsS RX2 179 yX2_secondOrNone wsX2_secondOrNone) := goodIn_app (goodIn_of _ (by decide +kernel)) ggX2_promised_X2_secondOrNone
theorem dX2_promised_0 : decode cX2_promised 0 = .ok (.aload_n 0, 1) := by decide +kernel
theorem dX2_promised_1 : decode cX2_promised 1 = .ok (.iload_n 1, 1) := by decide +kernel
theorem dX2_promised_2 : decode cX2_promised 2 = .ok (.invokevirtual 153, 3) := by decide +kernel
theorem dX2_promised_5 : decode cX2_promised 5 = .ok (.astore_n 2, 1) := by decide +kernel
theorem dX2_promised_6 : decode cX2_promised 6 = .ok (.ldc 185, 2) := by decide +kernel
theorem dX2_promised_8 : decode cX2_promised 8 = .ok (.istore_n 3, 1) := by decide +kernel
theorem dX2_promised_9 : decode cX2_promised 9 = .ok (.iconst 0, 1) := by decide +kernel
theorem dX2_promised_10 : decode cX2_promised 10 = .ok (.istore 4, 2) := by decide +kernel
theorem dX2_promised_12 : decode cX2_promised 12 = .ok (.iload 4, 2) := by decide +kernel
theorem dX2_promised_14 : decode cX2_promised 14 = .ok (.bipush 8, 2) := by decide +kernel
theorem dX2_promised_16 : decode cX2_promised 16 = .ok (.if_icmp .ge 40, 3) := by decide +kernel
theorem dX2_promised_19 : decode cX2_promised 19 = .ok (.aload_n 2, 1) := by decide +kernel
theorem dX2_promised_20 : decode cX2_promised 20 = .ok (.iload 4, 2) := by decide +kernel
theorem dX2_promised_22 : decode cX2_promised 22 = .ok (.invokevirtual 160, 3) := by decide +kernel
theorem dX2_promised_25 : decode cX2_promised 25 = .ok (.ifCond .eq 25, 3) := by decide +kernel
theorem dX2_promised_28 : decode cX2_promised 28 = .ok (.iload_n 3, 1) := by decide +kernel
theorem dX2_promised_29 : decode cX2_promised 29 = .ok (.aload_n 0, 1) := by decide +kernel
theorem dX2_promised_30 : decode cX2_promised 30 = .ok (.getfield 36, 3) := by decide +kernel
theorem dX2_promised_33 : decode cX2_promised 33 = .ok (.iload 4, 2) := by decide +kernel
theorem dX2_promised_35 : decode cX2_promised 35 = .ok (.aload_n 2, 1) := by decide +kernel
theorem dX2_promised_36 : decode cX2_promised 36 = .ok (.getfield 186, 3) := by decide +kernel
theorem dX2_promised_39 : decode cX2_promised 39 = .ok (.aload_n 0, 1) := by decide +kernel
theorem dX2_promised_40 : decode cX2_promised 40 = .ok (.getfield 7, 3) := by decide +kernel
theorem dX2_promised_43 : decode cX2_promised 43 = .ok (.invokevirtual 176, 3) := by decide +kernel
theorem dX2_promised_46 : decode cX2_promised 46 = .ok (.invokestatic 189, 3) := by decide +kernel
theorem dX2_promised_49 : decode cX2_promised 49 = .ok (.istore_n 3, 1) := by decide +kernel
theorem dX2_promised_50 : decode cX2_promised 50 = .ok (.iinc 4 1, 3) := by decide +kernel
theorem dX2_promised_53 : decode cX2_promised 53 = .ok (.goto (-41), 3) := by decide +kernel
theorem dX2_promised_56 : decode cX2_promised 56 = .ok (.iload_n 3, 1) := by decide +kernel
theorem dX2_promised_57 : decode cX2_promised 57 = .ok (.aload_n 2, 1) := by decide +kernel
theorem dX2_promised_58 : decode cX2_promised 58 = .ok (.getfield 126, 3) := by decide +kernel
theorem dX2_promised_61 : decode cX2_promised 61 = .ok (.if_icmp .ge 10, 3) := by decide +kernel
theorem dX2_promised_64 : decode cX2_promised 64 = .ok (.iload_n 3, 1) := by decide +kernel
theorem dX2_promised_65 : decode cX2_promised 65 = .ok (.invokestatic 179, 3) := by decide +kernel
theorem dX2_promised_68 : decode cX2_promised 68 = .ok (.goto 4, 3) := by decide +kernel
theorem dX2_promised_71 : decode cX2_promised 71 = .ok (.iconst (-1), 1) := by decide +kernel
theorem dX2_promised_72 : decode cX2_promised 72 = .ok (.ireturn, 1) := by decide +kernel
theorem dX2_isWithin_0 : decode cX2_isWithin 0 = .ok (.iload_n 1, 1) := by decide +kernel
theorem dX2_isWithin_1 : decode cX2_isWithin 1 = .ok (.iload_n 0, 1) := by decide +kernel
theorem dX2_isWithin_2 : decode cX2_isWithin 2 = .ok (.if_icmp .gt 12, 3) := by decide +kernel
theorem dX2_isWithin_5 : decode cX2_isWithin 5 = .ok (.iload_n 0, 1) := by decide +kernel
theorem dX2_isWithin_6 : decode cX2_isWithin 6 = .ok (.iload_n 2, 1) := by decide +kernel
theorem dX2_isWithin_7 : decode cX2_isWithin 7 = .ok (.if_icmp .gt 7, 3) := by decide +kernel
theorem dX2_isWithin_10 : decode cX2_isWithin 10 = .ok (.iconst 1, 1) := by decide +kernel
theorem dX2_isWithin_11 : decode cX2_isWithin 11 = .ok (.goto 4, 3) := by decide +kernel
theorem dX2_isWithin_14 : decode cX2_isWithin 14 = .ok (.iconst 0, 1) := by decide +kernel
theorem dX2_isWithin_15 : decode cX2_isWithin 15 = .ok (.ireturn, 1) := by decide +kernel
set_option maxRecDepth 20000 in
theorem ggX2_isNode_X2_isWithin : GoodIn wsX2_isNode wsX2_isWithin := goodIn_r _ [4] (by decide +kernel) (by decide +kernel)
set_option maxRecDepth 20000 in
theorem gX2_isNode_X2_isWithin : GoodIn wsX2_isNode (va_wsS RX2 51 yX2_isWithin wsX2_isWithin) := goodIn_app (goodIn_of _ (by decide +kernel)) ggX2_isNode_X2_isWithin
theorem dX2_isNode_0 : decode cX2_isNode 0 = .ok (.iload_n 0, 1) := by decide +kernel
theorem dX2_isNode_1 : decode cX2_isNode 1 = .ok (.iconst 0, 1) := by decide +kernel
theorem dX2_isNode_2 : decode cX2_isNode 2 = .ok (.bipush 7, 2) := by decide +kernel
theorem dX2_isNode_4 : decode cX2_isNode 4 = .ok (.invokestatic 51, 3) := by decide +kernel
theorem dX2_isNode_7 : decode cX2_isNode 7 = .ok (.ireturn, 1) := by decide +kernel
set_option maxRecDepth 20000 in
theorem ggX2_checkNode_X2_isNode : GoodIn wsX2_checkNode wsX2_isNode := goodIn_r _ [6, 7, 8, 5, 9] (by decide +kernel) (by decide +kernel)
set_option maxRecDepth 20000 in
theorem gX2_checkNode_X2_isNode : GoodIn wsX2_checkNode (va_wsS RX2 40 yX2_isNode wsX2_isNode) := goodIn_app (goodIn_of _ (by decide +kernel)) ggX2_checkNode_X2_isNode
theorem dX2_checkNode_0 : decode cX2_checkNode 0 = .ok (.iload_n 0, 1) := by decide +kernel
theorem dX2_checkNode_1 : decode cX2_checkNode 1 = .ok (.invokestatic 40, 3) := by decide +kernel
theorem dX2_checkNode_4 : decode cX2_checkNode 4 = .ok (.ifCond .ne 13, 3) := by decide +kernel
theorem dX2_checkNode_7 : decode cX2_checkNode 7 = .ok (.new 44, 3) := by decide +kernel
theorem dX2_checkNode_10 : decode cX2_checkNode 10 = .ok (.dup, 1) := by decide +kernel
theorem dX2_checkNode_11 : decode cX2_checkNode 11 = .ok (.ldc 46, 2) := by decide +kernel
theorem dX2_checkNode_13 : decode cX2_checkNode 13 = .ok (.invokespecial 48, 3) := by decide +kernel
theorem dX2_checkNode_16 : decode cX2_checkNode 16 = .ok (.athrow, 1) := by decide +kernel
theorem dX2_checkNode_17 : decode cX2_checkNode 17 = .ok (.return_, 1) := by decide +kernel
set_option maxRecDepth 20000 in
theorem ggX2_numbered_Jx4a65c_size_8abf5 : GoodIn wsX2_numbered wsJx4a65c_size_8abf5 := goodIn_r _ [9, 10, 35, 36, 37] (by decide +kernel) (by decide +kernel)
set_option maxRecDepth 20000 in
theorem gX2_numbered_Jx4a65c_size_8abf5 : GoodIn wsX2_numbered (wsV RX2 60 RJx4a65c yJx4a65c_size_8abf5 wsJx4a65c_size_8abf5) := goodIn_app (goodIn_of _ (by decide +kernel)) ggX2_numbered_Jx4a65c_size_8abf5
set_option maxRecDepth 20000 in
theorem ggX2_numbered_Jx4a65c_get_915e3 : GoodIn wsX2_numbered wsJx4a65c_get_915e3 := goodIn_r _ [14, 10, 15, 16, 17, 18, 19, 20, 21, 22, 23, 24, 25, 8, 26, 27, 35, 36, 37] (by decide +kernel) (by decide +kernel)
set_option maxRecDepth 20000 in
theorem gX2_numbered_Jx4a65c_get_915e3 : GoodIn wsX2_numbered (wsV RX2 122 RJx4a65c yJx4a65c_get_915e3 wsJx4a65c_get_915e3) := goodIn_app (goodIn_of _ (by decide +kernel)) ggX2_numbered_Jx4a65c_get_915e3
theorem dX2_numbered_0 : decode cX2_numbered 0 = .ok (.iload_n 1, 1) := by decide +kernel
theorem dX2_numbered_1 : decode cX2_numbered 1 = .ok (.ifCond .lt 14, 3) := by decide +kernel
theorem dX2_numbered_4 : decode cX2_numbered 4 = .ok (.iload_n 1, 1) := by decide +kernel
theorem dX2_numbered_5 : decode cX2_numbered 5 = .ok (.aload_n 0, 1) := by decide +kernel
theorem dX2_numbered_6 : decode cX2_numbered 6 = .ok (.getfield 26, 3) := by decide +kernel
theorem dX2_numbered_9 : decode cX2_numbered 9 = .ok (.invokevirtual 60, 3) := by decide +kernel
theorem dX2_numbered_12 : decode cX2_numbered 12 = .ok (.if_icmp .lt 13, 3) := by decide +kernel
theorem dX2_numbered_15 : decode cX2_numbered 15 = .ok (.new 44, 3) := by decide +kernel
theorem dX2_numbered_18 : decode cX2_numbered 18 = .ok (.dup, 1) := by decide +kernel
theorem dX2_numbered_19 : decode cX2_numbered 19 = .ok (.ldc 195, 2) := by decide +kernel
theorem dX2_numbered_21 : decode cX2_numbered 21 = .ok (.invokespecial 48, 3) := by decide +kernel
theorem dX2_numbered_24 : decode cX2_numbered 24 = .ok (.athrow, 1) := by decide +kernel
theorem dX2_numbered_25 : decode cX2_numbered 25 = .ok (.aload_n 0, 1) := by decide +kernel
theorem dX2_numbered_26 : decode cX2_numbered 26 = .ok (.getfield 26, 3) := by decide +kernel
theorem dX2_numbered_29 : decode cX2_numbered 29 = .ok (.iload_n 1, 1) := by decide +kernel
theorem dX2_numbered_30 : decode cX2_numbered 30 = .ok (.invokevirtual 122, 3) := by decide +kernel
theorem dX2_numbered_33 : decode cX2_numbered 33 = .ok (.checkcast 75, 3) := by decide +kernel
theorem dX2_numbered_36 : decode cX2_numbered 36 = .ok (.areturn, 1) := by decide +kernel
theorem dX2_secondOrNone_0 : decode cX2_secondOrNone 0 = .ok (.iload_n 0, 1) := by decide +kernel
theorem dX2_secondOrNone_1 : decode cX2_secondOrNone 1 = .ok (.ldc 185, 2) := by decide +kernel
theorem dX2_secondOrNone_3 : decode cX2_secondOrNone 3 = .ok (.if_icmp .ne 7, 3) := by decide +kernel
theorem dX2_secondOrNone_6 : decode cX2_secondOrNone 6 = .ok (.iconst (-1), 1) := by decide +kernel
theorem dX2_secondOrNone_7 : decode cX2_secondOrNone 7 = .ok (.goto 4, 3) := by decide +kernel
theorem dX2_secondOrNone_10 : decode cX2_secondOrNone 10 = .ok (.iload_n 0, 1) := by decide +kernel
theorem dX2_secondOrNone_11 : decode cX2_secondOrNone 11 = .ok (.ireturn, 1) := by decide +kernel
set_option maxRecDepth 20000 in
theorem ggX2_placeInOrder_Jx4a65c_size_8abf5 : GoodIn wsX2_placeInOrder wsJx4a65c_size_8abf5 := goodIn_r _ [7, 8, 41, 42, 43] (by decide +kernel) (by decide +kernel)
set_option maxRecDepth 20000 in
theorem gX2_placeInOrder_Jx4a65c_size_8abf5 : GoodIn wsX2_placeInOrder (wsV RX2 60 RJx4a65c yJx4a65c_size_8abf5 wsJx4a65c_size_8abf5) := goodIn_app (goodIn_of _ (by decide +kernel)) ggX2_placeInOrder_Jx4a65c_size_8abf5
set_option maxRecDepth 20000 in
theorem ggX2_placeInOrder_Jx4a65c_get_915e3 : GoodIn wsX2_placeInOrder wsJx4a65c_get_915e3 := goodIn_r _ [12, 8, 13, 14, 15, 16, 17, 18, 19, 20, 21, 22, 23, 6, 24, 25, 41, 42, 43] (by decide +kernel) (by decide +kernel)
set_option maxRecDepth 20000 in
theorem gX2_placeInOrder_Jx4a65c_get_915e3 : GoodIn wsX2_placeInOrder (wsV RX2 122 RJx4a65c yJx4a65c_get_915e3 wsJx4a65c_get_915e3) := goodIn_app (goodIn_of _ (by decide +kernel)) ggX2_placeInOrder_Jx4a65c_get_915e3
set_option maxRecDepth 20000 in
theorem ggX2_placeInOrder_X0_isBefore : GoodIn wsX2_placeInOrder wsX0_isBefore := goodIn_r _ [30, 31, 32, 33, 44, 45, 46, 47, 48, 49, 50, 51, 52, 53, 54] (by decide +kernel) (by decide +kernel)
set_option maxRecDepth 20000 in
theorem gX2_placeInOrder_X0_isBefore : GoodIn wsX2_placeInOrder (wsV RX2 197 RX0 yX0_isBefore wsX0_isBefore) := goodIn_app (goodIn_of _ (by decide +kernel)) ggX2_placeInOrder_X0_isBefore
theorem dX2_placeInOrder_0 : decode cX2_placeInOrder 0 = .ok (.iconst 0, 1) := by decide +kernel
theorem dX2_placeInOrder_1 : decode cX2_placeInOrder 1 = .ok (.istore_n 2, 1) := by decide +kernel
theorem dX2_placeInOrder_2 : decode cX2_placeInOrder 2 = .ok (.iload_n 2, 1) := by decide +kernel
theorem dX2_placeInOrder_3 : decode cX2_placeInOrder 3 = .ok (.aload_n 0, 1) := by decide +kernel
theorem dX2_placeInOrder_4 : decode cX2_placeInOrder 4 = .ok (.getfield 30, 3) := by decide +kernel
theorem dX2_placeInOrder_7 : decode cX2_placeInOrder 7 = .ok (.invokevirtual 60, 3) := by decide +kernel
theorem dX2_placeInOrder_10 : decode cX2_placeInOrder 10 = .ok (.if_icmp .ge 27, 3) := by decide +kernel
theorem dX2_placeInOrder_13 : decode cX2_placeInOrder 13 = .ok (.aload_n 1, 1) := by decide +kernel
theorem dX2_placeInOrder_14 : decode cX2_placeInOrder 14 = .ok (.aload_n 0, 1) := by decide +kernel
theorem dX2_placeInOrder_15 : decode cX2_placeInOrder 15 = .ok (.getfield 30, 3) := by decide +kernel
theorem dX2_placeInOrder_18 : decode cX2_placeInOrder 18 = .ok (.iload_n 2, 1) := by decide +kernel
theorem dX2_placeInOrder_19 : decode cX2_placeInOrder 19 = .ok (.invokevirtual 122, 3) := by decide +kernel
theorem dX2_placeInOrder_22 : decode cX2_placeInOrder 22 = .ok (.checkcast 75, 3) := by decide +kernel
theorem dX2_placeInOrder_25 : decode cX2_placeInOrder 25 = .ok (.invokevirtual 197, 3) := by decide +kernel
theorem dX2_placeInOrder_28 : decode cX2_placeInOrder 28 = .ok (.ifCond .ne 9, 3) := by decide +kernel
theorem dX2_placeInOrder_31 : decode cX2_placeInOrder 31 = .ok (.iinc 2 1, 3) := by decide +kernel
theorem dX2_placeInOrder_34 : decode cX2_placeInOrder 34 = .ok (.goto (-32), 3) := by decide +kernel
theorem dX2_placeInOrder_37 : decode cX2_placeInOrder 37 = .ok (.iload_n 2, 1) := by decide +kernel
theorem dX2_placeInOrder_38 : decode cX2_placeInOrder 38 = .ok (.ireturn, 1) := by decide +kernel
set_option maxRecDepth 20000 in
theorem ggX2_countAt_Jx4a65c_size_8abf5 : GoodIn wsX2_countAt wsJx4a65c_size_8abf5 := goodIn_r _ [7, 8, 39, 40, 41] (by decide +kernel) (by decide +kernel)
set_option maxRecDepth 20000 in
theorem gX2_countAt_Jx4a65c_size_8abf5 : GoodIn wsX2_countAt (wsV RX2 60 RJx4a65c yJx4a65c_size_8abf5 wsJx4a65c_size_8abf5) := goodIn_app (goodIn_of _ (by decide +kernel)) ggX2_countAt_Jx4a65c_size_8abf5
set_option maxRecDepth 20000 in
theorem ggX2_countAt_Jx4a65c_get_915e3 : GoodIn wsX2_countAt wsJx4a65c_get_915e3 := goodIn_r _ [12, 8, 13, 14, 15, 16, 17, 18, 19, 20, 21, 22, 23, 6, 24, 25, 39, 40, 41] (by decide +kernel) (by decide +kernel)
set_option maxRecDepth 20000 in
theorem gX2_countAt_Jx4a65c_get_915e3 : GoodIn wsX2_countAt (wsV RX2 122 RJx4a65c yJx4a65c_get_915e3 wsJx4a65c_get_915e3) := goodIn_app (goodIn_of _ (by decide +kernel)) ggX2_countAt_Jx4a65c_get_915e3
set_option maxRecDepth 20000 in
theorem ggX2_countAt_X0_isAt : GoodIn wsX2_countAt wsX0_isAt := goodIn_r _ [30, 31, 42, 43, 44, 45, 46, 47, 48, 49, 50, 51, 52] (by decide +kernel) (by decide +kernel)
set_option maxRecDepth 20000 in
theorem gX2_countAt_X0_isAt : GoodIn wsX2_countAt (wsV RX2 160 RX0 yX0_isAt wsX0_isAt) := goodIn_app (goodIn_of _ (by decide +kernel)) ggX2_countAt_X0_isAt
theorem dX2_countAt_0 : decode cX2_countAt 0 = .ok (.iconst 0, 1) := by decide +kernel
theorem dX2_countAt_1 : decode cX2_countAt 1 = .ok (.istore_n 2, 1) := by decide +kernel
theorem dX2_countAt_2 : decode cX2_countAt 2 = .ok (.iconst 0, 1) := by decide +kernel
theorem dX2_countAt_3 : decode cX2_countAt 3 = .ok (.istore_n 3, 1) := by decide +kernel
theorem dX2_countAt_4 : decode cX2_countAt 4 = .ok (.iload_n 3, 1) := by decide +kernel
theorem dX2_countAt_5 : decode cX2_countAt 5 = .ok (.aload_n 0, 1) := by decide +kernel
theorem dX2_countAt_6 : decode cX2_countAt 6 = .ok (.getfield 26, 3) := by decide +kernel
theorem dX2_countAt_9 : decode cX2_countAt 9 = .ok (.invokevirtual 60, 3) := by decide +kernel
theorem dX2_countAt_12 : decode cX2_countAt 12 = .ok (.if_icmp .ge 30, 3) := by decide +kernel
theorem dX2_countAt_15 : decode cX2_countAt 15 = .ok (.aload_n 0, 1) := by decide +kernel
theorem dX2_countAt_16 : decode cX2_countAt 16 = .ok (.getfield 26, 3) := by decide +kernel
theorem dX2_countAt_19 : decode cX2_countAt 19 = .ok (.iload_n 3, 1) := by decide +kernel
theorem dX2_countAt_20 : decode cX2_countAt 20 = .ok (.invokevirtual 122, 3) := by decide +kernel
theorem dX2_countAt_23 : decode cX2_countAt 23 = .ok (.checkcast 75, 3) := by decide +kernel
theorem dX2_countAt_26 : decode cX2_countAt 26 = .ok (.iload_n 1, 1) := by decide +kernel
theorem dX2_countAt_27 : decode cX2_countAt 27 = .ok (.invokevirtual 160, 3) := by decide +kernel
theorem dX2_countAt_30 : decode cX2_countAt 30 = .ok (.ifCond .eq 6, 3) := by decide +kernel
theorem dX2_countAt_33 : decode cX2_countAt 33 = .ok (.iinc 2 1, 3) := by decide +kernel
theorem dX2_countAt_36 : decode cX2_countAt 36 = .ok (.iinc 3 1, 3) := by decide +kernel
theorem dX2_countAt_39 : decode cX2_countAt 39 = .ok (.goto (-35), 3) := by decide +kernel
theorem dX2_countAt_42 : decode cX2_countAt 42 = .ok (.iload_n 2, 1) := by decide +kernel
theorem dX2_countAt_43 : decode cX2_countAt 43 = .ok (.ireturn, 1) := by decide +kernel
set_option maxRecDepth 20000 in
theorem ggX2_makeRoom_X2_countAt : GoodIn wsX2_makeRoom wsX2_countAt := goodIn_r _ [8, 9, 10, 11, 12, 13, 14, 15, 16, 17, 18, 19, 20, 21, 22, 23, 24, 25, 26, 27, 28, 29, 30, 31, 32, 33, 34, 35, 36, 37, 38, 39, 55, 56, 57, 58, 59, 60, 61, 73, 74, 75, 62, 63, 64, 65, 66, 67, 68, 69, 70, 71, 72] (by decide +kernel) (by decide +kernel)
set_option maxRecDepth 20000 in
theorem gX2_makeRoom_X2_countAt : GoodIn wsX2_makeRoom (wsV RX2 137 RX2 yX2_countAt wsX2_countAt) := goodIn_app (goodIn_of _ (by decide +kernel)) ggX2_makeRoom_X2_countAt
set_option maxRecDepth 20000 in
theorem ggX2_makeRoom_X2_lastWithoutCustody : GoodIn wsX2_makeRoom wsX2_lastWithoutCustody := goodIn_r _ [43, 44, 10, 45, 11, 12, 13, 14, 15, 16, 17, 18, 19, 20, 21, 22, 23, 24, 25, 26, 27, 28, 29, 30, 31, 32, 33, 34, 35, 36, 37, 38, 39, 55, 56, 57, 58, 59, 60, 61, 62, 63, 64, 65, 66, 67, 68, 69, 70, 71, 72, 73, 74, 75] (by decide +kernel) (by decide +kernel)
set_option maxRecDepth 20000 in
theorem gX2_makeRoom_X2_lastWithoutCustody : GoodIn wsX2_makeRoom (wsV RX2 201 RX2 yX2_lastWithoutCustody wsX2_lastWithoutCustody) := goodIn_app (goodIn_of _ (by decide +kernel)) ggX2_makeRoom_X2_lastWithoutCustody
set_option maxRecDepth 20000 in
theorem ggX2_makeRoom_X0_leave : GoodIn wsX2_makeRoom wsX0_leave := goodIn_r _ [49, 50, 51, 52, 37, 53, 39, 54, 62, 63, 64, 65, 66, 67, 68, 69, 70, 71, 72] (by decide +kernel) (by decide +kernel)
set_option maxRecDepth 20000 in
theorem gX2_makeRoom_X0_leave : GoodIn wsX2_makeRoom (wsV RX2 207 RX0 yX0_leave wsX0_leave) := goodIn_app (goodIn_of _ (by decide +kernel)) ggX2_makeRoom_X0_leave
theorem dX2_makeRoom_0 : decode cX2_makeRoom 0 = .ok (.aload_n 0, 1) := by decide +kernel
theorem dX2_makeRoom_1 : decode cX2_makeRoom 1 = .ok (.iload_n 1, 1) := by decide +kernel
theorem dX2_makeRoom_2 : decode cX2_makeRoom 2 = .ok (.invokevirtual 137, 3) := by decide +kernel
theorem dX2_makeRoom_5 : decode cX2_makeRoom 5 = .ok (.aload_n 0, 1) := by decide +kernel
theorem dX2_makeRoom_6 : decode cX2_makeRoom 6 = .ok (.getfield 13, 3) := by decide +kernel
theorem dX2_makeRoom_9 : decode cX2_makeRoom 9 = .ok (.iload_n 1, 1) := by decide +kernel
theorem dX2_makeRoom_10 : decode cX2_makeRoom 10 = .ok (.iaload, 1) := by decide +kernel
theorem dX2_makeRoom_11 : decode cX2_makeRoom 11 = .ok (.if_icmp .ge 5, 3) := by decide +kernel
theorem dX2_makeRoom_14 : decode cX2_makeRoom 14 = .ok (.iconst 1, 1) := by decide +kernel
theorem dX2_makeRoom_15 : decode cX2_makeRoom 15 = .ok (.ireturn, 1) := by decide +kernel
theorem dX2_makeRoom_16 : decode cX2_makeRoom 16 = .ok (.aload_n 0, 1) := by decide +kernel
theorem dX2_makeRoom_17 : decode cX2_makeRoom 17 = .ok (.iload_n 1, 1) := by decide +kernel
theorem dX2_makeRoom_18 : decode cX2_makeRoom 18 = .ok (.invokevirtual 201, 3) := by decide +kernel
theorem dX2_makeRoom_21 : decode cX2_makeRoom 21 = .ok (.astore_n 3, 1) := by decide +kernel
theorem dX2_makeRoom_22 : decode cX2_makeRoom 22 = .ok (.aload_n 3, 1) := by decide +kernel
theorem dX2_makeRoom_23 : decode cX2_makeRoom 23 = .ok (.ifnull 11, 3) := by decide +kernel
theorem dX2_makeRoom_26 : decode cX2_makeRoom 26 = .ok (.aload_n 3, 1) := by decide +kernel
theorem dX2_makeRoom_27 : decode cX2_makeRoom 27 = .ok (.getfield 204, 3) := by decide +kernel
theorem dX2_makeRoom_30 : decode cX2_makeRoom 30 = .ok (.iload_n 2, 1) := by decide +kernel
theorem dX2_makeRoom_31 : decode cX2_makeRoom 31 = .ok (.if_icmp .lt 5, 3) := by decide +kernel
theorem dX2_makeRoom_34 : decode cX2_makeRoom 34 = .ok (.iconst 0, 1) := by decide +kernel
theorem dX2_makeRoom_35 : decode cX2_makeRoom 35 = .ok (.ireturn, 1) := by decide +kernel
theorem dX2_makeRoom_36 : decode cX2_makeRoom 36 = .ok (.aload_n 3, 1) := by decide +kernel
theorem dX2_makeRoom_37 : decode cX2_makeRoom 37 = .ok (.iload_n 1, 1) := by decide +kernel
theorem dX2_makeRoom_38 : decode cX2_makeRoom 38 = .ok (.invokevirtual 207, 3) := by decide +kernel
theorem dX2_makeRoom_41 : decode cX2_makeRoom 41 = .ok (.aload_n 0, 1) := by decide +kernel
theorem dX2_makeRoom_42 : decode cX2_makeRoom 42 = .ok (.getfield 17, 3) := by decide +kernel
theorem dX2_makeRoom_45 : decode cX2_makeRoom 45 = .ok (.iload_n 1, 1) := by decide +kernel
theorem dX2_makeRoom_46 : decode cX2_makeRoom 46 = .ok (.dup2, 1) := by decide +kernel
theorem dX2_makeRoom_47 : decode cX2_makeRoom 47 = .ok (.iaload, 1) := by decide +kernel
theorem dX2_makeRoom_48 : decode cX2_makeRoom 48 = .ok (.iconst 1, 1) := by decide +kernel
theorem dX2_makeRoom_49 : decode cX2_makeRoom 49 = .ok (.iadd, 1) := by decide +kernel
theorem dX2_makeRoom_50 : decode cX2_makeRoom 50 = .ok (.iastore, 1) := by decide +kernel
theorem dX2_makeRoom_51 : decode cX2_makeRoom 51 = .ok (.iconst 1, 1) := by decide +kernel
theorem dX2_makeRoom_52 : decode cX2_makeRoom 52 = .ok (.ireturn, 1) := by decide +kernel
set_option maxRecDepth 20000 in
theorem ggX2_lastWithoutCustody_Jx4a65c_size_8abf5 : GoodIn wsX2_lastWithoutCustody wsJx4a65c_size_8abf5 := goodIn_r _ [8, 9, 51, 52, 53] (by decide +kernel) (by decide +kernel)
set_option maxRecDepth 20000 in
theorem gX2_lastWithoutCustody_Jx4a65c_size_8abf5 : GoodIn wsX2_lastWithoutCustody (wsV RX2 60 RJx4a65c yJx4a65c_size_8abf5 wsJx4a65c_size_8abf5) := goodIn_app (goodIn_of _ (by decide +kernel)) ggX2_lastWithoutCustody_Jx4a65c_size_8abf5
set_option maxRecDepth 20000 in
theorem ggX2_lastWithoutCustody_Jx4a65c_get_915e3 : GoodIn wsX2_lastWithoutCustody wsJx4a65c_get_915e3 := goodIn_r _ [13, 9, 14, 15, 16, 17, 18, 19, 20, 21, 22, 23, 24, 7, 25, 26, 51, 52, 53] (by decide +kernel) (by decide +kernel)
set_option maxRecDepth 20000 in
theorem gX2_lastWithoutCustody_Jx4a65c_get_915e3 : GoodIn wsX2_lastWithoutCustody (wsV RX2 122 RJx4a65c yJx4a65c_get_915e3 wsJx4a65c_get_915e3) := goodIn_app (goodIn_of _ (by decide +kernel)) ggX2_lastWithoutCustody_Jx4a65c_get_915e3
set_option maxRecDepth 20000 in
theorem ggX2_lastWithoutCustody_X0_isAt : GoodIn wsX2_lastWithoutCustody wsX0_isAt := goodIn_r _ [31, 32, 40, 41, 42, 43, 44, 45, 46, 47, 48, 49, 50] (by decide +kernel) (by decide +kernel)
set_option maxRecDepth 20000 in
theorem gX2_lastWithoutCustody_X0_isAt : GoodIn wsX2_lastWithoutCustody (wsV RX2 160 RX0 yX0_isAt wsX0_isAt) := goodIn_app (goodIn_of _ (by decide +kernel)) ggX2_lastWithoutCustody_X0_isAt
theorem dX2_lastWithoutCustody_0 : decode cX2_lastWithoutCustody 0 = .ok (.aconst_null, 1) := by decide +kernel
theorem dX2_lastWithoutCustody_1 : decode cX2_lastWithoutCustody 1 = .ok (.astore_n 2, 1) := by decide +kernel
theorem dX2_lastWithoutCustody_2 : decode cX2_lastWithoutCustody 2 = .ok (.iconst 0, 1) := by decide +kernel
theorem dX2_lastWithoutCustody_3 : decode cX2_lastWithoutCustody 3 = .ok (.istore_n 3, 1) := by decide +kernel
theorem dX2_lastWithoutCustody_4 : decode cX2_lastWithoutCustody 4 = .ok (.iload_n 3, 1) := by decide +kernel
theorem dX2_lastWithoutCustody_5 : decode cX2_lastWithoutCustody 5 = .ok (.aload_n 0, 1) := by decide +kernel
theorem dX2_lastWithoutCustody_6 : decode cX2_lastWithoutCustody 6 = .ok (.getfield 30, 3) := by decide +kernel
theorem dX2_lastWithoutCustody_9 : decode cX2_lastWithoutCustody 9 = .ok (.invokevirtual 60, 3) := by decide +kernel
theorem dX2_lastWithoutCustody_12 : decode cX2_lastWithoutCustody 12 = .ok (.if_icmp .ge 43, 3) := by decide +kernel
theorem dX2_lastWithoutCustody_15 : decode cX2_lastWithoutCustody 15 = .ok (.aload_n 0, 1) := by decide +kernel
theorem dX2_lastWithoutCustody_16 : decode cX2_lastWithoutCustody 16 = .ok (.getfield 30, 3) := by decide +kernel
theorem dX2_lastWithoutCustody_19 : decode cX2_lastWithoutCustody 19 = .ok (.iload_n 3, 1) := by decide +kernel
theorem dX2_lastWithoutCustody_20 : decode cX2_lastWithoutCustody 20 = .ok (.invokevirtual 122, 3) := by decide +kernel
theorem dX2_lastWithoutCustody_23 : decode cX2_lastWithoutCustody 23 = .ok (.checkcast 75, 3) := by decide +kernel
theorem dX2_lastWithoutCustody_26 : decode cX2_lastWithoutCustody 26 = .ok (.astore 4, 2) := by decide +kernel
theorem dX2_lastWithoutCustody_28 : decode cX2_lastWithoutCustody 28 = .ok (.aload 4, 2) := by decide +kernel
theorem dX2_lastWithoutCustody_30 : decode cX2_lastWithoutCustody 30 = .ok (.iload_n 1, 1) := by decide +kernel
theorem dX2_lastWithoutCustody_31 : decode cX2_lastWithoutCustody 31 = .ok (.invokevirtual 160, 3) := by decide +kernel
theorem dX2_lastWithoutCustody_34 : decode cX2_lastWithoutCustody 34 = .ok (.ifCond .eq 15, 3) := by decide +kernel
theorem dX2_lastWithoutCustody_37 : decode cX2_lastWithoutCustody 37 = .ok (.aload 4, 2) := by decide +kernel
theorem dX2_lastWithoutCustody_39 : decode cX2_lastWithoutCustody 39 = .ok (.getfield 80, 3) := by decide +kernel
theorem dX2_lastWithoutCustody_42 : decode cX2_lastWithoutCustody 42 = .ok (.iload_n 1, 1) := by decide +kernel
theorem dX2_lastWithoutCustody_43 : decode cX2_lastWithoutCustody 43 = .ok (.if_icmp .eq 6, 3) := by decide +kernel
theorem dX2_lastWithoutCustody_46 : decode cX2_lastWithoutCustody 46 = .ok (.aload 4, 2) := by decide +kernel
theorem dX2_lastWithoutCustody_48 : decode cX2_lastWithoutCustody 48 = .ok (.astore_n 2, 1) := by decide +kernel
theorem dX2_lastWithoutCustody_49 : decode cX2_lastWithoutCustody 49 = .ok (.iinc 3 1, 3) := by decide +kernel
theorem dX2_lastWithoutCustody_52 : decode cX2_lastWithoutCustody 52 = .ok (.goto (-48), 3) := by decide +kernel
theorem dX2_lastWithoutCustody_55 : decode cX2_lastWithoutCustody 55 = .ok (.aload_n 2, 1) := by decide +kernel
theorem dX2_lastWithoutCustody_56 : decode cX2_lastWithoutCustody 56 = .ok (.areturn, 1) := by decide +kernel
set_option maxRecDepth 20000 in
theorem ggX2_exchangeReceipts_Jx4a65c_size_8abf5 : GoodIn wsX2_exchangeReceipts wsJx4a65c_size_8abf5 := goodIn_r _ [8, 9, 62, 63, 64] (by decide +kernel) (by decide +kernel)
set_option maxRecDepth 20000 in
theorem gX2_exchangeReceipts_Jx4a65c_size_8abf5 : GoodIn wsX2_exchangeReceipts (wsV RX2 60 RJx4a65c yJx4a65c_size_8abf5 wsJx4a65c_size_8abf5) := goodIn_app (goodIn_of _ (by decide +kernel)) ggX2_exchangeReceipts_Jx4a65c_size_8abf5
set_option maxRecDepth 20000 in
theorem ggX2_exchangeReceipts_Jx4a65c_get_915e3 : GoodIn wsX2_exchangeReceipts wsJx4a65c_get_915e3 := goodIn_r _ [13, 9, 14, 15, 16, 17, 18, 19, 20, 21, 22, 23, 24, 7, 25, 26, 62, 63, 64] (by decide +kernel) (by decide +kernel)
set_option maxRecDepth 20000 in
theorem gX2_exchangeReceipts_Jx4a65c_get_915e3 : GoodIn wsX2_exchangeReceipts (wsV RX2 122 RJx4a65c yJx4a65c_get_915e3 wsJx4a65c_get_915e3) := goodIn_app (goodIn_of _ (by decide +kernel)) ggX2_exchangeReceipts_Jx4a65c_get_915e3
set_option maxRecDepth 20000 in
theorem ggX2_exchangeReceipts_X0_learn : GoodIn wsX2_exchangeReceipts wsX0_learn := goodIn_r _ [31, 32, 33, 34, 35, 36, 30, 37, 38, 39, 40, 41, 42, 43, 51, 52, 53, 54, 55, 56, 57, 58, 59, 60, 61] (by decide +kernel) (by decide +kernel)
set_option maxRecDepth 20000 in
theorem gX2_exchangeReceipts_X0_learn : GoodIn wsX2_exchangeReceipts (wsV RX2 210 RX0 yX0_learn wsX0_learn) := goodIn_app (goodIn_of _ (by decide +kernel)) ggX2_exchangeReceipts_X0_learn
theorem dX2_exchangeReceipts_0 : decode cX2_exchangeReceipts 0 = .ok (.iconst 0, 1) := by decide +kernel
theorem dX2_exchangeReceipts_1 : decode cX2_exchangeReceipts 1 = .ok (.istore_n 3, 1) := by decide +kernel
theorem dX2_exchangeReceipts_2 : decode cX2_exchangeReceipts 2 = .ok (.iload_n 3, 1) := by decide +kernel
theorem dX2_exchangeReceipts_3 : decode cX2_exchangeReceipts 3 = .ok (.aload_n 0, 1) := by decide +kernel
theorem dX2_exchangeReceipts_4 : decode cX2_exchangeReceipts 4 = .ok (.getfield 26, 3) := by decide +kernel
theorem dX2_exchangeReceipts_7 : decode cX2_exchangeReceipts 7 = .ok (.invokevirtual 60, 3) := by decide +kernel
theorem dX2_exchangeReceipts_10 : decode cX2_exchangeReceipts 10 = .ok (.if_icmp .ge 54, 3) := by decide +kernel
theorem dX2_exchangeReceipts_13 : decode cX2_exchangeReceipts 13 = .ok (.aload_n 0, 1) := by decide +kernel
theorem dX2_exchangeReceipts_14 : decode cX2_exchangeReceipts 14 = .ok (.getfield 26, 3) := by decide +kernel
theorem dX2_exchangeReceipts_17 : decode cX2_exchangeReceipts 17 = .ok (.iload_n 3, 1) := by decide +kernel
theorem dX2_exchangeReceipts_18 : decode cX2_exchangeReceipts 18 = .ok (.invokevirtual 122, 3) := by decide +kernel
theorem dX2_exchangeReceipts_21 : decode cX2_exchangeReceipts 21 = .ok (.checkcast 75, 3) := by decide +kernel
theorem dX2_exchangeReceipts_24 : decode cX2_exchangeReceipts 24 = .ok (.astore 4, 2) := by decide +kernel
theorem dX2_exchangeReceipts_26 : decode cX2_exchangeReceipts 26 = .ok (.aload 4, 2) := by decide +kernel
theorem dX2_exchangeReceipts_28 : decode cX2_exchangeReceipts 28 = .ok (.getfield 170, 3) := by decide +kernel
theorem dX2_exchangeReceipts_31 : decode cX2_exchangeReceipts 31 = .ok (.iload_n 1, 1) := by decide +kernel
theorem dX2_exchangeReceipts_32 : decode cX2_exchangeReceipts 32 = .ok (.baload, 1) := by decide +kernel
theorem dX2_exchangeReceipts_33 : decode cX2_exchangeReceipts 33 = .ok (.ifCond .ne 13, 3) := by decide +kernel
theorem dX2_exchangeReceipts_36 : decode cX2_exchangeReceipts 36 = .ok (.aload 4, 2) := by decide +kernel
theorem dX2_exchangeReceipts_38 : decode cX2_exchangeReceipts 38 = .ok (.getfield 170, 3) := by decide +kernel
theorem dX2_exchangeReceipts_41 : decode cX2_exchangeReceipts 41 = .ok (.iload_n 2, 1) := by decide +kernel
theorem dX2_exchangeReceipts_42 : decode cX2_exchangeReceipts 42 = .ok (.baload, 1) := by decide +kernel
theorem dX2_exchangeReceipts_43 : decode cX2_exchangeReceipts 43 = .ok (.ifCond .eq 15, 3) := by decide +kernel
theorem dX2_exchangeReceipts_46 : decode cX2_exchangeReceipts 46 = .ok (.aload 4, 2) := by decide +kernel
theorem dX2_exchangeReceipts_48 : decode cX2_exchangeReceipts 48 = .ok (.iload_n 1, 1) := by decide +kernel
theorem dX2_exchangeReceipts_49 : decode cX2_exchangeReceipts 49 = .ok (.invokevirtual 210, 3) := by decide +kernel
theorem dX2_exchangeReceipts_52 : decode cX2_exchangeReceipts 52 = .ok (.aload 4, 2) := by decide +kernel
theorem dX2_exchangeReceipts_54 : decode cX2_exchangeReceipts 54 = .ok (.iload_n 2, 1) := by decide +kernel
theorem dX2_exchangeReceipts_55 : decode cX2_exchangeReceipts 55 = .ok (.invokevirtual 210, 3) := by decide +kernel
theorem dX2_exchangeReceipts_58 : decode cX2_exchangeReceipts 58 = .ok (.iinc 3 1, 3) := by decide +kernel
theorem dX2_exchangeReceipts_61 : decode cX2_exchangeReceipts 61 = .ok (.goto (-59), 3) := by decide +kernel
theorem dX2_exchangeReceipts_64 : decode cX2_exchangeReceipts 64 = .ok (.return_, 1) := by decide +kernel
set_option maxRecDepth 20000 in
theorem ggX2_findSprays_Jx4a65c_size_8abf5 : GoodIn wsX2_findSprays wsJx4a65c_size_8abf5 := goodIn_r _ [8, 9, 56, 57, 58] (by decide +kernel) (by decide +kernel)
set_option maxRecDepth 20000 in
theorem gX2_findSprays_Jx4a65c_size_8abf5 : GoodIn wsX2_findSprays (wsV RX2 60 RJx4a65c yJx4a65c_size_8abf5 wsJx4a65c_size_8abf5) := goodIn_app (goodIn_of _ (by decide +kernel)) ggX2_findSprays_Jx4a65c_size_8abf5
set_option maxRecDepth 20000 in
theorem ggX2_findSprays_Jx4a65c_get_915e3 : GoodIn wsX2_findSprays wsJx4a65c_get_915e3 := goodIn_r _ [13, 9, 14, 15, 16, 17, 18, 19, 20, 21, 22, 23, 24, 7, 25, 26, 56, 57, 58] (by decide +kernel) (by decide +kernel)
set_option maxRecDepth 20000 in
theorem gX2_findSprays_Jx4a65c_get_915e3 : GoodIn wsX2_findSprays (wsV RX2 122 RJx4a65c yJx4a65c_get_915e3 wsJx4a65c_get_915e3) := goodIn_app (goodIn_of _ (by decide +kernel)) ggX2_findSprays_Jx4a65c_get_915e3
set_option maxRecDepth 20000 in
theorem ggX2_findSprays_X0_canSpray : GoodIn wsX2_findSprays wsX0_canSpray := goodIn_r _ [31, 32, 33, 34, 35, 36, 30, 37, 45, 46, 47, 48, 49, 50, 51, 52, 53, 54, 55] (by decide +kernel) (by decide +kernel)
set_option maxRecDepth 20000 in
theorem gX2_findSprays_X0_canSpray : GoodIn wsX2_findSprays (wsV RX2 216 RX0 yX0_canSpray wsX0_canSpray) := goodIn_app (goodIn_of _ (by decide +kernel)) ggX2_findSprays_X0_canSpray
theorem dX2_findSprays_0 : decode cX2_findSprays 0 = .ok (.iconst 0, 1) := by decide +kernel
theorem dX2_findSprays_1 : decode cX2_findSprays 1 = .ok (.istore_n 3, 1) := by decide +kernel
theorem dX2_findSprays_2 : decode cX2_findSprays 2 = .ok (.iload_n 3, 1) := by decide +kernel
theorem dX2_findSprays_3 : decode cX2_findSprays 3 = .ok (.aload_n 0, 1) := by decide +kernel
theorem dX2_findSprays_4 : decode cX2_findSprays 4 = .ok (.getfield 26, 3) := by decide +kernel
theorem dX2_findSprays_7 : decode cX2_findSprays 7 = .ok (.invokevirtual 60, 3) := by decide +kernel
theorem dX2_findSprays_10 : decode cX2_findSprays 10 = .ok (.if_icmp .ge 63, 3) := by decide +kernel
theorem dX2_findSprays_13 : decode cX2_findSprays 13 = .ok (.aload_n 0, 1) := by decide +kernel
theorem dX2_findSprays_14 : decode cX2_findSprays 14 = .ok (.getfield 26, 3) := by decide +kernel
theorem dX2_findSprays_17 : decode cX2_findSprays 17 = .ok (.iload_n 3, 1) := by decide +kernel
theorem dX2_findSprays_18 : decode cX2_findSprays 18 = .ok (.invokevirtual 122, 3) := by decide +kernel
theorem dX2_findSprays_21 : decode cX2_findSprays 21 = .ok (.checkcast 75, 3) := by decide +kernel
theorem dX2_findSprays_24 : decode cX2_findSprays 24 = .ok (.astore 4, 2) := by decide +kernel
theorem dX2_findSprays_26 : decode cX2_findSprays 26 = .ok (.aload 4, 2) := by decide +kernel
theorem dX2_findSprays_28 : decode cX2_findSprays 28 = .ok (.iconst (-1), 1) := by decide +kernel
theorem dX2_findSprays_29 : decode cX2_findSprays 29 = .ok (.putfield 213, 3) := by decide +kernel
theorem dX2_findSprays_32 : decode cX2_findSprays 32 = .ok (.aload 4, 2) := by decide +kernel
theorem dX2_findSprays_34 : decode cX2_findSprays 34 = .ok (.iload_n 1, 1) := by decide +kernel
theorem dX2_findSprays_35 : decode cX2_findSprays 35 = .ok (.iload_n 2, 1) := by decide +kernel
theorem dX2_findSprays_36 : decode cX2_findSprays 36 = .ok (.invokevirtual 216, 3) := by decide +kernel
theorem dX2_findSprays_39 : decode cX2_findSprays 39 = .ok (.ifCond .eq 12, 3) := by decide +kernel
theorem dX2_findSprays_42 : decode cX2_findSprays 42 = .ok (.aload 4, 2) := by decide +kernel
theorem dX2_findSprays_44 : decode cX2_findSprays 44 = .ok (.iload_n 1, 1) := by decide +kernel
theorem dX2_findSprays_45 : decode cX2_findSprays 45 = .ok (.putfield 213, 3) := by decide +kernel
theorem dX2_findSprays_48 : decode cX2_findSprays 48 = .ok (.goto 19, 3) := by decide +kernel
theorem dX2_findSprays_51 : decode cX2_findSprays 51 = .ok (.aload 4, 2) := by decide +kernel
theorem dX2_findSprays_53 : decode cX2_findSprays 53 = .ok (.iload_n 2, 1) := by decide +kernel
theorem dX2_findSprays_54 : decode cX2_findSprays 54 = .ok (.iload_n 1, 1) := by decide +kernel
theorem dX2_findSprays_55 : decode cX2_findSprays 55 = .ok (.invokevirtual 216, 3) := by decide +kernel
theorem dX2_findSprays_58 : decode cX2_findSprays 58 = .ok (.ifCond .eq 9, 3) := by decide +kernel
theorem dX2_findSprays_61 : decode cX2_findSprays 61 = .ok (.aload 4, 2) := by decide +kernel
theorem dX2_findSprays_63 : decode cX2_findSprays 63 = .ok (.iload_n 2, 1) := by decide +kernel
theorem dX2_findSprays_64 : decode cX2_findSprays 64 = .ok (.putfield 213, 3) := by decide +kernel
theorem dX2_findSprays_67 : decode cX2_findSprays 67 = .ok (.iinc 3 1, 3) := by decide +kernel
theorem dX2_findSprays_70 : decode cX2_findSprays 70 = .ok (.goto (-68), 3) := by decide +kernel
theorem dX2_findSprays_73 : decode cX2_findSprays 73 = .ok (.return_, 1) := by decide +kernel
set_option maxRecDepth 20000 in
theorem ggX2_deliverSome_Jx4a65c_size_8abf5 : GoodIn wsX2_deliverSome wsJx4a65c_size_8abf5 := goodIn_r _ [8, 9, 66, 67, 68] (by decide +kernel) (by decide +kernel)
set_option maxRecDepth 20000 in
theorem gX2_deliverSome_Jx4a65c_size_8abf5 : GoodIn wsX2_deliverSome (wsV RX2 60 RJx4a65c yJx4a65c_size_8abf5 wsJx4a65c_size_8abf5) := goodIn_app (goodIn_of _ (by decide +kernel)) ggX2_deliverSome_Jx4a65c_size_8abf5
set_option maxRecDepth 20000 in
theorem ggX2_deliverSome_Jx4a65c_get_915e3 : GoodIn wsX2_deliverSome wsJx4a65c_get_915e3 := goodIn_r _ [13, 9, 14, 15, 16, 17, 18, 19, 20, 21, 22, 23, 24, 7, 25, 26, 66, 67, 68] (by decide +kernel) (by decide +kernel)
set_option maxRecDepth 20000 in
theorem gX2_deliverSome_Jx4a65c_get_915e3 : GoodIn wsX2_deliverSome (wsV RX2 122 RJx4a65c yJx4a65c_get_915e3 wsJx4a65c_get_915e3) := goodIn_app (goodIn_of _ (by decide +kernel)) ggX2_deliverSome_Jx4a65c_get_915e3
set_option maxRecDepth 20000 in
theorem ggX2_deliverSome_X0_canDeliver : GoodIn wsX2_deliverSome wsX0_canDeliver := goodIn_r _ [31, 32, 33, 34, 35, 30, 36, 37, 69, 70, 71, 72, 73, 74, 75, 76, 77, 78, 79] (by decide +kernel) (by decide +kernel)
set_option maxRecDepth 20000 in
theorem gX2_deliverSome_X0_canDeliver : GoodIn wsX2_deliverSome (wsV RX2 219 RX0 yX0_canDeliver wsX0_canDeliver) := goodIn_app (goodIn_of _ (by decide +kernel)) ggX2_deliverSome_X0_canDeliver
set_option maxRecDepth 20000 in
theorem ggX2_deliverSome_X0_deliver : GoodIn wsX2_deliverSome wsX0_deliver := goodIn_r _ [41, 42, 43, 44, 32, 45, 46, 47, 30, 48, 49, 50, 51, 52, 53, 54, 55, 56, 57, 58, 37, 69, 70, 71, 72, 73, 74, 75, 76, 77, 78, 79] (by decide +kernel) (by decide +kernel)
set_option maxRecDepth 20000 in
theorem gX2_deliverSome_X0_deliver : GoodIn wsX2_deliverSome (wsV RX2 222 RX0 yX0_deliver wsX0_deliver) := goodIn_app (goodIn_of _ (by decide +kernel)) ggX2_deliverSome_X0_deliver
theorem dX2_deliverSome_0 : decode cX2_deliverSome 0 = .ok (.iconst 0, 1) := by decide +kernel
theorem dX2_deliverSome_1 : decode cX2_deliverSome 1 = .ok (.istore 4, 2) := by decide +kernel
theorem dX2_deliverSome_3 : decode cX2_deliverSome 3 = .ok (.iconst 0, 1) := by decide +kernel
theorem dX2_deliverSome_4 : decode cX2_deliverSome 4 = .ok (.istore 5, 2) := by decide +kernel
theorem dX2_deliverSome_6 : decode cX2_deliverSome 6 = .ok (.iload 5, 2) := by decide +kernel
theorem dX2_deliverSome_8 : decode cX2_deliverSome 8 = .ok (.aload_n 0, 1) := by decide +kernel
theorem dX2_deliverSome_9 : decode cX2_deliverSome 9 = .ok (.getfield 30, 3) := by decide +kernel
theorem dX2_deliverSome_12 : decode cX2_deliverSome 12 = .ok (.invokevirtual 60, 3) := by decide +kernel
theorem dX2_deliverSome_15 : decode cX2_deliverSome 15 = .ok (.if_icmp .ge 78, 3) := by decide +kernel
theorem dX2_deliverSome_18 : decode cX2_deliverSome 18 = .ok (.iload 4, 2) := by decide +kernel
theorem dX2_deliverSome_20 : decode cX2_deliverSome 20 = .ok (.iload_n 3, 1) := by decide +kernel
theorem dX2_deliverSome_21 : decode cX2_deliverSome 21 = .ok (.if_icmp .ge 72, 3) := by decide +kernel
theorem dX2_deliverSome_24 : decode cX2_deliverSome 24 = .ok (.aload_n 0, 1) := by decide +kernel
theorem dX2_deliverSome_25 : decode cX2_deliverSome 25 = .ok (.getfield 30, 3) := by decide +kernel
theorem dX2_deliverSome_28 : decode cX2_deliverSome 28 = .ok (.iload 5, 2) := by decide +kernel
theorem dX2_deliverSome_30 : decode cX2_deliverSome 30 = .ok (.invokevirtual 122, 3) := by decide +kernel
theorem dX2_deliverSome_33 : decode cX2_deliverSome 33 = .ok (.checkcast 75, 3) := by decide +kernel
theorem dX2_deliverSome_36 : decode cX2_deliverSome 36 = .ok (.astore 6, 2) := by decide +kernel
theorem dX2_deliverSome_38 : decode cX2_deliverSome 38 = .ok (.aload 6, 2) := by decide +kernel
theorem dX2_deliverSome_40 : decode cX2_deliverSome 40 = .ok (.iload_n 1, 1) := by decide +kernel
theorem dX2_deliverSome_41 : decode cX2_deliverSome 41 = .ok (.iload_n 2, 1) := by decide +kernel
theorem dX2_deliverSome_42 : decode cX2_deliverSome 42 = .ok (.invokevirtual 219, 3) := by decide +kernel
theorem dX2_deliverSome_45 : decode cX2_deliverSome 45 = .ok (.ifCond .eq 19, 3) := by decide +kernel
theorem dX2_deliverSome_48 : decode cX2_deliverSome 48 = .ok (.aload 6, 2) := by decide +kernel
theorem dX2_deliverSome_50 : decode cX2_deliverSome 50 = .ok (.iload_n 1, 1) := by decide +kernel
theorem dX2_deliverSome_51 : decode cX2_deliverSome 51 = .ok (.aload_n 0, 1) := by decide +kernel
theorem dX2_deliverSome_52 : decode cX2_deliverSome 52 = .ok (.getfield 7, 3) := by decide +kernel
theorem dX2_deliverSome_55 : decode cX2_deliverSome 55 = .ok (.invokevirtual 222, 3) := by decide +kernel
theorem dX2_deliverSome_58 : decode cX2_deliverSome 58 = .ok (.iinc 4 1, 3) := by decide +kernel
theorem dX2_deliverSome_61 : decode cX2_deliverSome 61 = .ok (.goto 26, 3) := by decide +kernel
theorem dX2_deliverSome_64 : decode cX2_deliverSome 64 = .ok (.aload 6, 2) := by decide +kernel
theorem dX2_deliverSome_66 : decode cX2_deliverSome 66 = .ok (.iload_n 2, 1) := by decide +kernel
theorem dX2_deliverSome_67 : decode cX2_deliverSome 67 = .ok (.iload_n 1, 1) := by decide +kernel
theorem dX2_deliverSome_68 : decode cX2_deliverSome 68 = .ok (.invokevirtual 219, 3) := by decide +kernel
theorem dX2_deliverSome_71 : decode cX2_deliverSome 71 = .ok (.ifCond .eq 16, 3) := by decide +kernel
theorem dX2_deliverSome_74 : decode cX2_deliverSome 74 = .ok (.aload 6, 2) := by decide +kernel
theorem dX2_deliverSome_76 : decode cX2_deliverSome 76 = .ok (.iload_n 2, 1) := by decide +kernel
theorem dX2_deliverSome_77 : decode cX2_deliverSome 77 = .ok (.aload_n 0, 1) := by decide +kernel
theorem dX2_deliverSome_78 : decode cX2_deliverSome 78 = .ok (.getfield 7, 3) := by decide +kernel
theorem dX2_deliverSome_81 : decode cX2_deliverSome 81 = .ok (.invokevirtual 222, 3) := by decide +kernel
theorem dX2_deliverSome_84 : decode cX2_deliverSome 84 = .ok (.iinc 4 1, 3) := by decide +kernel
theorem dX2_deliverSome_87 : decode cX2_deliverSome 87 = .ok (.iinc 5 1, 3) := by decide +kernel
theorem dX2_deliverSome_90 : decode cX2_deliverSome 90 = .ok (.goto (-84), 3) := by decide +kernel
theorem dX2_deliverSome_93 : decode cX2_deliverSome 93 = .ok (.iload 4, 2) := by decide +kernel
theorem dX2_deliverSome_95 : decode cX2_deliverSome 95 = .ok (.ireturn, 1) := by decide +kernel
set_option maxRecDepth 20000 in
theorem ggX2_spraySome_Jx4a65c_size_8abf5 : GoodIn wsX2_spraySome wsJx4a65c_size_8abf5 := goodIn_r _ [8, 9, 87, 88, 89] (by decide +kernel) (by decide +kernel)
set_option maxRecDepth 20000 in
theorem gX2_spraySome_Jx4a65c_size_8abf5 : GoodIn wsX2_spraySome (wsV RX2 60 RJx4a65c yJx4a65c_size_8abf5 wsJx4a65c_size_8abf5) := goodIn_app (goodIn_of _ (by decide +kernel)) ggX2_spraySome_Jx4a65c_size_8abf5
set_option maxRecDepth 20000 in
theorem ggX2_spraySome_Jx4a65c_get_915e3 : GoodIn wsX2_spraySome wsJx4a65c_get_915e3 := goodIn_r _ [13, 9, 14, 15, 16, 17, 18, 19, 20, 21, 22, 23, 24, 7, 25, 26, 87, 88, 89] (by decide +kernel) (by decide +kernel)
set_option maxRecDepth 20000 in
theorem gX2_spraySome_Jx4a65c_get_915e3 : GoodIn wsX2_spraySome (wsV RX2 122 RJx4a65c yJx4a65c_get_915e3 wsJx4a65c_get_915e3) := goodIn_app (goodIn_of _ (by decide +kernel)) ggX2_spraySome_Jx4a65c_get_915e3
set_option maxRecDepth 20000 in
theorem ggX2_spraySome_X2_spray : GoodIn wsX2_spraySome wsX2_spray := goodIn_r _ [31, 32, 33, 34, 35, 36, 37, 38, 39, 40, 41, 42, 30, 43, 44, 45, 46, 47, 48, 49, 50, 2, 4, 5, 6, 7, 8, 9, 10, 11, 12, 13, 14, 15, 16, 17, 18, 19, 20, 21, 22, 23, 24, 25, 26, 51, 52, 53, 54, 1, 55, 56, 57, 58, 59, 60, 61, 62, 63, 64, 65, 66, 67, 68, 76, 77, 78, 79, 80, 81, 82, 83, 84, 85, 86, 69, 70, 71, 72, 73, 74, 75, 87, 88, 89] (by decide +kernel) (by decide +kernel)
set_option maxRecDepth 20000 in
theorem gX2_spraySome_X2_spray : GoodIn wsX2_spraySome (wsV RX2 225 RX2 yX2_spray wsX2_spray) := goodIn_app (goodIn_of _ (by decide +kernel)) ggX2_spraySome_X2_spray
theorem dX2_spraySome_0 : decode cX2_spraySome 0 = .ok (.iconst 0, 1) := by decide +kernel
theorem dX2_spraySome_1 : decode cX2_spraySome 1 = .ok (.istore 4, 2) := by decide +kernel
theorem dX2_spraySome_3 : decode cX2_spraySome 3 = .ok (.iconst 0, 1) := by decide +kernel
theorem dX2_spraySome_4 : decode cX2_spraySome 4 = .ok (.istore 5, 2) := by decide +kernel
theorem dX2_spraySome_6 : decode cX2_spraySome 6 = .ok (.iload 5, 2) := by decide +kernel
theorem dX2_spraySome_8 : decode cX2_spraySome 8 = .ok (.aload_n 0, 1) := by decide +kernel
theorem dX2_spraySome_9 : decode cX2_spraySome 9 = .ok (.getfield 30, 3) := by decide +kernel
theorem dX2_spraySome_12 : decode cX2_spraySome 12 = .ok (.invokevirtual 60, 3) := by decide +kernel
theorem dX2_spraySome_15 : decode cX2_spraySome 15 = .ok (.if_icmp .ge 78, 3) := by decide +kernel
theorem dX2_spraySome_18 : decode cX2_spraySome 18 = .ok (.iload 4, 2) := by decide +kernel
theorem dX2_spraySome_20 : decode cX2_spraySome 20 = .ok (.iload_n 3, 1) := by decide +kernel
theorem dX2_spraySome_21 : decode cX2_spraySome 21 = .ok (.if_icmp .ge 72, 3) := by decide +kernel
theorem dX2_spraySome_24 : decode cX2_spraySome 24 = .ok (.aload_n 0, 1) := by decide +kernel
theorem dX2_spraySome_25 : decode cX2_spraySome 25 = .ok (.getfield 30, 3) := by decide +kernel
theorem dX2_spraySome_28 : decode cX2_spraySome 28 = .ok (.iload 5, 2) := by decide +kernel
theorem dX2_spraySome_30 : decode cX2_spraySome 30 = .ok (.invokevirtual 122, 3) := by decide +kernel
theorem dX2_spraySome_33 : decode cX2_spraySome 33 = .ok (.checkcast 75, 3) := by decide +kernel
theorem dX2_spraySome_36 : decode cX2_spraySome 36 = .ok (.astore 6, 2) := by decide +kernel
theorem dX2_spraySome_38 : decode cX2_spraySome 38 = .ok (.aload 6, 2) := by decide +kernel
theorem dX2_spraySome_40 : decode cX2_spraySome 40 = .ok (.getfield 213, 3) := by decide +kernel
theorem dX2_spraySome_43 : decode cX2_spraySome 43 = .ok (.iload_n 1, 1) := by decide +kernel
theorem dX2_spraySome_44 : decode cX2_spraySome 44 = .ok (.if_icmp .ne 20, 3) := by decide +kernel
theorem dX2_spraySome_47 : decode cX2_spraySome 47 = .ok (.aload_n 0, 1) := by decide +kernel
theorem dX2_spraySome_48 : decode cX2_spraySome 48 = .ok (.aload 6, 2) := by decide +kernel
theorem dX2_spraySome_50 : decode cX2_spraySome 50 = .ok (.iload_n 1, 1) := by decide +kernel
theorem dX2_spraySome_51 : decode cX2_spraySome 51 = .ok (.iload_n 2, 1) := by decide +kernel
theorem dX2_spraySome_52 : decode cX2_spraySome 52 = .ok (.invokevirtual 225, 3) := by decide +kernel
theorem dX2_spraySome_55 : decode cX2_spraySome 55 = .ok (.ifCond .eq 9, 3) := by decide +kernel
theorem dX2_spraySome_58 : decode cX2_spraySome 58 = .ok (.iinc 4 1, 3) := by decide +kernel
theorem dX2_spraySome_61 : decode cX2_spraySome 61 = .ok (.goto 26, 3) := by decide +kernel
theorem dX2_spraySome_64 : decode cX2_spraySome 64 = .ok (.aload 6, 2) := by decide +kernel
theorem dX2_spraySome_66 : decode cX2_spraySome 66 = .ok (.getfield 213, 3) := by decide +kernel
theorem dX2_spraySome_69 : decode cX2_spraySome 69 = .ok (.iload_n 2, 1) := by decide +kernel
theorem dX2_spraySome_70 : decode cX2_spraySome 70 = .ok (.if_icmp .ne 17, 3) := by decide +kernel
theorem dX2_spraySome_73 : decode cX2_spraySome 73 = .ok (.aload_n 0, 1) := by decide +kernel
theorem dX2_spraySome_74 : decode cX2_spraySome 74 = .ok (.aload 6, 2) := by decide +kernel
theorem dX2_spraySome_76 : decode cX2_spraySome 76 = .ok (.iload_n 2, 1) := by decide +kernel
theorem dX2_spraySome_77 : decode cX2_spraySome 77 = .ok (.iload_n 1, 1) := by decide +kernel
theorem dX2_spraySome_78 : decode cX2_spraySome 78 = .ok (.invokevirtual 225, 3) := by decide +kernel
theorem dX2_spraySome_81 : decode cX2_spraySome 81 = .ok (.ifCond .eq 6, 3) := by decide +kernel
theorem dX2_spraySome_84 : decode cX2_spraySome 84 = .ok (.iinc 4 1, 3) := by decide +kernel
theorem dX2_spraySome_87 : decode cX2_spraySome 87 = .ok (.iinc 5 1, 3) := by decide +kernel
theorem dX2_spraySome_90 : decode cX2_spraySome 90 = .ok (.goto (-84), 3) := by decide +kernel
theorem dX2_spraySome_93 : decode cX2_spraySome 93 = .ok (.iload 4, 2) := by decide +kernel
theorem dX2_spraySome_95 : decode cX2_spraySome 95 = .ok (.ireturn, 1) := by decide +kernel
set_option maxRecDepth 20000 in
theorem ggX2_spray_X0_isAt : GoodIn wsX2_spray wsX0_isAt := goodIn_r _ [7, 8, 64, 65, 66, 67, 68, 69, 70, 71, 72, 73, 74] (by decide +kernel) (by decide +kernel)
set_option maxRecDepth 20000 in
theorem gX2_spray_X0_isAt : GoodIn wsX2_spray (wsV RX2 160 RX0 yX0_isAt wsX0_isAt) := goodIn_app (goodIn_of _ (by decide +kernel)) ggX2_spray_X0_isAt
set_option maxRecDepth 20000 in
theorem ggX2_spray_X2_makeRoom : GoodIn wsX2_spray wsX2_makeRoom := goodIn_r _ [13, 14, 1, 15, 16, 17, 18, 12, 19, 20, 21, 22, 23, 24, 25, 26, 27, 28, 29, 30, 31, 32, 33, 34, 35, 36, 37, 38, 39, 40, 41, 42, 43, 44, 3, 4, 5, 6, 7, 8, 45, 46, 47, 48, 49, 50, 51, 52, 53, 54, 55, 56, 57, 58, 59, 75, 76, 77, 78, 79, 80, 81, 64, 65, 66, 67, 68, 69, 70, 71, 72, 73, 74, 82, 83, 84] (by decide +kernel) (by decide +kernel)
set_option maxRecDepth 20000 in
theorem gX2_spray_X2_makeRoom : GoodIn wsX2_spray (wsV RX2 69 RX2 yX2_makeRoom wsX2_makeRoom) := goodIn_app (goodIn_of _ (by decide +kernel)) ggX2_spray_X2_makeRoom
set_option maxRecDepth 20000 in
theorem ggX2_spray_X0_halve : GoodIn wsX2_spray wsX0_halve := goodIn_r _ [63, 8, 59, 55, 56, 57, 6, 58, 64, 65, 66, 67, 68, 69, 70, 71, 72, 73, 74] (by decide +kernel) (by decide +kernel)
set_option maxRecDepth 20000 in
theorem gX2_spray_X0_halve : GoodIn wsX2_spray (wsV RX2 229 RX0 yX0_halve wsX0_halve) := goodIn_app (goodIn_of _ (by decide +kernel)) ggX2_spray_X0_halve
theorem dX2_spray_0 : decode cX2_spray 0 = .ok (.aload_n 1, 1) := by decide +kernel
theorem dX2_spray_1 : decode cX2_spray 1 = .ok (.iload_n 2, 1) := by decide +kernel
theorem dX2_spray_2 : decode cX2_spray 2 = .ok (.invokevirtual 160, 3) := by decide +kernel
theorem dX2_spray_5 : decode cX2_spray 5 = .ok (.ifCond .ne 5, 3) := by decide +kernel
theorem dX2_spray_8 : decode cX2_spray 8 = .ok (.iconst 0, 1) := by decide +kernel
theorem dX2_spray_9 : decode cX2_spray 9 = .ok (.ireturn, 1) := by decide +kernel
theorem dX2_spray_10 : decode cX2_spray 10 = .ok (.aload_n 0, 1) := by decide +kernel
theorem dX2_spray_11 : decode cX2_spray 11 = .ok (.iload_n 3, 1) := by decide +kernel
theorem dX2_spray_12 : decode cX2_spray 12 = .ok (.aload_n 1, 1) := by decide +kernel
theorem dX2_spray_13 : decode cX2_spray 13 = .ok (.getfield 204, 3) := by decide +kernel
theorem dX2_spray_16 : decode cX2_spray 16 = .ok (.invokevirtual 69, 3) := by decide +kernel
theorem dX2_spray_19 : decode cX2_spray 19 = .ok (.ifCond .ne 15, 3) := by decide +kernel
theorem dX2_spray_22 : decode cX2_spray 22 = .ok (.aload_n 0, 1) := by decide +kernel
theorem dX2_spray_23 : decode cX2_spray 23 = .ok (.getfield 20, 3) := by decide +kernel
theorem dX2_spray_26 : decode cX2_spray 26 = .ok (.iload_n 3, 1) := by decide +kernel
theorem dX2_spray_27 : decode cX2_spray 27 = .ok (.dup2, 1) := by decide +kernel
theorem dX2_spray_28 : decode cX2_spray 28 = .ok (.iaload, 1) := by decide +kernel
theorem dX2_spray_29 : decode cX2_spray 29 = .ok (.iconst 1, 1) := by decide +kernel
theorem dX2_spray_30 : decode cX2_spray 30 = .ok (.iadd, 1) := by decide +kernel
theorem dX2_spray_31 : decode cX2_spray 31 = .ok (.iastore, 1) := by decide +kernel
theorem dX2_spray_32 : decode cX2_spray 32 = .ok (.iconst 0, 1) := by decide +kernel
theorem dX2_spray_33 : decode cX2_spray 33 = .ok (.ireturn, 1) := by decide +kernel
theorem dX2_spray_34 : decode cX2_spray 34 = .ok (.aload_n 1, 1) := by decide +kernel
theorem dX2_spray_35 : decode cX2_spray 35 = .ok (.iload_n 2, 1) := by decide +kernel
theorem dX2_spray_36 : decode cX2_spray 36 = .ok (.iload_n 3, 1) := by decide +kernel
theorem dX2_spray_37 : decode cX2_spray 37 = .ok (.invokevirtual 229, 3) := by decide +kernel
theorem dX2_spray_40 : decode cX2_spray 40 = .ok (.iconst 1, 1) := by decide +kernel
theorem dX2_spray_41 : decode cX2_spray 41 = .ok (.ireturn, 1) := by decide +kernel
set_option maxRecDepth 20000 in
theorem ggX2_moveCustody_Jx4a65c_size_8abf5 : GoodIn wsX2_moveCustody wsJx4a65c_size_8abf5 := goodIn_r _ [8, 9, 92, 93, 94] (by decide +kernel) (by decide +kernel)
set_option maxRecDepth 20000 in
theorem gX2_moveCustody_Jx4a65c_size_8abf5 : GoodIn wsX2_moveCustody (wsV RX2 60 RJx4a65c yJx4a65c_size_8abf5 wsJx4a65c_size_8abf5) := goodIn_app (goodIn_of _ (by decide +kernel)) ggX2_moveCustody_Jx4a65c_size_8abf5
set_option maxRecDepth 20000 in
theorem ggX2_moveCustody_Jx4a65c_get_915e3 : GoodIn wsX2_moveCustody wsJx4a65c_get_915e3 := goodIn_r _ [13, 9, 14, 15, 16, 17, 18, 19, 20, 21, 22, 23, 24, 7, 25, 26, 92, 93, 94] (by decide +kernel) (by decide +kernel)
set_option maxRecDepth 20000 in
theorem gX2_moveCustody_Jx4a65c_get_915e3 : GoodIn wsX2_moveCustody (wsV RX2 122 RJx4a65c yJx4a65c_get_915e3 wsJx4a65c_get_915e3) := goodIn_app (goodIn_of _ (by decide +kernel)) ggX2_moveCustody_Jx4a65c_get_915e3
set_option maxRecDepth 20000 in
theorem ggX2_moveCustody_X0_isAt : GoodIn wsX2_moveCustody wsX0_isAt := goodIn_r _ [31, 32, 81, 82, 83, 84, 85, 86, 87, 88, 89, 90, 91] (by decide +kernel) (by decide +kernel)
set_option maxRecDepth 20000 in
theorem gX2_moveCustody_X0_isAt : GoodIn wsX2_moveCustody (wsV RX2 160 RX0 yX0_isAt wsX0_isAt) := goodIn_app (goodIn_of _ (by decide +kernel)) ggX2_moveCustody_X0_isAt
set_option maxRecDepth 20000 in
theorem ggX2_moveCustody_X2_moveCustodyIfNearer : GoodIn wsX2_moveCustody wsX2_moveCustodyIfNearer := goodIn_r _ [37, 38, 39, 40, 3, 41, 42, 43, 44, 45, 46, 47, 48, 49, 50, 51, 52, 53, 54, 55, 56, 57, 58, 59, 60, 61, 62, 63, 64, 65, 66, 67, 68, 69, 70, 71, 72, 73, 74, 75, 76, 77, 78, 79, 80, 81, 82, 83, 84, 85, 86, 87, 88, 89, 90, 91, 95, 96, 97, 98, 99, 100, 101] (by decide +kernel) (by decide +kernel)
set_option maxRecDepth 20000 in
theorem gX2_moveCustody_X2_moveCustodyIfNearer : GoodIn wsX2_moveCustody (wsV RX2 232 RX2 yX2_moveCustodyIfNearer wsX2_moveCustodyIfNearer) := goodIn_app (goodIn_of _ (by decide +kernel)) ggX2_moveCustody_X2_moveCustodyIfNearer
theorem dX2_moveCustody_0 : decode cX2_moveCustody 0 = .ok (.iconst 0, 1) := by decide +kernel
theorem dX2_moveCustody_1 : decode cX2_moveCustody 1 = .ok (.istore_n 3, 1) := by decide +kernel
theorem dX2_moveCustody_2 : decode cX2_moveCustody 2 = .ok (.iload_n 3, 1) := by decide +kernel
theorem dX2_moveCustody_3 : decode cX2_moveCustody 3 = .ok (.aload_n 0, 1) := by decide +kernel
theorem dX2_moveCustody_4 : decode cX2_moveCustody 4 = .ok (.getfield 26, 3) := by decide +kernel
theorem dX2_moveCustody_7 : decode cX2_moveCustody 7 = .ok (.invokevirtual 60, 3) := by decide +kernel
theorem dX2_moveCustody_10 : decode cX2_moveCustody 10 = .ok (.if_icmp .ge 77, 3) := by decide +kernel
theorem dX2_moveCustody_13 : decode cX2_moveCustody 13 = .ok (.aload_n 0, 1) := by decide +kernel
theorem dX2_moveCustody_14 : decode cX2_moveCustody 14 = .ok (.getfield 26, 3) := by decide +kernel
theorem dX2_moveCustody_17 : decode cX2_moveCustody 17 = .ok (.iload_n 3, 1) := by decide +kernel
theorem dX2_moveCustody_18 : decode cX2_moveCustody 18 = .ok (.invokevirtual 122, 3) := by decide +kernel
theorem dX2_moveCustody_21 : decode cX2_moveCustody 21 = .ok (.checkcast 75, 3) := by decide +kernel
theorem dX2_moveCustody_24 : decode cX2_moveCustody 24 = .ok (.astore 4, 2) := by decide +kernel
theorem dX2_moveCustody_26 : decode cX2_moveCustody 26 = .ok (.aload 4, 2) := by decide +kernel
theorem dX2_moveCustody_28 : decode cX2_moveCustody 28 = .ok (.iload_n 1, 1) := by decide +kernel
theorem dX2_moveCustody_29 : decode cX2_moveCustody 29 = .ok (.invokevirtual 160, 3) := by decide +kernel
theorem dX2_moveCustody_32 : decode cX2_moveCustody 32 = .ok (.ifCond .eq 49, 3) := by decide +kernel
theorem dX2_moveCustody_35 : decode cX2_moveCustody 35 = .ok (.aload 4, 2) := by decide +kernel
theorem dX2_moveCustody_37 : decode cX2_moveCustody 37 = .ok (.iload_n 2, 1) := by decide +kernel
theorem dX2_moveCustody_38 : decode cX2_moveCustody 38 = .ok (.invokevirtual 160, 3) := by decide +kernel
theorem dX2_moveCustody_41 : decode cX2_moveCustody 41 = .ok (.ifCond .eq 40, 3) := by decide +kernel
theorem dX2_moveCustody_44 : decode cX2_moveCustody 44 = .ok (.aload 4, 2) := by decide +kernel
theorem dX2_moveCustody_46 : decode cX2_moveCustody 46 = .ok (.getfield 80, 3) := by decide +kernel
theorem dX2_moveCustody_49 : decode cX2_moveCustody 49 = .ok (.iload_n 1, 1) := by decide +kernel
theorem dX2_moveCustody_50 : decode cX2_moveCustody 50 = .ok (.if_icmp .ne 14, 3) := by decide +kernel
theorem dX2_moveCustody_53 : decode cX2_moveCustody 53 = .ok (.aload_n 0, 1) := by decide +kernel
theorem dX2_moveCustody_54 : decode cX2_moveCustody 54 = .ok (.aload 4, 2) := by decide +kernel
theorem dX2_moveCustody_56 : decode cX2_moveCustody 56 = .ok (.iload_n 1, 1) := by decide +kernel
theorem dX2_moveCustody_57 : decode cX2_moveCustody 57 = .ok (.iload_n 2, 1) := by decide +kernel
theorem dX2_moveCustody_58 : decode cX2_moveCustody 58 = .ok (.invokevirtual 232, 3) := by decide +kernel
theorem dX2_moveCustody_61 : decode cX2_moveCustody 61 = .ok (.goto 20, 3) := by decide +kernel
theorem dX2_moveCustody_64 : decode cX2_moveCustody 64 = .ok (.aload 4, 2) := by decide +kernel
theorem dX2_moveCustody_66 : decode cX2_moveCustody 66 = .ok (.getfield 80, 3) := by decide +kernel
theorem dX2_moveCustody_69 : decode cX2_moveCustody 69 = .ok (.iload_n 2, 1) := by decide +kernel
theorem dX2_moveCustody_70 : decode cX2_moveCustody 70 = .ok (.if_icmp .ne 11, 3) := by decide +kernel
theorem dX2_moveCustody_73 : decode cX2_moveCustody 73 = .ok (.aload_n 0, 1) := by decide +kernel
theorem dX2_moveCustody_74 : decode cX2_moveCustody 74 = .ok (.aload 4, 2) := by decide +kernel
theorem dX2_moveCustody_76 : decode cX2_moveCustody 76 = .ok (.iload_n 2, 1) := by decide +kernel
theorem dX2_moveCustody_77 : decode cX2_moveCustody 77 = .ok (.iload_n 1, 1) := by decide +kernel
theorem dX2_moveCustody_78 : decode cX2_moveCustody 78 = .ok (.invokevirtual 232, 3) := by decide +kernel
theorem dX2_moveCustody_81 : decode cX2_moveCustody 81 = .ok (.iinc 3 1, 3) := by decide +kernel
theorem dX2_moveCustody_84 : decode cX2_moveCustody 84 = .ok (.goto (-82), 3) := by decide +kernel
theorem dX2_moveCustody_87 : decode cX2_moveCustody 87 = .ok (.return_, 1) := by decide +kernel
set_option maxRecDepth 20000 in
theorem ggX2_moveCustodyIfNearer_X1_arrivalByNodes : GoodIn wsX2_moveCustodyIfNearer wsX1_arrivalByNodes := goodIn_r _ [9, 10, 11, 12, 13, 14, 8, 15, 16, 17, 18, 19, 20, 21, 22, 23, 24, 25, 26, 27, 28, 29, 30, 31, 32, 33, 34, 35, 36, 37, 56, 57, 58, 59, 60, 61, 62] (by decide +kernel) (by decide +kernel)
set_option maxRecDepth 20000 in
theorem gX2_moveCustodyIfNearer_X1_arrivalByNodes : GoodIn wsX2_moveCustodyIfNearer (wsV RX2 176 RX1 yX1_arrivalByNodes wsX1_arrivalByNodes) := goodIn_app (goodIn_of _ (by decide +kernel)) ggX2_moveCustodyIfNearer_X1_arrivalByNodes
theorem dX2_moveCustodyIfNearer_0 : decode cX2_moveCustodyIfNearer 0 = .ok (.aload_n 0, 1) := by decide +kernel
theorem dX2_moveCustodyIfNearer_1 : decode cX2_moveCustodyIfNearer 1 = .ok (.getfield 36, 3) := by decide +kernel
theorem dX2_moveCustodyIfNearer_4 : decode cX2_moveCustodyIfNearer 4 = .ok (.iload_n 3, 1) := by decide +kernel
theorem dX2_moveCustodyIfNearer_5 : decode cX2_moveCustodyIfNearer 5 = .ok (.aload_n 1, 1) := by decide +kernel
theorem dX2_moveCustodyIfNearer_6 : decode cX2_moveCustodyIfNearer 6 = .ok (.getfield 186, 3) := by decide +kernel
theorem dX2_moveCustodyIfNearer_9 : decode cX2_moveCustodyIfNearer 9 = .ok (.aload_n 0, 1) := by decide +kernel
theorem dX2_moveCustodyIfNearer_10 : decode cX2_moveCustodyIfNearer 10 = .ok (.getfield 7, 3) := by decide +kernel
theorem dX2_moveCustodyIfNearer_13 : decode cX2_moveCustodyIfNearer 13 = .ok (.invokevirtual 176, 3) := by decide +kernel
theorem dX2_moveCustodyIfNearer_16 : decode cX2_moveCustodyIfNearer 16 = .ok (.istore 4, 2) := by decide +kernel
theorem dX2_moveCustodyIfNearer_18 : decode cX2_moveCustodyIfNearer 18 = .ok (.aload_n 0, 1) := by decide +kernel
theorem dX2_moveCustodyIfNearer_19 : decode cX2_moveCustodyIfNearer 19 = .ok (.getfield 36, 3) := by decide +kernel
theorem dX2_moveCustodyIfNearer_22 : decode cX2_moveCustodyIfNearer 22 = .ok (.iload_n 2, 1) := by decide +kernel
theorem dX2_moveCustodyIfNearer_23 : decode cX2_moveCustodyIfNearer 23 = .ok (.aload_n 1, 1) := by decide +kernel
theorem dX2_moveCustodyIfNearer_24 : decode cX2_moveCustodyIfNearer 24 = .ok (.getfield 186, 3) := by decide +kernel
theorem dX2_moveCustodyIfNearer_27 : decode cX2_moveCustodyIfNearer 27 = .ok (.aload_n 0, 1) := by decide +kernel
theorem dX2_moveCustodyIfNearer_28 : decode cX2_moveCustodyIfNearer 28 = .ok (.getfield 7, 3) := by decide +kernel
theorem dX2_moveCustodyIfNearer_31 : decode cX2_moveCustodyIfNearer 31 = .ok (.invokevirtual 176, 3) := by decide +kernel
theorem dX2_moveCustodyIfNearer_34 : decode cX2_moveCustodyIfNearer 34 = .ok (.istore 5, 2) := by decide +kernel
theorem dX2_moveCustodyIfNearer_36 : decode cX2_moveCustodyIfNearer 36 = .ok (.iload 4, 2) := by decide +kernel
theorem dX2_moveCustodyIfNearer_38 : decode cX2_moveCustodyIfNearer 38 = .ok (.iload 5, 2) := by decide +kernel
theorem dX2_moveCustodyIfNearer_40 : decode cX2_moveCustodyIfNearer 40 = .ok (.if_icmp .ge 8, 3) := by decide +kernel
theorem dX2_moveCustodyIfNearer_43 : decode cX2_moveCustodyIfNearer 43 = .ok (.aload_n 1, 1) := by decide +kernel
theorem dX2_moveCustodyIfNearer_44 : decode cX2_moveCustodyIfNearer 44 = .ok (.iload_n 3, 1) := by decide +kernel
theorem dX2_moveCustodyIfNearer_45 : decode cX2_moveCustodyIfNearer 45 = .ok (.putfield 80, 3) := by decide +kernel
theorem dX2_moveCustodyIfNearer_48 : decode cX2_moveCustodyIfNearer 48 = .ok (.return_, 1) := by decide +kernel
