theorem dX0_init_0 : decode cX0_init 0 = .ok (.aload_n 0, 1) := by decide +kernel
theorem dX0_init_1 : decode cX0_init 1 = .ok (.invokespecial 3, 3) := by decide +kernel
theorem dX0_init_4 : decode cX0_init 4 = .ok (.aload_n 0, 1) := by decide +kernel
theorem dX0_init_5 : decode cX0_init 5 = .ok (.iload_n 1, 1) := by decide +kernel
theorem dX0_init_6 : decode cX0_init 6 = .ok (.putfield 9, 3) := by decide +kernel
theorem dX0_init_9 : decode cX0_init 9 = .ok (.aload_n 0, 1) := by decide +kernel
theorem dX0_init_10 : decode cX0_init 10 = .ok (.iload_n 2, 1) := by decide +kernel
theorem dX0_init_11 : decode cX0_init 11 = .ok (.putfield 15, 3) := by decide +kernel
theorem dX0_init_14 : decode cX0_init 14 = .ok (.aload_n 0, 1) := by decide +kernel
theorem dX0_init_15 : decode cX0_init 15 = .ok (.iload_n 3, 1) := by decide +kernel
theorem dX0_init_16 : decode cX0_init 16 = .ok (.putfield 18, 3) := by decide +kernel
theorem dX0_init_19 : decode cX0_init 19 = .ok (.aload_n 0, 1) := by decide +kernel
theorem dX0_init_20 : decode cX0_init 20 = .ok (.iload 4, 2) := by decide +kernel
theorem dX0_init_22 : decode cX0_init 22 = .ok (.putfield 21, 3) := by decide +kernel
theorem dX0_init_25 : decode cX0_init 25 = .ok (.aload_n 0, 1) := by decide +kernel
theorem dX0_init_26 : decode cX0_init 26 = .ok (.bipush 8, 2) := by decide +kernel
theorem dX0_init_28 : decode cX0_init 28 = .ok (.newarray .int, 2) := by decide +kernel
theorem dX0_init_30 : decode cX0_init 30 = .ok (.putfield 24, 3) := by decide +kernel
theorem dX0_init_33 : decode cX0_init 33 = .ok (.aload_n 0, 1) := by decide +kernel
theorem dX0_init_34 : decode cX0_init 34 = .ok (.bipush 8, 2) := by decide +kernel
theorem dX0_init_36 : decode cX0_init 36 = .ok (.newarray .int, 2) := by decide +kernel
theorem dX0_init_38 : decode cX0_init 38 = .ok (.putfield 28, 3) := by decide +kernel
theorem dX0_init_41 : decode cX0_init 41 = .ok (.aload_n 0, 1) := by decide +kernel
theorem dX0_init_42 : decode cX0_init 42 = .ok (.bipush 8, 2) := by decide +kernel
theorem dX0_init_44 : decode cX0_init 44 = .ok (.newarray .boolean, 2) := by decide +kernel
theorem dX0_init_46 : decode cX0_init 46 = .ok (.putfield 31, 3) := by decide +kernel
theorem dX0_init_49 : decode cX0_init 49 = .ok (.aload_n 0, 1) := by decide +kernel
theorem dX0_init_50 : decode cX0_init 50 = .ok (.iconst (-1), 1) := by decide +kernel
theorem dX0_init_51 : decode cX0_init 51 = .ok (.putfield 35, 3) := by decide +kernel
theorem dX0_init_54 : decode cX0_init 54 = .ok (.aload_n 0, 1) := by decide +kernel
theorem dX0_init_55 : decode cX0_init 55 = .ok (.iconst (-1), 1) := by decide +kernel
theorem dX0_init_56 : decode cX0_init 56 = .ok (.putfield 38, 3) := by decide +kernel
theorem dX0_init_59 : decode cX0_init 59 = .ok (.aload_n 0, 1) := by decide +kernel
theorem dX0_init_60 : decode cX0_init 60 = .ok (.iconst 0, 1) := by decide +kernel
theorem dX0_init_61 : decode cX0_init 61 = .ok (.putfield 41, 3) := by decide +kernel
theorem dX0_init_64 : decode cX0_init 64 = .ok (.aload_n 0, 1) := by decide +kernel
theorem dX0_init_65 : decode cX0_init 65 = .ok (.iconst (-1), 1) := by decide +kernel
theorem dX0_init_66 : decode cX0_init 66 = .ok (.putfield 44, 3) := by decide +kernel
theorem dX0_init_69 : decode cX0_init 69 = .ok (.return_, 1) := by decide +kernel
theorem dX0_isBefore_0 : decode cX0_isBefore 0 = .ok (.aload_n 0, 1) := by decide +kernel
theorem dX0_isBefore_1 : decode cX0_isBefore 1 = .ok (.getfield 18, 3) := by decide +kernel
theorem dX0_isBefore_4 : decode cX0_isBefore 4 = .ok (.aload_n 1, 1) := by decide +kernel
theorem dX0_isBefore_5 : decode cX0_isBefore 5 = .ok (.getfield 18, 3) := by decide +kernel
theorem dX0_isBefore_8 : decode cX0_isBefore 8 = .ok (.if_icmp .eq 20, 3) := by decide +kernel
theorem dX0_isBefore_11 : decode cX0_isBefore 11 = .ok (.aload_n 0, 1) := by decide +kernel
theorem dX0_isBefore_12 : decode cX0_isBefore 12 = .ok (.getfield 18, 3) := by decide +kernel
theorem dX0_isBefore_15 : decode cX0_isBefore 15 = .ok (.aload_n 1, 1) := by decide +kernel
theorem dX0_isBefore_16 : decode cX0_isBefore 16 = .ok (.getfield 18, 3) := by decide +kernel
theorem dX0_isBefore_19 : decode cX0_isBefore 19 = .ok (.if_icmp .le 7, 3) := by decide +kernel
theorem dX0_isBefore_22 : decode cX0_isBefore 22 = .ok (.iconst 1, 1) := by decide +kernel
theorem dX0_isBefore_23 : decode cX0_isBefore 23 = .ok (.goto 4, 3) := by decide +kernel
theorem dX0_isBefore_26 : decode cX0_isBefore 26 = .ok (.iconst 0, 1) := by decide +kernel
theorem dX0_isBefore_27 : decode cX0_isBefore 27 = .ok (.ireturn, 1) := by decide +kernel
theorem dX0_isBefore_28 : decode cX0_isBefore 28 = .ok (.aload_n 0, 1) := by decide +kernel
theorem dX0_isBefore_29 : decode cX0_isBefore 29 = .ok (.getfield 21, 3) := by decide +kernel
theorem dX0_isBefore_32 : decode cX0_isBefore 32 = .ok (.aload_n 1, 1) := by decide +kernel
theorem dX0_isBefore_33 : decode cX0_isBefore 33 = .ok (.getfield 21, 3) := by decide +kernel
theorem dX0_isBefore_36 : decode cX0_isBefore 36 = .ok (.if_icmp .eq 20, 3) := by decide +kernel
theorem dX0_isBefore_39 : decode cX0_isBefore 39 = .ok (.aload_n 0, 1) := by decide +kernel
theorem dX0_isBefore_40 : decode cX0_isBefore 40 = .ok (.getfield 21, 3) := by decide +kernel
theorem dX0_isBefore_43 : decode cX0_isBefore 43 = .ok (.aload_n 1, 1) := by decide +kernel
theorem dX0_isBefore_44 : decode cX0_isBefore 44 = .ok (.getfield 21, 3) := by decide +kernel
theorem dX0_isBefore_47 : decode cX0_isBefore 47 = .ok (.if_icmp .ge 7, 3) := by decide +kernel
theorem dX0_isBefore_50 : decode cX0_isBefore 50 = .ok (.iconst 1, 1) := by decide +kernel
theorem dX0_isBefore_51 : decode cX0_isBefore 51 = .ok (.goto 4, 3) := by decide +kernel
theorem dX0_isBefore_54 : decode cX0_isBefore 54 = .ok (.iconst 0, 1) := by decide +kernel
theorem dX0_isBefore_55 : decode cX0_isBefore 55 = .ok (.ireturn, 1) := by decide +kernel
theorem dX0_isBefore_56 : decode cX0_isBefore 56 = .ok (.aload_n 0, 1) := by decide +kernel
theorem dX0_isBefore_57 : decode cX0_isBefore 57 = .ok (.getfield 9, 3) := by decide +kernel
theorem dX0_isBefore_60 : decode cX0_isBefore 60 = .ok (.aload_n 1, 1) := by decide +kernel
theorem dX0_isBefore_61 : decode cX0_isBefore 61 = .ok (.getfield 9, 3) := by decide +kernel
theorem dX0_isBefore_64 : decode cX0_isBefore 64 = .ok (.if_icmp .ge 7, 3) := by decide +kernel
theorem dX0_isBefore_67 : decode cX0_isBefore 67 = .ok (.iconst 1, 1) := by decide +kernel
theorem dX0_isBefore_68 : decode cX0_isBefore 68 = .ok (.goto 4, 3) := by decide +kernel
theorem dX0_isBefore_71 : decode cX0_isBefore 71 = .ok (.iconst 0, 1) := by decide +kernel
theorem dX0_isBefore_72 : decode cX0_isBefore 72 = .ok (.ireturn, 1) := by decide +kernel
theorem dX0_isAt_0 : decode cX0_isAt 0 = .ok (.aload_n 0, 1) := by decide +kernel
theorem dX0_isAt_1 : decode cX0_isAt 1 = .ok (.getfield 24, 3) := by decide +kernel
theorem dX0_isAt_4 : decode cX0_isAt 4 = .ok (.iload_n 1, 1) := by decide +kernel
theorem dX0_isAt_5 : decode cX0_isAt 5 = .ok (.iaload, 1) := by decide +kernel
theorem dX0_isAt_6 : decode cX0_isAt 6 = .ok (.ifCond .le 7, 3) := by decide +kernel
theorem dX0_isAt_9 : decode cX0_isAt 9 = .ok (.iconst 1, 1) := by decide +kernel
theorem dX0_isAt_10 : decode cX0_isAt 10 = .ok (.goto 4, 3) := by decide +kernel
theorem dX0_isAt_13 : decode cX0_isAt 13 = .ok (.iconst 0, 1) := by decide +kernel
theorem dX0_isAt_14 : decode cX0_isAt 14 = .ok (.ireturn, 1) := by decide +kernel
set_option maxRecDepth 20000 in
theorem ggX0_canDeliver_X0_isAt : GoodIn wsX0_canDeliver wsX0_isAt := goodIn_r _ [6, 7, 8, 9, 10, 11, 12, 13, 14, 15, 16, 17, 18] (by decide +kernel) (by decide +kernel)
set_option maxRecDepth 20000 in
theorem gX0_canDeliver_X0_isAt : GoodIn wsX0_canDeliver (wsV RX0 47 RX0 yX0_isAt wsX0_isAt) := goodIn_app (goodIn_of _ (by decide +kernel)) ggX0_canDeliver_X0_isAt
theorem dX0_canDeliver_0 : decode cX0_canDeliver 0 = .ok (.aload_n 0, 1) := by decide +kernel
theorem dX0_canDeliver_1 : decode cX0_canDeliver 1 = .ok (.iload_n 1, 1) := by decide +kernel
theorem dX0_canDeliver_2 : decode cX0_canDeliver 2 = .ok (.invokevirtual 47, 3) := by decide +kernel
theorem dX0_canDeliver_5 : decode cX0_canDeliver 5 = .ok (.ifCond .eq 15, 3) := by decide +kernel
theorem dX0_canDeliver_8 : decode cX0_canDeliver 8 = .ok (.aload_n 0, 1) := by decide +kernel
theorem dX0_canDeliver_9 : decode cX0_canDeliver 9 = .ok (.getfield 15, 3) := by decide +kernel
theorem dX0_canDeliver_12 : decode cX0_canDeliver 12 = .ok (.iload_n 2, 1) := by decide +kernel
theorem dX0_canDeliver_13 : decode cX0_canDeliver 13 = .ok (.if_icmp .ne 7, 3) := by decide +kernel
theorem dX0_canDeliver_16 : decode cX0_canDeliver 16 = .ok (.iconst 1, 1) := by decide +kernel
theorem dX0_canDeliver_17 : decode cX0_canDeliver 17 = .ok (.goto 4, 3) := by decide +kernel
theorem dX0_canDeliver_20 : decode cX0_canDeliver 20 = .ok (.iconst 0, 1) := by decide +kernel
theorem dX0_canDeliver_21 : decode cX0_canDeliver 21 = .ok (.ireturn, 1) := by decide +kernel
set_option maxRecDepth 20000 in
theorem ggX0_canSpray_X0_isAt : GoodIn wsX0_canSpray wsX0_isAt := goodIn_r _ [7, 2, 8, 9, 10, 11, 12, 13, 14, 15, 16, 17, 18] (by decide +kernel) (by decide +kernel)
set_option maxRecDepth 20000 in
theorem gX0_canSpray_X0_isAt : GoodIn wsX0_canSpray (wsV RX0 47 RX0 yX0_isAt wsX0_isAt) := goodIn_app (goodIn_of _ (by decide +kernel)) ggX0_canSpray_X0_isAt
theorem dX0_canSpray_0 : decode cX0_canSpray 0 = .ok (.aload_n 0, 1) := by decide +kernel
theorem dX0_canSpray_1 : decode cX0_canSpray 1 = .ok (.getfield 15, 3) := by decide +kernel
theorem dX0_canSpray_4 : decode cX0_canSpray 4 = .ok (.iload_n 1, 1) := by decide +kernel
theorem dX0_canSpray_5 : decode cX0_canSpray 5 = .ok (.if_icmp .eq 33, 3) := by decide +kernel
theorem dX0_canSpray_8 : decode cX0_canSpray 8 = .ok (.aload_n 0, 1) := by decide +kernel
theorem dX0_canSpray_9 : decode cX0_canSpray 9 = .ok (.getfield 15, 3) := by decide +kernel
theorem dX0_canSpray_12 : decode cX0_canSpray 12 = .ok (.iload_n 2, 1) := by decide +kernel
theorem dX0_canSpray_13 : decode cX0_canSpray 13 = .ok (.if_icmp .eq 25, 3) := by decide +kernel
theorem dX0_canSpray_16 : decode cX0_canSpray 16 = .ok (.aload_n 0, 1) := by decide +kernel
theorem dX0_canSpray_17 : decode cX0_canSpray 17 = .ok (.getfield 24, 3) := by decide +kernel
theorem dX0_canSpray_20 : decode cX0_canSpray 20 = .ok (.iload_n 1, 1) := by decide +kernel
theorem dX0_canSpray_21 : decode cX0_canSpray 21 = .ok (.iaload, 1) := by decide +kernel
theorem dX0_canSpray_22 : decode cX0_canSpray 22 = .ok (.iconst 2, 1) := by decide +kernel
theorem dX0_canSpray_23 : decode cX0_canSpray 23 = .ok (.if_icmp .lt 15, 3) := by decide +kernel
theorem dX0_canSpray_26 : decode cX0_canSpray 26 = .ok (.aload_n 0, 1) := by decide +kernel
theorem dX0_canSpray_27 : decode cX0_canSpray 27 = .ok (.iload_n 2, 1) := by decide +kernel
theorem dX0_canSpray_28 : decode cX0_canSpray 28 = .ok (.invokevirtual 47, 3) := by decide +kernel
theorem dX0_canSpray_31 : decode cX0_canSpray 31 = .ok (.ifCond .ne 7, 3) := by decide +kernel
theorem dX0_canSpray_34 : decode cX0_canSpray 34 = .ok (.iconst 1, 1) := by decide +kernel
theorem dX0_canSpray_35 : decode cX0_canSpray 35 = .ok (.goto 4, 3) := by decide +kernel
theorem dX0_canSpray_38 : decode cX0_canSpray 38 = .ok (.iconst 0, 1) := by decide +kernel
theorem dX0_canSpray_39 : decode cX0_canSpray 39 = .ok (.ireturn, 1) := by decide +kernel
theorem dX0_put_0 : decode cX0_put 0 = .ok (.aload_n 0, 1) := by decide +kernel
theorem dX0_put_1 : decode cX0_put 1 = .ok (.getfield 24, 3) := by decide +kernel
theorem dX0_put_4 : decode cX0_put 4 = .ok (.iload_n 1, 1) := by decide +kernel
theorem dX0_put_5 : decode cX0_put 5 = .ok (.iload_n 2, 1) := by decide +kernel
theorem dX0_put_6 : decode cX0_put 6 = .ok (.iastore, 1) := by decide +kernel
theorem dX0_put_7 : decode cX0_put 7 = .ok (.aload_n 0, 1) := by decide +kernel
theorem dX0_put_8 : decode cX0_put 8 = .ok (.getfield 28, 3) := by decide +kernel
theorem dX0_put_11 : decode cX0_put 11 = .ok (.iload_n 1, 1) := by decide +kernel
theorem dX0_put_12 : decode cX0_put 12 = .ok (.iload_n 3, 1) := by decide +kernel
theorem dX0_put_13 : decode cX0_put 13 = .ok (.iastore, 1) := by decide +kernel
theorem dX0_put_14 : decode cX0_put 14 = .ok (.return_, 1) := by decide +kernel
set_option maxRecDepth 20000 in
theorem ggX0_leave_X0_put : GoodIn wsX0_leave wsX0_put := goodIn_r _ [5, 6, 7, 8, 9, 10, 11, 12, 13, 14, 15, 16, 17, 18] (by decide +kernel) (by decide +kernel)
set_option maxRecDepth 20000 in
theorem gX0_leave_X0_put : GoodIn wsX0_leave (wsV RX0 51 RX0 yX0_put wsX0_put) := goodIn_app (goodIn_of _ (by decide +kernel)) ggX0_leave_X0_put
theorem dX0_leave_0 : decode cX0_leave 0 = .ok (.aload_n 0, 1) := by decide +kernel
theorem dX0_leave_1 : decode cX0_leave 1 = .ok (.iload_n 1, 1) := by decide +kernel
theorem dX0_leave_2 : decode cX0_leave 2 = .ok (.iconst 0, 1) := by decide +kernel
theorem dX0_leave_3 : decode cX0_leave 3 = .ok (.iconst 0, 1) := by decide +kernel
theorem dX0_leave_4 : decode cX0_leave 4 = .ok (.invokevirtual 51, 3) := by decide +kernel
theorem dX0_leave_7 : decode cX0_leave 7 = .ok (.return_, 1) := by decide +kernel
set_option maxRecDepth 20000 in
theorem ggX0_halve_X0_put : GoodIn wsX0_halve wsX0_put := goodIn_r _ [7, 1, 2, 8, 9, 10, 11, 12, 13, 14, 15, 16, 17, 18] (by decide +kernel) (by decide +kernel)
set_option maxRecDepth 20000 in
theorem gX0_halve_X0_put : GoodIn wsX0_halve (wsV RX0 51 RX0 yX0_put wsX0_put) := goodIn_app (goodIn_of _ (by decide +kernel)) ggX0_halve_X0_put
theorem dX0_halve_0 : decode cX0_halve 0 = .ok (.aload_n 0, 1) := by decide +kernel
theorem dX0_halve_1 : decode cX0_halve 1 = .ok (.getfield 24, 3) := by decide +kernel
theorem dX0_halve_4 : decode cX0_halve 4 = .ok (.iload_n 1, 1) := by decide +kernel
theorem dX0_halve_5 : decode cX0_halve 5 = .ok (.iaload, 1) := by decide +kernel
theorem dX0_halve_6 : decode cX0_halve 6 = .ok (.iconst 2, 1) := by decide +kernel
theorem dX0_halve_7 : decode cX0_halve 7 = .ok (.idiv, 1) := by decide +kernel
theorem dX0_halve_8 : decode cX0_halve 8 = .ok (.istore_n 3, 1) := by decide +kernel
theorem dX0_halve_9 : decode cX0_halve 9 = .ok (.aload_n 0, 1) := by decide +kernel
theorem dX0_halve_10 : decode cX0_halve 10 = .ok (.getfield 24, 3) := by decide +kernel
theorem dX0_halve_13 : decode cX0_halve 13 = .ok (.iload_n 1, 1) := by decide +kernel
theorem dX0_halve_14 : decode cX0_halve 14 = .ok (.dup2, 1) := by decide +kernel
theorem dX0_halve_15 : decode cX0_halve 15 = .ok (.iaload, 1) := by decide +kernel
theorem dX0_halve_16 : decode cX0_halve 16 = .ok (.iload_n 3, 1) := by decide +kernel
theorem dX0_halve_17 : decode cX0_halve 17 = .ok (.isub, 1) := by decide +kernel
theorem dX0_halve_18 : decode cX0_halve 18 = .ok (.iastore, 1) := by decide +kernel
theorem dX0_halve_19 : decode cX0_halve 19 = .ok (.aload_n 0, 1) := by decide +kernel
theorem dX0_halve_20 : decode cX0_halve 20 = .ok (.iload_n 2, 1) := by decide +kernel
theorem dX0_halve_21 : decode cX0_halve 21 = .ok (.iload_n 3, 1) := by decide +kernel
theorem dX0_halve_22 : decode cX0_halve 22 = .ok (.aload_n 0, 1) := by decide +kernel
theorem dX0_halve_23 : decode cX0_halve 23 = .ok (.getfield 28, 3) := by decide +kernel
theorem dX0_halve_26 : decode cX0_halve 26 = .ok (.iload_n 1, 1) := by decide +kernel
theorem dX0_halve_27 : decode cX0_halve 27 = .ok (.iaload, 1) := by decide +kernel
theorem dX0_halve_28 : decode cX0_halve 28 = .ok (.iconst 1, 1) := by decide +kernel
theorem dX0_halve_29 : decode cX0_halve 29 = .ok (.iadd, 1) := by decide +kernel
theorem dX0_halve_30 : decode cX0_halve 30 = .ok (.invokevirtual 51, 3) := by decide +kernel
theorem dX0_halve_33 : decode cX0_halve 33 = .ok (.return_, 1) := by decide +kernel
set_option maxRecDepth 20000 in
theorem ggX0_deliver_X0_learn : GoodIn wsX0_deliver wsX0_learn := goodIn_r _ [9, 10, 11, 12, 13, 14, 8, 15, 16, 17, 18, 19, 20, 2, 21, 22, 23, 24, 25, 26, 27, 28, 29, 30, 31] (by decide +kernel) (by decide +kernel)
set_option maxRecDepth 20000 in
theorem gX0_deliver_X0_learn : GoodIn wsX0_deliver (wsV RX0 55 RX0 yX0_learn wsX0_learn) := goodIn_app (goodIn_of _ (by decide +kernel)) ggX0_deliver_X0_learn
theorem dX0_deliver_0 : decode cX0_deliver 0 = .ok (.aload_n 0, 1) := by decide +kernel
theorem dX0_deliver_1 : decode cX0_deliver 1 = .ok (.iload_n 2, 1) := by decide +kernel
theorem dX0_deliver_2 : decode cX0_deliver 2 = .ok (.putfield 38, 3) := by decide +kernel
theorem dX0_deliver_5 : decode cX0_deliver 5 = .ok (.aload_n 0, 1) := by decide +kernel
theorem dX0_deliver_6 : decode cX0_deliver 6 = .ok (.aload_n 0, 1) := by decide +kernel
theorem dX0_deliver_7 : decode cX0_deliver 7 = .ok (.getfield 28, 3) := by decide +kernel
theorem dX0_deliver_10 : decode cX0_deliver 10 = .ok (.iload_n 1, 1) := by decide +kernel
theorem dX0_deliver_11 : decode cX0_deliver 11 = .ok (.iaload, 1) := by decide +kernel
theorem dX0_deliver_12 : decode cX0_deliver 12 = .ok (.iconst 1, 1) := by decide +kernel
theorem dX0_deliver_13 : decode cX0_deliver 13 = .ok (.iadd, 1) := by decide +kernel
theorem dX0_deliver_14 : decode cX0_deliver 14 = .ok (.putfield 41, 3) := by decide +kernel
theorem dX0_deliver_17 : decode cX0_deliver 17 = .ok (.aload_n 0, 1) := by decide +kernel
theorem dX0_deliver_18 : decode cX0_deliver 18 = .ok (.iload_n 1, 1) := by decide +kernel
theorem dX0_deliver_19 : decode cX0_deliver 19 = .ok (.invokevirtual 55, 3) := by decide +kernel
theorem dX0_deliver_22 : decode cX0_deliver 22 = .ok (.aload_n 0, 1) := by decide +kernel
theorem dX0_deliver_23 : decode cX0_deliver 23 = .ok (.aload_n 0, 1) := by decide +kernel
theorem dX0_deliver_24 : decode cX0_deliver 24 = .ok (.getfield 15, 3) := by decide +kernel
theorem dX0_deliver_27 : decode cX0_deliver 27 = .ok (.invokevirtual 55, 3) := by decide +kernel
theorem dX0_deliver_30 : decode cX0_deliver 30 = .ok (.return_, 1) := by decide +kernel
set_option maxRecDepth 20000 in
theorem ggX0_learn_X0_leave : GoodIn wsX0_learn wsX0_leave := goodIn_r _ [7, 8, 9, 10, 6, 11, 12, 13, 14, 15, 16, 17, 18, 19, 20, 21, 22, 23, 24] (by decide +kernel) (by decide +kernel)
set_option maxRecDepth 20000 in
theorem gX0_learn_X0_leave : GoodIn wsX0_learn (wsV RX0 59 RX0 yX0_leave wsX0_leave) := goodIn_app (goodIn_of _ (by decide +kernel)) ggX0_learn_X0_leave
theorem dX0_learn_0 : decode cX0_learn 0 = .ok (.aload_n 0, 1) := by decide +kernel
theorem dX0_learn_1 : decode cX0_learn 1 = .ok (.getfield 31, 3) := by decide +kernel
theorem dX0_learn_4 : decode cX0_learn 4 = .ok (.iload_n 1, 1) := by decide +kernel
theorem dX0_learn_5 : decode cX0_learn 5 = .ok (.iconst 1, 1) := by decide +kernel
theorem dX0_learn_6 : decode cX0_learn 6 = .ok (.bastore, 1) := by decide +kernel
theorem dX0_learn_7 : decode cX0_learn 7 = .ok (.aload_n 0, 1) := by decide +kernel
theorem dX0_learn_8 : decode cX0_learn 8 = .ok (.iload_n 1, 1) := by decide +kernel
theorem dX0_learn_9 : decode cX0_learn 9 = .ok (.invokevirtual 59, 3) := by decide +kernel
theorem dX0_learn_12 : decode cX0_learn 12 = .ok (.aload_n 0, 1) := by decide +kernel
theorem dX0_learn_13 : decode cX0_learn 13 = .ok (.getfield 35, 3) := by decide +kernel
theorem dX0_learn_16 : decode cX0_learn 16 = .ok (.iload_n 1, 1) := by decide +kernel
theorem dX0_learn_17 : decode cX0_learn 17 = .ok (.if_icmp .ne 8, 3) := by decide +kernel
theorem dX0_learn_20 : decode cX0_learn 20 = .ok (.aload_n 0, 1) := by decide +kernel
theorem dX0_learn_21 : decode cX0_learn 21 = .ok (.iconst (-1), 1) := by decide +kernel
theorem dX0_learn_22 : decode cX0_learn 22 = .ok (.putfield 35, 3) := by decide +kernel
theorem dX0_learn_25 : decode cX0_learn 25 = .ok (.return_, 1) := by decide +kernel
set_option maxRecDepth 20000 in
theorem ggX0_vanish_X0_leave : GoodIn wsX0_vanish wsX0_leave := goodIn_r _ [6, 7, 8, 9, 5, 10, 11, 12, 13, 14, 15, 16, 17, 18, 19, 20, 21, 22, 23] (by decide +kernel) (by decide +kernel)
set_option maxRecDepth 20000 in
theorem gX0_vanish_X0_leave : GoodIn wsX0_vanish (wsV RX0 59 RX0 yX0_leave wsX0_leave) := goodIn_app (goodIn_of _ (by decide +kernel)) ggX0_vanish_X0_leave
theorem dX0_vanish_0 : decode cX0_vanish 0 = .ok (.iconst 0, 1) := by decide +kernel
theorem dX0_vanish_1 : decode cX0_vanish 1 = .ok (.istore_n 1, 1) := by decide +kernel
theorem dX0_vanish_2 : decode cX0_vanish 2 = .ok (.iload_n 1, 1) := by decide +kernel
theorem dX0_vanish_3 : decode cX0_vanish 3 = .ok (.bipush 8, 2) := by decide +kernel
theorem dX0_vanish_5 : decode cX0_vanish 5 = .ok (.if_icmp .ge 14, 3) := by decide +kernel
theorem dX0_vanish_8 : decode cX0_vanish 8 = .ok (.aload_n 0, 1) := by decide +kernel
theorem dX0_vanish_9 : decode cX0_vanish 9 = .ok (.iload_n 1, 1) := by decide +kernel
theorem dX0_vanish_10 : decode cX0_vanish 10 = .ok (.invokevirtual 59, 3) := by decide +kernel
theorem dX0_vanish_13 : decode cX0_vanish 13 = .ok (.iinc 1 1, 3) := by decide +kernel
theorem dX0_vanish_16 : decode cX0_vanish 16 = .ok (.goto (-14), 3) := by decide +kernel
theorem dX0_vanish_19 : decode cX0_vanish 19 = .ok (.aload_n 0, 1) := by decide +kernel
theorem dX0_vanish_20 : decode cX0_vanish 20 = .ok (.iconst (-1), 1) := by decide +kernel
theorem dX0_vanish_21 : decode cX0_vanish 21 = .ok (.putfield 35, 3) := by decide +kernel
theorem dX0_vanish_24 : decode cX0_vanish 24 = .ok (.return_, 1) := by decide +kernel
theorem dX1_init_0 : decode cX1_init 0 = .ok (.aload_n 0, 1) := by decide +kernel
theorem dX1_init_1 : decode cX1_init 1 = .ok (.invokespecial 3, 3) := by decide +kernel
theorem dX1_init_4 : decode cX1_init 4 = .ok (.aload_n 0, 1) := by decide +kernel
theorem dX1_init_5 : decode cX1_init 5 = .ok (.bipush 30, 2) := by decide +kernel
theorem dX1_init_7 : decode cX1_init 7 = .ok (.newarray .int, 2) := by decide +kernel
theorem dX1_init_9 : decode cX1_init 9 = .ok (.putfield 9, 3) := by decide +kernel
theorem dX1_init_12 : decode cX1_init 12 = .ok (.aload_n 0, 1) := by decide +kernel
theorem dX1_init_13 : decode cX1_init 13 = .ok (.bipush 30, 2) := by decide +kernel
theorem dX1_init_15 : decode cX1_init 15 = .ok (.newarray .int, 2) := by decide +kernel
theorem dX1_init_17 : decode cX1_init 17 = .ok (.putfield 15, 3) := by decide +kernel
theorem dX1_init_20 : decode cX1_init 20 = .ok (.aload_n 0, 1) := by decide +kernel
theorem dX1_init_21 : decode cX1_init 21 = .ok (.bipush 30, 2) := by decide +kernel
theorem dX1_init_23 : decode cX1_init 23 = .ok (.newarray .int, 2) := by decide +kernel
theorem dX1_init_25 : decode cX1_init 25 = .ok (.putfield 18, 3) := by decide +kernel
theorem dX1_init_28 : decode cX1_init 28 = .ok (.aload_n 0, 1) := by decide +kernel
theorem dX1_init_29 : decode cX1_init 29 = .ok (.bipush 30, 2) := by decide +kernel
theorem dX1_init_31 : decode cX1_init 31 = .ok (.newarray .int, 2) := by decide +kernel
theorem dX1_init_33 : decode cX1_init 33 = .ok (.putfield 21, 3) := by decide +kernel
theorem dX1_init_36 : decode cX1_init 36 = .ok (.aload_n 0, 1) := by decide +kernel
theorem dX1_init_37 : decode cX1_init 37 = .ok (.bipush 8, 2) := by decide +kernel
theorem dX1_init_39 : decode cX1_init 39 = .ok (.newarray .int, 2) := by decide +kernel
theorem dX1_init_41 : decode cX1_init 41 = .ok (.putfield 24, 3) := by decide +kernel
theorem dX1_init_44 : decode cX1_init 44 = .ok (.aload_n 0, 1) := by decide +kernel
theorem dX1_init_45 : decode cX1_init 45 = .ok (.bipush 8, 2) := by decide +kernel
theorem dX1_init_47 : decode cX1_init 47 = .ok (.newarray .boolean, 2) := by decide +kernel
theorem dX1_init_49 : decode cX1_init 49 = .ok (.putfield 27, 3) := by decide +kernel
theorem dX1_init_52 : decode cX1_init 52 = .ok (.aload_n 0, 1) := by decide +kernel
theorem dX1_init_53 : decode cX1_init 53 = .ok (.iconst 0, 1) := by decide +kernel
theorem dX1_init_54 : decode cX1_init 54 = .ok (.putfield 31, 3) := by decide +kernel
theorem dX1_init_57 : decode cX1_init 57 = .ok (.return_, 1) := by decide +kernel
theorem dX1_add_0 : decode cX1_add 0 = .ok (.aload_n 0, 1) := by decide +kernel
theorem dX1_add_1 : decode cX1_add 1 = .ok (.getfield 31, 3) := by decide +kernel
theorem dX1_add_4 : decode cX1_add 4 = .ok (.bipush 30, 2) := by decide +kernel
theorem dX1_add_6 : decode cX1_add 6 = .ok (.if_icmp .lt 5, 3) := by decide +kernel
theorem dX1_add_9 : decode cX1_add 9 = .ok (.iconst 0, 1) := by decide +kernel
theorem dX1_add_10 : decode cX1_add 10 = .ok (.ireturn, 1) := by decide +kernel
theorem dX1_add_11 : decode cX1_add 11 = .ok (.aload_n 0, 1) := by decide +kernel
theorem dX1_add_12 : decode cX1_add 12 = .ok (.getfield 9, 3) := by decide +kernel
theorem dX1_add_15 : decode cX1_add 15 = .ok (.aload_n 0, 1) := by decide +kernel
theorem dX1_add_16 : decode cX1_add 16 = .ok (.getfield 31, 3) := by decide +kernel
theorem dX1_add_19 : decode cX1_add 19 = .ok (.iload_n 1, 1) := by decide +kernel
theorem dX1_add_20 : decode cX1_add 20 = .ok (.iastore, 1) := by decide +kernel
theorem dX1_add_21 : decode cX1_add 21 = .ok (.aload_n 0, 1) := by decide +kernel
theorem dX1_add_22 : decode cX1_add 22 = .ok (.getfield 15, 3) := by decide +kernel
theorem dX1_add_25 : decode cX1_add 25 = .ok (.aload_n 0, 1) := by decide +kernel
theorem dX1_add_26 : decode cX1_add 26 = .ok (.getfield 31, 3) := by decide +kernel
theorem dX1_add_29 : decode cX1_add 29 = .ok (.iload_n 2, 1) := by decide +kernel
theorem dX1_add_30 : decode cX1_add 30 = .ok (.iastore, 1) := by decide +kernel
theorem dX1_add_31 : decode cX1_add 31 = .ok (.aload_n 0, 1) := by decide +kernel
theorem dX1_add_32 : decode cX1_add 32 = .ok (.getfield 18, 3) := by decide +kernel
theorem dX1_add_35 : decode cX1_add 35 = .ok (.aload_n 0, 1) := by decide +kernel
theorem dX1_add_36 : decode cX1_add 36 = .ok (.getfield 31, 3) := by decide +kernel
theorem dX1_add_39 : decode cX1_add 39 = .ok (.iload_n 3, 1) := by decide +kernel
theorem dX1_add_40 : decode cX1_add 40 = .ok (.iastore, 1) := by decide +kernel
theorem dX1_add_41 : decode cX1_add 41 = .ok (.aload_n 0, 1) := by decide +kernel
theorem dX1_add_42 : decode cX1_add 42 = .ok (.getfield 21, 3) := by decide +kernel
theorem dX1_add_45 : decode cX1_add 45 = .ok (.aload_n 0, 1) := by decide +kernel
theorem dX1_add_46 : decode cX1_add 46 = .ok (.getfield 31, 3) := by decide +kernel
theorem dX1_add_49 : decode cX1_add 49 = .ok (.iload 4, 2) := by decide +kernel
theorem dX1_add_51 : decode cX1_add 51 = .ok (.iastore, 1) := by decide +kernel
theorem dX1_add_52 : decode cX1_add 52 = .ok (.aload_n 0, 1) := by decide +kernel
theorem dX1_add_53 : decode cX1_add 53 = .ok (.dup, 1) := by decide +kernel
theorem dX1_add_54 : decode cX1_add 54 = .ok (.getfield 31, 3) := by decide +kernel
theorem dX1_add_57 : decode cX1_add 57 = .ok (.iconst 1, 1) := by decide +kernel
theorem dX1_add_58 : decode cX1_add 58 = .ok (.iadd, 1) := by decide +kernel
theorem dX1_add_59 : decode cX1_add 59 = .ok (.putfield 31, 3) := by decide +kernel
theorem dX1_add_62 : decode cX1_add 62 = .ok (.iconst 1, 1) := by decide +kernel
theorem dX1_add_63 : decode cX1_add 63 = .ok (.ireturn, 1) := by decide +kernel
set_option maxRecDepth 20000 in
theorem ggX1_arrivalByNodes_X1_start : GoodIn wsX1_arrivalByNodes wsX1_start := goodIn_r _ [7, 2, 8, 1, 30, 31, 32, 33, 34, 35, 36] (by decide +kernel) (by decide +kernel)
set_option maxRecDepth 20000 in
theorem gX1_arrivalByNodes_X1_start : GoodIn wsX1_arrivalByNodes (wsV RX1 35 RX1 yX1_start wsX1_start) := goodIn_app (goodIn_of _ (by decide +kernel)) ggX1_arrivalByNodes_X1_start
set_option maxRecDepth 20000 in
theorem ggX1_arrivalByNodes_X1_nearestUnsettled : GoodIn wsX1_arrivalByNodes wsX1_nearestUnsettled := goodIn_r _ [12, 8, 1, 2, 30, 31, 32, 33, 34, 35, 36] (by decide +kernel) (by decide +kernel)
set_option maxRecDepth 20000 in
theorem gX1_arrivalByNodes_X1_nearestUnsettled : GoodIn wsX1_arrivalByNodes (wsV RX1 39 RX1 yX1_nearestUnsettled wsX1_nearestUnsettled) := goodIn_app (goodIn_of _ (by decide +kernel)) ggX1_arrivalByNodes_X1_nearestUnsettled
set_option maxRecDepth 20000 in
theorem ggX1_arrivalByNodes_X1_spread : GoodIn wsX1_arrivalByNodes wsX1_spread := goodIn_r _ [16, 17, 18, 19, 20, 21, 22, 6, 23, 2, 24, 25, 26, 27, 28, 29, 30, 31, 32, 33, 34, 35, 36] (by decide +kernel) (by decide +kernel)
set_option maxRecDepth 20000 in
theorem gX1_arrivalByNodes_X1_spread : GoodIn wsX1_arrivalByNodes (wsV RX1 43 RX1 yX1_spread wsX1_spread) := goodIn_app (goodIn_of _ (by decide +kernel)) ggX1_arrivalByNodes_X1_spread
theorem dX1_arrivalByNodes_0 : decode cX1_arrivalByNodes 0 = .ok (.aload_n 0, 1) := by decide +kernel
theorem dX1_arrivalByNodes_1 : decode cX1_arrivalByNodes 1 = .ok (.iload_n 1, 1) := by decide +kernel
theorem dX1_arrivalByNodes_2 : decode cX1_arrivalByNodes 2 = .ok (.iload_n 3, 1) := by decide +kernel
theorem dX1_arrivalByNodes_3 : decode cX1_arrivalByNodes 3 = .ok (.invokevirtual 35, 3) := by decide +kernel
theorem dX1_arrivalByNodes_6 : decode cX1_arrivalByNodes 6 = .ok (.iconst 0, 1) := by decide +kernel
theorem dX1_arrivalByNodes_7 : decode cX1_arrivalByNodes 7 = .ok (.istore 4, 2) := by decide +kernel
theorem dX1_arrivalByNodes_9 : decode cX1_arrivalByNodes 9 = .ok (.iload 4, 2) := by decide +kernel
theorem dX1_arrivalByNodes_11 : decode cX1_arrivalByNodes 11 = .ok (.bipush 8, 2) := by decide +kernel
theorem dX1_arrivalByNodes_13 : decode cX1_arrivalByNodes 13 = .ok (.if_icmp .ge 44, 3) := by decide +kernel
theorem dX1_arrivalByNodes_16 : decode cX1_arrivalByNodes 16 = .ok (.aload_n 0, 1) := by decide +kernel
theorem dX1_arrivalByNodes_17 : decode cX1_arrivalByNodes 17 = .ok (.invokevirtual 39, 3) := by decide +kernel
theorem dX1_arrivalByNodes_20 : decode cX1_arrivalByNodes 20 = .ok (.istore 5, 2) := by decide +kernel
theorem dX1_arrivalByNodes_22 : decode cX1_arrivalByNodes 22 = .ok (.iload 5, 2) := by decide +kernel
theorem dX1_arrivalByNodes_24 : decode cX1_arrivalByNodes 24 = .ok (.iconst (-1), 1) := by decide +kernel
theorem dX1_arrivalByNodes_25 : decode cX1_arrivalByNodes 25 = .ok (.if_icmp .eq 32, 3) := by decide +kernel
theorem dX1_arrivalByNodes_28 : decode cX1_arrivalByNodes 28 = .ok (.iload 5, 2) := by decide +kernel
theorem dX1_arrivalByNodes_30 : decode cX1_arrivalByNodes 30 = .ok (.iload_n 2, 1) := by decide +kernel
theorem dX1_arrivalByNodes_31 : decode cX1_arrivalByNodes 31 = .ok (.if_icmp .ne 6, 3) := by decide +kernel
theorem dX1_arrivalByNodes_34 : decode cX1_arrivalByNodes 34 = .ok (.goto 23, 3) := by decide +kernel
theorem dX1_arrivalByNodes_37 : decode cX1_arrivalByNodes 37 = .ok (.aload_n 0, 1) := by decide +kernel
theorem dX1_arrivalByNodes_38 : decode cX1_arrivalByNodes 38 = .ok (.getfield 27, 3) := by decide +kernel
theorem dX1_arrivalByNodes_41 : decode cX1_arrivalByNodes 41 = .ok (.iload 5, 2) := by decide +kernel
theorem dX1_arrivalByNodes_43 : decode cX1_arrivalByNodes 43 = .ok (.iconst 1, 1) := by decide +kernel
theorem dX1_arrivalByNodes_44 : decode cX1_arrivalByNodes 44 = .ok (.bastore, 1) := by decide +kernel
theorem dX1_arrivalByNodes_45 : decode cX1_arrivalByNodes 45 = .ok (.aload_n 0, 1) := by decide +kernel
theorem dX1_arrivalByNodes_46 : decode cX1_arrivalByNodes 46 = .ok (.iload 5, 2) := by decide +kernel
theorem dX1_arrivalByNodes_48 : decode cX1_arrivalByNodes 48 = .ok (.invokevirtual 43, 3) := by decide +kernel
theorem dX1_arrivalByNodes_51 : decode cX1_arrivalByNodes 51 = .ok (.iinc 4 1, 3) := by decide +kernel
theorem dX1_arrivalByNodes_54 : decode cX1_arrivalByNodes 54 = .ok (.goto (-45), 3) := by decide +kernel
theorem dX1_arrivalByNodes_57 : decode cX1_arrivalByNodes 57 = .ok (.aload_n 0, 1) := by decide +kernel
theorem dX1_arrivalByNodes_58 : decode cX1_arrivalByNodes 58 = .ok (.getfield 24, 3) := by decide +kernel
theorem dX1_arrivalByNodes_61 : decode cX1_arrivalByNodes 61 = .ok (.iload_n 2, 1) := by decide +kernel
theorem dX1_arrivalByNodes_62 : decode cX1_arrivalByNodes 62 = .ok (.iaload, 1) := by decide +kernel
theorem dX1_arrivalByNodes_63 : decode cX1_arrivalByNodes 63 = .ok (.ireturn, 1) := by decide +kernel
set_option maxRecDepth 20000 in
theorem ggX1_arrivalByContacts_X1_start : GoodIn wsX1_arrivalByContacts wsX1_start := goodIn_r _ [9, 4, 10, 11, 22, 23, 24, 25, 26, 27, 28] (by decide +kernel) (by decide +kernel)
set_option maxRecDepth 20000 in
theorem gX1_arrivalByContacts_X1_start : GoodIn wsX1_arrivalByContacts (wsV RX1 35 RX1 yX1_start wsX1_start) := goodIn_app (goodIn_of _ (by decide +kernel)) ggX1_arrivalByContacts_X1_start
set_option maxRecDepth 20000 in
theorem ggX1_arrivalByContacts_X1_carry : GoodIn wsX1_arrivalByContacts wsX1_carry := goodIn_r _ [15, 4, 16, 17, 18, 19, 20, 21, 22, 23, 24, 25, 26, 27, 28] (by decide +kernel) (by decide +kernel)
set_option maxRecDepth 20000 in
theorem gX1_arrivalByContacts_X1_carry : GoodIn wsX1_arrivalByContacts (wsV RX1 47 RX1 yX1_carry wsX1_carry) := goodIn_app (goodIn_of _ (by decide +kernel)) ggX1_arrivalByContacts_X1_carry
theorem dX1_arrivalByContacts_0 : decode cX1_arrivalByContacts 0 = .ok (.aload_n 0, 1) := by decide +kernel
theorem dX1_arrivalByContacts_1 : decode cX1_arrivalByContacts 1 = .ok (.iload_n 1, 1) := by decide +kernel
theorem dX1_arrivalByContacts_2 : decode cX1_arrivalByContacts 2 = .ok (.iload_n 3, 1) := by decide +kernel
theorem dX1_arrivalByContacts_3 : decode cX1_arrivalByContacts 3 = .ok (.invokevirtual 35, 3) := by decide +kernel
theorem dX1_arrivalByContacts_6 : decode cX1_arrivalByContacts 6 = .ok (.iconst 1, 1) := by decide +kernel
theorem dX1_arrivalByContacts_7 : decode cX1_arrivalByContacts 7 = .ok (.istore 4, 2) := by decide +kernel
theorem dX1_arrivalByContacts_9 : decode cX1_arrivalByContacts 9 = .ok (.iconst 0, 1) := by decide +kernel
theorem dX1_arrivalByContacts_10 : decode cX1_arrivalByContacts 10 = .ok (.istore 5, 2) := by decide +kernel
theorem dX1_arrivalByContacts_12 : decode cX1_arrivalByContacts 12 = .ok (.iload 5, 2) := by decide +kernel
theorem dX1_arrivalByContacts_14 : decode cX1_arrivalByContacts 14 = .ok (.bipush 8, 2) := by decide +kernel
theorem dX1_arrivalByContacts_16 : decode cX1_arrivalByContacts 16 = .ok (.if_icmp .ge 84, 3) := by decide +kernel
theorem dX1_arrivalByContacts_19 : decode cX1_arrivalByContacts 19 = .ok (.iload 4, 2) := by decide +kernel
theorem dX1_arrivalByContacts_21 : decode cX1_arrivalByContacts 21 = .ok (.ifCond .eq 79, 3) := by decide +kernel
theorem dX1_arrivalByContacts_24 : decode cX1_arrivalByContacts 24 = .ok (.iconst 0, 1) := by decide +kernel
theorem dX1_arrivalByContacts_25 : decode cX1_arrivalByContacts 25 = .ok (.istore 4, 2) := by decide +kernel
theorem dX1_arrivalByContacts_27 : decode cX1_arrivalByContacts 27 = .ok (.iconst 0, 1) := by decide +kernel
theorem dX1_arrivalByContacts_28 : decode cX1_arrivalByContacts 28 = .ok (.istore 6, 2) := by decide +kernel
theorem dX1_arrivalByContacts_30 : decode cX1_arrivalByContacts 30 = .ok (.iload 6, 2) := by decide +kernel
theorem dX1_arrivalByContacts_32 : decode cX1_arrivalByContacts 32 = .ok (.aload_n 0, 1) := by decide +kernel
theorem dX1_arrivalByContacts_33 : decode cX1_arrivalByContacts 33 = .ok (.getfield 31, 3) := by decide +kernel
theorem dX1_arrivalByContacts_36 : decode cX1_arrivalByContacts 36 = .ok (.if_icmp .ge 58, 3) := by decide +kernel
theorem dX1_arrivalByContacts_39 : decode cX1_arrivalByContacts 39 = .ok (.aload_n 0, 1) := by decide +kernel
theorem dX1_arrivalByContacts_40 : decode cX1_arrivalByContacts 40 = .ok (.iload 6, 2) := by decide +kernel
theorem dX1_arrivalByContacts_42 : decode cX1_arrivalByContacts 42 = .ok (.aload_n 0, 1) := by decide +kernel
theorem dX1_arrivalByContacts_43 : decode cX1_arrivalByContacts 43 = .ok (.getfield 9, 3) := by decide +kernel
theorem dX1_arrivalByContacts_46 : decode cX1_arrivalByContacts 46 = .ok (.iload 6, 2) := by decide +kernel
theorem dX1_arrivalByContacts_48 : decode cX1_arrivalByContacts 48 = .ok (.iaload, 1) := by decide +kernel
theorem dX1_arrivalByContacts_49 : decode cX1_arrivalByContacts 49 = .ok (.aload_n 0, 1) := by decide +kernel
theorem dX1_arrivalByContacts_50 : decode cX1_arrivalByContacts 50 = .ok (.getfield 15, 3) := by decide +kernel
theorem dX1_arrivalByContacts_53 : decode cX1_arrivalByContacts 53 = .ok (.iload 6, 2) := by decide +kernel
theorem dX1_arrivalByContacts_55 : decode cX1_arrivalByContacts 55 = .ok (.iaload, 1) := by decide +kernel
theorem dX1_arrivalByContacts_56 : decode cX1_arrivalByContacts 56 = .ok (.invokevirtual 47, 3) := by decide +kernel
theorem dX1_arrivalByContacts_59 : decode cX1_arrivalByContacts 59 = .ok (.ifCond .ne 26, 3) := by decide +kernel
theorem dX1_arrivalByContacts_62 : decode cX1_arrivalByContacts 62 = .ok (.aload_n 0, 1) := by decide +kernel
theorem dX1_arrivalByContacts_63 : decode cX1_arrivalByContacts 63 = .ok (.iload 6, 2) := by decide +kernel
theorem dX1_arrivalByContacts_65 : decode cX1_arrivalByContacts 65 = .ok (.aload_n 0, 1) := by decide +kernel
theorem dX1_arrivalByContacts_66 : decode cX1_arrivalByContacts 66 = .ok (.getfield 15, 3) := by decide +kernel
theorem dX1_arrivalByContacts_69 : decode cX1_arrivalByContacts 69 = .ok (.iload 6, 2) := by decide +kernel
theorem dX1_arrivalByContacts_71 : decode cX1_arrivalByContacts 71 = .ok (.iaload, 1) := by decide +kernel
theorem dX1_arrivalByContacts_72 : decode cX1_arrivalByContacts 72 = .ok (.aload_n 0, 1) := by decide +kernel
theorem dX1_arrivalByContacts_73 : decode cX1_arrivalByContacts 73 = .ok (.getfield 9, 3) := by decide +kernel
theorem dX1_arrivalByContacts_76 : decode cX1_arrivalByContacts 76 = .ok (.iload 6, 2) := by decide +kernel
theorem dX1_arrivalByContacts_78 : decode cX1_arrivalByContacts 78 = .ok (.iaload, 1) := by decide +kernel
theorem dX1_arrivalByContacts_79 : decode cX1_arrivalByContacts 79 = .ok (.invokevirtual 47, 3) := by decide +kernel
theorem dX1_arrivalByContacts_82 : decode cX1_arrivalByContacts 82 = .ok (.ifCond .eq 6, 3) := by decide +kernel
theorem dX1_arrivalByContacts_85 : decode cX1_arrivalByContacts 85 = .ok (.iconst 1, 1) := by decide +kernel
theorem dX1_arrivalByContacts_86 : decode cX1_arrivalByContacts 86 = .ok (.istore 4, 2) := by decide +kernel
theorem dX1_arrivalByContacts_88 : decode cX1_arrivalByContacts 88 = .ok (.iinc 6 1, 3) := by decide +kernel
theorem dX1_arrivalByContacts_91 : decode cX1_arrivalByContacts 91 = .ok (.goto (-61), 3) := by decide +kernel
theorem dX1_arrivalByContacts_94 : decode cX1_arrivalByContacts 94 = .ok (.iinc 5 1, 3) := by decide +kernel
theorem dX1_arrivalByContacts_97 : decode cX1_arrivalByContacts 97 = .ok (.goto (-85), 3) := by decide +kernel
theorem dX1_arrivalByContacts_100 : decode cX1_arrivalByContacts 100 = .ok (.aload_n 0, 1) := by decide +kernel
theorem dX1_arrivalByContacts_101 : decode cX1_arrivalByContacts 101 = .ok (.getfield 24, 3) := by decide +kernel
theorem dX1_arrivalByContacts_104 : decode cX1_arrivalByContacts 104 = .ok (.iload_n 2, 1) := by decide +kernel
theorem dX1_arrivalByContacts_105 : decode cX1_arrivalByContacts 105 = .ok (.iaload, 1) := by decide +kernel
theorem dX1_arrivalByContacts_106 : decode cX1_arrivalByContacts 106 = .ok (.ireturn, 1) := by decide +kernel
theorem dX1_start_0 : decode cX1_start 0 = .ok (.iconst 0, 1) := by decide +kernel
theorem dX1_start_1 : decode cX1_start 1 = .ok (.istore_n 3, 1) := by decide +kernel
theorem dX1_start_2 : decode cX1_start 2 = .ok (.iload_n 3, 1) := by decide +kernel
theorem dX1_start_3 : decode cX1_start 3 = .ok (.bipush 8, 2) := by decide +kernel
theorem dX1_start_5 : decode cX1_start 5 = .ok (.if_icmp .ge 24, 3) := by decide +kernel
theorem dX1_start_8 : decode cX1_start 8 = .ok (.aload_n 0, 1) := by decide +kernel
theorem dX1_start_9 : decode cX1_start 9 = .ok (.getfield 24, 3) := by decide +kernel
theorem dX1_start_12 : decode cX1_start 12 = .ok (.iload_n 3, 1) := by decide +kernel
theorem dX1_start_13 : decode cX1_start 13 = .ok (.ldc 51, 2) := by decide +kernel
theorem dX1_start_15 : decode cX1_start 15 = .ok (.iastore, 1) := by decide +kernel
theorem dX1_start_16 : decode cX1_start 16 = .ok (.aload_n 0, 1) := by decide +kernel
theorem dX1_start_17 : decode cX1_start 17 = .ok (.getfield 27, 3) := by decide +kernel
theorem dX1_start_20 : decode cX1_start 20 = .ok (.iload_n 3, 1) := by decide +kernel
theorem dX1_start_21 : decode cX1_start 21 = .ok (.iconst 0, 1) := by decide +kernel
theorem dX1_start_22 : decode cX1_start 22 = .ok (.bastore, 1) := by decide +kernel
theorem dX1_start_23 : decode cX1_start 23 = .ok (.iinc 3 1, 3) := by decide +kernel
theorem dX1_start_26 : decode cX1_start 26 = .ok (.goto (-24), 3) := by decide +kernel
theorem dX1_start_29 : decode cX1_start 29 = .ok (.aload_n 0, 1) := by decide +kernel
theorem dX1_start_30 : decode cX1_start 30 = .ok (.getfield 24, 3) := by decide +kernel
theorem dX1_start_33 : decode cX1_start 33 = .ok (.iload_n 1, 1) := by decide +kernel
theorem dX1_start_34 : decode cX1_start 34 = .ok (.iload_n 2, 1) := by decide +kernel
theorem dX1_start_35 : decode cX1_start 35 = .ok (.iastore, 1) := by decide +kernel
theorem dX1_start_36 : decode cX1_start 36 = .ok (.return_, 1) := by decide +kernel
theorem dX1_nearestUnsettled_0 : decode cX1_nearestUnsettled 0 = .ok (.iconst (-1), 1) := by decide +kernel
theorem dX1_nearestUnsettled_1 : decode cX1_nearestUnsettled 1 = .ok (.istore_n 1, 1) := by decide +kernel
theorem dX1_nearestUnsettled_2 : decode cX1_nearestUnsettled 2 = .ok (.ldc 51, 2) := by decide +kernel
theorem dX1_nearestUnsettled_4 : decode cX1_nearestUnsettled 4 = .ok (.istore_n 2, 1) := by decide +kernel
theorem dX1_nearestUnsettled_5 : decode cX1_nearestUnsettled 5 = .ok (.iconst 0, 1) := by decide +kernel
theorem dX1_nearestUnsettled_6 : decode cX1_nearestUnsettled 6 = .ok (.istore_n 3, 1) := by decide +kernel
theorem dX1_nearestUnsettled_7 : decode cX1_nearestUnsettled 7 = .ok (.iload_n 3, 1) := by decide +kernel
theorem dX1_nearestUnsettled_8 : decode cX1_nearestUnsettled 8 = .ok (.bipush 8, 2) := by decide +kernel
theorem dX1_nearestUnsettled_10 : decode cX1_nearestUnsettled 10 = .ok (.if_icmp .ge 37, 3) := by decide +kernel
theorem dX1_nearestUnsettled_13 : decode cX1_nearestUnsettled 13 = .ok (.aload_n 0, 1) := by decide +kernel
theorem dX1_nearestUnsettled_14 : decode cX1_nearestUnsettled 14 = .ok (.getfield 27, 3) := by decide +kernel
theorem dX1_nearestUnsettled_17 : decode cX1_nearestUnsettled 17 = .ok (.iload_n 3, 1) := by decide +kernel
theorem dX1_nearestUnsettled_18 : decode cX1_nearestUnsettled 18 = .ok (.baload, 1) := by decide +kernel
theorem dX1_nearestUnsettled_19 : decode cX1_nearestUnsettled 19 = .ok (.ifCond .ne 22, 3) := by decide +kernel
theorem dX1_nearestUnsettled_22 : decode cX1_nearestUnsettled 22 = .ok (.aload_n 0, 1) := by decide +kernel
theorem dX1_nearestUnsettled_23 : decode cX1_nearestUnsettled 23 = .ok (.getfield 24, 3) := by decide +kernel
theorem dX1_nearestUnsettled_26 : decode cX1_nearestUnsettled 26 = .ok (.iload_n 3, 1) := by decide +kernel
theorem dX1_nearestUnsettled_27 : decode cX1_nearestUnsettled 27 = .ok (.iaload, 1) := by decide +kernel
theorem dX1_nearestUnsettled_28 : decode cX1_nearestUnsettled 28 = .ok (.iload_n 2, 1) := by decide +kernel
theorem dX1_nearestUnsettled_29 : decode cX1_nearestUnsettled 29 = .ok (.if_icmp .ge 12, 3) := by decide +kernel
theorem dX1_nearestUnsettled_32 : decode cX1_nearestUnsettled 32 = .ok (.iload_n 3, 1) := by decide +kernel
theorem dX1_nearestUnsettled_33 : decode cX1_nearestUnsettled 33 = .ok (.istore_n 1, 1) := by decide +kernel
theorem dX1_nearestUnsettled_34 : decode cX1_nearestUnsettled 34 = .ok (.aload_n 0, 1) := by decide +kernel
theorem dX1_nearestUnsettled_35 : decode cX1_nearestUnsettled 35 = .ok (.getfield 24, 3) := by decide +kernel
theorem dX1_nearestUnsettled_38 : decode cX1_nearestUnsettled 38 = .ok (.iload_n 3, 1) := by decide +kernel
theorem dX1_nearestUnsettled_39 : decode cX1_nearestUnsettled 39 = .ok (.iaload, 1) := by decide +kernel
theorem dX1_nearestUnsettled_40 : decode cX1_nearestUnsettled 40 = .ok (.istore_n 2, 1) := by decide +kernel
theorem dX1_nearestUnsettled_41 : decode cX1_nearestUnsettled 41 = .ok (.iinc 3 1, 3) := by decide +kernel
theorem dX1_nearestUnsettled_44 : decode cX1_nearestUnsettled 44 = .ok (.goto (-37), 3) := by decide +kernel
theorem dX1_nearestUnsettled_47 : decode cX1_nearestUnsettled 47 = .ok (.iload_n 1, 1) := by decide +kernel
theorem dX1_nearestUnsettled_48 : decode cX1_nearestUnsettled 48 = .ok (.ireturn, 1) := by decide +kernel
set_option maxRecDepth 20000 in
theorem ggX1_spread_X1_carry : GoodIn wsX1_spread wsX1_carry := goodIn_r _ [8, 9, 10, 11, 12, 13, 14, 15, 16, 17, 18, 19, 20, 21, 22] (by decide +kernel) (by decide +kernel)
set_option maxRecDepth 20000 in
theorem gX1_spread_X1_carry : GoodIn wsX1_spread (wsV RX1 47 RX1 yX1_carry wsX1_carry) := goodIn_app (goodIn_of _ (by decide +kernel)) ggX1_spread_X1_carry
theorem dX1_spread_0 : decode cX1_spread 0 = .ok (.iconst 0, 1) := by decide +kernel
theorem dX1_spread_1 : decode cX1_spread 1 = .ok (.istore_n 2, 1) := by decide +kernel
theorem dX1_spread_2 : decode cX1_spread 2 = .ok (.iload_n 2, 1) := by decide +kernel
theorem dX1_spread_3 : decode cX1_spread 3 = .ok (.aload_n 0, 1) := by decide +kernel
theorem dX1_spread_4 : decode cX1_spread 4 = .ok (.getfield 31, 3) := by decide +kernel
theorem dX1_spread_7 : decode cX1_spread 7 = .ok (.if_icmp .ge 58, 3) := by decide +kernel
theorem dX1_spread_10 : decode cX1_spread 10 = .ok (.aload_n 0, 1) := by decide +kernel
theorem dX1_spread_11 : decode cX1_spread 11 = .ok (.getfield 9, 3) := by decide +kernel
theorem dX1_spread_14 : decode cX1_spread 14 = .ok (.iload_n 2, 1) := by decide +kernel
theorem dX1_spread_15 : decode cX1_spread 15 = .ok (.iaload, 1) := by decide +kernel
theorem dX1_spread_16 : decode cX1_spread 16 = .ok (.iload_n 1, 1) := by decide +kernel
theorem dX1_spread_17 : decode cX1_spread 17 = .ok (.if_icmp .ne 19, 3) := by decide +kernel
theorem dX1_spread_20 : decode cX1_spread 20 = .ok (.aload_n 0, 1) := by decide +kernel
theorem dX1_spread_21 : decode cX1_spread 21 = .ok (.iload_n 2, 1) := by decide +kernel
theorem dX1_spread_22 : decode cX1_spread 22 = .ok (.iload_n 1, 1) := by decide +kernel
theorem dX1_spread_23 : decode cX1_spread 23 = .ok (.aload_n 0, 1) := by decide +kernel
theorem dX1_spread_24 : decode cX1_spread 24 = .ok (.getfield 15, 3) := by decide +kernel
theorem dX1_spread_27 : decode cX1_spread 27 = .ok (.iload_n 2, 1) := by decide +kernel
theorem dX1_spread_28 : decode cX1_spread 28 = .ok (.iaload, 1) := by decide +kernel
theorem dX1_spread_29 : decode cX1_spread 29 = .ok (.invokevirtual 47, 3) := by decide +kernel
theorem dX1_spread_32 : decode cX1_spread 32 = .ok (.pop, 1) := by decide +kernel
theorem dX1_spread_33 : decode cX1_spread 33 = .ok (.goto 26, 3) := by decide +kernel
theorem dX1_spread_36 : decode cX1_spread 36 = .ok (.aload_n 0, 1) := by decide +kernel
theorem dX1_spread_37 : decode cX1_spread 37 = .ok (.getfield 15, 3) := by decide +kernel
theorem dX1_spread_40 : decode cX1_spread 40 = .ok (.iload_n 2, 1) := by decide +kernel
theorem dX1_spread_41 : decode cX1_spread 41 = .ok (.iaload, 1) := by decide +kernel
theorem dX1_spread_42 : decode cX1_spread 42 = .ok (.iload_n 1, 1) := by decide +kernel
theorem dX1_spread_43 : decode cX1_spread 43 = .ok (.if_icmp .ne 16, 3) := by decide +kernel
theorem dX1_spread_46 : decode cX1_spread 46 = .ok (.aload_n 0, 1) := by decide +kernel
theorem dX1_spread_47 : decode cX1_spread 47 = .ok (.iload_n 2, 1) := by decide +kernel
theorem dX1_spread_48 : decode cX1_spread 48 = .ok (.iload_n 1, 1) := by decide +kernel
theorem dX1_spread_49 : decode cX1_spread 49 = .ok (.aload_n 0, 1) := by decide +kernel
theorem dX1_spread_50 : decode cX1_spread 50 = .ok (.getfield 9, 3) := by decide +kernel
theorem dX1_spread_53 : decode cX1_spread 53 = .ok (.iload_n 2, 1) := by decide +kernel
theorem dX1_spread_54 : decode cX1_spread 54 = .ok (.iaload, 1) := by decide +kernel
theorem dX1_spread_55 : decode cX1_spread 55 = .ok (.invokevirtual 47, 3) := by decide +kernel
theorem dX1_spread_58 : decode cX1_spread 58 = .ok (.pop, 1) := by decide +kernel
theorem dX1_spread_59 : decode cX1_spread 59 = .ok (.iinc 2 1, 3) := by decide +kernel
theorem dX1_spread_62 : decode cX1_spread 62 = .ok (.goto (-60), 3) := by decide +kernel
theorem dX1_spread_65 : decode cX1_spread 65 = .ok (.return_, 1) := by decide +kernel
theorem dX1_carry_0 : decode cX1_carry 0 = .ok (.aload_n 0, 1) := by decide +kernel
theorem dX1_carry_1 : decode cX1_carry 1 = .ok (.getfield 24, 3) := by decide +kernel
theorem dX1_carry_4 : decode cX1_carry 4 = .ok (.iload_n 2, 1) := by decide +kernel
theorem dX1_carry_5 : decode cX1_carry 5 = .ok (.iaload, 1) := by decide +kernel
theorem dX1_carry_6 : decode cX1_carry 6 = .ok (.aload_n 0, 1) := by decide +kernel
theorem dX1_carry_7 : decode cX1_carry 7 = .ok (.getfield 21, 3) := by decide +kernel
theorem dX1_carry_10 : decode cX1_carry 10 = .ok (.iload_n 1, 1) := by decide +kernel
theorem dX1_carry_11 : decode cX1_carry 11 = .ok (.iaload, 1) := by decide +kernel
theorem dX1_carry_12 : decode cX1_carry 12 = .ok (.if_icmp .le 5, 3) := by decide +kernel
theorem dX1_carry_15 : decode cX1_carry 15 = .ok (.iconst 0, 1) := by decide +kernel
theorem dX1_carry_16 : decode cX1_carry 16 = .ok (.ireturn, 1) := by decide +kernel
theorem dX1_carry_17 : decode cX1_carry 17 = .ok (.aload_n 0, 1) := by decide +kernel
theorem dX1_carry_18 : decode cX1_carry 18 = .ok (.getfield 24, 3) := by decide +kernel
theorem dX1_carry_21 : decode cX1_carry 21 = .ok (.iload_n 2, 1) := by decide +kernel
theorem dX1_carry_22 : decode cX1_carry 22 = .ok (.iaload, 1) := by decide +kernel
theorem dX1_carry_23 : decode cX1_carry 23 = .ok (.aload_n 0, 1) := by decide +kernel
theorem dX1_carry_24 : decode cX1_carry 24 = .ok (.getfield 18, 3) := by decide +kernel
theorem dX1_carry_27 : decode cX1_carry 27 = .ok (.iload_n 1, 1) := by decide +kernel
theorem dX1_carry_28 : decode cX1_carry 28 = .ok (.iaload, 1) := by decide +kernel
theorem dX1_carry_29 : decode cX1_carry 29 = .ok (.invokestatic 52, 3) := by decide +kernel
theorem dX1_carry_32 : decode cX1_carry 32 = .ok (.istore 4, 2) := by decide +kernel
theorem dX1_carry_34 : decode cX1_carry 34 = .ok (.iload 4, 2) := by decide +kernel
theorem dX1_carry_36 : decode cX1_carry 36 = .ok (.aload_n 0, 1) := by decide +kernel
theorem dX1_carry_37 : decode cX1_carry 37 = .ok (.getfield 24, 3) := by decide +kernel
theorem dX1_carry_40 : decode cX1_carry 40 = .ok (.iload_n 3, 1) := by decide +kernel
theorem dX1_carry_41 : decode cX1_carry 41 = .ok (.iaload, 1) := by decide +kernel
theorem dX1_carry_42 : decode cX1_carry 42 = .ok (.if_icmp .lt 5, 3) := by decide +kernel
theorem dX1_carry_45 : decode cX1_carry 45 = .ok (.iconst 0, 1) := by decide +kernel
theorem dX1_carry_46 : decode cX1_carry 46 = .ok (.ireturn, 1) := by decide +kernel
theorem dX1_carry_47 : decode cX1_carry 47 = .ok (.aload_n 0, 1) := by decide +kernel
theorem dX1_carry_48 : decode cX1_carry 48 = .ok (.getfield 24, 3) := by decide +kernel
theorem dX1_carry_51 : decode cX1_carry 51 = .ok (.iload_n 3, 1) := by decide +kernel
theorem dX1_carry_52 : decode cX1_carry 52 = .ok (.iload 4, 2) := by decide +kernel
theorem dX1_carry_54 : decode cX1_carry 54 = .ok (.iastore, 1) := by decide +kernel
theorem dX1_carry_55 : decode cX1_carry 55 = .ok (.iconst 1, 1) := by decide +kernel
theorem dX1_carry_56 : decode cX1_carry 56 = .ok (.ireturn, 1) := by decide +kernel
