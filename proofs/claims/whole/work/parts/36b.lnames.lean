set_option maxRecDepth 20000 in
theorem ggL_send_X2_send : GoodIn wsL_send wsX2_send := goodIn_ca (goodIn_ca (goodIn_ca (goodIn_r _ [8, 9, 10, 11, 12, 13, 14, 15, 16, 17, 18, 19, 20, 21, 22, 23, 24, 7, 25, 26, 27, 28, 29, 30, 31, 32, 33, 34, 35, 36, 37, 38, 39, 40, 41, 42, 43, 44, 45, 46, 47, 48, 49, 50, 51, 52, 53, 54, 55, 56, 57, 58, 59, 60, 61, 62, 63, 64, 65, 66, 67, 68, 69, 70, 71, 72, 73, 74, 75, 76, 77, 78, 79, 80, 81, 82, 83, 84, 85, 86, 87, 88, 89, 90, 91, 92, 93, 94, 95, 96, 97, 98, 99, 100, 101, 102, 103, 104, 105, 106, 107, 108, 109, 110, 111, 112, 113, 114, 115, 116, 117, 118, 119, 120, 121, 122, 123, 124, 125, 126, 127, 128, 129, 130, 131, 132, 133, 134, 135, 136, 137, 138, 139, 140, 141, 142, 143, 144, 145, 146, 147, 148, 149, 150, 151, 152, 153, 154, 155, 156, 157, 158, 159, 160, 161, 162, 163, 164, 165, 166, 167, 168, 169, 170, 171, 172, 173, 174, 175, 176, 177, 178, 179, 180, 181, 182, 183, 184, 185, 186, 187, 188, 189, 190] (by decide +kernel) (by decide +kernel)) (goodIn_sub (fun _ h => List.mem_cons_of_mem _ (List.mem_append_left _ (List.mem_append_left _ (List.mem_append_right _ h)))) (by decide +kernel))) (goodIn_sub (fun _ h => List.mem_cons_of_mem _ (List.mem_append_left _ (List.mem_append_right _ h))) (by decide +kernel))) (goodIn_sub (fun _ h => List.mem_cons_of_mem _ (List.mem_append_right _ h)) (by decide +kernel))
set_option maxRecDepth 20000 in
theorem gL_send_X2_send : GoodIn wsL_send (wsV RL 7 RX2 yX2_send wsX2_send) := goodIn_app (goodIn_of _ (by decide +kernel)) ggL_send_X2_send
theorem dL_send_0 : decode cL_send 0 = .ok (.aload 6, 2) := by decide +kernel
theorem dL_send_2 : decode cL_send 2 = .ok (.iconst 0, 1) := by decide +kernel
theorem dL_send_3 : decode cL_send 3 = .ok (.aload_n 0, 1) := by decide +kernel
theorem dL_send_4 : decode cL_send 4 = .ok (.iload_n 1, 1) := by decide +kernel
theorem dL_send_5 : decode cL_send 5 = .ok (.iload_n 2, 1) := by decide +kernel
theorem dL_send_6 : decode cL_send 6 = .ok (.iload_n 3, 1) := by decide +kernel
theorem dL_send_7 : decode cL_send 7 = .ok (.iload 4, 2) := by decide +kernel
theorem dL_send_9 : decode cL_send 9 = .ok (.iload 5, 2) := by decide +kernel
theorem dL_send_11 : decode cL_send 11 = .ok (.invokevirtual 7, 3) := by decide +kernel
theorem dL_send_14 : decode cL_send 14 = .ok (.i2l, 1) := by decide +kernel
theorem dL_send_15 : decode cL_send 15 = .ok (.lastore, 1) := by decide +kernel
theorem dL_send_16 : decode cL_send 16 = .ok (.goto 15, 3) := by decide +kernel
theorem dL_send_19 : decode cL_send 19 = .ok (.astore 7, 2) := by decide +kernel
theorem dL_send_21 : decode cL_send 21 = .ok (.iconst 1, 1) := by decide +kernel
theorem dL_send_22 : decode cL_send 22 = .ok (.ireturn, 1) := by decide +kernel
theorem dL_send_23 : decode cL_send 23 = .ok (.astore 7, 2) := by decide +kernel
theorem dL_send_25 : decode cL_send 25 = .ok (.iconst 2, 1) := by decide +kernel
theorem dL_send_26 : decode cL_send 26 = .ok (.ireturn, 1) := by decide +kernel
theorem dL_send_27 : decode cL_send 27 = .ok (.astore 7, 2) := by decide +kernel
theorem dL_send_29 : decode cL_send 29 = .ok (.iconst 3, 1) := by decide +kernel
theorem dL_send_30 : decode cL_send 30 = .ok (.ireturn, 1) := by decide +kernel
theorem dL_send_31 : decode cL_send 31 = .ok (.iconst 0, 1) := by decide +kernel
theorem dL_send_32 : decode cL_send 32 = .ok (.ireturn, 1) := by decide +kernel
set_option maxRecDepth 20000 in
theorem ggL_meet_X2_meet : GoodIn wsL_meet wsX2_meet := goodIn_ca (goodIn_ca (goodIn_r _ [7, 8, 9, 10, 11, 12, 13, 6, 14, 15, 16, 17, 18, 19, 20, 21, 22, 23, 24, 25, 26, 27, 28, 29, 30, 31, 32, 33, 34, 35, 36, 37, 38, 39, 40, 41, 42, 43, 44, 45, 46, 47, 48, 49, 50, 51, 52, 53, 54, 55, 56, 57, 58, 59, 60, 61, 62, 63, 64, 65, 66, 67, 68, 69, 70, 71, 72, 73, 74, 75, 76, 77, 78, 79, 80, 81, 82, 83, 84, 85, 86, 87, 88, 89, 90, 91, 92, 93, 94, 95, 96, 97, 98, 99, 100, 101, 102, 103, 104, 105, 106, 107, 108, 109, 110, 111, 112, 113, 114, 115, 116, 117, 118, 119, 120, 121, 122, 123, 124, 125, 126, 127, 128, 129, 130, 131, 132, 133, 134, 135, 136, 137, 138, 139, 140, 141, 142, 143, 144, 145, 146, 147, 148, 149, 150, 151, 152, 153, 154, 155, 156, 157, 158, 159, 160, 161, 162, 163, 164, 165, 166, 167, 168, 169, 170, 171, 172, 173, 174, 175, 176, 177, 178, 179, 180, 181, 182, 183, 184, 185, 186, 187, 188, 189, 190, 191, 192, 193, 194, 195, 196, 197] (by decide +kernel) (by decide +kernel)) (goodIn_sub (fun _ h => List.mem_cons_of_mem _ (List.mem_append_left _ (List.mem_append_right _ h))) (by decide +kernel))) (goodIn_sub (fun _ h => List.mem_cons_of_mem _ (List.mem_append_right _ h)) (by decide +kernel))
set_option maxRecDepth 20000 in
theorem gL_meet_X2_meet : GoodIn wsL_meet (wsV RL 19 RX2 yX2_meet wsX2_meet) := goodIn_app (goodIn_of _ (by decide +kernel)) ggL_meet_X2_meet
theorem dL_meet_0 : decode cL_meet 0 = .ok (.aload 4, 2) := by decide +kernel
theorem dL_meet_2 : decode cL_meet 2 = .ok (.iconst 0, 1) := by decide +kernel
theorem dL_meet_3 : decode cL_meet 3 = .ok (.aload_n 0, 1) := by decide +kernel
theorem dL_meet_4 : decode cL_meet 4 = .ok (.iload_n 1, 1) := by decide +kernel
theorem dL_meet_5 : decode cL_meet 5 = .ok (.iload_n 2, 1) := by decide +kernel
theorem dL_meet_6 : decode cL_meet 6 = .ok (.iload_n 3, 1) := by decide +kernel
theorem dL_meet_7 : decode cL_meet 7 = .ok (.invokevirtual 19, 3) := by decide +kernel
theorem dL_meet_10 : decode cL_meet 10 = .ok (.i2l, 1) := by decide +kernel
theorem dL_meet_11 : decode cL_meet 11 = .ok (.lastore, 1) := by decide +kernel
theorem dL_meet_12 : decode cL_meet 12 = .ok (.goto 11, 3) := by decide +kernel
theorem dL_meet_15 : decode cL_meet 15 = .ok (.astore 5, 2) := by decide +kernel
theorem dL_meet_17 : decode cL_meet 17 = .ok (.iconst 1, 1) := by decide +kernel
theorem dL_meet_18 : decode cL_meet 18 = .ok (.ireturn, 1) := by decide +kernel
theorem dL_meet_19 : decode cL_meet 19 = .ok (.astore 5, 2) := by decide +kernel
theorem dL_meet_21 : decode cL_meet 21 = .ok (.iconst 2, 1) := by decide +kernel
theorem dL_meet_22 : decode cL_meet 22 = .ok (.ireturn, 1) := by decide +kernel
theorem dL_meet_23 : decode cL_meet 23 = .ok (.iconst 0, 1) := by decide +kernel
theorem dL_meet_24 : decode cL_meet 24 = .ok (.ireturn, 1) := by decide +kernel
set_option maxRecDepth 20000 in
theorem ggL_pass_X2_pass : GoodIn wsL_pass wsX2_pass := goodIn_ca (goodIn_r _ [6, 7, 8, 9, 10, 11, 12, 13, 14, 15, 5, 16, 17, 18, 19, 20, 21, 22, 23, 24, 25, 26, 27, 28, 29, 30, 31, 32, 33, 34, 35, 36, 37, 38, 39, 40, 41, 42, 43, 44, 45, 46, 47, 48, 49, 50, 51, 52, 53, 54, 55, 56, 57, 58, 59, 60, 61, 62, 63, 64, 65, 66, 67, 68, 69, 70, 71, 72, 73, 74, 75, 76] (by decide +kernel) (by decide +kernel)) (goodIn_sub (fun _ h => List.mem_cons_of_mem _ (List.mem_append_right _ h)) (by decide +kernel))
set_option maxRecDepth 20000 in
theorem gL_pass_X2_pass : GoodIn wsL_pass (wsV RL 23 RX2 yX2_pass wsX2_pass) := goodIn_app (goodIn_of _ (by decide +kernel)) ggL_pass_X2_pass
theorem dL_pass_0 : decode cL_pass 0 = .ok (.aload_n 2, 1) := by decide +kernel
theorem dL_pass_1 : decode cL_pass 1 = .ok (.iconst 0, 1) := by decide +kernel
theorem dL_pass_2 : decode cL_pass 2 = .ok (.aload_n 0, 1) := by decide +kernel
theorem dL_pass_3 : decode cL_pass 3 = .ok (.iload_n 1, 1) := by decide +kernel
theorem dL_pass_4 : decode cL_pass 4 = .ok (.invokevirtual 23, 3) := by decide +kernel
theorem dL_pass_7 : decode cL_pass 7 = .ok (.i2l, 1) := by decide +kernel
theorem dL_pass_8 : decode cL_pass 8 = .ok (.lastore, 1) := by decide +kernel
theorem dL_pass_9 : decode cL_pass 9 = .ok (.goto 6, 3) := by decide +kernel
theorem dL_pass_12 : decode cL_pass 12 = .ok (.astore_n 3, 1) := by decide +kernel
theorem dL_pass_13 : decode cL_pass 13 = .ok (.iconst 1, 1) := by decide +kernel
theorem dL_pass_14 : decode cL_pass 14 = .ok (.ireturn, 1) := by decide +kernel
theorem dL_pass_15 : decode cL_pass 15 = .ok (.iconst 0, 1) := by decide +kernel
theorem dL_pass_16 : decode cL_pass 16 = .ok (.ireturn, 1) := by decide +kernel
set_option maxRecDepth 20000 in
theorem ggL_setBuffer_X2_setBuffer : GoodIn wsL_setBuffer wsX2_setBuffer := goodIn_ca (goodIn_ca (goodIn_ca (goodIn_r _ [8, 9, 10, 11, 12, 13, 14, 15, 16, 17, 7, 18, 19, 20, 21, 22, 23, 24, 25, 26, 27, 28, 29, 30, 31, 32, 33, 34, 35, 36, 37, 38, 39, 40, 41, 42, 43, 44, 45, 46, 47, 48, 49, 50, 51, 52, 53, 54, 55, 56, 57, 58, 59, 60, 61, 62, 63, 64, 65, 66, 67, 68, 69, 70, 71, 72, 73, 74, 75, 76, 77] (by decide +kernel) (by decide +kernel)) (goodIn_sub (fun _ h => List.mem_cons_of_mem _ (List.mem_append_left _ (List.mem_append_left _ (List.mem_append_right _ h)))) (by decide +kernel))) (goodIn_sub (fun _ h => List.mem_cons_of_mem _ (List.mem_append_left _ (List.mem_append_right _ h))) (by decide +kernel))) (goodIn_sub (fun _ h => List.mem_cons_of_mem _ (List.mem_append_right _ h)) (by decide +kernel))
set_option maxRecDepth 20000 in
theorem gL_setBuffer_X2_setBuffer : GoodIn wsL_setBuffer (wsV RL 27 RX2 yX2_setBuffer wsX2_setBuffer) := goodIn_app (goodIn_of _ (by decide +kernel)) ggL_setBuffer_X2_setBuffer
theorem dL_setBuffer_0 : decode cL_setBuffer 0 = .ok (.aload_n 3, 1) := by decide +kernel
theorem dL_setBuffer_1 : decode cL_setBuffer 1 = .ok (.iconst 0, 1) := by decide +kernel
theorem dL_setBuffer_2 : decode cL_setBuffer 2 = .ok (.aload_n 0, 1) := by decide +kernel
theorem dL_setBuffer_3 : decode cL_setBuffer 3 = .ok (.iload_n 1, 1) := by decide +kernel
theorem dL_setBuffer_4 : decode cL_setBuffer 4 = .ok (.iload_n 2, 1) := by decide +kernel
theorem dL_setBuffer_5 : decode cL_setBuffer 5 = .ok (.invokevirtual 27, 3) := by decide +kernel
theorem dL_setBuffer_8 : decode cL_setBuffer 8 = .ok (.i2l, 1) := by decide +kernel
theorem dL_setBuffer_9 : decode cL_setBuffer 9 = .ok (.lastore, 1) := by decide +kernel
theorem dL_setBuffer_10 : decode cL_setBuffer 10 = .ok (.goto 15, 3) := by decide +kernel
theorem dL_setBuffer_13 : decode cL_setBuffer 13 = .ok (.astore 4, 2) := by decide +kernel
theorem dL_setBuffer_15 : decode cL_setBuffer 15 = .ok (.iconst 1, 1) := by decide +kernel
theorem dL_setBuffer_16 : decode cL_setBuffer 16 = .ok (.ireturn, 1) := by decide +kernel
theorem dL_setBuffer_17 : decode cL_setBuffer 17 = .ok (.astore 4, 2) := by decide +kernel
theorem dL_setBuffer_19 : decode cL_setBuffer 19 = .ok (.iconst 2, 1) := by decide +kernel
theorem dL_setBuffer_20 : decode cL_setBuffer 20 = .ok (.ireturn, 1) := by decide +kernel
theorem dL_setBuffer_21 : decode cL_setBuffer 21 = .ok (.astore 4, 2) := by decide +kernel
theorem dL_setBuffer_23 : decode cL_setBuffer 23 = .ok (.iconst 3, 1) := by decide +kernel
theorem dL_setBuffer_24 : decode cL_setBuffer 24 = .ok (.ireturn, 1) := by decide +kernel
theorem dL_setBuffer_25 : decode cL_setBuffer 25 = .ok (.iconst 0, 1) := by decide +kernel
theorem dL_setBuffer_26 : decode cL_setBuffer 26 = .ok (.ireturn, 1) := by decide +kernel
set_option maxRecDepth 20000 in
theorem ggL_addContact_X2_addContact : GoodIn wsL_addContact wsX2_addContact := goodIn_ca (goodIn_ca (goodIn_ca (goodIn_r _ [8, 9, 10, 11, 12, 13, 14, 15, 16, 17, 18, 19, 7, 20, 21, 22, 23, 24, 25, 26, 27, 28, 29, 30, 31, 32, 33, 34, 35, 36, 37, 38, 39, 40, 41, 42, 43, 44, 45, 46, 47] (by decide +kernel) (by decide +kernel)) (goodIn_sub (fun _ h => List.mem_cons_of_mem _ (List.mem_append_left _ (List.mem_append_left _ (List.mem_append_right _ h)))) (by decide +kernel))) (goodIn_sub (fun _ h => List.mem_cons_of_mem _ (List.mem_append_left _ (List.mem_append_right _ h))) (by decide +kernel))) (goodIn_sub (fun _ h => List.mem_cons_of_mem _ (List.mem_append_right _ h)) (by decide +kernel))
set_option maxRecDepth 20000 in
theorem gL_addContact_X2_addContact : GoodIn wsL_addContact (wsV RL 31 RX2 yX2_addContact wsX2_addContact) := goodIn_app (goodIn_of _ (by decide +kernel)) ggL_addContact_X2_addContact
theorem dL_addContact_0 : decode cL_addContact 0 = .ok (.aload 5, 2) := by decide +kernel
theorem dL_addContact_2 : decode cL_addContact 2 = .ok (.iconst 0, 1) := by decide +kernel
theorem dL_addContact_3 : decode cL_addContact 3 = .ok (.aload_n 0, 1) := by decide +kernel
theorem dL_addContact_4 : decode cL_addContact 4 = .ok (.iload_n 1, 1) := by decide +kernel
theorem dL_addContact_5 : decode cL_addContact 5 = .ok (.iload_n 2, 1) := by decide +kernel
theorem dL_addContact_6 : decode cL_addContact 6 = .ok (.iload_n 3, 1) := by decide +kernel
theorem dL_addContact_7 : decode cL_addContact 7 = .ok (.iload 4, 2) := by decide +kernel
theorem dL_addContact_9 : decode cL_addContact 9 = .ok (.invokevirtual 31, 3) := by decide +kernel
theorem dL_addContact_12 : decode cL_addContact 12 = .ok (.i2l, 1) := by decide +kernel
theorem dL_addContact_13 : decode cL_addContact 13 = .ok (.lastore, 1) := by decide +kernel
theorem dL_addContact_14 : decode cL_addContact 14 = .ok (.goto 15, 3) := by decide +kernel
theorem dL_addContact_17 : decode cL_addContact 17 = .ok (.astore 6, 2) := by decide +kernel
theorem dL_addContact_19 : decode cL_addContact 19 = .ok (.iconst 1, 1) := by decide +kernel
theorem dL_addContact_20 : decode cL_addContact 20 = .ok (.ireturn, 1) := by decide +kernel
theorem dL_addContact_21 : decode cL_addContact 21 = .ok (.astore 6, 2) := by decide +kernel
theorem dL_addContact_23 : decode cL_addContact 23 = .ok (.iconst 2, 1) := by decide +kernel
theorem dL_addContact_24 : decode cL_addContact 24 = .ok (.ireturn, 1) := by decide +kernel
theorem dL_addContact_25 : decode cL_addContact 25 = .ok (.astore 6, 2) := by decide +kernel
theorem dL_addContact_27 : decode cL_addContact 27 = .ok (.iconst 3, 1) := by decide +kernel
theorem dL_addContact_28 : decode cL_addContact 28 = .ok (.ireturn, 1) := by decide +kernel
theorem dL_addContact_29 : decode cL_addContact 29 = .ok (.iconst 0, 1) := by decide +kernel
theorem dL_addContact_30 : decode cL_addContact 30 = .ok (.ireturn, 1) := by decide +kernel
set_option maxRecDepth 20000 in
theorem ggL_endOf_X2_endOf : GoodIn wsL_endOf wsX2_endOf := goodIn_ca (goodIn_r _ [6, 7, 8, 9, 10, 5, 11, 12, 13, 14, 15, 16, 17, 18, 19, 20, 21, 22, 23, 24, 25, 26, 27, 28, 29, 30, 31, 32, 33, 34, 35, 36, 37, 38, 39, 40, 41, 42, 43, 44, 45, 46, 47, 48, 49, 50, 51, 52, 53, 54, 55, 56, 57, 58, 59] (by decide +kernel) (by decide +kernel)) (goodIn_sub (fun _ h => List.mem_cons_of_mem _ (List.mem_append_right _ h)) (by decide +kernel))
set_option maxRecDepth 20000 in
theorem gL_endOf_X2_endOf : GoodIn wsL_endOf (wsV RL 35 RX2 yX2_endOf wsX2_endOf) := goodIn_app (goodIn_of _ (by decide +kernel)) ggL_endOf_X2_endOf
theorem dL_endOf_0 : decode cL_endOf 0 = .ok (.aload_n 2, 1) := by decide +kernel
theorem dL_endOf_1 : decode cL_endOf 1 = .ok (.iconst 0, 1) := by decide +kernel
theorem dL_endOf_2 : decode cL_endOf 2 = .ok (.aload_n 0, 1) := by decide +kernel
theorem dL_endOf_3 : decode cL_endOf 3 = .ok (.iload_n 1, 1) := by decide +kernel
theorem dL_endOf_4 : decode cL_endOf 4 = .ok (.invokevirtual 35, 3) := by decide +kernel
theorem dL_endOf_7 : decode cL_endOf 7 = .ok (.i2l, 1) := by decide +kernel
theorem dL_endOf_8 : decode cL_endOf 8 = .ok (.lastore, 1) := by decide +kernel
theorem dL_endOf_9 : decode cL_endOf 9 = .ok (.goto 6, 3) := by decide +kernel
theorem dL_endOf_12 : decode cL_endOf 12 = .ok (.astore_n 3, 1) := by decide +kernel
theorem dL_endOf_13 : decode cL_endOf 13 = .ok (.iconst 1, 1) := by decide +kernel
theorem dL_endOf_14 : decode cL_endOf 14 = .ok (.ireturn, 1) := by decide +kernel
theorem dL_endOf_15 : decode cL_endOf 15 = .ok (.iconst 0, 1) := by decide +kernel
theorem dL_endOf_16 : decode cL_endOf 16 = .ok (.ireturn, 1) := by decide +kernel
set_option maxRecDepth 20000 in
theorem ggL_deliveredAt_X2_deliveredAt : GoodIn wsL_deliveredAt wsX2_deliveredAt := goodIn_ca (goodIn_r _ [6, 7, 8, 9, 10, 5, 11, 12, 13, 14, 15, 16, 17, 18, 19, 20, 21, 22, 23, 24, 25, 26, 27, 28, 29, 30, 31, 32, 33, 34, 35, 36, 37, 38, 39, 40, 41, 42, 43, 44, 45, 46, 47, 48, 49, 50, 51, 52, 53, 54, 55, 56, 57, 58, 59] (by decide +kernel) (by decide +kernel)) (goodIn_sub (fun _ h => List.mem_cons_of_mem _ (List.mem_append_right _ h)) (by decide +kernel))
set_option maxRecDepth 20000 in
theorem gL_deliveredAt_X2_deliveredAt : GoodIn wsL_deliveredAt (wsV RL 38 RX2 yX2_deliveredAt wsX2_deliveredAt) := goodIn_app (goodIn_of _ (by decide +kernel)) ggL_deliveredAt_X2_deliveredAt
theorem dL_deliveredAt_0 : decode cL_deliveredAt 0 = .ok (.aload_n 2, 1) := by decide +kernel
theorem dL_deliveredAt_1 : decode cL_deliveredAt 1 = .ok (.iconst 0, 1) := by decide +kernel
theorem dL_deliveredAt_2 : decode cL_deliveredAt 2 = .ok (.aload_n 0, 1) := by decide +kernel
theorem dL_deliveredAt_3 : decode cL_deliveredAt 3 = .ok (.iload_n 1, 1) := by decide +kernel
theorem dL_deliveredAt_4 : decode cL_deliveredAt 4 = .ok (.invokevirtual 38, 3) := by decide +kernel
theorem dL_deliveredAt_7 : decode cL_deliveredAt 7 = .ok (.i2l, 1) := by decide +kernel
theorem dL_deliveredAt_8 : decode cL_deliveredAt 8 = .ok (.lastore, 1) := by decide +kernel
theorem dL_deliveredAt_9 : decode cL_deliveredAt 9 = .ok (.goto 6, 3) := by decide +kernel
theorem dL_deliveredAt_12 : decode cL_deliveredAt 12 = .ok (.astore_n 3, 1) := by decide +kernel
theorem dL_deliveredAt_13 : decode cL_deliveredAt 13 = .ok (.iconst 1, 1) := by decide +kernel
theorem dL_deliveredAt_14 : decode cL_deliveredAt 14 = .ok (.ireturn, 1) := by decide +kernel
theorem dL_deliveredAt_15 : decode cL_deliveredAt 15 = .ok (.iconst 0, 1) := by decide +kernel
theorem dL_deliveredAt_16 : decode cL_deliveredAt 16 = .ok (.ireturn, 1) := by decide +kernel
set_option maxRecDepth 20000 in
theorem ggL_hops_X2_hops : GoodIn wsL_hops wsX2_hops := goodIn_ca (goodIn_r _ [6, 7, 8, 9, 10, 5, 11, 12, 13, 14, 15, 16, 17, 18, 19, 20, 21, 22, 23, 24, 25, 26, 27, 28, 29, 30, 31, 32, 33, 34, 35, 36, 37, 38, 39, 40, 41, 42, 43, 44, 45, 46, 47, 48, 49, 50, 51, 52, 53, 54, 55, 56, 57, 58, 59] (by decide +kernel) (by decide +kernel)) (goodIn_sub (fun _ h => List.mem_cons_of_mem _ (List.mem_append_right _ h)) (by decide +kernel))
set_option maxRecDepth 20000 in
theorem gL_hops_X2_hops : GoodIn wsL_hops (wsV RL 41 RX2 yX2_hops wsX2_hops) := goodIn_app (goodIn_of _ (by decide +kernel)) ggL_hops_X2_hops
theorem dL_hops_0 : decode cL_hops 0 = .ok (.aload_n 2, 1) := by decide +kernel
theorem dL_hops_1 : decode cL_hops 1 = .ok (.iconst 0, 1) := by decide +kernel
theorem dL_hops_2 : decode cL_hops 2 = .ok (.aload_n 0, 1) := by decide +kernel
theorem dL_hops_3 : decode cL_hops 3 = .ok (.iload_n 1, 1) := by decide +kernel
theorem dL_hops_4 : decode cL_hops 4 = .ok (.invokevirtual 41, 3) := by decide +kernel
theorem dL_hops_7 : decode cL_hops 7 = .ok (.i2l, 1) := by decide +kernel
theorem dL_hops_8 : decode cL_hops 8 = .ok (.lastore, 1) := by decide +kernel
theorem dL_hops_9 : decode cL_hops 9 = .ok (.goto 6, 3) := by decide +kernel
theorem dL_hops_12 : decode cL_hops 12 = .ok (.astore_n 3, 1) := by decide +kernel
theorem dL_hops_13 : decode cL_hops 13 = .ok (.iconst 1, 1) := by decide +kernel
theorem dL_hops_14 : decode cL_hops 14 = .ok (.ireturn, 1) := by decide +kernel
theorem dL_hops_15 : decode cL_hops 15 = .ok (.iconst 0, 1) := by decide +kernel
theorem dL_hops_16 : decode cL_hops 16 = .ok (.ireturn, 1) := by decide +kernel
set_option maxRecDepth 20000 in
theorem ggL_custodian_X2_custodian : GoodIn wsL_custodian wsX2_custodian := goodIn_ca (goodIn_r _ [6, 7, 8, 9, 10, 5, 11, 12, 13, 14, 15, 16, 17, 18, 19, 20, 21, 22, 23, 24, 25, 26, 27, 28, 29, 30, 31, 32, 33, 34, 35, 36, 37, 38, 39, 40, 41, 42, 43, 44, 45, 46, 47, 48, 49, 50, 51, 52, 53, 54, 55, 56, 57, 58, 59] (by decide +kernel) (by decide +kernel)) (goodIn_sub (fun _ h => List.mem_cons_of_mem _ (List.mem_append_right _ h)) (by decide +kernel))
set_option maxRecDepth 20000 in
theorem gL_custodian_X2_custodian : GoodIn wsL_custodian (wsV RL 44 RX2 yX2_custodian wsX2_custodian) := goodIn_app (goodIn_of _ (by decide +kernel)) ggL_custodian_X2_custodian
theorem dL_custodian_0 : decode cL_custodian 0 = .ok (.aload_n 2, 1) := by decide +kernel
theorem dL_custodian_1 : decode cL_custodian 1 = .ok (.iconst 0, 1) := by decide +kernel
theorem dL_custodian_2 : decode cL_custodian 2 = .ok (.aload_n 0, 1) := by decide +kernel
theorem dL_custodian_3 : decode cL_custodian 3 = .ok (.iload_n 1, 1) := by decide +kernel
theorem dL_custodian_4 : decode cL_custodian 4 = .ok (.invokevirtual 44, 3) := by decide +kernel
theorem dL_custodian_7 : decode cL_custodian 7 = .ok (.i2l, 1) := by decide +kernel
theorem dL_custodian_8 : decode cL_custodian 8 = .ok (.lastore, 1) := by decide +kernel
theorem dL_custodian_9 : decode cL_custodian 9 = .ok (.goto 6, 3) := by decide +kernel
theorem dL_custodian_12 : decode cL_custodian 12 = .ok (.astore_n 3, 1) := by decide +kernel
theorem dL_custodian_13 : decode cL_custodian 13 = .ok (.iconst 1, 1) := by decide +kernel
theorem dL_custodian_14 : decode cL_custodian 14 = .ok (.ireturn, 1) := by decide +kernel
theorem dL_custodian_15 : decode cL_custodian 15 = .ok (.iconst 0, 1) := by decide +kernel
theorem dL_custodian_16 : decode cL_custodian 16 = .ok (.ireturn, 1) := by decide +kernel
set_option maxRecDepth 20000 in
theorem ggL_holders_X2_holders : GoodIn wsL_holders wsX2_holders := goodIn_ca (goodIn_r _ [6, 7, 8, 9, 5, 10, 11, 12, 13, 14, 15, 16, 17, 18, 19, 20, 21, 22, 23, 24, 25, 26, 27, 28, 29, 30, 31, 32, 33, 34, 35, 36, 37, 38, 39, 40, 41, 42, 43, 44, 45, 46, 47, 48, 49, 50, 51, 52, 53, 54, 55, 56, 57, 58, 59, 60, 61, 62, 63, 64] (by decide +kernel) (by decide +kernel)) (goodIn_sub (fun _ h => List.mem_cons_of_mem _ (List.mem_append_right _ h)) (by decide +kernel))
set_option maxRecDepth 20000 in
theorem gL_holders_X2_holders : GoodIn wsL_holders (wsV RL 47 RX2 yX2_holders wsX2_holders) := goodIn_app (goodIn_of _ (by decide +kernel)) ggL_holders_X2_holders
theorem dL_holders_0 : decode cL_holders 0 = .ok (.aload_n 2, 1) := by decide +kernel
theorem dL_holders_1 : decode cL_holders 1 = .ok (.iconst 0, 1) := by decide +kernel
theorem dL_holders_2 : decode cL_holders 2 = .ok (.aload_n 0, 1) := by decide +kernel
theorem dL_holders_3 : decode cL_holders 3 = .ok (.iload_n 1, 1) := by decide +kernel
theorem dL_holders_4 : decode cL_holders 4 = .ok (.invokevirtual 47, 3) := by decide +kernel
theorem dL_holders_7 : decode cL_holders 7 = .ok (.i2l, 1) := by decide +kernel
theorem dL_holders_8 : decode cL_holders 8 = .ok (.lastore, 1) := by decide +kernel
theorem dL_holders_9 : decode cL_holders 9 = .ok (.goto 6, 3) := by decide +kernel
theorem dL_holders_12 : decode cL_holders 12 = .ok (.astore_n 3, 1) := by decide +kernel
theorem dL_holders_13 : decode cL_holders 13 = .ok (.iconst 1, 1) := by decide +kernel
theorem dL_holders_14 : decode cL_holders 14 = .ok (.ireturn, 1) := by decide +kernel
theorem dL_holders_15 : decode cL_holders 15 = .ok (.iconst 0, 1) := by decide +kernel
theorem dL_holders_16 : decode cL_holders 16 = .ok (.ireturn, 1) := by decide +kernel
set_option maxRecDepth 20000 in
theorem ggL_copies_X2_copies : GoodIn wsL_copies wsX2_copies := goodIn_ca (goodIn_r _ [6, 7, 8, 9, 5, 10, 11, 12, 13, 14, 15, 16, 17, 18, 19, 20, 21, 22, 23, 24, 25, 26, 27, 28, 29, 30, 31, 32, 33, 34, 35, 36, 37, 38, 39, 40, 41, 42, 43, 44, 45, 46, 47, 48, 49, 50, 51, 52, 53, 54, 55, 56, 57, 58, 59, 60, 61, 62, 63, 64, 65, 66, 67, 68] (by decide +kernel) (by decide +kernel)) (goodIn_sub (fun _ h => List.mem_cons_of_mem _ (List.mem_append_right _ h)) (by decide +kernel))
set_option maxRecDepth 20000 in
theorem gL_copies_X2_copies : GoodIn wsL_copies (wsV RL 50 RX2 yX2_copies wsX2_copies) := goodIn_app (goodIn_of _ (by decide +kernel)) ggL_copies_X2_copies
theorem dL_copies_0 : decode cL_copies 0 = .ok (.aload_n 3, 1) := by decide +kernel
theorem dL_copies_1 : decode cL_copies 1 = .ok (.iconst 0, 1) := by decide +kernel
theorem dL_copies_2 : decode cL_copies 2 = .ok (.aload_n 0, 1) := by decide +kernel
theorem dL_copies_3 : decode cL_copies 3 = .ok (.iload_n 1, 1) := by decide +kernel
theorem dL_copies_4 : decode cL_copies 4 = .ok (.iload_n 2, 1) := by decide +kernel
theorem dL_copies_5 : decode cL_copies 5 = .ok (.invokevirtual 50, 3) := by decide +kernel
theorem dL_copies_8 : decode cL_copies 8 = .ok (.i2l, 1) := by decide +kernel
theorem dL_copies_9 : decode cL_copies 9 = .ok (.lastore, 1) := by decide +kernel
theorem dL_copies_10 : decode cL_copies 10 = .ok (.goto 7, 3) := by decide +kernel
theorem dL_copies_13 : decode cL_copies 13 = .ok (.astore 4, 2) := by decide +kernel
theorem dL_copies_15 : decode cL_copies 15 = .ok (.iconst 1, 1) := by decide +kernel
theorem dL_copies_16 : decode cL_copies 16 = .ok (.ireturn, 1) := by decide +kernel
theorem dL_copies_17 : decode cL_copies 17 = .ok (.iconst 0, 1) := by decide +kernel
theorem dL_copies_18 : decode cL_copies 18 = .ok (.ireturn, 1) := by decide +kernel
set_option maxRecDepth 20000 in
theorem ggL_knows_X2_knows : GoodIn wsL_knows wsX2_knows := goodIn_ca (goodIn_r _ [6, 7, 8, 9, 5, 10, 11, 12, 13, 14, 15, 16, 17, 18, 19, 20, 21, 22, 23, 24, 25, 26, 27, 28, 29, 30, 31, 32, 33, 34, 35, 36, 37, 38, 39, 40, 41, 42, 43, 44, 45, 46, 47, 48, 49, 50, 51, 52, 53, 54, 55, 56, 57, 58, 59, 60, 61, 62, 63, 64, 65, 66, 67, 68] (by decide +kernel) (by decide +kernel)) (goodIn_sub (fun _ h => List.mem_cons_of_mem _ (List.mem_append_right _ h)) (by decide +kernel))
set_option maxRecDepth 20000 in
theorem gL_knows_X2_knows : GoodIn wsL_knows (wsV RL 53 RX2 yX2_knows wsX2_knows) := goodIn_app (goodIn_of _ (by decide +kernel)) ggL_knows_X2_knows
theorem dL_knows_0 : decode cL_knows 0 = .ok (.aload_n 3, 1) := by decide +kernel
theorem dL_knows_1 : decode cL_knows 1 = .ok (.iconst 0, 1) := by decide +kernel
theorem dL_knows_2 : decode cL_knows 2 = .ok (.aload_n 0, 1) := by decide +kernel
theorem dL_knows_3 : decode cL_knows 3 = .ok (.iload_n 1, 1) := by decide +kernel
theorem dL_knows_4 : decode cL_knows 4 = .ok (.iload_n 2, 1) := by decide +kernel
theorem dL_knows_5 : decode cL_knows 5 = .ok (.invokevirtual 53, 3) := by decide +kernel
theorem dL_knows_8 : decode cL_knows 8 = .ok (.ifCond .eq 7, 3) := by decide +kernel
theorem dL_knows_11 : decode cL_knows 11 = .ok (.lconst 1, 1) := by decide +kernel
theorem dL_knows_12 : decode cL_knows 12 = .ok (.goto 4, 3) := by decide +kernel
theorem dL_knows_15 : decode cL_knows 15 = .ok (.lconst 0, 1) := by decide +kernel
theorem dL_knows_16 : decode cL_knows 16 = .ok (.lastore, 1) := by decide +kernel
theorem dL_knows_17 : decode cL_knows 17 = .ok (.goto 7, 3) := by decide +kernel
theorem dL_knows_20 : decode cL_knows 20 = .ok (.astore 4, 2) := by decide +kernel
theorem dL_knows_22 : decode cL_knows 22 = .ok (.iconst 1, 1) := by decide +kernel
theorem dL_knows_23 : decode cL_knows 23 = .ok (.ireturn, 1) := by decide +kernel
theorem dL_knows_24 : decode cL_knows 24 = .ok (.iconst 0, 1) := by decide +kernel
theorem dL_knows_25 : decode cL_knows 25 = .ok (.ireturn, 1) := by decide +kernel
set_option maxRecDepth 20000 in
theorem ggL_held_X2_held : GoodIn wsL_held wsX2_held := goodIn_ca (goodIn_r _ [6, 7, 8, 5, 9, 10, 11, 12, 13, 14, 15, 16, 17, 18, 19, 20, 21, 22, 23, 24, 25, 26, 27, 28, 29, 30, 31, 32, 33, 34, 35, 36, 37, 38, 39, 40, 41, 42, 43, 44, 45, 46, 47, 48, 49, 50, 51, 52, 53, 54, 55, 56, 57, 58, 59, 60, 61, 62, 63, 64, 65, 66, 67, 68, 69, 70, 71, 72, 73] (by decide +kernel) (by decide +kernel)) (goodIn_sub (fun _ h => List.mem_cons_of_mem _ (List.mem_append_right _ h)) (by decide +kernel))
set_option maxRecDepth 20000 in
theorem gL_held_X2_held : GoodIn wsL_held (wsV RL 57 RX2 yX2_held wsX2_held) := goodIn_app (goodIn_of _ (by decide +kernel)) ggL_held_X2_held
theorem dL_held_0 : decode cL_held 0 = .ok (.aload_n 2, 1) := by decide +kernel
theorem dL_held_1 : decode cL_held 1 = .ok (.iconst 0, 1) := by decide +kernel
theorem dL_held_2 : decode cL_held 2 = .ok (.aload_n 0, 1) := by decide +kernel
theorem dL_held_3 : decode cL_held 3 = .ok (.iload_n 1, 1) := by decide +kernel
theorem dL_held_4 : decode cL_held 4 = .ok (.invokevirtual 57, 3) := by decide +kernel
theorem dL_held_7 : decode cL_held 7 = .ok (.i2l, 1) := by decide +kernel
theorem dL_held_8 : decode cL_held 8 = .ok (.lastore, 1) := by decide +kernel
theorem dL_held_9 : decode cL_held 9 = .ok (.goto 6, 3) := by decide +kernel
theorem dL_held_12 : decode cL_held 12 = .ok (.astore_n 3, 1) := by decide +kernel
theorem dL_held_13 : decode cL_held 13 = .ok (.iconst 1, 1) := by decide +kernel
theorem dL_held_14 : decode cL_held 14 = .ok (.ireturn, 1) := by decide +kernel
theorem dL_held_15 : decode cL_held 15 = .ok (.iconst 0, 1) := by decide +kernel
theorem dL_held_16 : decode cL_held 16 = .ok (.ireturn, 1) := by decide +kernel
set_option maxRecDepth 20000 in
theorem ggL_heldAt_X2_heldAt : GoodIn wsL_heldAt wsX2_heldAt := goodIn_ca (goodIn_r _ [6, 7, 8, 9, 10, 11, 12, 13, 5, 14, 15, 16, 17, 18, 19, 20, 21, 22, 23, 24, 25, 26, 27, 28, 29, 30, 31, 32, 33, 34, 35, 36, 37, 38, 39, 40, 41, 42, 43, 44, 45, 46, 47, 48, 49, 50, 51, 52, 53, 54, 55, 56, 57, 58, 59, 60, 61, 62, 63, 64, 65, 66, 67, 68, 69, 70] (by decide +kernel) (by decide +kernel)) (goodIn_sub (fun _ h => List.mem_cons_of_mem _ (List.mem_append_right _ h)) (by decide +kernel))
set_option maxRecDepth 20000 in
theorem gL_heldAt_X2_heldAt : GoodIn wsL_heldAt (wsV RL 60 RX2 yX2_heldAt wsX2_heldAt) := goodIn_app (goodIn_of _ (by decide +kernel)) ggL_heldAt_X2_heldAt
theorem dL_heldAt_0 : decode cL_heldAt 0 = .ok (.aload_n 3, 1) := by decide +kernel
theorem dL_heldAt_1 : decode cL_heldAt 1 = .ok (.iconst 0, 1) := by decide +kernel
theorem dL_heldAt_2 : decode cL_heldAt 2 = .ok (.aload_n 0, 1) := by decide +kernel
theorem dL_heldAt_3 : decode cL_heldAt 3 = .ok (.iload_n 1, 1) := by decide +kernel
theorem dL_heldAt_4 : decode cL_heldAt 4 = .ok (.iload_n 2, 1) := by decide +kernel
theorem dL_heldAt_5 : decode cL_heldAt 5 = .ok (.invokevirtual 60, 3) := by decide +kernel
theorem dL_heldAt_8 : decode cL_heldAt 8 = .ok (.i2l, 1) := by decide +kernel
theorem dL_heldAt_9 : decode cL_heldAt 9 = .ok (.lastore, 1) := by decide +kernel
theorem dL_heldAt_10 : decode cL_heldAt 10 = .ok (.goto 7, 3) := by decide +kernel
theorem dL_heldAt_13 : decode cL_heldAt 13 = .ok (.astore 4, 2) := by decide +kernel
theorem dL_heldAt_15 : decode cL_heldAt 15 = .ok (.iconst 1, 1) := by decide +kernel
theorem dL_heldAt_16 : decode cL_heldAt 16 = .ok (.ireturn, 1) := by decide +kernel
theorem dL_heldAt_17 : decode cL_heldAt 17 = .ok (.iconst 0, 1) := by decide +kernel
theorem dL_heldAt_18 : decode cL_heldAt 18 = .ok (.ireturn, 1) := by decide +kernel
set_option maxRecDepth 20000 in
theorem ggL_dropped_X2_dropped : GoodIn wsL_dropped wsX2_dropped := goodIn_ca (goodIn_r _ [6, 7, 8, 9, 5, 10, 11, 12, 13, 14, 15, 16, 17, 18, 19, 20, 21, 22, 23, 24, 25] (by decide +kernel) (by decide +kernel)) (goodIn_sub (fun _ h => List.mem_cons_of_mem _ (List.mem_append_right _ h)) (by decide +kernel))
set_option maxRecDepth 20000 in
theorem gL_dropped_X2_dropped : GoodIn wsL_dropped (wsV RL 63 RX2 yX2_dropped wsX2_dropped) := goodIn_app (goodIn_of _ (by decide +kernel)) ggL_dropped_X2_dropped
theorem dL_dropped_0 : decode cL_dropped 0 = .ok (.aload_n 2, 1) := by decide +kernel
theorem dL_dropped_1 : decode cL_dropped 1 = .ok (.iconst 0, 1) := by decide +kernel
theorem dL_dropped_2 : decode cL_dropped 2 = .ok (.aload_n 0, 1) := by decide +kernel
theorem dL_dropped_3 : decode cL_dropped 3 = .ok (.iload_n 1, 1) := by decide +kernel
theorem dL_dropped_4 : decode cL_dropped 4 = .ok (.invokevirtual 63, 3) := by decide +kernel
theorem dL_dropped_7 : decode cL_dropped 7 = .ok (.i2l, 1) := by decide +kernel
theorem dL_dropped_8 : decode cL_dropped 8 = .ok (.lastore, 1) := by decide +kernel
theorem dL_dropped_9 : decode cL_dropped 9 = .ok (.goto 6, 3) := by decide +kernel
theorem dL_dropped_12 : decode cL_dropped 12 = .ok (.astore_n 3, 1) := by decide +kernel
theorem dL_dropped_13 : decode cL_dropped 13 = .ok (.iconst 1, 1) := by decide +kernel
theorem dL_dropped_14 : decode cL_dropped 14 = .ok (.ireturn, 1) := by decide +kernel
theorem dL_dropped_15 : decode cL_dropped 15 = .ok (.iconst 0, 1) := by decide +kernel
theorem dL_dropped_16 : decode cL_dropped 16 = .ok (.ireturn, 1) := by decide +kernel
set_option maxRecDepth 20000 in
theorem ggL_refused_X2_refused : GoodIn wsL_refused wsX2_refused := goodIn_ca (goodIn_r _ [6, 7, 8, 9, 5, 10, 11, 12, 13, 14, 15, 16, 17, 18, 19, 20, 21, 22, 23, 24, 25] (by decide +kernel) (by decide +kernel)) (goodIn_sub (fun _ h => List.mem_cons_of_mem _ (List.mem_append_right _ h)) (by decide +kernel))
set_option maxRecDepth 20000 in
theorem gL_refused_X2_refused : GoodIn wsL_refused (wsV RL 66 RX2 yX2_refused wsX2_refused) := goodIn_app (goodIn_of _ (by decide +kernel)) ggL_refused_X2_refused
theorem dL_refused_0 : decode cL_refused 0 = .ok (.aload_n 2, 1) := by decide +kernel
theorem dL_refused_1 : decode cL_refused 1 = .ok (.iconst 0, 1) := by decide +kernel
theorem dL_refused_2 : decode cL_refused 2 = .ok (.aload_n 0, 1) := by decide +kernel
theorem dL_refused_3 : decode cL_refused 3 = .ok (.iload_n 1, 1) := by decide +kernel
theorem dL_refused_4 : decode cL_refused 4 = .ok (.invokevirtual 66, 3) := by decide +kernel
theorem dL_refused_7 : decode cL_refused 7 = .ok (.i2l, 1) := by decide +kernel
theorem dL_refused_8 : decode cL_refused 8 = .ok (.lastore, 1) := by decide +kernel
theorem dL_refused_9 : decode cL_refused 9 = .ok (.goto 6, 3) := by decide +kernel
theorem dL_refused_12 : decode cL_refused 12 = .ok (.astore_n 3, 1) := by decide +kernel
theorem dL_refused_13 : decode cL_refused 13 = .ok (.iconst 1, 1) := by decide +kernel
theorem dL_refused_14 : decode cL_refused 14 = .ok (.ireturn, 1) := by decide +kernel
theorem dL_refused_15 : decode cL_refused 15 = .ok (.iconst 0, 1) := by decide +kernel
theorem dL_refused_16 : decode cL_refused 16 = .ok (.ireturn, 1) := by decide +kernel
set_option maxRecDepth 20000 in
theorem ggL_arrival_X2_arrival : GoodIn wsL_arrival wsX2_arrival := goodIn_ca (goodIn_r _ [6, 7, 8, 9, 10, 5, 11, 12, 13, 14, 15, 16, 17, 18, 19, 20, 21, 22, 23, 24, 25, 26, 27, 28, 29, 30, 31, 32, 33, 34, 35, 36, 37, 38, 39, 40, 41, 42, 43, 44, 45, 46, 47, 48, 49, 50, 51, 52, 53, 54, 55, 56, 57, 58, 59, 60, 61, 62, 63, 64, 65, 66, 67, 68, 69, 70] (by decide +kernel) (by decide +kernel)) (goodIn_sub (fun _ h => List.mem_cons_of_mem _ (List.mem_append_right _ h)) (by decide +kernel))
set_option maxRecDepth 20000 in
theorem gL_arrival_X2_arrival : GoodIn wsL_arrival (wsV RL 69 RX2 yX2_arrival wsX2_arrival) := goodIn_app (goodIn_of _ (by decide +kernel)) ggL_arrival_X2_arrival
theorem dL_arrival_0 : decode cL_arrival 0 = .ok (.aload_n 3, 1) := by decide +kernel
theorem dL_arrival_1 : decode cL_arrival 1 = .ok (.iconst 0, 1) := by decide +kernel
theorem dL_arrival_2 : decode cL_arrival 2 = .ok (.aload_n 0, 1) := by decide +kernel
theorem dL_arrival_3 : decode cL_arrival 3 = .ok (.iload_n 1, 1) := by decide +kernel
theorem dL_arrival_4 : decode cL_arrival 4 = .ok (.iload_n 2, 1) := by decide +kernel
theorem dL_arrival_5 : decode cL_arrival 5 = .ok (.invokevirtual 69, 3) := by decide +kernel
theorem dL_arrival_8 : decode cL_arrival 8 = .ok (.i2l, 1) := by decide +kernel
theorem dL_arrival_9 : decode cL_arrival 9 = .ok (.lastore, 1) := by decide +kernel
theorem dL_arrival_10 : decode cL_arrival 10 = .ok (.goto 7, 3) := by decide +kernel
theorem dL_arrival_13 : decode cL_arrival 13 = .ok (.astore 4, 2) := by decide +kernel
theorem dL_arrival_15 : decode cL_arrival 15 = .ok (.iconst 1, 1) := by decide +kernel
theorem dL_arrival_16 : decode cL_arrival 16 = .ok (.ireturn, 1) := by decide +kernel
theorem dL_arrival_17 : decode cL_arrival 17 = .ok (.iconst 0, 1) := by decide +kernel
theorem dL_arrival_18 : decode cL_arrival 18 = .ok (.ireturn, 1) := by decide +kernel
set_option maxRecDepth 20000 in
theorem ggL_arrivalByRounds_X2_arrivalByRounds : GoodIn wsL_arrivalByRounds wsX2_arrivalByRounds := goodIn_ca (goodIn_r _ [6, 7, 8, 9, 10, 5, 11, 12, 13, 14, 15, 16, 17, 18, 19, 20, 21, 22, 23, 24, 25, 26, 27, 28, 29, 30, 31, 32, 33, 34, 35, 36, 37, 38, 39, 40, 41, 42, 43, 44, 45, 46, 47, 48, 49, 50, 51, 52, 53, 54, 55, 56, 57, 58, 59, 60, 61, 62] (by decide +kernel) (by decide +kernel)) (goodIn_sub (fun _ h => List.mem_cons_of_mem _ (List.mem_append_right _ h)) (by decide +kernel))
set_option maxRecDepth 20000 in
theorem gL_arrivalByRounds_X2_arrivalByRounds : GoodIn wsL_arrivalByRounds (wsV RL 72 RX2 yX2_arrivalByRounds wsX2_arrivalByRounds) := goodIn_app (goodIn_of _ (by decide +kernel)) ggL_arrivalByRounds_X2_arrivalByRounds
theorem dL_arrivalByRounds_0 : decode cL_arrivalByRounds 0 = .ok (.aload_n 3, 1) := by decide +kernel
theorem dL_arrivalByRounds_1 : decode cL_arrivalByRounds 1 = .ok (.iconst 0, 1) := by decide +kernel
theorem dL_arrivalByRounds_2 : decode cL_arrivalByRounds 2 = .ok (.aload_n 0, 1) := by decide +kernel
theorem dL_arrivalByRounds_3 : decode cL_arrivalByRounds 3 = .ok (.iload_n 1, 1) := by decide +kernel
theorem dL_arrivalByRounds_4 : decode cL_arrivalByRounds 4 = .ok (.iload_n 2, 1) := by decide +kernel
theorem dL_arrivalByRounds_5 : decode cL_arrivalByRounds 5 = .ok (.invokevirtual 72, 3) := by decide +kernel
theorem dL_arrivalByRounds_8 : decode cL_arrivalByRounds 8 = .ok (.i2l, 1) := by decide +kernel
theorem dL_arrivalByRounds_9 : decode cL_arrivalByRounds 9 = .ok (.lastore, 1) := by decide +kernel
theorem dL_arrivalByRounds_10 : decode cL_arrivalByRounds 10 = .ok (.goto 7, 3) := by decide +kernel
theorem dL_arrivalByRounds_13 : decode cL_arrivalByRounds 13 = .ok (.astore 4, 2) := by decide +kernel
theorem dL_arrivalByRounds_15 : decode cL_arrivalByRounds 15 = .ok (.iconst 1, 1) := by decide +kernel
theorem dL_arrivalByRounds_16 : decode cL_arrivalByRounds 16 = .ok (.ireturn, 1) := by decide +kernel
theorem dL_arrivalByRounds_17 : decode cL_arrivalByRounds 17 = .ok (.iconst 0, 1) := by decide +kernel
theorem dL_arrivalByRounds_18 : decode cL_arrivalByRounds 18 = .ok (.ireturn, 1) := by decide +kernel
set_option maxRecDepth 20000 in
theorem ggL_promised_X2_promised : GoodIn wsL_promised wsX2_promised := goodIn_ca (goodIn_r _ [6, 7, 8, 9, 10, 11, 12, 13, 14, 15, 16, 17, 18, 5, 19, 20, 21, 22, 23, 24, 25, 26, 27, 28, 29, 30, 31, 32, 33, 34, 35, 36, 37, 38, 39, 40, 41, 42, 43, 44, 45, 46, 47, 48, 49, 50, 51, 52, 53, 54, 55, 56, 57, 58, 59, 60, 61, 62, 63, 64, 65, 66, 67, 68, 69, 70, 71, 72, 73, 74, 75, 76, 77, 78, 79, 80, 81, 82, 83, 84, 85, 86, 87, 88, 89, 90, 91, 92, 93, 94, 95, 96, 97, 98, 99, 100, 101, 102, 103, 104, 105, 106, 107, 108, 109, 110, 111, 112, 113, 114, 115] (by decide +kernel) (by decide +kernel)) (goodIn_sub (fun _ h => List.mem_cons_of_mem _ (List.mem_append_right _ h)) (by decide +kernel))
set_option maxRecDepth 20000 in
theorem gL_promised_X2_promised : GoodIn wsL_promised (wsV RL 75 RX2 yX2_promised wsX2_promised) := goodIn_app (goodIn_of _ (by decide +kernel)) ggL_promised_X2_promised
theorem dL_promised_0 : decode cL_promised 0 = .ok (.aload_n 2, 1) := by decide +kernel
theorem dL_promised_1 : decode cL_promised 1 = .ok (.iconst 0, 1) := by decide +kernel
theorem dL_promised_2 : decode cL_promised 2 = .ok (.aload_n 0, 1) := by decide +kernel
theorem dL_promised_3 : decode cL_promised 3 = .ok (.iload_n 1, 1) := by decide +kernel
theorem dL_promised_4 : decode cL_promised 4 = .ok (.invokevirtual 75, 3) := by decide +kernel
theorem dL_promised_7 : decode cL_promised 7 = .ok (.i2l, 1) := by decide +kernel
theorem dL_promised_8 : decode cL_promised 8 = .ok (.lastore, 1) := by decide +kernel
theorem dL_promised_9 : decode cL_promised 9 = .ok (.goto 6, 3) := by decide +kernel
theorem dL_promised_12 : decode cL_promised 12 = .ok (.astore_n 3, 1) := by decide +kernel
theorem dL_promised_13 : decode cL_promised 13 = .ok (.iconst 1, 1) := by decide +kernel
theorem dL_promised_14 : decode cL_promised 14 = .ok (.ireturn, 1) := by decide +kernel
theorem dL_promised_15 : decode cL_promised 15 = .ok (.iconst 0, 1) := by decide +kernel
theorem dL_promised_16 : decode cL_promised 16 = .ok (.ireturn, 1) := by decide +kernel
