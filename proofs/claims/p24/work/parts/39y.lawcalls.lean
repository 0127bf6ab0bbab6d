set_option maxRecDepth 20000 in
theorem ggL_send_X2_send : GoodIn wsL_send wsX2_send := goodIn_ca (goodIn_ca (goodIn_ca (goodIn_r _ [8, 9, 10, 11, 12, 13, 14, 15, 16, 17, 18, 19, 20, 21, 22, 23, 24, 7, 25, 26, 27, 28, 29, 30, 31, 32, 33, 34, 35, 36, 37, 38, 39, 40, 41, 42, 43, 44, 45, 46, 47, 48, 49, 50, 51, 52, 53, 54, 55, 56, 57, 58, 59, 60, 61, 62, 63, 64, 65, 66, 67, 68, 69, 70, 71, 72, 73, 74, 75, 76, 77, 78, 79, 80, 81, 82, 83, 84, 85, 86, 87, 88, 89, 90, 91, 92, 93, 94, 95, 96, 97, 98, 99, 100, 101, 102, 103, 104, 105, 106, 107, 108, 109, 110, 111, 112, 113, 114, 115, 116, 117, 118, 119, 120, 121, 122, 123, 124, 125, 126, 127, 128, 129, 130, 131, 132, 133, 134, 135, 136, 137, 138, 139, 140, 141, 142, 143, 144, 145, 146, 147, 148, 149, 150, 151, 152, 153, 154, 155, 156, 157, 158, 159, 160, 161, 162, 163, 164, 165, 166, 167, 168, 169, 170, 171, 172, 173, 174, 175, 176, 177, 178, 179, 180, 181, 182, 183, 184, 185, 186, 187, 188, 189, 190] (by decide +kernel) (by decide +kernel)) (goodIn_sub (fun _ h => List.mem_cons_of_mem _ (List.mem_append_left _ (List.mem_append_left _ (List.mem_append_right _ h)))) (by decide +kernel))) (goodIn_sub (fun _ h => List.mem_cons_of_mem _ (List.mem_append_left _ (List.mem_append_right _ h))) (by decide +kernel))) (goodIn_sub (fun _ h => List.mem_cons_of_mem _ (List.mem_append_right _ h)) (by decide +kernel))
set_option maxRecDepth 20000 in
theorem gL_send_X2_send : GoodIn wsL_send (wsV RL 9 RX2 yX2_send wsX2_send) := goodIn_app (goodIn_of _ (by decide +kernel)) ggL_send_X2_send
set_option maxRecDepth 20000 in
theorem ggL_meet_X2_meet : GoodIn wsL_meet wsX2_meet := goodIn_ca (goodIn_ca (goodIn_r _ [7, 8, 9, 10, 11, 12, 13, 6, 14, 15, 16, 17, 18, 19, 20, 21, 22, 23, 24, 25, 26, 27, 28, 29, 30, 31, 32, 33, 34, 35, 36, 37, 38, 39, 40, 41, 42, 43, 44, 45, 46, 47, 48, 49, 50, 51, 52, 53, 54, 55, 56, 57, 58, 59, 60, 61, 62, 63, 64, 65, 66, 67, 68, 69, 70, 71, 72, 73, 74, 75, 76, 77, 78, 79, 80, 81, 82, 83, 84, 85, 86, 87, 88, 89, 90, 91, 92, 93, 94, 95, 96, 97, 98, 99, 100, 101, 102, 103, 104, 105, 106, 107, 108, 109, 110, 111, 112, 113, 114, 115, 116, 117, 118, 119, 120, 121, 122, 123, 124, 125, 126, 127, 128, 129, 130, 131, 132, 133, 134, 135, 136, 137, 138, 139, 140, 141, 142, 143, 144, 145, 146, 147, 148, 149, 150, 151, 152, 153, 154, 155, 156, 157, 158, 159, 160, 161, 162, 163, 164, 165, 166, 167, 168, 169, 170, 171, 172, 173, 174, 175, 176, 177, 178, 179, 180, 181, 182, 183, 184, 185, 186, 187, 188, 189, 190, 191, 192, 193, 194, 195, 196, 197] (by decide +kernel) (by decide +kernel)) (goodIn_sub (fun _ h => List.mem_cons_of_mem _ (List.mem_append_left _ (List.mem_append_right _ h))) (by decide +kernel))) (goodIn_sub (fun _ h => List.mem_cons_of_mem _ (List.mem_append_right _ h)) (by decide +kernel))
set_option maxRecDepth 20000 in
theorem gL_meet_X2_meet : GoodIn wsL_meet (wsV RL 21 RX2 yX2_meet wsX2_meet) := goodIn_app (goodIn_of _ (by decide +kernel)) ggL_meet_X2_meet
set_option maxRecDepth 20000 in
theorem ggL_pass_X2_pass : GoodIn wsL_pass wsX2_pass := goodIn_ca (goodIn_r _ [6, 7, 8, 9, 10, 11, 12, 13, 14, 15, 5, 16, 17, 18, 19, 20, 21, 22, 23, 24, 25, 26, 27, 28, 29, 30, 31, 32, 33, 34, 35, 36, 37, 38, 39, 40, 41, 42, 43, 44, 45, 46, 47, 48, 49, 50, 51, 52, 53, 54, 55, 56, 57, 58, 59, 60, 61, 62, 63, 64, 65, 66, 67, 68, 69, 70, 71, 72, 73, 74, 75, 76] (by decide +kernel) (by decide +kernel)) (goodIn_sub (fun _ h => List.mem_cons_of_mem _ (List.mem_append_right _ h)) (by decide +kernel))
set_option maxRecDepth 20000 in
theorem gL_pass_X2_pass : GoodIn wsL_pass (wsV RL 25 RX2 yX2_pass wsX2_pass) := goodIn_app (goodIn_of _ (by decide +kernel)) ggL_pass_X2_pass
set_option maxRecDepth 20000 in
theorem ggL_buffer_X2_setBuffer : GoodIn wsL_buffer wsX2_setBuffer := goodIn_ca (goodIn_ca (goodIn_ca (goodIn_r _ [8, 9, 10, 11, 12, 13, 14, 15, 16, 17, 7, 18, 19, 20, 21, 22, 23, 24, 25, 26, 27, 28, 29, 30, 31, 32, 33, 34, 35, 36, 37, 38, 39, 40, 41, 42, 43, 44, 45, 46, 47, 48, 49, 50, 51, 52, 53, 54, 55, 56, 57, 58, 59, 60, 61, 62, 63, 64, 65, 66, 67, 68, 69, 70, 71, 72, 73, 74, 75, 76, 77] (by decide +kernel) (by decide +kernel)) (goodIn_sub (fun _ h => List.mem_cons_of_mem _ (List.mem_append_left _ (List.mem_append_left _ (List.mem_append_right _ h)))) (by decide +kernel))) (goodIn_sub (fun _ h => List.mem_cons_of_mem _ (List.mem_append_left _ (List.mem_append_right _ h))) (by decide +kernel))) (goodIn_sub (fun _ h => List.mem_cons_of_mem _ (List.mem_append_right _ h)) (by decide +kernel))
set_option maxRecDepth 20000 in
theorem gL_buffer_X2_setBuffer : GoodIn wsL_buffer (wsV RL 29 RX2 yX2_setBuffer wsX2_setBuffer) := goodIn_app (goodIn_of _ (by decide +kernel)) ggL_buffer_X2_setBuffer
set_option maxRecDepth 20000 in
theorem ggL_contact_X2_addContact : GoodIn wsL_contact wsX2_addContact := goodIn_ca (goodIn_ca (goodIn_ca (goodIn_r _ [8, 9, 10, 11, 12, 13, 14, 15, 16, 17, 18, 19, 7, 20, 21, 22, 23, 24, 25, 26, 27, 28, 29, 30, 31, 32, 33, 34, 35, 36, 37, 38, 39, 40, 41, 42, 43, 44, 45, 46, 47] (by decide +kernel) (by decide +kernel)) (goodIn_sub (fun _ h => List.mem_cons_of_mem _ (List.mem_append_left _ (List.mem_append_left _ (List.mem_append_right _ h)))) (by decide +kernel))) (goodIn_sub (fun _ h => List.mem_cons_of_mem _ (List.mem_append_left _ (List.mem_append_right _ h))) (by decide +kernel))) (goodIn_sub (fun _ h => List.mem_cons_of_mem _ (List.mem_append_right _ h)) (by decide +kernel))
set_option maxRecDepth 20000 in
theorem gL_contact_X2_addContact : GoodIn wsL_contact (wsV RL 33 RX2 yX2_addContact wsX2_addContact) := goodIn_app (goodIn_of _ (by decide +kernel)) ggL_contact_X2_addContact
set_option maxRecDepth 20000 in
theorem ggL_end_X2_endOf : GoodIn wsL_end wsX2_endOf := goodIn_ca (goodIn_r _ [6, 7, 8, 9, 10, 5, 11, 12, 13, 14, 15, 16, 17, 18, 19, 20, 21, 22, 23, 24, 25, 26, 27, 28, 29, 30, 31, 32, 33, 34, 35, 36, 37, 38, 39, 40, 41, 42, 43, 44, 45, 46, 47, 48, 49, 50, 51, 52, 53, 54, 55, 56, 57, 58, 59] (by decide +kernel) (by decide +kernel)) (goodIn_sub (fun _ h => List.mem_cons_of_mem _ (List.mem_append_right _ h)) (by decide +kernel))
set_option maxRecDepth 20000 in
theorem gL_end_X2_endOf : GoodIn wsL_end (wsV RL 37 RX2 yX2_endOf wsX2_endOf) := goodIn_app (goodIn_of _ (by decide +kernel)) ggL_end_X2_endOf
set_option maxRecDepth 20000 in
theorem ggL_at_X2_heldAt : GoodIn wsL_at wsX2_heldAt := goodIn_ca (goodIn_r _ [6, 7, 8, 9, 10, 11, 12, 13, 5, 14, 15, 16, 17, 18, 19, 20, 21, 22, 23, 24, 25, 26, 27, 28, 29, 30, 31, 32, 33, 34, 35, 36, 37, 38, 39, 40, 41, 42, 43, 44, 45, 46, 47, 48, 49, 50, 51, 52, 53, 54, 55, 56, 57, 58, 59, 60, 61, 62, 63, 64, 65, 66, 67, 68, 69, 70] (by decide +kernel) (by decide +kernel)) (goodIn_sub (fun _ h => List.mem_cons_of_mem _ (List.mem_append_right _ h)) (by decide +kernel))
set_option maxRecDepth 20000 in
theorem gL_at_X2_heldAt : GoodIn wsL_at (wsV RL 40 RX2 yX2_heldAt wsX2_heldAt) := goodIn_app (goodIn_of _ (by decide +kernel)) ggL_at_X2_heldAt
set_option maxRecDepth 20000 in
theorem ggL_tell_X2_clock : GoodIn wsL_tell wsX2_clock := goodIn_r _ [6, 7, 156, 157, 158, 159, 160, 161, 162] (by decide +kernel) (by decide +kernel)
set_option maxRecDepth 20000 in
theorem gL_tell_X2_clock : GoodIn wsL_tell (wsV RL 43 RX2 yX2_clock wsX2_clock) := goodIn_app (goodIn_of _ (by decide +kernel)) ggL_tell_X2_clock
set_option maxRecDepth 20000 in
theorem ggL_tell_X2_bundles : GoodIn wsL_tell wsX2_bundles := goodIn_r _ [11, 12, 13, 14, 15, 16, 17, 18, 156, 157, 158, 159, 160, 161, 162, 163, 164, 165] (by decide +kernel) (by decide +kernel)
set_option maxRecDepth 20000 in
theorem gL_tell_X2_bundles : GoodIn wsL_tell (wsV RL 47 RX2 yX2_bundles wsX2_bundles) := goodIn_app (goodIn_of _ (by decide +kernel)) ggL_tell_X2_bundles
set_option maxRecDepth 20000 in
theorem ggL_tell_X2_held : GoodIn wsL_tell wsX2_held := goodIn_ca (goodIn_r _ [22, 23, 24, 5, 25, 26, 27, 28, 29, 30, 31, 32, 33, 34, 35, 36, 37, 12, 38, 13, 14, 15, 16, 17, 18, 39, 40, 41, 42, 43, 44, 45, 46, 47, 48, 49, 50, 51, 52, 53, 54, 55, 56, 57, 58, 59, 60, 61, 156, 157, 158, 159, 160, 161, 162, 163, 164, 165, 166, 167, 168, 169, 170, 171, 172, 173, 174, 175, 176] (by decide +kernel) (by decide +kernel)) (goodIn_sub (fun _ h => List.mem_cons_of_mem _ (List.mem_append_right _ h)) (by decide +kernel))
set_option maxRecDepth 20000 in
theorem gL_tell_X2_held : GoodIn wsL_tell (wsV RL 50 RX2 yX2_held wsX2_held) := goodIn_app (goodIn_of _ (by decide +kernel)) ggL_tell_X2_held
set_option maxRecDepth 20000 in
theorem ggL_tell_X2_dropped : GoodIn wsL_tell wsX2_dropped := goodIn_ca (goodIn_r _ [65, 66, 23, 24, 5, 25, 26, 27, 28, 29, 30, 31, 32, 33, 156, 157, 158, 159, 160, 161, 162] (by decide +kernel) (by decide +kernel)) (goodIn_sub (fun _ h => List.mem_cons_of_mem _ (List.mem_append_right _ h)) (by decide +kernel))
set_option maxRecDepth 20000 in
theorem gL_tell_X2_dropped : GoodIn wsL_tell (wsV RL 53 RX2 yX2_dropped wsX2_dropped) := goodIn_app (goodIn_of _ (by decide +kernel)) ggL_tell_X2_dropped
set_option maxRecDepth 20000 in
theorem ggL_tell_X2_refused : GoodIn wsL_tell wsX2_refused := goodIn_ca (goodIn_r _ [70, 71, 23, 24, 5, 25, 26, 27, 28, 29, 30, 31, 32, 33, 156, 157, 158, 159, 160, 161, 162] (by decide +kernel) (by decide +kernel)) (goodIn_sub (fun _ h => List.mem_cons_of_mem _ (List.mem_append_right _ h)) (by decide +kernel))
set_option maxRecDepth 20000 in
theorem gL_tell_X2_refused : GoodIn wsL_tell (wsV RL 56 RX2 yX2_refused wsX2_refused) := goodIn_app (goodIn_of _ (by decide +kernel)) ggL_tell_X2_refused
set_option maxRecDepth 20000 in
theorem ggL_tell_X2_arrival : GoodIn wsL_tell wsX2_arrival := goodIn_ca (goodIn_r _ [75, 76, 7, 23, 24, 5, 25, 26, 27, 28, 29, 30, 31, 32, 33, 77, 78, 79, 80, 81, 82, 83, 84, 85, 86, 87, 88, 89, 90, 91, 92, 93, 94, 95, 96, 97, 98, 99, 100, 101, 102, 103, 104, 105, 106, 107, 108, 109, 110, 111, 112, 113, 156, 157, 158, 159, 160, 161, 162, 177, 178, 179, 180, 181, 182, 183] (by decide +kernel) (by decide +kernel)) (goodIn_sub (fun _ h => List.mem_cons_of_mem _ (List.mem_append_right _ h)) (by decide +kernel))
set_option maxRecDepth 20000 in
theorem gL_tell_X2_arrival : GoodIn wsL_tell (wsV RL 59 RX2 yX2_arrival wsX2_arrival) := goodIn_app (goodIn_of _ (by decide +kernel)) ggL_tell_X2_arrival
set_option maxRecDepth 20000 in
theorem ggL_tell_X2_copies : GoodIn wsL_tell wsX2_copies := goodIn_ca (goodIn_r _ [117, 118, 23, 24, 5, 25, 26, 27, 28, 29, 30, 31, 32, 33, 119, 120, 121, 122, 12, 38, 13, 14, 15, 16, 17, 18, 39, 40, 41, 42, 43, 44, 45, 46, 47, 48, 49, 50, 51, 52, 53, 54, 55, 166, 167, 168, 169, 170, 171, 172, 173, 174, 175, 176, 156, 157, 158, 159, 160, 161, 162, 163, 164, 165] (by decide +kernel) (by decide +kernel)) (goodIn_sub (fun _ h => List.mem_cons_of_mem _ (List.mem_append_right _ h)) (by decide +kernel))
set_option maxRecDepth 20000 in
theorem gL_tell_X2_copies : GoodIn wsL_tell (wsV RL 62 RX2 yX2_copies wsX2_copies) := goodIn_app (goodIn_of _ (by decide +kernel)) ggL_tell_X2_copies
set_option maxRecDepth 20000 in
theorem ggL_tell_X2_knows : GoodIn wsL_tell wsX2_knows := goodIn_ca (goodIn_r _ [126, 127, 23, 24, 5, 25, 26, 27, 28, 29, 30, 31, 32, 33, 119, 120, 121, 122, 12, 38, 13, 14, 15, 16, 17, 18, 39, 40, 41, 42, 43, 44, 45, 46, 47, 48, 49, 50, 51, 52, 53, 54, 55, 166, 167, 168, 169, 170, 171, 172, 173, 174, 175, 176, 156, 157, 158, 159, 160, 161, 162, 163, 164, 165] (by decide +kernel) (by decide +kernel)) (goodIn_sub (fun _ h => List.mem_cons_of_mem _ (List.mem_append_right _ h)) (by decide +kernel))
set_option maxRecDepth 20000 in
theorem gL_tell_X2_knows : GoodIn wsL_tell (wsV RL 65 RX2 yX2_knows wsX2_knows) := goodIn_app (goodIn_of _ (by decide +kernel)) ggL_tell_X2_knows
set_option maxRecDepth 20000 in
theorem ggL_tell_X2_custodian : GoodIn wsL_tell wsX2_custodian := goodIn_ca (goodIn_r _ [131, 132, 119, 120, 121, 5, 122, 26, 27, 12, 38, 13, 14, 15, 16, 17, 18, 39, 40, 41, 42, 43, 44, 45, 46, 47, 48, 49, 50, 51, 52, 53, 54, 55, 166, 167, 168, 169, 170, 171, 172, 173, 174, 175, 176, 156, 157, 158, 159, 160, 161, 162, 163, 164, 165] (by decide +kernel) (by decide +kernel)) (goodIn_sub (fun _ h => List.mem_cons_of_mem _ (List.mem_append_right _ h)) (by decide +kernel))
set_option maxRecDepth 20000 in
theorem gL_tell_X2_custodian : GoodIn wsL_tell (wsV RL 69 RX2 yX2_custodian wsX2_custodian) := goodIn_app (goodIn_of _ (by decide +kernel)) ggL_tell_X2_custodian
set_option maxRecDepth 20000 in
theorem ggL_tell_X2_deliveredAt : GoodIn wsL_tell wsX2_deliveredAt := goodIn_ca (goodIn_r _ [136, 137, 119, 120, 121, 5, 122, 26, 27, 12, 38, 13, 14, 15, 16, 17, 18, 39, 40, 41, 42, 43, 44, 45, 46, 47, 48, 49, 50, 51, 52, 53, 54, 55, 166, 167, 168, 169, 170, 171, 172, 173, 174, 175, 176, 156, 157, 158, 159, 160, 161, 162, 163, 164, 165] (by decide +kernel) (by decide +kernel)) (goodIn_sub (fun _ h => List.mem_cons_of_mem _ (List.mem_append_right _ h)) (by decide +kernel))
set_option maxRecDepth 20000 in
theorem gL_tell_X2_deliveredAt : GoodIn wsL_tell (wsV RL 72 RX2 yX2_deliveredAt wsX2_deliveredAt) := goodIn_app (goodIn_of _ (by decide +kernel)) ggL_tell_X2_deliveredAt
set_option maxRecDepth 20000 in
theorem ggL_tell_X2_hops : GoodIn wsL_tell wsX2_hops := goodIn_ca (goodIn_r _ [141, 142, 119, 120, 121, 5, 122, 26, 27, 12, 38, 13, 14, 15, 16, 17, 18, 39, 40, 41, 42, 43, 44, 45, 46, 47, 48, 49, 50, 51, 52, 53, 54, 55, 166, 167, 168, 169, 170, 171, 172, 173, 174, 175, 176, 156, 157, 158, 159, 160, 161, 162, 163, 164, 165] (by decide +kernel) (by decide +kernel)) (goodIn_sub (fun _ h => List.mem_cons_of_mem _ (List.mem_append_right _ h)) (by decide +kernel))
set_option maxRecDepth 20000 in
theorem gL_tell_X2_hops : GoodIn wsL_tell (wsV RL 75 RX2 yX2_hops wsX2_hops) := goodIn_app (goodIn_of _ (by decide +kernel)) ggL_tell_X2_hops
set_option maxRecDepth 20000 in
theorem ggL_tell_X2_endOf : GoodIn wsL_tell wsX2_endOf := goodIn_ca (goodIn_r _ [146, 147, 119, 120, 121, 5, 122, 26, 27, 12, 38, 13, 14, 15, 16, 17, 18, 39, 40, 41, 42, 43, 44, 45, 46, 47, 48, 49, 50, 51, 52, 53, 54, 55, 166, 167, 168, 169, 170, 171, 172, 173, 174, 175, 176, 156, 157, 158, 159, 160, 161, 162, 163, 164, 165] (by decide +kernel) (by decide +kernel)) (goodIn_sub (fun _ h => List.mem_cons_of_mem _ (List.mem_append_right _ h)) (by decide +kernel))
set_option maxRecDepth 20000 in
theorem gL_tell_X2_endOf : GoodIn wsL_tell (wsV RL 37 RX2 yX2_endOf wsX2_endOf) := goodIn_app (goodIn_of _ (by decide +kernel)) ggL_tell_X2_endOf
set_option maxRecDepth 20000 in
theorem ggL_tell_X2_promised : GoodIn wsL_tell wsX2_promised := goodIn_ca (goodIn_r _ [151, 113, 76, 152, 7, 153, 154, 108, 155, 147, 119, 120, 121, 5, 122, 26, 27, 12, 38, 13, 14, 15, 16, 17, 18, 39, 40, 41, 42, 43, 44, 45, 46, 47, 48, 49, 50, 51, 52, 53, 54, 55, 56, 57, 58, 59, 60, 61, 77, 78, 79, 80, 81, 82, 83, 84, 85, 86, 87, 88, 89, 90, 91, 92, 93, 94, 95, 96, 97, 98, 99, 100, 101, 102, 103, 104, 105, 106, 107, 109, 110, 111, 112, 156, 157, 158, 159, 160, 161, 162, 166, 167, 168, 169, 170, 171, 172, 173, 174, 175, 176, 163, 164, 165, 177, 178, 179, 180, 181, 182, 183] (by decide +kernel) (by decide +kernel)) (goodIn_sub (fun _ h => List.mem_cons_of_mem _ (List.mem_append_right _ h)) (by decide +kernel))
set_option maxRecDepth 20000 in
theorem gL_tell_X2_promised : GoodIn wsL_tell (wsV RL 78 RX2 yX2_promised wsX2_promised) := goodIn_app (goodIn_of _ (by decide +kernel)) ggL_tell_X2_promised
set_option maxRecDepth 20000 in
theorem ggL_bundles_X2_bundles : GoodIn wsL_bundles wsX2_bundles := goodIn_r _ [5, 6, 7, 8, 9, 10, 11, 12, 91, 92, 93, 94, 95, 96, 97, 98, 99, 100] (by decide +kernel) (by decide +kernel)
set_option maxRecDepth 20000 in
theorem gL_bundles_X2_bundles : GoodIn wsL_bundles (wsV RL 47 RX2 yX2_bundles wsX2_bundles) := goodIn_app (goodIn_of _ (by decide +kernel)) ggL_bundles_X2_bundles
set_option maxRecDepth 20000 in
theorem ggL_bundles_X2_custodian : GoodIn wsL_bundles wsX2_custodian := goodIn_ca (goodIn_r _ [16, 17, 18, 19, 20, 4, 21, 22, 23, 6, 24, 7, 8, 9, 10, 11, 12, 25, 26, 27, 28, 29, 30, 31, 32, 33, 34, 35, 36, 37, 38, 39, 40, 41, 101, 102, 103, 104, 105, 106, 107, 108, 109, 110, 111, 91, 92, 93, 94, 95, 96, 97, 98, 99, 100] (by decide +kernel) (by decide +kernel)) (goodIn_sub (fun _ h => List.mem_cons_of_mem _ (List.mem_append_right _ h)) (by decide +kernel))
set_option maxRecDepth 20000 in
theorem gL_bundles_X2_custodian : GoodIn wsL_bundles (wsV RL 69 RX2 yX2_custodian wsX2_custodian) := goodIn_app (goodIn_of _ (by decide +kernel)) ggL_bundles_X2_custodian
set_option maxRecDepth 20000 in
theorem ggL_bundles_X2_copies : GoodIn wsL_bundles wsX2_copies := goodIn_ca (goodIn_r _ [45, 46, 47, 48, 4, 49, 22, 23, 50, 51, 52, 53, 54, 55, 18, 19, 20, 21, 6, 24, 7, 8, 9, 10, 11, 12, 25, 26, 27, 28, 29, 30, 31, 32, 33, 34, 35, 36, 37, 38, 39, 40, 41, 101, 102, 103, 104, 105, 106, 107, 108, 109, 110, 111, 91, 92, 93, 94, 95, 96, 97, 98, 99, 100] (by decide +kernel) (by decide +kernel)) (goodIn_sub (fun _ h => List.mem_cons_of_mem _ (List.mem_append_right _ h)) (by decide +kernel))
set_option maxRecDepth 20000 in
theorem gL_bundles_X2_copies : GoodIn wsL_bundles (wsV RL 62 RX2 yX2_copies wsX2_copies) := goodIn_app (goodIn_of _ (by decide +kernel)) ggL_bundles_X2_copies
set_option maxRecDepth 20000 in
theorem ggL_bundles_X2_knows : GoodIn wsL_bundles wsX2_knows := goodIn_ca (goodIn_r _ [59, 60, 47, 48, 4, 49, 22, 23, 50, 51, 52, 53, 54, 55, 18, 19, 20, 21, 6, 24, 7, 8, 9, 10, 11, 12, 25, 26, 27, 28, 29, 30, 31, 32, 33, 34, 35, 36, 37, 38, 39, 40, 41, 101, 102, 103, 104, 105, 106, 107, 108, 109, 110, 111, 91, 92, 93, 94, 95, 96, 97, 98, 99, 100] (by decide +kernel) (by decide +kernel)) (goodIn_sub (fun _ h => List.mem_cons_of_mem _ (List.mem_append_right _ h)) (by decide +kernel))
set_option maxRecDepth 20000 in
theorem gL_bundles_X2_knows : GoodIn wsL_bundles (wsV RL 65 RX2 yX2_knows wsX2_knows) := goodIn_app (goodIn_of _ (by decide +kernel)) ggL_bundles_X2_knows
set_option maxRecDepth 20000 in
theorem ggL_bundles_X2_endOf : GoodIn wsL_bundles wsX2_endOf := goodIn_ca (goodIn_r _ [64, 65, 18, 19, 20, 4, 21, 22, 23, 6, 24, 7, 8, 9, 10, 11, 12, 25, 26, 27, 28, 29, 30, 31, 32, 33, 34, 35, 36, 37, 38, 39, 40, 41, 101, 102, 103, 104, 105, 106, 107, 108, 109, 110, 111, 91, 92, 93, 94, 95, 96, 97, 98, 99, 100] (by decide +kernel) (by decide +kernel)) (goodIn_sub (fun _ h => List.mem_cons_of_mem _ (List.mem_append_right _ h)) (by decide +kernel))
set_option maxRecDepth 20000 in
theorem gL_bundles_X2_endOf : GoodIn wsL_bundles (wsV RL 37 RX2 yX2_endOf wsX2_endOf) := goodIn_app (goodIn_of _ (by decide +kernel)) ggL_bundles_X2_endOf
set_option maxRecDepth 20000 in
theorem ggL_bundles_X2_clock : GoodIn wsL_bundles wsX2_clock := goodIn_r _ [69, 70, 91, 92, 93, 94, 95, 96, 97] (by decide +kernel) (by decide +kernel)
set_option maxRecDepth 20000 in
theorem gL_bundles_X2_clock : GoodIn wsL_bundles (wsV RL 43 RX2 yX2_clock wsX2_clock) := goodIn_app (goodIn_of _ (by decide +kernel)) ggL_bundles_X2_clock
set_option maxRecDepth 20000 in
theorem ggL_bundles_X2_deliveredAt : GoodIn wsL_bundles wsX2_deliveredAt := goodIn_ca (goodIn_r _ [74, 75, 18, 19, 20, 4, 21, 22, 23, 6, 24, 7, 8, 9, 10, 11, 12, 25, 26, 27, 28, 29, 30, 31, 32, 33, 34, 35, 36, 37, 38, 39, 40, 41, 101, 102, 103, 104, 105, 106, 107, 108, 109, 110, 111, 91, 92, 93, 94, 95, 96, 97, 98, 99, 100] (by decide +kernel) (by decide +kernel)) (goodIn_sub (fun _ h => List.mem_cons_of_mem _ (List.mem_append_right _ h)) (by decide +kernel))
set_option maxRecDepth 20000 in
theorem gL_bundles_X2_deliveredAt : GoodIn wsL_bundles (wsV RL 72 RX2 yX2_deliveredAt wsX2_deliveredAt) := goodIn_app (goodIn_of _ (by decide +kernel)) ggL_bundles_X2_deliveredAt
set_option maxRecDepth 20000 in
theorem ggL_bundles_X2_holders : GoodIn wsL_bundles wsX2_holders := goodIn_ca (goodIn_r _ [79, 18, 19, 20, 4, 21, 22, 23, 6, 24, 7, 8, 9, 10, 11, 12, 25, 26, 27, 28, 29, 30, 31, 32, 33, 34, 35, 36, 37, 38, 39, 40, 41, 80, 81, 82, 83, 84, 85, 91, 92, 93, 94, 95, 96, 97, 98, 99, 100, 101, 102, 103, 104, 105, 106, 107, 108, 109, 110, 111] (by decide +kernel) (by decide +kernel)) (goodIn_sub (fun _ h => List.mem_cons_of_mem _ (List.mem_append_right _ h)) (by decide +kernel))
set_option maxRecDepth 20000 in
theorem gL_bundles_X2_holders : GoodIn wsL_bundles (wsV RL 81 RX2 yX2_holders wsX2_holders) := goodIn_app (goodIn_of _ (by decide +kernel)) ggL_bundles_X2_holders
set_option maxRecDepth 20000 in
theorem ggL_bundles_X2_hops : GoodIn wsL_bundles wsX2_hops := goodIn_ca (goodIn_r _ [89, 90, 18, 19, 20, 4, 21, 22, 23, 6, 24, 7, 8, 9, 10, 11, 12, 25, 26, 27, 28, 29, 30, 31, 32, 33, 34, 35, 36, 37, 38, 39, 40, 41, 101, 102, 103, 104, 105, 106, 107, 108, 109, 110, 111, 91, 92, 93, 94, 95, 96, 97, 98, 99, 100] (by decide +kernel) (by decide +kernel)) (goodIn_sub (fun _ h => List.mem_cons_of_mem _ (List.mem_append_right _ h)) (by decide +kernel))
set_option maxRecDepth 20000 in
theorem gL_bundles_X2_hops : GoodIn wsL_bundles (wsV RL 75 RX2 yX2_hops wsX2_hops) := goodIn_app (goodIn_of _ (by decide +kernel)) ggL_bundles_X2_hops
set_option maxRecDepth 20000 in
theorem ggL_buffers_X2_bundles : GoodIn wsL_buffers wsX2_bundles := goodIn_r _ [5, 6, 7, 8, 9, 10, 11, 12, 76, 77, 78, 79, 80, 81, 82, 83, 84, 85] (by decide +kernel) (by decide +kernel)
set_option maxRecDepth 20000 in
theorem gL_buffers_X2_bundles : GoodIn wsL_buffers (wsV RL 47 RX2 yX2_bundles wsX2_bundles) := goodIn_app (goodIn_of _ (by decide +kernel)) ggL_buffers_X2_bundles
set_option maxRecDepth 20000 in
theorem ggL_buffers_X2_copies : GoodIn wsL_buffers wsX2_copies := goodIn_ca (goodIn_r _ [16, 17, 18, 19, 4, 20, 21, 22, 23, 24, 25, 26, 27, 28, 29, 30, 31, 32, 6, 33, 7, 8, 9, 10, 11, 12, 34, 35, 36, 37, 38, 39, 40, 41, 42, 43, 44, 45, 46, 47, 48, 49, 50, 86, 87, 88, 89, 90, 91, 92, 93, 94, 95, 96, 76, 77, 78, 79, 80, 81, 82, 83, 84, 85] (by decide +kernel) (by decide +kernel)) (goodIn_sub (fun _ h => List.mem_cons_of_mem _ (List.mem_append_right _ h)) (by decide +kernel))
set_option maxRecDepth 20000 in
theorem gL_buffers_X2_copies : GoodIn wsL_buffers (wsV RL 62 RX2 yX2_copies wsX2_copies) := goodIn_app (goodIn_of _ (by decide +kernel)) ggL_buffers_X2_copies
set_option maxRecDepth 20000 in
theorem ggL_buffers_X2_held : GoodIn wsL_buffers wsX2_held := goodIn_ca (goodIn_r _ [54, 18, 19, 4, 20, 21, 22, 23, 24, 25, 26, 27, 28, 55, 56, 57, 58, 6, 33, 7, 8, 9, 10, 11, 12, 34, 35, 36, 37, 38, 39, 40, 41, 42, 43, 44, 45, 46, 47, 48, 49, 50, 59, 60, 61, 62, 63, 64, 76, 77, 78, 79, 80, 81, 82, 83, 84, 85, 86, 87, 88, 89, 90, 91, 92, 93, 94, 95, 96] (by decide +kernel) (by decide +kernel)) (goodIn_sub (fun _ h => List.mem_cons_of_mem _ (List.mem_append_right _ h)) (by decide +kernel))
set_option maxRecDepth 20000 in
theorem gL_buffers_X2_held : GoodIn wsL_buffers (wsV RL 50 RX2 yX2_held wsX2_held) := goodIn_app (goodIn_of _ (by decide +kernel)) ggL_buffers_X2_held
set_option maxRecDepth 20000 in
theorem ggL_buffers_L_at : GoodIn wsL_buffers wsL_at := goodIn_ca (goodIn_r _ [68, 69, 70, 71, 72, 4, 73, 21, 22, 74, 33, 75, 18, 19, 20, 23, 24, 25, 26, 27, 28, 7, 8, 9, 10, 11, 12, 34, 35, 36, 37, 38, 39, 40, 41, 42, 43, 44, 45, 46, 47, 48, 49, 50, 59, 60, 61, 62, 63, 64, 76, 77, 78, 79, 80, 81, 82, 86, 87, 88, 89, 90, 91, 92, 93, 94, 95, 96, 83, 84, 85] (by decide +kernel) (by decide +kernel)) (goodIn_sub (fun _ h => List.mem_cons_of_mem _ (List.mem_append_right _ h)) (by decide +kernel))
set_option maxRecDepth 20000 in
theorem gL_buffers_L_at : GoodIn wsL_buffers (va_wsS RL 84 yL_at wsL_at) := goodIn_app (goodIn_of _ (by decide +kernel)) ggL_buffers_L_at
set_option maxRecDepth 20000 in
theorem ggL_plan_L_low : GoodIn wsL_plan wsL_low := goodIn_r _ [4, 5] (by decide +kernel) (by decide +kernel)
set_option maxRecDepth 20000 in
theorem gL_plan_L_low : GoodIn wsL_plan (va_wsS RL 90 yL_low wsL_low) := goodIn_app (goodIn_of _ (by decide +kernel)) ggL_plan_L_low
set_option maxRecDepth 20000 in
theorem ggL_plan_X2_arrival : GoodIn wsL_plan wsX2_arrival := goodIn_ca (goodIn_r _ [10, 11, 12, 13, 14, 9, 15, 16, 17, 18, 19, 20, 21, 22, 23, 24, 25, 26, 27, 28, 29, 30, 31, 32, 33, 34, 35, 36, 37, 38, 39, 40, 41, 42, 43, 44, 45, 46, 47, 48, 49, 50, 51, 52, 53, 54, 55, 56, 57, 58, 59, 60, 129, 130, 131, 132, 133, 134, 135, 136, 137, 138, 139, 140, 141, 142] (by decide +kernel) (by decide +kernel)) (goodIn_sub (fun _ h => List.mem_cons_of_mem _ (List.mem_append_right _ h)) (by decide +kernel))
set_option maxRecDepth 20000 in
theorem gL_plan_X2_arrival : GoodIn wsL_plan (wsV RL 59 RX2 yX2_arrival wsX2_arrival) := goodIn_app (goodIn_of _ (by decide +kernel)) ggL_plan_X2_arrival
set_option maxRecDepth 20000 in
theorem ggL_plan_X2_arrivalByRounds : GoodIn wsL_plan wsX2_arrivalByRounds := goodIn_ca (goodIn_r _ [64, 11, 12, 13, 14, 9, 15, 16, 17, 18, 19, 20, 21, 22, 23, 65, 66, 67, 27, 68, 44, 45, 46, 30, 31, 32, 33, 34, 35, 29, 47, 48, 49, 50, 51, 52, 53, 54, 55, 56, 57, 58, 59, 60, 129, 130, 131, 132, 133, 134, 135, 136, 137, 138, 139, 140, 141, 142] (by decide +kernel) (by decide +kernel)) (goodIn_sub (fun _ h => List.mem_cons_of_mem _ (List.mem_append_right _ h)) (by decide +kernel))
set_option maxRecDepth 20000 in
theorem gL_plan_X2_arrivalByRounds : GoodIn wsL_plan (wsV RL 93 RX2 yX2_arrivalByRounds wsX2_arrivalByRounds) := goodIn_app (goodIn_of _ (by decide +kernel)) ggL_plan_X2_arrivalByRounds
set_option maxRecDepth 20000 in
theorem ggL_plan_X2_clock : GoodIn wsL_plan wsX2_clock := goodIn_r _ [72, 12, 129, 130, 131, 132, 133, 134, 135] (by decide +kernel) (by decide +kernel)
set_option maxRecDepth 20000 in
theorem gL_plan_X2_clock : GoodIn wsL_plan (wsV RL 43 RX2 yX2_clock wsX2_clock) := goodIn_app (goodIn_of _ (by decide +kernel)) ggL_plan_X2_clock
set_option maxRecDepth 20000 in
theorem ggL_plan_X2_bundles : GoodIn wsL_plan wsX2_bundles := goodIn_r _ [76, 77, 78, 79, 80, 81, 82, 83, 129, 130, 131, 132, 133, 134, 135, 143, 144, 145] (by decide +kernel) (by decide +kernel)
set_option maxRecDepth 20000 in
theorem gL_plan_X2_bundles : GoodIn wsL_plan (wsV RL 47 RX2 yX2_bundles wsX2_bundles) := goodIn_app (goodIn_of _ (by decide +kernel)) ggL_plan_X2_bundles
set_option maxRecDepth 20000 in
theorem ggL_plan_X2_promised : GoodIn wsL_plan wsX2_promised := goodIn_ca (goodIn_r _ [87, 60, 11, 88, 12, 89, 90, 55, 91, 92, 93, 94, 95, 9, 96, 16, 17, 77, 97, 78, 79, 80, 81, 82, 83, 98, 99, 100, 101, 102, 103, 104, 105, 106, 107, 108, 109, 110, 111, 112, 113, 114, 115, 116, 117, 118, 119, 120, 24, 25, 26, 27, 28, 29, 30, 31, 32, 33, 34, 35, 36, 37, 38, 39, 40, 41, 42, 43, 44, 45, 46, 47, 48, 49, 50, 51, 52, 53, 54, 56, 57, 58, 59, 129, 130, 131, 132, 133, 134, 135, 146, 147, 148, 149, 150, 151, 152, 153, 154, 155, 156, 143, 144, 145, 136, 137, 138, 139, 140, 141, 142] (by decide +kernel) (by decide +kernel)) (goodIn_sub (fun _ h => List.mem_cons_of_mem _ (List.mem_append_right _ h)) (by decide +kernel))
set_option maxRecDepth 20000 in
theorem gL_plan_X2_promised : GoodIn wsL_plan (wsV RL 78 RX2 yX2_promised wsX2_promised) := goodIn_app (goodIn_of _ (by decide +kernel)) ggL_plan_X2_promised
set_option maxRecDepth 20000 in
theorem ggL_plan_X2_endOf : GoodIn wsL_plan wsX2_endOf := goodIn_ca (goodIn_r _ [124, 92, 93, 94, 95, 9, 96, 16, 17, 77, 97, 78, 79, 80, 81, 82, 83, 98, 99, 100, 101, 102, 103, 104, 105, 106, 107, 108, 109, 110, 111, 112, 113, 114, 146, 147, 148, 149, 150, 151, 152, 153, 154, 155, 156, 129, 130, 131, 132, 133, 134, 135, 143, 144, 145] (by decide +kernel) (by decide +kernel)) (goodIn_sub (fun _ h => List.mem_cons_of_mem _ (List.mem_append_right _ h)) (by decide +kernel))
set_option maxRecDepth 20000 in
theorem gL_plan_X2_endOf : GoodIn wsL_plan (wsV RL 37 RX2 yX2_endOf wsX2_endOf) := goodIn_app (goodIn_of _ (by decide +kernel)) ggL_plan_X2_endOf
set_option maxRecDepth 20000 in
theorem ggL_plan_X2_holders : GoodIn wsL_plan wsX2_holders := goodIn_ca (goodIn_r _ [128, 93, 94, 95, 9, 96, 16, 17, 77, 97, 78, 79, 80, 81, 82, 83, 98, 99, 100, 101, 102, 103, 104, 105, 106, 107, 108, 109, 110, 111, 112, 113, 114, 115, 116, 117, 118, 119, 120, 129, 130, 131, 132, 133, 134, 135, 143, 144, 145, 146, 147, 148, 149, 150, 151, 152, 153, 154, 155, 156] (by decide +kernel) (by decide +kernel)) (goodIn_sub (fun _ h => List.mem_cons_of_mem _ (List.mem_append_right _ h)) (by decide +kernel))
set_option maxRecDepth 20000 in
theorem gL_plan_X2_holders : GoodIn wsL_plan (wsV RL 81 RX2 yX2_holders wsX2_holders) := goodIn_app (goodIn_of _ (by decide +kernel)) ggL_plan_X2_holders
set_option maxRecDepth 20000 in
theorem ggL_act_L_low : GoodIn wsL_act wsL_low := goodIn_r _ [4, 5] (by decide +kernel) (by decide +kernel)
set_option maxRecDepth 20000 in
theorem gL_act_L_low : GoodIn wsL_act (va_wsS RL 90 yL_low wsL_low) := goodIn_app (goodIn_of _ (by decide +kernel)) ggL_act_L_low
set_option maxRecDepth 20000 in
theorem ggL_act_L_send : GoodIn wsL_act wsL_send := goodIn_ca (goodIn_ca (goodIn_ca (goodIn_r _ [8, 9, 10, 11, 12, 13, 14, 15, 16, 17, 18, 19, 20, 21, 22, 23, 24, 25, 26, 27, 28, 29, 30, 31, 32, 33, 34, 35, 36, 37, 38, 39, 40, 41, 42, 43, 44, 45, 46, 47, 48, 49, 50, 51, 52, 53, 54, 55, 56, 57, 58, 59, 60, 61, 62, 63, 64, 65, 66, 67, 68, 69, 70, 71, 72, 73, 74, 75, 76, 77, 78, 79, 80, 81, 82, 83, 84, 85, 86, 87, 88, 89, 90, 91, 92, 93, 94, 95, 96, 97, 98, 99, 100, 101, 102, 103, 104, 105, 106, 107, 108, 109, 110, 111, 112, 113, 114, 115, 116, 117, 118, 119, 120, 121, 122, 123, 124, 125, 126, 127, 128, 129, 130, 131, 132, 133, 134, 135, 136, 137, 138, 139, 140, 141, 142, 143, 144, 145, 146, 147, 148, 149, 150, 151, 152, 153, 154, 155, 156, 157, 158, 159, 160, 161, 162, 163, 164, 165, 166, 167, 168, 169, 170, 171, 172, 173, 174, 175, 176, 177, 304, 305, 306, 307, 308, 309, 310, 311, 312, 313, 314, 315, 316, 317, 318, 319, 320, 321, 322, 323, 324] (by decide +kernel) (by decide +kernel)) (goodIn_sub (fun _ h => List.mem_cons_of_mem _ (List.mem_append_left _ (List.mem_append_left _ (List.mem_append_right _ h)))) (by decide +kernel))) (goodIn_sub (fun _ h => List.mem_cons_of_mem _ (List.mem_append_left _ (List.mem_append_right _ h))) (by decide +kernel))) (goodIn_sub (fun _ h => List.mem_cons_of_mem _ (List.mem_append_right _ h)) (by decide +kernel))
set_option maxRecDepth 20000 in
theorem gL_act_L_send : GoodIn wsL_act (va_wsS RL 96 yL_send wsL_send) := goodIn_app (goodIn_of _ (by decide +kernel)) ggL_act_L_send
set_option maxRecDepth 20000 in
theorem ggL_act_L_meet : GoodIn wsL_act wsL_meet := goodIn_ca (goodIn_ca (goodIn_r _ [180, 9, 10, 181, 182, 183, 15, 184, 17, 18, 19, 20, 31, 32, 33, 34, 35, 36, 185, 186, 187, 188, 23, 54, 189, 37, 38, 39, 40, 41, 42, 55, 56, 57, 58, 59, 60, 61, 62, 63, 64, 65, 66, 67, 68, 69, 70, 71, 190, 191, 192, 26, 193, 102, 103, 194, 82, 83, 84, 85, 86, 87, 88, 76, 89, 195, 196, 197, 198, 199, 200, 201, 202, 203, 97, 204, 73, 74, 75, 205, 206, 207, 208, 29, 27, 209, 210, 211, 212, 213, 214, 215, 216, 104, 105, 217, 218, 219, 220, 221, 222, 223, 224, 225, 48, 226, 72, 43, 44, 45, 46, 47, 49, 50, 51, 52, 53, 77, 78, 79, 80, 28, 81, 227, 228, 229, 230, 231, 232, 233, 234, 235, 236, 237, 238, 239, 240, 241, 242, 243, 244, 245, 246, 247, 248, 249, 250, 251, 252, 253, 254, 255, 256, 257, 258, 259, 260, 261, 262, 263, 264, 265, 266, 267, 268, 269, 270, 140, 141, 142, 304, 305, 306, 307, 308, 309, 310, 311, 312, 313, 314, 315, 316, 317, 318, 319, 320, 321, 322, 323, 324, 325, 326, 327, 328, 329, 330, 331] (by decide +kernel) (by decide +kernel)) (goodIn_sub (fun _ h => List.mem_cons_of_mem _ (List.mem_append_left _ (List.mem_append_left _ (List.mem_append_right _ h)))) (by decide +kernel))) (goodIn_sub (fun _ h => List.mem_cons_of_mem _ (List.mem_append_left _ (List.mem_append_right _ h))) (by decide +kernel))
set_option maxRecDepth 20000 in
theorem gL_act_L_meet : GoodIn wsL_act (va_wsS RL 99 yL_meet wsL_meet) := goodIn_app (goodIn_of _ (by decide +kernel)) ggL_act_L_meet
set_option maxRecDepth 20000 in
theorem ggL_act_L_pass : GoodIn wsL_act wsL_pass := goodIn_ca (goodIn_r _ [273, 10, 274, 275, 276, 15, 277, 19, 20, 27, 23, 54, 278, 279, 34, 35, 36, 37, 38, 39, 40, 41, 42, 55, 56, 57, 58, 59, 60, 61, 62, 63, 64, 65, 66, 67, 68, 69, 70, 71, 280, 281, 282, 26, 283, 103, 194, 82, 83, 84, 85, 86, 87, 88, 76, 89, 304, 305, 306, 307, 308, 309, 310, 311, 312, 313, 314, 315, 316, 317, 318, 319, 320, 321, 322, 323, 324] (by decide +kernel) (by decide +kernel)) (goodIn_sub (fun _ h => List.mem_cons_of_mem _ (List.mem_append_left _ (List.mem_append_right _ h))) (by decide +kernel))
set_option maxRecDepth 20000 in
theorem gL_act_L_pass : GoodIn wsL_act (va_wsS RL 102 yL_pass wsL_pass) := goodIn_app (goodIn_of _ (by decide +kernel)) ggL_act_L_pass
set_option maxRecDepth 20000 in
theorem ggL_act_L_buffer : GoodIn wsL_act wsL_buffer := goodIn_ca (goodIn_ca (goodIn_ca (goodIn_r _ [286, 9, 10, 11, 287, 288, 289, 15, 290, 17, 18, 19, 20, 21, 22, 47, 31, 32, 33, 34, 35, 36, 50, 51, 52, 53, 23, 54, 37, 38, 39, 40, 41, 42, 55, 56, 57, 58, 59, 60, 61, 62, 63, 64, 65, 66, 67, 68, 69, 70, 71, 72, 73, 74, 26, 75, 76, 304, 305, 306, 307, 308, 309, 310, 322, 323, 324, 311, 312, 313, 314, 315, 316, 317, 318, 319, 320, 321] (by decide +kernel) (by decide +kernel)) (goodIn_sub (fun _ h => List.mem_cons_of_mem _ (List.mem_append_left _ (List.mem_append_left _ (List.mem_append_right _ h)))) (by decide +kernel))) (goodIn_sub (fun _ h => List.mem_cons_of_mem _ (List.mem_append_left _ (List.mem_append_right _ h))) (by decide +kernel))) (goodIn_sub (fun _ h => List.mem_cons_of_mem _ (List.mem_append_right _ h)) (by decide +kernel))
set_option maxRecDepth 20000 in
theorem gL_act_L_buffer : GoodIn wsL_act (va_wsS RL 105 yL_buffer wsL_buffer) := goodIn_app (goodIn_of _ (by decide +kernel)) ggL_act_L_buffer
set_option maxRecDepth 20000 in
theorem ggL_act_L_contact : GoodIn wsL_act wsL_contact := goodIn_ca (goodIn_ca (goodIn_ca (goodIn_r _ [293, 9, 10, 11, 294, 295, 296, 15, 297, 17, 18, 19, 20, 21, 22, 298, 239, 299, 31, 32, 33, 34, 35, 36, 300, 301, 302, 244, 303, 261, 262, 263, 269, 268, 304, 305, 306, 307, 308, 309, 310, 325, 326, 327, 328, 329, 330, 331] (by decide +kernel) (by decide +kernel)) (goodIn_sub (fun _ h => List.mem_cons_of_mem _ (List.mem_append_left _ (List.mem_append_left _ (List.mem_append_right _ h)))) (by decide +kernel))) (goodIn_sub (fun _ h => List.mem_cons_of_mem _ (List.mem_append_left _ (List.mem_append_right _ h))) (by decide +kernel))) (goodIn_sub (fun _ h => List.mem_cons_of_mem _ (List.mem_append_right _ h)) (by decide +kernel))
set_option maxRecDepth 20000 in
theorem gL_act_L_contact : GoodIn wsL_act (va_wsS RL 108 yL_contact wsL_contact) := goodIn_app (goodIn_of _ (by decide +kernel)) ggL_act_L_contact
set_option maxRecDepth 20000 in
theorem ggL_left_X2_bundles : GoodIn wsL_left wsX2_bundles := goodIn_r _ [5, 6, 7, 8, 9, 10, 11, 12, 81, 82, 83, 84, 85, 86, 87, 88, 89, 90] (by decide +kernel) (by decide +kernel)
set_option maxRecDepth 20000 in
theorem gL_left_X2_bundles : GoodIn wsL_left (wsV RL 47 RX2 yX2_bundles wsX2_bundles) := goodIn_app (goodIn_of _ (by decide +kernel)) ggL_left_X2_bundles
set_option maxRecDepth 20000 in
theorem ggL_left_X2_custodian : GoodIn wsL_left wsX2_custodian := goodIn_ca (goodIn_r _ [16, 17, 18, 19, 20, 4, 21, 22, 23, 6, 24, 7, 8, 9, 10, 11, 12, 25, 26, 27, 28, 29, 30, 31, 32, 33, 34, 35, 36, 37, 38, 39, 40, 41, 91, 92, 93, 94, 95, 96, 97, 98, 99, 100, 101, 81, 82, 83, 84, 85, 86, 87, 88, 89, 90] (by decide +kernel) (by decide +kernel)) (goodIn_sub (fun _ h => List.mem_cons_of_mem _ (List.mem_append_right _ h)) (by decide +kernel))
set_option maxRecDepth 20000 in
theorem gL_left_X2_custodian : GoodIn wsL_left (wsV RL 69 RX2 yX2_custodian wsX2_custodian) := goodIn_app (goodIn_of _ (by decide +kernel)) ggL_left_X2_custodian
set_option maxRecDepth 20000 in
theorem ggL_left_L_low : GoodIn wsL_left wsL_low := goodIn_r _ [45, 46] (by decide +kernel) (by decide +kernel)
set_option maxRecDepth 20000 in
theorem gL_left_L_low : GoodIn wsL_left (va_wsS RL 90 yL_low wsL_low) := goodIn_app (goodIn_of _ (by decide +kernel)) ggL_left_L_low
set_option maxRecDepth 20000 in
theorem ggL_left_X2_holders : GoodIn wsL_left wsX2_holders := goodIn_ca (goodIn_r _ [50, 18, 19, 20, 4, 21, 22, 23, 6, 24, 7, 8, 9, 10, 11, 12, 25, 26, 27, 28, 29, 30, 31, 32, 33, 34, 35, 36, 37, 38, 39, 40, 41, 51, 52, 53, 54, 55, 56, 81, 82, 83, 84, 85, 86, 87, 88, 89, 90, 91, 92, 93, 94, 95, 96, 97, 98, 99, 100, 101] (by decide +kernel) (by decide +kernel)) (goodIn_sub (fun _ h => List.mem_cons_of_mem _ (List.mem_append_right _ h)) (by decide +kernel))
set_option maxRecDepth 20000 in
theorem gL_left_X2_holders : GoodIn wsL_left (wsV RL 81 RX2 yX2_holders wsX2_holders) := goodIn_app (goodIn_of _ (by decide +kernel)) ggL_left_X2_holders
set_option maxRecDepth 20000 in
theorem ggL_left_X2_deliveredAt : GoodIn wsL_left wsX2_deliveredAt := goodIn_ca (goodIn_r _ [60, 61, 18, 19, 20, 4, 21, 22, 23, 6, 24, 7, 8, 9, 10, 11, 12, 25, 26, 27, 28, 29, 30, 31, 32, 33, 34, 35, 36, 37, 38, 39, 40, 41, 91, 92, 93, 94, 95, 96, 97, 98, 99, 100, 101, 81, 82, 83, 84, 85, 86, 87, 88, 89, 90] (by decide +kernel) (by decide +kernel)) (goodIn_sub (fun _ h => List.mem_cons_of_mem _ (List.mem_append_right _ h)) (by decide +kernel))
set_option maxRecDepth 20000 in
theorem gL_left_X2_deliveredAt : GoodIn wsL_left (wsV RL 72 RX2 yX2_deliveredAt wsX2_deliveredAt) := goodIn_app (goodIn_of _ (by decide +kernel)) ggL_left_X2_deliveredAt
set_option maxRecDepth 20000 in
theorem ggL_left_X2_hops : GoodIn wsL_left wsX2_hops := goodIn_ca (goodIn_r _ [65, 66, 18, 19, 20, 4, 21, 22, 23, 6, 24, 7, 8, 9, 10, 11, 12, 25, 26, 27, 28, 29, 30, 31, 32, 33, 34, 35, 36, 37, 38, 39, 40, 41, 91, 92, 93, 94, 95, 96, 97, 98, 99, 100, 101, 81, 82, 83, 84, 85, 86, 87, 88, 89, 90] (by decide +kernel) (by decide +kernel)) (goodIn_sub (fun _ h => List.mem_cons_of_mem _ (List.mem_append_right _ h)) (by decide +kernel))
set_option maxRecDepth 20000 in
theorem gL_left_X2_hops : GoodIn wsL_left (wsV RL 75 RX2 yX2_hops wsX2_hops) := goodIn_app (goodIn_of _ (by decide +kernel)) ggL_left_X2_hops
set_option maxRecDepth 20000 in
theorem ggL_left_L_end : GoodIn wsL_left wsL_end := goodIn_ca (goodIn_r _ [69, 70, 71, 72, 73, 4, 74, 75, 18, 19, 20, 21, 22, 23, 6, 24, 7, 8, 9, 10, 11, 12, 25, 26, 27, 28, 29, 30, 31, 32, 33, 34, 35, 36, 37, 38, 39, 40, 41, 91, 92, 93, 94, 95, 96, 97, 98, 99, 100, 101, 81, 82, 83, 84, 85, 86, 87, 88, 89, 90] (by decide +kernel) (by decide +kernel)) (goodIn_sub (fun _ h => List.mem_cons_of_mem _ (List.mem_append_right _ h)) (by decide +kernel))
set_option maxRecDepth 20000 in
theorem gL_left_L_end : GoodIn wsL_left (va_wsS RL 112 yL_end wsL_end) := goodIn_app (goodIn_of _ (by decide +kernel)) ggL_left_L_end
set_option maxRecDepth 20000 in
theorem ggL_left_X2_clock : GoodIn wsL_left wsX2_clock := goodIn_r _ [79, 80, 81, 82, 83, 84, 85, 86, 87] (by decide +kernel) (by decide +kernel)
set_option maxRecDepth 20000 in
theorem gL_left_X2_clock : GoodIn wsL_left (wsV RL 43 RX2 yX2_clock wsX2_clock) := goodIn_app (goodIn_of _ (by decide +kernel)) ggL_left_X2_clock
set_option maxRecDepth 20000 in
theorem ggL_deliveries_X2_bundles : GoodIn wsL_deliveries wsX2_bundles := goodIn_r _ [5, 6, 7, 8, 9, 10, 11, 12, 42, 43, 44, 45, 46, 47, 48, 49, 50, 51] (by decide +kernel) (by decide +kernel)
set_option maxRecDepth 20000 in
theorem gL_deliveries_X2_bundles : GoodIn wsL_deliveries (wsV RL 47 RX2 yX2_bundles wsX2_bundles) := goodIn_app (goodIn_of _ (by decide +kernel)) ggL_deliveries_X2_bundles
set_option maxRecDepth 20000 in
theorem ggL_deliveries_X2_deliveredAt : GoodIn wsL_deliveries wsX2_deliveredAt := goodIn_ca (goodIn_r _ [16, 17, 18, 19, 20, 4, 21, 22, 23, 6, 24, 7, 8, 9, 10, 11, 12, 25, 26, 27, 28, 29, 30, 31, 32, 33, 34, 35, 36, 37, 38, 39, 40, 41, 52, 53, 54, 55, 56, 57, 58, 59, 60, 61, 62, 42, 43, 44, 45, 46, 47, 48, 49, 50, 51] (by decide +kernel) (by decide +kernel)) (goodIn_sub (fun _ h => List.mem_cons_of_mem _ (List.mem_append_right _ h)) (by decide +kernel))
set_option maxRecDepth 20000 in
theorem gL_deliveries_X2_deliveredAt : GoodIn wsL_deliveries (wsV RL 72 RX2 yX2_deliveredAt wsX2_deliveredAt) := goodIn_app (goodIn_of _ (by decide +kernel)) ggL_deliveries_X2_deliveredAt
set_option maxRecDepth 20000 in
theorem ggL_again_L_low : GoodIn wsL_again wsL_low := goodIn_r _ [4, 5] (by decide +kernel) (by decide +kernel)
set_option maxRecDepth 20000 in
theorem gL_again_L_low : GoodIn wsL_again (va_wsS RL 90 yL_low wsL_low) := goodIn_app (goodIn_of _ (by decide +kernel)) ggL_again_L_low
set_option maxRecDepth 20000 in
theorem ggL_again_L_meet : GoodIn wsL_again wsL_meet := goodIn_ca (goodIn_ca (goodIn_r _ [8, 9, 10, 11, 12, 13, 14, 15, 16, 17, 18, 19, 20, 21, 22, 23, 24, 25, 26, 27, 28, 29, 30, 31, 32, 33, 34, 35, 36, 37, 38, 39, 40, 41, 42, 43, 44, 45, 46, 47, 48, 49, 50, 51, 52, 53, 54, 55, 56, 57, 58, 59, 60, 61, 62, 63, 64, 65, 66, 67, 68, 69, 70, 71, 72, 73, 74, 75, 76, 77, 78, 79, 80, 81, 82, 83, 84, 85, 86, 87, 88, 89, 90, 91, 92, 93, 94, 95, 96, 97, 98, 99, 100, 101, 102, 103, 104, 105, 106, 107, 108, 109, 110, 111, 112, 113, 114, 115, 116, 117, 118, 119, 120, 121, 122, 123, 124, 125, 126, 127, 128, 129, 130, 131, 132, 133, 134, 135, 136, 137, 138, 139, 140, 141, 142, 143, 144, 145, 146, 147, 148, 149, 150, 151, 152, 153, 154, 155, 156, 157, 158, 159, 160, 161, 162, 163, 164, 165, 166, 167, 168, 169, 170, 171, 172, 173, 174, 175, 176, 177, 205, 206, 207, 208, 209, 210, 211, 212, 213, 214, 215, 216, 217, 218, 219, 220, 221, 222, 223, 224, 225, 226, 227, 228, 229, 230, 231, 232] (by decide +kernel) (by decide +kernel)) (goodIn_sub (fun _ h => List.mem_cons_of_mem _ (List.mem_append_left _ (List.mem_append_right _ h))) (by decide +kernel))) (goodIn_sub (fun _ h => List.mem_cons_of_mem _ (List.mem_append_right _ h)) (by decide +kernel))
set_option maxRecDepth 20000 in
theorem gL_again_L_meet : GoodIn wsL_again (va_wsS RL 99 yL_meet wsL_meet) := goodIn_app (goodIn_of _ (by decide +kernel)) ggL_again_L_meet
set_option maxRecDepth 20000 in
theorem ggL_again_L_deliveries : GoodIn wsL_again wsL_deliveries := goodIn_ca (goodIn_r _ [180, 181, 182, 183, 14, 184, 30, 33, 34, 35, 36, 37, 38, 185, 186, 187, 188, 189, 190, 191, 192, 193, 16, 17, 31, 39, 40, 41, 42, 43, 44, 45, 46, 47, 48, 49, 50, 51, 52, 53, 54, 55, 205, 206, 207, 208, 209, 210, 211, 223, 224, 225, 212, 213, 214, 215, 216, 217, 218, 219, 220, 221, 222] (by decide +kernel) (by decide +kernel)) (goodIn_sub (fun _ h => List.mem_cons_of_mem _ (List.mem_append_left _ (List.mem_append_right _ h))) (by decide +kernel))
set_option maxRecDepth 20000 in
theorem gL_again_L_deliveries : GoodIn wsL_again (va_wsS RL 115 yL_deliveries wsL_deliveries) := goodIn_app (goodIn_of _ (by decide +kernel)) ggL_again_L_deliveries
set_option maxRecDepth 20000 in
theorem ggL_again_X2_bundles : GoodIn wsL_again wsX2_bundles := goodIn_r _ [184, 30, 33, 34, 35, 36, 37, 38, 205, 206, 207, 208, 209, 210, 211, 223, 224, 225] (by decide +kernel) (by decide +kernel)
set_option maxRecDepth 20000 in
theorem gL_again_X2_bundles : GoodIn wsL_again (wsV RL 47 RX2 yX2_bundles wsX2_bundles) := goodIn_app (goodIn_of _ (by decide +kernel)) ggL_again_X2_bundles
set_option maxRecDepth 20000 in
theorem ggL_again_X2_deliveredAt : GoodIn wsL_again wsX2_deliveredAt := goodIn_ca (goodIn_r _ [188, 189, 190, 191, 192, 14, 193, 16, 17, 30, 31, 33, 34, 35, 36, 37, 38, 39, 40, 41, 42, 43, 44, 45, 46, 47, 48, 49, 50, 51, 52, 53, 54, 55, 212, 213, 214, 215, 216, 217, 218, 219, 220, 221, 222, 205, 206, 207, 208, 209, 210, 211, 223, 224, 225] (by decide +kernel) (by decide +kernel)) (goodIn_sub (fun _ h => List.mem_cons_of_mem _ (List.mem_append_left _ (List.mem_append_right _ h))) (by decide +kernel))
set_option maxRecDepth 20000 in
theorem gL_again_X2_deliveredAt : GoodIn wsL_again (wsV RL 72 RX2 yX2_deliveredAt wsX2_deliveredAt) := goodIn_app (goodIn_of _ (by decide +kernel)) ggL_again_X2_deliveredAt
set_option maxRecDepth 20000 in
theorem ggL_again_X2_clock : GoodIn wsL_again wsX2_clock := goodIn_r _ [197, 92, 205, 206, 207, 208, 209, 210, 211] (by decide +kernel) (by decide +kernel)
set_option maxRecDepth 20000 in
theorem gL_again_X2_clock : GoodIn wsL_again (wsV RL 43 RX2 yX2_clock wsX2_clock) := goodIn_app (goodIn_of _ (by decide +kernel)) ggL_again_X2_clock
set_option maxRecDepth 20000 in
theorem ggL_again_X2_knows : GoodIn wsL_again wsX2_knows := goodIn_ca (goodIn_r _ [201, 32, 202, 203, 14, 204, 16, 17, 20, 21, 22, 23, 24, 25, 190, 191, 192, 193, 30, 31, 33, 34, 35, 36, 37, 38, 39, 40, 41, 42, 43, 44, 45, 46, 47, 48, 49, 50, 51, 52, 53, 54, 55, 212, 213, 214, 215, 216, 217, 218, 219, 220, 221, 222, 205, 206, 207, 208, 209, 210, 211, 223, 224, 225] (by decide +kernel) (by decide +kernel)) (goodIn_sub (fun _ h => List.mem_cons_of_mem _ (List.mem_append_left _ (List.mem_append_right _ h))) (by decide +kernel))
set_option maxRecDepth 20000 in
theorem gL_again_X2_knows : GoodIn wsL_again (wsV RL 65 RX2 yX2_knows wsX2_knows) := goodIn_app (goodIn_of _ (by decide +kernel)) ggL_again_X2_knows
set_option maxRecDepth 20000 in
theorem ggL_law_X2_init : GoodIn wsL_law wsX2_init := goodIn_r _ [6, 7, 8, 9, 10, 3, 11, 12, 13, 14, 15, 16, 17, 18, 19, 20, 21, 22, 23, 24, 25, 26, 27, 28, 29, 30, 31, 32, 33, 34, 35, 36, 37, 38, 39, 40, 41, 42, 43, 44, 45, 46, 47, 48, 49, 449, 450, 451, 452, 453, 454, 455, 456, 457, 458, 459, 460, 461, 462, 463, 464, 465] (by decide +kernel) (by decide +kernel)
set_option maxRecDepth 20000 in
theorem gL_law_X2_init : GoodIn wsL_law (wsX2_init) := ggL_law_X2_init
set_option maxRecDepth 20000 in
theorem ggL_law_L_cell : GoodIn wsL_law wsL_cell := goodIn_r _ [53, 54] (by decide +kernel) (by decide +kernel)
set_option maxRecDepth 20000 in
theorem gL_law_L_cell : GoodIn wsL_law (va_wsS RL 120 yL_cell wsL_cell) := goodIn_app (goodIn_of _ (by decide +kernel)) ggL_law_L_cell
set_option maxRecDepth 20000 in
theorem ggL_law_L_low : GoodIn wsL_law wsL_low := goodIn_r _ [57, 58] (by decide +kernel) (by decide +kernel)
set_option maxRecDepth 20000 in
theorem gL_law_L_low : GoodIn wsL_law (va_wsS RL 90 yL_low wsL_low) := goodIn_app (goodIn_of _ (by decide +kernel)) ggL_law_L_low
set_option maxRecDepth 20000 in
theorem ggL_law_L_tell : GoodIn wsL_law wsL_tell := goodIn_ca (goodIn_r _ [61, 3, 62, 63, 64, 2, 65, 10, 66, 67, 68, 69, 17, 70, 71, 72, 16, 73, 74, 75, 76, 77, 78, 79, 80, 81, 82, 83, 84, 85, 86, 87, 88, 89, 90, 91, 92, 93, 94, 95, 96, 97, 98, 99, 100, 101, 102, 103, 104, 105, 106, 107, 108, 109, 110, 27, 111, 112, 113, 114, 115, 116, 117, 118, 119, 120, 12, 121, 122, 123, 124, 13, 125, 126, 127, 128, 22, 129, 130, 131, 21, 132, 48, 46, 133, 134, 135, 136, 137, 138, 139, 140, 141, 142, 143, 144, 145, 49, 42, 43, 146, 147, 148, 149, 45, 44, 150, 151, 152, 153, 154, 155, 156, 157, 158, 159, 160, 161, 162, 163, 164, 165, 166, 167, 168, 169, 170, 171, 172, 173, 174, 175, 176, 177, 178, 179, 180, 181, 182, 183, 184, 185, 186, 187, 188, 189, 190, 191, 192, 193, 194, 195, 196, 197, 198, 199, 449, 450, 451, 452, 453, 454, 455, 456, 457, 458, 466, 467, 468, 469, 470, 471, 472, 473, 474, 475, 476, 459, 460, 461, 462, 463, 464, 465] (by decide +kernel) (by decide +kernel)) (goodIn_sub (fun _ h => List.mem_append_left _ (List.mem_append_left _ (List.mem_append_right _ h))) (by decide +kernel))
set_option maxRecDepth 20000 in
theorem gL_law_L_tell : GoodIn wsL_law (va_wsS RL 124 yL_tell wsL_tell) := goodIn_app (goodIn_of _ (by decide +kernel)) ggL_law_L_tell
set_option maxRecDepth 20000 in
theorem ggL_law_L_act : GoodIn wsL_law wsL_act := goodIn_ca (goodIn_ca (goodIn_ca (goodIn_r _ [202, 55, 56, 52, 57, 58, 203, 204, 205, 206, 207, 208, 209, 210, 211, 2, 212, 82, 83, 213, 214, 215, 216, 17, 217, 218, 114, 10, 176, 18, 219, 84, 85, 86, 87, 88, 89, 70, 71, 72, 16, 73, 74, 220, 221, 222, 223, 11, 224, 12, 90, 91, 92, 93, 94, 95, 96, 97, 98, 99, 100, 101, 102, 103, 104, 105, 106, 107, 108, 109, 110, 27, 111, 112, 113, 115, 116, 225, 226, 227, 228, 229, 230, 231, 232, 233, 234, 235, 236, 237, 238, 239, 240, 241, 8, 9, 242, 243, 244, 245, 3, 47, 246, 247, 248, 249, 250, 251, 252, 253, 254, 255, 256, 257, 258, 259, 260, 261, 262, 263, 264, 265, 266, 267, 268, 269, 270, 271, 272, 273, 274, 275, 276, 277, 278, 279, 280, 281, 26, 282, 151, 152, 153, 283, 284, 285, 286, 287, 288, 289, 290, 291, 292, 293, 294, 295, 296, 297, 298, 299, 300, 301, 302, 303, 304, 305, 306, 198, 199, 307, 308, 309, 310, 311, 312, 313, 314, 315, 316, 317, 318, 319, 320, 321, 322, 323, 324, 325, 326, 171, 327, 328, 329, 330, 331, 332, 333, 334, 335, 336, 337, 338, 339, 340, 341, 342, 343, 344, 345, 346, 347, 348, 349, 350, 351, 352, 353, 354, 355, 356, 357, 358, 359, 360, 361, 362, 13, 363, 364, 365, 366, 367, 368, 369, 370, 371, 372, 373, 374, 22, 196, 129, 130, 131, 21, 132, 48, 46, 133, 134, 135, 136, 137, 138, 139, 140, 141, 142, 143, 144, 145, 49, 42, 43, 146, 147, 148, 149, 45, 44, 150, 375, 376, 377, 378, 379, 380, 381, 191, 181, 382, 383, 384, 385, 386, 387, 388, 389, 390, 391, 392, 393, 394, 395, 396, 397, 398, 399, 400, 401, 402, 403, 404, 405, 449, 450, 451, 452, 453, 454, 455, 466, 467, 468, 469, 470, 471, 472, 473, 474, 475, 476, 456, 457, 458, 459, 460, 461, 462, 463, 464, 465] (by decide +kernel) (by decide +kernel)) (goodIn_sub (fun _ h => List.mem_append_left _ (List.mem_append_left _ (List.mem_append_right _ h))) (by decide +kernel))) (goodIn_sub (fun _ h => List.mem_append_left _ (List.mem_append_right _ h)) (by decide +kernel))) (goodIn_sub (fun _ h => List.mem_append_right _ h) (by decide +kernel))
set_option maxRecDepth 20000 in
theorem gL_law_L_act : GoodIn wsL_law (va_wsS RL 128 yL_act wsL_act) := goodIn_app (goodIn_of _ (by decide +kernel)) ggL_law_L_act
set_option maxRecDepth 20000 in
theorem ggL_law_L_same : GoodIn wsL_law wsL_same := goodIn_r _ [408] (by decide +kernel) (by decide +kernel)
set_option maxRecDepth 20000 in
theorem gL_law_L_same : GoodIn wsL_law (va_wsS RL 132 yL_same wsL_same) := goodIn_app (goodIn_of _ (by decide +kernel)) ggL_law_L_same
set_option maxRecDepth 20000 in
theorem ggL_law_L_left : GoodIn wsL_law wsL_left := goodIn_ca (goodIn_r _ [411, 66, 67, 68, 2, 69, 17, 70, 71, 72, 16, 73, 74, 172, 173, 174, 175, 176, 163, 164, 165, 166, 82, 83, 94, 95, 96, 97, 98, 99, 100, 101, 102, 103, 104, 105, 106, 107, 108, 109, 110, 27, 55, 56, 52, 57, 58, 412, 413, 414, 415, 111, 112, 113, 114, 115, 116, 177, 178, 179, 180, 181, 182, 183, 184, 185, 186, 416, 417, 418, 206, 187, 188, 189, 190, 191, 62, 63, 64, 65, 10, 449, 450, 451, 452, 453, 454, 455, 456, 457, 458, 466, 467, 468, 469, 470, 471, 472, 473, 474, 475, 476] (by decide +kernel) (by decide +kernel)) (goodIn_sub (fun _ h => List.mem_append_left _ (List.mem_append_left _ (List.mem_append_right _ h))) (by decide +kernel))
set_option maxRecDepth 20000 in
theorem gL_law_L_left : GoodIn wsL_law (va_wsS RL 136 yL_left wsL_left) := goodIn_app (goodIn_of _ (by decide +kernel)) ggL_law_L_left
set_option maxRecDepth 20000 in
theorem ggL_law_L_bundles : GoodIn wsL_law wsL_bundles := goodIn_ca (goodIn_r _ [421, 66, 67, 68, 2, 69, 17, 70, 71, 72, 16, 73, 74, 172, 173, 174, 175, 176, 163, 164, 165, 166, 82, 83, 94, 95, 96, 97, 98, 99, 100, 101, 102, 103, 104, 105, 106, 107, 108, 109, 110, 27, 158, 159, 160, 161, 162, 79, 80, 81, 84, 85, 86, 87, 88, 89, 167, 168, 169, 170, 171, 187, 188, 189, 190, 191, 62, 63, 64, 65, 10, 177, 178, 179, 180, 181, 412, 413, 414, 415, 111, 112, 113, 114, 115, 116, 182, 183, 184, 185, 186, 449, 450, 451, 452, 453, 454, 455, 456, 457, 458, 466, 467, 468, 469, 470, 471, 472, 473, 474, 475, 476] (by decide +kernel) (by decide +kernel)) (goodIn_sub (fun _ h => List.mem_append_left _ (List.mem_append_left _ (List.mem_append_right _ h))) (by decide +kernel))
set_option maxRecDepth 20000 in
theorem gL_law_L_bundles : GoodIn wsL_law (va_wsS RL 140 yL_bundles wsL_bundles) := goodIn_app (goodIn_of _ (by decide +kernel)) ggL_law_L_bundles
set_option maxRecDepth 20000 in
theorem ggL_law_L_buffers : GoodIn wsL_law wsL_buffers := goodIn_ca (goodIn_r _ [424, 66, 67, 68, 2, 69, 17, 70, 71, 72, 16, 73, 74, 158, 159, 160, 161, 162, 79, 80, 81, 82, 83, 84, 85, 86, 87, 88, 89, 163, 164, 165, 166, 94, 95, 96, 97, 98, 99, 100, 101, 102, 103, 104, 105, 106, 107, 108, 109, 110, 27, 75, 76, 77, 78, 90, 91, 92, 93, 111, 112, 113, 114, 115, 116, 425, 426, 52, 427, 206, 428, 429, 430, 431, 18, 219, 449, 450, 451, 452, 453, 454, 455, 456, 457, 458, 466, 467, 468, 469, 470, 471, 472, 473, 474, 475, 476] (by decide +kernel) (by decide +kernel)) (goodIn_sub (fun _ h => List.mem_append_left _ (List.mem_append_left _ (List.mem_append_right _ h))) (by decide +kernel))
set_option maxRecDepth 20000 in
theorem gL_law_L_buffers : GoodIn wsL_law (va_wsS RL 143 yL_buffers wsL_buffers) := goodIn_app (goodIn_of _ (by decide +kernel)) ggL_law_L_buffers
set_option maxRecDepth 20000 in
theorem ggL_law_L_plan : GoodIn wsL_law wsL_plan := goodIn_ca (goodIn_r _ [434, 55, 56, 52, 57, 58, 125, 126, 127, 2, 128, 22, 10, 79, 80, 81, 82, 83, 84, 85, 86, 87, 88, 89, 129, 130, 131, 21, 132, 48, 46, 133, 134, 135, 136, 137, 138, 139, 140, 141, 142, 143, 144, 145, 49, 42, 43, 146, 147, 148, 149, 45, 44, 150, 151, 152, 153, 154, 155, 156, 157, 435, 436, 437, 438, 439, 440, 441, 442, 62, 63, 64, 65, 66, 67, 68, 69, 17, 70, 71, 72, 16, 73, 74, 192, 193, 194, 195, 196, 197, 198, 199, 191, 163, 164, 165, 166, 94, 95, 96, 97, 98, 99, 100, 101, 102, 103, 104, 105, 106, 107, 108, 109, 110, 27, 111, 112, 113, 114, 115, 116, 187, 188, 189, 190, 412, 413, 414, 415, 449, 450, 451, 452, 453, 454, 455, 459, 460, 461, 462, 463, 464, 465, 456, 457, 458, 466, 467, 468, 469, 470, 471, 472, 473, 474, 475, 476] (by decide +kernel) (by decide +kernel)) (goodIn_sub (fun _ h => List.mem_append_left _ (List.mem_append_left _ (List.mem_append_right _ h))) (by decide +kernel))
set_option maxRecDepth 20000 in
theorem gL_law_L_plan : GoodIn wsL_law (va_wsS RL 146 yL_plan wsL_plan) := goodIn_app (goodIn_of _ (by decide +kernel)) ggL_law_L_plan
set_option maxRecDepth 20000 in
theorem ggL_law_L_again : GoodIn wsL_law wsL_again := goodIn_ca (goodIn_ca (goodIn_r _ [445, 55, 56, 52, 57, 58, 316, 317, 318, 206, 207, 319, 320, 321, 2, 322, 82, 83, 213, 214, 84, 85, 86, 87, 88, 89, 323, 324, 325, 326, 17, 94, 171, 70, 71, 72, 16, 73, 74, 95, 96, 97, 98, 99, 100, 101, 102, 103, 104, 105, 106, 107, 108, 109, 110, 27, 327, 328, 329, 114, 330, 246, 247, 331, 230, 231, 232, 233, 234, 235, 236, 116, 237, 332, 333, 334, 335, 336, 337, 338, 339, 340, 243, 341, 112, 113, 115, 342, 343, 344, 345, 18, 10, 346, 347, 348, 349, 350, 351, 352, 353, 248, 249, 354, 355, 356, 357, 358, 359, 360, 361, 362, 224, 13, 111, 220, 221, 222, 223, 11, 12, 90, 91, 92, 93, 225, 226, 227, 228, 176, 229, 363, 364, 365, 366, 367, 368, 369, 370, 371, 372, 373, 374, 22, 196, 129, 130, 131, 21, 132, 48, 46, 133, 134, 135, 136, 137, 138, 139, 140, 141, 142, 143, 144, 145, 49, 42, 43, 146, 147, 148, 149, 45, 44, 150, 151, 152, 153, 446, 447, 448, 66, 67, 68, 69, 177, 178, 179, 180, 181, 163, 164, 165, 166, 62, 63, 64, 65, 167, 168, 169, 170, 79, 80, 81, 449, 450, 451, 452, 453, 454, 455, 466, 467, 468, 469, 470, 471, 472, 473, 474, 475, 476, 456, 457, 458, 459, 460, 461, 462, 463, 464, 465] (by decide +kernel) (by decide +kernel)) (goodIn_sub (fun _ h => List.mem_append_left _ (List.mem_append_left _ (List.mem_append_right _ h))) (by decide +kernel))) (goodIn_sub (fun _ h => List.mem_append_left _ (List.mem_append_right _ h)) (by decide +kernel))
set_option maxRecDepth 20000 in
theorem gL_law_L_again : GoodIn wsL_law (va_wsS RL 150 yL_again wsL_again) := goodIn_app (goodIn_of _ (by decide +kernel)) ggL_law_L_again
set_option maxRecDepth 20000 in
theorem ggL_law_L_meet : GoodIn wsL_law wsL_meet := goodIn_ca (goodIn_ca (goodIn_r _ [318, 206, 207, 319, 320, 321, 2, 322, 82, 83, 213, 214, 84, 85, 86, 87, 88, 89, 323, 324, 325, 326, 17, 94, 171, 70, 71, 72, 16, 73, 74, 95, 96, 97, 98, 99, 100, 101, 102, 103, 104, 105, 106, 107, 108, 109, 110, 27, 327, 328, 329, 114, 330, 246, 247, 331, 230, 231, 232, 233, 234, 235, 236, 116, 237, 332, 333, 334, 335, 336, 337, 338, 339, 340, 243, 341, 112, 113, 115, 342, 343, 344, 345, 18, 10, 346, 347, 348, 349, 350, 351, 352, 353, 248, 249, 354, 355, 356, 357, 358, 359, 360, 361, 362, 224, 13, 111, 220, 221, 222, 223, 11, 12, 90, 91, 92, 93, 225, 226, 227, 228, 176, 229, 363, 364, 365, 366, 367, 368, 369, 370, 371, 372, 373, 374, 22, 196, 129, 130, 131, 21, 132, 48, 46, 133, 134, 135, 136, 137, 138, 139, 140, 141, 142, 143, 144, 145, 49, 42, 43, 146, 147, 148, 149, 45, 44, 150, 151, 152, 153, 449, 450, 451, 452, 453, 454, 455, 466, 467, 468, 469, 470, 471, 472, 473, 474, 475, 476, 456, 457, 458, 459, 460, 461, 462, 463, 464, 465] (by decide +kernel) (by decide +kernel)) (goodIn_sub (fun _ h => List.mem_append_left _ (List.mem_append_left _ (List.mem_append_right _ h))) (by decide +kernel))) (goodIn_sub (fun _ h => List.mem_append_left _ (List.mem_append_right _ h)) (by decide +kernel))
set_option maxRecDepth 20000 in
theorem gL_law_L_meet : GoodIn wsL_law (va_wsS RL 99 yL_meet wsL_meet) := goodIn_app (goodIn_of _ (by decide +kernel)) ggL_law_L_meet
set_option maxRecDepth 20000 in
theorem ggL_law_L_pass : GoodIn wsL_law wsL_pass := goodIn_ca (goodIn_r _ [377, 207, 378, 379, 380, 2, 381, 213, 214, 10, 17, 94, 191, 181, 87, 88, 89, 70, 71, 72, 16, 73, 74, 95, 96, 97, 98, 99, 100, 101, 102, 103, 104, 105, 106, 107, 108, 109, 110, 27, 382, 383, 384, 114, 385, 247, 331, 230, 231, 232, 233, 234, 235, 236, 116, 237, 449, 450, 451, 452, 453, 454, 455, 466, 467, 468, 469, 470, 471, 472, 473, 474, 475, 476, 456, 457, 458] (by decide +kernel) (by decide +kernel)) (goodIn_sub (fun _ h => List.mem_append_left _ (List.mem_append_right _ h)) (by decide +kernel))
set_option maxRecDepth 20000 in
theorem gL_law_L_pass : GoodIn wsL_law (va_wsS RL 102 yL_pass wsL_pass) := goodIn_app (goodIn_of _ (by decide +kernel)) ggL_law_L_pass
set_option maxRecDepth 20000 in
theorem ggL_law_L_buffer : GoodIn wsL_law wsL_buffer := goodIn_ca (goodIn_ca (goodIn_ca (goodIn_r _ [388, 206, 207, 208, 389, 390, 391, 2, 392, 82, 83, 213, 214, 215, 216, 11, 84, 85, 86, 87, 88, 89, 90, 91, 92, 93, 17, 94, 70, 71, 72, 16, 73, 74, 95, 96, 97, 98, 99, 100, 101, 102, 103, 104, 105, 106, 107, 108, 109, 110, 27, 111, 112, 113, 114, 115, 116, 449, 450, 451, 452, 453, 454, 455, 456, 457, 458, 466, 467, 468, 469, 470, 471, 472, 473, 474, 475, 476] (by decide +kernel) (by decide +kernel)) (goodIn_sub (fun _ h => List.mem_append_left _ (List.mem_append_left _ (List.mem_append_right _ h))) (by decide +kernel))) (goodIn_sub (fun _ h => List.mem_append_left _ (List.mem_append_right _ h)) (by decide +kernel))) (goodIn_sub (fun _ h => List.mem_append_right _ h) (by decide +kernel))
set_option maxRecDepth 20000 in
theorem gL_law_L_buffer : GoodIn wsL_law (va_wsS RL 105 yL_buffer wsL_buffer) := goodIn_app (goodIn_of _ (by decide +kernel)) ggL_law_L_buffer
set_option maxRecDepth 20000 in
theorem ggL_law_L_contact : GoodIn wsL_law wsL_contact := goodIn_ca (goodIn_ca (goodIn_ca (goodIn_r _ [395, 206, 207, 208, 396, 397, 398, 2, 399, 82, 83, 213, 214, 215, 216, 400, 22, 401, 84, 85, 86, 87, 88, 89, 402, 403, 404, 21, 405, 49, 42, 43, 44, 45, 449, 450, 451, 452, 453, 454, 455, 459, 460, 461, 462, 463, 464, 465] (by decide +kernel) (by decide +kernel)) (goodIn_sub (fun _ h => List.mem_append_left _ (List.mem_append_left _ (List.mem_append_right _ h))) (by decide +kernel))) (goodIn_sub (fun _ h => List.mem_append_left _ (List.mem_append_right _ h)) (by decide +kernel))) (goodIn_sub (fun _ h => List.mem_append_right _ h) (by decide +kernel))
set_option maxRecDepth 20000 in
theorem gL_law_L_contact : GoodIn wsL_law (va_wsS RL 108 yL_contact wsL_contact) := goodIn_app (goodIn_of _ (by decide +kernel)) ggL_law_L_contact
set_option maxRecDepth 20000 in
theorem ggL_law_L_end : GoodIn wsL_law wsL_end := goodIn_ca (goodIn_r _ [418, 206, 187, 188, 189, 2, 190, 191, 163, 164, 165, 166, 82, 83, 17, 94, 70, 71, 72, 16, 73, 74, 95, 96, 97, 98, 99, 100, 101, 102, 103, 104, 105, 106, 107, 108, 109, 110, 27, 466, 467, 468, 469, 470, 471, 472, 473, 474, 475, 476, 449, 450, 451, 452, 453, 454, 455, 456, 457, 458] (by decide +kernel) (by decide +kernel)) (goodIn_sub (fun _ h => List.mem_append_left _ (List.mem_append_left _ (List.mem_append_right _ h))) (by decide +kernel))
set_option maxRecDepth 20000 in
theorem gL_law_L_end : GoodIn wsL_law (va_wsS RL 112 yL_end wsL_end) := goodIn_app (goodIn_of _ (by decide +kernel)) ggL_law_L_end
