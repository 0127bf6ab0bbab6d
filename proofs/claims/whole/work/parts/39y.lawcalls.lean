set_option maxRecDepth 20000 in
theorem ggL_law_X2_init : GoodIn wsL_law wsX2_init := goodIn_r _ [9, 10, 11, 12, 13, 14, 15, 16, 17, 18, 19, 20, 21, 22, 23, 24, 25, 26, 27, 28, 29, 30, 31, 32, 33, 34, 35, 36, 37, 38, 39, 40, 41, 42, 43, 44, 45, 46, 47, 48, 49, 50, 51, 52, 53, 652, 653, 654, 655, 656, 657, 658, 680, 681, 682, 683, 684, 685, 686, 687, 688, 689] (by decide +kernel) (by decide +kernel)
set_option maxRecDepth 20000 in
theorem gL_law_X2_init : GoodIn wsL_law (wsX2_init) := ggL_law_X2_init
set_option maxRecDepth 20000 in
theorem ggL_law_X3_init : GoodIn wsL_law wsX3_init := goodIn_r _ [56, 57, 11, 12, 14, 58, 59, 60, 61, 62, 63, 64, 65, 66, 67, 68, 69, 70, 71, 72, 73, 74, 659, 660, 661, 662, 663, 664, 665, 666, 667, 668, 669, 670, 671, 672, 673, 674, 675, 676, 677, 678, 679] (by decide +kernel) (by decide +kernel)
set_option maxRecDepth 20000 in
theorem gL_law_X3_init : GoodIn wsL_law (wsX3_init) := ggL_law_X3_init
set_option maxRecDepth 20000 in
theorem ggL_law_L_send : GoodIn wsL_law wsL_send := goodIn_ca (goodIn_ca (goodIn_ca (goodIn_r _ [78, 79, 80, 81, 82, 83, 84, 2, 85, 86, 87, 88, 89, 90, 91, 21, 92, 93, 94, 13, 95, 22, 96, 97, 98, 99, 100, 101, 102, 103, 104, 105, 20, 106, 107, 108, 109, 110, 111, 15, 112, 16, 113, 114, 115, 116, 117, 118, 119, 120, 121, 122, 123, 124, 125, 126, 127, 128, 129, 130, 131, 132, 133, 31, 134, 135, 136, 137, 138, 139, 140, 141, 142, 143, 144, 145, 146, 147, 148, 149, 150, 151, 152, 153, 154, 155, 11, 12, 156, 157, 158, 159, 14, 51, 160, 161, 162, 163, 164, 165, 166, 167, 168, 169, 170, 171, 172, 173, 174, 175, 176, 177, 178, 179, 180, 181, 182, 183, 184, 185, 186, 187, 188, 189, 190, 191, 192, 193, 194, 195, 30, 196, 197, 198, 199, 200, 201, 202, 203, 204, 205, 206, 207, 208, 209, 210, 211, 212, 213, 214, 215, 216, 217, 218, 219, 220, 221, 222, 223, 224, 225, 226, 227, 228, 229, 230, 231, 232, 233, 234, 652, 653, 654, 655, 656, 657, 658, 690, 691, 692, 693, 694, 695, 696, 697, 698, 699, 700, 680, 681, 682] (by decide +kernel) (by decide +kernel)) (goodIn_sub (fun _ h => List.mem_append_left _ (List.mem_append_left _ (List.mem_append_right _ h))) (by decide +kernel))) (goodIn_sub (fun _ h => List.mem_append_left _ (List.mem_append_right _ h)) (by decide +kernel))) (goodIn_sub (fun _ h => List.mem_append_right _ h) (by decide +kernel))
set_option maxRecDepth 20000 in
theorem gL_law_L_send : GoodIn wsL_law (va_wsS RL 82 yL_send wsL_send) := goodIn_app (goodIn_of _ (by decide +kernel)) ggL_law_L_send
set_option maxRecDepth 20000 in
theorem ggL_law_X3_send : GoodIn wsL_law wsX3_send := goodIn_r _ [238, 239, 58, 59, 60, 240, 61, 62, 64, 241, 242, 243, 5, 244, 245, 246, 247, 248, 249, 250, 251, 252, 253, 254, 255, 256, 257, 67, 68, 258, 259, 260, 261, 262, 263, 264, 265, 266, 267, 268, 269, 659, 660, 661, 662, 663, 664, 665, 666, 667, 668, 669, 670, 671, 672, 673, 674, 675, 676, 677, 678, 679] (by decide +kernel) (by decide +kernel)
set_option maxRecDepth 20000 in
theorem gL_law_X3_send : GoodIn wsL_law (wsV RL 87 RX3 yX3_send wsX3_send) := goodIn_app (goodIn_of _ (by decide +kernel)) ggL_law_X3_send
set_option maxRecDepth 20000 in
theorem ggL_law_X3_thrown : GoodIn wsL_law wsX3_thrown := goodIn_r _ [273, 253, 659, 660, 661, 662, 663, 664, 665, 666, 667, 668, 669, 670, 671, 672, 673, 674, 675, 676, 677, 678, 679] (by decide +kernel) (by decide +kernel)
set_option maxRecDepth 20000 in
theorem gL_law_X3_thrown : GoodIn wsL_law (wsV RL 88 RX3 yX3_thrown wsX3_thrown) := goodIn_app (goodIn_of _ (by decide +kernel)) ggL_law_X3_thrown
set_option maxRecDepth 20000 in
theorem ggL_law_L_meet : GoodIn wsL_law wsL_meet := goodIn_ca (goodIn_ca (goodIn_r _ [276, 79, 80, 277, 278, 279, 2, 280, 86, 87, 88, 89, 97, 98, 99, 100, 101, 102, 281, 282, 283, 284, 21, 117, 285, 103, 104, 105, 20, 106, 107, 118, 119, 120, 121, 122, 123, 124, 125, 126, 127, 128, 129, 130, 131, 132, 133, 31, 286, 287, 288, 94, 289, 160, 161, 290, 144, 145, 146, 147, 148, 149, 150, 138, 151, 291, 292, 293, 294, 295, 296, 297, 298, 299, 157, 300, 135, 136, 137, 301, 302, 303, 304, 22, 13, 305, 306, 307, 308, 309, 310, 311, 312, 162, 163, 313, 314, 315, 316, 317, 318, 319, 320, 321, 112, 17, 134, 108, 109, 110, 111, 15, 16, 113, 114, 115, 116, 139, 140, 141, 142, 95, 143, 322, 323, 324, 325, 326, 327, 328, 329, 330, 331, 332, 333, 26, 334, 335, 336, 337, 25, 338, 52, 50, 339, 340, 341, 342, 343, 344, 345, 346, 347, 348, 349, 350, 351, 53, 46, 47, 352, 353, 354, 355, 49, 48, 356, 197, 198, 199, 652, 653, 654, 655, 656, 657, 658, 690, 691, 692, 693, 694, 695, 696, 697, 698, 699, 700, 680, 681, 682, 683, 684, 685, 686, 687, 688, 689] (by decide +kernel) (by decide +kernel)) (goodIn_sub (fun _ h => List.mem_append_left _ (List.mem_append_left _ (List.mem_append_right _ h))) (by decide +kernel))) (goodIn_sub (fun _ h => List.mem_append_left _ (List.mem_append_right _ h)) (by decide +kernel))
set_option maxRecDepth 20000 in
theorem gL_law_L_meet : GoodIn wsL_law (va_wsS RL 92 yL_meet wsL_meet) := goodIn_app (goodIn_of _ (by decide +kernel)) ggL_law_L_meet
set_option maxRecDepth 20000 in
theorem ggL_law_X3_meet : GoodIn wsL_law wsX3_meet := goodIn_r _ [360, 72, 71, 245, 246, 247, 5, 248, 241, 242, 243, 244, 249, 250, 251, 252, 253, 361, 362, 363, 364, 239, 66, 365, 366, 367, 368, 64, 61, 369, 370, 371, 372, 373, 374, 375, 376, 58, 266, 267, 268, 269, 59, 60, 377, 378, 379, 380, 62, 240, 63, 65, 381, 382, 383, 384, 69, 254, 255, 256, 257, 67, 68, 258, 259, 260, 261, 262, 263, 264, 265, 385, 386, 387, 388, 389, 390, 391, 392, 74, 393, 70, 73, 394, 395, 396, 397, 398, 399, 400, 401, 402, 403, 404, 405, 406, 407, 408, 409, 659, 660, 661, 662, 663, 664, 665, 666, 667, 668, 669, 670, 671, 672, 673, 674, 675, 676, 677, 678, 679] (by decide +kernel) (by decide +kernel)
set_option maxRecDepth 20000 in
theorem gL_law_X3_meet : GoodIn wsL_law (wsV RL 95 RX3 yX3_meet wsX3_meet) := goodIn_app (goodIn_of _ (by decide +kernel)) ggL_law_X3_meet
set_option maxRecDepth 20000 in
theorem ggL_law_L_pass : GoodIn wsL_law wsL_pass := goodIn_ca (goodIn_r _ [412, 80, 413, 414, 415, 2, 416, 88, 89, 13, 21, 117, 417, 418, 100, 101, 102, 103, 104, 105, 20, 106, 107, 118, 119, 120, 121, 122, 123, 124, 125, 126, 127, 128, 129, 130, 131, 132, 133, 31, 419, 420, 421, 94, 422, 161, 290, 144, 145, 146, 147, 148, 149, 150, 138, 151, 652, 653, 654, 655, 656, 657, 658, 690, 691, 692, 693, 694, 695, 696, 697, 698, 699, 700, 680, 681, 682] (by decide +kernel) (by decide +kernel)) (goodIn_sub (fun _ h => List.mem_append_left _ (List.mem_append_right _ h)) (by decide +kernel))
set_option maxRecDepth 20000 in
theorem gL_law_L_pass : GoodIn wsL_law (va_wsS RL 96 yL_pass wsL_pass) := goodIn_app (goodIn_of _ (by decide +kernel)) ggL_law_L_pass
set_option maxRecDepth 20000 in
theorem ggL_law_X3_pass : GoodIn wsL_law wsX3_pass := goodIn_r _ [426, 240, 239, 60, 62, 61, 64, 241, 242, 243, 5, 244, 249, 250, 251, 252, 253, 659, 660, 661, 662, 663, 664, 665, 666, 667, 668, 669, 670, 671, 672, 673, 674, 675, 676, 677, 678, 679] (by decide +kernel) (by decide +kernel)
set_option maxRecDepth 20000 in
theorem gL_law_X3_pass : GoodIn wsL_law (wsV RL 99 RX3 yX3_pass wsX3_pass) := goodIn_app (goodIn_of _ (by decide +kernel)) ggL_law_X3_pass
set_option maxRecDepth 20000 in
theorem ggL_law_L_setBuffer : GoodIn wsL_law wsL_setBuffer := goodIn_ca (goodIn_ca (goodIn_ca (goodIn_r _ [429, 79, 80, 81, 430, 431, 432, 2, 433, 86, 87, 88, 89, 90, 91, 15, 97, 98, 99, 100, 101, 102, 113, 114, 115, 116, 21, 117, 103, 104, 105, 20, 106, 107, 118, 119, 120, 121, 122, 123, 124, 125, 126, 127, 128, 129, 130, 131, 132, 133, 31, 134, 135, 136, 94, 137, 138, 652, 653, 654, 655, 656, 657, 658, 680, 681, 682, 690, 691, 692, 693, 694, 695, 696, 697, 698, 699, 700] (by decide +kernel) (by decide +kernel)) (goodIn_sub (fun _ h => List.mem_append_left _ (List.mem_append_left _ (List.mem_append_right _ h))) (by decide +kernel))) (goodIn_sub (fun _ h => List.mem_append_left _ (List.mem_append_right _ h)) (by decide +kernel))) (goodIn_sub (fun _ h => List.mem_append_right _ h) (by decide +kernel))
set_option maxRecDepth 20000 in
theorem gL_law_L_setBuffer : GoodIn wsL_law (va_wsS RL 100 yL_setBuffer wsL_setBuffer) := goodIn_app (goodIn_of _ (by decide +kernel)) ggL_law_L_setBuffer
set_option maxRecDepth 20000 in
theorem ggL_law_X3_setBuffer : GoodIn wsL_law wsX3_setBuffer := goodIn_r _ [437, 67, 245, 246, 247, 5, 248, 241, 242, 243, 244, 258, 259, 260, 261, 239, 64, 249, 250, 251, 252, 253, 659, 660, 661, 662, 663, 664, 665, 666, 667, 668, 669, 670, 671, 672, 673, 674, 675, 676, 677, 678, 679] (by decide +kernel) (by decide +kernel)
set_option maxRecDepth 20000 in
theorem gL_law_X3_setBuffer : GoodIn wsL_law (wsV RL 103 RX3 yX3_setBuffer wsX3_setBuffer) := goodIn_app (goodIn_of _ (by decide +kernel)) ggL_law_X3_setBuffer
set_option maxRecDepth 20000 in
theorem ggL_law_L_addContact : GoodIn wsL_law wsL_addContact := goodIn_ca (goodIn_ca (goodIn_ca (goodIn_r _ [440, 79, 80, 81, 441, 442, 443, 2, 444, 86, 87, 88, 89, 90, 91, 445, 26, 446, 97, 98, 99, 100, 101, 102, 447, 448, 449, 25, 450, 53, 46, 47, 48, 49, 652, 653, 654, 655, 656, 657, 658, 683, 684, 685, 686, 687, 688, 689] (by decide +kernel) (by decide +kernel)) (goodIn_sub (fun _ h => List.mem_append_left _ (List.mem_append_left _ (List.mem_append_right _ h))) (by decide +kernel))) (goodIn_sub (fun _ h => List.mem_append_left _ (List.mem_append_right _ h)) (by decide +kernel))) (goodIn_sub (fun _ h => List.mem_append_right _ h) (by decide +kernel))
set_option maxRecDepth 20000 in
theorem gL_law_L_addContact : GoodIn wsL_law (va_wsS RL 104 yL_addContact wsL_addContact) := goodIn_app (goodIn_of _ (by decide +kernel)) ggL_law_L_addContact
set_option maxRecDepth 20000 in
theorem ggL_law_X3_addContact : GoodIn wsL_law wsX3_addContact := goodIn_r _ [454, 455, 393, 70, 241, 242, 243, 5, 244, 245, 246, 247, 248, 249, 250, 251, 252, 253, 659, 660, 661, 662, 663, 664, 665, 666, 667, 668, 669, 670, 671, 672, 673, 674, 675, 676, 677, 678, 679] (by decide +kernel) (by decide +kernel)
set_option maxRecDepth 20000 in
theorem gL_law_X3_addContact : GoodIn wsL_law (wsV RL 107 RX3 yX3_addContact wsX3_addContact) := goodIn_app (goodIn_of _ (by decide +kernel)) ggL_law_X3_addContact
set_option maxRecDepth 20000 in
theorem ggL_law_X2_clock : GoodIn wsL_law wsX2_clock := goodIn_r _ [459, 13, 652, 653, 654, 655, 656, 657, 658] (by decide +kernel) (by decide +kernel)
set_option maxRecDepth 20000 in
theorem gL_law_X2_clock : GoodIn wsL_law (wsV RL 108 RX2 yX2_clock wsX2_clock) := goodIn_app (goodIn_of _ (by decide +kernel)) ggL_law_X2_clock
set_option maxRecDepth 20000 in
theorem ggL_law_X3_clock : GoodIn wsL_law wsX3_clock := goodIn_r _ [463, 240, 464, 465, 466, 5, 467, 253, 659, 660, 661, 662, 663, 664, 665, 666, 667, 668, 669, 670, 671, 672, 673, 674, 675, 676, 677, 678, 679] (by decide +kernel) (by decide +kernel)
set_option maxRecDepth 20000 in
theorem gL_law_X3_clock : GoodIn wsL_law (wsV RL 111 RX3 yX3_clock wsX3_clock) := goodIn_app (goodIn_of _ (by decide +kernel)) ggL_law_X3_clock
set_option maxRecDepth 20000 in
theorem ggL_law_X2_bundles : GoodIn wsL_law wsX2_bundles := goodIn_r _ [471, 21, 103, 104, 105, 20, 106, 107, 652, 653, 654, 655, 656, 657, 658, 680, 681, 682] (by decide +kernel) (by decide +kernel)
set_option maxRecDepth 20000 in
theorem gL_law_X2_bundles : GoodIn wsL_law (wsV RL 112 RX2 yX2_bundles wsX2_bundles) := goodIn_app (goodIn_of _ (by decide +kernel)) ggL_law_X2_bundles
set_option maxRecDepth 20000 in
theorem ggL_law_X3_bundles : GoodIn wsL_law wsX3_bundles := goodIn_r _ [475, 239, 464, 465, 466, 5, 467, 253, 659, 660, 661, 662, 663, 664, 665, 666, 667, 668, 669, 670, 671, 672, 673, 674, 675, 676, 677, 678, 679] (by decide +kernel) (by decide +kernel)
set_option maxRecDepth 20000 in
theorem gL_law_X3_bundles : GoodIn wsL_law (wsV RL 115 RX3 yX3_bundles wsX3_bundles) := goodIn_app (goodIn_of _ (by decide +kernel)) ggL_law_X3_bundles
set_option maxRecDepth 20000 in
theorem ggL_law_L_endOf : GoodIn wsL_law wsL_endOf := goodIn_ca (goodIn_r _ [478, 79, 479, 480, 481, 2, 482, 417, 483, 484, 485, 486, 86, 87, 21, 117, 103, 104, 105, 20, 106, 107, 118, 119, 120, 121, 122, 123, 124, 125, 126, 127, 128, 129, 130, 131, 132, 133, 31, 690, 691, 692, 693, 694, 695, 696, 697, 698, 699, 700, 652, 653, 654, 655, 656, 657, 658, 680, 681, 682] (by decide +kernel) (by decide +kernel)) (goodIn_sub (fun _ h => List.mem_append_left _ (List.mem_append_left _ (List.mem_append_right _ h))) (by decide +kernel))
set_option maxRecDepth 20000 in
theorem gL_law_L_endOf : GoodIn wsL_law (va_wsS RL 116 yL_endOf wsL_endOf) := goodIn_app (goodIn_of _ (by decide +kernel)) ggL_law_L_endOf
set_option maxRecDepth 20000 in
theorem ggL_law_X3_endOf : GoodIn wsL_law wsX3_endOf := goodIn_r _ [490, 60, 491, 492, 493, 5, 494, 239, 241, 242, 243, 244, 249, 250, 251, 252, 253, 659, 660, 661, 662, 663, 664, 665, 666, 667, 668, 669, 670, 671, 672, 673, 674, 675, 676, 677, 678, 679] (by decide +kernel) (by decide +kernel)
set_option maxRecDepth 20000 in
theorem gL_law_X3_endOf : GoodIn wsL_law (wsV RL 118 RX3 yX3_endOf wsX3_endOf) := goodIn_app (goodIn_of _ (by decide +kernel)) ggL_law_X3_endOf
set_option maxRecDepth 20000 in
theorem ggL_law_L_deliveredAt : GoodIn wsL_law wsL_deliveredAt := goodIn_ca (goodIn_r _ [497, 79, 498, 499, 500, 2, 501, 418, 483, 484, 485, 486, 86, 87, 21, 117, 103, 104, 105, 20, 106, 107, 118, 119, 120, 121, 122, 123, 124, 125, 126, 127, 128, 129, 130, 131, 132, 133, 31, 690, 691, 692, 693, 694, 695, 696, 697, 698, 699, 700, 652, 653, 654, 655, 656, 657, 658, 680, 681, 682] (by decide +kernel) (by decide +kernel)) (goodIn_sub (fun _ h => List.mem_append_left _ (List.mem_append_left _ (List.mem_append_right _ h))) (by decide +kernel))
set_option maxRecDepth 20000 in
theorem gL_law_L_deliveredAt : GoodIn wsL_law (va_wsS RL 119 yL_deliveredAt wsL_deliveredAt) := goodIn_app (goodIn_of _ (by decide +kernel)) ggL_law_L_deliveredAt
set_option maxRecDepth 20000 in
theorem ggL_law_X3_deliveredAt : GoodIn wsL_law wsX3_deliveredAt := goodIn_r _ [505, 62, 491, 492, 493, 5, 494, 239, 241, 242, 243, 244, 249, 250, 251, 252, 253, 659, 660, 661, 662, 663, 664, 665, 666, 667, 668, 669, 670, 671, 672, 673, 674, 675, 676, 677, 678, 679] (by decide +kernel) (by decide +kernel)
set_option maxRecDepth 20000 in
theorem gL_law_X3_deliveredAt : GoodIn wsL_law (wsV RL 121 RX3 yX3_deliveredAt wsX3_deliveredAt) := goodIn_app (goodIn_of _ (by decide +kernel)) ggL_law_X3_deliveredAt
set_option maxRecDepth 20000 in
theorem ggL_law_L_hops : GoodIn wsL_law wsL_hops := goodIn_ca (goodIn_r _ [508, 79, 509, 510, 511, 2, 512, 513, 483, 484, 485, 486, 86, 87, 21, 117, 103, 104, 105, 20, 106, 107, 118, 119, 120, 121, 122, 123, 124, 125, 126, 127, 128, 129, 130, 131, 132, 133, 31, 690, 691, 692, 693, 694, 695, 696, 697, 698, 699, 700, 652, 653, 654, 655, 656, 657, 658, 680, 681, 682] (by decide +kernel) (by decide +kernel)) (goodIn_sub (fun _ h => List.mem_append_left _ (List.mem_append_left _ (List.mem_append_right _ h))) (by decide +kernel))
set_option maxRecDepth 20000 in
theorem gL_law_L_hops : GoodIn wsL_law (va_wsS RL 122 yL_hops wsL_hops) := goodIn_app (goodIn_of _ (by decide +kernel)) ggL_law_L_hops
set_option maxRecDepth 20000 in
theorem ggL_law_X3_hops : GoodIn wsL_law wsX3_hops := goodIn_r _ [517, 63, 491, 492, 493, 5, 494, 239, 241, 242, 243, 244, 249, 250, 251, 252, 253, 659, 660, 661, 662, 663, 664, 665, 666, 667, 668, 669, 670, 671, 672, 673, 674, 675, 676, 677, 678, 679] (by decide +kernel) (by decide +kernel)
set_option maxRecDepth 20000 in
theorem gL_law_X3_hops : GoodIn wsL_law (wsV RL 124 RX3 yX3_hops wsX3_hops) := goodIn_app (goodIn_of _ (by decide +kernel)) ggL_law_X3_hops
set_option maxRecDepth 20000 in
theorem ggL_law_L_custodian : GoodIn wsL_law wsL_custodian := goodIn_ca (goodIn_r _ [520, 79, 521, 522, 523, 2, 524, 95, 483, 484, 485, 486, 86, 87, 21, 117, 103, 104, 105, 20, 106, 107, 118, 119, 120, 121, 122, 123, 124, 125, 126, 127, 128, 129, 130, 131, 132, 133, 31, 690, 691, 692, 693, 694, 695, 696, 697, 698, 699, 700, 652, 653, 654, 655, 656, 657, 658, 680, 681, 682] (by decide +kernel) (by decide +kernel)) (goodIn_sub (fun _ h => List.mem_append_left _ (List.mem_append_left _ (List.mem_append_right _ h))) (by decide +kernel))
set_option maxRecDepth 20000 in
theorem gL_law_L_custodian : GoodIn wsL_law (va_wsS RL 125 yL_custodian wsL_custodian) := goodIn_app (goodIn_of _ (by decide +kernel)) ggL_law_L_custodian
set_option maxRecDepth 20000 in
theorem ggL_law_X3_custodian : GoodIn wsL_law wsX3_custodian := goodIn_r _ [528, 61, 491, 492, 493, 5, 494, 239, 241, 242, 243, 244, 249, 250, 251, 252, 253, 659, 660, 661, 662, 663, 664, 665, 666, 667, 668, 669, 670, 671, 672, 673, 674, 675, 676, 677, 678, 679] (by decide +kernel) (by decide +kernel)
set_option maxRecDepth 20000 in
theorem gL_law_X3_custodian : GoodIn wsL_law (wsV RL 127 RX3 yX3_custodian wsX3_custodian) := goodIn_app (goodIn_of _ (by decide +kernel)) ggL_law_X3_custodian
set_option maxRecDepth 20000 in
theorem ggL_law_L_holders : GoodIn wsL_law wsL_holders := goodIn_ca (goodIn_r _ [531, 79, 532, 533, 534, 2, 535, 483, 484, 485, 486, 86, 87, 21, 117, 103, 104, 105, 20, 106, 107, 118, 119, 120, 121, 122, 123, 124, 125, 126, 127, 128, 129, 130, 131, 132, 133, 31, 134, 135, 136, 94, 137, 138, 652, 653, 654, 655, 656, 657, 658, 680, 681, 682, 690, 691, 692, 693, 694, 695, 696, 697, 698, 699, 700] (by decide +kernel) (by decide +kernel)) (goodIn_sub (fun _ h => List.mem_append_left _ (List.mem_append_left _ (List.mem_append_right _ h))) (by decide +kernel))
set_option maxRecDepth 20000 in
theorem gL_law_L_holders : GoodIn wsL_law (va_wsS RL 128 yL_holders wsL_holders) := goodIn_app (goodIn_of _ (by decide +kernel)) ggL_law_L_holders
set_option maxRecDepth 20000 in
theorem ggL_law_X3_holders : GoodIn wsL_law wsX3_holders := goodIn_r _ [539, 64, 491, 492, 493, 5, 494, 239, 241, 242, 243, 244, 249, 250, 251, 252, 253, 659, 660, 661, 662, 663, 664, 665, 666, 667, 668, 669, 670, 671, 672, 673, 674, 675, 676, 677, 678, 679] (by decide +kernel) (by decide +kernel)
set_option maxRecDepth 20000 in
theorem gL_law_X3_holders : GoodIn wsL_law (wsV RL 130 RX3 yX3_holders wsX3_holders) := goodIn_app (goodIn_of _ (by decide +kernel)) ggL_law_X3_holders
set_option maxRecDepth 20000 in
theorem ggL_law_L_copies : GoodIn wsL_law wsL_copies := goodIn_ca (goodIn_r _ [542, 79, 543, 544, 545, 2, 546, 547, 548, 549, 550, 86, 87, 97, 98, 99, 100, 101, 102, 483, 484, 485, 486, 21, 117, 103, 104, 105, 20, 106, 107, 118, 119, 120, 121, 122, 123, 124, 125, 126, 127, 128, 129, 130, 131, 132, 133, 31, 690, 691, 692, 693, 694, 695, 696, 697, 698, 699, 700, 652, 653, 654, 655, 656, 657, 658, 680, 681, 682] (by decide +kernel) (by decide +kernel)) (goodIn_sub (fun _ h => List.mem_append_left _ (List.mem_append_left _ (List.mem_append_right _ h))) (by decide +kernel))
set_option maxRecDepth 20000 in
theorem gL_law_L_copies : GoodIn wsL_law (va_wsS RL 131 yL_copies wsL_copies) := goodIn_app (goodIn_of _ (by decide +kernel)) ggL_law_L_copies
set_option maxRecDepth 20000 in
theorem ggL_law_X3_copies : GoodIn wsL_law wsX3_copies := goodIn_r _ [554, 64, 245, 246, 247, 5, 248, 241, 242, 243, 244, 491, 492, 493, 494, 239, 249, 250, 251, 252, 253, 659, 660, 661, 662, 663, 664, 665, 666, 667, 668, 669, 670, 671, 672, 673, 674, 675, 676, 677, 678, 679] (by decide +kernel) (by decide +kernel)
set_option maxRecDepth 20000 in
theorem gL_law_X3_copies : GoodIn wsL_law (wsV RL 133 RX3 yX3_copies wsX3_copies) := goodIn_app (goodIn_of _ (by decide +kernel)) ggL_law_X3_copies
set_option maxRecDepth 20000 in
theorem ggL_law_L_knows : GoodIn wsL_law wsL_knows := goodIn_ca (goodIn_r _ [557, 79, 558, 559, 560, 2, 561, 285, 548, 549, 550, 86, 87, 97, 98, 99, 100, 101, 102, 483, 484, 485, 486, 21, 117, 103, 104, 105, 20, 106, 107, 118, 119, 120, 121, 122, 123, 124, 125, 126, 127, 128, 129, 130, 131, 132, 133, 31, 690, 691, 692, 693, 694, 695, 696, 697, 698, 699, 700, 652, 653, 654, 655, 656, 657, 658, 680, 681, 682] (by decide +kernel) (by decide +kernel)) (goodIn_sub (fun _ h => List.mem_append_left _ (List.mem_append_left _ (List.mem_append_right _ h))) (by decide +kernel))
set_option maxRecDepth 20000 in
theorem gL_law_L_knows : GoodIn wsL_law (va_wsS RL 134 yL_knows wsL_knows) := goodIn_app (goodIn_of _ (by decide +kernel)) ggL_law_L_knows
set_option maxRecDepth 20000 in
theorem ggL_law_X3_knows : GoodIn wsL_law wsX3_knows := goodIn_r _ [565, 66, 245, 246, 247, 5, 248, 241, 242, 243, 244, 491, 492, 493, 494, 239, 249, 250, 251, 252, 253, 659, 660, 661, 662, 663, 664, 665, 666, 667, 668, 669, 670, 671, 672, 673, 674, 675, 676, 677, 678, 679] (by decide +kernel) (by decide +kernel)
set_option maxRecDepth 20000 in
theorem gL_law_X3_knows : GoodIn wsL_law (wsV RL 136 RX3 yX3_knows wsX3_knows) := goodIn_app (goodIn_of _ (by decide +kernel)) ggL_law_X3_knows
set_option maxRecDepth 20000 in
theorem ggL_law_L_held : GoodIn wsL_law wsL_held := goodIn_ca (goodIn_r _ [568, 79, 569, 570, 571, 2, 572, 548, 549, 550, 86, 87, 97, 98, 99, 100, 101, 102, 113, 114, 115, 116, 21, 117, 103, 104, 105, 20, 106, 107, 118, 119, 120, 121, 122, 123, 124, 125, 126, 127, 128, 129, 130, 131, 132, 133, 31, 134, 135, 136, 94, 137, 138, 652, 653, 654, 655, 656, 657, 658, 680, 681, 682, 690, 691, 692, 693, 694, 695, 696, 697, 698, 699, 700] (by decide +kernel) (by decide +kernel)) (goodIn_sub (fun _ h => List.mem_append_left _ (List.mem_append_left _ (List.mem_append_right _ h))) (by decide +kernel))
set_option maxRecDepth 20000 in
theorem gL_law_L_held : GoodIn wsL_law (va_wsS RL 137 yL_held wsL_held) := goodIn_app (goodIn_of _ (by decide +kernel)) ggL_law_L_held
set_option maxRecDepth 20000 in
theorem ggL_law_X3_held : GoodIn wsL_law wsX3_held := goodIn_r _ [576, 245, 246, 247, 5, 248, 241, 242, 243, 244, 249, 250, 251, 252, 253, 258, 259, 260, 261, 239, 64, 659, 660, 661, 662, 663, 664, 665, 666, 667, 668, 669, 670, 671, 672, 673, 674, 675, 676, 677, 678, 679] (by decide +kernel) (by decide +kernel)
set_option maxRecDepth 20000 in
theorem gL_law_X3_held : GoodIn wsL_law (wsV RL 139 RX3 yX3_held wsX3_held) := goodIn_app (goodIn_of _ (by decide +kernel)) ggL_law_X3_held
set_option maxRecDepth 20000 in
theorem ggL_law_L_heldAt : GoodIn wsL_law wsL_heldAt := goodIn_ca (goodIn_r _ [579, 79, 580, 581, 582, 2, 583, 86, 87, 22, 117, 96, 548, 549, 550, 97, 98, 99, 100, 101, 102, 103, 104, 105, 20, 106, 107, 118, 119, 120, 121, 122, 123, 124, 125, 126, 127, 128, 129, 130, 131, 132, 133, 31, 134, 135, 136, 94, 137, 138, 652, 653, 654, 655, 656, 657, 658, 690, 691, 692, 693, 694, 695, 696, 697, 698, 699, 700, 680, 681, 682] (by decide +kernel) (by decide +kernel)) (goodIn_sub (fun _ h => List.mem_append_left _ (List.mem_append_left _ (List.mem_append_right _ h))) (by decide +kernel))
set_option maxRecDepth 20000 in
theorem gL_law_L_heldAt : GoodIn wsL_law (va_wsS RL 140 yL_heldAt wsL_heldAt) := goodIn_app (goodIn_of _ (by decide +kernel)) ggL_law_L_heldAt
set_option maxRecDepth 20000 in
theorem ggL_law_X3_heldAt : GoodIn wsL_law wsX3_heldAt := goodIn_r _ [587, 239, 64, 245, 246, 247, 5, 248, 241, 242, 243, 244, 258, 259, 260, 261, 249, 250, 251, 252, 253, 266, 267, 268, 269, 59, 60, 659, 660, 661, 662, 663, 664, 665, 666, 667, 668, 669, 670, 671, 672, 673, 674, 675, 676, 677, 678, 679] (by decide +kernel) (by decide +kernel)
set_option maxRecDepth 20000 in
theorem gL_law_X3_heldAt : GoodIn wsL_law (wsV RL 142 RX3 yX3_heldAt wsX3_heldAt) := goodIn_app (goodIn_of _ (by decide +kernel)) ggL_law_X3_heldAt
set_option maxRecDepth 20000 in
theorem ggL_law_L_dropped : GoodIn wsL_law wsL_dropped := goodIn_ca (goodIn_r _ [590, 79, 591, 592, 593, 2, 594, 16, 548, 549, 550, 86, 87, 97, 98, 99, 100, 101, 102, 652, 653, 654, 655, 656, 657, 658] (by decide +kernel) (by decide +kernel)) (goodIn_sub (fun _ h => List.mem_append_left _ (List.mem_append_left _ (List.mem_append_right _ h))) (by decide +kernel))
set_option maxRecDepth 20000 in
theorem gL_law_L_dropped : GoodIn wsL_law (va_wsS RL 143 yL_dropped wsL_dropped) := goodIn_app (goodIn_of _ (by decide +kernel)) ggL_law_L_dropped
set_option maxRecDepth 20000 in
theorem ggL_law_X3_dropped : GoodIn wsL_law wsX3_dropped := goodIn_r _ [598, 68, 245, 246, 247, 5, 248, 241, 242, 243, 244, 249, 250, 251, 252, 253, 659, 660, 661, 662, 663, 664, 665, 666, 667, 668, 669, 670, 671, 672, 673, 674, 675, 676, 677, 678, 679] (by decide +kernel) (by decide +kernel)
set_option maxRecDepth 20000 in
theorem gL_law_X3_dropped : GoodIn wsL_law (wsV RL 145 RX3 yX3_dropped wsX3_dropped) := goodIn_app (goodIn_of _ (by decide +kernel)) ggL_law_X3_dropped
set_option maxRecDepth 20000 in
theorem ggL_law_L_refused : GoodIn wsL_law wsL_refused := goodIn_ca (goodIn_r _ [601, 79, 602, 603, 604, 2, 605, 17, 548, 549, 550, 86, 87, 97, 98, 99, 100, 101, 102, 652, 653, 654, 655, 656, 657, 658] (by decide +kernel) (by decide +kernel)) (goodIn_sub (fun _ h => List.mem_append_left _ (List.mem_append_left _ (List.mem_append_right _ h))) (by decide +kernel))
set_option maxRecDepth 20000 in
theorem gL_law_L_refused : GoodIn wsL_law (va_wsS RL 146 yL_refused wsL_refused) := goodIn_app (goodIn_of _ (by decide +kernel)) ggL_law_L_refused
set_option maxRecDepth 20000 in
theorem ggL_law_X3_refused : GoodIn wsL_law wsX3_refused := goodIn_r _ [609, 69, 245, 246, 247, 5, 248, 241, 242, 243, 244, 249, 250, 251, 252, 253, 659, 660, 661, 662, 663, 664, 665, 666, 667, 668, 669, 670, 671, 672, 673, 674, 675, 676, 677, 678, 679] (by decide +kernel) (by decide +kernel)
set_option maxRecDepth 20000 in
theorem gL_law_X3_refused : GoodIn wsL_law (wsV RL 148 RX3 yX3_refused wsX3_refused) := goodIn_app (goodIn_of _ (by decide +kernel)) ggL_law_X3_refused
set_option maxRecDepth 20000 in
theorem ggL_law_L_arrival : GoodIn wsL_law wsL_arrival := goodIn_ca (goodIn_r _ [612, 79, 613, 614, 615, 2, 616, 26, 13, 548, 549, 550, 86, 87, 97, 98, 99, 100, 101, 102, 335, 336, 337, 25, 338, 52, 50, 339, 340, 341, 342, 343, 344, 345, 346, 347, 348, 349, 350, 351, 53, 46, 47, 352, 353, 354, 355, 49, 48, 356, 197, 198, 199, 617, 618, 619, 620, 652, 653, 654, 655, 656, 657, 658, 683, 684, 685, 686, 687, 688, 689] (by decide +kernel) (by decide +kernel)) (goodIn_sub (fun _ h => List.mem_append_left _ (List.mem_append_left _ (List.mem_append_right _ h))) (by decide +kernel))
set_option maxRecDepth 20000 in
theorem gL_law_L_arrival : GoodIn wsL_law (va_wsS RL 149 yL_arrival wsL_arrival) := goodIn_app (goodIn_of _ (by decide +kernel)) ggL_law_L_arrival
set_option maxRecDepth 20000 in
theorem ggL_law_X3_arrival : GoodIn wsL_law wsX3_arrival := goodIn_r _ [624, 245, 246, 247, 5, 248, 241, 242, 243, 244, 249, 250, 251, 252, 253, 389, 390, 391, 392, 74, 393, 70, 73, 394, 395, 396, 397, 240, 398, 399, 400, 401, 402, 403, 404, 405, 406, 407, 408, 409, 659, 660, 661, 662, 663, 664, 665, 666, 667, 668, 669, 670, 671, 672, 673, 674, 675, 676, 677, 678, 679] (by decide +kernel) (by decide +kernel)
set_option maxRecDepth 20000 in
theorem gL_law_X3_arrival : GoodIn wsL_law (wsV RL 151 RX3 yX3_arrival wsX3_arrival) := goodIn_app (goodIn_of _ (by decide +kernel)) ggL_law_X3_arrival
set_option maxRecDepth 20000 in
theorem ggL_law_L_arrivalByRounds : GoodIn wsL_law wsL_arrivalByRounds := goodIn_ca (goodIn_r _ [627, 79, 628, 629, 630, 2, 631, 26, 13, 548, 549, 550, 86, 87, 97, 98, 99, 100, 101, 102, 632, 633, 634, 25, 635, 53, 46, 47, 50, 339, 340, 341, 342, 343, 52, 352, 353, 354, 355, 49, 48, 356, 197, 198, 199, 617, 618, 619, 620, 652, 653, 654, 655, 656, 657, 658, 683, 684, 685, 686, 687, 688, 689] (by decide +kernel) (by decide +kernel)) (goodIn_sub (fun _ h => List.mem_append_left _ (List.mem_append_left _ (List.mem_append_right _ h))) (by decide +kernel))
set_option maxRecDepth 20000 in
theorem gL_law_L_arrivalByRounds : GoodIn wsL_law (va_wsS RL 152 yL_arrivalByRounds wsL_arrivalByRounds) := goodIn_app (goodIn_of _ (by decide +kernel)) ggL_law_L_arrivalByRounds
set_option maxRecDepth 20000 in
theorem ggL_law_X3_arrivalByRounds : GoodIn wsL_law wsX3_arrivalByRounds := goodIn_r _ [639, 393, 70, 73, 245, 246, 247, 5, 248, 241, 242, 243, 244, 249, 250, 251, 252, 253, 394, 395, 396, 397, 240, 74, 402, 403, 404, 405, 406, 407, 408, 409, 659, 660, 661, 662, 663, 664, 665, 666, 667, 668, 669, 670, 671, 672, 673, 674, 675, 676, 677, 678, 679] (by decide +kernel) (by decide +kernel)
set_option maxRecDepth 20000 in
theorem gL_law_X3_arrivalByRounds : GoodIn wsL_law (wsV RL 154 RX3 yX3_arrivalByRounds wsX3_arrivalByRounds) := goodIn_app (goodIn_of _ (by decide +kernel)) ggL_law_X3_arrivalByRounds
set_option maxRecDepth 20000 in
theorem ggL_law_L_promised : GoodIn wsL_law wsL_promised := goodIn_ca (goodIn_r _ [642, 79, 643, 644, 645, 2, 646, 620, 26, 334, 13, 647, 224, 198, 225, 417, 483, 484, 485, 486, 86, 87, 21, 117, 103, 104, 105, 20, 106, 107, 118, 119, 120, 121, 122, 123, 124, 125, 126, 127, 128, 129, 130, 131, 132, 133, 31, 134, 135, 136, 94, 137, 138, 335, 336, 337, 25, 338, 52, 50, 339, 340, 341, 342, 343, 344, 345, 346, 347, 348, 349, 350, 351, 53, 46, 47, 352, 353, 354, 355, 49, 48, 356, 197, 199, 617, 618, 619, 652, 653, 654, 655, 656, 657, 658, 690, 691, 692, 693, 694, 695, 696, 697, 698, 699, 700, 680, 681, 682, 683, 684, 685, 686, 687, 688, 689] (by decide +kernel) (by decide +kernel)) (goodIn_sub (fun _ h => List.mem_append_left _ (List.mem_append_left _ (List.mem_append_right _ h))) (by decide +kernel))
set_option maxRecDepth 20000 in
theorem gL_law_L_promised : GoodIn wsL_law (va_wsS RL 155 yL_promised wsL_promised) := goodIn_app (goodIn_of _ (by decide +kernel)) ggL_law_L_promised
set_option maxRecDepth 20000 in
theorem ggL_law_X3_promised : GoodIn wsL_law wsX3_promised := goodIn_r _ [651, 64, 58, 60, 491, 492, 493, 5, 494, 239, 241, 242, 243, 244, 249, 250, 251, 252, 253, 389, 390, 391, 392, 74, 393, 70, 73, 394, 395, 396, 397, 240, 398, 399, 400, 401, 402, 403, 404, 405, 406, 407, 408, 409, 659, 660, 661, 662, 663, 664, 665, 666, 667, 668, 669, 670, 671, 672, 673, 674, 675, 676, 677, 678, 679] (by decide +kernel) (by decide +kernel)
set_option maxRecDepth 20000 in
theorem gL_law_X3_promised : GoodIn wsL_law (wsV RL 157 RX3 yX3_promised wsX3_promised) := goodIn_app (goodIn_of _ (by decide +kernel)) ggL_law_X3_promised
