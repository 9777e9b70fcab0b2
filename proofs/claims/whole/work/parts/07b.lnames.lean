set_option maxRecDepth 20000 in
theorem ggL_law_X4_init : GoodIn wsL_law wsX4_init := goodIn_r _ [9, 10, 11, 12, 13, 14, 15, 16, 17, 18, 19, 20, 21, 22, 23, 24, 25, 26, 27, 28, 29, 30, 31, 32, 6, 33, 34, 35, 36, 37, 38, 39, 40, 41, 42, 43, 44, 45, 46, 47, 48, 49, 50, 51, 52, 53, 54, 55, 56, 57, 58, 59, 60, 61, 62, 63, 64, 65, 66, 67, 68, 69, 70, 71, 72, 73, 74, 75, 76, 77, 675, 676, 677, 678, 679, 680, 681, 682, 638, 639, 640, 641, 642, 683, 684, 685, 686, 687, 688, 689, 690, 691, 692, 693, 694, 695, 696, 697, 698, 699, 700, 701, 702, 703, 704, 705, 706, 707] (by decide +kernel) (by decide +kernel)
set_option maxRecDepth 20000 in
theorem gL_law_X4_init : GoodIn wsL_law (wsX4_init) := ggL_law_X4_init
set_option maxRecDepth 20000 in
theorem ggL_law_X5_init : GoodIn wsL_law wsX5_init := goodIn_r _ [80, 81, 11, 12, 6, 82, 83, 35, 84, 85, 86, 87, 40, 88, 89, 90, 91, 92, 93, 94, 95, 96, 97, 98, 99, 100, 101, 102, 103, 104, 105, 106, 107, 108, 643, 644, 645, 646, 647, 648, 649, 650, 651, 652, 653, 654, 655, 656, 657, 658, 659, 660, 661, 662, 663, 664, 665, 666, 667, 668, 669, 670, 671, 672, 673, 674] (by decide +kernel) (by decide +kernel)
set_option maxRecDepth 20000 in
theorem gL_law_X5_init : GoodIn wsL_law (wsX5_init) := ggL_law_X5_init
set_option maxRecDepth 20000 in
theorem ggL_law_L_deposit : GoodIn wsL_law wsL_deposit := goodIn_ca (goodIn_ca (goodIn_ca (goodIn_r _ [112, 113, 114, 115, 116, 117, 118, 2, 119, 120, 121, 122, 16, 123, 124, 125, 126, 127, 128, 129, 130, 131, 132, 133, 134, 135, 136, 137, 15, 138, 41, 42, 638, 639, 640, 641, 642, 675, 676, 677, 678, 679, 680, 681, 682] (by decide +kernel) (by decide +kernel)) (goodIn_sub (fun _ h => List.mem_append_left _ (List.mem_append_left _ (List.mem_append_left _ (List.mem_append_right _ h)))) (by decide +kernel))) (goodIn_sub (fun _ h => List.mem_append_left _ (List.mem_append_left _ (List.mem_append_right _ h))) (by decide +kernel))) (goodIn_sub (fun _ h => List.mem_append_left _ (List.mem_append_right _ h)) (by decide +kernel))
set_option maxRecDepth 20000 in
theorem gL_law_L_deposit : GoodIn wsL_law (va_wsS RL 85 yL_deposit wsL_deposit) := goodIn_app (goodIn_of _ (by decide +kernel)) ggL_law_L_deposit
set_option maxRecDepth 20000 in
theorem ggL_law_X5_deposit : GoodIn wsL_law wsX5_deposit := goodIn_r _ [142, 143, 82, 144, 145, 88, 146, 147, 5, 148, 149, 150, 151, 643, 644, 645, 646, 647, 648, 649, 650, 651, 652, 653, 654, 655, 656, 657, 658, 659, 660, 661, 662, 663, 664, 665, 666, 667, 668, 669, 670, 671, 672, 673, 674] (by decide +kernel) (by decide +kernel)
set_option maxRecDepth 20000 in
theorem gL_law_X5_deposit : GoodIn wsL_law (wsV RL 90 RX5 yX5_deposit wsX5_deposit) := goodIn_app (goodIn_of _ (by decide +kernel)) ggL_law_X5_deposit
set_option maxRecDepth 20000 in
theorem ggL_law_X5_thrown : GoodIn wsL_law wsX5_thrown := goodIn_r _ [155, 145, 643, 644, 645, 646, 647, 648, 649, 650, 651, 652, 653, 654, 655, 656, 657, 658, 659, 660, 661, 662, 663, 664, 665, 666, 667, 668, 669, 670, 671, 672, 673, 674] (by decide +kernel) (by decide +kernel)
set_option maxRecDepth 20000 in
theorem gL_law_X5_thrown : GoodIn wsL_law (wsV RL 91 RX5 yX5_thrown wsX5_thrown) := goodIn_app (goodIn_of _ (by decide +kernel)) ggL_law_X5_thrown
set_option maxRecDepth 20000 in
theorem ggL_law_L_withdraw : GoodIn wsL_law wsL_withdraw := goodIn_ca (goodIn_ca (goodIn_ca (goodIn_r _ [158, 113, 114, 115, 159, 160, 161, 2, 162, 120, 121, 122, 16, 123, 125, 126, 127, 128, 129, 130, 131, 132, 133, 134, 163, 164, 165, 15, 166, 33, 34, 638, 639, 640, 641, 642, 675, 676, 677, 678, 679, 680, 681, 682] (by decide +kernel) (by decide +kernel)) (goodIn_sub (fun _ h => List.mem_append_left _ (List.mem_append_left _ (List.mem_append_left _ (List.mem_append_right _ h)))) (by decide +kernel))) (goodIn_sub (fun _ h => List.mem_append_left _ (List.mem_append_left _ (List.mem_append_right _ h))) (by decide +kernel))) (goodIn_sub (fun _ h => List.mem_append_left _ (List.mem_append_right _ h)) (by decide +kernel))
set_option maxRecDepth 20000 in
theorem gL_law_L_withdraw : GoodIn wsL_law (va_wsS RL 95 yL_withdraw wsL_withdraw) := goodIn_app (goodIn_of _ (by decide +kernel)) ggL_law_L_withdraw
set_option maxRecDepth 20000 in
theorem ggL_law_X5_withdraw : GoodIn wsL_law wsX5_withdraw := goodIn_r _ [170, 143, 82, 83, 145, 146, 147, 5, 148, 149, 150, 151, 643, 644, 645, 646, 647, 648, 649, 650, 651, 652, 653, 654, 655, 656, 657, 658, 659, 660, 661, 662, 663, 664, 665, 666, 667, 668, 669, 670, 671, 672, 673, 674] (by decide +kernel) (by decide +kernel)
set_option maxRecDepth 20000 in
theorem gL_law_X5_withdraw : GoodIn wsL_law (wsV RL 97 RX5 yX5_withdraw wsX5_withdraw) := goodIn_app (goodIn_of _ (by decide +kernel)) ggL_law_X5_withdraw
set_option maxRecDepth 20000 in
theorem ggL_law_L_grant : GoodIn wsL_law wsL_grant := goodIn_ca (goodIn_ca (goodIn_ca (goodIn_r _ [173, 113, 114, 115, 174, 175, 176, 2, 177, 120, 121, 178, 16, 179, 122, 125, 126, 127, 128, 129, 180, 181, 182, 130, 131, 132, 133, 134, 183, 184, 15, 185, 135, 136, 137, 138, 41, 42, 638, 639, 640, 641, 642, 675, 676, 677, 678, 679, 680, 681, 682] (by decide +kernel) (by decide +kernel)) (goodIn_sub (fun _ h => List.mem_append_left _ (List.mem_append_left _ (List.mem_append_left _ (List.mem_append_right _ h)))) (by decide +kernel))) (goodIn_sub (fun _ h => List.mem_append_left _ (List.mem_append_left _ (List.mem_append_right _ h))) (by decide +kernel))) (goodIn_sub (fun _ h => List.mem_append_left _ (List.mem_append_right _ h)) (by decide +kernel))
set_option maxRecDepth 20000 in
theorem gL_law_L_grant : GoodIn wsL_law (va_wsS RL 98 yL_grant wsL_grant) := goodIn_app (goodIn_of _ (by decide +kernel)) ggL_law_L_grant
set_option maxRecDepth 20000 in
theorem ggL_law_X5_grant : GoodIn wsL_law wsX5_grant := goodIn_r _ [189, 190, 84, 143, 145, 88, 146, 147, 5, 148, 149, 150, 151, 191, 192, 193, 194, 195, 196, 643, 644, 645, 646, 647, 648, 649, 650, 651, 652, 653, 654, 655, 656, 657, 658, 659, 660, 661, 662, 663, 664, 665, 666, 667, 668, 669, 670, 671, 672, 673, 674] (by decide +kernel) (by decide +kernel)
set_option maxRecDepth 20000 in
theorem gL_law_X5_grant : GoodIn wsL_law (wsV RL 101 RX5 yX5_grant wsX5_grant) := goodIn_app (goodIn_of _ (by decide +kernel)) ggL_law_X5_grant
set_option maxRecDepth 20000 in
theorem ggL_law_L_order : GoodIn wsL_law wsL_order := goodIn_ca (goodIn_ca (goodIn_ca (goodIn_r _ [199, 113, 114, 115, 200, 201, 202, 2, 203, 120, 121, 16, 20, 204, 205, 125, 126, 127, 128, 129, 180, 181, 182, 206, 207, 208, 133, 134, 130, 131, 132, 209, 210, 211, 15, 212, 36, 37, 213, 164, 165, 166, 33, 34, 214, 184, 185, 215, 216, 217, 19, 218, 57, 46, 47, 48, 49, 50, 51, 52, 54, 58, 219, 220, 221, 222, 223, 224, 225, 226, 227, 228, 183, 229, 230, 231, 232, 233, 234, 235, 236, 237, 238, 24, 239, 240, 241, 23, 242, 65, 243, 244, 245, 246, 247, 248, 249, 250, 251, 64, 63, 252, 253, 254, 255, 256, 257, 258, 259, 260, 261, 262, 263, 264, 265, 266, 267, 268, 269, 270, 271, 272, 273, 274, 275, 276, 277, 278, 279, 280, 281, 282, 283, 284, 285, 286, 287, 288, 28, 289, 290, 291, 292, 38, 39, 293, 294, 295, 296, 56, 297, 298, 299, 27, 300, 77, 69, 70, 71, 72, 75, 73, 301, 74, 302, 303, 304, 76, 305, 306, 307, 308, 309, 310, 311, 312, 313, 314, 315, 316, 317, 318, 319, 320, 321, 638, 639, 640, 641, 642, 683, 684, 685, 686, 687, 688, 689, 690, 691, 692, 693, 694, 695, 675, 676, 677, 678, 679, 680, 681, 682, 696, 697, 698, 699, 700, 701, 702, 703, 704, 705, 706, 707] (by decide +kernel) (by decide +kernel)) (goodIn_sub (fun _ h => List.mem_append_left _ (List.mem_append_left _ (List.mem_append_left _ (List.mem_append_right _ h)))) (by decide +kernel))) (goodIn_sub (fun _ h => List.mem_append_left _ (List.mem_append_left _ (List.mem_append_right _ h))) (by decide +kernel))) (goodIn_sub (fun _ h => List.mem_append_left _ (List.mem_append_right _ h)) (by decide +kernel))
set_option maxRecDepth 20000 in
theorem gL_law_L_order : GoodIn wsL_law (va_wsS RL 102 yL_order wsL_order) := goodIn_app (goodIn_of _ (by decide +kernel)) ggL_law_L_order
set_option maxRecDepth 20000 in
theorem ggL_law_X5_order : GoodIn wsL_law wsX5_order := goodIn_r _ [325, 82, 83, 84, 85, 145, 326, 89, 90, 91, 92, 93, 94, 96, 97, 146, 147, 5, 148, 149, 150, 151, 191, 192, 193, 327, 328, 329, 330, 331, 332, 333, 334, 194, 195, 196, 335, 336, 337, 338, 339, 340, 341, 342, 343, 344, 345, 346, 100, 347, 348, 349, 350, 351, 352, 353, 354, 355, 356, 357, 358, 359, 360, 361, 362, 363, 364, 365, 95, 366, 367, 368, 369, 370, 371, 372, 373, 374, 101, 102, 103, 375, 376, 377, 378, 99, 379, 380, 381, 382, 86, 87, 383, 104, 105, 106, 107, 108, 384, 385, 386, 387, 643, 644, 645, 646, 647, 648, 649, 650, 651, 652, 653, 654, 655, 656, 657, 658, 659, 660, 661, 662, 663, 664, 665, 666, 667, 668, 669, 670, 671, 672, 673, 674] (by decide +kernel) (by decide +kernel)
set_option maxRecDepth 20000 in
theorem gL_law_X5_order : GoodIn wsL_law (wsV RL 105 RX5 yX5_order wsX5_order) := goodIn_app (goodIn_of _ (by decide +kernel)) ggL_law_X5_order
set_option maxRecDepth 20000 in
theorem ggL_law_L_cancel : GoodIn wsL_law wsL_cancel := goodIn_ca (goodIn_ca (goodIn_ca (goodIn_r _ [390, 113, 114, 115, 391, 392, 393, 2, 394, 20, 234, 395, 396, 397, 398, 133, 134, 223, 125, 126, 127, 128, 129, 399, 400, 401, 402, 205, 403, 404, 405, 406, 120, 121, 407, 408, 409, 19, 410, 54, 411, 412, 413, 414, 261, 24, 309, 310, 311, 23, 312, 65, 243, 244, 64, 63, 245, 246, 247, 256, 257, 258, 259, 260, 204, 219, 220, 221, 222, 224, 16, 225, 226, 227, 228, 183, 184, 15, 185, 638, 639, 640, 641, 642, 683, 684, 685, 686, 687, 688, 689, 690, 691, 692, 693, 694, 695, 696, 697, 698, 675, 676, 677, 678, 679, 680, 681, 682] (by decide +kernel) (by decide +kernel)) (goodIn_sub (fun _ h => List.mem_append_left _ (List.mem_append_right _ h)) (by decide +kernel))) (goodIn_sub (fun _ h => List.mem_append_left _ (List.mem_append_left _ (List.mem_append_right _ h))) (by decide +kernel))) (goodIn_sub (fun _ h => List.mem_append_left _ (List.mem_append_left _ (List.mem_append_left _ (List.mem_append_right _ h)))) (by decide +kernel))
set_option maxRecDepth 20000 in
theorem gL_law_L_cancel : GoodIn wsL_law (va_wsS RL 106 yL_cancel wsL_cancel) := goodIn_app (goodIn_of _ (by decide +kernel)) ggL_law_L_cancel
set_option maxRecDepth 20000 in
theorem ggL_law_X5_cancel : GoodIn wsL_law wsX5_cancel := goodIn_r _ [418, 145, 94, 419, 420, 421, 5, 422, 326, 89, 146, 147, 148, 149, 150, 151, 331, 332, 333, 334, 97, 367, 368, 369, 370, 95, 335, 336, 337, 338, 91, 83, 93, 85, 90, 194, 195, 196, 643, 644, 645, 646, 647, 648, 649, 650, 651, 652, 653, 654, 655, 656, 657, 658, 659, 660, 661, 662, 663, 664, 665, 666, 667, 668, 669, 670, 671, 672, 673, 674] (by decide +kernel) (by decide +kernel)
set_option maxRecDepth 20000 in
theorem gL_law_X5_cancel : GoodIn wsL_law (wsV RL 108 RX5 yX5_cancel wsX5_cancel) := goodIn_app (goodIn_of _ (by decide +kernel)) ggL_law_X5_cancel
set_option maxRecDepth 20000 in
theorem ggL_law_L_reduce : GoodIn wsL_law wsL_reduce := goodIn_ca (goodIn_ca (goodIn_ca (goodIn_r _ [425, 113, 114, 115, 426, 427, 428, 2, 429, 133, 134, 120, 121, 20, 234, 260, 267, 268, 269, 270, 395, 396, 397, 398, 223, 125, 126, 127, 128, 129, 399, 400, 401, 402, 205, 403, 404, 405, 406, 407, 408, 409, 19, 410, 54, 219, 220, 221, 222, 224, 16, 225, 226, 227, 228, 183, 184, 15, 185, 638, 639, 640, 641, 642, 683, 684, 685, 686, 687, 688, 689, 690, 691, 692, 693, 694, 695, 675, 676, 677, 678, 679, 680, 681, 682] (by decide +kernel) (by decide +kernel)) (goodIn_sub (fun _ h => List.mem_append_left _ (List.mem_append_right _ h)) (by decide +kernel))) (goodIn_sub (fun _ h => List.mem_append_left _ (List.mem_append_left _ (List.mem_append_left _ (List.mem_append_right _ h)))) (by decide +kernel))) (goodIn_sub (fun _ h => List.mem_append_left _ (List.mem_append_left _ (List.mem_append_right _ h))) (by decide +kernel))
set_option maxRecDepth 20000 in
theorem gL_law_L_reduce : GoodIn wsL_law (va_wsS RL 109 yL_reduce wsL_reduce) := goodIn_app (goodIn_of _ (by decide +kernel)) ggL_law_L_reduce
set_option maxRecDepth 20000 in
theorem ggL_law_X5_reduce : GoodIn wsL_law wsX5_reduce := goodIn_r _ [433, 145, 94, 95, 419, 420, 421, 5, 422, 326, 89, 146, 147, 148, 149, 150, 151, 331, 332, 333, 334, 97, 335, 336, 337, 338, 91, 83, 93, 85, 90, 194, 195, 196, 643, 644, 645, 646, 647, 648, 649, 650, 651, 652, 653, 654, 655, 656, 657, 658, 659, 660, 661, 662, 663, 664, 665, 666, 667, 668, 669, 670, 671, 672, 673, 674] (by decide +kernel) (by decide +kernel)
set_option maxRecDepth 20000 in
theorem gL_law_X5_reduce : GoodIn wsL_law (wsV RL 111 RX5 yX5_reduce wsX5_reduce) := goodIn_app (goodIn_of _ (by decide +kernel)) ggL_law_X5_reduce
set_option maxRecDepth 20000 in
theorem ggL_law_L_until : GoodIn wsL_law wsL_until := goodIn_ca (goodIn_ca (goodIn_ca (goodIn_r _ [436, 113, 114, 115, 437, 438, 439, 2, 440, 133, 134, 120, 121, 29, 20, 441, 395, 396, 397, 398, 223, 125, 126, 127, 128, 129, 399, 400, 401, 402, 205, 403, 404, 405, 406, 407, 408, 409, 19, 410, 54, 638, 639, 640, 641, 642, 683, 684, 685, 686, 687, 688, 689, 690, 691, 692, 693, 694, 695] (by decide +kernel) (by decide +kernel)) (goodIn_sub (fun _ h => List.mem_append_left _ (List.mem_append_right _ h)) (by decide +kernel))) (goodIn_sub (fun _ h => List.mem_append_left _ (List.mem_append_left _ (List.mem_append_left _ (List.mem_append_right _ h)))) (by decide +kernel))) (goodIn_sub (fun _ h => List.mem_append_left _ (List.mem_append_left _ (List.mem_append_right _ h))) (by decide +kernel))
set_option maxRecDepth 20000 in
theorem gL_law_L_until : GoodIn wsL_law (va_wsS RL 112 yL_until wsL_until) := goodIn_app (goodIn_of _ (by decide +kernel)) ggL_law_L_until
set_option maxRecDepth 20000 in
theorem ggL_law_X5_until : GoodIn wsL_law wsX5_until := goodIn_r _ [445, 145, 446, 98, 419, 420, 421, 5, 422, 326, 89, 146, 147, 148, 149, 150, 151, 331, 332, 333, 334, 97, 643, 644, 645, 646, 647, 648, 649, 650, 651, 652, 653, 654, 655, 656, 657, 658, 659, 660, 661, 662, 663, 664, 665, 666, 667, 668, 669, 670, 671, 672, 673, 674] (by decide +kernel) (by decide +kernel)
set_option maxRecDepth 20000 in
theorem gL_law_X5_until : GoodIn wsL_law (wsV RL 115 RX5 yX5_until wsX5_until) := goodIn_app (goodIn_of _ (by decide +kernel)) ggL_law_X5_until
set_option maxRecDepth 20000 in
theorem ggL_law_L_pass : GoodIn wsL_law wsL_pass := goodIn_ca (goodIn_r _ [449, 114, 450, 451, 452, 2, 453, 178, 29, 20, 205, 441, 130, 131, 132, 133, 134, 407, 408, 409, 19, 410, 54, 411, 412, 413, 414, 261, 24, 309, 310, 311, 23, 312, 65, 243, 244, 64, 63, 245, 246, 247, 256, 257, 258, 259, 234, 260, 204, 219, 220, 221, 222, 223, 224, 16, 225, 226, 227, 228, 183, 184, 15, 185, 638, 639, 640, 641, 642, 683, 684, 685, 686, 687, 688, 689, 690, 691, 692, 693, 694, 695, 696, 697, 698, 675, 676, 677, 678, 679, 680, 681, 682] (by decide +kernel) (by decide +kernel)) (goodIn_sub (fun _ h => List.mem_append_left _ (List.mem_append_right _ h)) (by decide +kernel))
set_option maxRecDepth 20000 in
theorem gL_law_L_pass : GoodIn wsL_law (va_wsS RL 116 yL_pass wsL_pass) := goodIn_app (goodIn_of _ (by decide +kernel)) ggL_law_L_pass
set_option maxRecDepth 20000 in
theorem ggL_law_X5_pass : GoodIn wsL_law wsX5_pass := goodIn_r _ [457, 190, 145, 446, 326, 98, 149, 150, 5, 151, 331, 332, 333, 334, 97, 367, 368, 369, 370, 94, 95, 335, 336, 337, 338, 89, 91, 83, 93, 85, 90, 194, 195, 196, 643, 644, 645, 646, 647, 648, 649, 650, 651, 652, 653, 654, 655, 656, 657, 658, 659, 660, 661, 662, 663, 664, 665, 666, 667, 668, 669, 670, 671, 672, 673, 674] (by decide +kernel) (by decide +kernel)
set_option maxRecDepth 20000 in
theorem gL_law_X5_pass : GoodIn wsL_law (wsV RL 119 RX5 yX5_pass wsX5_pass) := goodIn_app (goodIn_of _ (by decide +kernel)) ggL_law_X5_pass
set_option maxRecDepth 20000 in
theorem ggL_law_L_best : GoodIn wsL_law wsL_best := goodIn_ca (goodIn_ca (goodIn_ca (goodIn_r _ [460, 113, 114, 461, 462, 463, 464, 2, 465, 466, 467, 24, 20, 226, 180, 181, 182, 128, 129, 206, 207, 208, 133, 134, 468, 246, 23, 247, 248, 249, 250, 251, 64, 63, 638, 639, 640, 641, 642, 683, 684, 685, 686, 687, 688, 689, 690, 691, 692, 693, 694, 695, 696, 697, 698] (by decide +kernel) (by decide +kernel)) (goodIn_sub (fun _ h => List.mem_append_right _ h) (by decide +kernel))) (goodIn_sub (fun _ h => List.mem_append_left _ (List.mem_append_left _ (List.mem_append_right _ h))) (by decide +kernel))) (goodIn_sub (fun _ h => List.mem_append_left _ (List.mem_append_right _ h)) (by decide +kernel))
set_option maxRecDepth 20000 in
theorem gL_law_L_best : GoodIn wsL_law (va_wsS RL 120 yL_best wsL_best) := goodIn_app (goodIn_of _ (by decide +kernel)) ggL_law_L_best
set_option maxRecDepth 20000 in
theorem ggL_law_X5_best : GoodIn wsL_law wsX5_best := goodIn_r _ [472, 145, 93, 191, 192, 5, 193, 149, 150, 151, 343, 344, 345, 346, 326, 100, 347, 348, 349, 350, 97, 90, 91, 351, 352, 353, 643, 644, 645, 646, 647, 648, 649, 650, 651, 652, 653, 654, 655, 656, 657, 658, 659, 660, 661, 662, 663, 664, 665, 666, 667, 668, 669, 670, 671, 672, 673, 674] (by decide +kernel) (by decide +kernel)
set_option maxRecDepth 20000 in
theorem gL_law_X5_best : GoodIn wsL_law (wsV RL 122 RX5 yX5_best wsX5_best) := goodIn_app (goodIn_of _ (by decide +kernel)) ggL_law_X5_best
set_option maxRecDepth 20000 in
theorem ggL_law_L_depth : GoodIn wsL_law wsL_depth := goodIn_ca (goodIn_ca (goodIn_r _ [475, 113, 114, 476, 477, 478, 2, 479, 24, 180, 181, 182, 128, 129, 206, 207, 208, 133, 134, 130, 131, 132, 468, 246, 23, 247, 480, 481, 482, 483, 64, 65, 275, 63, 484, 485, 486, 487, 488, 638, 639, 640, 641, 642, 696, 697, 698, 683, 684, 685, 686, 687, 688, 689, 690, 691, 692, 693, 694, 695] (by decide +kernel) (by decide +kernel)) (goodIn_sub (fun _ h => List.mem_append_left _ (List.mem_append_left _ (List.mem_append_right _ h))) (by decide +kernel))) (goodIn_sub (fun _ h => List.mem_append_left _ (List.mem_append_right _ h)) (by decide +kernel))
set_option maxRecDepth 20000 in
theorem gL_law_L_depth : GoodIn wsL_law (va_wsS RL 123 yL_depth wsL_depth) := goodIn_app (goodIn_of _ (by decide +kernel)) ggL_law_L_depth
set_option maxRecDepth 20000 in
theorem ggL_law_X5_depth : GoodIn wsL_law wsX5_depth := goodIn_r _ [492, 145, 326, 93, 95, 191, 192, 5, 193, 149, 150, 151, 493, 494, 495, 496, 497, 498, 499, 500, 347, 348, 349, 350, 97, 90, 91, 351, 352, 353, 643, 644, 645, 646, 647, 648, 649, 650, 651, 652, 653, 654, 655, 656, 657, 658, 659, 660, 661, 662, 663, 664, 665, 666, 667, 668, 669, 670, 671, 672, 673, 674] (by decide +kernel) (by decide +kernel)
set_option maxRecDepth 20000 in
theorem gL_law_X5_depth : GoodIn wsL_law (wsV RL 125 RX5 yX5_depth wsX5_depth) := goodIn_app (goodIn_of _ (by decide +kernel)) ggL_law_X5_depth
set_option maxRecDepth 20000 in
theorem ggL_law_L_level : GoodIn wsL_law wsL_level := goodIn_ca (goodIn_ca (goodIn_r _ [503, 113, 114, 504, 505, 506, 2, 507, 128, 129, 133, 134, 24, 180, 181, 182, 206, 207, 208, 468, 246, 23, 247, 508, 509, 510, 511, 64, 65, 275, 63, 512, 513, 514, 515, 516, 517, 518, 519, 520, 638, 639, 640, 641, 642, 696, 697, 698, 683, 684, 685, 686, 687, 688, 689, 690, 691, 692, 693, 694, 695] (by decide +kernel) (by decide +kernel)) (goodIn_sub (fun _ h => List.mem_append_left _ (List.mem_append_left _ (List.mem_append_right _ h))) (by decide +kernel))) (goodIn_sub (fun _ h => List.mem_append_left _ (List.mem_append_right _ h)) (by decide +kernel))
set_option maxRecDepth 20000 in
theorem gL_law_L_level : GoodIn wsL_law (va_wsS RL 126 yL_level wsL_level) := goodIn_app (goodIn_of _ (by decide +kernel)) ggL_law_L_level
set_option maxRecDepth 20000 in
theorem ggL_law_X5_level : GoodIn wsL_law wsX5_level := goodIn_r _ [524, 145, 326, 93, 94, 149, 150, 5, 151, 191, 192, 193, 497, 498, 499, 500, 347, 348, 349, 350, 97, 90, 91, 351, 352, 353, 643, 644, 645, 646, 647, 648, 649, 650, 651, 652, 653, 654, 655, 656, 657, 658, 659, 660, 661, 662, 663, 664, 665, 666, 667, 668, 669, 670, 671, 672, 673, 674] (by decide +kernel) (by decide +kernel)
set_option maxRecDepth 20000 in
theorem gL_law_X5_level : GoodIn wsL_law (wsV RL 129 RX5 yX5_level wsX5_level) := goodIn_app (goodIn_of _ (by decide +kernel)) ggL_law_X5_level
set_option maxRecDepth 20000 in
theorem ggL_law_L_about : GoodIn wsL_law wsL_about := goodIn_ca (goodIn_ca (goodIn_r _ [527, 113, 114, 528, 529, 530, 2, 531, 133, 134, 20, 223, 234, 260, 261, 441, 532, 399, 400, 401, 402, 128, 129, 205, 638, 639, 640, 641, 642, 683, 684, 685, 686, 687, 688, 689, 690, 691, 692, 693, 694, 695] (by decide +kernel) (by decide +kernel)) (goodIn_sub (fun _ h => List.mem_append_left _ (List.mem_append_right _ h)) (by decide +kernel))) (goodIn_sub (fun _ h => List.mem_append_left _ (List.mem_append_left _ (List.mem_append_right _ h))) (by decide +kernel))
set_option maxRecDepth 20000 in
theorem gL_law_L_about : GoodIn wsL_law (va_wsS RL 130 yL_about wsL_about) := goodIn_app (goodIn_of _ (by decide +kernel)) ggL_law_L_about
set_option maxRecDepth 20000 in
theorem ggL_law_X5_about : GoodIn wsL_law wsX5_about := goodIn_r _ [536, 326, 145, 89, 94, 97, 95, 98, 99, 149, 150, 5, 151, 643, 644, 645, 646, 647, 648, 649, 650, 651, 652, 653, 654, 655, 656, 657, 658, 659, 660, 661, 662, 663, 664, 665, 666, 667, 668, 669, 670, 671, 672, 673, 674] (by decide +kernel) (by decide +kernel)
set_option maxRecDepth 20000 in
theorem gL_law_X5_about : GoodIn wsL_law (wsV RL 132 RX5 yX5_about wsX5_about) := goodIn_app (goodIn_of _ (by decide +kernel)) ggL_law_X5_about
set_option maxRecDepth 20000 in
theorem ggL_law_L_ahead : GoodIn wsL_law wsL_ahead := goodIn_ca (goodIn_ca (goodIn_r _ [539, 113, 461, 540, 541, 542, 2, 543, 466, 467, 20, 261, 228, 224, 24, 226, 399, 400, 401, 402, 128, 129, 205, 468, 246, 23, 247, 484, 485, 486, 487, 64, 63, 65, 275, 488, 638, 639, 640, 641, 642, 683, 684, 685, 686, 687, 688, 689, 690, 691, 692, 693, 694, 695, 696, 697, 698] (by decide +kernel) (by decide +kernel)) (goodIn_sub (fun _ h => List.mem_append_right _ h) (by decide +kernel))) (goodIn_sub (fun _ h => List.mem_append_left _ (List.mem_append_left _ (List.mem_append_right _ h))) (by decide +kernel))
set_option maxRecDepth 20000 in
theorem gL_law_L_ahead : GoodIn wsL_law (va_wsS RL 133 yL_ahead wsL_ahead) := goodIn_app (goodIn_of _ (by decide +kernel)) ggL_law_L_ahead
set_option maxRecDepth 20000 in
theorem ggL_law_X5_ahead : GoodIn wsL_law wsX5_ahead := goodIn_r _ [547, 326, 97, 145, 90, 91, 93, 100, 95, 149, 150, 5, 151, 347, 348, 349, 350, 643, 644, 645, 646, 647, 648, 649, 650, 651, 652, 653, 654, 655, 656, 657, 658, 659, 660, 661, 662, 663, 664, 665, 666, 667, 668, 669, 670, 671, 672, 673, 674] (by decide +kernel) (by decide +kernel)
set_option maxRecDepth 20000 in
theorem gL_law_X5_ahead : GoodIn wsL_law (wsV RL 135 RX5 yX5_ahead wsX5_ahead) := goodIn_app (goodIn_of _ (by decide +kernel)) ggL_law_X5_ahead
set_option maxRecDepth 20000 in
theorem ggL_law_L_cash : GoodIn wsL_law wsL_cash := goodIn_ca (goodIn_ca (goodIn_r _ [550, 113, 114, 551, 552, 553, 2, 554, 133, 134, 16, 123, 225, 125, 126, 127, 128, 129, 638, 639, 640, 641, 642, 675, 676, 677, 678, 679, 680, 681, 682] (by decide +kernel) (by decide +kernel)) (goodIn_sub (fun _ h => List.mem_append_left _ (List.mem_append_right _ h)) (by decide +kernel))) (goodIn_sub (fun _ h => List.mem_append_left _ (List.mem_append_left _ (List.mem_append_right _ h))) (by decide +kernel))
set_option maxRecDepth 20000 in
theorem gL_law_L_cash : GoodIn wsL_law (va_wsS RL 136 yL_cash wsL_cash) := goodIn_app (goodIn_of _ (by decide +kernel)) ggL_law_L_cash
set_option maxRecDepth 20000 in
theorem ggL_law_X5_cash : GoodIn wsL_law wsX5_cash := goodIn_r _ [558, 145, 82, 83, 146, 147, 5, 148, 149, 150, 151, 643, 644, 645, 646, 647, 648, 649, 650, 651, 652, 653, 654, 655, 656, 657, 658, 659, 660, 661, 662, 663, 664, 665, 666, 667, 668, 669, 670, 671, 672, 673, 674] (by decide +kernel) (by decide +kernel)
set_option maxRecDepth 20000 in
theorem gL_law_X5_cash : GoodIn wsL_law (wsV RL 138 RX5 yX5_cash wsX5_cash) := goodIn_app (goodIn_of _ (by decide +kernel)) ggL_law_X5_cash
set_option maxRecDepth 20000 in
theorem ggL_law_L_shares : GoodIn wsL_law wsL_shares := goodIn_ca (goodIn_ca (goodIn_r _ [561, 113, 114, 562, 563, 564, 2, 565, 133, 134, 16, 179, 227, 566, 567, 125, 126, 127, 128, 129, 180, 181, 182, 183, 184, 15, 185, 638, 639, 640, 641, 642, 675, 676, 677, 678, 679, 680, 681, 682] (by decide +kernel) (by decide +kernel)) (goodIn_sub (fun _ h => List.mem_append_left _ (List.mem_append_right _ h)) (by decide +kernel))) (goodIn_sub (fun _ h => List.mem_append_left _ (List.mem_append_left _ (List.mem_append_right _ h))) (by decide +kernel))
set_option maxRecDepth 20000 in
theorem gL_law_L_shares : GoodIn wsL_law (va_wsS RL 139 yL_shares wsL_shares) := goodIn_app (goodIn_of _ (by decide +kernel)) ggL_law_L_shares
set_option maxRecDepth 20000 in
theorem ggL_law_X5_shares : GoodIn wsL_law wsX5_shares := goodIn_r _ [571, 145, 84, 85, 86, 87, 146, 147, 5, 148, 149, 150, 151, 191, 192, 193, 194, 195, 196, 643, 644, 645, 646, 647, 648, 649, 650, 651, 652, 653, 654, 655, 656, 657, 658, 659, 660, 661, 662, 663, 664, 665, 666, 667, 668, 669, 670, 671, 672, 673, 674] (by decide +kernel) (by decide +kernel)
set_option maxRecDepth 20000 in
theorem gL_law_X5_shares : GoodIn wsL_law (wsV RL 141 RX5 yX5_shares wsX5_shares) := goodIn_app (goodIn_of _ (by decide +kernel)) ggL_law_X5_shares
set_option maxRecDepth 20000 in
theorem ggL_law_L_count : GoodIn wsL_law wsL_count := goodIn_ca (goodIn_r _ [574, 114, 575, 576, 577, 2, 578, 133, 134, 28, 579, 20, 205, 204, 16, 580, 29, 638, 639, 640, 641, 642, 699, 700, 701, 702, 703, 704, 705, 706, 707, 683, 684, 685, 686, 687, 688, 689, 690, 691, 692, 693, 694, 695, 675, 676, 677, 678, 679, 680, 681, 682] (by decide +kernel) (by decide +kernel)) (goodIn_sub (fun _ h => List.mem_append_left _ (List.mem_append_right _ h)) (by decide +kernel))
set_option maxRecDepth 20000 in
theorem gL_law_L_count : GoodIn wsL_law (va_wsS RL 142 yL_count wsL_count) := goodIn_app (goodIn_of _ (by decide +kernel)) ggL_law_L_count
set_option maxRecDepth 20000 in
theorem ggL_law_X5_count : GoodIn wsL_law wsX5_count := goodIn_r _ [584, 145, 383, 326, 446, 88, 149, 150, 5, 151, 327, 328, 329, 330, 331, 332, 333, 334, 97, 643, 644, 645, 646, 647, 648, 649, 650, 651, 652, 653, 654, 655, 656, 657, 658, 659, 660, 661, 662, 663, 664, 665, 666, 667, 668, 669, 670, 671, 672, 673, 674] (by decide +kernel) (by decide +kernel)
set_option maxRecDepth 20000 in
theorem gL_law_X5_count : GoodIn wsL_law (wsV RL 144 RX5 yX5_count wsX5_count) := goodIn_app (goodIn_of _ (by decide +kernel)) ggL_law_X5_count
set_option maxRecDepth 20000 in
theorem ggL_law_L_trade : GoodIn wsL_law wsL_trade := goodIn_ca (goodIn_ca (goodIn_r _ [587, 113, 114, 588, 589, 590, 2, 591, 128, 129, 133, 134, 28, 579, 592, 593, 594, 595, 638, 639, 640, 641, 642, 699, 700, 701, 702, 703, 704, 705, 706, 707] (by decide +kernel) (by decide +kernel)) (goodIn_sub (fun _ h => List.mem_append_left _ (List.mem_append_left _ (List.mem_append_right _ h))) (by decide +kernel))) (goodIn_sub (fun _ h => List.mem_append_left _ (List.mem_append_right _ h)) (by decide +kernel))
set_option maxRecDepth 20000 in
theorem gL_law_L_trade : GoodIn wsL_law (va_wsS RL 145 yL_trade wsL_trade) := goodIn_app (goodIn_of _ (by decide +kernel)) ggL_law_L_trade
set_option maxRecDepth 20000 in
theorem ggL_law_X5_trade : GoodIn wsL_law wsX5_trade := goodIn_r _ [599, 383, 145, 104, 149, 150, 5, 151, 643, 644, 645, 646, 647, 648, 649, 650, 651, 652, 653, 654, 655, 656, 657, 658, 659, 660, 661, 662, 663, 664, 665, 666, 667, 668, 669, 670, 671, 672, 673, 674] (by decide +kernel) (by decide +kernel)
set_option maxRecDepth 20000 in
theorem gL_law_X5_trade : GoodIn wsL_law (wsV RL 147 RX5 yX5_trade wsX5_trade) := goodIn_app (goodIn_of _ (by decide +kernel)) ggL_law_X5_trade
set_option maxRecDepth 20000 in
theorem ggL_law_L_symbol : GoodIn wsL_law wsL_symbol := goodIn_ca (goodIn_ca (goodIn_r _ [602, 113, 114, 603, 604, 605, 2, 606, 133, 134, 28, 317, 607, 608, 609, 180, 181, 182, 128, 129, 638, 639, 640, 641, 642, 699, 700, 701, 702, 703, 704, 705, 706, 707] (by decide +kernel) (by decide +kernel)) (goodIn_sub (fun _ h => List.mem_append_left _ (List.mem_append_right _ h)) (by decide +kernel))) (goodIn_sub (fun _ h => List.mem_append_left _ (List.mem_append_left _ (List.mem_append_right _ h))) (by decide +kernel))
set_option maxRecDepth 20000 in
theorem gL_law_L_symbol : GoodIn wsL_law (va_wsS RL 148 yL_symbol wsL_symbol) := goodIn_app (goodIn_of _ (by decide +kernel)) ggL_law_L_symbol
set_option maxRecDepth 20000 in
theorem ggL_law_X5_symbol : GoodIn wsL_law wsX5_symbol := goodIn_r _ [613, 145, 105, 106, 107, 108, 191, 192, 5, 193, 149, 150, 151, 643, 644, 645, 646, 647, 648, 649, 650, 651, 652, 653, 654, 655, 656, 657, 658, 659, 660, 661, 662, 663, 664, 665, 666, 667, 668, 669, 670, 671, 672, 673, 674] (by decide +kernel) (by decide +kernel)
set_option maxRecDepth 20000 in
theorem gL_law_X5_symbol : GoodIn wsL_law (wsV RL 150 RX5 yX5_symbol wsX5_symbol) := goodIn_app (goodIn_of _ (by decide +kernel)) ggL_law_X5_symbol
set_option maxRecDepth 20000 in
theorem ggL_law_L_busiest : GoodIn wsL_law wsL_busiest := goodIn_ca (goodIn_r _ [616, 113, 617, 618, 619, 2, 620, 128, 129, 16, 180, 181, 182, 621, 622, 623, 15, 624, 38, 39, 214, 184, 185, 625, 626, 627, 628, 629, 638, 639, 640, 641, 642, 675, 676, 677, 678, 679, 680, 681, 682] (by decide +kernel) (by decide +kernel)) (goodIn_sub (fun _ h => List.mem_append_left _ (List.mem_append_left _ (List.mem_append_right _ h))) (by decide +kernel))
set_option maxRecDepth 20000 in
theorem gL_law_L_busiest : GoodIn wsL_law (va_wsS RL 151 yL_busiest wsL_busiest) := goodIn_app (goodIn_of _ (by decide +kernel)) ggL_law_L_busiest
set_option maxRecDepth 20000 in
theorem ggL_law_X5_busiest : GoodIn wsL_law wsX5_busiest := goodIn_r _ [633, 145, 191, 192, 5, 193, 149, 150, 151, 634, 635, 636, 637, 86, 87, 194, 195, 196, 643, 644, 645, 646, 647, 648, 649, 650, 651, 652, 653, 654, 655, 656, 657, 658, 659, 660, 661, 662, 663, 664, 665, 666, 667, 668, 669, 670, 671, 672, 673, 674] (by decide +kernel) (by decide +kernel)
set_option maxRecDepth 20000 in
theorem gL_law_X5_busiest : GoodIn wsL_law (wsV RL 153 RX5 yX5_busiest wsX5_busiest) := goodIn_app (goodIn_of _ (by decide +kernel)) ggL_law_X5_busiest
