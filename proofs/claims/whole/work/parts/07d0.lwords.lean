set_option maxRecDepth 20000 in
theorem gI_r1 : GoodIn lw_tbl wsL_law0_r1 := goodIn_r _ [48, 49, 34, 687, 688, 39, 94, 50, 51, 52, 53, 54, 55, 56, 57, 35, 221, 97, 98, 36, 222, 161, 162, 37] (by decide +kernel) (by decide +kernel)
set_option maxRecDepth 20000 in
theorem gI_r2 : GoodIn lw_tbl wsL_law0_r2 := goodIn_r _ [223, 178, 179, 38, 224, 225, 59, 60, 61, 62, 64, 95, 66, 68, 70, 72, 96, 74, 75, 100, 101, 102, 103, 105] (by decide +kernel) (by decide +kernel)
set_option maxRecDepth 20000 in
theorem gI_r3 : GoodIn lw_tbl wsL_law0_r3 := goodIn_r _ [108, 111, 113, 116, 118, 121, 124, 126, 128, 130, 132, 163, 164, 165, 166, 168, 169, 167, 181, 182, 183, 184, 186, 188] (by decide +kernel) (by decide +kernel)
set_option maxRecDepth 20000 in
theorem gI_r4 : GoodIn lw_tbl wsL_law0_r4 := goodIn_r _ [190, 192, 194, 196, 198, 200, 689, 690, 691, 692, 695, 696, 697, 698, 699, 700, 701, 703, 704, 705, 706, 707, 708, 709] (by decide +kernel) (by decide +kernel)
set_option maxRecDepth 20000 in
theorem gI_r5 : GoodIn lw_tbl wsL_law0_r5 := goodIn_r _ [710, 711, 712, 713, 714, 716, 717, 718, 720, 721, 722, 723, 724, 237, 238, 33, 239, 240, 241, 242, 243, 244, 245, 246] (by decide +kernel) (by decide +kernel)
set_option maxRecDepth 20000 in
theorem gI_r6 : GoodIn lw_tbl wsL_law0_r6 := goodIn_r _ [340, 45, 319, 63, 339, 247, 248, 249, 250, 43, 320, 321, 322, 323, 44, 356, 357, 358, 359, 794, 795, 796, 797, 804] (by decide +kernel) (by decide +kernel)
set_option maxRecDepth 20000 in
theorem gI_r7 : GoodIn lw_tbl wsL_law0_r7 := goodIn_r _ [805, 693, 798, 799, 800, 801, 802, 803, 790, 791, 792, 793, 360, 361, 362, 363, 364, 365, 366, 367, 368, 369, 370, 806] (by decide +kernel) (by decide +kernel)
set_option maxRecDepth 20000 in
theorem gI_r8 : GoodIn lw_tbl wsL_law0_r8 := goodIn_r _ [807, 808, 809, 372, 373, 374, 375, 376, 377, 378, 383, 67, 379, 380, 381, 384, 385, 386, 810, 811, 812, 813, 817, 814] (by decide +kernel) (by decide +kernel)
set_option maxRecDepth 20000 in
theorem gI_r9 : GoodIn lw_tbl wsL_law0_r9 := goodIn_r _ [815, 816, 818, 819, 820, 388, 389, 390, 391, 392, 393, 394, 133, 131, 395, 396, 397, 399, 400, 401, 402, 403, 404, 407] (by decide +kernel) (by decide +kernel)
set_option maxRecDepth 20000 in
theorem gI_r10 : GoodIn lw_tbl wsL_law0_r10 := goodIn_r _ [408, 409, 410, 411, 413, 1, 414, 104, 110, 65, 115, 69, 107, 415, 417, 2, 418, 112, 119, 419, 421, 3, 422, 423] (by decide +kernel) (by decide +kernel)
set_option maxRecDepth 20000 in
theorem gI_r11 : GoodIn lw_tbl wsL_law0_r11 := goodIn_r _ [424, 425, 426, 106, 109, 427, 428, 429, 430, 431, 432, 433, 434, 435, 436, 437, 438, 440, 4, 441, 122, 125, 442, 444] (by decide +kernel) (by decide +kernel)
