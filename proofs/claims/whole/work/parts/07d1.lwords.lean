set_option maxRecDepth 20000 in
theorem gI_r12 : GoodIn lw_tbl wsL_law0_r12 := goodIn_r _ [5, 445, 117, 446, 447, 46, 448, 449, 450, 451, 452, 114, 453, 455, 6, 456, 170, 457, 459, 7, 460, 461, 463, 8] (by decide +kernel) (by decide +kernel)
set_option maxRecDepth 20000 in
theorem gI_r13 : GoodIn lw_tbl wsL_law0_r13 := goodIn_r _ [464, 465, 466, 467, 468, 469, 470, 471, 472, 473, 474, 475, 476, 477, 478, 479, 480, 481, 483, 9, 484, 485, 486, 487] (by decide +kernel) (by decide +kernel)
set_option maxRecDepth 20000 in
theorem gI_r14 : GoodIn lw_tbl wsL_law0_r14 := goodIn_r _ [488, 489, 491, 10, 492, 193, 493, 494, 495, 496, 821, 822, 823, 824, 702, 825, 827, 15, 828, 829, 831, 16, 832, 833] (by decide +kernel) (by decide +kernel)
set_option maxRecDepth 20000 in
theorem gI_r15 : GoodIn lw_tbl wsL_law0_r15 := goodIn_r _ [835, 17, 836, 837, 839, 18, 840, 841, 843, 19, 844, 845, 847, 20, 848, 849, 850, 851, 852, 854, 21, 855, 856, 858] (by decide +kernel) (by decide +kernel)
set_option maxRecDepth 20000 in
theorem gI_r16 : GoodIn lw_tbl wsL_law0_r16 := goodIn_r _ [22, 859, 860, 862, 23, 863, 715, 864, 866, 24, 867, 868, 870, 25, 871, 872, 874, 26, 875, 876, 878, 27, 879, 719] (by decide +kernel) (by decide +kernel)
set_option maxRecDepth 20000 in
theorem gI_r17 : GoodIn lw_tbl wsL_law0_r17 := goodIn_r _ [880, 882, 28, 883, 497, 498, 499, 500, 501, 502, 503, 504, 506, 11, 507, 508, 510, 12, 511, 514, 516, 13, 517, 518] (by decide +kernel) (by decide +kernel)
set_option maxRecDepth 20000 in
theorem gI_r18 : GoodIn lw_tbl wsL_law0_r18 := goodIn_r _ [519, 520, 521, 523, 525, 14, 526, 884, 885, 886, 887, 888, 890, 29, 891, 527, 528, 529, 530, 531, 532, 533, 892, 893] (by decide +kernel) (by decide +kernel)
set_option maxRecDepth 20000 in
theorem gI_r19 : GoodIn lw_tbl wsL_law0_r19 := goodIn_r _ [894, 895, 536, 537, 538, 539, 540, 541, 542, 127, 896, 897, 898, 899, 694, 545, 546, 547, 548, 549, 550, 551, 900, 901] (by decide +kernel) (by decide +kernel)
set_option maxRecDepth 20000 in
theorem gI_r20 : GoodIn lw_tbl wsL_law0_r20 := goodIn_r _ [902, 903, 552, 553, 554, 555, 556, 557, 558, 559, 561, 47, 560, 904, 905, 906, 907, 577, 578, 579, 580, 581, 582, 583] (by decide +kernel) (by decide +kernel)
set_option maxRecDepth 20000 in
theorem gI_r21 : GoodIn lw_tbl wsL_law0_r21 := goodIn_r _ [584, 585, 586, 587, 588, 589, 590, 591, 123, 908, 909, 910, 911, 912, 914, 30, 915, 916, 918, 31, 919, 592, 593, 594] (by decide +kernel) (by decide +kernel)
set_option maxRecDepth 20000 in
theorem gI_r22 : GoodIn lw_tbl wsL_law0_r22 := goodIn_r _ [595, 596, 597, 598, 600, 601, 602, 603, 604, 605, 606, 607, 608, 609, 610, 611, 120, 920, 921, 922, 923, 613, 614, 615] (by decide +kernel) (by decide +kernel)
