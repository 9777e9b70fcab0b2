set_option maxRecDepth 20000 in
theorem gI_r23 : GoodIn lw_tbl wsL_law0_r23 := goodIn_r _ [616, 617, 618, 619, 129, 924, 925, 926, 927, 621, 622, 623, 624, 625, 626, 627, 928, 929, 930, 931, 629, 630, 631, 632] (by decide +kernel) (by decide +kernel)
set_option maxRecDepth 20000 in
theorem gI_r24 : GoodIn lw_tbl wsL_law0_r24 := goodIn_r _ [633, 634, 635, 932, 933, 934, 935, 637, 638, 639, 640, 641, 642, 643, 71, 73, 936, 937, 938, 939, 645, 646, 647, 648] (by decide +kernel) (by decide +kernel)
set_option maxRecDepth 20000 in
theorem gI_r25 : GoodIn lw_tbl wsL_law0_r25 := goodIn_r _ [649, 650, 651, 201, 76, 940, 941, 942, 943, 653, 654, 655, 656, 657, 658, 659, 185, 187, 189, 191, 944, 945, 946, 947] (by decide +kernel) (by decide +kernel)
set_option maxRecDepth 20000 in
theorem gI_r26 : GoodIn lw_tbl wsL_law0_r26 := goodIn_r _ [662, 663, 664, 665, 666, 667, 668, 195, 197, 199, 948, 949, 950, 951, 670, 671, 672, 673, 674, 675, 676, 677, 678, 679] (by decide +kernel) (by decide +kernel)
set_option maxRecDepth 20000 in
theorem gI_r27 : GoodIn lw_tbl wsL_law0_r27 := goodIn_r _ [680, 681, 682, 683, 684, 685, 952, 953, 954, 955, 956, 958, 32, 959] (by decide +kernel) (by decide +kernel)
set_option maxRecDepth 20000 in
theorem gI_wsX40 : GoodIn lw_tbl wsX40 := goodIn_r _ [226, 228, 230, 232, 234] (by decide +kernel) (by decide +kernel)
set_option maxRecDepth 20000 in
theorem gI_wsX50 : GoodIn lw_tbl wsX50 := goodIn_r _ [725, 727, 729, 731, 733, 735, 737, 739, 741, 743, 745, 747, 749, 751, 753, 755, 757, 759, 761, 763, 765, 767, 769, 771, 773, 775, 777, 779, 781, 783, 785, 787] (by decide +kernel) (by decide +kernel)
set_option maxRecDepth 20000 in
theorem gI_wsX10 : GoodIn lw_tbl wsX10 := goodIn_r _ [77, 79, 81, 83, 85, 87, 89, 91] (by decide +kernel) (by decide +kernel)
set_option maxRecDepth 20000 in
theorem gI_wsX20 : GoodIn lw_tbl wsX20 := goodIn_r _ [134, 136, 138, 140, 142, 144, 146, 148, 150, 152, 154, 156, 158] (by decide +kernel) (by decide +kernel)
set_option maxRecDepth 20000 in
theorem gI_wsX00 : GoodIn lw_tbl wsX00 := goodIn_r _ [171, 173, 175] (by decide +kernel) (by decide +kernel)
set_option maxRecDepth 20000 in
theorem gI_wsX30 : GoodIn lw_tbl wsX30 := goodIn_r _ [202, 204, 206, 208, 210, 212, 214, 216, 218] (by decide +kernel) (by decide +kernel)
theorem gI_law0 : GoodIn lw_tbl wsL_law0 := goodIn_app (goodIn_app (goodIn_app (goodIn_app (goodIn_app (goodIn_app (goodIn_app (goodIn_app gI_r1 (goodIn_app gI_r2 (goodIn_app gI_r3 (goodIn_app gI_r4 (goodIn_app gI_r5 (goodIn_app gI_r6 (goodIn_app gI_r7 (goodIn_app gI_r8 (goodIn_app gI_r9 (goodIn_app gI_r10 (goodIn_app gI_r11 (goodIn_app gI_r12 (goodIn_app gI_r13 (goodIn_app gI_r14 (goodIn_app gI_r15 (goodIn_app gI_r16 (goodIn_app gI_r17 (goodIn_app gI_r18 (goodIn_app gI_r19 (goodIn_app gI_r20 (goodIn_app gI_r21 (goodIn_app gI_r22 (goodIn_app gI_r23 (goodIn_app gI_r24 (goodIn_app gI_r25 (goodIn_app gI_r26 (gI_r27))))))))))))))))))))))))))) gI_wsX40) gI_wsX50) gI_wsX10) gI_wsX20) gI_wsX00) gI_wsX30) (fun _ h => absurd h List.not_mem_nil)
theorem wsL_law_in0 : ∀ w ∈ wsL_law0, w ∈ lw_tbl := fun w h => (gI_law0 w h).1
theorem wsL_law_x0 : ∀ w ∈ (vx_atS RX4 62 "java/lang/IllegalStateException" ["java/lang/RuntimeException", "java/lang/Exception"]).filter goodWord, w ∈ lw_tbl := by decide +kernel
theorem wsL_law_x1 : ∀ w ∈ (vx_atS RX4 183 "java/lang/IndexOutOfBoundsException" ["java/lang/RuntimeException", "java/lang/Exception"]).filter goodWord, w ∈ lw_tbl := by decide +kernel
theorem wsL_law_x2 : ∀ w ∈ (vx_atS RX4 136 "java/lang/IllegalArgumentException" ["java/lang/RuntimeException", "java/lang/Exception"]).filter goodWord, w ∈ lw_tbl := by decide +kernel
theorem wsL_law_x3 : ∀ w ∈ (nsAtS RX4 168).filter goodWord, w ∈ lw_tbl := by decide +kernel
theorem wsL_law_in : ∀ w ∈ wsL_law, w ∈ lw_tbl := fun w h => (List.mem_append.mp h).elim (fun h => (List.mem_append.mp h).elim (fun h => (List.mem_append.mp h).elim (fun h => (List.mem_append.mp h).elim (fun h => wsL_law_in0 w h) (fun h => wsL_law_x0 w h)) (fun h => wsL_law_x1 w h)) (fun h => wsL_law_x2 w h)) (fun h => wsL_law_x3 w h)
theorem inlX0 : ∀ w ∈ wsX00, w ∈ wsL_law := fun _ h => List.mem_append_left _ (List.mem_append_left _ (List.mem_append_left _ (List.mem_append_left _ (List.mem_append_left _ (List.mem_append_left _ (List.mem_append_right _ h))))))
theorem inX0 : ∀ w ∈ wsX00, w ∈ lw_tbl := fun w h => wsL_law_in w (inlX0 w h)
theorem inlX1 : ∀ w ∈ wsX10, w ∈ wsL_law := fun _ h => List.mem_append_left _ (List.mem_append_left _ (List.mem_append_left _ (List.mem_append_left _ (List.mem_append_left _ (List.mem_append_left _ (List.mem_append_left _ (List.mem_append_left _ (List.mem_append_right _ h))))))))
theorem inX1 : ∀ w ∈ wsX10, w ∈ lw_tbl := fun w h => wsL_law_in w (inlX1 w h)
theorem inlX2 : ∀ w ∈ wsX20, w ∈ wsL_law := fun _ h => List.mem_append_left _ (List.mem_append_left _ (List.mem_append_left _ (List.mem_append_left _ (List.mem_append_left _ (List.mem_append_left _ (List.mem_append_left _ (List.mem_append_right _ h)))))))
theorem inX2 : ∀ w ∈ wsX20, w ∈ lw_tbl := fun w h => wsL_law_in w (inlX2 w h)
theorem inlX3 : ∀ w ∈ wsX30, w ∈ wsL_law := fun _ h => List.mem_append_left _ (List.mem_append_left _ (List.mem_append_left _ (List.mem_append_left _ (List.mem_append_left _ (List.mem_append_right _ h)))))
theorem inX3 : ∀ w ∈ wsX30, w ∈ lw_tbl := fun w h => wsL_law_in w (inlX3 w h)
theorem inlX4 : ∀ w ∈ wsX40, w ∈ wsL_law := fun _ h => List.mem_append_left _ (List.mem_append_left _ (List.mem_append_left _ (List.mem_append_left _ (List.mem_append_left _ (List.mem_append_left _ (List.mem_append_left _ (List.mem_append_left _ (List.mem_append_left _ (List.mem_append_left _ (List.mem_append_right _ h))))))))))
theorem inX4 : ∀ w ∈ wsX40, w ∈ lw_tbl := fun w h => wsL_law_in w (inlX4 w h)
theorem inlX5 : ∀ w ∈ wsX50, w ∈ wsL_law := fun _ h => List.mem_append_left _ (List.mem_append_left _ (List.mem_append_left _ (List.mem_append_left _ (List.mem_append_left _ (List.mem_append_left _ (List.mem_append_left _ (List.mem_append_left _ (List.mem_append_left _ (List.mem_append_right _ h)))))))))
theorem inX5 : ∀ w ∈ wsX50, w ∈ lw_tbl := fun w h => wsL_law_in w (inlX5 w h)
theorem inJx145de : ∀ w ∈ wsJx145de0, w ∈ lw_tbl := by decide +kernel
theorem inJ9 : ∀ w ∈ wsJ90, w ∈ lw_tbl := by decide +kernel
theorem inJ0 : ∀ w ∈ wsJ00, w ∈ lw_tbl := by decide +kernel
