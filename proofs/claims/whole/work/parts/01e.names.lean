theorem dX4_withdraw_57 : decode cX4_withdraw 57 = .ok (.laload, 1) := by decide +kernel
theorem dX4_withdraw_58 : decode cX4_withdraw 58 = .ok (.lreturn, 1) := by decide +kernel
set_option maxRecDepth 20000 in
theorem ggX4_grant_X4_needAccount : GoodIn wsX4_grant wsX4_needAccount := goodIn_ca (goodIn_r _ [10, 11, 12] (by decide +kernel) (by decide +kernel)) (goodIn_sub (fun _ h => List.mem_cons_of_mem _ (List.mem_append_left _ (List.mem_append_right _ h))) (by decide +kernel))
set_option maxRecDepth 20000 in
theorem gX4_grant_X4_needAccount : GoodIn wsX4_grant (va_wsS RX4 43 yX4_needAccount wsX4_needAccount) := goodIn_app (goodIn_of _ (by decide +kernel)) ggX4_grant_X4_needAccount
set_option maxRecDepth 20000 in
theorem ggX4_grant_X4_needSymbol : GoodIn wsX4_grant wsX4_needSymbol := goodIn_ca (goodIn_r _ [15, 11, 12] (by decide +kernel) (by decide +kernel)) (goodIn_sub (fun _ h => List.mem_cons_of_mem _ (List.mem_append_left _ (List.mem_append_right _ h))) (by decide +kernel))
set_option maxRecDepth 20000 in
theorem gX4_grant_X4_needSymbol : GoodIn wsX4_grant (va_wsS RX4 74 yX4_needSymbol wsX4_needSymbol) := goodIn_app (goodIn_of _ (by decide +kernel)) ggX4_grant_X4_needSymbol
set_option maxRecDepth 20000 in
theorem ggX4_grant_X4_needWithin : GoodIn wsX4_grant wsX4_needWithin := goodIn_ca (goodIn_r _ [18, 19, 20] (by decide +kernel) (by decide +kernel)) (goodIn_sub (fun _ h => List.mem_cons_of_mem _ (List.mem_append_right _ h)) (by decide +kernel))
set_option maxRecDepth 20000 in
theorem gX4_grant_X4_needWithin : GoodIn wsX4_grant (va_wsS RX4 48 yX4_needWithin wsX4_needWithin) := goodIn_app (goodIn_of _ (by decide +kernel)) ggX4_grant_X4_needWithin
set_option maxRecDepth 20000 in
theorem ggX4_grant_X1_placeOf : GoodIn wsX4_grant wsX1_placeOf := goodIn_r _ [24] (by decide +kernel) (by decide +kernel)
set_option maxRecDepth 20000 in
theorem gX4_grant_X1_placeOf : GoodIn wsX4_grant (va_wsS RX4 78 yX1_placeOf wsX1_placeOf) := goodIn_app (goodIn_of _ (by decide +kernel)) ggX4_grant_X1_placeOf
set_option maxRecDepth 20000 in
theorem ggX4_grant_X1_know : GoodIn wsX4_grant wsX1_know := goodIn_r _ [28, 29, 30, 36, 37, 38, 39, 40, 41, 42, 43] (by decide +kernel) (by decide +kernel)
set_option maxRecDepth 20000 in
theorem gX4_grant_X1_know : GoodIn wsX4_grant (wsV RX4 65 RX1 yX1_know wsX1_know) := goodIn_app (goodIn_of _ (by decide +kernel)) ggX4_grant_X1_know
theorem dX4_grant_0 : decode cX4_grant 0 = .ok (.iload_n 1, 1) := by decide +kernel
theorem dX4_grant_1 : decode cX4_grant 1 = .ok (.invokestatic 43, 3) := by decide +kernel
theorem dX4_grant_4 : decode cX4_grant 4 = .ok (.iload_n 2, 1) := by decide +kernel
theorem dX4_grant_5 : decode cX4_grant 5 = .ok (.invokestatic 74, 3) := by decide +kernel
theorem dX4_grant_8 : decode cX4_grant 8 = .ok (.iload_n 3, 1) := by decide +kernel
theorem dX4_grant_9 : decode cX4_grant 9 = .ok (.iconst 1, 1) := by decide +kernel
theorem dX4_grant_10 : decode cX4_grant 10 = .ok (.ldc 77, 2) := by decide +kernel
theorem dX4_grant_12 : decode cX4_grant 12 = .ok (.invokestatic 48, 3) := by decide +kernel
theorem dX4_grant_15 : decode cX4_grant 15 = .ok (.iload_n 1, 1) := by decide +kernel
theorem dX4_grant_16 : decode cX4_grant 16 = .ok (.iload_n 2, 1) := by decide +kernel
theorem dX4_grant_17 : decode cX4_grant 17 = .ok (.invokestatic 78, 3) := by decide +kernel
theorem dX4_grant_20 : decode cX4_grant 20 = .ok (.istore 4, 2) := by decide +kernel
theorem dX4_grant_22 : decode cX4_grant 22 = .ok (.aload_n 0, 1) := by decide +kernel
theorem dX4_grant_23 : decode cX4_grant 23 = .ok (.getfield 10, 3) := by decide +kernel
theorem dX4_grant_26 : decode cX4_grant 26 = .ok (.getfield 82, 3) := by decide +kernel
theorem dX4_grant_29 : decode cX4_grant 29 = .ok (.iload 4, 2) := by decide +kernel
theorem dX4_grant_31 : decode cX4_grant 31 = .ok (.iaload, 1) := by decide +kernel
theorem dX4_grant_32 : decode cX4_grant 32 = .ok (.ldc 47, 2) := by decide +kernel
theorem dX4_grant_34 : decode cX4_grant 34 = .ok (.iload_n 3, 1) := by decide +kernel
theorem dX4_grant_35 : decode cX4_grant 35 = .ok (.isub, 1) := by decide +kernel
theorem dX4_grant_36 : decode cX4_grant 36 = .ok (.if_icmp .le 13, 3) := by decide +kernel
theorem dX4_grant_39 : decode cX4_grant 39 = .ok (.new 58, 3) := by decide +kernel
theorem dX4_grant_42 : decode cX4_grant 42 = .ok (.dup, 1) := by decide +kernel
theorem dX4_grant_43 : decode cX4_grant 43 = .ok (.ldc 86, 2) := by decide +kernel
theorem dX4_grant_45 : decode cX4_grant 45 = .ok (.invokespecial 62, 3) := by decide +kernel
theorem dX4_grant_48 : decode cX4_grant 48 = .ok (.athrow, 1) := by decide +kernel
theorem dX4_grant_49 : decode cX4_grant 49 = .ok (.aload_n 0, 1) := by decide +kernel
theorem dX4_grant_50 : decode cX4_grant 50 = .ok (.getfield 10, 3) := by decide +kernel
theorem dX4_grant_53 : decode cX4_grant 53 = .ok (.getfield 82, 3) := by decide +kernel
theorem dX4_grant_56 : decode cX4_grant 56 = .ok (.iload 4, 2) := by decide +kernel
theorem dX4_grant_58 : decode cX4_grant 58 = .ok (.dup2, 1) := by decide +kernel
theorem dX4_grant_59 : decode cX4_grant 59 = .ok (.iaload, 1) := by decide +kernel
theorem dX4_grant_60 : decode cX4_grant 60 = .ok (.iload_n 3, 1) := by decide +kernel
theorem dX4_grant_61 : decode cX4_grant 61 = .ok (.iadd, 1) := by decide +kernel
theorem dX4_grant_62 : decode cX4_grant 62 = .ok (.iastore, 1) := by decide +kernel
theorem dX4_grant_63 : decode cX4_grant 63 = .ok (.aload_n 0, 1) := by decide +kernel
theorem dX4_grant_64 : decode cX4_grant 64 = .ok (.getfield 10, 3) := by decide +kernel
theorem dX4_grant_67 : decode cX4_grant 67 = .ok (.iload_n 1, 1) := by decide +kernel
theorem dX4_grant_68 : decode cX4_grant 68 = .ok (.invokevirtual 65, 3) := by decide +kernel
theorem dX4_grant_71 : decode cX4_grant 71 = .ok (.aload_n 0, 1) := by decide +kernel
theorem dX4_grant_72 : decode cX4_grant 72 = .ok (.getfield 10, 3) := by decide +kernel
theorem dX4_grant_75 : decode cX4_grant 75 = .ok (.getfield 82, 3) := by decide +kernel
theorem dX4_grant_78 : decode cX4_grant 78 = .ok (.iload 4, 2) := by decide +kernel
theorem dX4_grant_80 : decode cX4_grant 80 = .ok (.iaload, 1) := by decide +kernel
theorem dX4_grant_81 : decode cX4_grant 81 = .ok (.ireturn, 1) := by decide +kernel
set_option maxRecDepth 20000 in
theorem ggX4_order_X4_needAccount : GoodIn wsX4_order wsX4_needAccount := goodIn_ca (goodIn_r _ [10, 11, 12] (by decide +kernel) (by decide +kernel)) (goodIn_sub (fun _ h => List.mem_cons_of_mem _ (List.mem_append_left _ (List.mem_append_right _ h))) (by decide +kernel))
set_option maxRecDepth 20000 in
theorem gX4_order_X4_needAccount : GoodIn wsX4_order (va_wsS RX4 43 yX4_needAccount wsX4_needAccount) := goodIn_app (goodIn_of _ (by decide +kernel)) ggX4_order_X4_needAccount
set_option maxRecDepth 20000 in
theorem ggX4_order_X4_needSymbol : GoodIn wsX4_order wsX4_needSymbol := goodIn_ca (goodIn_r _ [15, 11, 12] (by decide +kernel) (by decide +kernel)) (goodIn_sub (fun _ h => List.mem_cons_of_mem _ (List.mem_append_left _ (List.mem_append_right _ h))) (by decide +kernel))
set_option maxRecDepth 20000 in
theorem gX4_order_X4_needSymbol : GoodIn wsX4_order (va_wsS RX4 74 yX4_needSymbol wsX4_needSymbol) := goodIn_app (goodIn_of _ (by decide +kernel)) ggX4_order_X4_needSymbol
set_option maxRecDepth 20000 in
theorem ggX4_order_X4_needSide : GoodIn wsX4_order wsX4_needSide := goodIn_ca (goodIn_r _ [18, 19, 20] (by decide +kernel) (by decide +kernel)) (goodIn_sub (fun _ h => List.mem_cons_of_mem _ (List.mem_append_right _ h)) (by decide +kernel))
set_option maxRecDepth 20000 in
theorem gX4_order_X4_needSide : GoodIn wsX4_order (va_wsS RX4 88 yX4_needSide wsX4_needSide) := goodIn_app (goodIn_of _ (by decide +kernel)) ggX4_order_X4_needSide
set_option maxRecDepth 20000 in
theorem ggX4_order_X4_needWithin : GoodIn wsX4_order wsX4_needWithin := goodIn_ca (goodIn_r _ [23, 19, 20] (by decide +kernel) (by decide +kernel)) (goodIn_sub (fun _ h => List.mem_cons_of_mem _ (List.mem_append_right _ h)) (by decide +kernel))
set_option maxRecDepth 20000 in
theorem gX4_order_X4_needWithin : GoodIn wsX4_order (va_wsS RX4 48 yX4_needWithin wsX4_needWithin) := goodIn_app (goodIn_of _ (by decide +kernel)) ggX4_order_X4_needWithin
set_option maxRecDepth 20000 in
theorem ggX4_order_X1_canHold : GoodIn wsX4_order wsX1_canHold := goodIn_r _ [28, 29, 30, 31, 32, 33, 27, 34, 35, 36, 37, 38, 39, 196, 197, 198, 199, 200, 201, 202, 203] (by decide +kernel) (by decide +kernel)
set_option maxRecDepth 20000 in
theorem gX4_order_X1_canHold : GoodIn wsX4_order (wsV RX4 91 RX1 yX1_canHold wsX1_canHold) := goodIn_app (goodIn_of _ (by decide +kernel)) ggX4_order_X1_canHold
set_option maxRecDepth 20000 in
theorem ggX4_order_X2_take : GoodIn wsX4_order wsX2_take := goodIn_r _ [44, 45, 46, 47, 48, 49, 50, 51, 52, 53, 54, 183, 184, 185, 186, 187, 188, 189, 190, 191, 192, 193, 194, 195] (by decide +kernel) (by decide +kernel)
set_option maxRecDepth 20000 in
theorem gX4_order_X2_take : GoodIn wsX4_order (wsV RX4 105 RX2 yX2_take wsX2_take) := goodIn_app (goodIn_of _ (by decide +kernel)) ggX4_order_X2_take
set_option maxRecDepth 20000 in
theorem ggX4_order_X4_hold : GoodIn wsX4_order wsX4_hold := goodIn_r _ [58, 4, 59, 60, 3, 61, 62, 63, 64, 65, 38, 27, 39, 178, 179, 180, 181, 182, 183, 184, 185, 186, 187, 188, 189, 190, 191, 192, 193, 194, 195, 196, 197, 198, 199, 200, 201, 202, 203] (by decide +kernel) (by decide +kernel)
set_option maxRecDepth 20000 in
theorem gX4_order_X4_hold : GoodIn wsX4_order (wsV RX4 109 RX4 yX4_hold wsX4_hold) := goodIn_app (goodIn_of _ (by decide +kernel)) ggX4_order_X4_hold
set_option maxRecDepth 20000 in
theorem ggX4_order_X4_actByKind : GoodIn wsX4_order wsX4_actByKind := goodIn_r _ [69, 4, 70, 71, 72, 73, 74, 9, 75, 76, 77, 78, 79, 80, 81, 82, 83, 84, 85, 86, 87, 88, 89, 90, 91, 92, 93, 94, 95, 96, 43, 97, 48, 50, 98, 99, 100, 101, 102, 103, 5, 55, 56, 57, 58, 59, 60, 3, 61, 62, 63, 64, 65, 38, 27, 39, 104, 105, 106, 107, 108, 109, 110, 111, 112, 113, 114, 115, 116, 117, 118, 119, 120, 121, 122, 123, 124, 125, 126, 127, 128, 129, 130, 131, 132, 133, 134, 135, 35, 29, 136, 137, 37, 138, 139, 140, 141, 52, 142, 143, 144, 145, 146, 147, 148, 149, 150, 151, 152, 153, 154, 155, 156, 157, 158, 159, 160, 161, 162, 163, 164, 165, 166, 167, 168, 178, 179, 180, 181, 182, 183, 184, 185, 186, 187, 188, 189, 190, 191, 192, 193, 194, 195, 204, 205, 206, 196, 197, 198, 199, 200, 201, 202, 203, 207, 208, 209, 210, 211, 212, 213, 214, 215] (by decide +kernel) (by decide +kernel)
set_option maxRecDepth 20000 in
theorem gX4_order_X4_actByKind : GoodIn wsX4_order (wsV RX4 113 RX4 yX4_actByKind wsX4_actByKind) := goodIn_app (goodIn_of _ (by decide +kernel)) ggX4_order_X4_actByKind
set_option maxRecDepth 20000 in
theorem ggX4_order_X4_wakeStop : GoodIn wsX4_order wsX4_wakeStop := goodIn_r _ [172, 131, 173, 4, 6, 64, 70, 174, 175, 176, 43, 177, 53, 48, 51, 178, 179, 180, 181, 182, 207, 208, 209, 210, 211, 212, 213, 214, 215, 183, 184, 185, 186, 187, 188, 189, 190, 191, 192, 193, 194, 195] (by decide +kernel) (by decide +kernel)
set_option maxRecDepth 20000 in
theorem gX4_order_X4_wakeStop : GoodIn wsX4_order (wsV RX4 116 RX4 yX4_wakeStop wsX4_wakeStop) := goodIn_app (goodIn_of _ (by decide +kernel)) ggX4_order_X4_wakeStop
theorem dX4_order_0 : decode cX4_order 0 = .ok (.iload_n 1, 1) := by decide +kernel
theorem dX4_order_1 : decode cX4_order 1 = .ok (.invokestatic 43, 3) := by decide +kernel
theorem dX4_order_4 : decode cX4_order 4 = .ok (.iload_n 2, 1) := by decide +kernel
theorem dX4_order_5 : decode cX4_order 5 = .ok (.invokestatic 74, 3) := by decide +kernel
theorem dX4_order_8 : decode cX4_order 8 = .ok (.iload_n 3, 1) := by decide +kernel
theorem dX4_order_9 : decode cX4_order 9 = .ok (.invokestatic 88, 3) := by decide +kernel
theorem dX4_order_12 : decode cX4_order 12 = .ok (.iload 4, 2) := by decide +kernel
theorem dX4_order_14 : decode cX4_order 14 = .ok (.iconst 0, 1) := by decide +kernel
theorem dX4_order_15 : decode cX4_order 15 = .ok (.iconst 5, 1) := by decide +kernel
theorem dX4_order_16 : decode cX4_order 16 = .ok (.invokestatic 48, 3) := by decide +kernel
theorem dX4_order_19 : decode cX4_order 19 = .ok (.iload 5, 2) := by decide +kernel
theorem dX4_order_21 : decode cX4_order 21 = .ok (.iconst 1, 1) := by decide +kernel
theorem dX4_order_22 : decode cX4_order 22 = .ok (.sipush 10000, 3) := by decide +kernel
theorem dX4_order_25 : decode cX4_order 25 = .ok (.invokestatic 48, 3) := by decide +kernel
theorem dX4_order_28 : decode cX4_order 28 = .ok (.iload 6, 2) := by decide +kernel
theorem dX4_order_30 : decode cX4_order 30 = .ok (.iconst 1, 1) := by decide +kernel
theorem dX4_order_31 : decode cX4_order 31 = .ok (.sipush 10000, 3) := by decide +kernel
theorem dX4_order_34 : decode cX4_order 34 = .ok (.invokestatic 48, 3) := by decide +kernel
theorem dX4_order_37 : decode cX4_order 37 = .ok (.iload 4, 2) := by decide +kernel
theorem dX4_order_39 : decode cX4_order 39 = .ok (.iconst 4, 1) := by decide +kernel
theorem dX4_order_40 : decode cX4_order 40 = .ok (.if_icmp .eq 9, 3) := by decide +kernel
theorem dX4_order_43 : decode cX4_order 43 = .ok (.iload 4, 2) := by decide +kernel
theorem dX4_order_45 : decode cX4_order 45 = .ok (.iconst 5, 1) := by decide +kernel
theorem dX4_order_46 : decode cX4_order 46 = .ok (.if_icmp .ne 12, 3) := by decide +kernel
theorem dX4_order_49 : decode cX4_order 49 = .ok (.iload 7, 2) := by decide +kernel
theorem dX4_order_51 : decode cX4_order 51 = .ok (.iconst 1, 1) := by decide +kernel
theorem dX4_order_52 : decode cX4_order 52 = .ok (.sipush 10000, 3) := by decide +kernel
theorem dX4_order_55 : decode cX4_order 55 = .ok (.invokestatic 48, 3) := by decide +kernel
theorem dX4_order_58 : decode cX4_order 58 = .ok (.aload_n 0, 1) := by decide +kernel
theorem dX4_order_59 : decode cX4_order 59 = .ok (.getfield 10, 3) := by decide +kernel
theorem dX4_order_62 : decode cX4_order 62 = .ok (.iload_n 1, 1) := by decide +kernel
theorem dX4_order_63 : decode cX4_order 63 = .ok (.iload_n 2, 1) := by decide +kernel
theorem dX4_order_64 : decode cX4_order 64 = .ok (.iload_n 3, 1) := by decide +kernel
theorem dX4_order_65 : decode cX4_order 65 = .ok (.iload 5, 2) := by decide +kernel
theorem dX4_order_67 : decode cX4_order 67 = .ok (.iload 6, 2) := by decide +kernel
theorem dX4_order_69 : decode cX4_order 69 = .ok (.invokevirtual 91, 3) := by decide +kernel
theorem dX4_order_72 : decode cX4_order 72 = .ok (.ifCond .ne 13, 3) := by decide +kernel
theorem dX4_order_75 : decode cX4_order 75 = .ok (.new 58, 3) := by decide +kernel
theorem dX4_order_78 : decode cX4_order 78 = .ok (.dup, 1) := by decide +kernel
theorem dX4_order_79 : decode cX4_order 79 = .ok (.ldc 95, 2) := by decide +kernel
theorem dX4_order_81 : decode cX4_order 81 = .ok (.invokespecial 62, 3) := by decide +kernel
theorem dX4_order_84 : decode cX4_order 84 = .ok (.athrow, 1) := by decide +kernel
theorem dX4_order_85 : decode cX4_order 85 = .ok (.aload_n 0, 1) := by decide +kernel
theorem dX4_order_86 : decode cX4_order 86 = .ok (.getfield 19, 3) := by decide +kernel
theorem dX4_order_89 : decode cX4_order 89 = .ok (.getfield 97, 3) := by decide +kernel
theorem dX4_order_92 : decode cX4_order 92 = .ok (.bipush 100, 2) := by decide +kernel
theorem dX4_order_94 : decode cX4_order 94 = .ok (.if_icmp .ge 16, 3) := by decide +kernel
theorem dX4_order_97 : decode cX4_order 97 = .ok (.aload_n 0, 1) := by decide +kernel
theorem dX4_order_98 : decode cX4_order 98 = .ok (.getfield 19, 3) := by decide +kernel
theorem dX4_order_101 : decode cX4_order 101 = .ok (.getfield 100, 3) := by decide +kernel
theorem dX4_order_104 : decode cX4_order 104 = .ok (.sipush 512, 3) := by decide +kernel
theorem dX4_order_107 : decode cX4_order 107 = .ok (.if_icmp .lt 13, 3) := by decide +kernel
theorem dX4_order_110 : decode cX4_order 110 = .ok (.new 58, 3) := by decide +kernel
theorem dX4_order_113 : decode cX4_order 113 = .ok (.dup, 1) := by decide +kernel
theorem dX4_order_114 : decode cX4_order 114 = .ok (.ldc 103, 2) := by decide +kernel
theorem dX4_order_116 : decode cX4_order 116 = .ok (.invokespecial 62, 3) := by decide +kernel
theorem dX4_order_119 : decode cX4_order 119 = .ok (.athrow, 1) := by decide +kernel
theorem dX4_order_120 : decode cX4_order 120 = .ok (.aload_n 0, 1) := by decide +kernel
theorem dX4_order_121 : decode cX4_order 121 = .ok (.getfield 19, 3) := by decide +kernel
theorem dX4_order_124 : decode cX4_order 124 = .ok (.iload_n 1, 1) := by decide +kernel
theorem dX4_order_125 : decode cX4_order 125 = .ok (.iload_n 2, 1) := by decide +kernel
theorem dX4_order_126 : decode cX4_order 126 = .ok (.iload_n 3, 1) := by decide +kernel
theorem dX4_order_127 : decode cX4_order 127 = .ok (.iload 4, 2) := by decide +kernel
theorem dX4_order_129 : decode cX4_order 129 = .ok (.iload 5, 2) := by decide +kernel
theorem dX4_order_131 : decode cX4_order 131 = .ok (.iload 6, 2) := by decide +kernel
theorem dX4_order_133 : decode cX4_order 133 = .ok (.iload 7, 2) := by decide +kernel
theorem dX4_order_135 : decode cX4_order 135 = .ok (.invokevirtual 105, 3) := by decide +kernel
theorem dX4_order_138 : decode cX4_order 138 = .ok (.istore 8, 2) := by decide +kernel
theorem dX4_order_140 : decode cX4_order 140 = .ok (.aload_n 0, 1) := by decide +kernel
theorem dX4_order_141 : decode cX4_order 141 = .ok (.iload 8, 2) := by decide +kernel
theorem dX4_order_143 : decode cX4_order 143 = .ok (.iload 6, 2) := by decide +kernel
theorem dX4_order_145 : decode cX4_order 145 = .ok (.invokevirtual 109, 3) := by decide +kernel
theorem dX4_order_148 : decode cX4_order 148 = .ok (.iload 8, 2) := by decide +kernel
theorem dX4_order_150 : decode cX4_order 150 = .ok (.istore 9, 2) := by decide +kernel
theorem dX4_order_152 : decode cX4_order 152 = .ok (.iconst 0, 1) := by decide +kernel
theorem dX4_order_153 : decode cX4_order 153 = .ok (.istore 10, 2) := by decide +kernel
theorem dX4_order_155 : decode cX4_order 155 = .ok (.iload 10, 2) := by decide +kernel
theorem dX4_order_157 : decode cX4_order 157 = .ok (.bipush 100, 2) := by decide +kernel
theorem dX4_order_159 : decode cX4_order 159 = .ok (.if_icmp .gt 28, 3) := by decide +kernel
theorem dX4_order_162 : decode cX4_order 162 = .ok (.iload 9, 2) := by decide +kernel
theorem dX4_order_164 : decode cX4_order 164 = .ok (.iconst (-1), 1) := by decide +kernel
theorem dX4_order_165 : decode cX4_order 165 = .ok (.if_icmp .eq 22, 3) := by decide +kernel
theorem dX4_order_168 : decode cX4_order 168 = .ok (.aload_n 0, 1) := by decide +kernel
theorem dX4_order_169 : decode cX4_order 169 = .ok (.iload 9, 2) := by decide +kernel
theorem dX4_order_171 : decode cX4_order 171 = .ok (.invokevirtual 113, 3) := by decide +kernel
theorem dX4_order_174 : decode cX4_order 174 = .ok (.aload_n 0, 1) := by decide +kernel
theorem dX4_order_175 : decode cX4_order 175 = .ok (.iload_n 2, 1) := by decide +kernel
theorem dX4_order_176 : decode cX4_order 176 = .ok (.invokevirtual 116, 3) := by decide +kernel
theorem dX4_order_179 : decode cX4_order 179 = .ok (.istore 9, 2) := by decide +kernel
theorem dX4_order_181 : decode cX4_order 181 = .ok (.iinc 10 1, 3) := by decide +kernel
theorem dX4_order_184 : decode cX4_order 184 = .ok (.goto (-29), 3) := by decide +kernel
theorem dX4_order_187 : decode cX4_order 187 = .ok (.iload 8, 2) := by decide +kernel
theorem dX4_order_189 : decode cX4_order 189 = .ok (.ireturn, 1) := by decide +kernel
set_option maxRecDepth 20000 in
theorem ggX4_cancel_X4_needOwnOrder : GoodIn wsX4_cancel wsX4_needOwnOrder := goodIn_ca (goodIn_ca (goodIn_r _ [7, 8, 9, 1, 10, 11, 12, 6, 13, 14, 15, 16, 17, 18, 19, 20, 72, 73, 74, 75, 76, 77, 78, 79, 80, 81, 82, 83, 84, 85, 86, 87, 88, 89] (by decide +kernel) (by decide +kernel)) (goodIn_sub (fun _ h => List.mem_cons_of_mem _ (List.mem_append_left _ (List.mem_append_left _ (List.mem_append_right _ h)))) (by decide +kernel))) (goodIn_sub (fun _ h => List.mem_cons_of_mem _ (List.mem_append_left _ (List.mem_append_right _ h))) (by decide +kernel))
set_option maxRecDepth 20000 in
theorem gX4_cancel_X4_needOwnOrder : GoodIn wsX4_cancel (wsV RX4 120 RX4 yX4_needOwnOrder wsX4_needOwnOrder) := goodIn_app (goodIn_of _ (by decide +kernel)) ggX4_cancel_X4_needOwnOrder
set_option maxRecDepth 20000 in
theorem ggX4_cancel_X4_needThere : GoodIn wsX4_cancel wsX4_needThere := goodIn_ca (goodIn_r _ [24, 25, 26, 1, 27, 28, 29, 30, 31, 32, 72, 73, 74, 75, 76, 77, 78, 79, 80, 81, 82, 83, 84, 85, 86, 87, 88, 89] (by decide +kernel) (by decide +kernel)) (goodIn_sub (fun _ h => List.mem_cons_of_mem _ (List.mem_append_right _ h)) (by decide +kernel))
set_option maxRecDepth 20000 in
theorem gX4_cancel_X4_needThere : GoodIn wsX4_cancel (wsV RX4 123 RX4 yX4_needThere wsX4_needThere) := goodIn_app (goodIn_of _ (by decide +kernel)) ggX4_cancel_X4_needThere
set_option maxRecDepth 20000 in
theorem ggX4_cancel_X4_takeAway : GoodIn wsX4_cancel wsX4_takeAway := goodIn_r _ [36, 1, 37, 38, 39, 40, 41, 42, 43, 44, 45, 46, 47, 48, 49, 50, 51, 52, 53, 54, 6, 55, 2, 56, 57, 58, 59, 60, 61, 10, 62, 63, 64, 65, 66, 67, 68, 69, 70, 71, 72, 73, 74, 75, 76, 77, 78, 79, 80, 81, 82, 83, 84, 85, 86, 87, 88, 89, 90, 91, 92, 93, 94, 95, 96, 97, 98, 99, 100] (by decide +kernel) (by decide +kernel)
set_option maxRecDepth 20000 in
theorem gX4_cancel_X4_takeAway : GoodIn wsX4_cancel (wsV RX4 129 RX4 yX4_takeAway wsX4_takeAway) := goodIn_app (goodIn_of _ (by decide +kernel)) ggX4_cancel_X4_takeAway
theorem dX4_cancel_0 : decode cX4_cancel 0 = .ok (.aload_n 0, 1) := by decide +kernel
theorem dX4_cancel_1 : decode cX4_cancel 1 = .ok (.iload_n 1, 1) := by decide +kernel
theorem dX4_cancel_2 : decode cX4_cancel 2 = .ok (.iload_n 2, 1) := by decide +kernel
theorem dX4_cancel_3 : decode cX4_cancel 3 = .ok (.invokevirtual 120, 3) := by decide +kernel
theorem dX4_cancel_6 : decode cX4_cancel 6 = .ok (.aload_n 0, 1) := by decide +kernel
theorem dX4_cancel_7 : decode cX4_cancel 7 = .ok (.iload_n 2, 1) := by decide +kernel
theorem dX4_cancel_8 : decode cX4_cancel 8 = .ok (.invokevirtual 123, 3) := by decide +kernel
theorem dX4_cancel_11 : decode cX4_cancel 11 = .ok (.aload_n 0, 1) := by decide +kernel
theorem dX4_cancel_12 : decode cX4_cancel 12 = .ok (.getfield 19, 3) := by decide +kernel
theorem dX4_cancel_15 : decode cX4_cancel 15 = .ok (.getfield 126, 3) := by decide +kernel
theorem dX4_cancel_18 : decode cX4_cancel 18 = .ok (.iload_n 2, 1) := by decide +kernel
theorem dX4_cancel_19 : decode cX4_cancel 19 = .ok (.iaload, 1) := by decide +kernel
theorem dX4_cancel_20 : decode cX4_cancel 20 = .ok (.istore_n 3, 1) := by decide +kernel
theorem dX4_cancel_21 : decode cX4_cancel 21 = .ok (.aload_n 0, 1) := by decide +kernel
theorem dX4_cancel_22 : decode cX4_cancel 22 = .ok (.iload_n 2, 1) := by decide +kernel
theorem dX4_cancel_23 : decode cX4_cancel 23 = .ok (.invokevirtual 129, 3) := by decide +kernel
theorem dX4_cancel_26 : decode cX4_cancel 26 = .ok (.iload_n 3, 1) := by decide +kernel
theorem dX4_cancel_27 : decode cX4_cancel 27 = .ok (.ireturn, 1) := by decide +kernel
set_option maxRecDepth 20000 in
theorem ggX4_reduce_X4_needOwnOrder : GoodIn wsX4_reduce wsX4_needOwnOrder := goodIn_ca (goodIn_ca (goodIn_r _ [16, 1, 2, 5, 17, 18, 19, 15, 20, 21, 22, 23, 24, 25, 26, 27, 52, 53, 54, 55, 56, 57, 58, 59, 60, 61, 62, 63, 64, 65, 66, 67, 68, 69] (by decide +kernel) (by decide +kernel)) (goodIn_sub (fun _ h => List.mem_cons_of_mem _ (List.mem_append_left _ (List.mem_append_left _ (List.mem_append_right _ h)))) (by decide +kernel))) (goodIn_sub (fun _ h => List.mem_cons_of_mem _ (List.mem_append_right _ h)) (by decide +kernel))
set_option maxRecDepth 20000 in
theorem gX4_reduce_X4_needOwnOrder : GoodIn wsX4_reduce (wsV RX4 120 RX4 yX4_needOwnOrder wsX4_needOwnOrder) := goodIn_app (goodIn_of _ (by decide +kernel)) ggX4_reduce_X4_needOwnOrder
set_option maxRecDepth 20000 in
theorem ggX4_reduce_X4_needThere : GoodIn wsX4_reduce wsX4_needThere := goodIn_ca (goodIn_r _ [31, 3, 4, 5, 32, 33, 34, 35, 36, 37, 52, 53, 54, 55, 56, 57, 58, 59, 60, 61, 62, 63, 64, 65, 66, 67, 68, 69] (by decide +kernel) (by decide +kernel)) (goodIn_sub (fun _ h => List.mem_cons_of_mem _ (List.mem_append_left _ (List.mem_append_right _ h))) (by decide +kernel))
set_option maxRecDepth 20000 in
theorem gX4_reduce_X4_needThere : GoodIn wsX4_reduce (wsV RX4 123 RX4 yX4_needThere wsX4_needThere) := goodIn_app (goodIn_of _ (by decide +kernel)) ggX4_reduce_X4_needThere
set_option maxRecDepth 20000 in
theorem ggX4_reduce_X4_hold : GoodIn wsX4_reduce wsX4_hold := goodIn_r _ [41, 5, 17, 42, 43, 44, 45, 46, 47, 48, 49, 50, 51, 52, 53, 54, 55, 56, 57, 58, 59, 60, 61, 62, 63, 64, 65, 66, 67, 68, 69, 70, 71, 72, 73, 74, 75, 76, 77] (by decide +kernel) (by decide +kernel)
set_option maxRecDepth 20000 in
theorem gX4_reduce_X4_hold : GoodIn wsX4_reduce (wsV RX4 109 RX4 yX4_hold wsX4_hold) := goodIn_app (goodIn_of _ (by decide +kernel)) ggX4_reduce_X4_hold
theorem dX4_reduce_0 : decode cX4_reduce 0 = .ok (.aload_n 0, 1) := by decide +kernel
theorem dX4_reduce_1 : decode cX4_reduce 1 = .ok (.iload_n 1, 1) := by decide +kernel
theorem dX4_reduce_2 : decode cX4_reduce 2 = .ok (.iload_n 2, 1) := by decide +kernel
theorem dX4_reduce_3 : decode cX4_reduce 3 = .ok (.invokevirtual 120, 3) := by decide +kernel
theorem dX4_reduce_6 : decode cX4_reduce 6 = .ok (.iload_n 3, 1) := by decide +kernel
theorem dX4_reduce_7 : decode cX4_reduce 7 = .ok (.iconst 1, 1) := by decide +kernel
theorem dX4_reduce_8 : decode cX4_reduce 8 = .ok (.if_icmp .ge 13, 3) := by decide +kernel
theorem dX4_reduce_11 : decode cX4_reduce 11 = .ok (.new 132, 3) := by decide +kernel
theorem dX4_reduce_14 : decode cX4_reduce 14 = .ok (.dup, 1) := by decide +kernel
theorem dX4_reduce_15 : decode cX4_reduce 15 = .ok (.ldc 134, 2) := by decide +kernel
theorem dX4_reduce_17 : decode cX4_reduce 17 = .ok (.invokespecial 136, 3) := by decide +kernel
theorem dX4_reduce_20 : decode cX4_reduce 20 = .ok (.athrow, 1) := by decide +kernel
theorem dX4_reduce_21 : decode cX4_reduce 21 = .ok (.aload_n 0, 1) := by decide +kernel
theorem dX4_reduce_22 : decode cX4_reduce 22 = .ok (.iload_n 2, 1) := by decide +kernel
theorem dX4_reduce_23 : decode cX4_reduce 23 = .ok (.invokevirtual 123, 3) := by decide +kernel
theorem dX4_reduce_26 : decode cX4_reduce 26 = .ok (.aload_n 0, 1) := by decide +kernel
theorem dX4_reduce_27 : decode cX4_reduce 27 = .ok (.getfield 19, 3) := by decide +kernel
theorem dX4_reduce_30 : decode cX4_reduce 30 = .ok (.getfield 126, 3) := by decide +kernel
theorem dX4_reduce_33 : decode cX4_reduce 33 = .ok (.iload_n 2, 1) := by decide +kernel
theorem dX4_reduce_34 : decode cX4_reduce 34 = .ok (.iaload, 1) := by decide +kernel
theorem dX4_reduce_35 : decode cX4_reduce 35 = .ok (.iload_n 3, 1) := by decide +kernel
theorem dX4_reduce_36 : decode cX4_reduce 36 = .ok (.if_icmp .gt 13, 3) := by decide +kernel
theorem dX4_reduce_39 : decode cX4_reduce 39 = .ok (.new 58, 3) := by decide +kernel
theorem dX4_reduce_42 : decode cX4_reduce 42 = .ok (.dup, 1) := by decide +kernel
theorem dX4_reduce_43 : decode cX4_reduce 43 = .ok (.ldc 137, 2) := by decide +kernel
theorem dX4_reduce_45 : decode cX4_reduce 45 = .ok (.invokespecial 62, 3) := by decide +kernel
theorem dX4_reduce_48 : decode cX4_reduce 48 = .ok (.athrow, 1) := by decide +kernel
theorem dX4_reduce_49 : decode cX4_reduce 49 = .ok (.aload_n 0, 1) := by decide +kernel
theorem dX4_reduce_50 : decode cX4_reduce 50 = .ok (.getfield 19, 3) := by decide +kernel
theorem dX4_reduce_53 : decode cX4_reduce 53 = .ok (.getfield 126, 3) := by decide +kernel
theorem dX4_reduce_56 : decode cX4_reduce 56 = .ok (.iload_n 2, 1) := by decide +kernel
theorem dX4_reduce_57 : decode cX4_reduce 57 = .ok (.dup2, 1) := by decide +kernel
theorem dX4_reduce_58 : decode cX4_reduce 58 = .ok (.iaload, 1) := by decide +kernel
theorem dX4_reduce_59 : decode cX4_reduce 59 = .ok (.iload_n 3, 1) := by decide +kernel
theorem dX4_reduce_60 : decode cX4_reduce 60 = .ok (.isub, 1) := by decide +kernel
theorem dX4_reduce_61 : decode cX4_reduce 61 = .ok (.iastore, 1) := by decide +kernel
theorem dX4_reduce_62 : decode cX4_reduce 62 = .ok (.aload_n 0, 1) := by decide +kernel
theorem dX4_reduce_63 : decode cX4_reduce 63 = .ok (.getfield 19, 3) := by decide +kernel
theorem dX4_reduce_66 : decode cX4_reduce 66 = .ok (.getfield 139, 3) := by decide +kernel
theorem dX4_reduce_69 : decode cX4_reduce 69 = .ok (.iload_n 2, 1) := by decide +kernel
theorem dX4_reduce_70 : decode cX4_reduce 70 = .ok (.aload_n 0, 1) := by decide +kernel
theorem dX4_reduce_71 : decode cX4_reduce 71 = .ok (.getfield 19, 3) := by decide +kernel
theorem dX4_reduce_74 : decode cX4_reduce 74 = .ok (.getfield 139, 3) := by decide +kernel
theorem dX4_reduce_77 : decode cX4_reduce 77 = .ok (.iload_n 2, 1) := by decide +kernel
theorem dX4_reduce_78 : decode cX4_reduce 78 = .ok (.iaload, 1) := by decide +kernel
theorem dX4_reduce_79 : decode cX4_reduce 79 = .ok (.aload_n 0, 1) := by decide +kernel
theorem dX4_reduce_80 : decode cX4_reduce 80 = .ok (.getfield 19, 3) := by decide +kernel
theorem dX4_reduce_83 : decode cX4_reduce 83 = .ok (.getfield 126, 3) := by decide +kernel
theorem dX4_reduce_86 : decode cX4_reduce 86 = .ok (.iload_n 2, 1) := by decide +kernel
theorem dX4_reduce_87 : decode cX4_reduce 87 = .ok (.iaload, 1) := by decide +kernel
theorem dX4_reduce_88 : decode cX4_reduce 88 = .ok (.invokestatic 142, 3) := by decide +kernel
theorem dX4_reduce_91 : decode cX4_reduce 91 = .ok (.iastore, 1) := by decide +kernel
theorem dX4_reduce_92 : decode cX4_reduce 92 = .ok (.aload_n 0, 1) := by decide +kernel
theorem dX4_reduce_93 : decode cX4_reduce 93 = .ok (.iload_n 2, 1) := by decide +kernel
theorem dX4_reduce_94 : decode cX4_reduce 94 = .ok (.iload_n 3, 1) := by decide +kernel
theorem dX4_reduce_95 : decode cX4_reduce 95 = .ok (.ineg, 1) := by decide +kernel
theorem dX4_reduce_96 : decode cX4_reduce 96 = .ok (.invokevirtual 109, 3) := by decide +kernel
theorem dX4_reduce_99 : decode cX4_reduce 99 = .ok (.aload_n 0, 1) := by decide +kernel
theorem dX4_reduce_100 : decode cX4_reduce 100 = .ok (.getfield 19, 3) := by decide +kernel
theorem dX4_reduce_103 : decode cX4_reduce 103 = .ok (.getfield 126, 3) := by decide +kernel
theorem dX4_reduce_106 : decode cX4_reduce 106 = .ok (.iload_n 2, 1) := by decide +kernel
theorem dX4_reduce_107 : decode cX4_reduce 107 = .ok (.iaload, 1) := by decide +kernel
theorem dX4_reduce_108 : decode cX4_reduce 108 = .ok (.ireturn, 1) := by decide +kernel
set_option maxRecDepth 20000 in
theorem ggX4_until_X4_needOwnOrder : GoodIn wsX4_until wsX4_needOwnOrder := goodIn_ca (goodIn_ca (goodIn_r _ [12, 1, 2, 6, 13, 14, 15, 11, 16, 17, 18, 19, 20, 21, 22, 23, 34, 35, 36, 37, 38, 39, 40, 41, 42, 43, 44, 45, 46, 47, 48, 49, 50, 51] (by decide +kernel) (by decide +kernel)) (goodIn_sub (fun _ h => List.mem_cons_of_mem _ (List.mem_append_left _ (List.mem_append_left _ (List.mem_append_right _ h)))) (by decide +kernel))) (goodIn_sub (fun _ h => List.mem_cons_of_mem _ (List.mem_append_right _ h)) (by decide +kernel))
set_option maxRecDepth 20000 in
theorem gX4_until_X4_needOwnOrder : GoodIn wsX4_until (wsV RX4 120 RX4 yX4_needOwnOrder wsX4_needOwnOrder) := goodIn_app (goodIn_of _ (by decide +kernel)) ggX4_until_X4_needOwnOrder
set_option maxRecDepth 20000 in
theorem ggX4_until_X4_needThere : GoodIn wsX4_until wsX4_needThere := goodIn_ca (goodIn_r _ [27, 3, 4, 6, 28, 29, 30, 31, 32, 33, 34, 35, 36, 37, 38, 39, 40, 41, 42, 43, 44, 45, 46, 47, 48, 49, 50, 51] (by decide +kernel) (by decide +kernel)) (goodIn_sub (fun _ h => List.mem_cons_of_mem _ (List.mem_append_left _ (List.mem_append_right _ h))) (by decide +kernel))
set_option maxRecDepth 20000 in
theorem gX4_until_X4_needThere : GoodIn wsX4_until (wsV RX4 123 RX4 yX4_needThere wsX4_needThere) := goodIn_app (goodIn_of _ (by decide +kernel)) ggX4_until_X4_needThere
theorem dX4_until_0 : decode cX4_until 0 = .ok (.aload_n 0, 1) := by decide +kernel
theorem dX4_until_1 : decode cX4_until 1 = .ok (.iload_n 1, 1) := by decide +kernel
theorem dX4_until_2 : decode cX4_until 2 = .ok (.iload_n 2, 1) := by decide +kernel
theorem dX4_until_3 : decode cX4_until 3 = .ok (.invokevirtual 120, 3) := by decide +kernel
theorem dX4_until_6 : decode cX4_until 6 = .ok (.iload_n 3, 1) := by decide +kernel
theorem dX4_until_7 : decode cX4_until 7 = .ok (.ifCond .ge 13, 3) := by decide +kernel
theorem dX4_until_10 : decode cX4_until 10 = .ok (.new 132, 3) := by decide +kernel
theorem dX4_until_13 : decode cX4_until 13 = .ok (.dup, 1) := by decide +kernel
theorem dX4_until_14 : decode cX4_until 14 = .ok (.ldc 147, 2) := by decide +kernel
theorem dX4_until_16 : decode cX4_until 16 = .ok (.invokespecial 136, 3) := by decide +kernel
theorem dX4_until_19 : decode cX4_until 19 = .ok (.athrow, 1) := by decide +kernel
theorem dX4_until_20 : decode cX4_until 20 = .ok (.aload_n 0, 1) := by decide +kernel
theorem dX4_until_21 : decode cX4_until 21 = .ok (.iload_n 2, 1) := by decide +kernel
theorem dX4_until_22 : decode cX4_until 22 = .ok (.invokevirtual 123, 3) := by decide +kernel
theorem dX4_until_25 : decode cX4_until 25 = .ok (.iload_n 3, 1) := by decide +kernel
theorem dX4_until_26 : decode cX4_until 26 = .ok (.ifCond .eq 21, 3) := by decide +kernel
theorem dX4_until_29 : decode cX4_until 29 = .ok (.iload_n 3, 1) := by decide +kernel
theorem dX4_until_30 : decode cX4_until 30 = .ok (.aload_n 0, 1) := by decide +kernel
theorem dX4_until_31 : decode cX4_until 31 = .ok (.getfield 39, 3) := by decide +kernel
theorem dX4_until_34 : decode cX4_until 34 = .ok (.if_icmp .gt 13, 3) := by decide +kernel
theorem dX4_until_37 : decode cX4_until 37 = .ok (.new 58, 3) := by decide +kernel
theorem dX4_until_40 : decode cX4_until 40 = .ok (.dup, 1) := by decide +kernel
theorem dX4_until_41 : decode cX4_until 41 = .ok (.ldc 149, 2) := by decide +kernel
theorem dX4_until_43 : decode cX4_until 43 = .ok (.invokespecial 62, 3) := by decide +kernel
theorem dX4_until_46 : decode cX4_until 46 = .ok (.athrow, 1) := by decide +kernel
theorem dX4_until_47 : decode cX4_until 47 = .ok (.aload_n 0, 1) := by decide +kernel
theorem dX4_until_48 : decode cX4_until 48 = .ok (.getfield 19, 3) := by decide +kernel
theorem dX4_until_51 : decode cX4_until 51 = .ok (.getfield 151, 3) := by decide +kernel
theorem dX4_until_54 : decode cX4_until 54 = .ok (.iload_n 2, 1) := by decide +kernel
theorem dX4_until_55 : decode cX4_until 55 = .ok (.iload_n 3, 1) := by decide +kernel
theorem dX4_until_56 : decode cX4_until 56 = .ok (.iastore, 1) := by decide +kernel
theorem dX4_until_57 : decode cX4_until 57 = .ok (.return_, 1) := by decide +kernel
set_option maxRecDepth 20000 in
theorem ggX4_pass_X4_needWithin : GoodIn wsX4_pass wsX4_needWithin := goodIn_ca (goodIn_r _ [9, 10, 11] (by decide +kernel) (by decide +kernel)) (goodIn_sub (fun _ h => List.mem_cons_of_mem _ (List.mem_append_right _ h)) (by decide +kernel))
set_option maxRecDepth 20000 in
theorem gX4_pass_X4_needWithin : GoodIn wsX4_pass (va_wsS RX4 48 yX4_needWithin wsX4_needWithin) := goodIn_app (goodIn_of _ (by decide +kernel)) ggX4_pass_X4_needWithin
set_option maxRecDepth 20000 in
theorem ggX4_pass_X2_isThere : GoodIn wsX4_pass wsX2_isThere := goodIn_r _ [16, 17, 64, 65, 66, 67, 68, 69, 70, 71, 72, 73, 74, 75, 76] (by decide +kernel) (by decide +kernel)
set_option maxRecDepth 20000 in
theorem gX4_pass_X2_isThere : GoodIn wsX4_pass (wsV RX4 154 RX2 yX2_isThere wsX2_isThere) := goodIn_app (goodIn_of _ (by decide +kernel)) ggX4_pass_X2_isThere
set_option maxRecDepth 20000 in
theorem ggX4_pass_X4_takeAway : GoodIn wsX4_pass wsX4_takeAway := goodIn_r _ [21, 3, 22, 23, 24, 25, 26, 27, 28, 29, 30, 31, 32, 33, 34, 35, 36, 37, 38, 39, 8, 40, 41, 42, 43, 44, 45, 46, 47, 48, 49, 50, 51, 52, 53, 54, 55, 56, 57, 58, 59, 60, 61, 62, 63, 64, 65, 66, 67, 68, 69, 70, 71, 72, 73, 74, 75, 76, 77, 78, 79, 80, 81, 82, 83, 84, 85, 86, 87] (by decide +kernel) (by decide +kernel)
set_option maxRecDepth 20000 in
theorem gX4_pass_X4_takeAway : GoodIn wsX4_pass (wsV RX4 129 RX4 yX4_takeAway wsX4_takeAway) := goodIn_app (goodIn_of _ (by decide +kernel)) ggX4_pass_X4_takeAway
theorem dX4_pass_0 : decode cX4_pass 0 = .ok (.iload_n 1, 1) := by decide +kernel
theorem dX4_pass_1 : decode cX4_pass 1 = .ok (.iconst 0, 1) := by decide +kernel
theorem dX4_pass_2 : decode cX4_pass 2 = .ok (.ldc 77, 2) := by decide +kernel
theorem dX4_pass_4 : decode cX4_pass 4 = .ok (.invokestatic 48, 3) := by decide +kernel
theorem dX4_pass_7 : decode cX4_pass 7 = .ok (.aload_n 0, 1) := by decide +kernel
theorem dX4_pass_8 : decode cX4_pass 8 = .ok (.dup, 1) := by decide +kernel
theorem dX4_pass_9 : decode cX4_pass 9 = .ok (.getfield 39, 3) := by decide +kernel
theorem dX4_pass_12 : decode cX4_pass 12 = .ok (.iload_n 1, 1) := by decide +kernel
theorem dX4_pass_13 : decode cX4_pass 13 = .ok (.iadd, 1) := by decide +kernel
theorem dX4_pass_14 : decode cX4_pass 14 = .ok (.putfield 39, 3) := by decide +kernel
theorem dX4_pass_17 : decode cX4_pass 17 = .ok (.iconst 0, 1) := by decide +kernel
theorem dX4_pass_18 : decode cX4_pass 18 = .ok (.istore_n 2, 1) := by decide +kernel
theorem dX4_pass_19 : decode cX4_pass 19 = .ok (.iconst 0, 1) := by decide +kernel
theorem dX4_pass_20 : decode cX4_pass 20 = .ok (.istore_n 3, 1) := by decide +kernel
theorem dX4_pass_21 : decode cX4_pass 21 = .ok (.iload_n 3, 1) := by decide +kernel
theorem dX4_pass_22 : decode cX4_pass 22 = .ok (.aload_n 0, 1) := by decide +kernel
theorem dX4_pass_23 : decode cX4_pass 23 = .ok (.getfield 19, 3) := by decide +kernel
theorem dX4_pass_26 : decode cX4_pass 26 = .ok (.getfield 100, 3) := by decide +kernel
theorem dX4_pass_29 : decode cX4_pass 29 = .ok (.if_icmp .ge 56, 3) := by decide +kernel
theorem dX4_pass_32 : decode cX4_pass 32 = .ok (.aload_n 0, 1) := by decide +kernel
theorem dX4_pass_33 : decode cX4_pass 33 = .ok (.getfield 19, 3) := by decide +kernel
theorem dX4_pass_36 : decode cX4_pass 36 = .ok (.iload_n 3, 1) := by decide +kernel
theorem dX4_pass_37 : decode cX4_pass 37 = .ok (.invokevirtual 154, 3) := by decide +kernel
theorem dX4_pass_40 : decode cX4_pass 40 = .ok (.ifCond .eq 39, 3) := by decide +kernel
theorem dX4_pass_43 : decode cX4_pass 43 = .ok (.aload_n 0, 1) := by decide +kernel
theorem dX4_pass_44 : decode cX4_pass 44 = .ok (.getfield 19, 3) := by decide +kernel
theorem dX4_pass_47 : decode cX4_pass 47 = .ok (.getfield 151, 3) := by decide +kernel
theorem dX4_pass_50 : decode cX4_pass 50 = .ok (.iload_n 3, 1) := by decide +kernel
theorem dX4_pass_51 : decode cX4_pass 51 = .ok (.iaload, 1) := by decide +kernel
theorem dX4_pass_52 : decode cX4_pass 52 = .ok (.ifCond .eq 27, 3) := by decide +kernel
theorem dX4_pass_55 : decode cX4_pass 55 = .ok (.aload_n 0, 1) := by decide +kernel
theorem dX4_pass_56 : decode cX4_pass 56 = .ok (.getfield 19, 3) := by decide +kernel
theorem dX4_pass_59 : decode cX4_pass 59 = .ok (.getfield 151, 3) := by decide +kernel
theorem dX4_pass_62 : decode cX4_pass 62 = .ok (.iload_n 3, 1) := by decide +kernel
theorem dX4_pass_63 : decode cX4_pass 63 = .ok (.iaload, 1) := by decide +kernel
theorem dX4_pass_64 : decode cX4_pass 64 = .ok (.aload_n 0, 1) := by decide +kernel
theorem dX4_pass_65 : decode cX4_pass 65 = .ok (.getfield 39, 3) := by decide +kernel
theorem dX4_pass_68 : decode cX4_pass 68 = .ok (.if_icmp .gt 11, 3) := by decide +kernel
theorem dX4_pass_71 : decode cX4_pass 71 = .ok (.aload_n 0, 1) := by decide +kernel
theorem dX4_pass_72 : decode cX4_pass 72 = .ok (.iload_n 3, 1) := by decide +kernel
theorem dX4_pass_73 : decode cX4_pass 73 = .ok (.invokevirtual 129, 3) := by decide +kernel
theorem dX4_pass_76 : decode cX4_pass 76 = .ok (.iinc 2 1, 3) := by decide +kernel
theorem dX4_pass_79 : decode cX4_pass 79 = .ok (.iinc 3 1, 3) := by decide +kernel
theorem dX4_pass_82 : decode cX4_pass 82 = .ok (.goto (-61), 3) := by decide +kernel
theorem dX4_pass_85 : decode cX4_pass 85 = .ok (.iload_n 2, 1) := by decide +kernel
theorem dX4_pass_86 : decode cX4_pass 86 = .ok (.ireturn, 1) := by decide +kernel
set_option maxRecDepth 20000 in
theorem ggX4_best_X4_needSymbol : GoodIn wsX4_best wsX4_needSymbol := goodIn_ca (goodIn_r _ [9, 10, 11] (by decide +kernel) (by decide +kernel)) (goodIn_sub (fun _ h => List.mem_cons_of_mem _ (List.mem_append_left _ (List.mem_append_right _ h))) (by decide +kernel))
set_option maxRecDepth 20000 in
theorem gX4_best_X4_needSymbol : GoodIn wsX4_best (va_wsS RX4 74 yX4_needSymbol wsX4_needSymbol) := goodIn_app (goodIn_of _ (by decide +kernel)) ggX4_best_X4_needSymbol
set_option maxRecDepth 20000 in
theorem ggX4_best_X4_needSide : GoodIn wsX4_best wsX4_needSide := goodIn_ca (goodIn_r _ [14, 15, 16] (by decide +kernel) (by decide +kernel)) (goodIn_sub (fun _ h => List.mem_cons_of_mem _ (List.mem_append_right _ h)) (by decide +kernel))
set_option maxRecDepth 20000 in
theorem gX4_best_X4_needSide : GoodIn wsX4_best (va_wsS RX4 88 yX4_needSide wsX4_needSide) := goodIn_app (goodIn_of _ (by decide +kernel)) ggX4_best_X4_needSide
set_option maxRecDepth 20000 in
theorem ggX4_best_X0_bookOf : GoodIn wsX4_best wsX0_bookOf := goodIn_r _ [20] (by decide +kernel) (by decide +kernel)
set_option maxRecDepth 20000 in
theorem gX4_best_X0_bookOf : GoodIn wsX4_best (va_wsS RX4 158 yX0_bookOf wsX0_bookOf) := goodIn_app (goodIn_of _ (by decide +kernel)) ggX4_best_X0_bookOf
set_option maxRecDepth 20000 in
theorem ggX4_best_X0_orderAt : GoodIn wsX4_best wsX0_orderAt := goodIn_r _ [24, 25, 26, 45, 46, 47] (by decide +kernel) (by decide +kernel)
set_option maxRecDepth 20000 in
theorem gX4_best_X0_orderAt : GoodIn wsX4_best (wsV RX4 161 RX0 yX0_orderAt wsX0_orderAt) := goodIn_app (goodIn_of _ (by decide +kernel)) ggX4_best_X0_orderAt
theorem dX4_best_0 : decode cX4_best 0 = .ok (.iload_n 1, 1) := by decide +kernel
theorem dX4_best_1 : decode cX4_best 1 = .ok (.invokestatic 74, 3) := by decide +kernel
theorem dX4_best_4 : decode cX4_best 4 = .ok (.iload_n 2, 1) := by decide +kernel
theorem dX4_best_5 : decode cX4_best 5 = .ok (.invokestatic 88, 3) := by decide +kernel
theorem dX4_best_8 : decode cX4_best 8 = .ok (.aload_n 0, 1) := by decide +kernel
theorem dX4_best_9 : decode cX4_best 9 = .ok (.getfield 28, 3) := by decide +kernel
theorem dX4_best_12 : decode cX4_best 12 = .ok (.iload_n 1, 1) := by decide +kernel
theorem dX4_best_13 : decode cX4_best 13 = .ok (.iload_n 2, 1) := by decide +kernel
theorem dX4_best_14 : decode cX4_best 14 = .ok (.invokestatic 158, 3) := by decide +kernel
theorem dX4_best_17 : decode cX4_best 17 = .ok (.iconst 0, 1) := by decide +kernel
theorem dX4_best_18 : decode cX4_best 18 = .ok (.invokevirtual 161, 3) := by decide +kernel
theorem dX4_best_21 : decode cX4_best 21 = .ok (.istore_n 3, 1) := by decide +kernel
theorem dX4_best_22 : decode cX4_best 22 = .ok (.iload_n 3, 1) := by decide +kernel
theorem dX4_best_23 : decode cX4_best 23 = .ok (.iconst (-1), 1) := by decide +kernel
theorem dX4_best_24 : decode cX4_best 24 = .ok (.if_icmp .ne 13, 3) := by decide +kernel
theorem dX4_best_27 : decode cX4_best 27 = .ok (.new 164, 3) := by decide +kernel
theorem dX4_best_30 : decode cX4_best 30 = .ok (.dup, 1) := by decide +kernel
theorem dX4_best_31 : decode cX4_best 31 = .ok (.ldc 166, 2) := by decide +kernel
theorem dX4_best_33 : decode cX4_best 33 = .ok (.invokespecial 168, 3) := by decide +kernel
theorem dX4_best_36 : decode cX4_best 36 = .ok (.athrow, 1) := by decide +kernel
theorem dX4_best_37 : decode cX4_best 37 = .ok (.aload_n 0, 1) := by decide +kernel
theorem dX4_best_38 : decode cX4_best 38 = .ok (.getfield 19, 3) := by decide +kernel
theorem dX4_best_41 : decode cX4_best 41 = .ok (.getfield 169, 3) := by decide +kernel
theorem dX4_best_44 : decode cX4_best 44 = .ok (.iload_n 3, 1) := by decide +kernel
theorem dX4_best_45 : decode cX4_best 45 = .ok (.iaload, 1) := by decide +kernel
theorem dX4_best_46 : decode cX4_best 46 = .ok (.ireturn, 1) := by decide +kernel
set_option maxRecDepth 20000 in
theorem ggX4_depth_X4_needSymbol : GoodIn wsX4_depth wsX4_needSymbol := goodIn_ca (goodIn_r _ [5, 6, 7] (by decide +kernel) (by decide +kernel)) (goodIn_sub (fun _ h => List.mem_cons_of_mem _ (List.mem_append_left _ (List.mem_append_right _ h))) (by decide +kernel))
set_option maxRecDepth 20000 in
theorem gX4_depth_X4_needSymbol : GoodIn wsX4_depth (va_wsS RX4 74 yX4_needSymbol wsX4_needSymbol) := goodIn_app (goodIn_of _ (by decide +kernel)) ggX4_depth_X4_needSymbol
set_option maxRecDepth 20000 in
theorem ggX4_depth_X4_needSide : GoodIn wsX4_depth wsX4_needSide := goodIn_ca (goodIn_r _ [10, 11, 12] (by decide +kernel) (by decide +kernel)) (goodIn_sub (fun _ h => List.mem_cons_of_mem _ (List.mem_append_right _ h)) (by decide +kernel))
set_option maxRecDepth 20000 in
theorem gX4_depth_X4_needSide : GoodIn wsX4_depth (va_wsS RX4 88 yX4_needSide wsX4_needSide) := goodIn_app (goodIn_of _ (by decide +kernel)) ggX4_depth_X4_needSide
set_option maxRecDepth 20000 in
theorem ggX4_depth_X4_needWithin : GoodIn wsX4_depth wsX4_needWithin := goodIn_ca (goodIn_r _ [15, 11, 12] (by decide +kernel) (by decide +kernel)) (goodIn_sub (fun _ h => List.mem_cons_of_mem _ (List.mem_append_right _ h)) (by decide +kernel))
set_option maxRecDepth 20000 in
theorem gX4_depth_X4_needWithin : GoodIn wsX4_depth (va_wsS RX4 48 yX4_needWithin wsX4_needWithin) := goodIn_app (goodIn_of _ (by decide +kernel)) ggX4_depth_X4_needWithin
set_option maxRecDepth 20000 in
theorem ggX4_depth_X0_bookOf : GoodIn wsX4_depth wsX0_bookOf := goodIn_r _ [19] (by decide +kernel) (by decide +kernel)
set_option maxRecDepth 20000 in
theorem gX4_depth_X0_bookOf : GoodIn wsX4_depth (va_wsS RX4 158 yX0_bookOf wsX0_bookOf) := goodIn_app (goodIn_of _ (by decide +kernel)) ggX4_depth_X0_bookOf
set_option maxRecDepth 20000 in
theorem ggX4_depth_X0_countPrices : GoodIn wsX4_depth wsX0_countPrices := goodIn_r _ [23, 24, 25, 26, 27, 38, 39, 40, 41, 42, 43, 44, 45, 46, 47, 48, 49, 50, 51, 52, 53] (by decide +kernel) (by decide +kernel)
set_option maxRecDepth 20000 in
theorem gX4_depth_X0_countPrices : GoodIn wsX4_depth (wsV RX4 172 RX0 yX0_countPrices wsX0_countPrices) := goodIn_app (goodIn_of _ (by decide +kernel)) ggX4_depth_X0_countPrices
set_option maxRecDepth 20000 in
theorem ggX4_depth_X0_sumShown : GoodIn wsX4_depth wsX0_sumShown := goodIn_r _ [31, 24, 27, 25, 26, 32, 38, 39, 40, 41, 42, 43, 44, 45, 46, 47, 48, 49, 50, 51, 52, 53] (by decide +kernel) (by decide +kernel)
set_option maxRecDepth 20000 in
theorem gX4_depth_X0_sumShown : GoodIn wsX4_depth (wsV RX4 175 RX0 yX0_sumShown wsX0_sumShown) := goodIn_app (goodIn_of _ (by decide +kernel)) ggX4_depth_X0_sumShown
theorem dX4_depth_0 : decode cX4_depth 0 = .ok (.iload_n 1, 1) := by decide +kernel
theorem dX4_depth_1 : decode cX4_depth 1 = .ok (.invokestatic 74, 3) := by decide +kernel
theorem dX4_depth_4 : decode cX4_depth 4 = .ok (.iload_n 2, 1) := by decide +kernel
theorem dX4_depth_5 : decode cX4_depth 5 = .ok (.invokestatic 88, 3) := by decide +kernel
theorem dX4_depth_8 : decode cX4_depth 8 = .ok (.iload_n 3, 1) := by decide +kernel
theorem dX4_depth_9 : decode cX4_depth 9 = .ok (.iconst 0, 1) := by decide +kernel
theorem dX4_depth_10 : decode cX4_depth 10 = .ok (.sipush 10000, 3) := by decide +kernel
theorem dX4_depth_13 : decode cX4_depth 13 = .ok (.invokestatic 48, 3) := by decide +kernel
theorem dX4_depth_16 : decode cX4_depth 16 = .ok (.iload_n 1, 1) := by decide +kernel
theorem dX4_depth_17 : decode cX4_depth 17 = .ok (.iload_n 2, 1) := by decide +kernel
theorem dX4_depth_18 : decode cX4_depth 18 = .ok (.invokestatic 158, 3) := by decide +kernel
theorem dX4_depth_21 : decode cX4_depth 21 = .ok (.istore 4, 2) := by decide +kernel
theorem dX4_depth_23 : decode cX4_depth 23 = .ok (.iload_n 3, 1) := by decide +kernel
theorem dX4_depth_24 : decode cX4_depth 24 = .ok (.ifCond .ne 15, 3) := by decide +kernel
theorem dX4_depth_27 : decode cX4_depth 27 = .ok (.aload_n 0, 1) := by decide +kernel
theorem dX4_depth_28 : decode cX4_depth 28 = .ok (.getfield 28, 3) := by decide +kernel
theorem dX4_depth_31 : decode cX4_depth 31 = .ok (.iload 4, 2) := by decide +kernel
theorem dX4_depth_33 : decode cX4_depth 33 = .ok (.invokevirtual 172, 3) := by decide +kernel
theorem dX4_depth_36 : decode cX4_depth 36 = .ok (.goto 14, 3) := by decide +kernel
theorem dX4_depth_39 : decode cX4_depth 39 = .ok (.aload_n 0, 1) := by decide +kernel
theorem dX4_depth_40 : decode cX4_depth 40 = .ok (.getfield 28, 3) := by decide +kernel
theorem dX4_depth_43 : decode cX4_depth 43 = .ok (.iload 4, 2) := by decide +kernel
theorem dX4_depth_45 : decode cX4_depth 45 = .ok (.iload_n 3, 1) := by decide +kernel
theorem dX4_depth_46 : decode cX4_depth 46 = .ok (.iconst (-1), 1) := by decide +kernel
theorem dX4_depth_47 : decode cX4_depth 47 = .ok (.invokevirtual 175, 3) := by decide +kernel
theorem dX4_depth_50 : decode cX4_depth 50 = .ok (.ireturn, 1) := by decide +kernel
set_option maxRecDepth 20000 in
theorem ggX4_level_X4_needSymbol : GoodIn wsX4_level wsX4_needSymbol := goodIn_ca (goodIn_r _ [9, 1, 2] (by decide +kernel) (by decide +kernel)) (goodIn_sub (fun _ h => List.mem_cons_of_mem _ (List.mem_append_left _ (List.mem_append_right _ h))) (by decide +kernel))
set_option maxRecDepth 20000 in
theorem gX4_level_X4_needSymbol : GoodIn wsX4_level (va_wsS RX4 74 yX4_needSymbol wsX4_needSymbol) := goodIn_app (goodIn_of _ (by decide +kernel)) ggX4_level_X4_needSymbol
set_option maxRecDepth 20000 in
theorem ggX4_level_X4_needSide : GoodIn wsX4_level wsX4_needSide := goodIn_ca (goodIn_r _ [12, 3, 4] (by decide +kernel) (by decide +kernel)) (goodIn_sub (fun _ h => List.mem_cons_of_mem _ (List.mem_append_right _ h)) (by decide +kernel))
set_option maxRecDepth 20000 in
theorem gX4_level_X4_needSide : GoodIn wsX4_level (va_wsS RX4 88 yX4_needSide wsX4_needSide) := goodIn_app (goodIn_of _ (by decide +kernel)) ggX4_level_X4_needSide
set_option maxRecDepth 20000 in
theorem ggX4_level_X0_bookOf : GoodIn wsX4_level wsX0_bookOf := goodIn_r _ [16] (by decide +kernel) (by decide +kernel)
set_option maxRecDepth 20000 in
theorem gX4_level_X0_bookOf : GoodIn wsX4_level (va_wsS RX4 158 yX0_bookOf wsX0_bookOf) := goodIn_app (goodIn_of _ (by decide +kernel)) ggX4_level_X0_bookOf
set_option maxRecDepth 20000 in
theorem ggX4_level_X0_priceOfLevel : GoodIn wsX4_level wsX0_priceOfLevel := goodIn_r _ [20, 21, 22, 23, 24, 39, 40, 41, 42, 43, 44, 45, 46, 47, 48, 49, 50, 51, 52, 53, 54] (by decide +kernel) (by decide +kernel)
set_option maxRecDepth 20000 in
theorem gX4_level_X0_priceOfLevel : GoodIn wsX4_level (wsV RX4 184 RX0 yX0_priceOfLevel wsX0_priceOfLevel) := goodIn_app (goodIn_of _ (by decide +kernel)) ggX4_level_X0_priceOfLevel
set_option maxRecDepth 20000 in
theorem ggX4_level_X0_countOrders : GoodIn wsX4_level wsX0_countOrders := goodIn_r _ [28, 21, 22, 23, 24, 39, 40, 41, 42, 43, 44, 45, 46, 47, 48, 49, 50, 51, 52, 53, 54] (by decide +kernel) (by decide +kernel)
set_option maxRecDepth 20000 in
theorem gX4_level_X0_countOrders : GoodIn wsX4_level (wsV RX4 187 RX0 yX0_countOrders wsX0_countOrders) := goodIn_app (goodIn_of _ (by decide +kernel)) ggX4_level_X0_countOrders
set_option maxRecDepth 20000 in
theorem ggX4_level_X0_sumLeft : GoodIn wsX4_level wsX0_sumLeft := goodIn_r _ [32, 21, 24, 22, 23, 33, 39, 40, 41, 42, 43, 44, 45, 46, 47, 48, 49, 50, 51, 52, 53, 54] (by decide +kernel) (by decide +kernel)
set_option maxRecDepth 20000 in
theorem gX4_level_X0_sumLeft : GoodIn wsX4_level (wsV RX4 190 RX0 yX0_sumLeft wsX0_sumLeft) := goodIn_app (goodIn_of _ (by decide +kernel)) ggX4_level_X0_sumLeft
theorem dX4_level_0 : decode cX4_level 0 = .ok (.iload_n 1, 1) := by decide +kernel
theorem dX4_level_1 : decode cX4_level 1 = .ok (.invokestatic 74, 3) := by decide +kernel
theorem dX4_level_4 : decode cX4_level 4 = .ok (.iload_n 3, 1) := by decide +kernel
theorem dX4_level_5 : decode cX4_level 5 = .ok (.ifCond .ge 13, 3) := by decide +kernel
theorem dX4_level_8 : decode cX4_level 8 = .ok (.new 179, 3) := by decide +kernel
theorem dX4_level_11 : decode cX4_level 11 = .ok (.dup, 1) := by decide +kernel
theorem dX4_level_12 : decode cX4_level 12 = .ok (.ldc 181, 2) := by decide +kernel
theorem dX4_level_14 : decode cX4_level 14 = .ok (.invokespecial 183, 3) := by decide +kernel
theorem dX4_level_17 : decode cX4_level 17 = .ok (.athrow, 1) := by decide +kernel
theorem dX4_level_18 : decode cX4_level 18 = .ok (.iload_n 2, 1) := by decide +kernel
theorem dX4_level_19 : decode cX4_level 19 = .ok (.invokestatic 88, 3) := by decide +kernel
theorem dX4_level_22 : decode cX4_level 22 = .ok (.iload_n 1, 1) := by decide +kernel
theorem dX4_level_23 : decode cX4_level 23 = .ok (.iload_n 2, 1) := by decide +kernel
theorem dX4_level_24 : decode cX4_level 24 = .ok (.invokestatic 158, 3) := by decide +kernel
theorem dX4_level_27 : decode cX4_level 27 = .ok (.istore 5, 2) := by decide +kernel
theorem dX4_level_29 : decode cX4_level 29 = .ok (.aload_n 0, 1) := by decide +kernel
theorem dX4_level_30 : decode cX4_level 30 = .ok (.getfield 28, 3) := by decide +kernel
theorem dX4_level_33 : decode cX4_level 33 = .ok (.iload 5, 2) := by decide +kernel
theorem dX4_level_35 : decode cX4_level 35 = .ok (.iload_n 3, 1) := by decide +kernel
theorem dX4_level_36 : decode cX4_level 36 = .ok (.invokevirtual 184, 3) := by decide +kernel
theorem dX4_level_39 : decode cX4_level 39 = .ok (.istore 6, 2) := by decide +kernel
theorem dX4_level_41 : decode cX4_level 41 = .ok (.iload 6, 2) := by decide +kernel
theorem dX4_level_43 : decode cX4_level 43 = .ok (.iconst (-1), 1) := by decide +kernel
theorem dX4_level_44 : decode cX4_level 44 = .ok (.if_icmp .ne 13, 3) := by decide +kernel
theorem dX4_level_47 : decode cX4_level 47 = .ok (.new 179, 3) := by decide +kernel
theorem dX4_level_50 : decode cX4_level 50 = .ok (.dup, 1) := by decide +kernel
theorem dX4_level_51 : decode cX4_level 51 = .ok (.ldc 181, 2) := by decide +kernel
theorem dX4_level_53 : decode cX4_level 53 = .ok (.invokespecial 183, 3) := by decide +kernel
theorem dX4_level_56 : decode cX4_level 56 = .ok (.athrow, 1) := by decide +kernel
theorem dX4_level_57 : decode cX4_level 57 = .ok (.iload 4, 2) := by decide +kernel
theorem dX4_level_59 : decode cX4_level 59 = .ok (.tableswitch 52 0 2 #[25, 28, 40], 25) := by decide +kernel
theorem dX4_level_84 : decode cX4_level 84 = .ok (.iload 6, 2) := by decide +kernel
theorem dX4_level_86 : decode cX4_level 86 = .ok (.ireturn, 1) := by decide +kernel
theorem dX4_level_87 : decode cX4_level 87 = .ok (.aload_n 0, 1) := by decide +kernel
theorem dX4_level_88 : decode cX4_level 88 = .ok (.getfield 28, 3) := by decide +kernel
theorem dX4_level_91 : decode cX4_level 91 = .ok (.iload 5, 2) := by decide +kernel
theorem dX4_level_93 : decode cX4_level 93 = .ok (.iload 6, 2) := by decide +kernel
theorem dX4_level_95 : decode cX4_level 95 = .ok (.invokevirtual 187, 3) := by decide +kernel
theorem dX4_level_98 : decode cX4_level 98 = .ok (.ireturn, 1) := by decide +kernel
theorem dX4_level_99 : decode cX4_level 99 = .ok (.aload_n 0, 1) := by decide +kernel
theorem dX4_level_100 : decode cX4_level 100 = .ok (.getfield 28, 3) := by decide +kernel
theorem dX4_level_103 : decode cX4_level 103 = .ok (.iload 5, 2) := by decide +kernel
theorem dX4_level_105 : decode cX4_level 105 = .ok (.iload 6, 2) := by decide +kernel
theorem dX4_level_107 : decode cX4_level 107 = .ok (.invokevirtual 190, 3) := by decide +kernel
theorem dX4_level_110 : decode cX4_level 110 = .ok (.ireturn, 1) := by decide +kernel
theorem dX4_level_111 : decode cX4_level 111 = .ok (.new 132, 3) := by decide +kernel
theorem dX4_level_114 : decode cX4_level 114 = .ok (.dup, 1) := by decide +kernel
theorem dX4_level_115 : decode cX4_level 115 = .ok (.ldc 193, 2) := by decide +kernel
theorem dX4_level_117 : decode cX4_level 117 = .ok (.invokespecial 136, 3) := by decide +kernel
theorem dX4_level_120 : decode cX4_level 120 = .ok (.athrow, 1) := by decide +kernel
set_option maxRecDepth 20000 in
theorem ggX4_about_X4_needOrder : GoodIn wsX4_about wsX4_needOrder := goodIn_ca (goodIn_r _ [14, 15, 16, 3, 17, 18, 19, 20, 21, 22, 23, 24, 25, 26, 27, 28, 29, 30, 31, 32, 33, 34, 35] (by decide +kernel) (by decide +kernel)) (goodIn_sub (fun _ h => List.mem_cons_of_mem _ (List.mem_append_right _ h)) (by decide +kernel))
set_option maxRecDepth 20000 in
theorem gX4_about_X4_needOrder : GoodIn wsX4_about (wsV RX4 195 RX4 yX4_needOrder wsX4_needOrder) := goodIn_app (goodIn_of _ (by decide +kernel)) ggX4_about_X4_needOrder
theorem dX4_about_0 : decode cX4_about 0 = .ok (.aload_n 0, 1) := by decide +kernel
theorem dX4_about_1 : decode cX4_about 1 = .ok (.iload_n 1, 1) := by decide +kernel
theorem dX4_about_2 : decode cX4_about 2 = .ok (.invokevirtual 195, 3) := by decide +kernel
theorem dX4_about_5 : decode cX4_about 5 = .ok (.iload_n 2, 1) := by decide +kernel
theorem dX4_about_6 : decode cX4_about 6 = .ok (.tableswitch 98 0 5 #[38, 48, 58, 68, 78, 88], 38) := by decide +kernel
theorem dX4_about_44 : decode cX4_about 44 = .ok (.aload_n 0, 1) := by decide +kernel
theorem dX4_about_45 : decode cX4_about 45 = .ok (.getfield 19, 3) := by decide +kernel
theorem dX4_about_48 : decode cX4_about 48 = .ok (.getfield 198, 3) := by decide +kernel
theorem dX4_about_51 : decode cX4_about 51 = .ok (.iload_n 1, 1) := by decide +kernel
theorem dX4_about_52 : decode cX4_about 52 = .ok (.iaload, 1) := by decide +kernel
theorem dX4_about_53 : decode cX4_about 53 = .ok (.ireturn, 1) := by decide +kernel
theorem dX4_about_54 : decode cX4_about 54 = .ok (.aload_n 0, 1) := by decide +kernel
theorem dX4_about_55 : decode cX4_about 55 = .ok (.getfield 19, 3) := by decide +kernel
theorem dX4_about_58 : decode cX4_about 58 = .ok (.getfield 126, 3) := by decide +kernel
theorem dX4_about_61 : decode cX4_about 61 = .ok (.iload_n 1, 1) := by decide +kernel
theorem dX4_about_62 : decode cX4_about 62 = .ok (.iaload, 1) := by decide +kernel
theorem dX4_about_63 : decode cX4_about 63 = .ok (.ireturn, 1) := by decide +kernel
theorem dX4_about_64 : decode cX4_about 64 = .ok (.aload_n 0, 1) := by decide +kernel
theorem dX4_about_65 : decode cX4_about 65 = .ok (.getfield 19, 3) := by decide +kernel
theorem dX4_about_68 : decode cX4_about 68 = .ok (.getfield 139, 3) := by decide +kernel
theorem dX4_about_71 : decode cX4_about 71 = .ok (.iload_n 1, 1) := by decide +kernel
theorem dX4_about_72 : decode cX4_about 72 = .ok (.iaload, 1) := by decide +kernel
theorem dX4_about_73 : decode cX4_about 73 = .ok (.ireturn, 1) := by decide +kernel
theorem dX4_about_74 : decode cX4_about 74 = .ok (.aload_n 0, 1) := by decide +kernel
theorem dX4_about_75 : decode cX4_about 75 = .ok (.getfield 19, 3) := by decide +kernel
theorem dX4_about_78 : decode cX4_about 78 = .ok (.getfield 201, 3) := by decide +kernel
theorem dX4_about_81 : decode cX4_about 81 = .ok (.iload_n 1, 1) := by decide +kernel
theorem dX4_about_82 : decode cX4_about 82 = .ok (.iaload, 1) := by decide +kernel
theorem dX4_about_83 : decode cX4_about 83 = .ok (.ireturn, 1) := by decide +kernel
theorem dX4_about_84 : decode cX4_about 84 = .ok (.aload_n 0, 1) := by decide +kernel
theorem dX4_about_85 : decode cX4_about 85 = .ok (.getfield 19, 3) := by decide +kernel
theorem dX4_about_88 : decode cX4_about 88 = .ok (.getfield 151, 3) := by decide +kernel
theorem dX4_about_91 : decode cX4_about 91 = .ok (.iload_n 1, 1) := by decide +kernel
theorem dX4_about_92 : decode cX4_about 92 = .ok (.iaload, 1) := by decide +kernel
theorem dX4_about_93 : decode cX4_about 93 = .ok (.ireturn, 1) := by decide +kernel
theorem dX4_about_94 : decode cX4_about 94 = .ok (.aload_n 0, 1) := by decide +kernel
theorem dX4_about_95 : decode cX4_about 95 = .ok (.getfield 19, 3) := by decide +kernel
theorem dX4_about_98 : decode cX4_about 98 = .ok (.getfield 204, 3) := by decide +kernel
theorem dX4_about_101 : decode cX4_about 101 = .ok (.iload_n 1, 1) := by decide +kernel
theorem dX4_about_102 : decode cX4_about 102 = .ok (.iaload, 1) := by decide +kernel
theorem dX4_about_103 : decode cX4_about 103 = .ok (.ireturn, 1) := by decide +kernel
theorem dX4_about_104 : decode cX4_about 104 = .ok (.new 132, 3) := by decide +kernel
theorem dX4_about_107 : decode cX4_about 107 = .ok (.dup, 1) := by decide +kernel
theorem dX4_about_108 : decode cX4_about 108 = .ok (.ldc 207, 2) := by decide +kernel
theorem dX4_about_110 : decode cX4_about 110 = .ok (.invokespecial 136, 3) := by decide +kernel
theorem dX4_about_113 : decode cX4_about 113 = .ok (.athrow, 1) := by decide +kernel
set_option maxRecDepth 20000 in
theorem ggX4_ahead_X4_needOrder : GoodIn wsX4_ahead wsX4_needOrder := goodIn_ca (goodIn_r _ [13, 14, 15, 3, 16, 30, 31, 32, 33, 34, 35, 36, 37, 38, 39, 40, 41, 42, 43, 44, 45, 46, 47] (by decide +kernel) (by decide +kernel)) (goodIn_sub (fun _ h => List.mem_cons_of_mem _ (List.mem_append_right _ h)) (by decide +kernel))
set_option maxRecDepth 20000 in
theorem gX4_ahead_X4_needOrder : GoodIn wsX4_ahead (wsV RX4 195 RX4 yX4_needOrder wsX4_needOrder) := goodIn_app (goodIn_of _ (by decide +kernel)) ggX4_ahead_X4_needOrder
set_option maxRecDepth 20000 in
theorem ggX4_ahead_X0_bookOf : GoodIn wsX4_ahead wsX0_bookOf := goodIn_r _ [20] (by decide +kernel) (by decide +kernel)
set_option maxRecDepth 20000 in
theorem gX4_ahead_X0_bookOf : GoodIn wsX4_ahead (va_wsS RX4 158 yX0_bookOf wsX0_bookOf) := goodIn_app (goodIn_of _ (by decide +kernel)) ggX4_ahead_X0_bookOf
set_option maxRecDepth 20000 in
theorem ggX4_ahead_X0_sumShown : GoodIn wsX4_ahead wsX0_sumShown := goodIn_r _ [24, 25, 26, 27, 28, 29, 48, 49, 50, 35, 36, 37, 38, 39, 40, 41, 42, 43, 44, 45, 46, 47] (by decide +kernel) (by decide +kernel)
set_option maxRecDepth 20000 in
theorem gX4_ahead_X0_sumShown : GoodIn wsX4_ahead (wsV RX4 175 RX0 yX0_sumShown wsX0_sumShown) := goodIn_app (goodIn_of _ (by decide +kernel)) ggX4_ahead_X0_sumShown
theorem dX4_ahead_0 : decode cX4_ahead 0 = .ok (.aload_n 0, 1) := by decide +kernel
theorem dX4_ahead_1 : decode cX4_ahead 1 = .ok (.iload_n 1, 1) := by decide +kernel
theorem dX4_ahead_2 : decode cX4_ahead 2 = .ok (.invokevirtual 195, 3) := by decide +kernel
theorem dX4_ahead_5 : decode cX4_ahead 5 = .ok (.aload_n 0, 1) := by decide +kernel
theorem dX4_ahead_6 : decode cX4_ahead 6 = .ok (.getfield 19, 3) := by decide +kernel
theorem dX4_ahead_9 : decode cX4_ahead 9 = .ok (.getfield 201, 3) := by decide +kernel
theorem dX4_ahead_12 : decode cX4_ahead 12 = .ok (.iload_n 1, 1) := by decide +kernel
theorem dX4_ahead_13 : decode cX4_ahead 13 = .ok (.iaload, 1) := by decide +kernel
theorem dX4_ahead_14 : decode cX4_ahead 14 = .ok (.ifCond .eq 13, 3) := by decide +kernel
theorem dX4_ahead_17 : decode cX4_ahead 17 = .ok (.new 164, 3) := by decide +kernel
theorem dX4_ahead_20 : decode cX4_ahead 20 = .ok (.dup, 1) := by decide +kernel
theorem dX4_ahead_21 : decode cX4_ahead 21 = .ok (.ldc 209, 2) := by decide +kernel
theorem dX4_ahead_23 : decode cX4_ahead 23 = .ok (.invokespecial 168, 3) := by decide +kernel
theorem dX4_ahead_26 : decode cX4_ahead 26 = .ok (.athrow, 1) := by decide +kernel
theorem dX4_ahead_27 : decode cX4_ahead 27 = .ok (.aload_n 0, 1) := by decide +kernel
theorem dX4_ahead_28 : decode cX4_ahead 28 = .ok (.getfield 19, 3) := by decide +kernel
theorem dX4_ahead_31 : decode cX4_ahead 31 = .ok (.getfield 211, 3) := by decide +kernel
theorem dX4_ahead_34 : decode cX4_ahead 34 = .ok (.iload_n 1, 1) := by decide +kernel
theorem dX4_ahead_35 : decode cX4_ahead 35 = .ok (.iaload, 1) := by decide +kernel
theorem dX4_ahead_36 : decode cX4_ahead 36 = .ok (.aload_n 0, 1) := by decide +kernel
theorem dX4_ahead_37 : decode cX4_ahead 37 = .ok (.getfield 19, 3) := by decide +kernel
theorem dX4_ahead_40 : decode cX4_ahead 40 = .ok (.getfield 214, 3) := by decide +kernel
theorem dX4_ahead_43 : decode cX4_ahead 43 = .ok (.iload_n 1, 1) := by decide +kernel
theorem dX4_ahead_44 : decode cX4_ahead 44 = .ok (.iaload, 1) := by decide +kernel
theorem dX4_ahead_45 : decode cX4_ahead 45 = .ok (.invokestatic 158, 3) := by decide +kernel
theorem dX4_ahead_48 : decode cX4_ahead 48 = .ok (.istore_n 2, 1) := by decide +kernel
theorem dX4_ahead_49 : decode cX4_ahead 49 = .ok (.aload_n 0, 1) := by decide +kernel
theorem dX4_ahead_50 : decode cX4_ahead 50 = .ok (.getfield 28, 3) := by decide +kernel
theorem dX4_ahead_53 : decode cX4_ahead 53 = .ok (.iload_n 2, 1) := by decide +kernel
theorem dX4_ahead_54 : decode cX4_ahead 54 = .ok (.aload_n 0, 1) := by decide +kernel
theorem dX4_ahead_55 : decode cX4_ahead 55 = .ok (.getfield 19, 3) := by decide +kernel
theorem dX4_ahead_58 : decode cX4_ahead 58 = .ok (.getfield 169, 3) := by decide +kernel
theorem dX4_ahead_61 : decode cX4_ahead 61 = .ok (.iload_n 1, 1) := by decide +kernel
theorem dX4_ahead_62 : decode cX4_ahead 62 = .ok (.iaload, 1) := by decide +kernel
theorem dX4_ahead_63 : decode cX4_ahead 63 = .ok (.iload_n 1, 1) := by decide +kernel
theorem dX4_ahead_64 : decode cX4_ahead 64 = .ok (.invokevirtual 175, 3) := by decide +kernel
theorem dX4_ahead_67 : decode cX4_ahead 67 = .ok (.ireturn, 1) := by decide +kernel
set_option maxRecDepth 20000 in
theorem ggX4_cash_X4_needAccount : GoodIn wsX4_cash wsX4_needAccount := goodIn_ca (goodIn_r _ [9, 10, 11] (by decide +kernel) (by decide +kernel)) (goodIn_sub (fun _ h => List.mem_cons_of_mem _ (List.mem_append_right _ h)) (by decide +kernel))
set_option maxRecDepth 20000 in
theorem gX4_cash_X4_needAccount : GoodIn wsX4_cash (va_wsS RX4 43 yX4_needAccount wsX4_needAccount) := goodIn_app (goodIn_of _ (by decide +kernel)) ggX4_cash_X4_needAccount
theorem dX4_cash_0 : decode cX4_cash 0 = .ok (.iload_n 1, 1) := by decide +kernel
theorem dX4_cash_1 : decode cX4_cash 1 = .ok (.invokestatic 43, 3) := by decide +kernel
theorem dX4_cash_4 : decode cX4_cash 4 = .ok (.iload_n 2, 1) := by decide +kernel
theorem dX4_cash_5 : decode cX4_cash 5 = .ok (.lookupswitch 47 #[(0, 27), (1, 37)], 27) := by decide +kernel
theorem dX4_cash_32 : decode cX4_cash 32 = .ok (.aload_n 0, 1) := by decide +kernel
theorem dX4_cash_33 : decode cX4_cash 33 = .ok (.getfield 10, 3) := by decide +kernel
theorem dX4_cash_36 : decode cX4_cash 36 = .ok (.getfield 52, 3) := by decide +kernel
theorem dX4_cash_39 : decode cX4_cash 39 = .ok (.iload_n 1, 1) := by decide +kernel
theorem dX4_cash_40 : decode cX4_cash 40 = .ok (.laload, 1) := by decide +kernel
theorem dX4_cash_41 : decode cX4_cash 41 = .ok (.lreturn, 1) := by decide +kernel
theorem dX4_cash_42 : decode cX4_cash 42 = .ok (.aload_n 0, 1) := by decide +kernel
theorem dX4_cash_43 : decode cX4_cash 43 = .ok (.getfield 10, 3) := by decide +kernel
theorem dX4_cash_46 : decode cX4_cash 46 = .ok (.getfield 217, 3) := by decide +kernel
theorem dX4_cash_49 : decode cX4_cash 49 = .ok (.iload_n 1, 1) := by decide +kernel
theorem dX4_cash_50 : decode cX4_cash 50 = .ok (.laload, 1) := by decide +kernel
theorem dX4_cash_51 : decode cX4_cash 51 = .ok (.lreturn, 1) := by decide +kernel
theorem dX4_cash_52 : decode cX4_cash 52 = .ok (.new 132, 3) := by decide +kernel
theorem dX4_cash_55 : decode cX4_cash 55 = .ok (.dup, 1) := by decide +kernel
theorem dX4_cash_56 : decode cX4_cash 56 = .ok (.ldc 220, 2) := by decide +kernel
theorem dX4_cash_58 : decode cX4_cash 58 = .ok (.invokespecial 136, 3) := by decide +kernel
theorem dX4_cash_61 : decode cX4_cash 61 = .ok (.athrow, 1) := by decide +kernel
set_option maxRecDepth 20000 in
theorem ggX4_shares_X4_needAccount : GoodIn wsX4_shares wsX4_needAccount := goodIn_ca (goodIn_r _ [11, 12, 13] (by decide +kernel) (by decide +kernel)) (goodIn_sub (fun _ h => List.mem_cons_of_mem _ (List.mem_append_right _ h)) (by decide +kernel))
set_option maxRecDepth 20000 in
theorem gX4_shares_X4_needAccount : GoodIn wsX4_shares (va_wsS RX4 43 yX4_needAccount wsX4_needAccount) := goodIn_app (goodIn_of _ (by decide +kernel)) ggX4_shares_X4_needAccount
set_option maxRecDepth 20000 in
theorem ggX4_shares_X4_needSymbol : GoodIn wsX4_shares wsX4_needSymbol := goodIn_ca (goodIn_r _ [16, 12, 13] (by decide +kernel) (by decide +kernel)) (goodIn_sub (fun _ h => List.mem_cons_of_mem _ (List.mem_append_right _ h)) (by decide +kernel))
set_option maxRecDepth 20000 in
theorem gX4_shares_X4_needSymbol : GoodIn wsX4_shares (va_wsS RX4 74 yX4_needSymbol wsX4_needSymbol) := goodIn_app (goodIn_of _ (by decide +kernel)) ggX4_shares_X4_needSymbol
set_option maxRecDepth 20000 in
theorem ggX4_shares_X1_placeOf : GoodIn wsX4_shares wsX1_placeOf := goodIn_r _ [20] (by decide +kernel) (by decide +kernel)
set_option maxRecDepth 20000 in
theorem gX4_shares_X1_placeOf : GoodIn wsX4_shares (va_wsS RX4 78 yX1_placeOf wsX1_placeOf) := goodIn_app (goodIn_of _ (by decide +kernel)) ggX4_shares_X1_placeOf
theorem dX4_shares_0 : decode cX4_shares 0 = .ok (.iload_n 1, 1) := by decide +kernel
theorem dX4_shares_1 : decode cX4_shares 1 = .ok (.invokestatic 43, 3) := by decide +kernel
theorem dX4_shares_4 : decode cX4_shares 4 = .ok (.iload_n 2, 1) := by decide +kernel
theorem dX4_shares_5 : decode cX4_shares 5 = .ok (.invokestatic 74, 3) := by decide +kernel
theorem dX4_shares_8 : decode cX4_shares 8 = .ok (.iload_n 1, 1) := by decide +kernel
theorem dX4_shares_9 : decode cX4_shares 9 = .ok (.iload_n 2, 1) := by decide +kernel
theorem dX4_shares_10 : decode cX4_shares 10 = .ok (.invokestatic 78, 3) := by decide +kernel
theorem dX4_shares_13 : decode cX4_shares 13 = .ok (.istore 4, 2) := by decide +kernel
theorem dX4_shares_15 : decode cX4_shares 15 = .ok (.iload_n 3, 1) := by decide +kernel
theorem dX4_shares_16 : decode cX4_shares 16 = .ok (.tableswitch 76 0 3 #[32, 43, 54, 65], 32) := by decide +kernel
theorem dX4_shares_48 : decode cX4_shares 48 = .ok (.aload_n 0, 1) := by decide +kernel
theorem dX4_shares_49 : decode cX4_shares 49 = .ok (.getfield 10, 3) := by decide +kernel
theorem dX4_shares_52 : decode cX4_shares 52 = .ok (.getfield 82, 3) := by decide +kernel
theorem dX4_shares_55 : decode cX4_shares 55 = .ok (.iload 4, 2) := by decide +kernel
theorem dX4_shares_57 : decode cX4_shares 57 = .ok (.iaload, 1) := by decide +kernel
theorem dX4_shares_58 : decode cX4_shares 58 = .ok (.ireturn, 1) := by decide +kernel
theorem dX4_shares_59 : decode cX4_shares 59 = .ok (.aload_n 0, 1) := by decide +kernel
theorem dX4_shares_60 : decode cX4_shares 60 = .ok (.getfield 10, 3) := by decide +kernel
theorem dX4_shares_63 : decode cX4_shares 63 = .ok (.getfield 222, 3) := by decide +kernel
theorem dX4_shares_66 : decode cX4_shares 66 = .ok (.iload 4, 2) := by decide +kernel
theorem dX4_shares_68 : decode cX4_shares 68 = .ok (.iaload, 1) := by decide +kernel
theorem dX4_shares_69 : decode cX4_shares 69 = .ok (.ireturn, 1) := by decide +kernel
theorem dX4_shares_70 : decode cX4_shares 70 = .ok (.aload_n 0, 1) := by decide +kernel
theorem dX4_shares_71 : decode cX4_shares 71 = .ok (.getfield 10, 3) := by decide +kernel
theorem dX4_shares_74 : decode cX4_shares 74 = .ok (.getfield 225, 3) := by decide +kernel
theorem dX4_shares_77 : decode cX4_shares 77 = .ok (.iload 4, 2) := by decide +kernel
theorem dX4_shares_79 : decode cX4_shares 79 = .ok (.iaload, 1) := by decide +kernel
theorem dX4_shares_80 : decode cX4_shares 80 = .ok (.ireturn, 1) := by decide +kernel
theorem dX4_shares_81 : decode cX4_shares 81 = .ok (.aload_n 0, 1) := by decide +kernel
theorem dX4_shares_82 : decode cX4_shares 82 = .ok (.getfield 10, 3) := by decide +kernel
theorem dX4_shares_85 : decode cX4_shares 85 = .ok (.getfield 228, 3) := by decide +kernel
theorem dX4_shares_88 : decode cX4_shares 88 = .ok (.iload 4, 2) := by decide +kernel
theorem dX4_shares_90 : decode cX4_shares 90 = .ok (.iaload, 1) := by decide +kernel
theorem dX4_shares_91 : decode cX4_shares 91 = .ok (.ireturn, 1) := by decide +kernel
theorem dX4_shares_92 : decode cX4_shares 92 = .ok (.new 132, 3) := by decide +kernel
theorem dX4_shares_95 : decode cX4_shares 95 = .ok (.dup, 1) := by decide +kernel
theorem dX4_shares_96 : decode cX4_shares 96 = .ok (.ldc 231, 2) := by decide +kernel
theorem dX4_shares_98 : decode cX4_shares 98 = .ok (.invokespecial 136, 3) := by decide +kernel
theorem dX4_shares_101 : decode cX4_shares 101 = .ok (.athrow, 1) := by decide +kernel
theorem dX4_count_0 : decode cX4_count 0 = .ok (.iload_n 1, 1) := by decide +kernel
theorem dX4_count_1 : decode cX4_count 1 = .ok (.tableswitch 72 0 4 #[35, 43, 51, 59, 67], 35) := by decide +kernel
theorem dX4_count_36 : decode cX4_count 36 = .ok (.aload_n 0, 1) := by decide +kernel
theorem dX4_count_37 : decode cX4_count 37 = .ok (.getfield 35, 3) := by decide +kernel
theorem dX4_count_40 : decode cX4_count 40 = .ok (.getfield 233, 3) := by decide +kernel
theorem dX4_count_43 : decode cX4_count 43 = .ok (.ireturn, 1) := by decide +kernel
theorem dX4_count_44 : decode cX4_count 44 = .ok (.aload_n 0, 1) := by decide +kernel
theorem dX4_count_45 : decode cX4_count 45 = .ok (.getfield 19, 3) := by decide +kernel
theorem dX4_count_48 : decode cX4_count 48 = .ok (.getfield 100, 3) := by decide +kernel
theorem dX4_count_51 : decode cX4_count 51 = .ok (.ireturn, 1) := by decide +kernel
theorem dX4_count_52 : decode cX4_count 52 = .ok (.aload_n 0, 1) := by decide +kernel
theorem dX4_count_53 : decode cX4_count 53 = .ok (.getfield 19, 3) := by decide +kernel
theorem dX4_count_56 : decode cX4_count 56 = .ok (.getfield 97, 3) := by decide +kernel
theorem dX4_count_59 : decode cX4_count 59 = .ok (.ireturn, 1) := by decide +kernel
theorem dX4_count_60 : decode cX4_count 60 = .ok (.aload_n 0, 1) := by decide +kernel
theorem dX4_count_61 : decode cX4_count 61 = .ok (.getfield 10, 3) := by decide +kernel
theorem dX4_count_64 : decode cX4_count 64 = .ok (.getfield 236, 3) := by decide +kernel
theorem dX4_count_67 : decode cX4_count 67 = .ok (.ireturn, 1) := by decide +kernel
theorem dX4_count_68 : decode cX4_count 68 = .ok (.aload_n 0, 1) := by decide +kernel
theorem dX4_count_69 : decode cX4_count 69 = .ok (.getfield 39, 3) := by decide +kernel
theorem dX4_count_72 : decode cX4_count 72 = .ok (.ireturn, 1) := by decide +kernel
theorem dX4_count_73 : decode cX4_count 73 = .ok (.new 132, 3) := by decide +kernel
theorem dX4_count_76 : decode cX4_count 76 = .ok (.dup, 1) := by decide +kernel
theorem dX4_count_77 : decode cX4_count 77 = .ok (.ldc 239, 2) := by decide +kernel
theorem dX4_count_79 : decode cX4_count 79 = .ok (.invokespecial 136, 3) := by decide +kernel
theorem dX4_count_82 : decode cX4_count 82 = .ok (.athrow, 1) := by decide +kernel
theorem dX4_trade_0 : decode cX4_trade 0 = .ok (.iload_n 1, 1) := by decide +kernel
theorem dX4_trade_1 : decode cX4_trade 1 = .ok (.ifCond .lt 21, 3) := by decide +kernel
theorem dX4_trade_4 : decode cX4_trade 4 = .ok (.iload_n 1, 1) := by decide +kernel
theorem dX4_trade_5 : decode cX4_trade 5 = .ok (.aload_n 0, 1) := by decide +kernel
theorem dX4_trade_6 : decode cX4_trade 6 = .ok (.getfield 35, 3) := by decide +kernel
theorem dX4_trade_9 : decode cX4_trade 9 = .ok (.getfield 233, 3) := by decide +kernel
theorem dX4_trade_12 : decode cX4_trade 12 = .ok (.if_icmp .ge 10, 3) := by decide +kernel
theorem dX4_trade_15 : decode cX4_trade 15 = .ok (.iload_n 1, 1) := by decide +kernel
theorem dX4_trade_16 : decode cX4_trade 16 = .ok (.sipush 300, 3) := by decide +kernel
theorem dX4_trade_19 : decode cX4_trade 19 = .ok (.if_icmp .lt 13, 3) := by decide +kernel
theorem dX4_trade_22 : decode cX4_trade 22 = .ok (.new 179, 3) := by decide +kernel
theorem dX4_trade_25 : decode cX4_trade 25 = .ok (.dup, 1) := by decide +kernel
theorem dX4_trade_26 : decode cX4_trade 26 = .ok (.ldc 241, 2) := by decide +kernel
theorem dX4_trade_28 : decode cX4_trade 28 = .ok (.invokespecial 183, 3) := by decide +kernel
theorem dX4_trade_31 : decode cX4_trade 31 = .ok (.athrow, 1) := by decide +kernel
theorem dX4_trade_32 : decode cX4_trade 32 = .ok (.iload_n 2, 1) := by decide +kernel
theorem dX4_trade_33 : decode cX4_trade 33 = .ok (.tableswitch 71 0 3 #[31, 41, 51, 61], 31) := by decide +kernel
theorem dX4_trade_64 : decode cX4_trade 64 = .ok (.aload_n 0, 1) := by decide +kernel
theorem dX4_trade_65 : decode cX4_trade 65 = .ok (.getfield 35, 3) := by decide +kernel
theorem dX4_trade_68 : decode cX4_trade 68 = .ok (.getfield 243, 3) := by decide +kernel
theorem dX4_trade_71 : decode cX4_trade 71 = .ok (.iload_n 1, 1) := by decide +kernel
theorem dX4_trade_72 : decode cX4_trade 72 = .ok (.iaload, 1) := by decide +kernel
theorem dX4_trade_73 : decode cX4_trade 73 = .ok (.ireturn, 1) := by decide +kernel
theorem dX4_trade_74 : decode cX4_trade 74 = .ok (.aload_n 0, 1) := by decide +kernel
theorem dX4_trade_75 : decode cX4_trade 75 = .ok (.getfield 35, 3) := by decide +kernel
theorem dX4_trade_78 : decode cX4_trade 78 = .ok (.getfield 246, 3) := by decide +kernel
theorem dX4_trade_81 : decode cX4_trade 81 = .ok (.iload_n 1, 1) := by decide +kernel
theorem dX4_trade_82 : decode cX4_trade 82 = .ok (.iaload, 1) := by decide +kernel
theorem dX4_trade_83 : decode cX4_trade 83 = .ok (.ireturn, 1) := by decide +kernel
theorem dX4_trade_84 : decode cX4_trade 84 = .ok (.aload_n 0, 1) := by decide +kernel
theorem dX4_trade_85 : decode cX4_trade 85 = .ok (.getfield 35, 3) := by decide +kernel
theorem dX4_trade_88 : decode cX4_trade 88 = .ok (.getfield 249, 3) := by decide +kernel
theorem dX4_trade_91 : decode cX4_trade 91 = .ok (.iload_n 1, 1) := by decide +kernel
theorem dX4_trade_92 : decode cX4_trade 92 = .ok (.iaload, 1) := by decide +kernel
theorem dX4_trade_93 : decode cX4_trade 93 = .ok (.ireturn, 1) := by decide +kernel
theorem dX4_trade_94 : decode cX4_trade 94 = .ok (.aload_n 0, 1) := by decide +kernel
theorem dX4_trade_95 : decode cX4_trade 95 = .ok (.getfield 35, 3) := by decide +kernel
theorem dX4_trade_98 : decode cX4_trade 98 = .ok (.getfield 250, 3) := by decide +kernel
theorem dX4_trade_101 : decode cX4_trade 101 = .ok (.iload_n 1, 1) := by decide +kernel
theorem dX4_trade_102 : decode cX4_trade 102 = .ok (.iaload, 1) := by decide +kernel
theorem dX4_trade_103 : decode cX4_trade 103 = .ok (.ireturn, 1) := by decide +kernel
theorem dX4_trade_104 : decode cX4_trade 104 = .ok (.new 132, 3) := by decide +kernel
theorem dX4_trade_107 : decode cX4_trade 107 = .ok (.dup, 1) := by decide +kernel
theorem dX4_trade_108 : decode cX4_trade 108 = .ok (.ldc 253, 2) := by decide +kernel
theorem dX4_trade_110 : decode cX4_trade 110 = .ok (.invokespecial 136, 3) := by decide +kernel
theorem dX4_trade_113 : decode cX4_trade 113 = .ok (.athrow, 1) := by decide +kernel
set_option maxRecDepth 20000 in
theorem ggX4_symbol_X4_needSymbol : GoodIn wsX4_symbol wsX4_needSymbol := goodIn_ca (goodIn_r _ [11, 12, 13] (by decide +kernel) (by decide +kernel)) (goodIn_sub (fun _ h => List.mem_cons_of_mem _ (List.mem_append_right _ h)) (by decide +kernel))
set_option maxRecDepth 20000 in
theorem gX4_symbol_X4_needSymbol : GoodIn wsX4_symbol (va_wsS RX4 74 yX4_needSymbol wsX4_needSymbol) := goodIn_app (goodIn_of _ (by decide +kernel)) ggX4_symbol_X4_needSymbol
theorem dX4_symbol_0 : decode cX4_symbol 0 = .ok (.iload_n 1, 1) := by decide +kernel
theorem dX4_symbol_1 : decode cX4_symbol 1 = .ok (.invokestatic 74, 3) := by decide +kernel
theorem dX4_symbol_4 : decode cX4_symbol 4 = .ok (.iload_n 2, 1) := by decide +kernel
theorem dX4_symbol_5 : decode cX4_symbol 5 = .ok (.tableswitch 71 0 3 #[31, 41, 51, 61], 31) := by decide +kernel
theorem dX4_symbol_36 : decode cX4_symbol 36 = .ok (.aload_n 0, 1) := by decide +kernel
theorem dX4_symbol_37 : decode cX4_symbol 37 = .ok (.getfield 35, 3) := by decide +kernel
theorem dX4_symbol_40 : decode cX4_symbol 40 = .ok (.getfield 255, 3) := by decide +kernel
theorem dX4_symbol_43 : decode cX4_symbol 43 = .ok (.iload_n 1, 1) := by decide +kernel
theorem dX4_symbol_44 : decode cX4_symbol 44 = .ok (.iaload, 1) := by decide +kernel
theorem dX4_symbol_45 : decode cX4_symbol 45 = .ok (.ireturn, 1) := by decide +kernel
theorem dX4_symbol_46 : decode cX4_symbol 46 = .ok (.aload_n 0, 1) := by decide +kernel
theorem dX4_symbol_47 : decode cX4_symbol 47 = .ok (.getfield 35, 3) := by decide +kernel
theorem dX4_symbol_50 : decode cX4_symbol 50 = .ok (.getfield 258, 3) := by decide +kernel
theorem dX4_symbol_53 : decode cX4_symbol 53 = .ok (.iload_n 1, 1) := by decide +kernel
theorem dX4_symbol_54 : decode cX4_symbol 54 = .ok (.iaload, 1) := by decide +kernel
theorem dX4_symbol_55 : decode cX4_symbol 55 = .ok (.ireturn, 1) := by decide +kernel
theorem dX4_symbol_56 : decode cX4_symbol 56 = .ok (.aload_n 0, 1) := by decide +kernel
theorem dX4_symbol_57 : decode cX4_symbol 57 = .ok (.getfield 35, 3) := by decide +kernel
theorem dX4_symbol_60 : decode cX4_symbol 60 = .ok (.getfield 261, 3) := by decide +kernel
theorem dX4_symbol_63 : decode cX4_symbol 63 = .ok (.iload_n 1, 1) := by decide +kernel
theorem dX4_symbol_64 : decode cX4_symbol 64 = .ok (.iaload, 1) := by decide +kernel
theorem dX4_symbol_65 : decode cX4_symbol 65 = .ok (.ireturn, 1) := by decide +kernel
theorem dX4_symbol_66 : decode cX4_symbol 66 = .ok (.aload_n 0, 1) := by decide +kernel
theorem dX4_symbol_67 : decode cX4_symbol 67 = .ok (.getfield 35, 3) := by decide +kernel
theorem dX4_symbol_70 : decode cX4_symbol 70 = .ok (.getfield 264, 3) := by decide +kernel
theorem dX4_symbol_73 : decode cX4_symbol 73 = .ok (.iload_n 1, 1) := by decide +kernel
theorem dX4_symbol_74 : decode cX4_symbol 74 = .ok (.iaload, 1) := by decide +kernel
theorem dX4_symbol_75 : decode cX4_symbol 75 = .ok (.ireturn, 1) := by decide +kernel
theorem dX4_symbol_76 : decode cX4_symbol 76 = .ok (.new 132, 3) := by decide +kernel
theorem dX4_symbol_79 : decode cX4_symbol 79 = .ok (.dup, 1) := by decide +kernel
theorem dX4_symbol_80 : decode cX4_symbol 80 = .ok (.ldc_w 267, 3) := by decide +kernel
theorem dX4_symbol_83 : decode cX4_symbol 83 = .ok (.invokespecial 136, 3) := by decide +kernel
theorem dX4_symbol_86 : decode cX4_symbol 86 = .ok (.athrow, 1) := by decide +kernel
set_option maxRecDepth 20000 in
theorem ggX4_busiest_X4_needSymbol : GoodIn wsX4_busiest wsX4_needSymbol := goodIn_ca (goodIn_r _ [7, 1, 2] (by decide +kernel) (by decide +kernel)) (goodIn_sub (fun _ h => List.mem_cons_of_mem _ (List.mem_append_right _ h)) (by decide +kernel))
set_option maxRecDepth 20000 in
theorem gX4_busiest_X4_needSymbol : GoodIn wsX4_busiest (va_wsS RX4 74 yX4_needSymbol wsX4_needSymbol) := goodIn_app (goodIn_of _ (by decide +kernel)) ggX4_busiest_X4_needSymbol
set_option maxRecDepth 20000 in
theorem ggX4_busiest_X1_turnover : GoodIn wsX4_busiest wsX1_turnover := goodIn_r _ [12, 13, 14, 15, 16, 11, 17, 28, 29, 30, 31, 32, 33, 34, 35] (by decide +kernel) (by decide +kernel)
set_option maxRecDepth 20000 in
theorem gX4_busiest_X1_turnover : GoodIn wsX4_busiest (wsV RX4 269 RX1 yX1_turnover wsX1_turnover) := goodIn_app (goodIn_of _ (by decide +kernel)) ggX4_busiest_X1_turnover
set_option maxRecDepth 20000 in
theorem ggX4_busiest_X1_countBusier : GoodIn wsX4_busiest wsX1_countBusier := goodIn_r _ [21, 22, 9, 10, 11, 12, 13, 14, 15, 16, 17, 28, 29, 30, 31, 32, 33, 34, 35] (by decide +kernel) (by decide +kernel)
set_option maxRecDepth 20000 in
theorem gX4_busiest_X1_countBusier : GoodIn wsX4_busiest (wsV RX4 272 RX1 yX1_countBusier wsX1_countBusier) := goodIn_app (goodIn_of _ (by decide +kernel)) ggX4_busiest_X1_countBusier
theorem dX4_busiest_0 : decode cX4_busiest 0 = .ok (.iload_n 1, 1) := by decide +kernel
theorem dX4_busiest_1 : decode cX4_busiest 1 = .ok (.invokestatic 74, 3) := by decide +kernel
theorem dX4_busiest_4 : decode cX4_busiest 4 = .ok (.iconst 0, 1) := by decide +kernel
theorem dX4_busiest_5 : decode cX4_busiest 5 = .ok (.istore_n 3, 1) := by decide +kernel
theorem dX4_busiest_6 : decode cX4_busiest 6 = .ok (.iload_n 3, 1) := by decide +kernel
theorem dX4_busiest_7 : decode cX4_busiest 7 = .ok (.sipush 512, 3) := by decide +kernel
theorem dX4_busiest_10 : decode cX4_busiest 10 = .ok (.if_icmp .ge 36, 3) := by decide +kernel
theorem dX4_busiest_13 : decode cX4_busiest 13 = .ok (.aload_n 0, 1) := by decide +kernel
theorem dX4_busiest_14 : decode cX4_busiest 14 = .ok (.getfield 10, 3) := by decide +kernel
theorem dX4_busiest_17 : decode cX4_busiest 17 = .ok (.iload_n 3, 1) := by decide +kernel
theorem dX4_busiest_18 : decode cX4_busiest 18 = .ok (.iload_n 1, 1) := by decide +kernel
theorem dX4_busiest_19 : decode cX4_busiest 19 = .ok (.invokevirtual 269, 3) := by decide +kernel
theorem dX4_busiest_22 : decode cX4_busiest 22 = .ok (.ifCond .le 18, 3) := by decide +kernel
theorem dX4_busiest_25 : decode cX4_busiest 25 = .ok (.aload_n 0, 1) := by decide +kernel
theorem dX4_busiest_26 : decode cX4_busiest 26 = .ok (.getfield 10, 3) := by decide +kernel
theorem dX4_busiest_29 : decode cX4_busiest 29 = .ok (.iload_n 3, 1) := by decide +kernel
theorem dX4_busiest_30 : decode cX4_busiest 30 = .ok (.iload_n 1, 1) := by decide +kernel
theorem dX4_busiest_31 : decode cX4_busiest 31 = .ok (.invokevirtual 272, 3) := by decide +kernel
theorem dX4_busiest_34 : decode cX4_busiest 34 = .ok (.iload_n 2, 1) := by decide +kernel
theorem dX4_busiest_35 : decode cX4_busiest 35 = .ok (.if_icmp .ne 5, 3) := by decide +kernel
theorem dX4_busiest_38 : decode cX4_busiest 38 = .ok (.iload_n 3, 1) := by decide +kernel
theorem dX4_busiest_39 : decode cX4_busiest 39 = .ok (.ireturn, 1) := by decide +kernel
theorem dX4_busiest_40 : decode cX4_busiest 40 = .ok (.iinc 3 1, 3) := by decide +kernel
theorem dX4_busiest_43 : decode cX4_busiest 43 = .ok (.goto (-37), 3) := by decide +kernel
theorem dX4_busiest_46 : decode cX4_busiest 46 = .ok (.new 179, 3) := by decide +kernel
theorem dX4_busiest_49 : decode cX4_busiest 49 = .ok (.dup, 1) := by decide +kernel
theorem dX4_busiest_50 : decode cX4_busiest 50 = .ok (.ldc_w 275, 3) := by decide +kernel
theorem dX4_busiest_53 : decode cX4_busiest 53 = .ok (.invokespecial 183, 3) := by decide +kernel
theorem dX4_busiest_56 : decode cX4_busiest 56 = .ok (.athrow, 1) := by decide +kernel
theorem dX4_needAccount_0 : decode cX4_needAccount 0 = .ok (.iload_n 0, 1) := by decide +kernel
theorem dX4_needAccount_1 : decode cX4_needAccount 1 = .ok (.ifCond .lt 10, 3) := by decide +kernel
theorem dX4_needAccount_4 : decode cX4_needAccount 4 = .ok (.iload_n 0, 1) := by decide +kernel
theorem dX4_needAccount_5 : decode cX4_needAccount 5 = .ok (.sipush 512, 3) := by decide +kernel
theorem dX4_needAccount_8 : decode cX4_needAccount 8 = .ok (.if_icmp .lt 14, 3) := by decide +kernel
theorem dX4_needAccount_11 : decode cX4_needAccount 11 = .ok (.new 179, 3) := by decide +kernel
theorem dX4_needAccount_14 : decode cX4_needAccount 14 = .ok (.dup, 1) := by decide +kernel
theorem dX4_needAccount_15 : decode cX4_needAccount 15 = .ok (.ldc_w 277, 3) := by decide +kernel
theorem dX4_needAccount_18 : decode cX4_needAccount 18 = .ok (.invokespecial 183, 3) := by decide +kernel
theorem dX4_needAccount_21 : decode cX4_needAccount 21 = .ok (.athrow, 1) := by decide +kernel
theorem dX4_needAccount_22 : decode cX4_needAccount 22 = .ok (.return_, 1) := by decide +kernel
theorem dX4_needSymbol_0 : decode cX4_needSymbol 0 = .ok (.iload_n 0, 1) := by decide +kernel
theorem dX4_needSymbol_1 : decode cX4_needSymbol 1 = .ok (.ifCond .lt 8, 3) := by decide +kernel
theorem dX4_needSymbol_4 : decode cX4_needSymbol 4 = .ok (.iload_n 0, 1) := by decide +kernel
theorem dX4_needSymbol_5 : decode cX4_needSymbol 5 = .ok (.iconst 4, 1) := by decide +kernel
theorem dX4_needSymbol_6 : decode cX4_needSymbol 6 = .ok (.if_icmp .lt 14, 3) := by decide +kernel
theorem dX4_needSymbol_9 : decode cX4_needSymbol 9 = .ok (.new 179, 3) := by decide +kernel
theorem dX4_needSymbol_12 : decode cX4_needSymbol 12 = .ok (.dup, 1) := by decide +kernel
theorem dX4_needSymbol_13 : decode cX4_needSymbol 13 = .ok (.ldc_w 279, 3) := by decide +kernel
theorem dX4_needSymbol_16 : decode cX4_needSymbol 16 = .ok (.invokespecial 183, 3) := by decide +kernel
theorem dX4_needSymbol_19 : decode cX4_needSymbol 19 = .ok (.athrow, 1) := by decide +kernel
theorem dX4_needSymbol_20 : decode cX4_needSymbol 20 = .ok (.return_, 1) := by decide +kernel
theorem dX4_needSide_0 : decode cX4_needSide 0 = .ok (.iload_n 0, 1) := by decide +kernel
theorem dX4_needSide_1 : decode cX4_needSide 1 = .ok (.ifCond .eq 19, 3) := by decide +kernel
theorem dX4_needSide_4 : decode cX4_needSide 4 = .ok (.iload_n 0, 1) := by decide +kernel
theorem dX4_needSide_5 : decode cX4_needSide 5 = .ok (.iconst 1, 1) := by decide +kernel
theorem dX4_needSide_6 : decode cX4_needSide 6 = .ok (.if_icmp .eq 14, 3) := by decide +kernel
theorem dX4_needSide_9 : decode cX4_needSide 9 = .ok (.new 132, 3) := by decide +kernel
theorem dX4_needSide_12 : decode cX4_needSide 12 = .ok (.dup, 1) := by decide +kernel
theorem dX4_needSide_13 : decode cX4_needSide 13 = .ok (.ldc_w 281, 3) := by decide +kernel
theorem dX4_needSide_16 : decode cX4_needSide 16 = .ok (.invokespecial 136, 3) := by decide +kernel
theorem dX4_needSide_19 : decode cX4_needSide 19 = .ok (.athrow, 1) := by decide +kernel
theorem dX4_needSide_20 : decode cX4_needSide 20 = .ok (.return_, 1) := by decide +kernel
theorem dX4_needWithin_0 : decode cX4_needWithin 0 = .ok (.iload_n 0, 1) := by decide +kernel
theorem dX4_needWithin_1 : decode cX4_needWithin 1 = .ok (.iload_n 1, 1) := by decide +kernel
theorem dX4_needWithin_2 : decode cX4_needWithin 2 = .ok (.if_icmp .lt 8, 3) := by decide +kernel
theorem dX4_needWithin_5 : decode cX4_needWithin 5 = .ok (.iload_n 0, 1) := by decide +kernel
theorem dX4_needWithin_6 : decode cX4_needWithin 6 = .ok (.iload_n 2, 1) := by decide +kernel
theorem dX4_needWithin_7 : decode cX4_needWithin 7 = .ok (.if_icmp .le 14, 3) := by decide +kernel
theorem dX4_needWithin_10 : decode cX4_needWithin 10 = .ok (.new 132, 3) := by decide +kernel
theorem dX4_needWithin_13 : decode cX4_needWithin 13 = .ok (.dup, 1) := by decide +kernel
theorem dX4_needWithin_14 : decode cX4_needWithin 14 = .ok (.ldc_w 283, 3) := by decide +kernel
theorem dX4_needWithin_17 : decode cX4_needWithin 17 = .ok (.invokespecial 136, 3) := by decide +kernel
theorem dX4_needWithin_20 : decode cX4_needWithin 20 = .ok (.athrow, 1) := by decide +kernel
theorem dX4_needWithin_21 : decode cX4_needWithin 21 = .ok (.return_, 1) := by decide +kernel
theorem dX4_needOrder_0 : decode cX4_needOrder 0 = .ok (.iload_n 1, 1) := by decide +kernel
theorem dX4_needOrder_1 : decode cX4_needOrder 1 = .ok (.ifCond .lt 14, 3) := by decide +kernel
theorem dX4_needOrder_4 : decode cX4_needOrder 4 = .ok (.iload_n 1, 1) := by decide +kernel
theorem dX4_needOrder_5 : decode cX4_needOrder 5 = .ok (.aload_n 0, 1) := by decide +kernel
theorem dX4_needOrder_6 : decode cX4_needOrder 6 = .ok (.getfield 19, 3) := by decide +kernel
theorem dX4_needOrder_9 : decode cX4_needOrder 9 = .ok (.getfield 100, 3) := by decide +kernel
theorem dX4_needOrder_12 : decode cX4_needOrder 12 = .ok (.if_icmp .lt 14, 3) := by decide +kernel
theorem dX4_needOrder_15 : decode cX4_needOrder 15 = .ok (.new 179, 3) := by decide +kernel
theorem dX4_needOrder_18 : decode cX4_needOrder 18 = .ok (.dup, 1) := by decide +kernel
theorem dX4_needOrder_19 : decode cX4_needOrder 19 = .ok (.ldc_w 285, 3) := by decide +kernel
theorem dX4_needOrder_22 : decode cX4_needOrder 22 = .ok (.invokespecial 183, 3) := by decide +kernel
theorem dX4_needOrder_25 : decode cX4_needOrder 25 = .ok (.athrow, 1) := by decide +kernel
theorem dX4_needOrder_26 : decode cX4_needOrder 26 = .ok (.return_, 1) := by decide +kernel
set_option maxRecDepth 20000 in
theorem ggX4_needOwnOrder_X4_needAccount : GoodIn wsX4_needOwnOrder wsX4_needAccount := goodIn_ca (goodIn_r _ [8, 9, 10] (by decide +kernel) (by decide +kernel)) (goodIn_sub (fun _ h => List.mem_cons_of_mem _ (List.mem_append_right _ h)) (by decide +kernel))
set_option maxRecDepth 20000 in
theorem gX4_needOwnOrder_X4_needAccount : GoodIn wsX4_needOwnOrder (va_wsS RX4 43 yX4_needAccount wsX4_needAccount) := goodIn_app (goodIn_of _ (by decide +kernel)) ggX4_needOwnOrder_X4_needAccount
set_option maxRecDepth 20000 in
theorem ggX4_needOwnOrder_X4_needOrder : GoodIn wsX4_needOwnOrder wsX4_needOrder := goodIn_ca (goodIn_r _ [14, 9, 10, 3, 15, 16, 17, 18, 19, 20, 21, 22, 23, 24, 25, 26, 27, 28, 29, 30, 31, 32, 33] (by decide +kernel) (by decide +kernel)) (goodIn_sub (fun _ h => List.mem_cons_of_mem _ (List.mem_append_right _ h)) (by decide +kernel))
set_option maxRecDepth 20000 in
theorem gX4_needOwnOrder_X4_needOrder : GoodIn wsX4_needOwnOrder (wsV RX4 195 RX4 yX4_needOrder wsX4_needOrder) := goodIn_app (goodIn_of _ (by decide +kernel)) ggX4_needOwnOrder_X4_needOrder
theorem dX4_needOwnOrder_0 : decode cX4_needOwnOrder 0 = .ok (.iload_n 1, 1) := by decide +kernel
theorem dX4_needOwnOrder_1 : decode cX4_needOwnOrder 1 = .ok (.invokestatic 43, 3) := by decide +kernel
theorem dX4_needOwnOrder_4 : decode cX4_needOwnOrder 4 = .ok (.aload_n 0, 1) := by decide +kernel
theorem dX4_needOwnOrder_5 : decode cX4_needOwnOrder 5 = .ok (.iload_n 2, 1) := by decide +kernel
theorem dX4_needOwnOrder_6 : decode cX4_needOwnOrder 6 = .ok (.invokevirtual 195, 3) := by decide +kernel
theorem dX4_needOwnOrder_9 : decode cX4_needOwnOrder 9 = .ok (.aload_n 0, 1) := by decide +kernel
theorem dX4_needOwnOrder_10 : decode cX4_needOwnOrder 10 = .ok (.getfield 19, 3) := by decide +kernel
theorem dX4_needOwnOrder_13 : decode cX4_needOwnOrder 13 = .ok (.getfield 198, 3) := by decide +kernel
theorem dX4_needOwnOrder_16 : decode cX4_needOwnOrder 16 = .ok (.iload_n 2, 1) := by decide +kernel
theorem dX4_needOwnOrder_17 : decode cX4_needOwnOrder 17 = .ok (.iaload, 1) := by decide +kernel
theorem dX4_needOwnOrder_18 : decode cX4_needOwnOrder 18 = .ok (.iload_n 1, 1) := by decide +kernel
theorem dX4_needOwnOrder_19 : decode cX4_needOwnOrder 19 = .ok (.if_icmp .eq 14, 3) := by decide +kernel
theorem dX4_needOwnOrder_22 : decode cX4_needOwnOrder 22 = .ok (.new 132, 3) := by decide +kernel
theorem dX4_needOwnOrder_25 : decode cX4_needOwnOrder 25 = .ok (.dup, 1) := by decide +kernel
theorem dX4_needOwnOrder_26 : decode cX4_needOwnOrder 26 = .ok (.ldc_w 287, 3) := by decide +kernel
theorem dX4_needOwnOrder_29 : decode cX4_needOwnOrder 29 = .ok (.invokespecial 136, 3) := by decide +kernel
theorem dX4_needOwnOrder_32 : decode cX4_needOwnOrder 32 = .ok (.athrow, 1) := by decide +kernel
theorem dX4_needOwnOrder_33 : decode cX4_needOwnOrder 33 = .ok (.return_, 1) := by decide +kernel
set_option maxRecDepth 20000 in
theorem ggX4_needThere_X2_isThere : GoodIn wsX4_needThere wsX2_isThere := goodIn_r _ [8, 9, 15, 16, 17, 18, 19, 20, 21, 22, 23, 24, 25, 26, 27] (by decide +kernel) (by decide +kernel)
set_option maxRecDepth 20000 in
theorem gX4_needThere_X2_isThere : GoodIn wsX4_needThere (wsV RX4 154 RX2 yX2_isThere wsX2_isThere) := goodIn_app (goodIn_of _ (by decide +kernel)) ggX4_needThere_X2_isThere
theorem dX4_needThere_0 : decode cX4_needThere 0 = .ok (.aload_n 0, 1) := by decide +kernel
theorem dX4_needThere_1 : decode cX4_needThere 1 = .ok (.getfield 19, 3) := by decide +kernel
theorem dX4_needThere_4 : decode cX4_needThere 4 = .ok (.iload_n 1, 1) := by decide +kernel
theorem dX4_needThere_5 : decode cX4_needThere 5 = .ok (.invokevirtual 154, 3) := by decide +kernel
theorem dX4_needThere_8 : decode cX4_needThere 8 = .ok (.ifCond .ne 14, 3) := by decide +kernel
theorem dX4_needThere_11 : decode cX4_needThere 11 = .ok (.new 58, 3) := by decide +kernel
theorem dX4_needThere_14 : decode cX4_needThere 14 = .ok (.dup, 1) := by decide +kernel
theorem dX4_needThere_15 : decode cX4_needThere 15 = .ok (.ldc_w 289, 3) := by decide +kernel
theorem dX4_needThere_18 : decode cX4_needThere 18 = .ok (.invokespecial 62, 3) := by decide +kernel
theorem dX4_needThere_21 : decode cX4_needThere 21 = .ok (.athrow, 1) := by decide +kernel
theorem dX4_needThere_22 : decode cX4_needThere 22 = .ok (.return_, 1) := by decide +kernel
set_option maxRecDepth 20000 in
theorem ggX4_actByKind_X4_meetsOther : GoodIn wsX4_actByKind wsX4_meetsOther := goodIn_r _ [8, 9, 1, 10, 11, 12, 13, 14, 15, 16, 17, 18, 19, 20, 21, 22, 23, 24, 25, 26, 27, 28, 29, 30, 31, 32, 33, 125, 126, 127, 128, 129, 143, 144, 145, 130, 131, 132, 133, 134, 135, 136, 137, 138, 139, 140, 141, 142] (by decide +kernel) (by decide +kernel)
set_option maxRecDepth 20000 in
theorem gX4_actByKind_X4_meetsOther : GoodIn wsX4_actByKind (wsV RX4 294 RX4 yX4_meetsOther wsX4_meetsOther) := goodIn_app (goodIn_of _ (by decide +kernel)) ggX4_actByKind_X4_meetsOther
set_option maxRecDepth 20000 in
theorem ggX4_actByKind_X4_close : GoodIn wsX4_actByKind wsX4_close := goodIn_r _ [37, 1, 3, 38, 39, 40, 41, 42, 43, 7, 44, 45, 46, 47, 48, 49, 50, 51, 52, 53, 54, 55, 125, 126, 127, 128, 129, 130, 131, 132, 133, 134, 135, 136, 137, 138, 139, 140, 141, 142, 146, 147, 148, 149, 150, 151, 152, 153] (by decide +kernel) (by decide +kernel)
set_option maxRecDepth 20000 in
theorem gX4_actByKind_X4_close : GoodIn wsX4_actByKind (wsV RX4 297 RX4 yX4_close wsX4_close) := goodIn_app (goodIn_of _ (by decide +kernel)) ggX4_actByKind_X4_close
set_option maxRecDepth 20000 in
theorem ggX4_actByKind_X4_rest : GoodIn wsX4_actByKind wsX4_rest := goodIn_r _ [59, 1, 3, 38, 2, 60, 61, 62, 63, 64, 39, 9, 65, 66, 67, 13, 68, 15, 16, 17, 25, 69, 26, 18, 19, 20, 125, 126, 127, 128, 129, 130, 131, 132, 133, 134, 135, 136, 137, 138, 139, 140, 141, 142, 143, 144, 145] (by decide +kernel) (by decide +kernel)
set_option maxRecDepth 20000 in
theorem gX4_actByKind_X4_rest : GoodIn wsX4_actByKind (wsV RX4 300 RX4 yX4_rest wsX4_rest) := goodIn_app (goodIn_of _ (by decide +kernel)) ggX4_actByKind_X4_rest
set_option maxRecDepth 20000 in
theorem ggX4_actByKind_X4_wouldTradeWholly : GoodIn wsX4_actByKind wsX4_wouldTradeWholly := goodIn_r _ [73, 9, 74, 1, 49, 45, 3, 38, 10, 11, 12, 13, 14, 15, 16, 17, 18, 19, 20, 21, 22, 23, 24, 25, 26, 27, 28, 29, 30, 31, 32, 33, 125, 126, 127, 128, 129, 143, 144, 145, 130, 131, 132, 133, 134, 135, 136, 137, 138, 139, 140, 141, 142] (by decide +kernel) (by decide +kernel)
set_option maxRecDepth 20000 in
theorem gX4_actByKind_X4_wouldTradeWholly : GoodIn wsX4_actByKind (wsV RX4 303 RX4 yX4_wouldTradeWholly wsX4_wouldTradeWholly) := goodIn_app (goodIn_of _ (by decide +kernel)) ggX4_actByKind_X4_wouldTradeWholly
set_option maxRecDepth 20000 in
theorem ggX4_actByKind_X4_tradeUntilStopped : GoodIn wsX4_actByKind wsX4_tradeUntilStopped := goodIn_r _ [78, 9, 1, 3, 45, 38, 61, 62, 63, 64, 10, 11, 12, 13, 14, 15, 16, 17, 18, 19, 20, 21, 22, 23, 24, 25, 26, 27, 28, 29, 30, 31, 32, 33, 79, 80, 81, 7, 82, 49, 51, 46, 47, 83, 41, 42, 43, 44, 48, 50, 52, 53, 54, 55, 84, 85, 86, 87, 88, 89, 90, 91, 92, 93, 94, 95, 96, 97, 98, 99, 100, 101, 102, 103, 104, 105, 106, 107, 108, 109, 110, 111, 112, 113, 114, 115, 116, 117, 118, 119, 120, 121, 122, 123, 124, 34, 35, 36, 37, 39, 40, 56, 57, 58, 59, 2, 60, 65, 66, 67, 68, 69, 125, 126, 127, 128, 129, 130, 131, 132, 133, 134, 135, 136, 137, 138, 139, 140, 141, 142, 143, 144, 145, 146, 147, 148, 149, 150, 151, 152, 153, 154, 155, 156, 157, 158, 159, 160, 161, 162] (by decide +kernel) (by decide +kernel)
set_option maxRecDepth 20000 in
theorem gX4_actByKind_X4_tradeUntilStopped : GoodIn wsX4_actByKind (wsV RX4 306 RX4 yX4_tradeUntilStopped wsX4_tradeUntilStopped) := goodIn_app (goodIn_of _ (by decide +kernel)) ggX4_actByKind_X4_tradeUntilStopped
theorem dX4_actByKind_0 : decode cX4_actByKind 0 = .ok (.aload_n 0, 1) := by decide +kernel
theorem dX4_actByKind_1 : decode cX4_actByKind 1 = .ok (.getfield 19, 3) := by decide +kernel
theorem dX4_actByKind_4 : decode cX4_actByKind 4 = .ok (.getfield 291, 3) := by decide +kernel
theorem dX4_actByKind_7 : decode cX4_actByKind 7 = .ok (.iload_n 1, 1) := by decide +kernel
theorem dX4_actByKind_8 : decode cX4_actByKind 8 = .ok (.iaload, 1) := by decide +kernel
theorem dX4_actByKind_9 : decode cX4_actByKind 9 = .ok (.istore_n 2, 1) := by decide +kernel
theorem dX4_actByKind_10 : decode cX4_actByKind 10 = .ok (.iload_n 2, 1) := by decide +kernel
theorem dX4_actByKind_11 : decode cX4_actByKind 11 = .ok (.iconst 5, 1) := by decide +kernel
theorem dX4_actByKind_12 : decode cX4_actByKind 12 = .ok (.if_icmp .ne 4, 3) := by decide +kernel
theorem dX4_actByKind_15 : decode cX4_actByKind 15 = .ok (.return_, 1) := by decide +kernel
theorem dX4_actByKind_16 : decode cX4_actByKind 16 = .ok (.iload_n 2, 1) := by decide +kernel
theorem dX4_actByKind_17 : decode cX4_actByKind 17 = .ok (.iconst 3, 1) := by decide +kernel
theorem dX4_actByKind_18 : decode cX4_actByKind 18 = .ok (.if_icmp .ne 26, 3) := by decide +kernel
theorem dX4_actByKind_21 : decode cX4_actByKind 21 = .ok (.aload_n 0, 1) := by decide +kernel
theorem dX4_actByKind_22 : decode cX4_actByKind 22 = .ok (.iload_n 1, 1) := by decide +kernel
theorem dX4_actByKind_23 : decode cX4_actByKind 23 = .ok (.invokevirtual 294, 3) := by decide +kernel
theorem dX4_actByKind_26 : decode cX4_actByKind 26 = .ok (.ifCond .eq 12, 3) := by decide +kernel
theorem dX4_actByKind_29 : decode cX4_actByKind 29 = .ok (.aload_n 0, 1) := by decide +kernel
theorem dX4_actByKind_30 : decode cX4_actByKind 30 = .ok (.iload_n 1, 1) := by decide +kernel
theorem dX4_actByKind_31 : decode cX4_actByKind 31 = .ok (.iconst 3, 1) := by decide +kernel
theorem dX4_actByKind_32 : decode cX4_actByKind 32 = .ok (.invokevirtual 297, 3) := by decide +kernel
theorem dX4_actByKind_35 : decode cX4_actByKind 35 = .ok (.goto 8, 3) := by decide +kernel
theorem dX4_actByKind_38 : decode cX4_actByKind 38 = .ok (.aload_n 0, 1) := by decide +kernel
theorem dX4_actByKind_39 : decode cX4_actByKind 39 = .ok (.iload_n 1, 1) := by decide +kernel
theorem dX4_actByKind_40 : decode cX4_actByKind 40 = .ok (.invokevirtual 300, 3) := by decide +kernel
theorem dX4_actByKind_43 : decode cX4_actByKind 43 = .ok (.return_, 1) := by decide +kernel
theorem dX4_actByKind_44 : decode cX4_actByKind 44 = .ok (.iload_n 2, 1) := by decide +kernel
theorem dX4_actByKind_45 : decode cX4_actByKind 45 = .ok (.iconst 2, 1) := by decide +kernel
theorem dX4_actByKind_46 : decode cX4_actByKind 46 = .ok (.if_icmp .ne 18, 3) := by decide +kernel
theorem dX4_actByKind_49 : decode cX4_actByKind 49 = .ok (.aload_n 0, 1) := by decide +kernel
theorem dX4_actByKind_50 : decode cX4_actByKind 50 = .ok (.iload_n 1, 1) := by decide +kernel
theorem dX4_actByKind_51 : decode cX4_actByKind 51 = .ok (.invokevirtual 303, 3) := by decide +kernel
theorem dX4_actByKind_54 : decode cX4_actByKind 54 = .ok (.ifCond .ne 10, 3) := by decide +kernel
theorem dX4_actByKind_57 : decode cX4_actByKind 57 = .ok (.aload_n 0, 1) := by decide +kernel
theorem dX4_actByKind_58 : decode cX4_actByKind 58 = .ok (.iload_n 1, 1) := by decide +kernel
theorem dX4_actByKind_59 : decode cX4_actByKind 59 = .ok (.iconst 3, 1) := by decide +kernel
theorem dX4_actByKind_60 : decode cX4_actByKind 60 = .ok (.invokevirtual 297, 3) := by decide +kernel
theorem dX4_actByKind_63 : decode cX4_actByKind 63 = .ok (.return_, 1) := by decide +kernel
theorem dX4_actByKind_64 : decode cX4_actByKind 64 = .ok (.aload_n 0, 1) := by decide +kernel
theorem dX4_actByKind_65 : decode cX4_actByKind 65 = .ok (.iload_n 1, 1) := by decide +kernel
theorem dX4_actByKind_66 : decode cX4_actByKind 66 = .ok (.invokevirtual 306, 3) := by decide +kernel
theorem dX4_actByKind_69 : decode cX4_actByKind 69 = .ok (.istore_n 3, 1) := by decide +kernel
theorem dX4_actByKind_70 : decode cX4_actByKind 70 = .ok (.aload_n 0, 1) := by decide +kernel
theorem dX4_actByKind_71 : decode cX4_actByKind 71 = .ok (.getfield 19, 3) := by decide +kernel
theorem dX4_actByKind_74 : decode cX4_actByKind 74 = .ok (.getfield 126, 3) := by decide +kernel
theorem dX4_actByKind_77 : decode cX4_actByKind 77 = .ok (.iload_n 1, 1) := by decide +kernel
theorem dX4_actByKind_78 : decode cX4_actByKind 78 = .ok (.iaload, 1) := by decide +kernel
theorem dX4_actByKind_79 : decode cX4_actByKind 79 = .ok (.ifCond .ne 12, 3) := by decide +kernel
theorem dX4_actByKind_82 : decode cX4_actByKind 82 = .ok (.aload_n 0, 1) := by decide +kernel
theorem dX4_actByKind_83 : decode cX4_actByKind 83 = .ok (.iload_n 1, 1) := by decide +kernel
theorem dX4_actByKind_84 : decode cX4_actByKind 84 = .ok (.iconst 2, 1) := by decide +kernel
theorem dX4_actByKind_85 : decode cX4_actByKind 85 = .ok (.invokevirtual 297, 3) := by decide +kernel
theorem dX4_actByKind_88 : decode cX4_actByKind 88 = .ok (.goto 26, 3) := by decide +kernel
theorem dX4_actByKind_91 : decode cX4_actByKind 91 = .ok (.iload_n 3, 1) := by decide +kernel
theorem dX4_actByKind_92 : decode cX4_actByKind 92 = .ok (.ifCond .ne 8, 3) := by decide +kernel
theorem dX4_actByKind_95 : decode cX4_actByKind 95 = .ok (.iload_n 2, 1) := by decide +kernel
theorem dX4_actByKind_96 : decode cX4_actByKind 96 = .ok (.iconst 1, 1) := by decide +kernel
theorem dX4_actByKind_97 : decode cX4_actByKind 97 = .ok (.if_icmp .ne 12, 3) := by decide +kernel
theorem dX4_actByKind_100 : decode cX4_actByKind 100 = .ok (.aload_n 0, 1) := by decide +kernel
theorem dX4_actByKind_101 : decode cX4_actByKind 101 = .ok (.iload_n 1, 1) := by decide +kernel
theorem dX4_actByKind_102 : decode cX4_actByKind 102 = .ok (.iconst 3, 1) := by decide +kernel
theorem dX4_actByKind_103 : decode cX4_actByKind 103 = .ok (.invokevirtual 297, 3) := by decide +kernel
theorem dX4_actByKind_106 : decode cX4_actByKind 106 = .ok (.goto 8, 3) := by decide +kernel
theorem dX4_actByKind_109 : decode cX4_actByKind 109 = .ok (.aload_n 0, 1) := by decide +kernel
theorem dX4_actByKind_110 : decode cX4_actByKind 110 = .ok (.iload_n 1, 1) := by decide +kernel
theorem dX4_actByKind_111 : decode cX4_actByKind 111 = .ok (.invokevirtual 300, 3) := by decide +kernel
theorem dX4_actByKind_114 : decode cX4_actByKind 114 = .ok (.return_, 1) := by decide +kernel
set_option maxRecDepth 20000 in
theorem ggX4_wakeStop_X2_isWokenBy : GoodIn wsX4_wakeStop wsX2_isWokenBy := goodIn_r _ [11, 12, 13, 14, 29, 30, 31, 32, 33, 34, 35, 36, 37, 38, 39, 40, 41] (by decide +kernel) (by decide +kernel)
set_option maxRecDepth 20000 in
theorem gX4_wakeStop_X2_isWokenBy : GoodIn wsX4_wakeStop (wsV RX4 309 RX2 yX2_isWokenBy wsX2_isWokenBy) := goodIn_app (goodIn_of _ (by decide +kernel)) ggX4_wakeStop_X2_isWokenBy
theorem dX4_wakeStop_0 : decode cX4_wakeStop 0 = .ok (.aload_n 0, 1) := by decide +kernel
theorem dX4_wakeStop_1 : decode cX4_wakeStop 1 = .ok (.getfield 35, 3) := by decide +kernel
theorem dX4_wakeStop_4 : decode cX4_wakeStop 4 = .ok (.getfield 255, 3) := by decide +kernel
theorem dX4_wakeStop_7 : decode cX4_wakeStop 7 = .ok (.iload_n 1, 1) := by decide +kernel
theorem dX4_wakeStop_8 : decode cX4_wakeStop 8 = .ok (.iaload, 1) := by decide +kernel
theorem dX4_wakeStop_9 : decode cX4_wakeStop 9 = .ok (.istore_n 2, 1) := by decide +kernel
theorem dX4_wakeStop_10 : decode cX4_wakeStop 10 = .ok (.iload_n 2, 1) := by decide +kernel
theorem dX4_wakeStop_11 : decode cX4_wakeStop 11 = .ok (.ifCond .ne 5, 3) := by decide +kernel
theorem dX4_wakeStop_14 : decode cX4_wakeStop 14 = .ok (.iconst (-1), 1) := by decide +kernel
theorem dX4_wakeStop_15 : decode cX4_wakeStop 15 = .ok (.ireturn, 1) := by decide +kernel
theorem dX4_wakeStop_16 : decode cX4_wakeStop 16 = .ok (.iconst 0, 1) := by decide +kernel
theorem dX4_wakeStop_17 : decode cX4_wakeStop 17 = .ok (.istore_n 3, 1) := by decide +kernel
theorem dX4_wakeStop_18 : decode cX4_wakeStop 18 = .ok (.iload_n 3, 1) := by decide +kernel
theorem dX4_wakeStop_19 : decode cX4_wakeStop 19 = .ok (.aload_n 0, 1) := by decide +kernel
theorem dX4_wakeStop_20 : decode cX4_wakeStop 20 = .ok (.getfield 19, 3) := by decide +kernel
theorem dX4_wakeStop_23 : decode cX4_wakeStop 23 = .ok (.getfield 100, 3) := by decide +kernel
theorem dX4_wakeStop_26 : decode cX4_wakeStop 26 = .ok (.if_icmp .ge 46, 3) := by decide +kernel
theorem dX4_wakeStop_29 : decode cX4_wakeStop 29 = .ok (.aload_n 0, 1) := by decide +kernel
theorem dX4_wakeStop_30 : decode cX4_wakeStop 30 = .ok (.getfield 19, 3) := by decide +kernel
theorem dX4_wakeStop_33 : decode cX4_wakeStop 33 = .ok (.getfield 211, 3) := by decide +kernel
