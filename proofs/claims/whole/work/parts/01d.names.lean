theorem dX0_init_21 : decode cX0_init 21 = .ok (.aload_n 0, 1) := by decide +kernel
theorem dX0_init_22 : decode cX0_init 22 = .ok (.aload_n 1, 1) := by decide +kernel
theorem dX0_init_23 : decode cX0_init 23 = .ok (.putfield 18, 3) := by decide +kernel
theorem dX0_init_26 : decode cX0_init 26 = .ok (.return_, 1) := by decide +kernel
theorem dX0_bookOf_0 : decode cX0_bookOf 0 = .ok (.iload_n 0, 1) := by decide +kernel
theorem dX0_bookOf_1 : decode cX0_bookOf 1 = .ok (.iconst 2, 1) := by decide +kernel
theorem dX0_bookOf_2 : decode cX0_bookOf 2 = .ok (.imul, 1) := by decide +kernel
theorem dX0_bookOf_3 : decode cX0_bookOf 3 = .ok (.iload_n 1, 1) := by decide +kernel
theorem dX0_bookOf_4 : decode cX0_bookOf 4 = .ok (.iadd, 1) := by decide +kernel
theorem dX0_bookOf_5 : decode cX0_bookOf 5 = .ok (.ireturn, 1) := by decide +kernel
set_option maxRecDepth 20000 in
theorem ggX0_facing_X0_bookOf : GoodIn wsX0_facing wsX0_bookOf := goodIn_r _ [7] (by decide +kernel) (by decide +kernel)
set_option maxRecDepth 20000 in
theorem gX0_facing_X0_bookOf : GoodIn wsX0_facing (va_wsS RX0 30 yX0_bookOf wsX0_bookOf) := goodIn_app (goodIn_of _ (by decide +kernel)) ggX0_facing_X0_bookOf
theorem dX0_facing_0 : decode cX0_facing 0 = .ok (.aload_n 0, 1) := by decide +kernel
theorem dX0_facing_1 : decode cX0_facing 1 = .ok (.getfield 18, 3) := by decide +kernel
theorem dX0_facing_4 : decode cX0_facing 4 = .ok (.getfield 22, 3) := by decide +kernel
theorem dX0_facing_7 : decode cX0_facing 7 = .ok (.iload_n 1, 1) := by decide +kernel
theorem dX0_facing_8 : decode cX0_facing 8 = .ok (.iaload, 1) := by decide +kernel
theorem dX0_facing_9 : decode cX0_facing 9 = .ok (.iconst 1, 1) := by decide +kernel
theorem dX0_facing_10 : decode cX0_facing 10 = .ok (.aload_n 0, 1) := by decide +kernel
theorem dX0_facing_11 : decode cX0_facing 11 = .ok (.getfield 18, 3) := by decide +kernel
theorem dX0_facing_14 : decode cX0_facing 14 = .ok (.getfield 27, 3) := by decide +kernel
theorem dX0_facing_17 : decode cX0_facing 17 = .ok (.iload_n 1, 1) := by decide +kernel
theorem dX0_facing_18 : decode cX0_facing 18 = .ok (.iaload, 1) := by decide +kernel
theorem dX0_facing_19 : decode cX0_facing 19 = .ok (.isub, 1) := by decide +kernel
theorem dX0_facing_20 : decode cX0_facing 20 = .ok (.invokestatic 30, 3) := by decide +kernel
theorem dX0_facing_23 : decode cX0_facing 23 = .ok (.ireturn, 1) := by decide +kernel
theorem dX0_orderAt_0 : decode cX0_orderAt 0 = .ok (.iload_n 2, 1) := by decide +kernel
theorem dX0_orderAt_1 : decode cX0_orderAt 1 = .ok (.ifCond .lt 13, 3) := by decide +kernel
theorem dX0_orderAt_4 : decode cX0_orderAt 4 = .ok (.iload_n 2, 1) := by decide +kernel
theorem dX0_orderAt_5 : decode cX0_orderAt 5 = .ok (.aload_n 0, 1) := by decide +kernel
theorem dX0_orderAt_6 : decode cX0_orderAt 6 = .ok (.getfield 15, 3) := by decide +kernel
theorem dX0_orderAt_9 : decode cX0_orderAt 9 = .ok (.iload_n 1, 1) := by decide +kernel
theorem dX0_orderAt_10 : decode cX0_orderAt 10 = .ok (.iaload, 1) := by decide +kernel
theorem dX0_orderAt_11 : decode cX0_orderAt 11 = .ok (.if_icmp .lt 5, 3) := by decide +kernel
theorem dX0_orderAt_14 : decode cX0_orderAt 14 = .ok (.iconst (-1), 1) := by decide +kernel
theorem dX0_orderAt_15 : decode cX0_orderAt 15 = .ok (.ireturn, 1) := by decide +kernel
theorem dX0_orderAt_16 : decode cX0_orderAt 16 = .ok (.aload_n 0, 1) := by decide +kernel
theorem dX0_orderAt_17 : decode cX0_orderAt 17 = .ok (.getfield 9, 3) := by decide +kernel
theorem dX0_orderAt_20 : decode cX0_orderAt 20 = .ok (.iload_n 1, 1) := by decide +kernel
theorem dX0_orderAt_21 : decode cX0_orderAt 21 = .ok (.bipush 100, 2) := by decide +kernel
theorem dX0_orderAt_23 : decode cX0_orderAt 23 = .ok (.imul, 1) := by decide +kernel
theorem dX0_orderAt_24 : decode cX0_orderAt 24 = .ok (.aload_n 0, 1) := by decide +kernel
theorem dX0_orderAt_25 : decode cX0_orderAt 25 = .ok (.getfield 15, 3) := by decide +kernel
theorem dX0_orderAt_28 : decode cX0_orderAt 28 = .ok (.iload_n 1, 1) := by decide +kernel
theorem dX0_orderAt_29 : decode cX0_orderAt 29 = .ok (.iaload, 1) := by decide +kernel
theorem dX0_orderAt_30 : decode cX0_orderAt 30 = .ok (.iadd, 1) := by decide +kernel
theorem dX0_orderAt_31 : decode cX0_orderAt 31 = .ok (.iconst 1, 1) := by decide +kernel
theorem dX0_orderAt_32 : decode cX0_orderAt 32 = .ok (.isub, 1) := by decide +kernel
theorem dX0_orderAt_33 : decode cX0_orderAt 33 = .ok (.iload_n 2, 1) := by decide +kernel
theorem dX0_orderAt_34 : decode cX0_orderAt 34 = .ok (.isub, 1) := by decide +kernel
theorem dX0_orderAt_35 : decode cX0_orderAt 35 = .ok (.iaload, 1) := by decide +kernel
theorem dX0_orderAt_36 : decode cX0_orderAt 36 = .ok (.ireturn, 1) := by decide +kernel
set_option maxRecDepth 20000 in
theorem ggX0_putLast_X0_bookOf : GoodIn wsX0_putLast wsX0_bookOf := goodIn_r _ [10] (by decide +kernel) (by decide +kernel)
set_option maxRecDepth 20000 in
theorem gX0_putLast_X0_bookOf : GoodIn wsX0_putLast (va_wsS RX0 30 yX0_bookOf wsX0_bookOf) := goodIn_app (goodIn_of _ (by decide +kernel)) ggX0_putLast_X0_bookOf
theorem dX0_putLast_0 : decode cX0_putLast 0 = .ok (.aload_n 0, 1) := by decide +kernel
theorem dX0_putLast_1 : decode cX0_putLast 1 = .ok (.getfield 18, 3) := by decide +kernel
theorem dX0_putLast_4 : decode cX0_putLast 4 = .ok (.getfield 22, 3) := by decide +kernel
theorem dX0_putLast_7 : decode cX0_putLast 7 = .ok (.iload_n 1, 1) := by decide +kernel
theorem dX0_putLast_8 : decode cX0_putLast 8 = .ok (.iaload, 1) := by decide +kernel
theorem dX0_putLast_9 : decode cX0_putLast 9 = .ok (.aload_n 0, 1) := by decide +kernel
theorem dX0_putLast_10 : decode cX0_putLast 10 = .ok (.getfield 18, 3) := by decide +kernel
theorem dX0_putLast_13 : decode cX0_putLast 13 = .ok (.getfield 27, 3) := by decide +kernel
theorem dX0_putLast_16 : decode cX0_putLast 16 = .ok (.iload_n 1, 1) := by decide +kernel
theorem dX0_putLast_17 : decode cX0_putLast 17 = .ok (.iaload, 1) := by decide +kernel
theorem dX0_putLast_18 : decode cX0_putLast 18 = .ok (.invokestatic 30, 3) := by decide +kernel
theorem dX0_putLast_21 : decode cX0_putLast 21 = .ok (.istore_n 2, 1) := by decide +kernel
theorem dX0_putLast_22 : decode cX0_putLast 22 = .ok (.aload_n 0, 1) := by decide +kernel
theorem dX0_putLast_23 : decode cX0_putLast 23 = .ok (.getfield 15, 3) := by decide +kernel
theorem dX0_putLast_26 : decode cX0_putLast 26 = .ok (.iload_n 2, 1) := by decide +kernel
theorem dX0_putLast_27 : decode cX0_putLast 27 = .ok (.iaload, 1) := by decide +kernel
theorem dX0_putLast_28 : decode cX0_putLast 28 = .ok (.bipush 100, 2) := by decide +kernel
theorem dX0_putLast_30 : decode cX0_putLast 30 = .ok (.if_icmp .lt 4, 3) := by decide +kernel
theorem dX0_putLast_33 : decode cX0_putLast 33 = .ok (.return_, 1) := by decide +kernel
theorem dX0_putLast_34 : decode cX0_putLast 34 = .ok (.aload_n 0, 1) := by decide +kernel
theorem dX0_putLast_35 : decode cX0_putLast 35 = .ok (.getfield 18, 3) := by decide +kernel
theorem dX0_putLast_38 : decode cX0_putLast 38 = .ok (.getfield 27, 3) := by decide +kernel
theorem dX0_putLast_41 : decode cX0_putLast 41 = .ok (.iload_n 1, 1) := by decide +kernel
theorem dX0_putLast_42 : decode cX0_putLast 42 = .ok (.iaload, 1) := by decide +kernel
theorem dX0_putLast_43 : decode cX0_putLast 43 = .ok (.ifCond .ne 7, 3) := by decide +kernel
theorem dX0_putLast_46 : decode cX0_putLast 46 = .ok (.iconst 1, 1) := by decide +kernel
theorem dX0_putLast_47 : decode cX0_putLast 47 = .ok (.goto 4, 3) := by decide +kernel
theorem dX0_putLast_50 : decode cX0_putLast 50 = .ok (.iconst (-1), 1) := by decide +kernel
theorem dX0_putLast_51 : decode cX0_putLast 51 = .ok (.istore_n 3, 1) := by decide +kernel
theorem dX0_putLast_52 : decode cX0_putLast 52 = .ok (.iload_n 3, 1) := by decide +kernel
theorem dX0_putLast_53 : decode cX0_putLast 53 = .ok (.aload_n 0, 1) := by decide +kernel
theorem dX0_putLast_54 : decode cX0_putLast 54 = .ok (.getfield 18, 3) := by decide +kernel
theorem dX0_putLast_57 : decode cX0_putLast 57 = .ok (.getfield 34, 3) := by decide +kernel
theorem dX0_putLast_60 : decode cX0_putLast 60 = .ok (.iload_n 1, 1) := by decide +kernel
theorem dX0_putLast_61 : decode cX0_putLast 61 = .ok (.iaload, 1) := by decide +kernel
theorem dX0_putLast_62 : decode cX0_putLast 62 = .ok (.imul, 1) := by decide +kernel
theorem dX0_putLast_63 : decode cX0_putLast 63 = .ok (.istore 4, 2) := by decide +kernel
theorem dX0_putLast_65 : decode cX0_putLast 65 = .ok (.iload_n 2, 1) := by decide +kernel
theorem dX0_putLast_66 : decode cX0_putLast 66 = .ok (.bipush 100, 2) := by decide +kernel
theorem dX0_putLast_68 : decode cX0_putLast 68 = .ok (.imul, 1) := by decide +kernel
theorem dX0_putLast_69 : decode cX0_putLast 69 = .ok (.istore 5, 2) := by decide +kernel
theorem dX0_putLast_71 : decode cX0_putLast 71 = .ok (.iload 5, 2) := by decide +kernel
theorem dX0_putLast_73 : decode cX0_putLast 73 = .ok (.aload_n 0, 1) := by decide +kernel
theorem dX0_putLast_74 : decode cX0_putLast 74 = .ok (.getfield 15, 3) := by decide +kernel
theorem dX0_putLast_77 : decode cX0_putLast 77 = .ok (.iload_n 2, 1) := by decide +kernel
theorem dX0_putLast_78 : decode cX0_putLast 78 = .ok (.iaload, 1) := by decide +kernel
theorem dX0_putLast_79 : decode cX0_putLast 79 = .ok (.iadd, 1) := by decide +kernel
theorem dX0_putLast_80 : decode cX0_putLast 80 = .ok (.istore 6, 2) := by decide +kernel
theorem dX0_putLast_82 : decode cX0_putLast 82 = .ok (.iload 6, 2) := by decide +kernel
theorem dX0_putLast_84 : decode cX0_putLast 84 = .ok (.iload 5, 2) := by decide +kernel
theorem dX0_putLast_86 : decode cX0_putLast 86 = .ok (.if_icmp .le 49, 3) := by decide +kernel
theorem dX0_putLast_89 : decode cX0_putLast 89 = .ok (.iload_n 3, 1) := by decide +kernel
theorem dX0_putLast_90 : decode cX0_putLast 90 = .ok (.aload_n 0, 1) := by decide +kernel
theorem dX0_putLast_91 : decode cX0_putLast 91 = .ok (.getfield 18, 3) := by decide +kernel
theorem dX0_putLast_94 : decode cX0_putLast 94 = .ok (.getfield 34, 3) := by decide +kernel
theorem dX0_putLast_97 : decode cX0_putLast 97 = .ok (.aload_n 0, 1) := by decide +kernel
theorem dX0_putLast_98 : decode cX0_putLast 98 = .ok (.getfield 9, 3) := by decide +kernel
theorem dX0_putLast_101 : decode cX0_putLast 101 = .ok (.iload 6, 2) := by decide +kernel
theorem dX0_putLast_103 : decode cX0_putLast 103 = .ok (.iconst 1, 1) := by decide +kernel
theorem dX0_putLast_104 : decode cX0_putLast 104 = .ok (.isub, 1) := by decide +kernel
theorem dX0_putLast_105 : decode cX0_putLast 105 = .ok (.iaload, 1) := by decide +kernel
theorem dX0_putLast_106 : decode cX0_putLast 106 = .ok (.iaload, 1) := by decide +kernel
theorem dX0_putLast_107 : decode cX0_putLast 107 = .ok (.imul, 1) := by decide +kernel
theorem dX0_putLast_108 : decode cX0_putLast 108 = .ok (.iload 4, 2) := by decide +kernel
theorem dX0_putLast_110 : decode cX0_putLast 110 = .ok (.if_icmp .lt 25, 3) := by decide +kernel
theorem dX0_putLast_113 : decode cX0_putLast 113 = .ok (.aload_n 0, 1) := by decide +kernel
theorem dX0_putLast_114 : decode cX0_putLast 114 = .ok (.getfield 9, 3) := by decide +kernel
theorem dX0_putLast_117 : decode cX0_putLast 117 = .ok (.iload 6, 2) := by decide +kernel
theorem dX0_putLast_119 : decode cX0_putLast 119 = .ok (.aload_n 0, 1) := by decide +kernel
theorem dX0_putLast_120 : decode cX0_putLast 120 = .ok (.getfield 9, 3) := by decide +kernel
theorem dX0_putLast_123 : decode cX0_putLast 123 = .ok (.iload 6, 2) := by decide +kernel
theorem dX0_putLast_125 : decode cX0_putLast 125 = .ok (.iconst 1, 1) := by decide +kernel
theorem dX0_putLast_126 : decode cX0_putLast 126 = .ok (.isub, 1) := by decide +kernel
theorem dX0_putLast_127 : decode cX0_putLast 127 = .ok (.iaload, 1) := by decide +kernel
theorem dX0_putLast_128 : decode cX0_putLast 128 = .ok (.iastore, 1) := by decide +kernel
theorem dX0_putLast_129 : decode cX0_putLast 129 = .ok (.iinc 6 (-1), 3) := by decide +kernel
theorem dX0_putLast_132 : decode cX0_putLast 132 = .ok (.goto (-50), 3) := by decide +kernel
theorem dX0_putLast_135 : decode cX0_putLast 135 = .ok (.aload_n 0, 1) := by decide +kernel
theorem dX0_putLast_136 : decode cX0_putLast 136 = .ok (.getfield 9, 3) := by decide +kernel
theorem dX0_putLast_139 : decode cX0_putLast 139 = .ok (.iload 6, 2) := by decide +kernel
theorem dX0_putLast_141 : decode cX0_putLast 141 = .ok (.iload_n 1, 1) := by decide +kernel
theorem dX0_putLast_142 : decode cX0_putLast 142 = .ok (.iastore, 1) := by decide +kernel
theorem dX0_putLast_143 : decode cX0_putLast 143 = .ok (.aload_n 0, 1) := by decide +kernel
theorem dX0_putLast_144 : decode cX0_putLast 144 = .ok (.getfield 15, 3) := by decide +kernel
theorem dX0_putLast_147 : decode cX0_putLast 147 = .ok (.iload_n 2, 1) := by decide +kernel
theorem dX0_putLast_148 : decode cX0_putLast 148 = .ok (.dup2, 1) := by decide +kernel
theorem dX0_putLast_149 : decode cX0_putLast 149 = .ok (.iaload, 1) := by decide +kernel
theorem dX0_putLast_150 : decode cX0_putLast 150 = .ok (.iconst 1, 1) := by decide +kernel
theorem dX0_putLast_151 : decode cX0_putLast 151 = .ok (.iadd, 1) := by decide +kernel
theorem dX0_putLast_152 : decode cX0_putLast 152 = .ok (.iastore, 1) := by decide +kernel
theorem dX0_putLast_153 : decode cX0_putLast 153 = .ok (.return_, 1) := by decide +kernel
set_option maxRecDepth 20000 in
theorem ggX0_drop_X0_bookOf : GoodIn wsX0_drop wsX0_bookOf := goodIn_r _ [9] (by decide +kernel) (by decide +kernel)
set_option maxRecDepth 20000 in
theorem gX0_drop_X0_bookOf : GoodIn wsX0_drop (va_wsS RX0 30 yX0_bookOf wsX0_bookOf) := goodIn_app (goodIn_of _ (by decide +kernel)) ggX0_drop_X0_bookOf
theorem dX0_drop_0 : decode cX0_drop 0 = .ok (.aload_n 0, 1) := by decide +kernel
theorem dX0_drop_1 : decode cX0_drop 1 = .ok (.getfield 18, 3) := by decide +kernel
theorem dX0_drop_4 : decode cX0_drop 4 = .ok (.getfield 22, 3) := by decide +kernel
theorem dX0_drop_7 : decode cX0_drop 7 = .ok (.iload_n 1, 1) := by decide +kernel
theorem dX0_drop_8 : decode cX0_drop 8 = .ok (.iaload, 1) := by decide +kernel
theorem dX0_drop_9 : decode cX0_drop 9 = .ok (.aload_n 0, 1) := by decide +kernel
theorem dX0_drop_10 : decode cX0_drop 10 = .ok (.getfield 18, 3) := by decide +kernel
theorem dX0_drop_13 : decode cX0_drop 13 = .ok (.getfield 27, 3) := by decide +kernel
theorem dX0_drop_16 : decode cX0_drop 16 = .ok (.iload_n 1, 1) := by decide +kernel
theorem dX0_drop_17 : decode cX0_drop 17 = .ok (.iaload, 1) := by decide +kernel
theorem dX0_drop_18 : decode cX0_drop 18 = .ok (.invokestatic 30, 3) := by decide +kernel
theorem dX0_drop_21 : decode cX0_drop 21 = .ok (.istore_n 2, 1) := by decide +kernel
theorem dX0_drop_22 : decode cX0_drop 22 = .ok (.iload_n 2, 1) := by decide +kernel
theorem dX0_drop_23 : decode cX0_drop 23 = .ok (.bipush 100, 2) := by decide +kernel
theorem dX0_drop_25 : decode cX0_drop 25 = .ok (.imul, 1) := by decide +kernel
theorem dX0_drop_26 : decode cX0_drop 26 = .ok (.istore_n 3, 1) := by decide +kernel
theorem dX0_drop_27 : decode cX0_drop 27 = .ok (.iload_n 3, 1) := by decide +kernel
theorem dX0_drop_28 : decode cX0_drop 28 = .ok (.aload_n 0, 1) := by decide +kernel
theorem dX0_drop_29 : decode cX0_drop 29 = .ok (.getfield 15, 3) := by decide +kernel
theorem dX0_drop_32 : decode cX0_drop 32 = .ok (.iload_n 2, 1) := by decide +kernel
theorem dX0_drop_33 : decode cX0_drop 33 = .ok (.iaload, 1) := by decide +kernel
theorem dX0_drop_34 : decode cX0_drop 34 = .ok (.iadd, 1) := by decide +kernel
theorem dX0_drop_35 : decode cX0_drop 35 = .ok (.iconst 1, 1) := by decide +kernel
theorem dX0_drop_36 : decode cX0_drop 36 = .ok (.isub, 1) := by decide +kernel
theorem dX0_drop_37 : decode cX0_drop 37 = .ok (.istore 4, 2) := by decide +kernel
theorem dX0_drop_39 : decode cX0_drop 39 = .ok (.iload 4, 2) := by decide +kernel
theorem dX0_drop_41 : decode cX0_drop 41 = .ok (.istore 5, 2) := by decide +kernel
theorem dX0_drop_43 : decode cX0_drop 43 = .ok (.iload 5, 2) := by decide +kernel
theorem dX0_drop_45 : decode cX0_drop 45 = .ok (.iload_n 3, 1) := by decide +kernel
theorem dX0_drop_46 : decode cX0_drop 46 = .ok (.if_icmp .lt 20, 3) := by decide +kernel
theorem dX0_drop_49 : decode cX0_drop 49 = .ok (.aload_n 0, 1) := by decide +kernel
theorem dX0_drop_50 : decode cX0_drop 50 = .ok (.getfield 9, 3) := by decide +kernel
theorem dX0_drop_53 : decode cX0_drop 53 = .ok (.iload 5, 2) := by decide +kernel
theorem dX0_drop_55 : decode cX0_drop 55 = .ok (.iaload, 1) := by decide +kernel
theorem dX0_drop_56 : decode cX0_drop 56 = .ok (.iload_n 1, 1) := by decide +kernel
theorem dX0_drop_57 : decode cX0_drop 57 = .ok (.if_icmp .eq 9, 3) := by decide +kernel
theorem dX0_drop_60 : decode cX0_drop 60 = .ok (.iinc 5 (-1), 3) := by decide +kernel
theorem dX0_drop_63 : decode cX0_drop 63 = .ok (.goto (-20), 3) := by decide +kernel
theorem dX0_drop_66 : decode cX0_drop 66 = .ok (.iload 5, 2) := by decide +kernel
theorem dX0_drop_68 : decode cX0_drop 68 = .ok (.iload_n 3, 1) := by decide +kernel
theorem dX0_drop_69 : decode cX0_drop 69 = .ok (.if_icmp .ge 4, 3) := by decide +kernel
theorem dX0_drop_72 : decode cX0_drop 72 = .ok (.return_, 1) := by decide +kernel
theorem dX0_drop_73 : decode cX0_drop 73 = .ok (.iload 5, 2) := by decide +kernel
theorem dX0_drop_75 : decode cX0_drop 75 = .ok (.istore 6, 2) := by decide +kernel
theorem dX0_drop_77 : decode cX0_drop 77 = .ok (.iload 6, 2) := by decide +kernel
theorem dX0_drop_79 : decode cX0_drop 79 = .ok (.iload 4, 2) := by decide +kernel
theorem dX0_drop_81 : decode cX0_drop 81 = .ok (.if_icmp .ge 25, 3) := by decide +kernel
theorem dX0_drop_84 : decode cX0_drop 84 = .ok (.aload_n 0, 1) := by decide +kernel
theorem dX0_drop_85 : decode cX0_drop 85 = .ok (.getfield 9, 3) := by decide +kernel
theorem dX0_drop_88 : decode cX0_drop 88 = .ok (.iload 6, 2) := by decide +kernel
theorem dX0_drop_90 : decode cX0_drop 90 = .ok (.aload_n 0, 1) := by decide +kernel
theorem dX0_drop_91 : decode cX0_drop 91 = .ok (.getfield 9, 3) := by decide +kernel
theorem dX0_drop_94 : decode cX0_drop 94 = .ok (.iload 6, 2) := by decide +kernel
theorem dX0_drop_96 : decode cX0_drop 96 = .ok (.iconst 1, 1) := by decide +kernel
theorem dX0_drop_97 : decode cX0_drop 97 = .ok (.iadd, 1) := by decide +kernel
theorem dX0_drop_98 : decode cX0_drop 98 = .ok (.iaload, 1) := by decide +kernel
theorem dX0_drop_99 : decode cX0_drop 99 = .ok (.iastore, 1) := by decide +kernel
theorem dX0_drop_100 : decode cX0_drop 100 = .ok (.iinc 6 1, 3) := by decide +kernel
theorem dX0_drop_103 : decode cX0_drop 103 = .ok (.goto (-26), 3) := by decide +kernel
theorem dX0_drop_106 : decode cX0_drop 106 = .ok (.aload_n 0, 1) := by decide +kernel
theorem dX0_drop_107 : decode cX0_drop 107 = .ok (.getfield 15, 3) := by decide +kernel
theorem dX0_drop_110 : decode cX0_drop 110 = .ok (.iload_n 2, 1) := by decide +kernel
theorem dX0_drop_111 : decode cX0_drop 111 = .ok (.dup2, 1) := by decide +kernel
theorem dX0_drop_112 : decode cX0_drop 112 = .ok (.iaload, 1) := by decide +kernel
theorem dX0_drop_113 : decode cX0_drop 113 = .ok (.iconst 1, 1) := by decide +kernel
theorem dX0_drop_114 : decode cX0_drop 114 = .ok (.isub, 1) := by decide +kernel
theorem dX0_drop_115 : decode cX0_drop 115 = .ok (.iastore, 1) := by decide +kernel
theorem dX0_drop_116 : decode cX0_drop 116 = .ok (.return_, 1) := by decide +kernel
theorem dX0_countPrices_0 : decode cX0_countPrices 0 = .ok (.iconst 0, 1) := by decide +kernel
theorem dX0_countPrices_1 : decode cX0_countPrices 1 = .ok (.istore_n 2, 1) := by decide +kernel
theorem dX0_countPrices_2 : decode cX0_countPrices 2 = .ok (.iconst 0, 1) := by decide +kernel
theorem dX0_countPrices_3 : decode cX0_countPrices 3 = .ok (.istore_n 3, 1) := by decide +kernel
theorem dX0_countPrices_4 : decode cX0_countPrices 4 = .ok (.iconst 0, 1) := by decide +kernel
theorem dX0_countPrices_5 : decode cX0_countPrices 5 = .ok (.istore 4, 2) := by decide +kernel
theorem dX0_countPrices_7 : decode cX0_countPrices 7 = .ok (.iload 4, 2) := by decide +kernel
theorem dX0_countPrices_9 : decode cX0_countPrices 9 = .ok (.aload_n 0, 1) := by decide +kernel
theorem dX0_countPrices_10 : decode cX0_countPrices 10 = .ok (.getfield 15, 3) := by decide +kernel
theorem dX0_countPrices_13 : decode cX0_countPrices 13 = .ok (.iload_n 1, 1) := by decide +kernel
theorem dX0_countPrices_14 : decode cX0_countPrices 14 = .ok (.iaload, 1) := by decide +kernel
theorem dX0_countPrices_15 : decode cX0_countPrices 15 = .ok (.if_icmp .ge 43, 3) := by decide +kernel
theorem dX0_countPrices_18 : decode cX0_countPrices 18 = .ok (.aload_n 0, 1) := by decide +kernel
theorem dX0_countPrices_19 : decode cX0_countPrices 19 = .ok (.getfield 18, 3) := by decide +kernel
theorem dX0_countPrices_22 : decode cX0_countPrices 22 = .ok (.getfield 34, 3) := by decide +kernel
theorem dX0_countPrices_25 : decode cX0_countPrices 25 = .ok (.aload_n 0, 1) := by decide +kernel
theorem dX0_countPrices_26 : decode cX0_countPrices 26 = .ok (.getfield 9, 3) := by decide +kernel
theorem dX0_countPrices_29 : decode cX0_countPrices 29 = .ok (.iload_n 1, 1) := by decide +kernel
theorem dX0_countPrices_30 : decode cX0_countPrices 30 = .ok (.bipush 100, 2) := by decide +kernel
theorem dX0_countPrices_32 : decode cX0_countPrices 32 = .ok (.imul, 1) := by decide +kernel
theorem dX0_countPrices_33 : decode cX0_countPrices 33 = .ok (.iload 4, 2) := by decide +kernel
theorem dX0_countPrices_35 : decode cX0_countPrices 35 = .ok (.iadd, 1) := by decide +kernel
theorem dX0_countPrices_36 : decode cX0_countPrices 36 = .ok (.iaload, 1) := by decide +kernel
theorem dX0_countPrices_37 : decode cX0_countPrices 37 = .ok (.iaload, 1) := by decide +kernel
theorem dX0_countPrices_38 : decode cX0_countPrices 38 = .ok (.istore 5, 2) := by decide +kernel
theorem dX0_countPrices_40 : decode cX0_countPrices 40 = .ok (.iload 5, 2) := by decide +kernel
theorem dX0_countPrices_42 : decode cX0_countPrices 42 = .ok (.iload_n 3, 1) := by decide +kernel
theorem dX0_countPrices_43 : decode cX0_countPrices 43 = .ok (.if_icmp .eq 9, 3) := by decide +kernel
theorem dX0_countPrices_46 : decode cX0_countPrices 46 = .ok (.iinc 2 1, 3) := by decide +kernel
theorem dX0_countPrices_49 : decode cX0_countPrices 49 = .ok (.iload 5, 2) := by decide +kernel
theorem dX0_countPrices_51 : decode cX0_countPrices 51 = .ok (.istore_n 3, 1) := by decide +kernel
theorem dX0_countPrices_52 : decode cX0_countPrices 52 = .ok (.iinc 4 1, 3) := by decide +kernel
theorem dX0_countPrices_55 : decode cX0_countPrices 55 = .ok (.goto (-48), 3) := by decide +kernel
theorem dX0_countPrices_58 : decode cX0_countPrices 58 = .ok (.iload_n 2, 1) := by decide +kernel
theorem dX0_countPrices_59 : decode cX0_countPrices 59 = .ok (.ireturn, 1) := by decide +kernel
theorem dX0_priceOfLevel_0 : decode cX0_priceOfLevel 0 = .ok (.iconst (-1), 1) := by decide +kernel
theorem dX0_priceOfLevel_1 : decode cX0_priceOfLevel 1 = .ok (.istore_n 3, 1) := by decide +kernel
theorem dX0_priceOfLevel_2 : decode cX0_priceOfLevel 2 = .ok (.iconst 0, 1) := by decide +kernel
theorem dX0_priceOfLevel_3 : decode cX0_priceOfLevel 3 = .ok (.istore 4, 2) := by decide +kernel
theorem dX0_priceOfLevel_5 : decode cX0_priceOfLevel 5 = .ok (.aload_n 0, 1) := by decide +kernel
theorem dX0_priceOfLevel_6 : decode cX0_priceOfLevel 6 = .ok (.getfield 15, 3) := by decide +kernel
theorem dX0_priceOfLevel_9 : decode cX0_priceOfLevel 9 = .ok (.iload_n 1, 1) := by decide +kernel
theorem dX0_priceOfLevel_10 : decode cX0_priceOfLevel 10 = .ok (.iaload, 1) := by decide +kernel
theorem dX0_priceOfLevel_11 : decode cX0_priceOfLevel 11 = .ok (.iconst 1, 1) := by decide +kernel
theorem dX0_priceOfLevel_12 : decode cX0_priceOfLevel 12 = .ok (.isub, 1) := by decide +kernel
theorem dX0_priceOfLevel_13 : decode cX0_priceOfLevel 13 = .ok (.istore 5, 2) := by decide +kernel
theorem dX0_priceOfLevel_15 : decode cX0_priceOfLevel 15 = .ok (.iload 5, 2) := by decide +kernel
theorem dX0_priceOfLevel_17 : decode cX0_priceOfLevel 17 = .ok (.ifCond .lt 53, 3) := by decide +kernel
theorem dX0_priceOfLevel_20 : decode cX0_priceOfLevel 20 = .ok (.aload_n 0, 1) := by decide +kernel
theorem dX0_priceOfLevel_21 : decode cX0_priceOfLevel 21 = .ok (.getfield 18, 3) := by decide +kernel
theorem dX0_priceOfLevel_24 : decode cX0_priceOfLevel 24 = .ok (.getfield 34, 3) := by decide +kernel
theorem dX0_priceOfLevel_27 : decode cX0_priceOfLevel 27 = .ok (.aload_n 0, 1) := by decide +kernel
theorem dX0_priceOfLevel_28 : decode cX0_priceOfLevel 28 = .ok (.getfield 9, 3) := by decide +kernel
theorem dX0_priceOfLevel_31 : decode cX0_priceOfLevel 31 = .ok (.iload_n 1, 1) := by decide +kernel
theorem dX0_priceOfLevel_32 : decode cX0_priceOfLevel 32 = .ok (.bipush 100, 2) := by decide +kernel
theorem dX0_priceOfLevel_34 : decode cX0_priceOfLevel 34 = .ok (.imul, 1) := by decide +kernel
theorem dX0_priceOfLevel_35 : decode cX0_priceOfLevel 35 = .ok (.iload 5, 2) := by decide +kernel
theorem dX0_priceOfLevel_37 : decode cX0_priceOfLevel 37 = .ok (.iadd, 1) := by decide +kernel
theorem dX0_priceOfLevel_38 : decode cX0_priceOfLevel 38 = .ok (.iaload, 1) := by decide +kernel
theorem dX0_priceOfLevel_39 : decode cX0_priceOfLevel 39 = .ok (.iaload, 1) := by decide +kernel
theorem dX0_priceOfLevel_40 : decode cX0_priceOfLevel 40 = .ok (.istore 6, 2) := by decide +kernel
theorem dX0_priceOfLevel_42 : decode cX0_priceOfLevel 42 = .ok (.iload 6, 2) := by decide +kernel
theorem dX0_priceOfLevel_44 : decode cX0_priceOfLevel 44 = .ok (.iload 4, 2) := by decide +kernel
theorem dX0_priceOfLevel_46 : decode cX0_priceOfLevel 46 = .ok (.if_icmp .eq 10, 3) := by decide +kernel
theorem dX0_priceOfLevel_49 : decode cX0_priceOfLevel 49 = .ok (.iinc 3 1, 3) := by decide +kernel
theorem dX0_priceOfLevel_52 : decode cX0_priceOfLevel 52 = .ok (.iload 6, 2) := by decide +kernel
theorem dX0_priceOfLevel_54 : decode cX0_priceOfLevel 54 = .ok (.istore 4, 2) := by decide +kernel
theorem dX0_priceOfLevel_56 : decode cX0_priceOfLevel 56 = .ok (.iload_n 3, 1) := by decide +kernel
theorem dX0_priceOfLevel_57 : decode cX0_priceOfLevel 57 = .ok (.iload_n 2, 1) := by decide +kernel
theorem dX0_priceOfLevel_58 : decode cX0_priceOfLevel 58 = .ok (.if_icmp .ne 6, 3) := by decide +kernel
theorem dX0_priceOfLevel_61 : decode cX0_priceOfLevel 61 = .ok (.iload 6, 2) := by decide +kernel
theorem dX0_priceOfLevel_63 : decode cX0_priceOfLevel 63 = .ok (.ireturn, 1) := by decide +kernel
theorem dX0_priceOfLevel_64 : decode cX0_priceOfLevel 64 = .ok (.iinc 5 (-1), 3) := by decide +kernel
theorem dX0_priceOfLevel_67 : decode cX0_priceOfLevel 67 = .ok (.goto (-52), 3) := by decide +kernel
theorem dX0_priceOfLevel_70 : decode cX0_priceOfLevel 70 = .ok (.iconst (-1), 1) := by decide +kernel
theorem dX0_priceOfLevel_71 : decode cX0_priceOfLevel 71 = .ok (.ireturn, 1) := by decide +kernel
theorem dX0_countOrders_0 : decode cX0_countOrders 0 = .ok (.iconst 0, 1) := by decide +kernel
theorem dX0_countOrders_1 : decode cX0_countOrders 1 = .ok (.istore_n 3, 1) := by decide +kernel
theorem dX0_countOrders_2 : decode cX0_countOrders 2 = .ok (.iconst 0, 1) := by decide +kernel
theorem dX0_countOrders_3 : decode cX0_countOrders 3 = .ok (.istore 4, 2) := by decide +kernel
theorem dX0_countOrders_5 : decode cX0_countOrders 5 = .ok (.iload 4, 2) := by decide +kernel
theorem dX0_countOrders_7 : decode cX0_countOrders 7 = .ok (.aload_n 0, 1) := by decide +kernel
theorem dX0_countOrders_8 : decode cX0_countOrders 8 = .ok (.getfield 15, 3) := by decide +kernel
theorem dX0_countOrders_11 : decode cX0_countOrders 11 = .ok (.iload_n 1, 1) := by decide +kernel
theorem dX0_countOrders_12 : decode cX0_countOrders 12 = .ok (.iaload, 1) := by decide +kernel
theorem dX0_countOrders_13 : decode cX0_countOrders 13 = .ok (.if_icmp .ge 36, 3) := by decide +kernel
theorem dX0_countOrders_16 : decode cX0_countOrders 16 = .ok (.aload_n 0, 1) := by decide +kernel
theorem dX0_countOrders_17 : decode cX0_countOrders 17 = .ok (.getfield 18, 3) := by decide +kernel
theorem dX0_countOrders_20 : decode cX0_countOrders 20 = .ok (.getfield 34, 3) := by decide +kernel
theorem dX0_countOrders_23 : decode cX0_countOrders 23 = .ok (.aload_n 0, 1) := by decide +kernel
theorem dX0_countOrders_24 : decode cX0_countOrders 24 = .ok (.getfield 9, 3) := by decide +kernel
theorem dX0_countOrders_27 : decode cX0_countOrders 27 = .ok (.iload_n 1, 1) := by decide +kernel
theorem dX0_countOrders_28 : decode cX0_countOrders 28 = .ok (.bipush 100, 2) := by decide +kernel
theorem dX0_countOrders_30 : decode cX0_countOrders 30 = .ok (.imul, 1) := by decide +kernel
theorem dX0_countOrders_31 : decode cX0_countOrders 31 = .ok (.iload 4, 2) := by decide +kernel
theorem dX0_countOrders_33 : decode cX0_countOrders 33 = .ok (.iadd, 1) := by decide +kernel
theorem dX0_countOrders_34 : decode cX0_countOrders 34 = .ok (.iaload, 1) := by decide +kernel
theorem dX0_countOrders_35 : decode cX0_countOrders 35 = .ok (.iaload, 1) := by decide +kernel
theorem dX0_countOrders_36 : decode cX0_countOrders 36 = .ok (.iload_n 2, 1) := by decide +kernel
theorem dX0_countOrders_37 : decode cX0_countOrders 37 = .ok (.if_icmp .ne 6, 3) := by decide +kernel
theorem dX0_countOrders_40 : decode cX0_countOrders 40 = .ok (.iinc 3 1, 3) := by decide +kernel
theorem dX0_countOrders_43 : decode cX0_countOrders 43 = .ok (.iinc 4 1, 3) := by decide +kernel
theorem dX0_countOrders_46 : decode cX0_countOrders 46 = .ok (.goto (-41), 3) := by decide +kernel
theorem dX0_countOrders_49 : decode cX0_countOrders 49 = .ok (.iload_n 3, 1) := by decide +kernel
theorem dX0_countOrders_50 : decode cX0_countOrders 50 = .ok (.ireturn, 1) := by decide +kernel
theorem dX0_sumLeft_0 : decode cX0_sumLeft 0 = .ok (.iconst 0, 1) := by decide +kernel
theorem dX0_sumLeft_1 : decode cX0_sumLeft 1 = .ok (.istore_n 3, 1) := by decide +kernel
theorem dX0_sumLeft_2 : decode cX0_sumLeft 2 = .ok (.iconst 0, 1) := by decide +kernel
theorem dX0_sumLeft_3 : decode cX0_sumLeft 3 = .ok (.istore 4, 2) := by decide +kernel
theorem dX0_sumLeft_5 : decode cX0_sumLeft 5 = .ok (.iload 4, 2) := by decide +kernel
theorem dX0_sumLeft_7 : decode cX0_sumLeft 7 = .ok (.aload_n 0, 1) := by decide +kernel
theorem dX0_sumLeft_8 : decode cX0_sumLeft 8 = .ok (.getfield 15, 3) := by decide +kernel
theorem dX0_sumLeft_11 : decode cX0_sumLeft 11 = .ok (.iload_n 1, 1) := by decide +kernel
theorem dX0_sumLeft_12 : decode cX0_sumLeft 12 = .ok (.iaload, 1) := by decide +kernel
theorem dX0_sumLeft_13 : decode cX0_sumLeft 13 = .ok (.if_icmp .ge 50, 3) := by decide +kernel
theorem dX0_sumLeft_16 : decode cX0_sumLeft 16 = .ok (.aload_n 0, 1) := by decide +kernel
theorem dX0_sumLeft_17 : decode cX0_sumLeft 17 = .ok (.getfield 9, 3) := by decide +kernel
theorem dX0_sumLeft_20 : decode cX0_sumLeft 20 = .ok (.iload_n 1, 1) := by decide +kernel
theorem dX0_sumLeft_21 : decode cX0_sumLeft 21 = .ok (.bipush 100, 2) := by decide +kernel
theorem dX0_sumLeft_23 : decode cX0_sumLeft 23 = .ok (.imul, 1) := by decide +kernel
theorem dX0_sumLeft_24 : decode cX0_sumLeft 24 = .ok (.iload 4, 2) := by decide +kernel
theorem dX0_sumLeft_26 : decode cX0_sumLeft 26 = .ok (.iadd, 1) := by decide +kernel
theorem dX0_sumLeft_27 : decode cX0_sumLeft 27 = .ok (.iaload, 1) := by decide +kernel
theorem dX0_sumLeft_28 : decode cX0_sumLeft 28 = .ok (.istore 5, 2) := by decide +kernel
theorem dX0_sumLeft_30 : decode cX0_sumLeft 30 = .ok (.aload_n 0, 1) := by decide +kernel
theorem dX0_sumLeft_31 : decode cX0_sumLeft 31 = .ok (.getfield 18, 3) := by decide +kernel
theorem dX0_sumLeft_34 : decode cX0_sumLeft 34 = .ok (.getfield 34, 3) := by decide +kernel
theorem dX0_sumLeft_37 : decode cX0_sumLeft 37 = .ok (.iload 5, 2) := by decide +kernel
theorem dX0_sumLeft_39 : decode cX0_sumLeft 39 = .ok (.iaload, 1) := by decide +kernel
theorem dX0_sumLeft_40 : decode cX0_sumLeft 40 = .ok (.iload_n 2, 1) := by decide +kernel
theorem dX0_sumLeft_41 : decode cX0_sumLeft 41 = .ok (.if_icmp .ne 16, 3) := by decide +kernel
theorem dX0_sumLeft_44 : decode cX0_sumLeft 44 = .ok (.iload_n 3, 1) := by decide +kernel
theorem dX0_sumLeft_45 : decode cX0_sumLeft 45 = .ok (.aload_n 0, 1) := by decide +kernel
theorem dX0_sumLeft_46 : decode cX0_sumLeft 46 = .ok (.getfield 18, 3) := by decide +kernel
theorem dX0_sumLeft_49 : decode cX0_sumLeft 49 = .ok (.getfield 37, 3) := by decide +kernel
theorem dX0_sumLeft_52 : decode cX0_sumLeft 52 = .ok (.iload 5, 2) := by decide +kernel
theorem dX0_sumLeft_54 : decode cX0_sumLeft 54 = .ok (.iaload, 1) := by decide +kernel
theorem dX0_sumLeft_55 : decode cX0_sumLeft 55 = .ok (.iadd, 1) := by decide +kernel
theorem dX0_sumLeft_56 : decode cX0_sumLeft 56 = .ok (.istore_n 3, 1) := by decide +kernel
theorem dX0_sumLeft_57 : decode cX0_sumLeft 57 = .ok (.iinc 4 1, 3) := by decide +kernel
theorem dX0_sumLeft_60 : decode cX0_sumLeft 60 = .ok (.goto (-55), 3) := by decide +kernel
theorem dX0_sumLeft_63 : decode cX0_sumLeft 63 = .ok (.iload_n 3, 1) := by decide +kernel
theorem dX0_sumLeft_64 : decode cX0_sumLeft 64 = .ok (.ireturn, 1) := by decide +kernel
theorem dX0_sumShown_0 : decode cX0_sumShown 0 = .ok (.iconst 0, 1) := by decide +kernel
theorem dX0_sumShown_1 : decode cX0_sumShown 1 = .ok (.istore 4, 2) := by decide +kernel
theorem dX0_sumShown_3 : decode cX0_sumShown 3 = .ok (.aload_n 0, 1) := by decide +kernel
theorem dX0_sumShown_4 : decode cX0_sumShown 4 = .ok (.getfield 15, 3) := by decide +kernel
theorem dX0_sumShown_7 : decode cX0_sumShown 7 = .ok (.iload_n 1, 1) := by decide +kernel
theorem dX0_sumShown_8 : decode cX0_sumShown 8 = .ok (.iaload, 1) := by decide +kernel
theorem dX0_sumShown_9 : decode cX0_sumShown 9 = .ok (.iconst 1, 1) := by decide +kernel
theorem dX0_sumShown_10 : decode cX0_sumShown 10 = .ok (.isub, 1) := by decide +kernel
theorem dX0_sumShown_11 : decode cX0_sumShown 11 = .ok (.istore 5, 2) := by decide +kernel
theorem dX0_sumShown_13 : decode cX0_sumShown 13 = .ok (.iload 5, 2) := by decide +kernel
theorem dX0_sumShown_15 : decode cX0_sumShown 15 = .ok (.ifCond .lt 61, 3) := by decide +kernel
theorem dX0_sumShown_18 : decode cX0_sumShown 18 = .ok (.aload_n 0, 1) := by decide +kernel
theorem dX0_sumShown_19 : decode cX0_sumShown 19 = .ok (.getfield 9, 3) := by decide +kernel
theorem dX0_sumShown_22 : decode cX0_sumShown 22 = .ok (.iload_n 1, 1) := by decide +kernel
theorem dX0_sumShown_23 : decode cX0_sumShown 23 = .ok (.bipush 100, 2) := by decide +kernel
theorem dX0_sumShown_25 : decode cX0_sumShown 25 = .ok (.imul, 1) := by decide +kernel
theorem dX0_sumShown_26 : decode cX0_sumShown 26 = .ok (.iload 5, 2) := by decide +kernel
theorem dX0_sumShown_28 : decode cX0_sumShown 28 = .ok (.iadd, 1) := by decide +kernel
theorem dX0_sumShown_29 : decode cX0_sumShown 29 = .ok (.iaload, 1) := by decide +kernel
theorem dX0_sumShown_30 : decode cX0_sumShown 30 = .ok (.istore 6, 2) := by decide +kernel
theorem dX0_sumShown_32 : decode cX0_sumShown 32 = .ok (.iload 6, 2) := by decide +kernel
theorem dX0_sumShown_34 : decode cX0_sumShown 34 = .ok (.iload_n 3, 1) := by decide +kernel
theorem dX0_sumShown_35 : decode cX0_sumShown 35 = .ok (.if_icmp .ne 6, 3) := by decide +kernel
theorem dX0_sumShown_38 : decode cX0_sumShown 38 = .ok (.iload 4, 2) := by decide +kernel
theorem dX0_sumShown_40 : decode cX0_sumShown 40 = .ok (.ireturn, 1) := by decide +kernel
theorem dX0_sumShown_41 : decode cX0_sumShown 41 = .ok (.aload_n 0, 1) := by decide +kernel
theorem dX0_sumShown_42 : decode cX0_sumShown 42 = .ok (.getfield 18, 3) := by decide +kernel
theorem dX0_sumShown_45 : decode cX0_sumShown 45 = .ok (.getfield 34, 3) := by decide +kernel
theorem dX0_sumShown_48 : decode cX0_sumShown 48 = .ok (.iload 6, 2) := by decide +kernel
theorem dX0_sumShown_50 : decode cX0_sumShown 50 = .ok (.iaload, 1) := by decide +kernel
theorem dX0_sumShown_51 : decode cX0_sumShown 51 = .ok (.iload_n 2, 1) := by decide +kernel
theorem dX0_sumShown_52 : decode cX0_sumShown 52 = .ok (.if_icmp .ne 18, 3) := by decide +kernel
theorem dX0_sumShown_55 : decode cX0_sumShown 55 = .ok (.iload 4, 2) := by decide +kernel
theorem dX0_sumShown_57 : decode cX0_sumShown 57 = .ok (.aload_n 0, 1) := by decide +kernel
theorem dX0_sumShown_58 : decode cX0_sumShown 58 = .ok (.getfield 18, 3) := by decide +kernel
theorem dX0_sumShown_61 : decode cX0_sumShown 61 = .ok (.getfield 40, 3) := by decide +kernel
theorem dX0_sumShown_64 : decode cX0_sumShown 64 = .ok (.iload 6, 2) := by decide +kernel
theorem dX0_sumShown_66 : decode cX0_sumShown 66 = .ok (.iaload, 1) := by decide +kernel
theorem dX0_sumShown_67 : decode cX0_sumShown 67 = .ok (.iadd, 1) := by decide +kernel
theorem dX0_sumShown_68 : decode cX0_sumShown 68 = .ok (.istore 4, 2) := by decide +kernel
theorem dX0_sumShown_70 : decode cX0_sumShown 70 = .ok (.iinc 5 (-1), 3) := by decide +kernel
theorem dX0_sumShown_73 : decode cX0_sumShown 73 = .ok (.goto (-60), 3) := by decide +kernel
theorem dX0_sumShown_76 : decode cX0_sumShown 76 = .ok (.iload 4, 2) := by decide +kernel
theorem dX0_sumShown_78 : decode cX0_sumShown 78 = .ok (.ireturn, 1) := by decide +kernel
theorem dX1_init_0 : decode cX1_init 0 = .ok (.aload_n 0, 1) := by decide +kernel
theorem dX1_init_1 : decode cX1_init 1 = .ok (.invokespecial 3, 3) := by decide +kernel
theorem dX1_init_4 : decode cX1_init 4 = .ok (.aload_n 0, 1) := by decide +kernel
theorem dX1_init_5 : decode cX1_init 5 = .ok (.sipush 512, 3) := by decide +kernel
theorem dX1_init_8 : decode cX1_init 8 = .ok (.newarray .long, 2) := by decide +kernel
theorem dX1_init_10 : decode cX1_init 10 = .ok (.putfield 9, 3) := by decide +kernel
theorem dX1_init_13 : decode cX1_init 13 = .ok (.aload_n 0, 1) := by decide +kernel
theorem dX1_init_14 : decode cX1_init 14 = .ok (.sipush 512, 3) := by decide +kernel
theorem dX1_init_17 : decode cX1_init 17 = .ok (.newarray .long, 2) := by decide +kernel
theorem dX1_init_19 : decode cX1_init 19 = .ok (.putfield 15, 3) := by decide +kernel
theorem dX1_init_22 : decode cX1_init 22 = .ok (.aload_n 0, 1) := by decide +kernel
theorem dX1_init_23 : decode cX1_init 23 = .ok (.sipush 2048, 3) := by decide +kernel
theorem dX1_init_26 : decode cX1_init 26 = .ok (.newarray .int, 2) := by decide +kernel
theorem dX1_init_28 : decode cX1_init 28 = .ok (.putfield 18, 3) := by decide +kernel
theorem dX1_init_31 : decode cX1_init 31 = .ok (.aload_n 0, 1) := by decide +kernel
theorem dX1_init_32 : decode cX1_init 32 = .ok (.sipush 2048, 3) := by decide +kernel
theorem dX1_init_35 : decode cX1_init 35 = .ok (.newarray .int, 2) := by decide +kernel
theorem dX1_init_37 : decode cX1_init 37 = .ok (.putfield 22, 3) := by decide +kernel
theorem dX1_init_40 : decode cX1_init 40 = .ok (.aload_n 0, 1) := by decide +kernel
theorem dX1_init_41 : decode cX1_init 41 = .ok (.sipush 2048, 3) := by decide +kernel
theorem dX1_init_44 : decode cX1_init 44 = .ok (.newarray .int, 2) := by decide +kernel
theorem dX1_init_46 : decode cX1_init 46 = .ok (.putfield 25, 3) := by decide +kernel
theorem dX1_init_49 : decode cX1_init 49 = .ok (.aload_n 0, 1) := by decide +kernel
theorem dX1_init_50 : decode cX1_init 50 = .ok (.sipush 2048, 3) := by decide +kernel
theorem dX1_init_53 : decode cX1_init 53 = .ok (.newarray .int, 2) := by decide +kernel
theorem dX1_init_55 : decode cX1_init 55 = .ok (.putfield 28, 3) := by decide +kernel
theorem dX1_init_58 : decode cX1_init 58 = .ok (.aload_n 0, 1) := by decide +kernel
theorem dX1_init_59 : decode cX1_init 59 = .ok (.sipush 512, 3) := by decide +kernel
theorem dX1_init_62 : decode cX1_init 62 = .ok (.newarray .boolean, 2) := by decide +kernel
theorem dX1_init_64 : decode cX1_init 64 = .ok (.putfield 31, 3) := by decide +kernel
theorem dX1_init_67 : decode cX1_init 67 = .ok (.aload_n 0, 1) := by decide +kernel
theorem dX1_init_68 : decode cX1_init 68 = .ok (.iconst 0, 1) := by decide +kernel
theorem dX1_init_69 : decode cX1_init 69 = .ok (.putfield 35, 3) := by decide +kernel
theorem dX1_init_72 : decode cX1_init 72 = .ok (.return_, 1) := by decide +kernel
theorem dX1_placeOf_0 : decode cX1_placeOf 0 = .ok (.iload_n 0, 1) := by decide +kernel
theorem dX1_placeOf_1 : decode cX1_placeOf 1 = .ok (.iconst 4, 1) := by decide +kernel
theorem dX1_placeOf_2 : decode cX1_placeOf 2 = .ok (.imul, 1) := by decide +kernel
theorem dX1_placeOf_3 : decode cX1_placeOf 3 = .ok (.iload_n 1, 1) := by decide +kernel
theorem dX1_placeOf_4 : decode cX1_placeOf 4 = .ok (.iadd, 1) := by decide +kernel
theorem dX1_placeOf_5 : decode cX1_placeOf 5 = .ok (.ireturn, 1) := by decide +kernel
theorem dX1_know_0 : decode cX1_know 0 = .ok (.aload_n 0, 1) := by decide +kernel
theorem dX1_know_1 : decode cX1_know 1 = .ok (.getfield 31, 3) := by decide +kernel
theorem dX1_know_4 : decode cX1_know 4 = .ok (.iload_n 1, 1) := by decide +kernel
theorem dX1_know_5 : decode cX1_know 5 = .ok (.baload, 1) := by decide +kernel
theorem dX1_know_6 : decode cX1_know 6 = .ok (.ifCond .ne 20, 3) := by decide +kernel
theorem dX1_know_9 : decode cX1_know 9 = .ok (.aload_n 0, 1) := by decide +kernel
theorem dX1_know_10 : decode cX1_know 10 = .ok (.getfield 31, 3) := by decide +kernel
theorem dX1_know_13 : decode cX1_know 13 = .ok (.iload_n 1, 1) := by decide +kernel
theorem dX1_know_14 : decode cX1_know 14 = .ok (.iconst 1, 1) := by decide +kernel
theorem dX1_know_15 : decode cX1_know 15 = .ok (.bastore, 1) := by decide +kernel
theorem dX1_know_16 : decode cX1_know 16 = .ok (.aload_n 0, 1) := by decide +kernel
theorem dX1_know_17 : decode cX1_know 17 = .ok (.dup, 1) := by decide +kernel
theorem dX1_know_18 : decode cX1_know 18 = .ok (.getfield 35, 3) := by decide +kernel
theorem dX1_know_21 : decode cX1_know 21 = .ok (.iconst 1, 1) := by decide +kernel
theorem dX1_know_22 : decode cX1_know 22 = .ok (.iadd, 1) := by decide +kernel
theorem dX1_know_23 : decode cX1_know 23 = .ok (.putfield 35, 3) := by decide +kernel
theorem dX1_know_26 : decode cX1_know 26 = .ok (.return_, 1) := by decide +kernel
theorem dX1_freeCash_0 : decode cX1_freeCash 0 = .ok (.aload_n 0, 1) := by decide +kernel
theorem dX1_freeCash_1 : decode cX1_freeCash 1 = .ok (.getfield 9, 3) := by decide +kernel
theorem dX1_freeCash_4 : decode cX1_freeCash 4 = .ok (.iload_n 1, 1) := by decide +kernel
theorem dX1_freeCash_5 : decode cX1_freeCash 5 = .ok (.laload, 1) := by decide +kernel
theorem dX1_freeCash_6 : decode cX1_freeCash 6 = .ok (.aload_n 0, 1) := by decide +kernel
theorem dX1_freeCash_7 : decode cX1_freeCash 7 = .ok (.getfield 15, 3) := by decide +kernel
theorem dX1_freeCash_10 : decode cX1_freeCash 10 = .ok (.iload_n 1, 1) := by decide +kernel
theorem dX1_freeCash_11 : decode cX1_freeCash 11 = .ok (.laload, 1) := by decide +kernel
theorem dX1_freeCash_12 : decode cX1_freeCash 12 = .ok (.lsub, 1) := by decide +kernel
theorem dX1_freeCash_13 : decode cX1_freeCash 13 = .ok (.lreturn, 1) := by decide +kernel
set_option maxRecDepth 20000 in
theorem ggX1_canHold_X1_freeCash : GoodIn wsX1_canHold wsX1_freeCash := goodIn_r _ [7, 8, 9, 13, 14, 15, 16, 17, 18, 19, 20] (by decide +kernel) (by decide +kernel)
set_option maxRecDepth 20000 in
theorem gX1_canHold_X1_freeCash : GoodIn wsX1_canHold (wsV RX1 39 RX1 yX1_freeCash wsX1_freeCash) := goodIn_app (goodIn_of _ (by decide +kernel)) ggX1_canHold_X1_freeCash
set_option maxRecDepth 20000 in
theorem ggX1_canHold_X1_placeOf : GoodIn wsX1_canHold wsX1_placeOf := goodIn_r _ [12] (by decide +kernel) (by decide +kernel)
set_option maxRecDepth 20000 in
theorem gX1_canHold_X1_placeOf : GoodIn wsX1_canHold (va_wsS RX1 43 yX1_placeOf wsX1_placeOf) := goodIn_app (goodIn_of _ (by decide +kernel)) ggX1_canHold_X1_placeOf
theorem dX1_canHold_0 : decode cX1_canHold 0 = .ok (.iload_n 3, 1) := by decide +kernel
theorem dX1_canHold_1 : decode cX1_canHold 1 = .ok (.ifCond .ne 25, 3) := by decide +kernel
theorem dX1_canHold_4 : decode cX1_canHold 4 = .ok (.aload_n 0, 1) := by decide +kernel
theorem dX1_canHold_5 : decode cX1_canHold 5 = .ok (.iload_n 1, 1) := by decide +kernel
theorem dX1_canHold_6 : decode cX1_canHold 6 = .ok (.invokevirtual 39, 3) := by decide +kernel
theorem dX1_canHold_9 : decode cX1_canHold 9 = .ok (.iload 4, 2) := by decide +kernel
theorem dX1_canHold_11 : decode cX1_canHold 11 = .ok (.i2l, 1) := by decide +kernel
theorem dX1_canHold_12 : decode cX1_canHold 12 = .ok (.iload 5, 2) := by decide +kernel
theorem dX1_canHold_14 : decode cX1_canHold 14 = .ok (.i2l, 1) := by decide +kernel
theorem dX1_canHold_15 : decode cX1_canHold 15 = .ok (.lmul, 1) := by decide +kernel
theorem dX1_canHold_16 : decode cX1_canHold 16 = .ok (.lcmp, 1) := by decide +kernel
theorem dX1_canHold_17 : decode cX1_canHold 17 = .ok (.ifCond .lt 7, 3) := by decide +kernel
theorem dX1_canHold_20 : decode cX1_canHold 20 = .ok (.iconst 1, 1) := by decide +kernel
theorem dX1_canHold_21 : decode cX1_canHold 21 = .ok (.goto 4, 3) := by decide +kernel
theorem dX1_canHold_24 : decode cX1_canHold 24 = .ok (.iconst 0, 1) := by decide +kernel
theorem dX1_canHold_25 : decode cX1_canHold 25 = .ok (.ireturn, 1) := by decide +kernel
theorem dX1_canHold_26 : decode cX1_canHold 26 = .ok (.iload_n 1, 1) := by decide +kernel
theorem dX1_canHold_27 : decode cX1_canHold 27 = .ok (.iload_n 2, 1) := by decide +kernel
theorem dX1_canHold_28 : decode cX1_canHold 28 = .ok (.invokestatic 43, 3) := by decide +kernel
theorem dX1_canHold_31 : decode cX1_canHold 31 = .ok (.istore 6, 2) := by decide +kernel
theorem dX1_canHold_33 : decode cX1_canHold 33 = .ok (.aload_n 0, 1) := by decide +kernel
theorem dX1_canHold_34 : decode cX1_canHold 34 = .ok (.getfield 18, 3) := by decide +kernel
theorem dX1_canHold_37 : decode cX1_canHold 37 = .ok (.iload 6, 2) := by decide +kernel
theorem dX1_canHold_39 : decode cX1_canHold 39 = .ok (.iaload, 1) := by decide +kernel
theorem dX1_canHold_40 : decode cX1_canHold 40 = .ok (.aload_n 0, 1) := by decide +kernel
theorem dX1_canHold_41 : decode cX1_canHold 41 = .ok (.getfield 22, 3) := by decide +kernel
theorem dX1_canHold_44 : decode cX1_canHold 44 = .ok (.iload 6, 2) := by decide +kernel
theorem dX1_canHold_46 : decode cX1_canHold 46 = .ok (.iaload, 1) := by decide +kernel
theorem dX1_canHold_47 : decode cX1_canHold 47 = .ok (.isub, 1) := by decide +kernel
theorem dX1_canHold_48 : decode cX1_canHold 48 = .ok (.iload 5, 2) := by decide +kernel
theorem dX1_canHold_50 : decode cX1_canHold 50 = .ok (.if_icmp .lt 7, 3) := by decide +kernel
theorem dX1_canHold_53 : decode cX1_canHold 53 = .ok (.iconst 1, 1) := by decide +kernel
theorem dX1_canHold_54 : decode cX1_canHold 54 = .ok (.goto 4, 3) := by decide +kernel
theorem dX1_canHold_57 : decode cX1_canHold 57 = .ok (.iconst 0, 1) := by decide +kernel
theorem dX1_canHold_58 : decode cX1_canHold 58 = .ok (.ireturn, 1) := by decide +kernel
set_option maxRecDepth 20000 in
theorem ggX1_handOver_X1_placeOf : GoodIn wsX1_handOver wsX1_placeOf := goodIn_r _ [8] (by decide +kernel) (by decide +kernel)
set_option maxRecDepth 20000 in
theorem gX1_handOver_X1_placeOf : GoodIn wsX1_handOver (va_wsS RX1 43 yX1_placeOf wsX1_placeOf) := goodIn_app (goodIn_of _ (by decide +kernel)) ggX1_handOver_X1_placeOf
theorem dX1_handOver_0 : decode cX1_handOver 0 = .ok (.iload 4, 2) := by decide +kernel
theorem dX1_handOver_2 : decode cX1_handOver 2 = .ok (.i2l, 1) := by decide +kernel
theorem dX1_handOver_3 : decode cX1_handOver 3 = .ok (.iload 5, 2) := by decide +kernel
theorem dX1_handOver_5 : decode cX1_handOver 5 = .ok (.i2l, 1) := by decide +kernel
theorem dX1_handOver_6 : decode cX1_handOver 6 = .ok (.lmul, 1) := by decide +kernel
theorem dX1_handOver_7 : decode cX1_handOver 7 = .ok (.lstore 6, 2) := by decide +kernel
theorem dX1_handOver_9 : decode cX1_handOver 9 = .ok (.aload_n 0, 1) := by decide +kernel
theorem dX1_handOver_10 : decode cX1_handOver 10 = .ok (.getfield 9, 3) := by decide +kernel
theorem dX1_handOver_13 : decode cX1_handOver 13 = .ok (.iload_n 1, 1) := by decide +kernel
theorem dX1_handOver_14 : decode cX1_handOver 14 = .ok (.dup2, 1) := by decide +kernel
theorem dX1_handOver_15 : decode cX1_handOver 15 = .ok (.laload, 1) := by decide +kernel
theorem dX1_handOver_16 : decode cX1_handOver 16 = .ok (.lload 6, 2) := by decide +kernel
theorem dX1_handOver_18 : decode cX1_handOver 18 = .ok (.lsub, 1) := by decide +kernel
theorem dX1_handOver_19 : decode cX1_handOver 19 = .ok (.lastore, 1) := by decide +kernel
theorem dX1_handOver_20 : decode cX1_handOver 20 = .ok (.aload_n 0, 1) := by decide +kernel
theorem dX1_handOver_21 : decode cX1_handOver 21 = .ok (.getfield 9, 3) := by decide +kernel
theorem dX1_handOver_24 : decode cX1_handOver 24 = .ok (.iload_n 2, 1) := by decide +kernel
theorem dX1_handOver_25 : decode cX1_handOver 25 = .ok (.dup2, 1) := by decide +kernel
theorem dX1_handOver_26 : decode cX1_handOver 26 = .ok (.laload, 1) := by decide +kernel
theorem dX1_handOver_27 : decode cX1_handOver 27 = .ok (.lload 6, 2) := by decide +kernel
theorem dX1_handOver_29 : decode cX1_handOver 29 = .ok (.ladd, 1) := by decide +kernel
theorem dX1_handOver_30 : decode cX1_handOver 30 = .ok (.lastore, 1) := by decide +kernel
theorem dX1_handOver_31 : decode cX1_handOver 31 = .ok (.iload_n 1, 1) := by decide +kernel
theorem dX1_handOver_32 : decode cX1_handOver 32 = .ok (.iload_n 3, 1) := by decide +kernel
theorem dX1_handOver_33 : decode cX1_handOver 33 = .ok (.invokestatic 43, 3) := by decide +kernel
theorem dX1_handOver_36 : decode cX1_handOver 36 = .ok (.istore 8, 2) := by decide +kernel
theorem dX1_handOver_38 : decode cX1_handOver 38 = .ok (.iload_n 2, 1) := by decide +kernel
theorem dX1_handOver_39 : decode cX1_handOver 39 = .ok (.iload_n 3, 1) := by decide +kernel
theorem dX1_handOver_40 : decode cX1_handOver 40 = .ok (.invokestatic 43, 3) := by decide +kernel
theorem dX1_handOver_43 : decode cX1_handOver 43 = .ok (.istore 9, 2) := by decide +kernel
theorem dX1_handOver_45 : decode cX1_handOver 45 = .ok (.aload_n 0, 1) := by decide +kernel
theorem dX1_handOver_46 : decode cX1_handOver 46 = .ok (.getfield 18, 3) := by decide +kernel
theorem dX1_handOver_49 : decode cX1_handOver 49 = .ok (.iload 8, 2) := by decide +kernel
theorem dX1_handOver_51 : decode cX1_handOver 51 = .ok (.dup2, 1) := by decide +kernel
theorem dX1_handOver_52 : decode cX1_handOver 52 = .ok (.iaload, 1) := by decide +kernel
theorem dX1_handOver_53 : decode cX1_handOver 53 = .ok (.iload 5, 2) := by decide +kernel
theorem dX1_handOver_55 : decode cX1_handOver 55 = .ok (.iadd, 1) := by decide +kernel
theorem dX1_handOver_56 : decode cX1_handOver 56 = .ok (.iastore, 1) := by decide +kernel
theorem dX1_handOver_57 : decode cX1_handOver 57 = .ok (.aload_n 0, 1) := by decide +kernel
theorem dX1_handOver_58 : decode cX1_handOver 58 = .ok (.getfield 25, 3) := by decide +kernel
theorem dX1_handOver_61 : decode cX1_handOver 61 = .ok (.iload 8, 2) := by decide +kernel
theorem dX1_handOver_63 : decode cX1_handOver 63 = .ok (.dup2, 1) := by decide +kernel
theorem dX1_handOver_64 : decode cX1_handOver 64 = .ok (.iaload, 1) := by decide +kernel
theorem dX1_handOver_65 : decode cX1_handOver 65 = .ok (.iload 5, 2) := by decide +kernel
theorem dX1_handOver_67 : decode cX1_handOver 67 = .ok (.iadd, 1) := by decide +kernel
theorem dX1_handOver_68 : decode cX1_handOver 68 = .ok (.iastore, 1) := by decide +kernel
theorem dX1_handOver_69 : decode cX1_handOver 69 = .ok (.aload_n 0, 1) := by decide +kernel
theorem dX1_handOver_70 : decode cX1_handOver 70 = .ok (.getfield 18, 3) := by decide +kernel
theorem dX1_handOver_73 : decode cX1_handOver 73 = .ok (.iload 9, 2) := by decide +kernel
theorem dX1_handOver_75 : decode cX1_handOver 75 = .ok (.dup2, 1) := by decide +kernel
theorem dX1_handOver_76 : decode cX1_handOver 76 = .ok (.iaload, 1) := by decide +kernel
theorem dX1_handOver_77 : decode cX1_handOver 77 = .ok (.iload 5, 2) := by decide +kernel
theorem dX1_handOver_79 : decode cX1_handOver 79 = .ok (.isub, 1) := by decide +kernel
theorem dX1_handOver_80 : decode cX1_handOver 80 = .ok (.iastore, 1) := by decide +kernel
theorem dX1_handOver_81 : decode cX1_handOver 81 = .ok (.aload_n 0, 1) := by decide +kernel
theorem dX1_handOver_82 : decode cX1_handOver 82 = .ok (.getfield 28, 3) := by decide +kernel
theorem dX1_handOver_85 : decode cX1_handOver 85 = .ok (.iload 9, 2) := by decide +kernel
theorem dX1_handOver_87 : decode cX1_handOver 87 = .ok (.dup2, 1) := by decide +kernel
theorem dX1_handOver_88 : decode cX1_handOver 88 = .ok (.iaload, 1) := by decide +kernel
theorem dX1_handOver_89 : decode cX1_handOver 89 = .ok (.iload 5, 2) := by decide +kernel
theorem dX1_handOver_91 : decode cX1_handOver 91 = .ok (.iadd, 1) := by decide +kernel
theorem dX1_handOver_92 : decode cX1_handOver 92 = .ok (.iastore, 1) := by decide +kernel
theorem dX1_handOver_93 : decode cX1_handOver 93 = .ok (.return_, 1) := by decide +kernel
set_option maxRecDepth 20000 in
theorem ggX1_turnover_X1_placeOf : GoodIn wsX1_turnover wsX1_placeOf := goodIn_r _ [6] (by decide +kernel) (by decide +kernel)
set_option maxRecDepth 20000 in
theorem gX1_turnover_X1_placeOf : GoodIn wsX1_turnover (va_wsS RX1 43 yX1_placeOf wsX1_placeOf) := goodIn_app (goodIn_of _ (by decide +kernel)) ggX1_turnover_X1_placeOf
theorem dX1_turnover_0 : decode cX1_turnover 0 = .ok (.iload_n 1, 1) := by decide +kernel
theorem dX1_turnover_1 : decode cX1_turnover 1 = .ok (.iload_n 2, 1) := by decide +kernel
theorem dX1_turnover_2 : decode cX1_turnover 2 = .ok (.invokestatic 43, 3) := by decide +kernel
theorem dX1_turnover_5 : decode cX1_turnover 5 = .ok (.istore_n 3, 1) := by decide +kernel
theorem dX1_turnover_6 : decode cX1_turnover 6 = .ok (.aload_n 0, 1) := by decide +kernel
theorem dX1_turnover_7 : decode cX1_turnover 7 = .ok (.getfield 25, 3) := by decide +kernel
theorem dX1_turnover_10 : decode cX1_turnover 10 = .ok (.iload_n 3, 1) := by decide +kernel
theorem dX1_turnover_11 : decode cX1_turnover 11 = .ok (.iaload, 1) := by decide +kernel
theorem dX1_turnover_12 : decode cX1_turnover 12 = .ok (.aload_n 0, 1) := by decide +kernel
theorem dX1_turnover_13 : decode cX1_turnover 13 = .ok (.getfield 28, 3) := by decide +kernel
theorem dX1_turnover_16 : decode cX1_turnover 16 = .ok (.iload_n 3, 1) := by decide +kernel
theorem dX1_turnover_17 : decode cX1_turnover 17 = .ok (.iaload, 1) := by decide +kernel
theorem dX1_turnover_18 : decode cX1_turnover 18 = .ok (.iadd, 1) := by decide +kernel
theorem dX1_turnover_19 : decode cX1_turnover 19 = .ok (.ireturn, 1) := by decide +kernel
set_option maxRecDepth 20000 in
theorem ggX1_countBusier_X1_turnover : GoodIn wsX1_countBusier wsX1_turnover := goodIn_r _ [5, 6, 7, 8, 9, 4, 10, 11, 12, 13, 14, 15, 16, 17, 18] (by decide +kernel) (by decide +kernel)
set_option maxRecDepth 20000 in
theorem gX1_countBusier_X1_turnover : GoodIn wsX1_countBusier (wsV RX1 47 RX1 yX1_turnover wsX1_turnover) := goodIn_app (goodIn_of _ (by decide +kernel)) ggX1_countBusier_X1_turnover
theorem dX1_countBusier_0 : decode cX1_countBusier 0 = .ok (.aload_n 0, 1) := by decide +kernel
theorem dX1_countBusier_1 : decode cX1_countBusier 1 = .ok (.iload_n 1, 1) := by decide +kernel
theorem dX1_countBusier_2 : decode cX1_countBusier 2 = .ok (.iload_n 2, 1) := by decide +kernel
theorem dX1_countBusier_3 : decode cX1_countBusier 3 = .ok (.invokevirtual 47, 3) := by decide +kernel
theorem dX1_countBusier_6 : decode cX1_countBusier 6 = .ok (.istore_n 3, 1) := by decide +kernel
theorem dX1_countBusier_7 : decode cX1_countBusier 7 = .ok (.iconst 0, 1) := by decide +kernel
theorem dX1_countBusier_8 : decode cX1_countBusier 8 = .ok (.istore 4, 2) := by decide +kernel
theorem dX1_countBusier_10 : decode cX1_countBusier 10 = .ok (.iconst 0, 1) := by decide +kernel
theorem dX1_countBusier_11 : decode cX1_countBusier 11 = .ok (.istore 5, 2) := by decide +kernel
theorem dX1_countBusier_13 : decode cX1_countBusier 13 = .ok (.iload 5, 2) := by decide +kernel
theorem dX1_countBusier_15 : decode cX1_countBusier 15 = .ok (.sipush 512, 3) := by decide +kernel
theorem dX1_countBusier_18 : decode cX1_countBusier 18 = .ok (.if_icmp .ge 39, 3) := by decide +kernel
theorem dX1_countBusier_21 : decode cX1_countBusier 21 = .ok (.aload_n 0, 1) := by decide +kernel
theorem dX1_countBusier_22 : decode cX1_countBusier 22 = .ok (.iload 5, 2) := by decide +kernel
theorem dX1_countBusier_24 : decode cX1_countBusier 24 = .ok (.iload_n 2, 1) := by decide +kernel
theorem dX1_countBusier_25 : decode cX1_countBusier 25 = .ok (.invokevirtual 47, 3) := by decide +kernel
theorem dX1_countBusier_28 : decode cX1_countBusier 28 = .ok (.istore 6, 2) := by decide +kernel
theorem dX1_countBusier_30 : decode cX1_countBusier 30 = .ok (.iload 6, 2) := by decide +kernel
theorem dX1_countBusier_32 : decode cX1_countBusier 32 = .ok (.iload_n 3, 1) := by decide +kernel
theorem dX1_countBusier_33 : decode cX1_countBusier 33 = .ok (.if_icmp .gt 15, 3) := by decide +kernel
theorem dX1_countBusier_36 : decode cX1_countBusier 36 = .ok (.iload 6, 2) := by decide +kernel
theorem dX1_countBusier_38 : decode cX1_countBusier 38 = .ok (.iload_n 3, 1) := by decide +kernel
theorem dX1_countBusier_39 : decode cX1_countBusier 39 = .ok (.if_icmp .ne 12, 3) := by decide +kernel
theorem dX1_countBusier_42 : decode cX1_countBusier 42 = .ok (.iload 5, 2) := by decide +kernel
theorem dX1_countBusier_44 : decode cX1_countBusier 44 = .ok (.iload_n 1, 1) := by decide +kernel
theorem dX1_countBusier_45 : decode cX1_countBusier 45 = .ok (.if_icmp .ge 6, 3) := by decide +kernel
theorem dX1_countBusier_48 : decode cX1_countBusier 48 = .ok (.iinc 4 1, 3) := by decide +kernel
theorem dX1_countBusier_51 : decode cX1_countBusier 51 = .ok (.iinc 5 1, 3) := by decide +kernel
theorem dX1_countBusier_54 : decode cX1_countBusier 54 = .ok (.goto (-41), 3) := by decide +kernel
theorem dX1_countBusier_57 : decode cX1_countBusier 57 = .ok (.iload 4, 2) := by decide +kernel
theorem dX1_countBusier_59 : decode cX1_countBusier 59 = .ok (.ireturn, 1) := by decide +kernel
theorem dX2_init_0 : decode cX2_init 0 = .ok (.aload_n 0, 1) := by decide +kernel
theorem dX2_init_1 : decode cX2_init 1 = .ok (.invokespecial 3, 3) := by decide +kernel
theorem dX2_init_4 : decode cX2_init 4 = .ok (.aload_n 0, 1) := by decide +kernel
theorem dX2_init_5 : decode cX2_init 5 = .ok (.sipush 512, 3) := by decide +kernel
theorem dX2_init_8 : decode cX2_init 8 = .ok (.newarray .int, 2) := by decide +kernel
theorem dX2_init_10 : decode cX2_init 10 = .ok (.putfield 9, 3) := by decide +kernel
theorem dX2_init_13 : decode cX2_init 13 = .ok (.aload_n 0, 1) := by decide +kernel
theorem dX2_init_14 : decode cX2_init 14 = .ok (.sipush 512, 3) := by decide +kernel
theorem dX2_init_17 : decode cX2_init 17 = .ok (.newarray .int, 2) := by decide +kernel
theorem dX2_init_19 : decode cX2_init 19 = .ok (.putfield 15, 3) := by decide +kernel
theorem dX2_init_22 : decode cX2_init 22 = .ok (.aload_n 0, 1) := by decide +kernel
theorem dX2_init_23 : decode cX2_init 23 = .ok (.sipush 512, 3) := by decide +kernel
theorem dX2_init_26 : decode cX2_init 26 = .ok (.newarray .int, 2) := by decide +kernel
theorem dX2_init_28 : decode cX2_init 28 = .ok (.putfield 18, 3) := by decide +kernel
theorem dX2_init_31 : decode cX2_init 31 = .ok (.aload_n 0, 1) := by decide +kernel
theorem dX2_init_32 : decode cX2_init 32 = .ok (.sipush 512, 3) := by decide +kernel
theorem dX2_init_35 : decode cX2_init 35 = .ok (.newarray .int, 2) := by decide +kernel
theorem dX2_init_37 : decode cX2_init 37 = .ok (.putfield 21, 3) := by decide +kernel
theorem dX2_init_40 : decode cX2_init 40 = .ok (.aload_n 0, 1) := by decide +kernel
theorem dX2_init_41 : decode cX2_init 41 = .ok (.sipush 512, 3) := by decide +kernel
theorem dX2_init_44 : decode cX2_init 44 = .ok (.newarray .int, 2) := by decide +kernel
theorem dX2_init_46 : decode cX2_init 46 = .ok (.putfield 24, 3) := by decide +kernel
theorem dX2_init_49 : decode cX2_init 49 = .ok (.aload_n 0, 1) := by decide +kernel
theorem dX2_init_50 : decode cX2_init 50 = .ok (.sipush 512, 3) := by decide +kernel
theorem dX2_init_53 : decode cX2_init 53 = .ok (.newarray .int, 2) := by decide +kernel
theorem dX2_init_55 : decode cX2_init 55 = .ok (.putfield 27, 3) := by decide +kernel
theorem dX2_init_58 : decode cX2_init 58 = .ok (.aload_n 0, 1) := by decide +kernel
theorem dX2_init_59 : decode cX2_init 59 = .ok (.sipush 512, 3) := by decide +kernel
theorem dX2_init_62 : decode cX2_init 62 = .ok (.newarray .int, 2) := by decide +kernel
theorem dX2_init_64 : decode cX2_init 64 = .ok (.putfield 30, 3) := by decide +kernel
theorem dX2_init_67 : decode cX2_init 67 = .ok (.aload_n 0, 1) := by decide +kernel
theorem dX2_init_68 : decode cX2_init 68 = .ok (.sipush 512, 3) := by decide +kernel
theorem dX2_init_71 : decode cX2_init 71 = .ok (.newarray .int, 2) := by decide +kernel
theorem dX2_init_73 : decode cX2_init 73 = .ok (.putfield 33, 3) := by decide +kernel
theorem dX2_init_76 : decode cX2_init 76 = .ok (.aload_n 0, 1) := by decide +kernel
theorem dX2_init_77 : decode cX2_init 77 = .ok (.sipush 512, 3) := by decide +kernel
theorem dX2_init_80 : decode cX2_init 80 = .ok (.newarray .int, 2) := by decide +kernel
theorem dX2_init_82 : decode cX2_init 82 = .ok (.putfield 36, 3) := by decide +kernel
theorem dX2_init_85 : decode cX2_init 85 = .ok (.aload_n 0, 1) := by decide +kernel
theorem dX2_init_86 : decode cX2_init 86 = .ok (.sipush 512, 3) := by decide +kernel
theorem dX2_init_89 : decode cX2_init 89 = .ok (.newarray .int, 2) := by decide +kernel
theorem dX2_init_91 : decode cX2_init 91 = .ok (.putfield 39, 3) := by decide +kernel
theorem dX2_init_94 : decode cX2_init 94 = .ok (.aload_n 0, 1) := by decide +kernel
theorem dX2_init_95 : decode cX2_init 95 = .ok (.sipush 512, 3) := by decide +kernel
theorem dX2_init_98 : decode cX2_init 98 = .ok (.newarray .int, 2) := by decide +kernel
theorem dX2_init_100 : decode cX2_init 100 = .ok (.putfield 42, 3) := by decide +kernel
theorem dX2_init_103 : decode cX2_init 103 = .ok (.aload_n 0, 1) := by decide +kernel
theorem dX2_init_104 : decode cX2_init 104 = .ok (.iconst 0, 1) := by decide +kernel
theorem dX2_init_105 : decode cX2_init 105 = .ok (.putfield 45, 3) := by decide +kernel
theorem dX2_init_108 : decode cX2_init 108 = .ok (.aload_n 0, 1) := by decide +kernel
theorem dX2_init_109 : decode cX2_init 109 = .ok (.iconst 0, 1) := by decide +kernel
theorem dX2_init_110 : decode cX2_init 110 = .ok (.putfield 49, 3) := by decide +kernel
theorem dX2_init_113 : decode cX2_init 113 = .ok (.return_, 1) := by decide +kernel
theorem dX2_take_0 : decode cX2_take 0 = .ok (.aload_n 0, 1) := by decide +kernel
theorem dX2_take_1 : decode cX2_take 1 = .ok (.getfield 45, 3) := by decide +kernel
theorem dX2_take_4 : decode cX2_take 4 = .ok (.istore 8, 2) := by decide +kernel
theorem dX2_take_6 : decode cX2_take 6 = .ok (.aload_n 0, 1) := by decide +kernel
theorem dX2_take_7 : decode cX2_take 7 = .ok (.getfield 9, 3) := by decide +kernel
theorem dX2_take_10 : decode cX2_take 10 = .ok (.iload 8, 2) := by decide +kernel
theorem dX2_take_12 : decode cX2_take 12 = .ok (.iload_n 1, 1) := by decide +kernel
theorem dX2_take_13 : decode cX2_take 13 = .ok (.iastore, 1) := by decide +kernel
theorem dX2_take_14 : decode cX2_take 14 = .ok (.aload_n 0, 1) := by decide +kernel
theorem dX2_take_15 : decode cX2_take 15 = .ok (.getfield 15, 3) := by decide +kernel
theorem dX2_take_18 : decode cX2_take 18 = .ok (.iload 8, 2) := by decide +kernel
theorem dX2_take_20 : decode cX2_take 20 = .ok (.iload_n 2, 1) := by decide +kernel
theorem dX2_take_21 : decode cX2_take 21 = .ok (.iastore, 1) := by decide +kernel
theorem dX2_take_22 : decode cX2_take 22 = .ok (.aload_n 0, 1) := by decide +kernel
theorem dX2_take_23 : decode cX2_take 23 = .ok (.getfield 18, 3) := by decide +kernel
theorem dX2_take_26 : decode cX2_take 26 = .ok (.iload 8, 2) := by decide +kernel
theorem dX2_take_28 : decode cX2_take 28 = .ok (.iload_n 3, 1) := by decide +kernel
theorem dX2_take_29 : decode cX2_take 29 = .ok (.iastore, 1) := by decide +kernel
theorem dX2_take_30 : decode cX2_take 30 = .ok (.aload_n 0, 1) := by decide +kernel
theorem dX2_take_31 : decode cX2_take 31 = .ok (.getfield 21, 3) := by decide +kernel
theorem dX2_take_34 : decode cX2_take 34 = .ok (.iload 8, 2) := by decide +kernel
theorem dX2_take_36 : decode cX2_take 36 = .ok (.iload 4, 2) := by decide +kernel
theorem dX2_take_38 : decode cX2_take 38 = .ok (.iastore, 1) := by decide +kernel
theorem dX2_take_39 : decode cX2_take 39 = .ok (.aload_n 0, 1) := by decide +kernel
theorem dX2_take_40 : decode cX2_take 40 = .ok (.getfield 24, 3) := by decide +kernel
theorem dX2_take_43 : decode cX2_take 43 = .ok (.iload 8, 2) := by decide +kernel
theorem dX2_take_45 : decode cX2_take 45 = .ok (.iload 5, 2) := by decide +kernel
theorem dX2_take_47 : decode cX2_take 47 = .ok (.iastore, 1) := by decide +kernel
theorem dX2_take_48 : decode cX2_take 48 = .ok (.aload_n 0, 1) := by decide +kernel
theorem dX2_take_49 : decode cX2_take 49 = .ok (.getfield 27, 3) := by decide +kernel
theorem dX2_take_52 : decode cX2_take 52 = .ok (.iload 8, 2) := by decide +kernel
theorem dX2_take_54 : decode cX2_take 54 = .ok (.iload 7, 2) := by decide +kernel
theorem dX2_take_56 : decode cX2_take 56 = .ok (.iastore, 1) := by decide +kernel
theorem dX2_take_57 : decode cX2_take 57 = .ok (.aload_n 0, 1) := by decide +kernel
theorem dX2_take_58 : decode cX2_take 58 = .ok (.getfield 30, 3) := by decide +kernel
theorem dX2_take_61 : decode cX2_take 61 = .ok (.iload 8, 2) := by decide +kernel
theorem dX2_take_63 : decode cX2_take 63 = .ok (.iload 6, 2) := by decide +kernel
theorem dX2_take_65 : decode cX2_take 65 = .ok (.iastore, 1) := by decide +kernel
theorem dX2_take_66 : decode cX2_take 66 = .ok (.aload_n 0, 1) := by decide +kernel
theorem dX2_take_67 : decode cX2_take 67 = .ok (.getfield 36, 3) := by decide +kernel
theorem dX2_take_70 : decode cX2_take 70 = .ok (.iload 8, 2) := by decide +kernel
theorem dX2_take_72 : decode cX2_take 72 = .ok (.iconst 1, 1) := by decide +kernel
theorem dX2_take_73 : decode cX2_take 73 = .ok (.iastore, 1) := by decide +kernel
theorem dX2_take_74 : decode cX2_take 74 = .ok (.aload_n 0, 1) := by decide +kernel
theorem dX2_take_75 : decode cX2_take 75 = .ok (.dup, 1) := by decide +kernel
theorem dX2_take_76 : decode cX2_take 76 = .ok (.getfield 45, 3) := by decide +kernel
theorem dX2_take_79 : decode cX2_take 79 = .ok (.iconst 1, 1) := by decide +kernel
theorem dX2_take_80 : decode cX2_take 80 = .ok (.iadd, 1) := by decide +kernel
theorem dX2_take_81 : decode cX2_take 81 = .ok (.putfield 45, 3) := by decide +kernel
theorem dX2_take_84 : decode cX2_take 84 = .ok (.aload_n 0, 1) := by decide +kernel
theorem dX2_take_85 : decode cX2_take 85 = .ok (.dup, 1) := by decide +kernel
theorem dX2_take_86 : decode cX2_take 86 = .ok (.getfield 49, 3) := by decide +kernel
theorem dX2_take_89 : decode cX2_take 89 = .ok (.iconst 1, 1) := by decide +kernel
theorem dX2_take_90 : decode cX2_take 90 = .ok (.iadd, 1) := by decide +kernel
theorem dX2_take_91 : decode cX2_take 91 = .ok (.putfield 49, 3) := by decide +kernel
theorem dX2_take_94 : decode cX2_take 94 = .ok (.iload 8, 2) := by decide +kernel
theorem dX2_take_96 : decode cX2_take 96 = .ok (.ireturn, 1) := by decide +kernel
theorem dX2_isThere_0 : decode cX2_isThere 0 = .ok (.aload_n 0, 1) := by decide +kernel
theorem dX2_isThere_1 : decode cX2_isThere 1 = .ok (.getfield 36, 3) := by decide +kernel
theorem dX2_isThere_4 : decode cX2_isThere 4 = .ok (.iload_n 1, 1) := by decide +kernel
theorem dX2_isThere_5 : decode cX2_isThere 5 = .ok (.iaload, 1) := by decide +kernel
theorem dX2_isThere_6 : decode cX2_isThere 6 = .ok (.ifCond .eq 13, 3) := by decide +kernel
theorem dX2_isThere_9 : decode cX2_isThere 9 = .ok (.aload_n 0, 1) := by decide +kernel
theorem dX2_isThere_10 : decode cX2_isThere 10 = .ok (.getfield 36, 3) := by decide +kernel
theorem dX2_isThere_13 : decode cX2_isThere 13 = .ok (.iload_n 1, 1) := by decide +kernel
theorem dX2_isThere_14 : decode cX2_isThere 14 = .ok (.iaload, 1) := by decide +kernel
theorem dX2_isThere_15 : decode cX2_isThere 15 = .ok (.iconst 1, 1) := by decide +kernel
theorem dX2_isThere_16 : decode cX2_isThere 16 = .ok (.if_icmp .ne 7, 3) := by decide +kernel
theorem dX2_isThere_19 : decode cX2_isThere 19 = .ok (.iconst 1, 1) := by decide +kernel
theorem dX2_isThere_20 : decode cX2_isThere 20 = .ok (.goto 4, 3) := by decide +kernel
theorem dX2_isThere_23 : decode cX2_isThere 23 = .ok (.iconst 0, 1) := by decide +kernel
theorem dX2_isThere_24 : decode cX2_isThere 24 = .ok (.ireturn, 1) := by decide +kernel
theorem dX2_isWokenBy_0 : decode cX2_isWokenBy 0 = .ok (.aload_n 0, 1) := by decide +kernel
theorem dX2_isWokenBy_1 : decode cX2_isWokenBy 1 = .ok (.getfield 36, 3) := by decide +kernel
theorem dX2_isWokenBy_4 : decode cX2_isWokenBy 4 = .ok (.iload_n 1, 1) := by decide +kernel
theorem dX2_isWokenBy_5 : decode cX2_isWokenBy 5 = .ok (.iaload, 1) := by decide +kernel
theorem dX2_isWokenBy_6 : decode cX2_isWokenBy 6 = .ok (.iconst 1, 1) := by decide +kernel
theorem dX2_isWokenBy_7 : decode cX2_isWokenBy 7 = .ok (.if_icmp .eq 5, 3) := by decide +kernel
theorem dX2_isWokenBy_10 : decode cX2_isWokenBy 10 = .ok (.iconst 0, 1) := by decide +kernel
theorem dX2_isWokenBy_11 : decode cX2_isWokenBy 11 = .ok (.ireturn, 1) := by decide +kernel
theorem dX2_isWokenBy_12 : decode cX2_isWokenBy 12 = .ok (.aload_n 0, 1) := by decide +kernel
theorem dX2_isWokenBy_13 : decode cX2_isWokenBy 13 = .ok (.getfield 18, 3) := by decide +kernel
theorem dX2_isWokenBy_16 : decode cX2_isWokenBy 16 = .ok (.iload_n 1, 1) := by decide +kernel
theorem dX2_isWokenBy_17 : decode cX2_isWokenBy 17 = .ok (.iaload, 1) := by decide +kernel
theorem dX2_isWokenBy_18 : decode cX2_isWokenBy 18 = .ok (.ifCond .ne 21, 3) := by decide +kernel
theorem dX2_isWokenBy_21 : decode cX2_isWokenBy 21 = .ok (.iload_n 2, 1) := by decide +kernel
theorem dX2_isWokenBy_22 : decode cX2_isWokenBy 22 = .ok (.aload_n 0, 1) := by decide +kernel
theorem dX2_isWokenBy_23 : decode cX2_isWokenBy 23 = .ok (.getfield 27, 3) := by decide +kernel
theorem dX2_isWokenBy_26 : decode cX2_isWokenBy 26 = .ok (.iload_n 1, 1) := by decide +kernel
theorem dX2_isWokenBy_27 : decode cX2_isWokenBy 27 = .ok (.iaload, 1) := by decide +kernel
theorem dX2_isWokenBy_28 : decode cX2_isWokenBy 28 = .ok (.if_icmp .lt 7, 3) := by decide +kernel
theorem dX2_isWokenBy_31 : decode cX2_isWokenBy 31 = .ok (.iconst 1, 1) := by decide +kernel
theorem dX2_isWokenBy_32 : decode cX2_isWokenBy 32 = .ok (.goto 22, 3) := by decide +kernel
theorem dX2_isWokenBy_35 : decode cX2_isWokenBy 35 = .ok (.iconst 0, 1) := by decide +kernel
theorem dX2_isWokenBy_36 : decode cX2_isWokenBy 36 = .ok (.goto 18, 3) := by decide +kernel
theorem dX2_isWokenBy_39 : decode cX2_isWokenBy 39 = .ok (.iload_n 2, 1) := by decide +kernel
theorem dX2_isWokenBy_40 : decode cX2_isWokenBy 40 = .ok (.aload_n 0, 1) := by decide +kernel
theorem dX2_isWokenBy_41 : decode cX2_isWokenBy 41 = .ok (.getfield 27, 3) := by decide +kernel
theorem dX2_isWokenBy_44 : decode cX2_isWokenBy 44 = .ok (.iload_n 1, 1) := by decide +kernel
theorem dX2_isWokenBy_45 : decode cX2_isWokenBy 45 = .ok (.iaload, 1) := by decide +kernel
theorem dX2_isWokenBy_46 : decode cX2_isWokenBy 46 = .ok (.if_icmp .gt 7, 3) := by decide +kernel
theorem dX2_isWokenBy_49 : decode cX2_isWokenBy 49 = .ok (.iconst 1, 1) := by decide +kernel
theorem dX2_isWokenBy_50 : decode cX2_isWokenBy 50 = .ok (.goto 4, 3) := by decide +kernel
theorem dX2_isWokenBy_53 : decode cX2_isWokenBy 53 = .ok (.iconst 0, 1) := by decide +kernel
theorem dX2_isWokenBy_54 : decode cX2_isWokenBy 54 = .ok (.ireturn, 1) := by decide +kernel
theorem dX2_pricesAllow_0 : decode cX2_pricesAllow 0 = .ok (.aload_n 0, 1) := by decide +kernel
theorem dX2_pricesAllow_1 : decode cX2_pricesAllow 1 = .ok (.getfield 18, 3) := by decide +kernel
theorem dX2_pricesAllow_4 : decode cX2_pricesAllow 4 = .ok (.iload_n 1, 1) := by decide +kernel
theorem dX2_pricesAllow_5 : decode cX2_pricesAllow 5 = .ok (.iaload, 1) := by decide +kernel
theorem dX2_pricesAllow_6 : decode cX2_pricesAllow 6 = .ok (.ifCond .ne 26, 3) := by decide +kernel
theorem dX2_pricesAllow_9 : decode cX2_pricesAllow 9 = .ok (.aload_n 0, 1) := by decide +kernel
theorem dX2_pricesAllow_10 : decode cX2_pricesAllow 10 = .ok (.getfield 24, 3) := by decide +kernel
theorem dX2_pricesAllow_13 : decode cX2_pricesAllow 13 = .ok (.iload_n 2, 1) := by decide +kernel
theorem dX2_pricesAllow_14 : decode cX2_pricesAllow 14 = .ok (.iaload, 1) := by decide +kernel
theorem dX2_pricesAllow_15 : decode cX2_pricesAllow 15 = .ok (.aload_n 0, 1) := by decide +kernel
theorem dX2_pricesAllow_16 : decode cX2_pricesAllow 16 = .ok (.getfield 24, 3) := by decide +kernel
theorem dX2_pricesAllow_19 : decode cX2_pricesAllow 19 = .ok (.iload_n 1, 1) := by decide +kernel
theorem dX2_pricesAllow_20 : decode cX2_pricesAllow 20 = .ok (.iaload, 1) := by decide +kernel
theorem dX2_pricesAllow_21 : decode cX2_pricesAllow 21 = .ok (.if_icmp .gt 7, 3) := by decide +kernel
theorem dX2_pricesAllow_24 : decode cX2_pricesAllow 24 = .ok (.iconst 1, 1) := by decide +kernel
theorem dX2_pricesAllow_25 : decode cX2_pricesAllow 25 = .ok (.goto 27, 3) := by decide +kernel
theorem dX2_pricesAllow_28 : decode cX2_pricesAllow 28 = .ok (.iconst 0, 1) := by decide +kernel
theorem dX2_pricesAllow_29 : decode cX2_pricesAllow 29 = .ok (.goto 23, 3) := by decide +kernel
theorem dX2_pricesAllow_32 : decode cX2_pricesAllow 32 = .ok (.aload_n 0, 1) := by decide +kernel
theorem dX2_pricesAllow_33 : decode cX2_pricesAllow 33 = .ok (.getfield 24, 3) := by decide +kernel
theorem dX2_pricesAllow_36 : decode cX2_pricesAllow 36 = .ok (.iload_n 2, 1) := by decide +kernel
theorem dX2_pricesAllow_37 : decode cX2_pricesAllow 37 = .ok (.iaload, 1) := by decide +kernel
theorem dX2_pricesAllow_38 : decode cX2_pricesAllow 38 = .ok (.aload_n 0, 1) := by decide +kernel
theorem dX2_pricesAllow_39 : decode cX2_pricesAllow 39 = .ok (.getfield 24, 3) := by decide +kernel
theorem dX2_pricesAllow_42 : decode cX2_pricesAllow 42 = .ok (.iload_n 1, 1) := by decide +kernel
theorem dX2_pricesAllow_43 : decode cX2_pricesAllow 43 = .ok (.iaload, 1) := by decide +kernel
theorem dX2_pricesAllow_44 : decode cX2_pricesAllow 44 = .ok (.if_icmp .lt 7, 3) := by decide +kernel
theorem dX2_pricesAllow_47 : decode cX2_pricesAllow 47 = .ok (.iconst 1, 1) := by decide +kernel
theorem dX2_pricesAllow_48 : decode cX2_pricesAllow 48 = .ok (.goto 4, 3) := by decide +kernel
theorem dX2_pricesAllow_51 : decode cX2_pricesAllow 51 = .ok (.iconst 0, 1) := by decide +kernel
theorem dX2_pricesAllow_52 : decode cX2_pricesAllow 52 = .ok (.ireturn, 1) := by decide +kernel
theorem dX2_fill_0 : decode cX2_fill 0 = .ok (.aload_n 0, 1) := by decide +kernel
theorem dX2_fill_1 : decode cX2_fill 1 = .ok (.getfield 30, 3) := by decide +kernel
theorem dX2_fill_4 : decode cX2_fill 4 = .ok (.iload_n 1, 1) := by decide +kernel
theorem dX2_fill_5 : decode cX2_fill 5 = .ok (.dup2, 1) := by decide +kernel
theorem dX2_fill_6 : decode cX2_fill 6 = .ok (.iaload, 1) := by decide +kernel
theorem dX2_fill_7 : decode cX2_fill 7 = .ok (.iload_n 2, 1) := by decide +kernel
theorem dX2_fill_8 : decode cX2_fill 8 = .ok (.isub, 1) := by decide +kernel
theorem dX2_fill_9 : decode cX2_fill 9 = .ok (.iastore, 1) := by decide +kernel
theorem dX2_fill_10 : decode cX2_fill 10 = .ok (.aload_n 0, 1) := by decide +kernel
theorem dX2_fill_11 : decode cX2_fill 11 = .ok (.getfield 42, 3) := by decide +kernel
theorem dX2_fill_14 : decode cX2_fill 14 = .ok (.iload_n 1, 1) := by decide +kernel
theorem dX2_fill_15 : decode cX2_fill 15 = .ok (.dup2, 1) := by decide +kernel
theorem dX2_fill_16 : decode cX2_fill 16 = .ok (.iaload, 1) := by decide +kernel
theorem dX2_fill_17 : decode cX2_fill 17 = .ok (.iload_n 2, 1) := by decide +kernel
theorem dX2_fill_18 : decode cX2_fill 18 = .ok (.iadd, 1) := by decide +kernel
theorem dX2_fill_19 : decode cX2_fill 19 = .ok (.iastore, 1) := by decide +kernel
theorem dX2_fill_20 : decode cX2_fill 20 = .ok (.return_, 1) := by decide +kernel
theorem dX3_init_0 : decode cX3_init 0 = .ok (.aload_n 0, 1) := by decide +kernel
theorem dX3_init_1 : decode cX3_init 1 = .ok (.invokespecial 3, 3) := by decide +kernel
theorem dX3_init_4 : decode cX3_init 4 = .ok (.aload_n 0, 1) := by decide +kernel
theorem dX3_init_5 : decode cX3_init 5 = .ok (.sipush 300, 3) := by decide +kernel
theorem dX3_init_8 : decode cX3_init 8 = .ok (.newarray .int, 2) := by decide +kernel
theorem dX3_init_10 : decode cX3_init 10 = .ok (.putfield 9, 3) := by decide +kernel
theorem dX3_init_13 : decode cX3_init 13 = .ok (.aload_n 0, 1) := by decide +kernel
theorem dX3_init_14 : decode cX3_init 14 = .ok (.sipush 300, 3) := by decide +kernel
theorem dX3_init_17 : decode cX3_init 17 = .ok (.newarray .int, 2) := by decide +kernel
theorem dX3_init_19 : decode cX3_init 19 = .ok (.putfield 15, 3) := by decide +kernel
theorem dX3_init_22 : decode cX3_init 22 = .ok (.aload_n 0, 1) := by decide +kernel
theorem dX3_init_23 : decode cX3_init 23 = .ok (.sipush 300, 3) := by decide +kernel
theorem dX3_init_26 : decode cX3_init 26 = .ok (.newarray .int, 2) := by decide +kernel
theorem dX3_init_28 : decode cX3_init 28 = .ok (.putfield 18, 3) := by decide +kernel
theorem dX3_init_31 : decode cX3_init 31 = .ok (.aload_n 0, 1) := by decide +kernel
theorem dX3_init_32 : decode cX3_init 32 = .ok (.sipush 300, 3) := by decide +kernel
theorem dX3_init_35 : decode cX3_init 35 = .ok (.newarray .int, 2) := by decide +kernel
theorem dX3_init_37 : decode cX3_init 37 = .ok (.putfield 21, 3) := by decide +kernel
theorem dX3_init_40 : decode cX3_init 40 = .ok (.aload_n 0, 1) := by decide +kernel
theorem dX3_init_41 : decode cX3_init 41 = .ok (.iconst 4, 1) := by decide +kernel
theorem dX3_init_42 : decode cX3_init 42 = .ok (.newarray .int, 2) := by decide +kernel
theorem dX3_init_44 : decode cX3_init 44 = .ok (.putfield 24, 3) := by decide +kernel
theorem dX3_init_47 : decode cX3_init 47 = .ok (.aload_n 0, 1) := by decide +kernel
theorem dX3_init_48 : decode cX3_init 48 = .ok (.iconst 4, 1) := by decide +kernel
theorem dX3_init_49 : decode cX3_init 49 = .ok (.newarray .int, 2) := by decide +kernel
theorem dX3_init_51 : decode cX3_init 51 = .ok (.putfield 27, 3) := by decide +kernel
theorem dX3_init_54 : decode cX3_init 54 = .ok (.aload_n 0, 1) := by decide +kernel
theorem dX3_init_55 : decode cX3_init 55 = .ok (.iconst 4, 1) := by decide +kernel
theorem dX3_init_56 : decode cX3_init 56 = .ok (.newarray .int, 2) := by decide +kernel
theorem dX3_init_58 : decode cX3_init 58 = .ok (.putfield 30, 3) := by decide +kernel
theorem dX3_init_61 : decode cX3_init 61 = .ok (.aload_n 0, 1) := by decide +kernel
theorem dX3_init_62 : decode cX3_init 62 = .ok (.iconst 4, 1) := by decide +kernel
theorem dX3_init_63 : decode cX3_init 63 = .ok (.newarray .int, 2) := by decide +kernel
theorem dX3_init_65 : decode cX3_init 65 = .ok (.putfield 33, 3) := by decide +kernel
theorem dX3_init_68 : decode cX3_init 68 = .ok (.aload_n 0, 1) := by decide +kernel
theorem dX3_init_69 : decode cX3_init 69 = .ok (.iconst 0, 1) := by decide +kernel
theorem dX3_init_70 : decode cX3_init 70 = .ok (.putfield 36, 3) := by decide +kernel
theorem dX3_init_73 : decode cX3_init 73 = .ok (.return_, 1) := by decide +kernel
theorem dX3_note_0 : decode cX3_note 0 = .ok (.aload_n 0, 1) := by decide +kernel
theorem dX3_note_1 : decode cX3_note 1 = .ok (.getfield 36, 3) := by decide +kernel
theorem dX3_note_4 : decode cX3_note 4 = .ok (.sipush 300, 3) := by decide +kernel
theorem dX3_note_7 : decode cX3_note 7 = .ok (.if_icmp .ge 45, 3) := by decide +kernel
theorem dX3_note_10 : decode cX3_note 10 = .ok (.aload_n 0, 1) := by decide +kernel
theorem dX3_note_11 : decode cX3_note 11 = .ok (.getfield 9, 3) := by decide +kernel
theorem dX3_note_14 : decode cX3_note 14 = .ok (.aload_n 0, 1) := by decide +kernel
theorem dX3_note_15 : decode cX3_note 15 = .ok (.getfield 36, 3) := by decide +kernel
theorem dX3_note_18 : decode cX3_note 18 = .ok (.iload_n 2, 1) := by decide +kernel
theorem dX3_note_19 : decode cX3_note 19 = .ok (.iastore, 1) := by decide +kernel
theorem dX3_note_20 : decode cX3_note 20 = .ok (.aload_n 0, 1) := by decide +kernel
theorem dX3_note_21 : decode cX3_note 21 = .ok (.getfield 15, 3) := by decide +kernel
theorem dX3_note_24 : decode cX3_note 24 = .ok (.aload_n 0, 1) := by decide +kernel
theorem dX3_note_25 : decode cX3_note 25 = .ok (.getfield 36, 3) := by decide +kernel
theorem dX3_note_28 : decode cX3_note 28 = .ok (.iload_n 3, 1) := by decide +kernel
theorem dX3_note_29 : decode cX3_note 29 = .ok (.iastore, 1) := by decide +kernel
theorem dX3_note_30 : decode cX3_note 30 = .ok (.aload_n 0, 1) := by decide +kernel
theorem dX3_note_31 : decode cX3_note 31 = .ok (.getfield 18, 3) := by decide +kernel
theorem dX3_note_34 : decode cX3_note 34 = .ok (.aload_n 0, 1) := by decide +kernel
theorem dX3_note_35 : decode cX3_note 35 = .ok (.getfield 36, 3) := by decide +kernel
theorem dX3_note_38 : decode cX3_note 38 = .ok (.iload 4, 2) := by decide +kernel
theorem dX3_note_40 : decode cX3_note 40 = .ok (.iastore, 1) := by decide +kernel
theorem dX3_note_41 : decode cX3_note 41 = .ok (.aload_n 0, 1) := by decide +kernel
theorem dX3_note_42 : decode cX3_note 42 = .ok (.getfield 21, 3) := by decide +kernel
theorem dX3_note_45 : decode cX3_note 45 = .ok (.aload_n 0, 1) := by decide +kernel
theorem dX3_note_46 : decode cX3_note 46 = .ok (.getfield 36, 3) := by decide +kernel
theorem dX3_note_49 : decode cX3_note 49 = .ok (.iload 5, 2) := by decide +kernel
theorem dX3_note_51 : decode cX3_note 51 = .ok (.iastore, 1) := by decide +kernel
theorem dX3_note_52 : decode cX3_note 52 = .ok (.aload_n 0, 1) := by decide +kernel
theorem dX3_note_53 : decode cX3_note 53 = .ok (.dup, 1) := by decide +kernel
theorem dX3_note_54 : decode cX3_note 54 = .ok (.getfield 36, 3) := by decide +kernel
theorem dX3_note_57 : decode cX3_note 57 = .ok (.iconst 1, 1) := by decide +kernel
theorem dX3_note_58 : decode cX3_note 58 = .ok (.iadd, 1) := by decide +kernel
theorem dX3_note_59 : decode cX3_note 59 = .ok (.putfield 36, 3) := by decide +kernel
theorem dX3_note_62 : decode cX3_note 62 = .ok (.aload_n 0, 1) := by decide +kernel
theorem dX3_note_63 : decode cX3_note 63 = .ok (.getfield 30, 3) := by decide +kernel
theorem dX3_note_66 : decode cX3_note 66 = .ok (.iload_n 1, 1) := by decide +kernel
theorem dX3_note_67 : decode cX3_note 67 = .ok (.aload_n 0, 1) := by decide +kernel
theorem dX3_note_68 : decode cX3_note 68 = .ok (.getfield 24, 3) := by decide +kernel
theorem dX3_note_71 : decode cX3_note 71 = .ok (.iload_n 1, 1) := by decide +kernel
theorem dX3_note_72 : decode cX3_note 72 = .ok (.iaload, 1) := by decide +kernel
theorem dX3_note_73 : decode cX3_note 73 = .ok (.ifCond .ne 8, 3) := by decide +kernel
theorem dX3_note_76 : decode cX3_note 76 = .ok (.iload 4, 2) := by decide +kernel
theorem dX3_note_78 : decode cX3_note 78 = .ok (.goto 14, 3) := by decide +kernel
theorem dX3_note_81 : decode cX3_note 81 = .ok (.aload_n 0, 1) := by decide +kernel
theorem dX3_note_82 : decode cX3_note 82 = .ok (.getfield 30, 3) := by decide +kernel
theorem dX3_note_85 : decode cX3_note 85 = .ok (.iload_n 1, 1) := by decide +kernel
theorem dX3_note_86 : decode cX3_note 86 = .ok (.iaload, 1) := by decide +kernel
theorem dX3_note_87 : decode cX3_note 87 = .ok (.iload 4, 2) := by decide +kernel
theorem dX3_note_89 : decode cX3_note 89 = .ok (.invokestatic 40, 3) := by decide +kernel
theorem dX3_note_92 : decode cX3_note 92 = .ok (.iastore, 1) := by decide +kernel
theorem dX3_note_93 : decode cX3_note 93 = .ok (.aload_n 0, 1) := by decide +kernel
theorem dX3_note_94 : decode cX3_note 94 = .ok (.getfield 27, 3) := by decide +kernel
theorem dX3_note_97 : decode cX3_note 97 = .ok (.iload_n 1, 1) := by decide +kernel
theorem dX3_note_98 : decode cX3_note 98 = .ok (.aload_n 0, 1) := by decide +kernel
theorem dX3_note_99 : decode cX3_note 99 = .ok (.getfield 27, 3) := by decide +kernel
theorem dX3_note_102 : decode cX3_note 102 = .ok (.iload_n 1, 1) := by decide +kernel
theorem dX3_note_103 : decode cX3_note 103 = .ok (.iaload, 1) := by decide +kernel
theorem dX3_note_104 : decode cX3_note 104 = .ok (.iload 4, 2) := by decide +kernel
theorem dX3_note_106 : decode cX3_note 106 = .ok (.invokestatic 46, 3) := by decide +kernel
theorem dX3_note_109 : decode cX3_note 109 = .ok (.iastore, 1) := by decide +kernel
theorem dX3_note_110 : decode cX3_note 110 = .ok (.aload_n 0, 1) := by decide +kernel
theorem dX3_note_111 : decode cX3_note 111 = .ok (.getfield 24, 3) := by decide +kernel
theorem dX3_note_114 : decode cX3_note 114 = .ok (.iload_n 1, 1) := by decide +kernel
theorem dX3_note_115 : decode cX3_note 115 = .ok (.iload 4, 2) := by decide +kernel
theorem dX3_note_117 : decode cX3_note 117 = .ok (.iastore, 1) := by decide +kernel
theorem dX3_note_118 : decode cX3_note 118 = .ok (.aload_n 0, 1) := by decide +kernel
theorem dX3_note_119 : decode cX3_note 119 = .ok (.getfield 33, 3) := by decide +kernel
theorem dX3_note_122 : decode cX3_note 122 = .ok (.iload_n 1, 1) := by decide +kernel
theorem dX3_note_123 : decode cX3_note 123 = .ok (.dup2, 1) := by decide +kernel
theorem dX3_note_124 : decode cX3_note 124 = .ok (.iaload, 1) := by decide +kernel
theorem dX3_note_125 : decode cX3_note 125 = .ok (.iload 5, 2) := by decide +kernel
theorem dX3_note_127 : decode cX3_note 127 = .ok (.iadd, 1) := by decide +kernel
theorem dX3_note_128 : decode cX3_note 128 = .ok (.iastore, 1) := by decide +kernel
theorem dX3_note_129 : decode cX3_note 129 = .ok (.return_, 1) := by decide +kernel
set_option maxRecDepth 20000 in
theorem ggX4_init_X1_init : GoodIn wsX4_init wsX1_init := goodIn_r _ [22, 23, 2, 3, 24, 25, 26, 27, 28, 29, 30, 31, 32, 33, 34, 70, 71, 72, 73, 74, 75, 76, 77] (by decide +kernel) (by decide +kernel)
set_option maxRecDepth 20000 in
theorem gX4_init_X1_init_n9 : GoodIn wsX4_init (wsX1_init) := ggX4_init_X1_init
set_option maxRecDepth 20000 in
theorem ggX4_init_X2_init : GoodIn wsX4_init wsX2_init := goodIn_r _ [36, 37, 2, 3, 27, 38, 39, 40, 41, 42, 43, 44, 45, 46, 47, 48, 49, 50, 83, 84, 85, 86, 87, 88, 89, 90, 91, 92, 93, 94, 95] (by decide +kernel) (by decide +kernel)
set_option maxRecDepth 20000 in
theorem gX4_init_X2_init_n18 : GoodIn wsX4_init (wsX2_init) := ggX4_init_X2_init
set_option maxRecDepth 20000 in
theorem ggX4_init_X0_init : GoodIn wsX4_init wsX0_init := goodIn_r _ [53, 54, 2, 3, 27, 55, 56, 57, 96, 97, 98] (by decide +kernel) (by decide +kernel)
set_option maxRecDepth 20000 in
theorem gX4_init_X0_init : GoodIn wsX4_init (wsX0_init) := ggX4_init_X0_init
set_option maxRecDepth 20000 in
theorem ggX4_init_X3_init : GoodIn wsX4_init wsX3_init := goodIn_r _ [59, 60, 2, 3, 27, 61, 62, 63, 64, 65, 66, 67, 68, 69, 99, 100, 101, 102, 103, 104, 105, 106, 107] (by decide +kernel) (by decide +kernel)
set_option maxRecDepth 20000 in
theorem gX4_init_X3_init_n34 : GoodIn wsX4_init (wsX3_init) := ggX4_init_X3_init
theorem dX4_init_0 : decode cX4_init 0 = .ok (.aload_n 0, 1) := by decide +kernel
theorem dX4_init_1 : decode cX4_init 1 = .ok (.invokespecial 1, 3) := by decide +kernel
theorem dX4_init_4 : decode cX4_init 4 = .ok (.aload_n 0, 1) := by decide +kernel
theorem dX4_init_5 : decode cX4_init 5 = .ok (.new 7, 3) := by decide +kernel
theorem dX4_init_8 : decode cX4_init 8 = .ok (.dup, 1) := by decide +kernel
theorem dX4_init_9 : decode cX4_init 9 = .ok (.invokespecial 9, 3) := by decide +kernel
theorem dX4_init_12 : decode cX4_init 12 = .ok (.putfield 10, 3) := by decide +kernel
theorem dX4_init_15 : decode cX4_init 15 = .ok (.aload_n 0, 1) := by decide +kernel
theorem dX4_init_16 : decode cX4_init 16 = .ok (.new 16, 3) := by decide +kernel
theorem dX4_init_19 : decode cX4_init 19 = .ok (.dup, 1) := by decide +kernel
theorem dX4_init_20 : decode cX4_init 20 = .ok (.invokespecial 18, 3) := by decide +kernel
theorem dX4_init_23 : decode cX4_init 23 = .ok (.putfield 19, 3) := by decide +kernel
theorem dX4_init_26 : decode cX4_init 26 = .ok (.aload_n 0, 1) := by decide +kernel
theorem dX4_init_27 : decode cX4_init 27 = .ok (.new 23, 3) := by decide +kernel
theorem dX4_init_30 : decode cX4_init 30 = .ok (.dup, 1) := by decide +kernel
theorem dX4_init_31 : decode cX4_init 31 = .ok (.aload_n 0, 1) := by decide +kernel
theorem dX4_init_32 : decode cX4_init 32 = .ok (.getfield 19, 3) := by decide +kernel
theorem dX4_init_35 : decode cX4_init 35 = .ok (.invokespecial 25, 3) := by decide +kernel
theorem dX4_init_38 : decode cX4_init 38 = .ok (.putfield 28, 3) := by decide +kernel
theorem dX4_init_41 : decode cX4_init 41 = .ok (.aload_n 0, 1) := by decide +kernel
theorem dX4_init_42 : decode cX4_init 42 = .ok (.new 32, 3) := by decide +kernel
theorem dX4_init_45 : decode cX4_init 45 = .ok (.dup, 1) := by decide +kernel
theorem dX4_init_46 : decode cX4_init 46 = .ok (.invokespecial 34, 3) := by decide +kernel
theorem dX4_init_49 : decode cX4_init 49 = .ok (.putfield 35, 3) := by decide +kernel
theorem dX4_init_52 : decode cX4_init 52 = .ok (.aload_n 0, 1) := by decide +kernel
theorem dX4_init_53 : decode cX4_init 53 = .ok (.iconst 0, 1) := by decide +kernel
theorem dX4_init_54 : decode cX4_init 54 = .ok (.putfield 39, 3) := by decide +kernel
theorem dX4_init_57 : decode cX4_init 57 = .ok (.return_, 1) := by decide +kernel
set_option maxRecDepth 20000 in
theorem ggX4_deposit_X4_needAccount : GoodIn wsX4_deposit wsX4_needAccount := goodIn_ca (goodIn_r _ [10, 11, 12] (by decide +kernel) (by decide +kernel)) (goodIn_sub (fun _ h => List.mem_cons_of_mem _ (List.mem_append_left _ (List.mem_append_right _ h))) (by decide +kernel))
set_option maxRecDepth 20000 in
theorem gX4_deposit_X4_needAccount : GoodIn wsX4_deposit (va_wsS RX4 43 yX4_needAccount wsX4_needAccount) := goodIn_app (goodIn_of _ (by decide +kernel)) ggX4_deposit_X4_needAccount
set_option maxRecDepth 20000 in
theorem ggX4_deposit_X4_needWithin : GoodIn wsX4_deposit wsX4_needWithin := goodIn_ca (goodIn_r _ [15, 16, 17] (by decide +kernel) (by decide +kernel)) (goodIn_sub (fun _ h => List.mem_cons_of_mem _ (List.mem_append_right _ h)) (by decide +kernel))
set_option maxRecDepth 20000 in
theorem gX4_deposit_X4_needWithin : GoodIn wsX4_deposit (va_wsS RX4 48 yX4_needWithin wsX4_needWithin) := goodIn_app (goodIn_of _ (by decide +kernel)) ggX4_deposit_X4_needWithin
set_option maxRecDepth 20000 in
theorem ggX4_deposit_X1_know : GoodIn wsX4_deposit wsX1_know := goodIn_r _ [22, 23, 24, 30, 31, 32, 33, 34, 35, 36, 37] (by decide +kernel) (by decide +kernel)
set_option maxRecDepth 20000 in
theorem gX4_deposit_X1_know : GoodIn wsX4_deposit (wsV RX4 65 RX1 yX1_know wsX1_know) := goodIn_app (goodIn_of _ (by decide +kernel)) ggX4_deposit_X1_know
theorem dX4_deposit_0 : decode cX4_deposit 0 = .ok (.iload_n 1, 1) := by decide +kernel
theorem dX4_deposit_1 : decode cX4_deposit 1 = .ok (.invokestatic 43, 3) := by decide +kernel
theorem dX4_deposit_4 : decode cX4_deposit 4 = .ok (.iload_n 2, 1) := by decide +kernel
theorem dX4_deposit_5 : decode cX4_deposit 5 = .ok (.iconst 1, 1) := by decide +kernel
theorem dX4_deposit_6 : decode cX4_deposit 6 = .ok (.ldc 47, 2) := by decide +kernel
theorem dX4_deposit_8 : decode cX4_deposit 8 = .ok (.invokestatic 48, 3) := by decide +kernel
theorem dX4_deposit_11 : decode cX4_deposit 11 = .ok (.aload_n 0, 1) := by decide +kernel
theorem dX4_deposit_12 : decode cX4_deposit 12 = .ok (.getfield 10, 3) := by decide +kernel
theorem dX4_deposit_15 : decode cX4_deposit 15 = .ok (.getfield 52, 3) := by decide +kernel
theorem dX4_deposit_18 : decode cX4_deposit 18 = .ok (.iload_n 1, 1) := by decide +kernel
theorem dX4_deposit_19 : decode cX4_deposit 19 = .ok (.laload, 1) := by decide +kernel
theorem dX4_deposit_20 : decode cX4_deposit 20 = .ok (.iload_n 2, 1) := by decide +kernel
theorem dX4_deposit_21 : decode cX4_deposit 21 = .ok (.i2l, 1) := by decide +kernel
theorem dX4_deposit_22 : decode cX4_deposit 22 = .ok (.ladd, 1) := by decide +kernel
theorem dX4_deposit_23 : decode cX4_deposit 23 = .ok (.ldc2_w 56, 3) := by decide +kernel
theorem dX4_deposit_26 : decode cX4_deposit 26 = .ok (.lcmp, 1) := by decide +kernel
theorem dX4_deposit_27 : decode cX4_deposit 27 = .ok (.ifCond .le 13, 3) := by decide +kernel
theorem dX4_deposit_30 : decode cX4_deposit 30 = .ok (.new 58, 3) := by decide +kernel
theorem dX4_deposit_33 : decode cX4_deposit 33 = .ok (.dup, 1) := by decide +kernel
theorem dX4_deposit_34 : decode cX4_deposit 34 = .ok (.ldc 60, 2) := by decide +kernel
theorem dX4_deposit_36 : decode cX4_deposit 36 = .ok (.invokespecial 62, 3) := by decide +kernel
theorem dX4_deposit_39 : decode cX4_deposit 39 = .ok (.athrow, 1) := by decide +kernel
theorem dX4_deposit_40 : decode cX4_deposit 40 = .ok (.aload_n 0, 1) := by decide +kernel
theorem dX4_deposit_41 : decode cX4_deposit 41 = .ok (.getfield 10, 3) := by decide +kernel
theorem dX4_deposit_44 : decode cX4_deposit 44 = .ok (.getfield 52, 3) := by decide +kernel
theorem dX4_deposit_47 : decode cX4_deposit 47 = .ok (.iload_n 1, 1) := by decide +kernel
theorem dX4_deposit_48 : decode cX4_deposit 48 = .ok (.dup2, 1) := by decide +kernel
theorem dX4_deposit_49 : decode cX4_deposit 49 = .ok (.laload, 1) := by decide +kernel
theorem dX4_deposit_50 : decode cX4_deposit 50 = .ok (.iload_n 2, 1) := by decide +kernel
theorem dX4_deposit_51 : decode cX4_deposit 51 = .ok (.i2l, 1) := by decide +kernel
theorem dX4_deposit_52 : decode cX4_deposit 52 = .ok (.ladd, 1) := by decide +kernel
theorem dX4_deposit_53 : decode cX4_deposit 53 = .ok (.lastore, 1) := by decide +kernel
theorem dX4_deposit_54 : decode cX4_deposit 54 = .ok (.aload_n 0, 1) := by decide +kernel
theorem dX4_deposit_55 : decode cX4_deposit 55 = .ok (.getfield 10, 3) := by decide +kernel
theorem dX4_deposit_58 : decode cX4_deposit 58 = .ok (.iload_n 1, 1) := by decide +kernel
theorem dX4_deposit_59 : decode cX4_deposit 59 = .ok (.invokevirtual 65, 3) := by decide +kernel
theorem dX4_deposit_62 : decode cX4_deposit 62 = .ok (.aload_n 0, 1) := by decide +kernel
theorem dX4_deposit_63 : decode cX4_deposit 63 = .ok (.getfield 10, 3) := by decide +kernel
theorem dX4_deposit_66 : decode cX4_deposit 66 = .ok (.getfield 52, 3) := by decide +kernel
theorem dX4_deposit_69 : decode cX4_deposit 69 = .ok (.iload_n 1, 1) := by decide +kernel
theorem dX4_deposit_70 : decode cX4_deposit 70 = .ok (.laload, 1) := by decide +kernel
theorem dX4_deposit_71 : decode cX4_deposit 71 = .ok (.lreturn, 1) := by decide +kernel
set_option maxRecDepth 20000 in
theorem ggX4_withdraw_X4_needAccount : GoodIn wsX4_withdraw wsX4_needAccount := goodIn_ca (goodIn_r _ [9, 10, 11] (by decide +kernel) (by decide +kernel)) (goodIn_sub (fun _ h => List.mem_cons_of_mem _ (List.mem_append_left _ (List.mem_append_right _ h))) (by decide +kernel))
set_option maxRecDepth 20000 in
theorem gX4_withdraw_X4_needAccount : GoodIn wsX4_withdraw (va_wsS RX4 43 yX4_needAccount wsX4_needAccount) := goodIn_app (goodIn_of _ (by decide +kernel)) ggX4_withdraw_X4_needAccount
set_option maxRecDepth 20000 in
theorem ggX4_withdraw_X4_needWithin : GoodIn wsX4_withdraw wsX4_needWithin := goodIn_ca (goodIn_r _ [14, 15, 16] (by decide +kernel) (by decide +kernel)) (goodIn_sub (fun _ h => List.mem_cons_of_mem _ (List.mem_append_right _ h)) (by decide +kernel))
set_option maxRecDepth 20000 in
theorem gX4_withdraw_X4_needWithin : GoodIn wsX4_withdraw (va_wsS RX4 48 yX4_needWithin wsX4_needWithin) := goodIn_app (goodIn_of _ (by decide +kernel)) ggX4_withdraw_X4_needWithin
set_option maxRecDepth 20000 in
theorem ggX4_withdraw_X1_freeCash : GoodIn wsX4_withdraw wsX1_freeCash := goodIn_r _ [21, 22, 23, 29, 30, 31, 32, 33, 34, 35, 36] (by decide +kernel) (by decide +kernel)
set_option maxRecDepth 20000 in
theorem gX4_withdraw_X1_freeCash : GoodIn wsX4_withdraw (wsV RX4 68 RX1 yX1_freeCash wsX1_freeCash) := goodIn_app (goodIn_of _ (by decide +kernel)) ggX4_withdraw_X1_freeCash
theorem dX4_withdraw_0 : decode cX4_withdraw 0 = .ok (.iload_n 1, 1) := by decide +kernel
theorem dX4_withdraw_1 : decode cX4_withdraw 1 = .ok (.invokestatic 43, 3) := by decide +kernel
theorem dX4_withdraw_4 : decode cX4_withdraw 4 = .ok (.iload_n 2, 1) := by decide +kernel
theorem dX4_withdraw_5 : decode cX4_withdraw 5 = .ok (.iconst 1, 1) := by decide +kernel
theorem dX4_withdraw_6 : decode cX4_withdraw 6 = .ok (.ldc 47, 2) := by decide +kernel
theorem dX4_withdraw_8 : decode cX4_withdraw 8 = .ok (.invokestatic 48, 3) := by decide +kernel
theorem dX4_withdraw_11 : decode cX4_withdraw 11 = .ok (.aload_n 0, 1) := by decide +kernel
theorem dX4_withdraw_12 : decode cX4_withdraw 12 = .ok (.getfield 10, 3) := by decide +kernel
theorem dX4_withdraw_15 : decode cX4_withdraw 15 = .ok (.iload_n 1, 1) := by decide +kernel
theorem dX4_withdraw_16 : decode cX4_withdraw 16 = .ok (.invokevirtual 68, 3) := by decide +kernel
theorem dX4_withdraw_19 : decode cX4_withdraw 19 = .ok (.iload_n 2, 1) := by decide +kernel
theorem dX4_withdraw_20 : decode cX4_withdraw 20 = .ok (.i2l, 1) := by decide +kernel
theorem dX4_withdraw_21 : decode cX4_withdraw 21 = .ok (.lcmp, 1) := by decide +kernel
theorem dX4_withdraw_22 : decode cX4_withdraw 22 = .ok (.ifCond .ge 13, 3) := by decide +kernel
theorem dX4_withdraw_25 : decode cX4_withdraw 25 = .ok (.new 58, 3) := by decide +kernel
theorem dX4_withdraw_28 : decode cX4_withdraw 28 = .ok (.dup, 1) := by decide +kernel
theorem dX4_withdraw_29 : decode cX4_withdraw 29 = .ok (.ldc 72, 2) := by decide +kernel
theorem dX4_withdraw_31 : decode cX4_withdraw 31 = .ok (.invokespecial 62, 3) := by decide +kernel
theorem dX4_withdraw_34 : decode cX4_withdraw 34 = .ok (.athrow, 1) := by decide +kernel
theorem dX4_withdraw_35 : decode cX4_withdraw 35 = .ok (.aload_n 0, 1) := by decide +kernel
theorem dX4_withdraw_36 : decode cX4_withdraw 36 = .ok (.getfield 10, 3) := by decide +kernel
theorem dX4_withdraw_39 : decode cX4_withdraw 39 = .ok (.getfield 52, 3) := by decide +kernel
theorem dX4_withdraw_42 : decode cX4_withdraw 42 = .ok (.iload_n 1, 1) := by decide +kernel
theorem dX4_withdraw_43 : decode cX4_withdraw 43 = .ok (.dup2, 1) := by decide +kernel
theorem dX4_withdraw_44 : decode cX4_withdraw 44 = .ok (.laload, 1) := by decide +kernel
theorem dX4_withdraw_45 : decode cX4_withdraw 45 = .ok (.iload_n 2, 1) := by decide +kernel
theorem dX4_withdraw_46 : decode cX4_withdraw 46 = .ok (.i2l, 1) := by decide +kernel
theorem dX4_withdraw_47 : decode cX4_withdraw 47 = .ok (.lsub, 1) := by decide +kernel
theorem dX4_withdraw_48 : decode cX4_withdraw 48 = .ok (.lastore, 1) := by decide +kernel
theorem dX4_withdraw_49 : decode cX4_withdraw 49 = .ok (.aload_n 0, 1) := by decide +kernel
theorem dX4_withdraw_50 : decode cX4_withdraw 50 = .ok (.getfield 10, 3) := by decide +kernel
theorem dX4_withdraw_53 : decode cX4_withdraw 53 = .ok (.getfield 52, 3) := by decide +kernel
theorem dX4_withdraw_56 : decode cX4_withdraw 56 = .ok (.iload_n 1, 1) := by decide +kernel
