theorem dX4_wakeStop_36 : decode cX4_wakeStop 36 = .ok (.iload_n 3, 1) := by decide +kernel
theorem dX4_wakeStop_37 : decode cX4_wakeStop 37 = .ok (.iaload, 1) := by decide +kernel
theorem dX4_wakeStop_38 : decode cX4_wakeStop 38 = .ok (.iload_n 1, 1) := by decide +kernel
theorem dX4_wakeStop_39 : decode cX4_wakeStop 39 = .ok (.if_icmp .ne 27, 3) := by decide +kernel
theorem dX4_wakeStop_42 : decode cX4_wakeStop 42 = .ok (.aload_n 0, 1) := by decide +kernel
theorem dX4_wakeStop_43 : decode cX4_wakeStop 43 = .ok (.getfield 19, 3) := by decide +kernel
theorem dX4_wakeStop_46 : decode cX4_wakeStop 46 = .ok (.iload_n 3, 1) := by decide +kernel
theorem dX4_wakeStop_47 : decode cX4_wakeStop 47 = .ok (.iload_n 2, 1) := by decide +kernel
theorem dX4_wakeStop_48 : decode cX4_wakeStop 48 = .ok (.invokevirtual 309, 3) := by decide +kernel
theorem dX4_wakeStop_51 : decode cX4_wakeStop 51 = .ok (.ifCond .eq 15, 3) := by decide +kernel
theorem dX4_wakeStop_54 : decode cX4_wakeStop 54 = .ok (.aload_n 0, 1) := by decide +kernel
theorem dX4_wakeStop_55 : decode cX4_wakeStop 55 = .ok (.getfield 19, 3) := by decide +kernel
theorem dX4_wakeStop_58 : decode cX4_wakeStop 58 = .ok (.getfield 291, 3) := by decide +kernel
theorem dX4_wakeStop_61 : decode cX4_wakeStop 61 = .ok (.iload_n 3, 1) := by decide +kernel
theorem dX4_wakeStop_62 : decode cX4_wakeStop 62 = .ok (.iconst 0, 1) := by decide +kernel
theorem dX4_wakeStop_63 : decode cX4_wakeStop 63 = .ok (.iastore, 1) := by decide +kernel
theorem dX4_wakeStop_64 : decode cX4_wakeStop 64 = .ok (.iload_n 3, 1) := by decide +kernel
theorem dX4_wakeStop_65 : decode cX4_wakeStop 65 = .ok (.ireturn, 1) := by decide +kernel
theorem dX4_wakeStop_66 : decode cX4_wakeStop 66 = .ok (.iinc 3 1, 3) := by decide +kernel
theorem dX4_wakeStop_69 : decode cX4_wakeStop 69 = .ok (.goto (-51), 3) := by decide +kernel
theorem dX4_wakeStop_72 : decode cX4_wakeStop 72 = .ok (.iconst (-1), 1) := by decide +kernel
theorem dX4_wakeStop_73 : decode cX4_wakeStop 73 = .ok (.ireturn, 1) := by decide +kernel
set_option maxRecDepth 20000 in
theorem ggX4_meetsOther_X0_facing : GoodIn wsX4_meetsOther wsX0_facing := goodIn_r _ [7, 8, 9, 10, 11, 12, 6, 13, 32, 33, 34, 35, 36, 37, 38, 39, 40, 41, 42, 43, 44, 45, 46, 47] (by decide +kernel) (by decide +kernel)
set_option maxRecDepth 20000 in
theorem gX4_meetsOther_X0_facing : GoodIn wsX4_meetsOther (wsV RX4 313 RX0 yX0_facing wsX0_facing) := goodIn_app (goodIn_of _ (by decide +kernel)) ggX4_meetsOther_X0_facing
set_option maxRecDepth 20000 in
theorem ggX4_meetsOther_X0_orderAt : GoodIn wsX4_meetsOther wsX0_orderAt := goodIn_r _ [17, 18, 19, 32, 33, 34] (by decide +kernel) (by decide +kernel)
set_option maxRecDepth 20000 in
theorem gX4_meetsOther_X0_orderAt : GoodIn wsX4_meetsOther (wsV RX4 161 RX0 yX0_orderAt wsX0_orderAt) := goodIn_app (goodIn_of _ (by decide +kernel)) ggX4_meetsOther_X0_orderAt
set_option maxRecDepth 20000 in
theorem ggX4_meetsOther_X2_pricesAllow : GoodIn wsX4_meetsOther wsX2_pricesAllow := goodIn_r _ [24, 25, 26, 35, 36, 37, 38, 39, 40, 41, 42, 43, 44, 45, 46, 47] (by decide +kernel) (by decide +kernel)
set_option maxRecDepth 20000 in
theorem gX4_meetsOther_X2_pricesAllow : GoodIn wsX4_meetsOther (wsV RX4 316 RX2 yX2_pricesAllow wsX2_pricesAllow) := goodIn_app (goodIn_of _ (by decide +kernel)) ggX4_meetsOther_X2_pricesAllow
theorem dX4_meetsOther_0 : decode cX4_meetsOther 0 = .ok (.aload_n 0, 1) := by decide +kernel
theorem dX4_meetsOther_1 : decode cX4_meetsOther 1 = .ok (.getfield 28, 3) := by decide +kernel
theorem dX4_meetsOther_4 : decode cX4_meetsOther 4 = .ok (.aload_n 0, 1) := by decide +kernel
theorem dX4_meetsOther_5 : decode cX4_meetsOther 5 = .ok (.getfield 28, 3) := by decide +kernel
theorem dX4_meetsOther_8 : decode cX4_meetsOther 8 = .ok (.iload_n 1, 1) := by decide +kernel
theorem dX4_meetsOther_9 : decode cX4_meetsOther 9 = .ok (.invokevirtual 313, 3) := by decide +kernel
theorem dX4_meetsOther_12 : decode cX4_meetsOther 12 = .ok (.iconst 0, 1) := by decide +kernel
theorem dX4_meetsOther_13 : decode cX4_meetsOther 13 = .ok (.invokevirtual 161, 3) := by decide +kernel
theorem dX4_meetsOther_16 : decode cX4_meetsOther 16 = .ok (.istore_n 2, 1) := by decide +kernel
theorem dX4_meetsOther_17 : decode cX4_meetsOther 17 = .ok (.iload_n 2, 1) := by decide +kernel
theorem dX4_meetsOther_18 : decode cX4_meetsOther 18 = .ok (.iconst (-1), 1) := by decide +kernel
theorem dX4_meetsOther_19 : decode cX4_meetsOther 19 = .ok (.if_icmp .eq 19, 3) := by decide +kernel
theorem dX4_meetsOther_22 : decode cX4_meetsOther 22 = .ok (.aload_n 0, 1) := by decide +kernel
theorem dX4_meetsOther_23 : decode cX4_meetsOther 23 = .ok (.getfield 19, 3) := by decide +kernel
theorem dX4_meetsOther_26 : decode cX4_meetsOther 26 = .ok (.iload_n 1, 1) := by decide +kernel
theorem dX4_meetsOther_27 : decode cX4_meetsOther 27 = .ok (.iload_n 2, 1) := by decide +kernel
theorem dX4_meetsOther_28 : decode cX4_meetsOther 28 = .ok (.invokevirtual 316, 3) := by decide +kernel
theorem dX4_meetsOther_31 : decode cX4_meetsOther 31 = .ok (.ifCond .eq 7, 3) := by decide +kernel
theorem dX4_meetsOther_34 : decode cX4_meetsOther 34 = .ok (.iconst 1, 1) := by decide +kernel
theorem dX4_meetsOther_35 : decode cX4_meetsOther 35 = .ok (.goto 4, 3) := by decide +kernel
theorem dX4_meetsOther_38 : decode cX4_meetsOther 38 = .ok (.iconst 0, 1) := by decide +kernel
theorem dX4_meetsOther_39 : decode cX4_meetsOther 39 = .ok (.ireturn, 1) := by decide +kernel
set_option maxRecDepth 20000 in
theorem ggX4_wouldTradeWholly_X0_facing : GoodIn wsX4_wouldTradeWholly wsX0_facing := goodIn_r _ [12, 13, 14, 15, 16, 17, 11, 18, 37, 38, 39, 40, 41, 42, 43, 44, 45, 46, 47, 48, 49, 50, 51, 52] (by decide +kernel) (by decide +kernel)
set_option maxRecDepth 20000 in
theorem gX4_wouldTradeWholly_X0_facing : GoodIn wsX4_wouldTradeWholly (wsV RX4 313 RX0 yX0_facing wsX0_facing) := goodIn_app (goodIn_of _ (by decide +kernel)) ggX4_wouldTradeWholly_X0_facing
set_option maxRecDepth 20000 in
theorem ggX4_wouldTradeWholly_X0_orderAt : GoodIn wsX4_wouldTradeWholly wsX0_orderAt := goodIn_r _ [22, 23, 24, 37, 38, 39] (by decide +kernel) (by decide +kernel)
set_option maxRecDepth 20000 in
theorem gX4_wouldTradeWholly_X0_orderAt : GoodIn wsX4_wouldTradeWholly (wsV RX4 161 RX0 yX0_orderAt wsX0_orderAt) := goodIn_app (goodIn_of _ (by decide +kernel)) ggX4_wouldTradeWholly_X0_orderAt
set_option maxRecDepth 20000 in
theorem ggX4_wouldTradeWholly_X2_pricesAllow : GoodIn wsX4_wouldTradeWholly wsX2_pricesAllow := goodIn_r _ [29, 30, 31, 40, 41, 42, 43, 44, 45, 46, 47, 48, 49, 50, 51, 52] (by decide +kernel) (by decide +kernel)
set_option maxRecDepth 20000 in
theorem gX4_wouldTradeWholly_X2_pricesAllow : GoodIn wsX4_wouldTradeWholly (wsV RX4 316 RX2 yX2_pricesAllow wsX2_pricesAllow) := goodIn_app (goodIn_of _ (by decide +kernel)) ggX4_wouldTradeWholly_X2_pricesAllow
theorem dX4_wouldTradeWholly_0 : decode cX4_wouldTradeWholly 0 = .ok (.aload_n 0, 1) := by decide +kernel
theorem dX4_wouldTradeWholly_1 : decode cX4_wouldTradeWholly 1 = .ok (.getfield 28, 3) := by decide +kernel
theorem dX4_wouldTradeWholly_4 : decode cX4_wouldTradeWholly 4 = .ok (.iload_n 1, 1) := by decide +kernel
theorem dX4_wouldTradeWholly_5 : decode cX4_wouldTradeWholly 5 = .ok (.invokevirtual 313, 3) := by decide +kernel
theorem dX4_wouldTradeWholly_8 : decode cX4_wouldTradeWholly 8 = .ok (.istore_n 2, 1) := by decide +kernel
theorem dX4_wouldTradeWholly_9 : decode cX4_wouldTradeWholly 9 = .ok (.iconst 0, 1) := by decide +kernel
theorem dX4_wouldTradeWholly_10 : decode cX4_wouldTradeWholly 10 = .ok (.istore_n 3, 1) := by decide +kernel
theorem dX4_wouldTradeWholly_11 : decode cX4_wouldTradeWholly 11 = .ok (.iconst 0, 1) := by decide +kernel
theorem dX4_wouldTradeWholly_12 : decode cX4_wouldTradeWholly 12 = .ok (.istore 4, 2) := by decide +kernel
theorem dX4_wouldTradeWholly_14 : decode cX4_wouldTradeWholly 14 = .ok (.iconst 0, 1) := by decide +kernel
theorem dX4_wouldTradeWholly_15 : decode cX4_wouldTradeWholly 15 = .ok (.istore 5, 2) := by decide +kernel
theorem dX4_wouldTradeWholly_17 : decode cX4_wouldTradeWholly 17 = .ok (.iconst 0, 1) := by decide +kernel
theorem dX4_wouldTradeWholly_18 : decode cX4_wouldTradeWholly 18 = .ok (.istore 6, 2) := by decide +kernel
theorem dX4_wouldTradeWholly_20 : decode cX4_wouldTradeWholly 20 = .ok (.iconst 0, 1) := by decide +kernel
theorem dX4_wouldTradeWholly_21 : decode cX4_wouldTradeWholly 21 = .ok (.istore 7, 2) := by decide +kernel
theorem dX4_wouldTradeWholly_23 : decode cX4_wouldTradeWholly 23 = .ok (.iload 7, 2) := by decide +kernel
theorem dX4_wouldTradeWholly_25 : decode cX4_wouldTradeWholly 25 = .ok (.aload_n 0, 1) := by decide +kernel
theorem dX4_wouldTradeWholly_26 : decode cX4_wouldTradeWholly 26 = .ok (.getfield 28, 3) := by decide +kernel
theorem dX4_wouldTradeWholly_29 : decode cX4_wouldTradeWholly 29 = .ok (.getfield 319, 3) := by decide +kernel
theorem dX4_wouldTradeWholly_32 : decode cX4_wouldTradeWholly 32 = .ok (.iload_n 2, 1) := by decide +kernel
theorem dX4_wouldTradeWholly_33 : decode cX4_wouldTradeWholly 33 = .ok (.iaload, 1) := by decide +kernel
theorem dX4_wouldTradeWholly_34 : decode cX4_wouldTradeWholly 34 = .ok (.if_icmp .ge 155, 3) := by decide +kernel
theorem dX4_wouldTradeWholly_37 : decode cX4_wouldTradeWholly 37 = .ok (.aload_n 0, 1) := by decide +kernel
theorem dX4_wouldTradeWholly_38 : decode cX4_wouldTradeWholly 38 = .ok (.getfield 28, 3) := by decide +kernel
theorem dX4_wouldTradeWholly_41 : decode cX4_wouldTradeWholly 41 = .ok (.iload_n 2, 1) := by decide +kernel
theorem dX4_wouldTradeWholly_42 : decode cX4_wouldTradeWholly 42 = .ok (.iload 7, 2) := by decide +kernel
theorem dX4_wouldTradeWholly_44 : decode cX4_wouldTradeWholly 44 = .ok (.invokevirtual 161, 3) := by decide +kernel
theorem dX4_wouldTradeWholly_47 : decode cX4_wouldTradeWholly 47 = .ok (.istore 8, 2) := by decide +kernel
theorem dX4_wouldTradeWholly_49 : decode cX4_wouldTradeWholly 49 = .ok (.iload 8, 2) := by decide +kernel
theorem dX4_wouldTradeWholly_51 : decode cX4_wouldTradeWholly 51 = .ok (.iconst (-1), 1) := by decide +kernel
theorem dX4_wouldTradeWholly_52 : decode cX4_wouldTradeWholly 52 = .ok (.if_icmp .eq 137, 3) := by decide +kernel
theorem dX4_wouldTradeWholly_55 : decode cX4_wouldTradeWholly 55 = .ok (.aload_n 0, 1) := by decide +kernel
theorem dX4_wouldTradeWholly_56 : decode cX4_wouldTradeWholly 56 = .ok (.getfield 19, 3) := by decide +kernel
theorem dX4_wouldTradeWholly_59 : decode cX4_wouldTradeWholly 59 = .ok (.iload_n 1, 1) := by decide +kernel
theorem dX4_wouldTradeWholly_60 : decode cX4_wouldTradeWholly 60 = .ok (.iload 8, 2) := by decide +kernel
theorem dX4_wouldTradeWholly_62 : decode cX4_wouldTradeWholly 62 = .ok (.invokevirtual 316, 3) := by decide +kernel
theorem dX4_wouldTradeWholly_65 : decode cX4_wouldTradeWholly 65 = .ok (.ifCond .ne 6, 3) := by decide +kernel
theorem dX4_wouldTradeWholly_68 : decode cX4_wouldTradeWholly 68 = .ok (.goto 121, 3) := by decide +kernel
theorem dX4_wouldTradeWholly_71 : decode cX4_wouldTradeWholly 71 = .ok (.aload_n 0, 1) := by decide +kernel
theorem dX4_wouldTradeWholly_72 : decode cX4_wouldTradeWholly 72 = .ok (.getfield 19, 3) := by decide +kernel
theorem dX4_wouldTradeWholly_75 : decode cX4_wouldTradeWholly 75 = .ok (.getfield 169, 3) := by decide +kernel
theorem dX4_wouldTradeWholly_78 : decode cX4_wouldTradeWholly 78 = .ok (.iload 8, 2) := by decide +kernel
theorem dX4_wouldTradeWholly_80 : decode cX4_wouldTradeWholly 80 = .ok (.iaload, 1) := by decide +kernel
theorem dX4_wouldTradeWholly_81 : decode cX4_wouldTradeWholly 81 = .ok (.iload 6, 2) := by decide +kernel
theorem dX4_wouldTradeWholly_83 : decode cX4_wouldTradeWholly 83 = .ok (.if_icmp .eq 26, 3) := by decide +kernel
theorem dX4_wouldTradeWholly_86 : decode cX4_wouldTradeWholly 86 = .ok (.iload_n 3, 1) := by decide +kernel
theorem dX4_wouldTradeWholly_87 : decode cX4_wouldTradeWholly 87 = .ok (.iload 4, 2) := by decide +kernel
theorem dX4_wouldTradeWholly_89 : decode cX4_wouldTradeWholly 89 = .ok (.iadd, 1) := by decide +kernel
theorem dX4_wouldTradeWholly_90 : decode cX4_wouldTradeWholly 90 = .ok (.istore_n 3, 1) := by decide +kernel
theorem dX4_wouldTradeWholly_91 : decode cX4_wouldTradeWholly 91 = .ok (.iconst 0, 1) := by decide +kernel
theorem dX4_wouldTradeWholly_92 : decode cX4_wouldTradeWholly 92 = .ok (.istore 4, 2) := by decide +kernel
theorem dX4_wouldTradeWholly_94 : decode cX4_wouldTradeWholly 94 = .ok (.iconst 0, 1) := by decide +kernel
theorem dX4_wouldTradeWholly_95 : decode cX4_wouldTradeWholly 95 = .ok (.istore 5, 2) := by decide +kernel
theorem dX4_wouldTradeWholly_97 : decode cX4_wouldTradeWholly 97 = .ok (.aload_n 0, 1) := by decide +kernel
theorem dX4_wouldTradeWholly_98 : decode cX4_wouldTradeWholly 98 = .ok (.getfield 19, 3) := by decide +kernel
theorem dX4_wouldTradeWholly_101 : decode cX4_wouldTradeWholly 101 = .ok (.getfield 169, 3) := by decide +kernel
theorem dX4_wouldTradeWholly_104 : decode cX4_wouldTradeWholly 104 = .ok (.iload 8, 2) := by decide +kernel
theorem dX4_wouldTradeWholly_106 : decode cX4_wouldTradeWholly 106 = .ok (.iaload, 1) := by decide +kernel
theorem dX4_wouldTradeWholly_107 : decode cX4_wouldTradeWholly 107 = .ok (.istore 6, 2) := by decide +kernel
theorem dX4_wouldTradeWholly_109 : decode cX4_wouldTradeWholly 109 = .ok (.aload_n 0, 1) := by decide +kernel
theorem dX4_wouldTradeWholly_110 : decode cX4_wouldTradeWholly 110 = .ok (.getfield 19, 3) := by decide +kernel
theorem dX4_wouldTradeWholly_113 : decode cX4_wouldTradeWholly 113 = .ok (.getfield 198, 3) := by decide +kernel
theorem dX4_wouldTradeWholly_116 : decode cX4_wouldTradeWholly 116 = .ok (.iload 8, 2) := by decide +kernel
theorem dX4_wouldTradeWholly_118 : decode cX4_wouldTradeWholly 118 = .ok (.iaload, 1) := by decide +kernel
theorem dX4_wouldTradeWholly_119 : decode cX4_wouldTradeWholly 119 = .ok (.aload_n 0, 1) := by decide +kernel
theorem dX4_wouldTradeWholly_120 : decode cX4_wouldTradeWholly 120 = .ok (.getfield 19, 3) := by decide +kernel
theorem dX4_wouldTradeWholly_123 : decode cX4_wouldTradeWholly 123 = .ok (.getfield 198, 3) := by decide +kernel
theorem dX4_wouldTradeWholly_126 : decode cX4_wouldTradeWholly 126 = .ok (.iload_n 1, 1) := by decide +kernel
theorem dX4_wouldTradeWholly_127 : decode cX4_wouldTradeWholly 127 = .ok (.iaload, 1) := by decide +kernel
theorem dX4_wouldTradeWholly_128 : decode cX4_wouldTradeWholly 128 = .ok (.if_icmp .ne 25, 3) := by decide +kernel
theorem dX4_wouldTradeWholly_131 : decode cX4_wouldTradeWholly 131 = .ok (.iload_n 3, 1) := by decide +kernel
theorem dX4_wouldTradeWholly_132 : decode cX4_wouldTradeWholly 132 = .ok (.iload 5, 2) := by decide +kernel
theorem dX4_wouldTradeWholly_134 : decode cX4_wouldTradeWholly 134 = .ok (.iadd, 1) := by decide +kernel
theorem dX4_wouldTradeWholly_135 : decode cX4_wouldTradeWholly 135 = .ok (.aload_n 0, 1) := by decide +kernel
theorem dX4_wouldTradeWholly_136 : decode cX4_wouldTradeWholly 136 = .ok (.getfield 19, 3) := by decide +kernel
theorem dX4_wouldTradeWholly_139 : decode cX4_wouldTradeWholly 139 = .ok (.getfield 126, 3) := by decide +kernel
theorem dX4_wouldTradeWholly_142 : decode cX4_wouldTradeWholly 142 = .ok (.iload_n 1, 1) := by decide +kernel
theorem dX4_wouldTradeWholly_143 : decode cX4_wouldTradeWholly 143 = .ok (.iaload, 1) := by decide +kernel
theorem dX4_wouldTradeWholly_144 : decode cX4_wouldTradeWholly 144 = .ok (.if_icmp .lt 7, 3) := by decide +kernel
theorem dX4_wouldTradeWholly_147 : decode cX4_wouldTradeWholly 147 = .ok (.iconst 1, 1) := by decide +kernel
theorem dX4_wouldTradeWholly_148 : decode cX4_wouldTradeWholly 148 = .ok (.goto 4, 3) := by decide +kernel
theorem dX4_wouldTradeWholly_151 : decode cX4_wouldTradeWholly 151 = .ok (.iconst 0, 1) := by decide +kernel
theorem dX4_wouldTradeWholly_152 : decode cX4_wouldTradeWholly 152 = .ok (.ireturn, 1) := by decide +kernel
theorem dX4_wouldTradeWholly_153 : decode cX4_wouldTradeWholly 153 = .ok (.iload 4, 2) := by decide +kernel
theorem dX4_wouldTradeWholly_155 : decode cX4_wouldTradeWholly 155 = .ok (.aload_n 0, 1) := by decide +kernel
theorem dX4_wouldTradeWholly_156 : decode cX4_wouldTradeWholly 156 = .ok (.getfield 19, 3) := by decide +kernel
theorem dX4_wouldTradeWholly_159 : decode cX4_wouldTradeWholly 159 = .ok (.getfield 126, 3) := by decide +kernel
theorem dX4_wouldTradeWholly_162 : decode cX4_wouldTradeWholly 162 = .ok (.iload 8, 2) := by decide +kernel
theorem dX4_wouldTradeWholly_164 : decode cX4_wouldTradeWholly 164 = .ok (.iaload, 1) := by decide +kernel
theorem dX4_wouldTradeWholly_165 : decode cX4_wouldTradeWholly 165 = .ok (.iadd, 1) := by decide +kernel
theorem dX4_wouldTradeWholly_166 : decode cX4_wouldTradeWholly 166 = .ok (.istore 4, 2) := by decide +kernel
theorem dX4_wouldTradeWholly_168 : decode cX4_wouldTradeWholly 168 = .ok (.iload 5, 2) := by decide +kernel
theorem dX4_wouldTradeWholly_170 : decode cX4_wouldTradeWholly 170 = .ok (.aload_n 0, 1) := by decide +kernel
theorem dX4_wouldTradeWholly_171 : decode cX4_wouldTradeWholly 171 = .ok (.getfield 19, 3) := by decide +kernel
theorem dX4_wouldTradeWholly_174 : decode cX4_wouldTradeWholly 174 = .ok (.getfield 139, 3) := by decide +kernel
theorem dX4_wouldTradeWholly_177 : decode cX4_wouldTradeWholly 177 = .ok (.iload 8, 2) := by decide +kernel
theorem dX4_wouldTradeWholly_179 : decode cX4_wouldTradeWholly 179 = .ok (.iaload, 1) := by decide +kernel
theorem dX4_wouldTradeWholly_180 : decode cX4_wouldTradeWholly 180 = .ok (.iadd, 1) := by decide +kernel
theorem dX4_wouldTradeWholly_181 : decode cX4_wouldTradeWholly 181 = .ok (.istore 5, 2) := by decide +kernel
theorem dX4_wouldTradeWholly_183 : decode cX4_wouldTradeWholly 183 = .ok (.iinc 7 1, 3) := by decide +kernel
theorem dX4_wouldTradeWholly_186 : decode cX4_wouldTradeWholly 186 = .ok (.goto (-163), 3) := by decide +kernel
theorem dX4_wouldTradeWholly_189 : decode cX4_wouldTradeWholly 189 = .ok (.iload_n 3, 1) := by decide +kernel
theorem dX4_wouldTradeWholly_190 : decode cX4_wouldTradeWholly 190 = .ok (.iload 4, 2) := by decide +kernel
theorem dX4_wouldTradeWholly_192 : decode cX4_wouldTradeWholly 192 = .ok (.iadd, 1) := by decide +kernel
theorem dX4_wouldTradeWholly_193 : decode cX4_wouldTradeWholly 193 = .ok (.aload_n 0, 1) := by decide +kernel
theorem dX4_wouldTradeWholly_194 : decode cX4_wouldTradeWholly 194 = .ok (.getfield 19, 3) := by decide +kernel
theorem dX4_wouldTradeWholly_197 : decode cX4_wouldTradeWholly 197 = .ok (.getfield 126, 3) := by decide +kernel
theorem dX4_wouldTradeWholly_200 : decode cX4_wouldTradeWholly 200 = .ok (.iload_n 1, 1) := by decide +kernel
theorem dX4_wouldTradeWholly_201 : decode cX4_wouldTradeWholly 201 = .ok (.iaload, 1) := by decide +kernel
theorem dX4_wouldTradeWholly_202 : decode cX4_wouldTradeWholly 202 = .ok (.if_icmp .lt 7, 3) := by decide +kernel
theorem dX4_wouldTradeWholly_205 : decode cX4_wouldTradeWholly 205 = .ok (.iconst 1, 1) := by decide +kernel
theorem dX4_wouldTradeWholly_206 : decode cX4_wouldTradeWholly 206 = .ok (.goto 4, 3) := by decide +kernel
theorem dX4_wouldTradeWholly_209 : decode cX4_wouldTradeWholly 209 = .ok (.iconst 0, 1) := by decide +kernel
theorem dX4_wouldTradeWholly_210 : decode cX4_wouldTradeWholly 210 = .ok (.ireturn, 1) := by decide +kernel
set_option maxRecDepth 20000 in
theorem ggX4_tradeUntilStopped_X0_facing : GoodIn wsX4_tradeUntilStopped wsX0_facing := goodIn_r _ [14, 15, 16, 17, 18, 19, 13, 20, 130, 131, 132, 117, 118, 119, 120, 121, 122, 123, 124, 125, 126, 127, 128, 129] (by decide +kernel) (by decide +kernel)
set_option maxRecDepth 20000 in
theorem gX4_tradeUntilStopped_X0_facing : GoodIn wsX4_tradeUntilStopped (wsV RX4 313 RX0 yX0_facing wsX0_facing) := goodIn_app (goodIn_of _ (by decide +kernel)) ggX4_tradeUntilStopped_X0_facing
set_option maxRecDepth 20000 in
theorem ggX4_tradeUntilStopped_X0_orderAt : GoodIn wsX4_tradeUntilStopped wsX0_orderAt := goodIn_r _ [24, 25, 26, 130, 131, 132] (by decide +kernel) (by decide +kernel)
set_option maxRecDepth 20000 in
theorem gX4_tradeUntilStopped_X0_orderAt : GoodIn wsX4_tradeUntilStopped (wsV RX4 161 RX0 yX0_orderAt wsX0_orderAt) := goodIn_app (goodIn_of _ (by decide +kernel)) ggX4_tradeUntilStopped_X0_orderAt
set_option maxRecDepth 20000 in
theorem ggX4_tradeUntilStopped_X2_pricesAllow : GoodIn wsX4_tradeUntilStopped wsX2_pricesAllow := goodIn_r _ [31, 32, 33, 117, 118, 119, 120, 121, 122, 123, 124, 125, 126, 127, 128, 129] (by decide +kernel) (by decide +kernel)
set_option maxRecDepth 20000 in
theorem gX4_tradeUntilStopped_X2_pricesAllow : GoodIn wsX4_tradeUntilStopped (wsV RX4 316 RX2 yX2_pricesAllow wsX2_pricesAllow) := goodIn_app (goodIn_of _ (by decide +kernel)) ggX4_tradeUntilStopped_X2_pricesAllow
set_option maxRecDepth 20000 in
theorem ggX4_tradeUntilStopped_X4_makeTrade : GoodIn wsX4_tradeUntilStopped wsX4_makeTrade := goodIn_r _ [38, 2, 39, 40, 41, 4, 42, 43, 44, 45, 46, 37, 47, 48, 49, 50, 51, 52, 53, 54, 55, 56, 57, 58, 59, 60, 61, 62, 63, 64, 65, 30, 66, 67, 68, 69, 70, 71, 72, 73, 74, 75, 76, 77, 78, 79, 80, 81, 7, 8, 9, 82, 83, 84, 85, 86, 112, 113, 114, 115, 116, 117, 118, 119, 120, 121, 122, 123, 124, 125, 126, 127, 128, 129, 133, 134, 135, 136, 137, 138, 139, 140, 141, 142, 143, 144, 145, 146, 147, 148, 149] (by decide +kernel) (by decide +kernel)
set_option maxRecDepth 20000 in
theorem gX4_tradeUntilStopped_X4_makeTrade : GoodIn wsX4_tradeUntilStopped (wsV RX4 322 RX4 yX4_makeTrade wsX4_makeTrade) := goodIn_app (goodIn_of _ (by decide +kernel)) ggX4_tradeUntilStopped_X4_makeTrade
set_option maxRecDepth 20000 in
theorem ggX4_tradeUntilStopped_X4_showLess : GoodIn wsX4_tradeUntilStopped wsX4_showLess := goodIn_r _ [90, 2, 5, 1, 3, 91, 92, 93, 13, 94, 15, 16, 17, 25, 26, 18, 19, 20, 95, 96, 97, 37, 98, 99, 100, 44, 45, 46, 47, 4, 41, 42, 48, 39, 49, 40, 50, 51, 52, 53, 101, 102, 103, 104, 105, 106, 6, 7, 8, 9, 107, 108, 109, 110, 111, 112, 113, 114, 115, 116, 117, 118, 119, 120, 121, 122, 123, 124, 125, 126, 127, 128, 129, 130, 131, 132, 133, 134, 135, 136, 137, 138, 139, 140] (by decide +kernel) (by decide +kernel)
set_option maxRecDepth 20000 in
theorem gX4_tradeUntilStopped_X4_showLess : GoodIn wsX4_tradeUntilStopped (wsV RX4 325 RX4 yX4_showLess wsX4_showLess) := goodIn_app (goodIn_of _ (by decide +kernel)) ggX4_tradeUntilStopped_X4_showLess
theorem dX4_tradeUntilStopped_0 : decode cX4_tradeUntilStopped 0 = .ok (.aload_n 0, 1) := by decide +kernel
theorem dX4_tradeUntilStopped_1 : decode cX4_tradeUntilStopped 1 = .ok (.getfield 28, 3) := by decide +kernel
theorem dX4_tradeUntilStopped_4 : decode cX4_tradeUntilStopped 4 = .ok (.iload_n 1, 1) := by decide +kernel
theorem dX4_tradeUntilStopped_5 : decode cX4_tradeUntilStopped 5 = .ok (.invokevirtual 313, 3) := by decide +kernel
theorem dX4_tradeUntilStopped_8 : decode cX4_tradeUntilStopped 8 = .ok (.istore_n 2, 1) := by decide +kernel
theorem dX4_tradeUntilStopped_9 : decode cX4_tradeUntilStopped 9 = .ok (.iconst 0, 1) := by decide +kernel
theorem dX4_tradeUntilStopped_10 : decode cX4_tradeUntilStopped 10 = .ok (.istore_n 3, 1) := by decide +kernel
theorem dX4_tradeUntilStopped_11 : decode cX4_tradeUntilStopped 11 = .ok (.iload_n 3, 1) := by decide +kernel
theorem dX4_tradeUntilStopped_12 : decode cX4_tradeUntilStopped 12 = .ok (.sipush 10000, 3) := by decide +kernel
theorem dX4_tradeUntilStopped_15 : decode cX4_tradeUntilStopped 15 = .ok (.if_icmp .ge 118, 3) := by decide +kernel
theorem dX4_tradeUntilStopped_18 : decode cX4_tradeUntilStopped 18 = .ok (.aload_n 0, 1) := by decide +kernel
theorem dX4_tradeUntilStopped_19 : decode cX4_tradeUntilStopped 19 = .ok (.getfield 19, 3) := by decide +kernel
theorem dX4_tradeUntilStopped_22 : decode cX4_tradeUntilStopped 22 = .ok (.getfield 126, 3) := by decide +kernel
theorem dX4_tradeUntilStopped_25 : decode cX4_tradeUntilStopped 25 = .ok (.iload_n 1, 1) := by decide +kernel
theorem dX4_tradeUntilStopped_26 : decode cX4_tradeUntilStopped 26 = .ok (.iaload, 1) := by decide +kernel
theorem dX4_tradeUntilStopped_27 : decode cX4_tradeUntilStopped 27 = .ok (.ifCond .le 106, 3) := by decide +kernel
theorem dX4_tradeUntilStopped_30 : decode cX4_tradeUntilStopped 30 = .ok (.aload_n 0, 1) := by decide +kernel
theorem dX4_tradeUntilStopped_31 : decode cX4_tradeUntilStopped 31 = .ok (.getfield 28, 3) := by decide +kernel
theorem dX4_tradeUntilStopped_34 : decode cX4_tradeUntilStopped 34 = .ok (.iload_n 2, 1) := by decide +kernel
theorem dX4_tradeUntilStopped_35 : decode cX4_tradeUntilStopped 35 = .ok (.iconst 0, 1) := by decide +kernel
theorem dX4_tradeUntilStopped_36 : decode cX4_tradeUntilStopped 36 = .ok (.invokevirtual 161, 3) := by decide +kernel
theorem dX4_tradeUntilStopped_39 : decode cX4_tradeUntilStopped 39 = .ok (.istore 4, 2) := by decide +kernel
theorem dX4_tradeUntilStopped_41 : decode cX4_tradeUntilStopped 41 = .ok (.iload 4, 2) := by decide +kernel
theorem dX4_tradeUntilStopped_43 : decode cX4_tradeUntilStopped 43 = .ok (.iconst (-1), 1) := by decide +kernel
theorem dX4_tradeUntilStopped_44 : decode cX4_tradeUntilStopped 44 = .ok (.if_icmp .eq 16, 3) := by decide +kernel
theorem dX4_tradeUntilStopped_47 : decode cX4_tradeUntilStopped 47 = .ok (.aload_n 0, 1) := by decide +kernel
theorem dX4_tradeUntilStopped_48 : decode cX4_tradeUntilStopped 48 = .ok (.getfield 19, 3) := by decide +kernel
theorem dX4_tradeUntilStopped_51 : decode cX4_tradeUntilStopped 51 = .ok (.iload_n 1, 1) := by decide +kernel
theorem dX4_tradeUntilStopped_52 : decode cX4_tradeUntilStopped 52 = .ok (.iload 4, 2) := by decide +kernel
theorem dX4_tradeUntilStopped_54 : decode cX4_tradeUntilStopped 54 = .ok (.invokevirtual 316, 3) := by decide +kernel
theorem dX4_tradeUntilStopped_57 : decode cX4_tradeUntilStopped 57 = .ok (.ifCond .ne 5, 3) := by decide +kernel
theorem dX4_tradeUntilStopped_60 : decode cX4_tradeUntilStopped 60 = .ok (.iconst 0, 1) := by decide +kernel
theorem dX4_tradeUntilStopped_61 : decode cX4_tradeUntilStopped 61 = .ok (.ireturn, 1) := by decide +kernel
theorem dX4_tradeUntilStopped_62 : decode cX4_tradeUntilStopped 62 = .ok (.aload_n 0, 1) := by decide +kernel
theorem dX4_tradeUntilStopped_63 : decode cX4_tradeUntilStopped 63 = .ok (.getfield 19, 3) := by decide +kernel
theorem dX4_tradeUntilStopped_66 : decode cX4_tradeUntilStopped 66 = .ok (.getfield 198, 3) := by decide +kernel
theorem dX4_tradeUntilStopped_69 : decode cX4_tradeUntilStopped 69 = .ok (.iload 4, 2) := by decide +kernel
theorem dX4_tradeUntilStopped_71 : decode cX4_tradeUntilStopped 71 = .ok (.iaload, 1) := by decide +kernel
theorem dX4_tradeUntilStopped_72 : decode cX4_tradeUntilStopped 72 = .ok (.aload_n 0, 1) := by decide +kernel
theorem dX4_tradeUntilStopped_73 : decode cX4_tradeUntilStopped 73 = .ok (.getfield 19, 3) := by decide +kernel
theorem dX4_tradeUntilStopped_76 : decode cX4_tradeUntilStopped 76 = .ok (.getfield 198, 3) := by decide +kernel
theorem dX4_tradeUntilStopped_79 : decode cX4_tradeUntilStopped 79 = .ok (.iload_n 1, 1) := by decide +kernel
theorem dX4_tradeUntilStopped_80 : decode cX4_tradeUntilStopped 80 = .ok (.iaload, 1) := by decide +kernel
theorem dX4_tradeUntilStopped_81 : decode cX4_tradeUntilStopped 81 = .ok (.if_icmp .ne 5, 3) := by decide +kernel
theorem dX4_tradeUntilStopped_84 : decode cX4_tradeUntilStopped 84 = .ok (.iconst 1, 1) := by decide +kernel
theorem dX4_tradeUntilStopped_85 : decode cX4_tradeUntilStopped 85 = .ok (.ireturn, 1) := by decide +kernel
theorem dX4_tradeUntilStopped_86 : decode cX4_tradeUntilStopped 86 = .ok (.aload_n 0, 1) := by decide +kernel
theorem dX4_tradeUntilStopped_87 : decode cX4_tradeUntilStopped 87 = .ok (.getfield 19, 3) := by decide +kernel
theorem dX4_tradeUntilStopped_90 : decode cX4_tradeUntilStopped 90 = .ok (.getfield 126, 3) := by decide +kernel
theorem dX4_tradeUntilStopped_93 : decode cX4_tradeUntilStopped 93 = .ok (.iload_n 1, 1) := by decide +kernel
theorem dX4_tradeUntilStopped_94 : decode cX4_tradeUntilStopped 94 = .ok (.iaload, 1) := by decide +kernel
theorem dX4_tradeUntilStopped_95 : decode cX4_tradeUntilStopped 95 = .ok (.aload_n 0, 1) := by decide +kernel
theorem dX4_tradeUntilStopped_96 : decode cX4_tradeUntilStopped 96 = .ok (.getfield 19, 3) := by decide +kernel
theorem dX4_tradeUntilStopped_99 : decode cX4_tradeUntilStopped 99 = .ok (.getfield 139, 3) := by decide +kernel
theorem dX4_tradeUntilStopped_102 : decode cX4_tradeUntilStopped 102 = .ok (.iload 4, 2) := by decide +kernel
theorem dX4_tradeUntilStopped_104 : decode cX4_tradeUntilStopped 104 = .ok (.iaload, 1) := by decide +kernel
theorem dX4_tradeUntilStopped_105 : decode cX4_tradeUntilStopped 105 = .ok (.invokestatic 142, 3) := by decide +kernel
theorem dX4_tradeUntilStopped_108 : decode cX4_tradeUntilStopped 108 = .ok (.istore 5, 2) := by decide +kernel
theorem dX4_tradeUntilStopped_110 : decode cX4_tradeUntilStopped 110 = .ok (.aload_n 0, 1) := by decide +kernel
theorem dX4_tradeUntilStopped_111 : decode cX4_tradeUntilStopped 111 = .ok (.iload_n 1, 1) := by decide +kernel
theorem dX4_tradeUntilStopped_112 : decode cX4_tradeUntilStopped 112 = .ok (.iload 4, 2) := by decide +kernel
theorem dX4_tradeUntilStopped_114 : decode cX4_tradeUntilStopped 114 = .ok (.iload 5, 2) := by decide +kernel
theorem dX4_tradeUntilStopped_116 : decode cX4_tradeUntilStopped 116 = .ok (.invokevirtual 322, 3) := by decide +kernel
theorem dX4_tradeUntilStopped_119 : decode cX4_tradeUntilStopped 119 = .ok (.aload_n 0, 1) := by decide +kernel
theorem dX4_tradeUntilStopped_120 : decode cX4_tradeUntilStopped 120 = .ok (.iload 4, 2) := by decide +kernel
theorem dX4_tradeUntilStopped_122 : decode cX4_tradeUntilStopped 122 = .ok (.iload 5, 2) := by decide +kernel
theorem dX4_tradeUntilStopped_124 : decode cX4_tradeUntilStopped 124 = .ok (.invokevirtual 325, 3) := by decide +kernel
theorem dX4_tradeUntilStopped_127 : decode cX4_tradeUntilStopped 127 = .ok (.iinc 3 1, 3) := by decide +kernel
theorem dX4_tradeUntilStopped_130 : decode cX4_tradeUntilStopped 130 = .ok (.goto (-119), 3) := by decide +kernel
theorem dX4_tradeUntilStopped_133 : decode cX4_tradeUntilStopped 133 = .ok (.iconst 0, 1) := by decide +kernel
theorem dX4_tradeUntilStopped_134 : decode cX4_tradeUntilStopped 134 = .ok (.ireturn, 1) := by decide +kernel
set_option maxRecDepth 20000 in
theorem ggX4_makeTrade_X4_hold : GoodIn wsX4_makeTrade wsX4_hold := goodIn_r _ [12, 1, 5, 4, 6, 13, 2, 14, 3, 15, 16, 17, 18, 56, 57, 58, 59, 60, 61, 62, 63, 64, 65, 66, 67, 68, 69, 70, 71, 72, 73, 74, 75, 76, 77, 78, 79, 80, 81] (by decide +kernel) (by decide +kernel)
set_option maxRecDepth 20000 in
theorem gX4_makeTrade_X4_hold : GoodIn wsX4_makeTrade (wsV RX4 109 RX4 yX4_hold wsX4_hold) := goodIn_app (goodIn_of _ (by decide +kernel)) ggX4_makeTrade_X4_hold
set_option maxRecDepth 20000 in
theorem ggX4_makeTrade_X1_handOver : GoodIn wsX4_makeTrade wsX1_handOver := goodIn_r _ [22, 23, 24, 25, 26, 27, 16, 17, 18, 74, 75, 76, 77, 78, 79, 80, 81] (by decide +kernel) (by decide +kernel)
set_option maxRecDepth 20000 in
theorem gX4_makeTrade_X1_handOver : GoodIn wsX4_makeTrade (wsV RX4 328 RX1 yX1_handOver wsX1_handOver) := goodIn_app (goodIn_of _ (by decide +kernel)) ggX4_makeTrade_X1_handOver
set_option maxRecDepth 20000 in
theorem ggX4_makeTrade_X2_fill : GoodIn wsX4_makeTrade wsX2_fill := goodIn_r _ [32, 33, 34, 61, 62, 63, 64, 65, 66, 67, 68, 69, 70, 71, 72, 73] (by decide +kernel) (by decide +kernel)
set_option maxRecDepth 20000 in
theorem gX4_makeTrade_X2_fill : GoodIn wsX4_makeTrade (wsV RX4 332 RX2 yX2_fill wsX2_fill) := goodIn_app (goodIn_of _ (by decide +kernel)) ggX4_makeTrade_X2_fill
set_option maxRecDepth 20000 in
theorem ggX4_makeTrade_X3_note : GoodIn wsX4_makeTrade wsX3_note := goodIn_r _ [39, 40, 41, 42, 43, 44, 45, 46, 47, 48, 49, 50, 51, 52, 53, 54, 55, 82, 83, 84, 85, 86, 87, 88, 89, 90] (by decide +kernel) (by decide +kernel)
set_option maxRecDepth 20000 in
theorem gX4_makeTrade_X3_note : GoodIn wsX4_makeTrade (wsV RX4 335 RX3 yX3_note wsX3_note) := goodIn_app (goodIn_of _ (by decide +kernel)) ggX4_makeTrade_X3_note
theorem dX4_makeTrade_0 : decode cX4_makeTrade 0 = .ok (.aload_n 0, 1) := by decide +kernel
theorem dX4_makeTrade_1 : decode cX4_makeTrade 1 = .ok (.getfield 19, 3) := by decide +kernel
theorem dX4_makeTrade_4 : decode cX4_makeTrade 4 = .ok (.getfield 169, 3) := by decide +kernel
theorem dX4_makeTrade_7 : decode cX4_makeTrade 7 = .ok (.iload_n 2, 1) := by decide +kernel
theorem dX4_makeTrade_8 : decode cX4_makeTrade 8 = .ok (.iaload, 1) := by decide +kernel
theorem dX4_makeTrade_9 : decode cX4_makeTrade 9 = .ok (.istore 4, 2) := by decide +kernel
theorem dX4_makeTrade_11 : decode cX4_makeTrade 11 = .ok (.aload_n 0, 1) := by decide +kernel
theorem dX4_makeTrade_12 : decode cX4_makeTrade 12 = .ok (.getfield 19, 3) := by decide +kernel
theorem dX4_makeTrade_15 : decode cX4_makeTrade 15 = .ok (.getfield 211, 3) := by decide +kernel
theorem dX4_makeTrade_18 : decode cX4_makeTrade 18 = .ok (.iload_n 2, 1) := by decide +kernel
theorem dX4_makeTrade_19 : decode cX4_makeTrade 19 = .ok (.iaload, 1) := by decide +kernel
theorem dX4_makeTrade_20 : decode cX4_makeTrade 20 = .ok (.istore 5, 2) := by decide +kernel
theorem dX4_makeTrade_22 : decode cX4_makeTrade 22 = .ok (.aload_n 0, 1) := by decide +kernel
theorem dX4_makeTrade_23 : decode cX4_makeTrade 23 = .ok (.getfield 19, 3) := by decide +kernel
theorem dX4_makeTrade_26 : decode cX4_makeTrade 26 = .ok (.getfield 214, 3) := by decide +kernel
theorem dX4_makeTrade_29 : decode cX4_makeTrade 29 = .ok (.iload_n 1, 1) := by decide +kernel
theorem dX4_makeTrade_30 : decode cX4_makeTrade 30 = .ok (.iaload, 1) := by decide +kernel
theorem dX4_makeTrade_31 : decode cX4_makeTrade 31 = .ok (.ifCond .ne 7, 3) := by decide +kernel
theorem dX4_makeTrade_34 : decode cX4_makeTrade 34 = .ok (.iconst 1, 1) := by decide +kernel
theorem dX4_makeTrade_35 : decode cX4_makeTrade 35 = .ok (.goto 4, 3) := by decide +kernel
theorem dX4_makeTrade_38 : decode cX4_makeTrade 38 = .ok (.iconst 0, 1) := by decide +kernel
theorem dX4_makeTrade_39 : decode cX4_makeTrade 39 = .ok (.istore 6, 2) := by decide +kernel
theorem dX4_makeTrade_41 : decode cX4_makeTrade 41 = .ok (.aload_n 0, 1) := by decide +kernel
theorem dX4_makeTrade_42 : decode cX4_makeTrade 42 = .ok (.getfield 19, 3) := by decide +kernel
theorem dX4_makeTrade_45 : decode cX4_makeTrade 45 = .ok (.getfield 198, 3) := by decide +kernel
theorem dX4_makeTrade_48 : decode cX4_makeTrade 48 = .ok (.iload 6, 2) := by decide +kernel
theorem dX4_makeTrade_50 : decode cX4_makeTrade 50 = .ok (.ifCond .eq 7, 3) := by decide +kernel
theorem dX4_makeTrade_53 : decode cX4_makeTrade 53 = .ok (.iload_n 1, 1) := by decide +kernel
theorem dX4_makeTrade_54 : decode cX4_makeTrade 54 = .ok (.goto 4, 3) := by decide +kernel
theorem dX4_makeTrade_57 : decode cX4_makeTrade 57 = .ok (.iload_n 2, 1) := by decide +kernel
theorem dX4_makeTrade_58 : decode cX4_makeTrade 58 = .ok (.iaload, 1) := by decide +kernel
theorem dX4_makeTrade_59 : decode cX4_makeTrade 59 = .ok (.istore 7, 2) := by decide +kernel
theorem dX4_makeTrade_61 : decode cX4_makeTrade 61 = .ok (.aload_n 0, 1) := by decide +kernel
theorem dX4_makeTrade_62 : decode cX4_makeTrade 62 = .ok (.getfield 19, 3) := by decide +kernel
theorem dX4_makeTrade_65 : decode cX4_makeTrade 65 = .ok (.getfield 198, 3) := by decide +kernel
theorem dX4_makeTrade_68 : decode cX4_makeTrade 68 = .ok (.iload 6, 2) := by decide +kernel
theorem dX4_makeTrade_70 : decode cX4_makeTrade 70 = .ok (.ifCond .eq 7, 3) := by decide +kernel
theorem dX4_makeTrade_73 : decode cX4_makeTrade 73 = .ok (.iload_n 2, 1) := by decide +kernel
theorem dX4_makeTrade_74 : decode cX4_makeTrade 74 = .ok (.goto 4, 3) := by decide +kernel
theorem dX4_makeTrade_77 : decode cX4_makeTrade 77 = .ok (.iload_n 1, 1) := by decide +kernel
theorem dX4_makeTrade_78 : decode cX4_makeTrade 78 = .ok (.iaload, 1) := by decide +kernel
theorem dX4_makeTrade_79 : decode cX4_makeTrade 79 = .ok (.istore 8, 2) := by decide +kernel
theorem dX4_makeTrade_81 : decode cX4_makeTrade 81 = .ok (.aload_n 0, 1) := by decide +kernel
theorem dX4_makeTrade_82 : decode cX4_makeTrade 82 = .ok (.iload_n 1, 1) := by decide +kernel
theorem dX4_makeTrade_83 : decode cX4_makeTrade 83 = .ok (.iload_n 3, 1) := by decide +kernel
theorem dX4_makeTrade_84 : decode cX4_makeTrade 84 = .ok (.ineg, 1) := by decide +kernel
theorem dX4_makeTrade_85 : decode cX4_makeTrade 85 = .ok (.invokevirtual 109, 3) := by decide +kernel
theorem dX4_makeTrade_88 : decode cX4_makeTrade 88 = .ok (.aload_n 0, 1) := by decide +kernel
theorem dX4_makeTrade_89 : decode cX4_makeTrade 89 = .ok (.iload_n 2, 1) := by decide +kernel
theorem dX4_makeTrade_90 : decode cX4_makeTrade 90 = .ok (.iload_n 3, 1) := by decide +kernel
theorem dX4_makeTrade_91 : decode cX4_makeTrade 91 = .ok (.ineg, 1) := by decide +kernel
theorem dX4_makeTrade_92 : decode cX4_makeTrade 92 = .ok (.invokevirtual 109, 3) := by decide +kernel
theorem dX4_makeTrade_95 : decode cX4_makeTrade 95 = .ok (.aload_n 0, 1) := by decide +kernel
theorem dX4_makeTrade_96 : decode cX4_makeTrade 96 = .ok (.getfield 10, 3) := by decide +kernel
theorem dX4_makeTrade_99 : decode cX4_makeTrade 99 = .ok (.iload 7, 2) := by decide +kernel
theorem dX4_makeTrade_101 : decode cX4_makeTrade 101 = .ok (.iload 8, 2) := by decide +kernel
theorem dX4_makeTrade_103 : decode cX4_makeTrade 103 = .ok (.iload 5, 2) := by decide +kernel
theorem dX4_makeTrade_105 : decode cX4_makeTrade 105 = .ok (.iload 4, 2) := by decide +kernel
theorem dX4_makeTrade_107 : decode cX4_makeTrade 107 = .ok (.iload_n 3, 1) := by decide +kernel
theorem dX4_makeTrade_108 : decode cX4_makeTrade 108 = .ok (.invokevirtual 328, 3) := by decide +kernel
theorem dX4_makeTrade_111 : decode cX4_makeTrade 111 = .ok (.aload_n 0, 1) := by decide +kernel
theorem dX4_makeTrade_112 : decode cX4_makeTrade 112 = .ok (.getfield 19, 3) := by decide +kernel
theorem dX4_makeTrade_115 : decode cX4_makeTrade 115 = .ok (.iload_n 1, 1) := by decide +kernel
theorem dX4_makeTrade_116 : decode cX4_makeTrade 116 = .ok (.iload_n 3, 1) := by decide +kernel
theorem dX4_makeTrade_117 : decode cX4_makeTrade 117 = .ok (.invokevirtual 332, 3) := by decide +kernel
theorem dX4_makeTrade_120 : decode cX4_makeTrade 120 = .ok (.aload_n 0, 1) := by decide +kernel
theorem dX4_makeTrade_121 : decode cX4_makeTrade 121 = .ok (.getfield 19, 3) := by decide +kernel
theorem dX4_makeTrade_124 : decode cX4_makeTrade 124 = .ok (.iload_n 2, 1) := by decide +kernel
theorem dX4_makeTrade_125 : decode cX4_makeTrade 125 = .ok (.iload_n 3, 1) := by decide +kernel
theorem dX4_makeTrade_126 : decode cX4_makeTrade 126 = .ok (.invokevirtual 332, 3) := by decide +kernel
theorem dX4_makeTrade_129 : decode cX4_makeTrade 129 = .ok (.aload_n 0, 1) := by decide +kernel
theorem dX4_makeTrade_130 : decode cX4_makeTrade 130 = .ok (.getfield 35, 3) := by decide +kernel
theorem dX4_makeTrade_133 : decode cX4_makeTrade 133 = .ok (.iload 5, 2) := by decide +kernel
theorem dX4_makeTrade_135 : decode cX4_makeTrade 135 = .ok (.iload_n 1, 1) := by decide +kernel
theorem dX4_makeTrade_136 : decode cX4_makeTrade 136 = .ok (.iload_n 2, 1) := by decide +kernel
theorem dX4_makeTrade_137 : decode cX4_makeTrade 137 = .ok (.iload 4, 2) := by decide +kernel
theorem dX4_makeTrade_139 : decode cX4_makeTrade 139 = .ok (.iload_n 3, 1) := by decide +kernel
theorem dX4_makeTrade_140 : decode cX4_makeTrade 140 = .ok (.invokevirtual 335, 3) := by decide +kernel
theorem dX4_makeTrade_143 : decode cX4_makeTrade 143 = .ok (.return_, 1) := by decide +kernel
set_option maxRecDepth 20000 in
theorem ggX4_showLess_X0_drop : GoodIn wsX4_showLess wsX0_drop := goodIn_r _ [9, 10, 11, 12, 13, 14, 15, 16, 8, 17, 73, 74, 75, 60, 61, 62, 63, 64, 65, 66, 67, 68, 69, 70, 71, 72] (by decide +kernel) (by decide +kernel)
set_option maxRecDepth 20000 in
theorem gX4_showLess_X0_drop : GoodIn wsX4_showLess (wsV RX4 338 RX0 yX0_drop wsX0_drop) := goodIn_app (goodIn_of _ (by decide +kernel)) ggX4_showLess_X0_drop
set_option maxRecDepth 20000 in
theorem ggX4_showLess_X4_close : GoodIn wsX4_showLess wsX4_close := goodIn_r _ [22, 1, 4, 2, 23, 24, 25, 26, 27, 21, 28, 29, 30, 31, 32, 33, 34, 35, 36, 37, 38, 39, 55, 56, 57, 58, 59, 60, 61, 62, 63, 64, 65, 66, 67, 68, 69, 70, 71, 72, 76, 77, 78, 79, 80, 81, 82, 83] (by decide +kernel) (by decide +kernel)
set_option maxRecDepth 20000 in
theorem gX4_showLess_X4_close : GoodIn wsX4_showLess (wsV RX4 297 RX4 yX4_close wsX4_close) := goodIn_app (goodIn_of _ (by decide +kernel)) ggX4_showLess_X4_close
set_option maxRecDepth 20000 in
theorem ggX4_showLess_X4_rest : GoodIn wsX4_showLess wsX4_rest := goodIn_r _ [43, 1, 4, 2, 44, 45, 46, 47, 48, 49, 23, 3, 50, 51, 52, 8, 53, 10, 11, 12, 13, 54, 14, 15, 16, 17, 55, 56, 57, 58, 59, 60, 61, 62, 63, 64, 65, 66, 67, 68, 69, 70, 71, 72, 73, 74, 75] (by decide +kernel) (by decide +kernel)
set_option maxRecDepth 20000 in
theorem gX4_showLess_X4_rest : GoodIn wsX4_showLess (wsV RX4 300 RX4 yX4_rest wsX4_rest) := goodIn_app (goodIn_of _ (by decide +kernel)) ggX4_showLess_X4_rest
theorem dX4_showLess_0 : decode cX4_showLess 0 = .ok (.aload_n 0, 1) := by decide +kernel
theorem dX4_showLess_1 : decode cX4_showLess 1 = .ok (.getfield 19, 3) := by decide +kernel
theorem dX4_showLess_4 : decode cX4_showLess 4 = .ok (.getfield 139, 3) := by decide +kernel
theorem dX4_showLess_7 : decode cX4_showLess 7 = .ok (.iload_n 1, 1) := by decide +kernel
theorem dX4_showLess_8 : decode cX4_showLess 8 = .ok (.dup2, 1) := by decide +kernel
theorem dX4_showLess_9 : decode cX4_showLess 9 = .ok (.iaload, 1) := by decide +kernel
theorem dX4_showLess_10 : decode cX4_showLess 10 = .ok (.iload_n 2, 1) := by decide +kernel
theorem dX4_showLess_11 : decode cX4_showLess 11 = .ok (.isub, 1) := by decide +kernel
theorem dX4_showLess_12 : decode cX4_showLess 12 = .ok (.iastore, 1) := by decide +kernel
theorem dX4_showLess_13 : decode cX4_showLess 13 = .ok (.aload_n 0, 1) := by decide +kernel
theorem dX4_showLess_14 : decode cX4_showLess 14 = .ok (.getfield 19, 3) := by decide +kernel
theorem dX4_showLess_17 : decode cX4_showLess 17 = .ok (.getfield 139, 3) := by decide +kernel
theorem dX4_showLess_20 : decode cX4_showLess 20 = .ok (.iload_n 1, 1) := by decide +kernel
theorem dX4_showLess_21 : decode cX4_showLess 21 = .ok (.iaload, 1) := by decide +kernel
theorem dX4_showLess_22 : decode cX4_showLess 22 = .ok (.ifCond .le 4, 3) := by decide +kernel
theorem dX4_showLess_25 : decode cX4_showLess 25 = .ok (.return_, 1) := by decide +kernel
theorem dX4_showLess_26 : decode cX4_showLess 26 = .ok (.aload_n 0, 1) := by decide +kernel
theorem dX4_showLess_27 : decode cX4_showLess 27 = .ok (.getfield 28, 3) := by decide +kernel
theorem dX4_showLess_30 : decode cX4_showLess 30 = .ok (.iload_n 1, 1) := by decide +kernel
theorem dX4_showLess_31 : decode cX4_showLess 31 = .ok (.invokevirtual 338, 3) := by decide +kernel
theorem dX4_showLess_34 : decode cX4_showLess 34 = .ok (.aload_n 0, 1) := by decide +kernel
theorem dX4_showLess_35 : decode cX4_showLess 35 = .ok (.getfield 19, 3) := by decide +kernel
theorem dX4_showLess_38 : decode cX4_showLess 38 = .ok (.getfield 126, 3) := by decide +kernel
theorem dX4_showLess_41 : decode cX4_showLess 41 = .ok (.iload_n 1, 1) := by decide +kernel
theorem dX4_showLess_42 : decode cX4_showLess 42 = .ok (.iaload, 1) := by decide +kernel
theorem dX4_showLess_43 : decode cX4_showLess 43 = .ok (.ifCond .ne 12, 3) := by decide +kernel
theorem dX4_showLess_46 : decode cX4_showLess 46 = .ok (.aload_n 0, 1) := by decide +kernel
theorem dX4_showLess_47 : decode cX4_showLess 47 = .ok (.iload_n 1, 1) := by decide +kernel
theorem dX4_showLess_48 : decode cX4_showLess 48 = .ok (.iconst 2, 1) := by decide +kernel
theorem dX4_showLess_49 : decode cX4_showLess 49 = .ok (.invokevirtual 297, 3) := by decide +kernel
theorem dX4_showLess_52 : decode cX4_showLess 52 = .ok (.goto 8, 3) := by decide +kernel
theorem dX4_showLess_55 : decode cX4_showLess 55 = .ok (.aload_n 0, 1) := by decide +kernel
theorem dX4_showLess_56 : decode cX4_showLess 56 = .ok (.iload_n 1, 1) := by decide +kernel
theorem dX4_showLess_57 : decode cX4_showLess 57 = .ok (.invokevirtual 300, 3) := by decide +kernel
theorem dX4_showLess_60 : decode cX4_showLess 60 = .ok (.return_, 1) := by decide +kernel
set_option maxRecDepth 20000 in
theorem ggX4_rest_X0_putLast : GoodIn wsX4_rest wsX0_putLast := goodIn_r _ [16, 17, 18, 19, 20, 21, 22, 23, 24, 15, 25, 44, 45, 46, 31, 32, 33, 34, 35, 36, 37, 38, 39, 40, 41, 42, 43] (by decide +kernel) (by decide +kernel)
set_option maxRecDepth 20000 in
theorem gX4_rest_X0_putLast : GoodIn wsX4_rest (wsV RX4 344 RX0 yX0_putLast wsX0_putLast) := goodIn_app (goodIn_of _ (by decide +kernel)) ggX4_rest_X0_putLast
theorem dX4_rest_0 : decode cX4_rest 0 = .ok (.aload_n 0, 1) := by decide +kernel
theorem dX4_rest_1 : decode cX4_rest 1 = .ok (.getfield 19, 3) := by decide +kernel
theorem dX4_rest_4 : decode cX4_rest 4 = .ok (.getfield 126, 3) := by decide +kernel
theorem dX4_rest_7 : decode cX4_rest 7 = .ok (.iload_n 1, 1) := by decide +kernel
theorem dX4_rest_8 : decode cX4_rest 8 = .ok (.iaload, 1) := by decide +kernel
theorem dX4_rest_9 : decode cX4_rest 9 = .ok (.istore_n 2, 1) := by decide +kernel
theorem dX4_rest_10 : decode cX4_rest 10 = .ok (.aload_n 0, 1) := by decide +kernel
theorem dX4_rest_11 : decode cX4_rest 11 = .ok (.getfield 19, 3) := by decide +kernel
theorem dX4_rest_14 : decode cX4_rest 14 = .ok (.getfield 139, 3) := by decide +kernel
theorem dX4_rest_17 : decode cX4_rest 17 = .ok (.iload_n 1, 1) := by decide +kernel
theorem dX4_rest_18 : decode cX4_rest 18 = .ok (.aload_n 0, 1) := by decide +kernel
theorem dX4_rest_19 : decode cX4_rest 19 = .ok (.getfield 19, 3) := by decide +kernel
theorem dX4_rest_22 : decode cX4_rest 22 = .ok (.getfield 291, 3) := by decide +kernel
theorem dX4_rest_25 : decode cX4_rest 25 = .ok (.iload_n 1, 1) := by decide +kernel
theorem dX4_rest_26 : decode cX4_rest 26 = .ok (.iaload, 1) := by decide +kernel
theorem dX4_rest_27 : decode cX4_rest 27 = .ok (.iconst 4, 1) := by decide +kernel
theorem dX4_rest_28 : decode cX4_rest 28 = .ok (.if_icmp .ne 19, 3) := by decide +kernel
theorem dX4_rest_31 : decode cX4_rest 31 = .ok (.aload_n 0, 1) := by decide +kernel
theorem dX4_rest_32 : decode cX4_rest 32 = .ok (.getfield 19, 3) := by decide +kernel
theorem dX4_rest_35 : decode cX4_rest 35 = .ok (.getfield 341, 3) := by decide +kernel
theorem dX4_rest_38 : decode cX4_rest 38 = .ok (.iload_n 1, 1) := by decide +kernel
theorem dX4_rest_39 : decode cX4_rest 39 = .ok (.iaload, 1) := by decide +kernel
theorem dX4_rest_40 : decode cX4_rest 40 = .ok (.iload_n 2, 1) := by decide +kernel
theorem dX4_rest_41 : decode cX4_rest 41 = .ok (.invokestatic 142, 3) := by decide +kernel
theorem dX4_rest_44 : decode cX4_rest 44 = .ok (.goto 4, 3) := by decide +kernel
theorem dX4_rest_47 : decode cX4_rest 47 = .ok (.iload_n 2, 1) := by decide +kernel
theorem dX4_rest_48 : decode cX4_rest 48 = .ok (.iastore, 1) := by decide +kernel
theorem dX4_rest_49 : decode cX4_rest 49 = .ok (.aload_n 0, 1) := by decide +kernel
theorem dX4_rest_50 : decode cX4_rest 50 = .ok (.getfield 19, 3) := by decide +kernel
theorem dX4_rest_53 : decode cX4_rest 53 = .ok (.getfield 201, 3) := by decide +kernel
theorem dX4_rest_56 : decode cX4_rest 56 = .ok (.iload_n 1, 1) := by decide +kernel
theorem dX4_rest_57 : decode cX4_rest 57 = .ok (.iconst 0, 1) := by decide +kernel
theorem dX4_rest_58 : decode cX4_rest 58 = .ok (.iastore, 1) := by decide +kernel
theorem dX4_rest_59 : decode cX4_rest 59 = .ok (.aload_n 0, 1) := by decide +kernel
theorem dX4_rest_60 : decode cX4_rest 60 = .ok (.getfield 28, 3) := by decide +kernel
theorem dX4_rest_63 : decode cX4_rest 63 = .ok (.iload_n 1, 1) := by decide +kernel
theorem dX4_rest_64 : decode cX4_rest 64 = .ok (.invokevirtual 344, 3) := by decide +kernel
theorem dX4_rest_67 : decode cX4_rest 67 = .ok (.return_, 1) := by decide +kernel
set_option maxRecDepth 20000 in
theorem ggX4_takeAway_X0_drop : GoodIn wsX4_takeAway wsX0_drop := goodIn_r _ [8, 9, 10, 11, 12, 13, 14, 15, 7, 16, 58, 59, 60, 45, 46, 47, 48, 49, 50, 51, 52, 53, 54, 55, 56, 57] (by decide +kernel) (by decide +kernel)
set_option maxRecDepth 20000 in
theorem gX4_takeAway_X0_drop : GoodIn wsX4_takeAway (wsV RX4 338 RX0 yX0_drop wsX0_drop) := goodIn_app (goodIn_of _ (by decide +kernel)) ggX4_takeAway_X0_drop
set_option maxRecDepth 20000 in
theorem ggX4_takeAway_X4_close : GoodIn wsX4_takeAway wsX4_close := goodIn_r _ [21, 1, 22, 23, 2, 24, 25, 26, 27, 20, 28, 29, 30, 31, 32, 33, 34, 35, 36, 37, 38, 39, 40, 41, 42, 43, 44, 45, 46, 47, 48, 49, 50, 51, 52, 53, 54, 55, 56, 57, 61, 62, 63, 64, 65, 66, 67, 68] (by decide +kernel) (by decide +kernel)
set_option maxRecDepth 20000 in
theorem gX4_takeAway_X4_close : GoodIn wsX4_takeAway (wsV RX4 297 RX4 yX4_close wsX4_close) := goodIn_app (goodIn_of _ (by decide +kernel)) ggX4_takeAway_X4_close
theorem dX4_takeAway_0 : decode cX4_takeAway 0 = .ok (.aload_n 0, 1) := by decide +kernel
theorem dX4_takeAway_1 : decode cX4_takeAway 1 = .ok (.getfield 19, 3) := by decide +kernel
theorem dX4_takeAway_4 : decode cX4_takeAway 4 = .ok (.getfield 201, 3) := by decide +kernel
theorem dX4_takeAway_7 : decode cX4_takeAway 7 = .ok (.iload_n 1, 1) := by decide +kernel
theorem dX4_takeAway_8 : decode cX4_takeAway 8 = .ok (.iaload, 1) := by decide +kernel
theorem dX4_takeAway_9 : decode cX4_takeAway 9 = .ok (.ifCond .ne 11, 3) := by decide +kernel
theorem dX4_takeAway_12 : decode cX4_takeAway 12 = .ok (.aload_n 0, 1) := by decide +kernel
theorem dX4_takeAway_13 : decode cX4_takeAway 13 = .ok (.getfield 28, 3) := by decide +kernel
theorem dX4_takeAway_16 : decode cX4_takeAway 16 = .ok (.iload_n 1, 1) := by decide +kernel
theorem dX4_takeAway_17 : decode cX4_takeAway 17 = .ok (.invokevirtual 338, 3) := by decide +kernel
theorem dX4_takeAway_20 : decode cX4_takeAway 20 = .ok (.aload_n 0, 1) := by decide +kernel
theorem dX4_takeAway_21 : decode cX4_takeAway 21 = .ok (.iload_n 1, 1) := by decide +kernel
theorem dX4_takeAway_22 : decode cX4_takeAway 22 = .ok (.iconst 3, 1) := by decide +kernel
theorem dX4_takeAway_23 : decode cX4_takeAway 23 = .ok (.invokevirtual 297, 3) := by decide +kernel
theorem dX4_takeAway_26 : decode cX4_takeAway 26 = .ok (.return_, 1) := by decide +kernel
set_option maxRecDepth 20000 in
theorem ggX4_close_X4_hold : GoodIn wsX4_close wsX4_hold := goodIn_r _ [10, 1, 11, 12, 13, 14, 15, 16, 17, 18, 19, 20, 21, 22, 23, 24, 25, 26, 27, 28, 29, 30, 31, 32, 33, 34, 35, 36, 37, 38, 39, 40, 41, 42, 43, 44, 45, 46, 47] (by decide +kernel) (by decide +kernel)
set_option maxRecDepth 20000 in
theorem gX4_close_X4_hold : GoodIn wsX4_close (wsV RX4 109 RX4 yX4_hold wsX4_hold) := goodIn_app (goodIn_of _ (by decide +kernel)) ggX4_close_X4_hold
theorem dX4_close_0 : decode cX4_close 0 = .ok (.aload_n 0, 1) := by decide +kernel
theorem dX4_close_1 : decode cX4_close 1 = .ok (.iload_n 1, 1) := by decide +kernel
theorem dX4_close_2 : decode cX4_close 2 = .ok (.aload_n 0, 1) := by decide +kernel
theorem dX4_close_3 : decode cX4_close 3 = .ok (.getfield 19, 3) := by decide +kernel
theorem dX4_close_6 : decode cX4_close 6 = .ok (.getfield 126, 3) := by decide +kernel
theorem dX4_close_9 : decode cX4_close 9 = .ok (.iload_n 1, 1) := by decide +kernel
theorem dX4_close_10 : decode cX4_close 10 = .ok (.iaload, 1) := by decide +kernel
theorem dX4_close_11 : decode cX4_close 11 = .ok (.ineg, 1) := by decide +kernel
theorem dX4_close_12 : decode cX4_close 12 = .ok (.invokevirtual 109, 3) := by decide +kernel
theorem dX4_close_15 : decode cX4_close 15 = .ok (.aload_n 0, 1) := by decide +kernel
theorem dX4_close_16 : decode cX4_close 16 = .ok (.getfield 19, 3) := by decide +kernel
theorem dX4_close_19 : decode cX4_close 19 = .ok (.getfield 126, 3) := by decide +kernel
theorem dX4_close_22 : decode cX4_close 22 = .ok (.iload_n 1, 1) := by decide +kernel
theorem dX4_close_23 : decode cX4_close 23 = .ok (.iconst 0, 1) := by decide +kernel
theorem dX4_close_24 : decode cX4_close 24 = .ok (.iastore, 1) := by decide +kernel
theorem dX4_close_25 : decode cX4_close 25 = .ok (.aload_n 0, 1) := by decide +kernel
theorem dX4_close_26 : decode cX4_close 26 = .ok (.getfield 19, 3) := by decide +kernel
theorem dX4_close_29 : decode cX4_close 29 = .ok (.getfield 139, 3) := by decide +kernel
theorem dX4_close_32 : decode cX4_close 32 = .ok (.iload_n 1, 1) := by decide +kernel
theorem dX4_close_33 : decode cX4_close 33 = .ok (.iconst 0, 1) := by decide +kernel
theorem dX4_close_34 : decode cX4_close 34 = .ok (.iastore, 1) := by decide +kernel
theorem dX4_close_35 : decode cX4_close 35 = .ok (.aload_n 0, 1) := by decide +kernel
theorem dX4_close_36 : decode cX4_close 36 = .ok (.getfield 19, 3) := by decide +kernel
theorem dX4_close_39 : decode cX4_close 39 = .ok (.getfield 201, 3) := by decide +kernel
theorem dX4_close_42 : decode cX4_close 42 = .ok (.iload_n 1, 1) := by decide +kernel
theorem dX4_close_43 : decode cX4_close 43 = .ok (.iload_n 2, 1) := by decide +kernel
theorem dX4_close_44 : decode cX4_close 44 = .ok (.iastore, 1) := by decide +kernel
theorem dX4_close_45 : decode cX4_close 45 = .ok (.aload_n 0, 1) := by decide +kernel
theorem dX4_close_46 : decode cX4_close 46 = .ok (.getfield 19, 3) := by decide +kernel
theorem dX4_close_49 : decode cX4_close 49 = .ok (.dup, 1) := by decide +kernel
theorem dX4_close_50 : decode cX4_close 50 = .ok (.getfield 97, 3) := by decide +kernel
theorem dX4_close_53 : decode cX4_close 53 = .ok (.iconst 1, 1) := by decide +kernel
theorem dX4_close_54 : decode cX4_close 54 = .ok (.isub, 1) := by decide +kernel
theorem dX4_close_55 : decode cX4_close 55 = .ok (.putfield 97, 3) := by decide +kernel
theorem dX4_close_58 : decode cX4_close 58 = .ok (.return_, 1) := by decide +kernel
set_option maxRecDepth 20000 in
theorem ggX4_hold_X1_placeOf : GoodIn wsX4_hold wsX1_placeOf := goodIn_r _ [12] (by decide +kernel) (by decide +kernel)
set_option maxRecDepth 20000 in
theorem gX4_hold_X1_placeOf : GoodIn wsX4_hold (va_wsS RX4 78 yX1_placeOf wsX1_placeOf) := goodIn_app (goodIn_of _ (by decide +kernel)) ggX4_hold_X1_placeOf
theorem dX4_hold_0 : decode cX4_hold 0 = .ok (.aload_n 0, 1) := by decide +kernel
theorem dX4_hold_1 : decode cX4_hold 1 = .ok (.getfield 19, 3) := by decide +kernel
theorem dX4_hold_4 : decode cX4_hold 4 = .ok (.getfield 198, 3) := by decide +kernel
theorem dX4_hold_7 : decode cX4_hold 7 = .ok (.iload_n 1, 1) := by decide +kernel
theorem dX4_hold_8 : decode cX4_hold 8 = .ok (.iaload, 1) := by decide +kernel
theorem dX4_hold_9 : decode cX4_hold 9 = .ok (.istore_n 3, 1) := by decide +kernel
theorem dX4_hold_10 : decode cX4_hold 10 = .ok (.aload_n 0, 1) := by decide +kernel
theorem dX4_hold_11 : decode cX4_hold 11 = .ok (.getfield 19, 3) := by decide +kernel
theorem dX4_hold_14 : decode cX4_hold 14 = .ok (.getfield 214, 3) := by decide +kernel
theorem dX4_hold_17 : decode cX4_hold 17 = .ok (.iload_n 1, 1) := by decide +kernel
theorem dX4_hold_18 : decode cX4_hold 18 = .ok (.iaload, 1) := by decide +kernel
theorem dX4_hold_19 : decode cX4_hold 19 = .ok (.ifCond .ne 31, 3) := by decide +kernel
theorem dX4_hold_22 : decode cX4_hold 22 = .ok (.aload_n 0, 1) := by decide +kernel
theorem dX4_hold_23 : decode cX4_hold 23 = .ok (.getfield 10, 3) := by decide +kernel
theorem dX4_hold_26 : decode cX4_hold 26 = .ok (.getfield 217, 3) := by decide +kernel
theorem dX4_hold_29 : decode cX4_hold 29 = .ok (.iload_n 3, 1) := by decide +kernel
theorem dX4_hold_30 : decode cX4_hold 30 = .ok (.dup2, 1) := by decide +kernel
theorem dX4_hold_31 : decode cX4_hold 31 = .ok (.laload, 1) := by decide +kernel
theorem dX4_hold_32 : decode cX4_hold 32 = .ok (.aload_n 0, 1) := by decide +kernel
theorem dX4_hold_33 : decode cX4_hold 33 = .ok (.getfield 19, 3) := by decide +kernel
theorem dX4_hold_36 : decode cX4_hold 36 = .ok (.getfield 169, 3) := by decide +kernel
theorem dX4_hold_39 : decode cX4_hold 39 = .ok (.iload_n 1, 1) := by decide +kernel
theorem dX4_hold_40 : decode cX4_hold 40 = .ok (.iaload, 1) := by decide +kernel
theorem dX4_hold_41 : decode cX4_hold 41 = .ok (.i2l, 1) := by decide +kernel
theorem dX4_hold_42 : decode cX4_hold 42 = .ok (.iload_n 2, 1) := by decide +kernel
theorem dX4_hold_43 : decode cX4_hold 43 = .ok (.i2l, 1) := by decide +kernel
theorem dX4_hold_44 : decode cX4_hold 44 = .ok (.lmul, 1) := by decide +kernel
theorem dX4_hold_45 : decode cX4_hold 45 = .ok (.ladd, 1) := by decide +kernel
theorem dX4_hold_46 : decode cX4_hold 46 = .ok (.lastore, 1) := by decide +kernel
theorem dX4_hold_47 : decode cX4_hold 47 = .ok (.goto 28, 3) := by decide +kernel
theorem dX4_hold_50 : decode cX4_hold 50 = .ok (.aload_n 0, 1) := by decide +kernel
theorem dX4_hold_51 : decode cX4_hold 51 = .ok (.getfield 10, 3) := by decide +kernel
theorem dX4_hold_54 : decode cX4_hold 54 = .ok (.getfield 222, 3) := by decide +kernel
theorem dX4_hold_57 : decode cX4_hold 57 = .ok (.iload_n 3, 1) := by decide +kernel
theorem dX4_hold_58 : decode cX4_hold 58 = .ok (.aload_n 0, 1) := by decide +kernel
theorem dX4_hold_59 : decode cX4_hold 59 = .ok (.getfield 19, 3) := by decide +kernel
theorem dX4_hold_62 : decode cX4_hold 62 = .ok (.getfield 211, 3) := by decide +kernel
theorem dX4_hold_65 : decode cX4_hold 65 = .ok (.iload_n 1, 1) := by decide +kernel
theorem dX4_hold_66 : decode cX4_hold 66 = .ok (.iaload, 1) := by decide +kernel
theorem dX4_hold_67 : decode cX4_hold 67 = .ok (.invokestatic 78, 3) := by decide +kernel
theorem dX4_hold_70 : decode cX4_hold 70 = .ok (.dup2, 1) := by decide +kernel
theorem dX4_hold_71 : decode cX4_hold 71 = .ok (.iaload, 1) := by decide +kernel
theorem dX4_hold_72 : decode cX4_hold 72 = .ok (.iload_n 2, 1) := by decide +kernel
theorem dX4_hold_73 : decode cX4_hold 73 = .ok (.iadd, 1) := by decide +kernel
theorem dX4_hold_74 : decode cX4_hold 74 = .ok (.iastore, 1) := by decide +kernel
theorem dX4_hold_75 : decode cX4_hold 75 = .ok (.return_, 1) := by decide +kernel
theorem dX5_init_0 : decode cX5_init 0 = .ok (.aload_n 0, 1) := by decide +kernel
theorem dX5_init_1 : decode cX5_init 1 = .ok (.invokespecial 1, 3) := by decide +kernel
theorem dX5_init_4 : decode cX5_init 4 = .ok (.aload_n 0, 1) := by decide +kernel
theorem dX5_init_5 : decode cX5_init 5 = .ok (.sipush 512, 3) := by decide +kernel
theorem dX5_init_8 : decode cX5_init 8 = .ok (.newarray .long, 2) := by decide +kernel
theorem dX5_init_10 : decode cX5_init 10 = .ok (.putfield 7, 3) := by decide +kernel
theorem dX5_init_13 : decode cX5_init 13 = .ok (.aload_n 0, 1) := by decide +kernel
theorem dX5_init_14 : decode cX5_init 14 = .ok (.sipush 512, 3) := by decide +kernel
theorem dX5_init_17 : decode cX5_init 17 = .ok (.newarray .long, 2) := by decide +kernel
theorem dX5_init_19 : decode cX5_init 19 = .ok (.putfield 13, 3) := by decide +kernel
theorem dX5_init_22 : decode cX5_init 22 = .ok (.aload_n 0, 1) := by decide +kernel
theorem dX5_init_23 : decode cX5_init 23 = .ok (.sipush 2048, 3) := by decide +kernel
theorem dX5_init_26 : decode cX5_init 26 = .ok (.newarray .int, 2) := by decide +kernel
theorem dX5_init_28 : decode cX5_init 28 = .ok (.putfield 16, 3) := by decide +kernel
theorem dX5_init_31 : decode cX5_init 31 = .ok (.aload_n 0, 1) := by decide +kernel
theorem dX5_init_32 : decode cX5_init 32 = .ok (.sipush 2048, 3) := by decide +kernel
theorem dX5_init_35 : decode cX5_init 35 = .ok (.newarray .int, 2) := by decide +kernel
theorem dX5_init_37 : decode cX5_init 37 = .ok (.putfield 20, 3) := by decide +kernel
theorem dX5_init_40 : decode cX5_init 40 = .ok (.aload_n 0, 1) := by decide +kernel
theorem dX5_init_41 : decode cX5_init 41 = .ok (.sipush 2048, 3) := by decide +kernel
theorem dX5_init_44 : decode cX5_init 44 = .ok (.newarray .int, 2) := by decide +kernel
theorem dX5_init_46 : decode cX5_init 46 = .ok (.putfield 23, 3) := by decide +kernel
theorem dX5_init_49 : decode cX5_init 49 = .ok (.aload_n 0, 1) := by decide +kernel
theorem dX5_init_50 : decode cX5_init 50 = .ok (.sipush 2048, 3) := by decide +kernel
theorem dX5_init_53 : decode cX5_init 53 = .ok (.newarray .int, 2) := by decide +kernel
theorem dX5_init_55 : decode cX5_init 55 = .ok (.putfield 26, 3) := by decide +kernel
theorem dX5_init_58 : decode cX5_init 58 = .ok (.aload_n 0, 1) := by decide +kernel
theorem dX5_init_59 : decode cX5_init 59 = .ok (.sipush 512, 3) := by decide +kernel
theorem dX5_init_62 : decode cX5_init 62 = .ok (.newarray .boolean, 2) := by decide +kernel
theorem dX5_init_64 : decode cX5_init 64 = .ok (.putfield 29, 3) := by decide +kernel
theorem dX5_init_67 : decode cX5_init 67 = .ok (.aload_n 0, 1) := by decide +kernel
theorem dX5_init_68 : decode cX5_init 68 = .ok (.sipush 520, 3) := by decide +kernel
theorem dX5_init_71 : decode cX5_init 71 = .ok (.newarray .int, 2) := by decide +kernel
theorem dX5_init_73 : decode cX5_init 73 = .ok (.putfield 33, 3) := by decide +kernel
theorem dX5_init_76 : decode cX5_init 76 = .ok (.aload_n 0, 1) := by decide +kernel
theorem dX5_init_77 : decode cX5_init 77 = .ok (.sipush 520, 3) := by decide +kernel
theorem dX5_init_80 : decode cX5_init 80 = .ok (.newarray .int, 2) := by decide +kernel
theorem dX5_init_82 : decode cX5_init 82 = .ok (.putfield 36, 3) := by decide +kernel
theorem dX5_init_85 : decode cX5_init 85 = .ok (.aload_n 0, 1) := by decide +kernel
theorem dX5_init_86 : decode cX5_init 86 = .ok (.sipush 520, 3) := by decide +kernel
theorem dX5_init_89 : decode cX5_init 89 = .ok (.newarray .int, 2) := by decide +kernel
theorem dX5_init_91 : decode cX5_init 91 = .ok (.putfield 39, 3) := by decide +kernel
theorem dX5_init_94 : decode cX5_init 94 = .ok (.aload_n 0, 1) := by decide +kernel
theorem dX5_init_95 : decode cX5_init 95 = .ok (.sipush 520, 3) := by decide +kernel
theorem dX5_init_98 : decode cX5_init 98 = .ok (.newarray .int, 2) := by decide +kernel
theorem dX5_init_100 : decode cX5_init 100 = .ok (.putfield 42, 3) := by decide +kernel
theorem dX5_init_103 : decode cX5_init 103 = .ok (.aload_n 0, 1) := by decide +kernel
theorem dX5_init_104 : decode cX5_init 104 = .ok (.sipush 520, 3) := by decide +kernel
theorem dX5_init_107 : decode cX5_init 107 = .ok (.newarray .int, 2) := by decide +kernel
theorem dX5_init_109 : decode cX5_init 109 = .ok (.putfield 45, 3) := by decide +kernel
theorem dX5_init_112 : decode cX5_init 112 = .ok (.aload_n 0, 1) := by decide +kernel
theorem dX5_init_113 : decode cX5_init 113 = .ok (.sipush 520, 3) := by decide +kernel
theorem dX5_init_116 : decode cX5_init 116 = .ok (.newarray .int, 2) := by decide +kernel
theorem dX5_init_118 : decode cX5_init 118 = .ok (.putfield 48, 3) := by decide +kernel
theorem dX5_init_121 : decode cX5_init 121 = .ok (.aload_n 0, 1) := by decide +kernel
theorem dX5_init_122 : decode cX5_init 122 = .ok (.sipush 520, 3) := by decide +kernel
theorem dX5_init_125 : decode cX5_init 125 = .ok (.newarray .int, 2) := by decide +kernel
theorem dX5_init_127 : decode cX5_init 127 = .ok (.putfield 51, 3) := by decide +kernel
theorem dX5_init_130 : decode cX5_init 130 = .ok (.aload_n 0, 1) := by decide +kernel
theorem dX5_init_131 : decode cX5_init 131 = .ok (.sipush 520, 3) := by decide +kernel
theorem dX5_init_134 : decode cX5_init 134 = .ok (.newarray .int, 2) := by decide +kernel
theorem dX5_init_136 : decode cX5_init 136 = .ok (.putfield 54, 3) := by decide +kernel
theorem dX5_init_139 : decode cX5_init 139 = .ok (.aload_n 0, 1) := by decide +kernel
theorem dX5_init_140 : decode cX5_init 140 = .ok (.sipush 520, 3) := by decide +kernel
theorem dX5_init_143 : decode cX5_init 143 = .ok (.newarray .int, 2) := by decide +kernel
theorem dX5_init_145 : decode cX5_init 145 = .ok (.putfield 57, 3) := by decide +kernel
theorem dX5_init_148 : decode cX5_init 148 = .ok (.aload_n 0, 1) := by decide +kernel
theorem dX5_init_149 : decode cX5_init 149 = .ok (.sipush 520, 3) := by decide +kernel
theorem dX5_init_152 : decode cX5_init 152 = .ok (.newarray .int, 2) := by decide +kernel
theorem dX5_init_154 : decode cX5_init 154 = .ok (.putfield 60, 3) := by decide +kernel
theorem dX5_init_157 : decode cX5_init 157 = .ok (.aload_n 0, 1) := by decide +kernel
theorem dX5_init_158 : decode cX5_init 158 = .ok (.sipush 520, 3) := by decide +kernel
theorem dX5_init_161 : decode cX5_init 161 = .ok (.newarray .int, 2) := by decide +kernel
theorem dX5_init_163 : decode cX5_init 163 = .ok (.putfield 63, 3) := by decide +kernel
theorem dX5_init_166 : decode cX5_init 166 = .ok (.aload_n 0, 1) := by decide +kernel
theorem dX5_init_167 : decode cX5_init 167 = .ok (.sipush 520, 3) := by decide +kernel
theorem dX5_init_170 : decode cX5_init 170 = .ok (.newarray .int, 2) := by decide +kernel
theorem dX5_init_172 : decode cX5_init 172 = .ok (.putfield 66, 3) := by decide +kernel
theorem dX5_init_175 : decode cX5_init 175 = .ok (.aload_n 0, 1) := by decide +kernel
theorem dX5_init_176 : decode cX5_init 176 = .ok (.sipush 520, 3) := by decide +kernel
theorem dX5_init_179 : decode cX5_init 179 = .ok (.newarray .int, 2) := by decide +kernel
theorem dX5_init_181 : decode cX5_init 181 = .ok (.putfield 69, 3) := by decide +kernel
theorem dX5_init_184 : decode cX5_init 184 = .ok (.aload_n 0, 1) := by decide +kernel
theorem dX5_init_185 : decode cX5_init 185 = .ok (.sipush 520, 3) := by decide +kernel
theorem dX5_init_188 : decode cX5_init 188 = .ok (.newarray .int, 2) := by decide +kernel
theorem dX5_init_190 : decode cX5_init 190 = .ok (.putfield 72, 3) := by decide +kernel
theorem dX5_init_193 : decode cX5_init 193 = .ok (.aload_n 0, 1) := by decide +kernel
theorem dX5_init_194 : decode cX5_init 194 = .ok (.sipush 520, 3) := by decide +kernel
theorem dX5_init_197 : decode cX5_init 197 = .ok (.newarray .int, 2) := by decide +kernel
theorem dX5_init_199 : decode cX5_init 199 = .ok (.putfield 75, 3) := by decide +kernel
theorem dX5_init_202 : decode cX5_init 202 = .ok (.aload_n 0, 1) := by decide +kernel
theorem dX5_init_203 : decode cX5_init 203 = .ok (.sipush 1200, 3) := by decide +kernel
theorem dX5_init_206 : decode cX5_init 206 = .ok (.newarray .int, 2) := by decide +kernel
theorem dX5_init_208 : decode cX5_init 208 = .ok (.putfield 78, 3) := by decide +kernel
theorem dX5_init_211 : decode cX5_init 211 = .ok (.aload_n 0, 1) := by decide +kernel
theorem dX5_init_212 : decode cX5_init 212 = .ok (.iconst 4, 1) := by decide +kernel
theorem dX5_init_213 : decode cX5_init 213 = .ok (.newarray .int, 2) := by decide +kernel
theorem dX5_init_215 : decode cX5_init 215 = .ok (.putfield 81, 3) := by decide +kernel
theorem dX5_init_218 : decode cX5_init 218 = .ok (.aload_n 0, 1) := by decide +kernel
theorem dX5_init_219 : decode cX5_init 219 = .ok (.iconst 4, 1) := by decide +kernel
theorem dX5_init_220 : decode cX5_init 220 = .ok (.newarray .int, 2) := by decide +kernel
theorem dX5_init_222 : decode cX5_init 222 = .ok (.putfield 84, 3) := by decide +kernel
theorem dX5_init_225 : decode cX5_init 225 = .ok (.aload_n 0, 1) := by decide +kernel
theorem dX5_init_226 : decode cX5_init 226 = .ok (.iconst 4, 1) := by decide +kernel
theorem dX5_init_227 : decode cX5_init 227 = .ok (.newarray .int, 2) := by decide +kernel
theorem dX5_init_229 : decode cX5_init 229 = .ok (.putfield 87, 3) := by decide +kernel
theorem dX5_init_232 : decode cX5_init 232 = .ok (.aload_n 0, 1) := by decide +kernel
theorem dX5_init_233 : decode cX5_init 233 = .ok (.iconst 4, 1) := by decide +kernel
theorem dX5_init_234 : decode cX5_init 234 = .ok (.newarray .int, 2) := by decide +kernel
theorem dX5_init_236 : decode cX5_init 236 = .ok (.putfield 90, 3) := by decide +kernel
theorem dX5_init_239 : decode cX5_init 239 = .ok (.return_, 1) := by decide +kernel
theorem dX5_thrown_0 : decode cX5_thrown 0 = .ok (.aload_n 0, 1) := by decide +kernel
theorem dX5_thrown_1 : decode cX5_thrown 1 = .ok (.getfield 93, 3) := by decide +kernel
theorem dX5_thrown_4 : decode cX5_thrown 4 = .ok (.ireturn, 1) := by decide +kernel
theorem dX5_isIn_0 : decode cX5_isIn 0 = .ok (.iload_n 0, 1) := by decide +kernel
theorem dX5_isIn_1 : decode cX5_isIn 1 = .ok (.iload_n 1, 1) := by decide +kernel
theorem dX5_isIn_2 : decode cX5_isIn 2 = .ok (.if_icmp .lt 12, 3) := by decide +kernel
theorem dX5_isIn_5 : decode cX5_isIn 5 = .ok (.iload_n 0, 1) := by decide +kernel
theorem dX5_isIn_6 : decode cX5_isIn 6 = .ok (.iload_n 2, 1) := by decide +kernel
theorem dX5_isIn_7 : decode cX5_isIn 7 = .ok (.if_icmp .gt 7, 3) := by decide +kernel
theorem dX5_isIn_10 : decode cX5_isIn 10 = .ok (.iconst 1, 1) := by decide +kernel
theorem dX5_isIn_11 : decode cX5_isIn 11 = .ok (.goto 4, 3) := by decide +kernel
theorem dX5_isIn_14 : decode cX5_isIn 14 = .ok (.iconst 0, 1) := by decide +kernel
theorem dX5_isIn_15 : decode cX5_isIn 15 = .ok (.ireturn, 1) := by decide +kernel
set_option maxRecDepth 20000 in
theorem ggX5_isAccount_X5_isIn : GoodIn wsX5_isAccount wsX5_isIn := goodIn_r _ [4] (by decide +kernel) (by decide +kernel)
set_option maxRecDepth 20000 in
theorem gX5_isAccount_X5_isIn : GoodIn wsX5_isAccount (va_wsS RX5 97 yX5_isIn wsX5_isIn) := goodIn_app (goodIn_of _ (by decide +kernel)) ggX5_isAccount_X5_isIn
theorem dX5_isAccount_0 : decode cX5_isAccount 0 = .ok (.iload_n 0, 1) := by decide +kernel
theorem dX5_isAccount_1 : decode cX5_isAccount 1 = .ok (.iconst 0, 1) := by decide +kernel
theorem dX5_isAccount_2 : decode cX5_isAccount 2 = .ok (.sipush 511, 3) := by decide +kernel
theorem dX5_isAccount_5 : decode cX5_isAccount 5 = .ok (.invokestatic 97, 3) := by decide +kernel
theorem dX5_isAccount_8 : decode cX5_isAccount 8 = .ok (.ireturn, 1) := by decide +kernel
set_option maxRecDepth 20000 in
theorem ggX5_isSymbol_X5_isIn : GoodIn wsX5_isSymbol wsX5_isIn := goodIn_r _ [4] (by decide +kernel) (by decide +kernel)
set_option maxRecDepth 20000 in
theorem gX5_isSymbol_X5_isIn : GoodIn wsX5_isSymbol (va_wsS RX5 97 yX5_isIn wsX5_isIn) := goodIn_app (goodIn_of _ (by decide +kernel)) ggX5_isSymbol_X5_isIn
theorem dX5_isSymbol_0 : decode cX5_isSymbol 0 = .ok (.iload_n 0, 1) := by decide +kernel
theorem dX5_isSymbol_1 : decode cX5_isSymbol 1 = .ok (.iconst 0, 1) := by decide +kernel
theorem dX5_isSymbol_2 : decode cX5_isSymbol 2 = .ok (.iconst 3, 1) := by decide +kernel
theorem dX5_isSymbol_3 : decode cX5_isSymbol 3 = .ok (.invokestatic 97, 3) := by decide +kernel
theorem dX5_isSymbol_6 : decode cX5_isSymbol 6 = .ok (.ireturn, 1) := by decide +kernel
set_option maxRecDepth 20000 in
theorem ggX5_deposit_X5_isAccount : GoodIn wsX5_deposit wsX5_isAccount := goodIn_r _ [9, 10, 11, 8, 12] (by decide +kernel) (by decide +kernel)
set_option maxRecDepth 20000 in
theorem gX5_deposit_X5_isAccount : GoodIn wsX5_deposit (va_wsS RX5 101 yX5_isAccount wsX5_isAccount) := goodIn_app (goodIn_of _ (by decide +kernel)) ggX5_deposit_X5_isAccount
set_option maxRecDepth 20000 in
theorem ggX5_deposit_X5_isIn : GoodIn wsX5_deposit wsX5_isIn := goodIn_r _ [12] (by decide +kernel) (by decide +kernel)
set_option maxRecDepth 20000 in
theorem gX5_deposit_X5_isIn : GoodIn wsX5_deposit (va_wsS RX5 97 yX5_isIn wsX5_isIn) := goodIn_app (goodIn_of _ (by decide +kernel)) ggX5_deposit_X5_isIn
theorem dX5_deposit_0 : decode cX5_deposit 0 = .ok (.aload_n 0, 1) := by decide +kernel
theorem dX5_deposit_1 : decode cX5_deposit 1 = .ok (.iload_n 1, 1) := by decide +kernel
theorem dX5_deposit_2 : decode cX5_deposit 2 = .ok (.invokestatic 101, 3) := by decide +kernel
theorem dX5_deposit_5 : decode cX5_deposit 5 = .ok (.ifCond .ne 7, 3) := by decide +kernel
theorem dX5_deposit_8 : decode cX5_deposit 8 = .ok (.iconst 1, 1) := by decide +kernel
theorem dX5_deposit_9 : decode cX5_deposit 9 = .ok (.goto 38, 3) := by decide +kernel
theorem dX5_deposit_12 : decode cX5_deposit 12 = .ok (.iload_n 2, 1) := by decide +kernel
theorem dX5_deposit_13 : decode cX5_deposit 13 = .ok (.iconst 1, 1) := by decide +kernel
theorem dX5_deposit_14 : decode cX5_deposit 14 = .ok (.ldc 105, 2) := by decide +kernel
theorem dX5_deposit_16 : decode cX5_deposit 16 = .ok (.invokestatic 97, 3) := by decide +kernel
theorem dX5_deposit_19 : decode cX5_deposit 19 = .ok (.ifCond .ne 7, 3) := by decide +kernel
theorem dX5_deposit_22 : decode cX5_deposit 22 = .ok (.iconst 2, 1) := by decide +kernel
theorem dX5_deposit_23 : decode cX5_deposit 23 = .ok (.goto 24, 3) := by decide +kernel
theorem dX5_deposit_26 : decode cX5_deposit 26 = .ok (.aload_n 0, 1) := by decide +kernel
theorem dX5_deposit_27 : decode cX5_deposit 27 = .ok (.getfield 7, 3) := by decide +kernel
theorem dX5_deposit_30 : decode cX5_deposit 30 = .ok (.iload_n 1, 1) := by decide +kernel
theorem dX5_deposit_31 : decode cX5_deposit 31 = .ok (.laload, 1) := by decide +kernel
theorem dX5_deposit_32 : decode cX5_deposit 32 = .ok (.iload_n 2, 1) := by decide +kernel
theorem dX5_deposit_33 : decode cX5_deposit 33 = .ok (.i2l, 1) := by decide +kernel
theorem dX5_deposit_34 : decode cX5_deposit 34 = .ok (.ladd, 1) := by decide +kernel
theorem dX5_deposit_35 : decode cX5_deposit 35 = .ok (.ldc2_w 106, 3) := by decide +kernel
theorem dX5_deposit_38 : decode cX5_deposit 38 = .ok (.lcmp, 1) := by decide +kernel
theorem dX5_deposit_39 : decode cX5_deposit 39 = .ok (.ifCond .le 7, 3) := by decide +kernel
theorem dX5_deposit_42 : decode cX5_deposit 42 = .ok (.iconst 3, 1) := by decide +kernel
theorem dX5_deposit_43 : decode cX5_deposit 43 = .ok (.goto 4, 3) := by decide +kernel
theorem dX5_deposit_46 : decode cX5_deposit 46 = .ok (.iconst 0, 1) := by decide +kernel
theorem dX5_deposit_47 : decode cX5_deposit 47 = .ok (.putfield 93, 3) := by decide +kernel
theorem dX5_deposit_50 : decode cX5_deposit 50 = .ok (.aload_n 0, 1) := by decide +kernel
theorem dX5_deposit_51 : decode cX5_deposit 51 = .ok (.getfield 93, 3) := by decide +kernel
theorem dX5_deposit_54 : decode cX5_deposit 54 = .ok (.ifCond .le 5, 3) := by decide +kernel
theorem dX5_deposit_57 : decode cX5_deposit 57 = .ok (.lconst 0, 1) := by decide +kernel
theorem dX5_deposit_58 : decode cX5_deposit 58 = .ok (.lreturn, 1) := by decide +kernel
theorem dX5_deposit_59 : decode cX5_deposit 59 = .ok (.aload_n 0, 1) := by decide +kernel
theorem dX5_deposit_60 : decode cX5_deposit 60 = .ok (.getfield 7, 3) := by decide +kernel
theorem dX5_deposit_63 : decode cX5_deposit 63 = .ok (.iload_n 1, 1) := by decide +kernel
theorem dX5_deposit_64 : decode cX5_deposit 64 = .ok (.dup2, 1) := by decide +kernel
theorem dX5_deposit_65 : decode cX5_deposit 65 = .ok (.laload, 1) := by decide +kernel
theorem dX5_deposit_66 : decode cX5_deposit 66 = .ok (.iload_n 2, 1) := by decide +kernel
theorem dX5_deposit_67 : decode cX5_deposit 67 = .ok (.i2l, 1) := by decide +kernel
theorem dX5_deposit_68 : decode cX5_deposit 68 = .ok (.ladd, 1) := by decide +kernel
theorem dX5_deposit_69 : decode cX5_deposit 69 = .ok (.lastore, 1) := by decide +kernel
theorem dX5_deposit_70 : decode cX5_deposit 70 = .ok (.aload_n 0, 1) := by decide +kernel
theorem dX5_deposit_71 : decode cX5_deposit 71 = .ok (.getfield 29, 3) := by decide +kernel
theorem dX5_deposit_74 : decode cX5_deposit 74 = .ok (.iload_n 1, 1) := by decide +kernel
theorem dX5_deposit_75 : decode cX5_deposit 75 = .ok (.iconst 1, 1) := by decide +kernel
theorem dX5_deposit_76 : decode cX5_deposit 76 = .ok (.bastore, 1) := by decide +kernel
theorem dX5_deposit_77 : decode cX5_deposit 77 = .ok (.aload_n 0, 1) := by decide +kernel
theorem dX5_deposit_78 : decode cX5_deposit 78 = .ok (.getfield 7, 3) := by decide +kernel
theorem dX5_deposit_81 : decode cX5_deposit 81 = .ok (.iload_n 1, 1) := by decide +kernel
theorem dX5_deposit_82 : decode cX5_deposit 82 = .ok (.laload, 1) := by decide +kernel
theorem dX5_deposit_83 : decode cX5_deposit 83 = .ok (.lreturn, 1) := by decide +kernel
set_option maxRecDepth 20000 in
theorem ggX5_withdraw_X5_isAccount : GoodIn wsX5_withdraw wsX5_isAccount := goodIn_r _ [8, 9, 10, 7, 11] (by decide +kernel) (by decide +kernel)
set_option maxRecDepth 20000 in
theorem gX5_withdraw_X5_isAccount : GoodIn wsX5_withdraw (va_wsS RX5 101 yX5_isAccount wsX5_isAccount) := goodIn_app (goodIn_of _ (by decide +kernel)) ggX5_withdraw_X5_isAccount
set_option maxRecDepth 20000 in
theorem ggX5_withdraw_X5_isIn : GoodIn wsX5_withdraw wsX5_isIn := goodIn_r _ [11] (by decide +kernel) (by decide +kernel)
set_option maxRecDepth 20000 in
theorem gX5_withdraw_X5_isIn : GoodIn wsX5_withdraw (va_wsS RX5 97 yX5_isIn wsX5_isIn) := goodIn_app (goodIn_of _ (by decide +kernel)) ggX5_withdraw_X5_isIn
theorem dX5_withdraw_0 : decode cX5_withdraw 0 = .ok (.aload_n 0, 1) := by decide +kernel
theorem dX5_withdraw_1 : decode cX5_withdraw 1 = .ok (.iload_n 1, 1) := by decide +kernel
theorem dX5_withdraw_2 : decode cX5_withdraw 2 = .ok (.invokestatic 101, 3) := by decide +kernel
theorem dX5_withdraw_5 : decode cX5_withdraw 5 = .ok (.ifCond .ne 7, 3) := by decide +kernel
theorem dX5_withdraw_8 : decode cX5_withdraw 8 = .ok (.iconst 1, 1) := by decide +kernel
theorem dX5_withdraw_9 : decode cX5_withdraw 9 = .ok (.goto 41, 3) := by decide +kernel
theorem dX5_withdraw_12 : decode cX5_withdraw 12 = .ok (.iload_n 2, 1) := by decide +kernel
theorem dX5_withdraw_13 : decode cX5_withdraw 13 = .ok (.iconst 1, 1) := by decide +kernel
theorem dX5_withdraw_14 : decode cX5_withdraw 14 = .ok (.ldc 105, 2) := by decide +kernel
theorem dX5_withdraw_16 : decode cX5_withdraw 16 = .ok (.invokestatic 97, 3) := by decide +kernel
theorem dX5_withdraw_19 : decode cX5_withdraw 19 = .ok (.ifCond .ne 7, 3) := by decide +kernel
theorem dX5_withdraw_22 : decode cX5_withdraw 22 = .ok (.iconst 2, 1) := by decide +kernel
theorem dX5_withdraw_23 : decode cX5_withdraw 23 = .ok (.goto 27, 3) := by decide +kernel
theorem dX5_withdraw_26 : decode cX5_withdraw 26 = .ok (.aload_n 0, 1) := by decide +kernel
theorem dX5_withdraw_27 : decode cX5_withdraw 27 = .ok (.getfield 7, 3) := by decide +kernel
theorem dX5_withdraw_30 : decode cX5_withdraw 30 = .ok (.iload_n 1, 1) := by decide +kernel
theorem dX5_withdraw_31 : decode cX5_withdraw 31 = .ok (.laload, 1) := by decide +kernel
theorem dX5_withdraw_32 : decode cX5_withdraw 32 = .ok (.aload_n 0, 1) := by decide +kernel
theorem dX5_withdraw_33 : decode cX5_withdraw 33 = .ok (.getfield 13, 3) := by decide +kernel
theorem dX5_withdraw_36 : decode cX5_withdraw 36 = .ok (.iload_n 1, 1) := by decide +kernel
theorem dX5_withdraw_37 : decode cX5_withdraw 37 = .ok (.laload, 1) := by decide +kernel
theorem dX5_withdraw_38 : decode cX5_withdraw 38 = .ok (.lsub, 1) := by decide +kernel
theorem dX5_withdraw_39 : decode cX5_withdraw 39 = .ok (.iload_n 2, 1) := by decide +kernel
theorem dX5_withdraw_40 : decode cX5_withdraw 40 = .ok (.i2l, 1) := by decide +kernel
theorem dX5_withdraw_41 : decode cX5_withdraw 41 = .ok (.lcmp, 1) := by decide +kernel
theorem dX5_withdraw_42 : decode cX5_withdraw 42 = .ok (.ifCond .ge 7, 3) := by decide +kernel
theorem dX5_withdraw_45 : decode cX5_withdraw 45 = .ok (.iconst 3, 1) := by decide +kernel
theorem dX5_withdraw_46 : decode cX5_withdraw 46 = .ok (.goto 4, 3) := by decide +kernel
theorem dX5_withdraw_49 : decode cX5_withdraw 49 = .ok (.iconst 0, 1) := by decide +kernel
theorem dX5_withdraw_50 : decode cX5_withdraw 50 = .ok (.putfield 93, 3) := by decide +kernel
theorem dX5_withdraw_53 : decode cX5_withdraw 53 = .ok (.aload_n 0, 1) := by decide +kernel
theorem dX5_withdraw_54 : decode cX5_withdraw 54 = .ok (.getfield 93, 3) := by decide +kernel
theorem dX5_withdraw_57 : decode cX5_withdraw 57 = .ok (.ifCond .le 5, 3) := by decide +kernel
theorem dX5_withdraw_60 : decode cX5_withdraw 60 = .ok (.lconst 0, 1) := by decide +kernel
theorem dX5_withdraw_61 : decode cX5_withdraw 61 = .ok (.lreturn, 1) := by decide +kernel
theorem dX5_withdraw_62 : decode cX5_withdraw 62 = .ok (.aload_n 0, 1) := by decide +kernel
theorem dX5_withdraw_63 : decode cX5_withdraw 63 = .ok (.getfield 7, 3) := by decide +kernel
theorem dX5_withdraw_66 : decode cX5_withdraw 66 = .ok (.iload_n 1, 1) := by decide +kernel
theorem dX5_withdraw_67 : decode cX5_withdraw 67 = .ok (.dup2, 1) := by decide +kernel
theorem dX5_withdraw_68 : decode cX5_withdraw 68 = .ok (.laload, 1) := by decide +kernel
theorem dX5_withdraw_69 : decode cX5_withdraw 69 = .ok (.iload_n 2, 1) := by decide +kernel
theorem dX5_withdraw_70 : decode cX5_withdraw 70 = .ok (.i2l, 1) := by decide +kernel
theorem dX5_withdraw_71 : decode cX5_withdraw 71 = .ok (.lsub, 1) := by decide +kernel
theorem dX5_withdraw_72 : decode cX5_withdraw 72 = .ok (.lastore, 1) := by decide +kernel
theorem dX5_withdraw_73 : decode cX5_withdraw 73 = .ok (.aload_n 0, 1) := by decide +kernel
theorem dX5_withdraw_74 : decode cX5_withdraw 74 = .ok (.getfield 7, 3) := by decide +kernel
theorem dX5_withdraw_77 : decode cX5_withdraw 77 = .ok (.iload_n 1, 1) := by decide +kernel
theorem dX5_withdraw_78 : decode cX5_withdraw 78 = .ok (.laload, 1) := by decide +kernel
theorem dX5_withdraw_79 : decode cX5_withdraw 79 = .ok (.lreturn, 1) := by decide +kernel
theorem dX5_cell_0 : decode cX5_cell 0 = .ok (.iconst 4, 1) := by decide +kernel
theorem dX5_cell_1 : decode cX5_cell 1 = .ok (.iload_n 0, 1) := by decide +kernel
theorem dX5_cell_2 : decode cX5_cell 2 = .ok (.imul, 1) := by decide +kernel
theorem dX5_cell_3 : decode cX5_cell 3 = .ok (.iload_n 1, 1) := by decide +kernel
theorem dX5_cell_4 : decode cX5_cell 4 = .ok (.iadd, 1) := by decide +kernel
theorem dX5_cell_5 : decode cX5_cell 5 = .ok (.ireturn, 1) := by decide +kernel
set_option maxRecDepth 20000 in
theorem ggX5_grant_X5_isAccount : GoodIn wsX5_grant wsX5_isAccount := goodIn_r _ [9, 10, 11, 8, 12] (by decide +kernel) (by decide +kernel)
set_option maxRecDepth 20000 in
theorem gX5_grant_X5_isAccount : GoodIn wsX5_grant (va_wsS RX5 101 yX5_isAccount wsX5_isAccount) := goodIn_app (goodIn_of _ (by decide +kernel)) ggX5_grant_X5_isAccount
set_option maxRecDepth 20000 in
theorem ggX5_grant_X5_isSymbol : GoodIn wsX5_grant wsX5_isSymbol := goodIn_r _ [15, 10, 11, 8, 12] (by decide +kernel) (by decide +kernel)
set_option maxRecDepth 20000 in
theorem gX5_grant_X5_isSymbol : GoodIn wsX5_grant (va_wsS RX5 108 yX5_isSymbol wsX5_isSymbol) := goodIn_app (goodIn_of _ (by decide +kernel)) ggX5_grant_X5_isSymbol
set_option maxRecDepth 20000 in
theorem ggX5_grant_X5_isIn : GoodIn wsX5_grant wsX5_isIn := goodIn_r _ [12] (by decide +kernel) (by decide +kernel)
set_option maxRecDepth 20000 in
theorem gX5_grant_X5_isIn : GoodIn wsX5_grant (va_wsS RX5 97 yX5_isIn wsX5_isIn) := goodIn_app (goodIn_of _ (by decide +kernel)) ggX5_grant_X5_isIn
set_option maxRecDepth 20000 in
theorem ggX5_grant_X5_cell : GoodIn wsX5_grant wsX5_cell := goodIn_r _ [18] (by decide +kernel) (by decide +kernel)
set_option maxRecDepth 20000 in
theorem gX5_grant_X5_cell : GoodIn wsX5_grant (va_wsS RX5 112 yX5_cell wsX5_cell) := goodIn_app (goodIn_of _ (by decide +kernel)) ggX5_grant_X5_cell
theorem dX5_grant_0 : decode cX5_grant 0 = .ok (.iload_n 1, 1) := by decide +kernel
theorem dX5_grant_1 : decode cX5_grant 1 = .ok (.invokestatic 101, 3) := by decide +kernel
theorem dX5_grant_4 : decode cX5_grant 4 = .ok (.ifCond .eq 14, 3) := by decide +kernel
theorem dX5_grant_7 : decode cX5_grant 7 = .ok (.iload_n 2, 1) := by decide +kernel
theorem dX5_grant_8 : decode cX5_grant 8 = .ok (.invokestatic 108, 3) := by decide +kernel
theorem dX5_grant_11 : decode cX5_grant 11 = .ok (.ifCond .eq 7, 3) := by decide +kernel
theorem dX5_grant_14 : decode cX5_grant 14 = .ok (.iconst 1, 1) := by decide +kernel
theorem dX5_grant_15 : decode cX5_grant 15 = .ok (.goto 4, 3) := by decide +kernel
theorem dX5_grant_18 : decode cX5_grant 18 = .ok (.iconst 0, 1) := by decide +kernel
theorem dX5_grant_19 : decode cX5_grant 19 = .ok (.istore 4, 2) := by decide +kernel
theorem dX5_grant_21 : decode cX5_grant 21 = .ok (.aload_n 0, 1) := by decide +kernel
theorem dX5_grant_22 : decode cX5_grant 22 = .ok (.iload 4, 2) := by decide +kernel
theorem dX5_grant_24 : decode cX5_grant 24 = .ok (.ifCond .ne 7, 3) := by decide +kernel
theorem dX5_grant_27 : decode cX5_grant 27 = .ok (.iconst 1, 1) := by decide +kernel
theorem dX5_grant_28 : decode cX5_grant 28 = .ok (.goto 39, 3) := by decide +kernel
theorem dX5_grant_31 : decode cX5_grant 31 = .ok (.iload_n 3, 1) := by decide +kernel
theorem dX5_grant_32 : decode cX5_grant 32 = .ok (.iconst 1, 1) := by decide +kernel
theorem dX5_grant_33 : decode cX5_grant 33 = .ok (.ldc 111, 2) := by decide +kernel
theorem dX5_grant_35 : decode cX5_grant 35 = .ok (.invokestatic 97, 3) := by decide +kernel
theorem dX5_grant_38 : decode cX5_grant 38 = .ok (.ifCond .ne 7, 3) := by decide +kernel
theorem dX5_grant_41 : decode cX5_grant 41 = .ok (.iconst 2, 1) := by decide +kernel
theorem dX5_grant_42 : decode cX5_grant 42 = .ok (.goto 25, 3) := by decide +kernel
theorem dX5_grant_45 : decode cX5_grant 45 = .ok (.aload_n 0, 1) := by decide +kernel
theorem dX5_grant_46 : decode cX5_grant 46 = .ok (.getfield 16, 3) := by decide +kernel
theorem dX5_grant_49 : decode cX5_grant 49 = .ok (.iload_n 1, 1) := by decide +kernel
theorem dX5_grant_50 : decode cX5_grant 50 = .ok (.iload_n 2, 1) := by decide +kernel
theorem dX5_grant_51 : decode cX5_grant 51 = .ok (.invokestatic 112, 3) := by decide +kernel
theorem dX5_grant_54 : decode cX5_grant 54 = .ok (.iaload, 1) := by decide +kernel
theorem dX5_grant_55 : decode cX5_grant 55 = .ok (.iload_n 3, 1) := by decide +kernel
theorem dX5_grant_56 : decode cX5_grant 56 = .ok (.iadd, 1) := by decide +kernel
theorem dX5_grant_57 : decode cX5_grant 57 = .ok (.ldc 105, 2) := by decide +kernel
theorem dX5_grant_59 : decode cX5_grant 59 = .ok (.if_icmp .le 7, 3) := by decide +kernel
theorem dX5_grant_62 : decode cX5_grant 62 = .ok (.iconst 3, 1) := by decide +kernel
theorem dX5_grant_63 : decode cX5_grant 63 = .ok (.goto 4, 3) := by decide +kernel
theorem dX5_grant_66 : decode cX5_grant 66 = .ok (.iconst 0, 1) := by decide +kernel
theorem dX5_grant_67 : decode cX5_grant 67 = .ok (.putfield 93, 3) := by decide +kernel
theorem dX5_grant_70 : decode cX5_grant 70 = .ok (.aload_n 0, 1) := by decide +kernel
theorem dX5_grant_71 : decode cX5_grant 71 = .ok (.getfield 93, 3) := by decide +kernel
theorem dX5_grant_74 : decode cX5_grant 74 = .ok (.ifCond .le 5, 3) := by decide +kernel
theorem dX5_grant_77 : decode cX5_grant 77 = .ok (.iconst 0, 1) := by decide +kernel
theorem dX5_grant_78 : decode cX5_grant 78 = .ok (.ireturn, 1) := by decide +kernel
theorem dX5_grant_79 : decode cX5_grant 79 = .ok (.aload_n 0, 1) := by decide +kernel
theorem dX5_grant_80 : decode cX5_grant 80 = .ok (.getfield 16, 3) := by decide +kernel
theorem dX5_grant_83 : decode cX5_grant 83 = .ok (.iload_n 1, 1) := by decide +kernel
theorem dX5_grant_84 : decode cX5_grant 84 = .ok (.iload_n 2, 1) := by decide +kernel
theorem dX5_grant_85 : decode cX5_grant 85 = .ok (.invokestatic 112, 3) := by decide +kernel
theorem dX5_grant_88 : decode cX5_grant 88 = .ok (.dup2, 1) := by decide +kernel
theorem dX5_grant_89 : decode cX5_grant 89 = .ok (.iaload, 1) := by decide +kernel
theorem dX5_grant_90 : decode cX5_grant 90 = .ok (.iload_n 3, 1) := by decide +kernel
theorem dX5_grant_91 : decode cX5_grant 91 = .ok (.iadd, 1) := by decide +kernel
theorem dX5_grant_92 : decode cX5_grant 92 = .ok (.iastore, 1) := by decide +kernel
theorem dX5_grant_93 : decode cX5_grant 93 = .ok (.aload_n 0, 1) := by decide +kernel
theorem dX5_grant_94 : decode cX5_grant 94 = .ok (.getfield 29, 3) := by decide +kernel
theorem dX5_grant_97 : decode cX5_grant 97 = .ok (.iload_n 1, 1) := by decide +kernel
theorem dX5_grant_98 : decode cX5_grant 98 = .ok (.iconst 1, 1) := by decide +kernel
theorem dX5_grant_99 : decode cX5_grant 99 = .ok (.bastore, 1) := by decide +kernel
theorem dX5_grant_100 : decode cX5_grant 100 = .ok (.aload_n 0, 1) := by decide +kernel
theorem dX5_grant_101 : decode cX5_grant 101 = .ok (.getfield 16, 3) := by decide +kernel
theorem dX5_grant_104 : decode cX5_grant 104 = .ok (.iload_n 1, 1) := by decide +kernel
theorem dX5_grant_105 : decode cX5_grant 105 = .ok (.iload_n 2, 1) := by decide +kernel
theorem dX5_grant_106 : decode cX5_grant 106 = .ok (.invokestatic 112, 3) := by decide +kernel
theorem dX5_grant_109 : decode cX5_grant 109 = .ok (.iaload, 1) := by decide +kernel
theorem dX5_grant_110 : decode cX5_grant 110 = .ok (.ireturn, 1) := by decide +kernel
theorem dX5_isThere_0 : decode cX5_isThere 0 = .ok (.aload_n 0, 1) := by decide +kernel
theorem dX5_isThere_1 : decode cX5_isThere 1 = .ok (.getfield 57, 3) := by decide +kernel
theorem dX5_isThere_4 : decode cX5_isThere 4 = .ok (.iload_n 1, 1) := by decide +kernel
theorem dX5_isThere_5 : decode cX5_isThere 5 = .ok (.iaload, 1) := by decide +kernel
theorem dX5_isThere_6 : decode cX5_isThere 6 = .ok (.ifCond .eq 13, 3) := by decide +kernel
theorem dX5_isThere_9 : decode cX5_isThere 9 = .ok (.aload_n 0, 1) := by decide +kernel
theorem dX5_isThere_10 : decode cX5_isThere 10 = .ok (.getfield 57, 3) := by decide +kernel
theorem dX5_isThere_13 : decode cX5_isThere 13 = .ok (.iload_n 1, 1) := by decide +kernel
theorem dX5_isThere_14 : decode cX5_isThere 14 = .ok (.iaload, 1) := by decide +kernel
theorem dX5_isThere_15 : decode cX5_isThere 15 = .ok (.iconst 1, 1) := by decide +kernel
theorem dX5_isThere_16 : decode cX5_isThere 16 = .ok (.if_icmp .ne 7, 3) := by decide +kernel
theorem dX5_isThere_19 : decode cX5_isThere 19 = .ok (.iconst 1, 1) := by decide +kernel
theorem dX5_isThere_20 : decode cX5_isThere 20 = .ok (.goto 4, 3) := by decide +kernel
theorem dX5_isThere_23 : decode cX5_isThere 23 = .ok (.iconst 0, 1) := by decide +kernel
theorem dX5_isThere_24 : decode cX5_isThere 24 = .ok (.ireturn, 1) := by decide +kernel
set_option maxRecDepth 20000 in
theorem ggX5_there_X5_isThere : GoodIn wsX5_there wsX5_isThere := goodIn_r _ [6, 7, 8, 9, 10, 11, 12, 13, 14, 15, 16, 17, 18, 19, 20, 21, 22, 23, 24, 25, 26, 27, 28, 29, 30, 31, 32, 33, 34, 35, 36, 37, 38, 39] (by decide +kernel) (by decide +kernel)
set_option maxRecDepth 20000 in
theorem gX5_there_X5_isThere : GoodIn wsX5_there (wsV RX5 119 RX5 yX5_isThere wsX5_isThere) := goodIn_app (goodIn_of _ (by decide +kernel)) ggX5_there_X5_isThere
theorem dX5_there_0 : decode cX5_there 0 = .ok (.iconst 0, 1) := by decide +kernel
theorem dX5_there_1 : decode cX5_there 1 = .ok (.istore_n 1, 1) := by decide +kernel
theorem dX5_there_2 : decode cX5_there 2 = .ok (.iconst 0, 1) := by decide +kernel
theorem dX5_there_3 : decode cX5_there 3 = .ok (.istore_n 2, 1) := by decide +kernel
theorem dX5_there_4 : decode cX5_there 4 = .ok (.iload_n 2, 1) := by decide +kernel
theorem dX5_there_5 : decode cX5_there 5 = .ok (.aload_n 0, 1) := by decide +kernel
theorem dX5_there_6 : decode cX5_there 6 = .ok (.getfield 116, 3) := by decide +kernel
theorem dX5_there_9 : decode cX5_there 9 = .ok (.if_icmp .ge 25, 3) := by decide +kernel
theorem dX5_there_12 : decode cX5_there 12 = .ok (.aload_n 0, 1) := by decide +kernel
theorem dX5_there_13 : decode cX5_there 13 = .ok (.iload_n 2, 1) := by decide +kernel
theorem dX5_there_14 : decode cX5_there 14 = .ok (.invokevirtual 119, 3) := by decide +kernel
theorem dX5_there_17 : decode cX5_there 17 = .ok (.ifCond .eq 9, 3) := by decide +kernel
theorem dX5_there_20 : decode cX5_there 20 = .ok (.iload_n 1, 1) := by decide +kernel
theorem dX5_there_21 : decode cX5_there 21 = .ok (.iconst 1, 1) := by decide +kernel
theorem dX5_there_22 : decode cX5_there 22 = .ok (.iadd, 1) := by decide +kernel
theorem dX5_there_23 : decode cX5_there 23 = .ok (.goto 4, 3) := by decide +kernel
theorem dX5_there_26 : decode cX5_there 26 = .ok (.iload_n 1, 1) := by decide +kernel
theorem dX5_there_27 : decode cX5_there 27 = .ok (.istore_n 1, 1) := by decide +kernel
theorem dX5_there_28 : decode cX5_there 28 = .ok (.iinc 2 1, 3) := by decide +kernel
theorem dX5_there_31 : decode cX5_there 31 = .ok (.goto (-27), 3) := by decide +kernel
theorem dX5_there_34 : decode cX5_there 34 = .ok (.iload_n 1, 1) := by decide +kernel
theorem dX5_there_35 : decode cX5_there 35 = .ok (.ireturn, 1) := by decide +kernel
theorem dX5_rests_0 : decode cX5_rests 0 = .ok (.aload_n 0, 1) := by decide +kernel
theorem dX5_rests_1 : decode cX5_rests 1 = .ok (.getfield 57, 3) := by decide +kernel
theorem dX5_rests_4 : decode cX5_rests 4 = .ok (.iload_n 1, 1) := by decide +kernel
theorem dX5_rests_5 : decode cX5_rests 5 = .ok (.iaload, 1) := by decide +kernel
theorem dX5_rests_6 : decode cX5_rests 6 = .ok (.ifCond .ne 27, 3) := by decide +kernel
theorem dX5_rests_9 : decode cX5_rests 9 = .ok (.aload_n 0, 1) := by decide +kernel
theorem dX5_rests_10 : decode cX5_rests 10 = .ok (.getfield 36, 3) := by decide +kernel
theorem dX5_rests_13 : decode cX5_rests 13 = .ok (.iload_n 1, 1) := by decide +kernel
theorem dX5_rests_14 : decode cX5_rests 14 = .ok (.iaload, 1) := by decide +kernel
theorem dX5_rests_15 : decode cX5_rests 15 = .ok (.iload_n 2, 1) := by decide +kernel
theorem dX5_rests_16 : decode cX5_rests 16 = .ok (.if_icmp .ne 17, 3) := by decide +kernel
theorem dX5_rests_19 : decode cX5_rests 19 = .ok (.aload_n 0, 1) := by decide +kernel
theorem dX5_rests_20 : decode cX5_rests 20 = .ok (.getfield 39, 3) := by decide +kernel
theorem dX5_rests_23 : decode cX5_rests 23 = .ok (.iload_n 1, 1) := by decide +kernel
theorem dX5_rests_24 : decode cX5_rests 24 = .ok (.iaload, 1) := by decide +kernel
theorem dX5_rests_25 : decode cX5_rests 25 = .ok (.iload_n 3, 1) := by decide +kernel
theorem dX5_rests_26 : decode cX5_rests 26 = .ok (.if_icmp .ne 7, 3) := by decide +kernel
theorem dX5_rests_29 : decode cX5_rests 29 = .ok (.iconst 1, 1) := by decide +kernel
theorem dX5_rests_30 : decode cX5_rests 30 = .ok (.goto 4, 3) := by decide +kernel
theorem dX5_rests_33 : decode cX5_rests 33 = .ok (.iconst 0, 1) := by decide +kernel
theorem dX5_rests_34 : decode cX5_rests 34 = .ok (.ireturn, 1) := by decide +kernel
theorem dX5_isBetter_0 : decode cX5_isBetter 0 = .ok (.iload_n 0, 1) := by decide +kernel
theorem dX5_isBetter_1 : decode cX5_isBetter 1 = .ok (.ifCond .ne 16, 3) := by decide +kernel
theorem dX5_isBetter_4 : decode cX5_isBetter 4 = .ok (.iload_n 1, 1) := by decide +kernel
theorem dX5_isBetter_5 : decode cX5_isBetter 5 = .ok (.iload_n 2, 1) := by decide +kernel
theorem dX5_isBetter_6 : decode cX5_isBetter 6 = .ok (.if_icmp .le 7, 3) := by decide +kernel
theorem dX5_isBetter_9 : decode cX5_isBetter 9 = .ok (.iconst 1, 1) := by decide +kernel
theorem dX5_isBetter_10 : decode cX5_isBetter 10 = .ok (.goto 17, 3) := by decide +kernel
theorem dX5_isBetter_13 : decode cX5_isBetter 13 = .ok (.iconst 0, 1) := by decide +kernel
theorem dX5_isBetter_14 : decode cX5_isBetter 14 = .ok (.goto 13, 3) := by decide +kernel
theorem dX5_isBetter_17 : decode cX5_isBetter 17 = .ok (.iload_n 1, 1) := by decide +kernel
theorem dX5_isBetter_18 : decode cX5_isBetter 18 = .ok (.iload_n 2, 1) := by decide +kernel
theorem dX5_isBetter_19 : decode cX5_isBetter 19 = .ok (.if_icmp .ge 7, 3) := by decide +kernel
theorem dX5_isBetter_22 : decode cX5_isBetter 22 = .ok (.iconst 1, 1) := by decide +kernel
theorem dX5_isBetter_23 : decode cX5_isBetter 23 = .ok (.goto 4, 3) := by decide +kernel
theorem dX5_isBetter_26 : decode cX5_isBetter 26 = .ok (.iconst 0, 1) := by decide +kernel
theorem dX5_isBetter_27 : decode cX5_isBetter 27 = .ok (.ireturn, 1) := by decide +kernel
set_option maxRecDepth 20000 in
theorem ggX5_first_X5_rests : GoodIn wsX5_first wsX5_rests := goodIn_r _ [8, 9, 10, 11, 15, 16, 17, 18, 19, 20, 21, 22, 23, 24, 25, 26, 27, 28, 29, 30, 31, 32, 33, 34, 35, 36, 37, 38, 39, 40, 41, 42, 43, 44, 45, 46] (by decide +kernel) (by decide +kernel)
set_option maxRecDepth 20000 in
theorem gX5_first_X5_rests : GoodIn wsX5_first (wsV RX5 122 RX5 yX5_rests wsX5_rests) := goodIn_app (goodIn_of _ (by decide +kernel)) ggX5_first_X5_rests
set_option maxRecDepth 20000 in
theorem ggX5_first_X5_isBetter : GoodIn wsX5_first wsX5_isBetter := goodIn_r _ [14] (by decide +kernel) (by decide +kernel)
set_option maxRecDepth 20000 in
theorem gX5_first_X5_isBetter : GoodIn wsX5_first (va_wsS RX5 125 yX5_isBetter wsX5_isBetter) := goodIn_app (goodIn_of _ (by decide +kernel)) ggX5_first_X5_isBetter
theorem dX5_first_0 : decode cX5_first 0 = .ok (.iconst (-1), 1) := by decide +kernel
theorem dX5_first_1 : decode cX5_first 1 = .ok (.istore_n 3, 1) := by decide +kernel
theorem dX5_first_2 : decode cX5_first 2 = .ok (.iconst 0, 1) := by decide +kernel
theorem dX5_first_3 : decode cX5_first 3 = .ok (.istore 4, 2) := by decide +kernel
theorem dX5_first_5 : decode cX5_first 5 = .ok (.iload 4, 2) := by decide +kernel
theorem dX5_first_7 : decode cX5_first 7 = .ok (.aload_n 0, 1) := by decide +kernel
theorem dX5_first_8 : decode cX5_first 8 = .ok (.getfield 116, 3) := by decide +kernel
theorem dX5_first_11 : decode cX5_first 11 = .ok (.if_icmp .ge 80, 3) := by decide +kernel
theorem dX5_first_14 : decode cX5_first 14 = .ok (.aload_n 0, 1) := by decide +kernel
theorem dX5_first_15 : decode cX5_first 15 = .ok (.iload 4, 2) := by decide +kernel
theorem dX5_first_17 : decode cX5_first 17 = .ok (.iload_n 1, 1) := by decide +kernel
theorem dX5_first_18 : decode cX5_first 18 = .ok (.iload_n 2, 1) := by decide +kernel
theorem dX5_first_19 : decode cX5_first 19 = .ok (.invokevirtual 122, 3) := by decide +kernel
theorem dX5_first_22 : decode cX5_first 22 = .ok (.ifCond .eq 63, 3) := by decide +kernel
theorem dX5_first_25 : decode cX5_first 25 = .ok (.iload_n 3, 1) := by decide +kernel
theorem dX5_first_26 : decode cX5_first 26 = .ok (.iconst (-1), 1) := by decide +kernel
theorem dX5_first_27 : decode cX5_first 27 = .ok (.if_icmp .eq 55, 3) := by decide +kernel
theorem dX5_first_30 : decode cX5_first 30 = .ok (.iload_n 2, 1) := by decide +kernel
theorem dX5_first_31 : decode cX5_first 31 = .ok (.aload_n 0, 1) := by decide +kernel
theorem dX5_first_32 : decode cX5_first 32 = .ok (.getfield 45, 3) := by decide +kernel
theorem dX5_first_35 : decode cX5_first 35 = .ok (.iload 4, 2) := by decide +kernel
theorem dX5_first_37 : decode cX5_first 37 = .ok (.iaload, 1) := by decide +kernel
theorem dX5_first_38 : decode cX5_first 38 = .ok (.aload_n 0, 1) := by decide +kernel
theorem dX5_first_39 : decode cX5_first 39 = .ok (.getfield 45, 3) := by decide +kernel
theorem dX5_first_42 : decode cX5_first 42 = .ok (.iload_n 3, 1) := by decide +kernel
theorem dX5_first_43 : decode cX5_first 43 = .ok (.iaload, 1) := by decide +kernel
theorem dX5_first_44 : decode cX5_first 44 = .ok (.invokestatic 125, 3) := by decide +kernel
theorem dX5_first_47 : decode cX5_first 47 = .ok (.ifCond .ne 35, 3) := by decide +kernel
theorem dX5_first_50 : decode cX5_first 50 = .ok (.aload_n 0, 1) := by decide +kernel
theorem dX5_first_51 : decode cX5_first 51 = .ok (.getfield 45, 3) := by decide +kernel
theorem dX5_first_54 : decode cX5_first 54 = .ok (.iload 4, 2) := by decide +kernel
theorem dX5_first_56 : decode cX5_first 56 = .ok (.iaload, 1) := by decide +kernel
theorem dX5_first_57 : decode cX5_first 57 = .ok (.aload_n 0, 1) := by decide +kernel
theorem dX5_first_58 : decode cX5_first 58 = .ok (.getfield 45, 3) := by decide +kernel
theorem dX5_first_61 : decode cX5_first 61 = .ok (.iload_n 3, 1) := by decide +kernel
theorem dX5_first_62 : decode cX5_first 62 = .ok (.iaload, 1) := by decide +kernel
theorem dX5_first_63 : decode cX5_first 63 = .ok (.if_icmp .ne 22, 3) := by decide +kernel
theorem dX5_first_66 : decode cX5_first 66 = .ok (.aload_n 0, 1) := by decide +kernel
theorem dX5_first_67 : decode cX5_first 67 = .ok (.getfield 66, 3) := by decide +kernel
theorem dX5_first_70 : decode cX5_first 70 = .ok (.iload 4, 2) := by decide +kernel
theorem dX5_first_72 : decode cX5_first 72 = .ok (.iaload, 1) := by decide +kernel
theorem dX5_first_73 : decode cX5_first 73 = .ok (.aload_n 0, 1) := by decide +kernel
theorem dX5_first_74 : decode cX5_first 74 = .ok (.getfield 66, 3) := by decide +kernel
theorem dX5_first_77 : decode cX5_first 77 = .ok (.iload_n 3, 1) := by decide +kernel
theorem dX5_first_78 : decode cX5_first 78 = .ok (.iaload, 1) := by decide +kernel
theorem dX5_first_79 : decode cX5_first 79 = .ok (.if_icmp .ge 6, 3) := by decide +kernel
theorem dX5_first_82 : decode cX5_first 82 = .ok (.iload 4, 2) := by decide +kernel
theorem dX5_first_84 : decode cX5_first 84 = .ok (.istore_n 3, 1) := by decide +kernel
theorem dX5_first_85 : decode cX5_first 85 = .ok (.iinc 4 1, 3) := by decide +kernel
theorem dX5_first_88 : decode cX5_first 88 = .ok (.goto (-83), 3) := by decide +kernel
theorem dX5_first_91 : decode cX5_first 91 = .ok (.iload_n 3, 1) := by decide +kernel
theorem dX5_first_92 : decode cX5_first 92 = .ok (.ireturn, 1) := by decide +kernel
theorem dX5_allows_0 : decode cX5_allows 0 = .ok (.aload_n 0, 1) := by decide +kernel
theorem dX5_allows_1 : decode cX5_allows 1 = .ok (.getfield 39, 3) := by decide +kernel
theorem dX5_allows_4 : decode cX5_allows 4 = .ok (.iload_n 1, 1) := by decide +kernel
theorem dX5_allows_5 : decode cX5_allows 5 = .ok (.iaload, 1) := by decide +kernel
theorem dX5_allows_6 : decode cX5_allows 6 = .ok (.ifCond .ne 26, 3) := by decide +kernel
theorem dX5_allows_9 : decode cX5_allows 9 = .ok (.aload_n 0, 1) := by decide +kernel
theorem dX5_allows_10 : decode cX5_allows 10 = .ok (.getfield 45, 3) := by decide +kernel
theorem dX5_allows_13 : decode cX5_allows 13 = .ok (.iload_n 2, 1) := by decide +kernel
theorem dX5_allows_14 : decode cX5_allows 14 = .ok (.iaload, 1) := by decide +kernel
theorem dX5_allows_15 : decode cX5_allows 15 = .ok (.aload_n 0, 1) := by decide +kernel
theorem dX5_allows_16 : decode cX5_allows 16 = .ok (.getfield 45, 3) := by decide +kernel
theorem dX5_allows_19 : decode cX5_allows 19 = .ok (.iload_n 1, 1) := by decide +kernel
theorem dX5_allows_20 : decode cX5_allows 20 = .ok (.iaload, 1) := by decide +kernel
theorem dX5_allows_21 : decode cX5_allows 21 = .ok (.if_icmp .gt 7, 3) := by decide +kernel
theorem dX5_allows_24 : decode cX5_allows 24 = .ok (.iconst 1, 1) := by decide +kernel
theorem dX5_allows_25 : decode cX5_allows 25 = .ok (.goto 27, 3) := by decide +kernel
theorem dX5_allows_28 : decode cX5_allows 28 = .ok (.iconst 0, 1) := by decide +kernel
theorem dX5_allows_29 : decode cX5_allows 29 = .ok (.goto 23, 3) := by decide +kernel
theorem dX5_allows_32 : decode cX5_allows 32 = .ok (.aload_n 0, 1) := by decide +kernel
theorem dX5_allows_33 : decode cX5_allows 33 = .ok (.getfield 45, 3) := by decide +kernel
theorem dX5_allows_36 : decode cX5_allows 36 = .ok (.iload_n 2, 1) := by decide +kernel
theorem dX5_allows_37 : decode cX5_allows 37 = .ok (.iaload, 1) := by decide +kernel
theorem dX5_allows_38 : decode cX5_allows 38 = .ok (.aload_n 0, 1) := by decide +kernel
theorem dX5_allows_39 : decode cX5_allows 39 = .ok (.getfield 45, 3) := by decide +kernel
theorem dX5_allows_42 : decode cX5_allows 42 = .ok (.iload_n 1, 1) := by decide +kernel
theorem dX5_allows_43 : decode cX5_allows 43 = .ok (.iaload, 1) := by decide +kernel
theorem dX5_allows_44 : decode cX5_allows 44 = .ok (.if_icmp .lt 7, 3) := by decide +kernel
theorem dX5_allows_47 : decode cX5_allows 47 = .ok (.iconst 1, 1) := by decide +kernel
theorem dX5_allows_48 : decode cX5_allows 48 = .ok (.goto 4, 3) := by decide +kernel
theorem dX5_allows_51 : decode cX5_allows 51 = .ok (.iconst 0, 1) := by decide +kernel
theorem dX5_allows_52 : decode cX5_allows 52 = .ok (.ireturn, 1) := by decide +kernel
set_option maxRecDepth 20000 in
theorem ggX5_free_X5_cell : GoodIn wsX5_free wsX5_cell := goodIn_r _ [10] (by decide +kernel) (by decide +kernel)
set_option maxRecDepth 20000 in
theorem gX5_free_X5_cell : GoodIn wsX5_free (va_wsS RX5 112 yX5_cell wsX5_cell) := goodIn_app (goodIn_of _ (by decide +kernel)) ggX5_free_X5_cell
theorem dX5_free_0 : decode cX5_free 0 = .ok (.aload_n 0, 1) := by decide +kernel
theorem dX5_free_1 : decode cX5_free 1 = .ok (.getfield 33, 3) := by decide +kernel
theorem dX5_free_4 : decode cX5_free 4 = .ok (.iload_n 1, 1) := by decide +kernel
theorem dX5_free_5 : decode cX5_free 5 = .ok (.iaload, 1) := by decide +kernel
theorem dX5_free_6 : decode cX5_free 6 = .ok (.istore_n 3, 1) := by decide +kernel
theorem dX5_free_7 : decode cX5_free 7 = .ok (.aload_n 0, 1) := by decide +kernel
theorem dX5_free_8 : decode cX5_free 8 = .ok (.getfield 39, 3) := by decide +kernel
theorem dX5_free_11 : decode cX5_free 11 = .ok (.iload_n 1, 1) := by decide +kernel
theorem dX5_free_12 : decode cX5_free 12 = .ok (.iaload, 1) := by decide +kernel
theorem dX5_free_13 : decode cX5_free 13 = .ok (.ifCond .ne 25, 3) := by decide +kernel
theorem dX5_free_16 : decode cX5_free 16 = .ok (.aload_n 0, 1) := by decide +kernel
theorem dX5_free_17 : decode cX5_free 17 = .ok (.getfield 13, 3) := by decide +kernel
theorem dX5_free_20 : decode cX5_free 20 = .ok (.iload_n 3, 1) := by decide +kernel
theorem dX5_free_21 : decode cX5_free 21 = .ok (.dup2, 1) := by decide +kernel
theorem dX5_free_22 : decode cX5_free 22 = .ok (.laload, 1) := by decide +kernel
