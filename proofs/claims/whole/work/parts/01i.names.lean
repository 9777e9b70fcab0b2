theorem dX5_busiest_0 : decode cX5_busiest 0 = .ok (.aload_n 0, 1) := by decide +kernel
theorem dX5_busiest_1 : decode cX5_busiest 1 = .ok (.iload_n 1, 1) := by decide +kernel
theorem dX5_busiest_2 : decode cX5_busiest 2 = .ok (.invokestatic 108, 3) := by decide +kernel
theorem dX5_busiest_5 : decode cX5_busiest 5 = .ok (.ifCond .eq 11, 3) := by decide +kernel
theorem dX5_busiest_8 : decode cX5_busiest 8 = .ok (.iload_n 2, 1) := by decide +kernel
theorem dX5_busiest_9 : decode cX5_busiest 9 = .ok (.ifCond .lt 7, 3) := by decide +kernel
theorem dX5_busiest_12 : decode cX5_busiest 12 = .ok (.iconst 0, 1) := by decide +kernel
theorem dX5_busiest_13 : decode cX5_busiest 13 = .ok (.goto 4, 3) := by decide +kernel
theorem dX5_busiest_16 : decode cX5_busiest 16 = .ok (.iconst 1, 1) := by decide +kernel
theorem dX5_busiest_17 : decode cX5_busiest 17 = .ok (.putfield 93, 3) := by decide +kernel
theorem dX5_busiest_20 : decode cX5_busiest 20 = .ok (.iconst 0, 1) := by decide +kernel
theorem dX5_busiest_21 : decode cX5_busiest 21 = .ok (.istore_n 3, 1) := by decide +kernel
theorem dX5_busiest_22 : decode cX5_busiest 22 = .ok (.iload_n 3, 1) := by decide +kernel
theorem dX5_busiest_23 : decode cX5_busiest 23 = .ok (.sipush 512, 3) := by decide +kernel
theorem dX5_busiest_26 : decode cX5_busiest 26 = .ok (.if_icmp .ge 111, 3) := by decide +kernel
theorem dX5_busiest_29 : decode cX5_busiest 29 = .ok (.aload_n 0, 1) := by decide +kernel
theorem dX5_busiest_30 : decode cX5_busiest 30 = .ok (.getfield 93, 3) := by decide +kernel
theorem dX5_busiest_33 : decode cX5_busiest 33 = .ok (.ifCond .ne 104, 3) := by decide +kernel
theorem dX5_busiest_36 : decode cX5_busiest 36 = .ok (.iconst 0, 1) := by decide +kernel
theorem dX5_busiest_37 : decode cX5_busiest 37 = .ok (.istore 4, 2) := by decide +kernel
theorem dX5_busiest_39 : decode cX5_busiest 39 = .ok (.iconst 0, 1) := by decide +kernel
theorem dX5_busiest_40 : decode cX5_busiest 40 = .ok (.istore 5, 2) := by decide +kernel
theorem dX5_busiest_42 : decode cX5_busiest 42 = .ok (.iload 5, 2) := by decide +kernel
theorem dX5_busiest_44 : decode cX5_busiest 44 = .ok (.sipush 512, 3) := by decide +kernel
theorem dX5_busiest_47 : decode cX5_busiest 47 = .ok (.if_icmp .ge 67, 3) := by decide +kernel
theorem dX5_busiest_50 : decode cX5_busiest 50 = .ok (.aload_n 0, 1) := by decide +kernel
theorem dX5_busiest_51 : decode cX5_busiest 51 = .ok (.iload_n 3, 1) := by decide +kernel
theorem dX5_busiest_52 : decode cX5_busiest 52 = .ok (.iload_n 1, 1) := by decide +kernel
theorem dX5_busiest_53 : decode cX5_busiest 53 = .ok (.invokevirtual 191, 3) := by decide +kernel
theorem dX5_busiest_56 : decode cX5_busiest 56 = .ok (.ifCond .le 58, 3) := by decide +kernel
theorem dX5_busiest_59 : decode cX5_busiest 59 = .ok (.aload_n 0, 1) := by decide +kernel
theorem dX5_busiest_60 : decode cX5_busiest 60 = .ok (.iload 5, 2) := by decide +kernel
theorem dX5_busiest_62 : decode cX5_busiest 62 = .ok (.iload_n 1, 1) := by decide +kernel
theorem dX5_busiest_63 : decode cX5_busiest 63 = .ok (.invokevirtual 191, 3) := by decide +kernel
theorem dX5_busiest_66 : decode cX5_busiest 66 = .ok (.aload_n 0, 1) := by decide +kernel
theorem dX5_busiest_67 : decode cX5_busiest 67 = .ok (.iload_n 3, 1) := by decide +kernel
theorem dX5_busiest_68 : decode cX5_busiest 68 = .ok (.iload_n 1, 1) := by decide +kernel
theorem dX5_busiest_69 : decode cX5_busiest 69 = .ok (.invokevirtual 191, 3) := by decide +kernel
theorem dX5_busiest_72 : decode cX5_busiest 72 = .ok (.if_icmp .gt 25, 3) := by decide +kernel
theorem dX5_busiest_75 : decode cX5_busiest 75 = .ok (.aload_n 0, 1) := by decide +kernel
theorem dX5_busiest_76 : decode cX5_busiest 76 = .ok (.iload 5, 2) := by decide +kernel
theorem dX5_busiest_78 : decode cX5_busiest 78 = .ok (.iload_n 1, 1) := by decide +kernel
theorem dX5_busiest_79 : decode cX5_busiest 79 = .ok (.invokevirtual 191, 3) := by decide +kernel
theorem dX5_busiest_82 : decode cX5_busiest 82 = .ok (.aload_n 0, 1) := by decide +kernel
theorem dX5_busiest_83 : decode cX5_busiest 83 = .ok (.iload_n 3, 1) := by decide +kernel
theorem dX5_busiest_84 : decode cX5_busiest 84 = .ok (.iload_n 1, 1) := by decide +kernel
theorem dX5_busiest_85 : decode cX5_busiest 85 = .ok (.invokevirtual 191, 3) := by decide +kernel
theorem dX5_busiest_88 : decode cX5_busiest 88 = .ok (.if_icmp .ne 16, 3) := by decide +kernel
theorem dX5_busiest_91 : decode cX5_busiest 91 = .ok (.iload 5, 2) := by decide +kernel
theorem dX5_busiest_93 : decode cX5_busiest 93 = .ok (.iload_n 3, 1) := by decide +kernel
theorem dX5_busiest_94 : decode cX5_busiest 94 = .ok (.if_icmp .ge 10, 3) := by decide +kernel
theorem dX5_busiest_97 : decode cX5_busiest 97 = .ok (.iload 4, 2) := by decide +kernel
theorem dX5_busiest_99 : decode cX5_busiest 99 = .ok (.iconst 1, 1) := by decide +kernel
theorem dX5_busiest_100 : decode cX5_busiest 100 = .ok (.iadd, 1) := by decide +kernel
theorem dX5_busiest_101 : decode cX5_busiest 101 = .ok (.goto 5, 3) := by decide +kernel
theorem dX5_busiest_104 : decode cX5_busiest 104 = .ok (.iload 4, 2) := by decide +kernel
theorem dX5_busiest_106 : decode cX5_busiest 106 = .ok (.istore 4, 2) := by decide +kernel
theorem dX5_busiest_108 : decode cX5_busiest 108 = .ok (.iinc 5 1, 3) := by decide +kernel
theorem dX5_busiest_111 : decode cX5_busiest 111 = .ok (.goto (-69), 3) := by decide +kernel
theorem dX5_busiest_114 : decode cX5_busiest 114 = .ok (.aload_n 0, 1) := by decide +kernel
theorem dX5_busiest_115 : decode cX5_busiest 115 = .ok (.iload_n 3, 1) := by decide +kernel
theorem dX5_busiest_116 : decode cX5_busiest 116 = .ok (.iload_n 1, 1) := by decide +kernel
theorem dX5_busiest_117 : decode cX5_busiest 117 = .ok (.invokevirtual 191, 3) := by decide +kernel
theorem dX5_busiest_120 : decode cX5_busiest 120 = .ok (.ifCond .le 11, 3) := by decide +kernel
theorem dX5_busiest_123 : decode cX5_busiest 123 = .ok (.iload 4, 2) := by decide +kernel
theorem dX5_busiest_125 : decode cX5_busiest 125 = .ok (.iload_n 2, 1) := by decide +kernel
theorem dX5_busiest_126 : decode cX5_busiest 126 = .ok (.if_icmp .ne 5, 3) := by decide +kernel
theorem dX5_busiest_129 : decode cX5_busiest 129 = .ok (.iload_n 3, 1) := by decide +kernel
theorem dX5_busiest_130 : decode cX5_busiest 130 = .ok (.ireturn, 1) := by decide +kernel
theorem dX5_busiest_131 : decode cX5_busiest 131 = .ok (.iinc 3 1, 3) := by decide +kernel
theorem dX5_busiest_134 : decode cX5_busiest 134 = .ok (.goto (-112), 3) := by decide +kernel
theorem dX5_busiest_137 : decode cX5_busiest 137 = .ok (.aload_n 0, 1) := by decide +kernel
theorem dX5_busiest_138 : decode cX5_busiest 138 = .ok (.iconst 1, 1) := by decide +kernel
theorem dX5_busiest_139 : decode cX5_busiest 139 = .ok (.putfield 93, 3) := by decide +kernel
theorem dX5_busiest_142 : decode cX5_busiest 142 = .ok (.iconst 0, 1) := by decide +kernel
theorem dX5_busiest_143 : decode cX5_busiest 143 = .ok (.ireturn, 1) := by decide +kernel
theorem dJ9_max_7cf53_0 : decode cJ9_max_7cf53 0 = .ok (.iload_n 0, 1) := by decide +kernel
theorem dJ9_max_7cf53_1 : decode cJ9_max_7cf53 1 = .ok (.iload_n 1, 1) := by decide +kernel
theorem dJ9_max_7cf53_2 : decode cJ9_max_7cf53 2 = .ok (.if_icmp .lt 7, 3) := by decide +kernel
theorem dJ9_max_7cf53_5 : decode cJ9_max_7cf53 5 = .ok (.iload_n 0, 1) := by decide +kernel
theorem dJ9_max_7cf53_6 : decode cJ9_max_7cf53 6 = .ok (.goto 4, 3) := by decide +kernel
theorem dJ9_max_7cf53_9 : decode cJ9_max_7cf53 9 = .ok (.iload_n 1, 1) := by decide +kernel
theorem dJ9_max_7cf53_10 : decode cJ9_max_7cf53 10 = .ok (.ireturn, 1) := by decide +kernel
theorem dJ9_min_7cf53_0 : decode cJ9_min_7cf53 0 = .ok (.iload_n 0, 1) := by decide +kernel
theorem dJ9_min_7cf53_1 : decode cJ9_min_7cf53 1 = .ok (.iload_n 1, 1) := by decide +kernel
theorem dJ9_min_7cf53_2 : decode cJ9_min_7cf53 2 = .ok (.if_icmp .gt 7, 3) := by decide +kernel
theorem dJ9_min_7cf53_5 : decode cJ9_min_7cf53 5 = .ok (.iload_n 0, 1) := by decide +kernel
theorem dJ9_min_7cf53_6 : decode cJ9_min_7cf53 6 = .ok (.goto 4, 3) := by decide +kernel
theorem dJ9_min_7cf53_9 : decode cJ9_min_7cf53 9 = .ok (.iload_n 1, 1) := by decide +kernel
theorem dJ9_min_7cf53_10 : decode cJ9_min_7cf53 10 = .ok (.ireturn, 1) := by decide +kernel
