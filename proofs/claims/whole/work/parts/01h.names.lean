theorem dX5_order_300 : decode cX5_order 300 = .ok (.iload 6, 2) := by decide +kernel
theorem dX5_order_302 : decode cX5_order 302 = .ok (.ineg, 1) := by decide +kernel
theorem dX5_order_303 : decode cX5_order 303 = .ok (.invokevirtual 128, 3) := by decide +kernel
theorem dX5_order_306 : decode cX5_order 306 = .ok (.aload_n 0, 1) := by decide +kernel
theorem dX5_order_307 : decode cX5_order 307 = .ok (.iload 11, 2) := by decide +kernel
theorem dX5_order_309 : decode cX5_order 309 = .ok (.invokevirtual 170, 3) := by decide +kernel
theorem dX5_order_312 : decode cX5_order 312 = .ok (.aload_n 0, 1) := by decide +kernel
theorem dX5_order_313 : decode cX5_order 313 = .ok (.iload_n 2, 1) := by decide +kernel
theorem dX5_order_314 : decode cX5_order 314 = .ok (.invokevirtual 173, 3) := by decide +kernel
theorem dX5_order_317 : decode cX5_order 317 = .ok (.istore 12, 2) := by decide +kernel
theorem dX5_order_319 : decode cX5_order 319 = .ok (.iload 12, 2) := by decide +kernel
theorem dX5_order_321 : decode cX5_order 321 = .ok (.iconst (-1), 1) := by decide +kernel
theorem dX5_order_322 : decode cX5_order 322 = .ok (.if_icmp .eq 35, 3) := by decide +kernel
theorem dX5_order_325 : decode cX5_order 325 = .ok (.aload_n 0, 1) := by decide +kernel
theorem dX5_order_326 : decode cX5_order 326 = .ok (.getfield 42, 3) := by decide +kernel
theorem dX5_order_329 : decode cX5_order 329 = .ok (.iload 12, 2) := by decide +kernel
theorem dX5_order_331 : decode cX5_order 331 = .ok (.iconst 0, 1) := by decide +kernel
theorem dX5_order_332 : decode cX5_order 332 = .ok (.iastore, 1) := by decide +kernel
theorem dX5_order_333 : decode cX5_order 333 = .ok (.aload_n 0, 1) := by decide +kernel
theorem dX5_order_334 : decode cX5_order 334 = .ok (.getfield 57, 3) := by decide +kernel
theorem dX5_order_337 : decode cX5_order 337 = .ok (.iload 12, 2) := by decide +kernel
theorem dX5_order_339 : decode cX5_order 339 = .ok (.iconst 3, 1) := by decide +kernel
theorem dX5_order_340 : decode cX5_order 340 = .ok (.iastore, 1) := by decide +kernel
theorem dX5_order_341 : decode cX5_order 341 = .ok (.aload_n 0, 1) := by decide +kernel
theorem dX5_order_342 : decode cX5_order 342 = .ok (.iload 12, 2) := by decide +kernel
theorem dX5_order_344 : decode cX5_order 344 = .ok (.invokevirtual 170, 3) := by decide +kernel
theorem dX5_order_347 : decode cX5_order 347 = .ok (.aload_n 0, 1) := by decide +kernel
theorem dX5_order_348 : decode cX5_order 348 = .ok (.iload_n 2, 1) := by decide +kernel
theorem dX5_order_349 : decode cX5_order 349 = .ok (.invokevirtual 173, 3) := by decide +kernel
theorem dX5_order_352 : decode cX5_order 352 = .ok (.istore 12, 2) := by decide +kernel
theorem dX5_order_354 : decode cX5_order 354 = .ok (.goto (-35), 3) := by decide +kernel
theorem dX5_order_357 : decode cX5_order 357 = .ok (.iload 11, 2) := by decide +kernel
theorem dX5_order_359 : decode cX5_order 359 = .ok (.ireturn, 1) := by decide +kernel
set_option maxRecDepth 20000 in
theorem ggX5_refusal_X5_isAccount : GoodIn wsX5_refusal wsX5_isAccount := goodIn_r _ [6, 7, 8, 5, 9] (by decide +kernel) (by decide +kernel)
set_option maxRecDepth 20000 in
theorem gX5_refusal_X5_isAccount : GoodIn wsX5_refusal (va_wsS RX5 101 yX5_isAccount wsX5_isAccount) := goodIn_app (goodIn_of _ (by decide +kernel)) ggX5_refusal_X5_isAccount
set_option maxRecDepth 20000 in
theorem ggX5_refusal_X5_isIn : GoodIn wsX5_refusal wsX5_isIn := goodIn_r _ [9] (by decide +kernel) (by decide +kernel)
set_option maxRecDepth 20000 in
theorem gX5_refusal_X5_isIn : GoodIn wsX5_refusal (va_wsS RX5 97 yX5_isIn wsX5_isIn) := goodIn_app (goodIn_of _ (by decide +kernel)) ggX5_refusal_X5_isIn
set_option maxRecDepth 20000 in
theorem ggX5_refusal_X5_isThere : GoodIn wsX5_refusal wsX5_isThere := goodIn_r _ [13, 14, 15, 16, 17, 18, 19, 20, 21, 22, 23, 24, 25, 26, 27, 28, 29, 30, 31, 32, 33, 34, 35, 36, 37, 38, 39, 40, 41, 42, 43, 44, 45, 46] (by decide +kernel) (by decide +kernel)
set_option maxRecDepth 20000 in
theorem gX5_refusal_X5_isThere : GoodIn wsX5_refusal (wsV RX5 119 RX5 yX5_isThere wsX5_isThere) := goodIn_app (goodIn_of _ (by decide +kernel)) ggX5_refusal_X5_isThere
theorem dX5_refusal_0 : decode cX5_refusal 0 = .ok (.iload_n 1, 1) := by decide +kernel
theorem dX5_refusal_1 : decode cX5_refusal 1 = .ok (.invokestatic 101, 3) := by decide +kernel
theorem dX5_refusal_4 : decode cX5_refusal 4 = .ok (.ifCond .eq 17, 3) := by decide +kernel
theorem dX5_refusal_7 : decode cX5_refusal 7 = .ok (.iload_n 2, 1) := by decide +kernel
theorem dX5_refusal_8 : decode cX5_refusal 8 = .ok (.iconst 0, 1) := by decide +kernel
theorem dX5_refusal_9 : decode cX5_refusal 9 = .ok (.aload_n 0, 1) := by decide +kernel
theorem dX5_refusal_10 : decode cX5_refusal 10 = .ok (.getfield 116, 3) := by decide +kernel
theorem dX5_refusal_13 : decode cX5_refusal 13 = .ok (.iconst 1, 1) := by decide +kernel
theorem dX5_refusal_14 : decode cX5_refusal 14 = .ok (.isub, 1) := by decide +kernel
theorem dX5_refusal_15 : decode cX5_refusal 15 = .ok (.invokestatic 97, 3) := by decide +kernel
theorem dX5_refusal_18 : decode cX5_refusal 18 = .ok (.ifCond .ne 5, 3) := by decide +kernel
theorem dX5_refusal_21 : decode cX5_refusal 21 = .ok (.iconst 1, 1) := by decide +kernel
theorem dX5_refusal_22 : decode cX5_refusal 22 = .ok (.ireturn, 1) := by decide +kernel
theorem dX5_refusal_23 : decode cX5_refusal 23 = .ok (.aload_n 0, 1) := by decide +kernel
theorem dX5_refusal_24 : decode cX5_refusal 24 = .ok (.getfield 33, 3) := by decide +kernel
theorem dX5_refusal_27 : decode cX5_refusal 27 = .ok (.iload_n 2, 1) := by decide +kernel
theorem dX5_refusal_28 : decode cX5_refusal 28 = .ok (.iaload, 1) := by decide +kernel
theorem dX5_refusal_29 : decode cX5_refusal 29 = .ok (.iload_n 1, 1) := by decide +kernel
theorem dX5_refusal_30 : decode cX5_refusal 30 = .ok (.if_icmp .ne 7, 3) := by decide +kernel
theorem dX5_refusal_33 : decode cX5_refusal 33 = .ok (.iload_n 3, 1) := by decide +kernel
theorem dX5_refusal_34 : decode cX5_refusal 34 = .ok (.ifCond .ne 7, 3) := by decide +kernel
theorem dX5_refusal_37 : decode cX5_refusal 37 = .ok (.iconst 2, 1) := by decide +kernel
theorem dX5_refusal_38 : decode cX5_refusal 38 = .ok (.goto 16, 3) := by decide +kernel
theorem dX5_refusal_41 : decode cX5_refusal 41 = .ok (.aload_n 0, 1) := by decide +kernel
theorem dX5_refusal_42 : decode cX5_refusal 42 = .ok (.iload_n 2, 1) := by decide +kernel
theorem dX5_refusal_43 : decode cX5_refusal 43 = .ok (.invokevirtual 119, 3) := by decide +kernel
theorem dX5_refusal_46 : decode cX5_refusal 46 = .ok (.ifCond .ne 7, 3) := by decide +kernel
theorem dX5_refusal_49 : decode cX5_refusal 49 = .ok (.iconst 3, 1) := by decide +kernel
theorem dX5_refusal_50 : decode cX5_refusal 50 = .ok (.goto 4, 3) := by decide +kernel
theorem dX5_refusal_53 : decode cX5_refusal 53 = .ok (.iconst 0, 1) := by decide +kernel
theorem dX5_refusal_54 : decode cX5_refusal 54 = .ok (.ireturn, 1) := by decide +kernel
set_option maxRecDepth 20000 in
theorem ggX5_cancel_X5_refusal : GoodIn wsX5_cancel wsX5_refusal := goodIn_r _ [7, 8, 9, 10, 11, 6, 12, 13, 14, 15, 16, 17, 18, 19, 20, 38, 39, 40, 41, 42, 43, 44, 45, 46, 47, 48, 49, 50, 51, 52, 53, 54, 55, 56, 57, 58, 59, 60, 61, 62, 63, 64, 65, 66, 67, 68, 69] (by decide +kernel) (by decide +kernel)
set_option maxRecDepth 20000 in
theorem gX5_cancel_X5_refusal : GoodIn wsX5_cancel (wsV RX5 177 RX5 yX5_refusal wsX5_refusal) := goodIn_app (goodIn_of _ (by decide +kernel)) ggX5_cancel_X5_refusal
set_option maxRecDepth 20000 in
theorem ggX5_cancel_X5_cancelled : GoodIn wsX5_cancel wsX5_cancelled := goodIn_r _ [24, 2, 25, 20, 26, 27, 28, 6, 29, 9, 30, 31, 32, 33, 34, 35, 36, 37, 38, 39, 40, 41, 42, 43, 44, 45, 46, 47, 48, 49, 50, 51, 52, 53, 54, 55, 56, 57, 58, 59, 60, 61, 62, 63, 64, 65, 66, 67, 68, 69] (by decide +kernel) (by decide +kernel)
set_option maxRecDepth 20000 in
theorem gX5_cancel_X5_cancelled : GoodIn wsX5_cancel (wsV RX5 153 RX5 yX5_cancelled wsX5_cancelled) := goodIn_app (goodIn_of _ (by decide +kernel)) ggX5_cancel_X5_cancelled
theorem dX5_cancel_0 : decode cX5_cancel 0 = .ok (.aload_n 0, 1) := by decide +kernel
theorem dX5_cancel_1 : decode cX5_cancel 1 = .ok (.aload_n 0, 1) := by decide +kernel
theorem dX5_cancel_2 : decode cX5_cancel 2 = .ok (.iload_n 1, 1) := by decide +kernel
theorem dX5_cancel_3 : decode cX5_cancel 3 = .ok (.iload_n 2, 1) := by decide +kernel
theorem dX5_cancel_4 : decode cX5_cancel 4 = .ok (.iconst 1, 1) := by decide +kernel
theorem dX5_cancel_5 : decode cX5_cancel 5 = .ok (.invokevirtual 177, 3) := by decide +kernel
theorem dX5_cancel_8 : decode cX5_cancel 8 = .ok (.putfield 93, 3) := by decide +kernel
theorem dX5_cancel_11 : decode cX5_cancel 11 = .ok (.aload_n 0, 1) := by decide +kernel
theorem dX5_cancel_12 : decode cX5_cancel 12 = .ok (.getfield 93, 3) := by decide +kernel
theorem dX5_cancel_15 : decode cX5_cancel 15 = .ok (.ifCond .le 5, 3) := by decide +kernel
theorem dX5_cancel_18 : decode cX5_cancel 18 = .ok (.iconst 0, 1) := by decide +kernel
theorem dX5_cancel_19 : decode cX5_cancel 19 = .ok (.ireturn, 1) := by decide +kernel
theorem dX5_cancel_20 : decode cX5_cancel 20 = .ok (.aload_n 0, 1) := by decide +kernel
theorem dX5_cancel_21 : decode cX5_cancel 21 = .ok (.getfield 48, 3) := by decide +kernel
theorem dX5_cancel_24 : decode cX5_cancel 24 = .ok (.iload_n 2, 1) := by decide +kernel
theorem dX5_cancel_25 : decode cX5_cancel 25 = .ok (.iaload, 1) := by decide +kernel
theorem dX5_cancel_26 : decode cX5_cancel 26 = .ok (.istore_n 3, 1) := by decide +kernel
theorem dX5_cancel_27 : decode cX5_cancel 27 = .ok (.aload_n 0, 1) := by decide +kernel
theorem dX5_cancel_28 : decode cX5_cancel 28 = .ok (.iload_n 2, 1) := by decide +kernel
theorem dX5_cancel_29 : decode cX5_cancel 29 = .ok (.invokevirtual 153, 3) := by decide +kernel
theorem dX5_cancel_32 : decode cX5_cancel 32 = .ok (.iload_n 3, 1) := by decide +kernel
theorem dX5_cancel_33 : decode cX5_cancel 33 = .ok (.ireturn, 1) := by decide +kernel
set_option maxRecDepth 20000 in
theorem ggX5_reduce_X5_refusal : GoodIn wsX5_reduce wsX5_refusal := goodIn_r _ [8, 9, 10, 11, 12, 7, 13, 14, 15, 16, 17, 18, 19, 20, 21, 34, 35, 36, 37, 38, 39, 40, 41, 42, 43, 44, 45, 46, 47, 48, 49, 50, 51, 52, 53, 54, 55, 56, 57, 58, 59, 60, 61, 62, 63, 64, 65] (by decide +kernel) (by decide +kernel)
set_option maxRecDepth 20000 in
theorem gX5_reduce_X5_refusal : GoodIn wsX5_reduce (wsV RX5 177 RX5 yX5_refusal wsX5_refusal) := goodIn_app (goodIn_of _ (by decide +kernel)) ggX5_reduce_X5_refusal
set_option maxRecDepth 20000 in
theorem ggX5_reduce_X5_free : GoodIn wsX5_reduce wsX5_free := goodIn_r _ [25, 10, 26, 27, 28, 29, 30, 31, 32, 7, 33, 34, 35, 36, 37, 38, 39, 40, 41, 42, 43, 44, 45, 46, 47, 48, 49, 50, 51, 52, 53, 54, 55, 56, 57, 58, 59, 60, 61, 62, 63, 64, 65] (by decide +kernel) (by decide +kernel)
set_option maxRecDepth 20000 in
theorem gX5_reduce_X5_free : GoodIn wsX5_reduce (wsV RX5 128 RX5 yX5_free wsX5_free) := goodIn_app (goodIn_of _ (by decide +kernel)) ggX5_reduce_X5_free
theorem dX5_reduce_0 : decode cX5_reduce 0 = .ok (.aload_n 0, 1) := by decide +kernel
theorem dX5_reduce_1 : decode cX5_reduce 1 = .ok (.aload_n 0, 1) := by decide +kernel
theorem dX5_reduce_2 : decode cX5_reduce 2 = .ok (.iload_n 1, 1) := by decide +kernel
theorem dX5_reduce_3 : decode cX5_reduce 3 = .ok (.iload_n 2, 1) := by decide +kernel
theorem dX5_reduce_4 : decode cX5_reduce 4 = .ok (.iload_n 3, 1) := by decide +kernel
theorem dX5_reduce_5 : decode cX5_reduce 5 = .ok (.iconst 1, 1) := by decide +kernel
theorem dX5_reduce_6 : decode cX5_reduce 6 = .ok (.if_icmp .lt 7, 3) := by decide +kernel
theorem dX5_reduce_9 : decode cX5_reduce 9 = .ok (.iconst 1, 1) := by decide +kernel
theorem dX5_reduce_10 : decode cX5_reduce 10 = .ok (.goto 4, 3) := by decide +kernel
theorem dX5_reduce_13 : decode cX5_reduce 13 = .ok (.iconst 0, 1) := by decide +kernel
theorem dX5_reduce_14 : decode cX5_reduce 14 = .ok (.invokevirtual 177, 3) := by decide +kernel
theorem dX5_reduce_17 : decode cX5_reduce 17 = .ok (.putfield 93, 3) := by decide +kernel
theorem dX5_reduce_20 : decode cX5_reduce 20 = .ok (.aload_n 0, 1) := by decide +kernel
theorem dX5_reduce_21 : decode cX5_reduce 21 = .ok (.aload_n 0, 1) := by decide +kernel
theorem dX5_reduce_22 : decode cX5_reduce 22 = .ok (.getfield 93, 3) := by decide +kernel
theorem dX5_reduce_25 : decode cX5_reduce 25 = .ok (.ifCond .ne 17, 3) := by decide +kernel
theorem dX5_reduce_28 : decode cX5_reduce 28 = .ok (.aload_n 0, 1) := by decide +kernel
theorem dX5_reduce_29 : decode cX5_reduce 29 = .ok (.getfield 48, 3) := by decide +kernel
theorem dX5_reduce_32 : decode cX5_reduce 32 = .ok (.iload_n 2, 1) := by decide +kernel
theorem dX5_reduce_33 : decode cX5_reduce 33 = .ok (.iaload, 1) := by decide +kernel
theorem dX5_reduce_34 : decode cX5_reduce 34 = .ok (.iload_n 3, 1) := by decide +kernel
theorem dX5_reduce_35 : decode cX5_reduce 35 = .ok (.if_icmp .gt 7, 3) := by decide +kernel
theorem dX5_reduce_38 : decode cX5_reduce 38 = .ok (.iconst 3, 1) := by decide +kernel
theorem dX5_reduce_39 : decode cX5_reduce 39 = .ok (.goto 7, 3) := by decide +kernel
theorem dX5_reduce_42 : decode cX5_reduce 42 = .ok (.aload_n 0, 1) := by decide +kernel
theorem dX5_reduce_43 : decode cX5_reduce 43 = .ok (.getfield 93, 3) := by decide +kernel
theorem dX5_reduce_46 : decode cX5_reduce 46 = .ok (.putfield 93, 3) := by decide +kernel
theorem dX5_reduce_49 : decode cX5_reduce 49 = .ok (.aload_n 0, 1) := by decide +kernel
theorem dX5_reduce_50 : decode cX5_reduce 50 = .ok (.getfield 93, 3) := by decide +kernel
theorem dX5_reduce_53 : decode cX5_reduce 53 = .ok (.ifCond .le 5, 3) := by decide +kernel
theorem dX5_reduce_56 : decode cX5_reduce 56 = .ok (.iconst 0, 1) := by decide +kernel
theorem dX5_reduce_57 : decode cX5_reduce 57 = .ok (.ireturn, 1) := by decide +kernel
theorem dX5_reduce_58 : decode cX5_reduce 58 = .ok (.aload_n 0, 1) := by decide +kernel
theorem dX5_reduce_59 : decode cX5_reduce 59 = .ok (.iload_n 2, 1) := by decide +kernel
theorem dX5_reduce_60 : decode cX5_reduce 60 = .ok (.iload_n 3, 1) := by decide +kernel
theorem dX5_reduce_61 : decode cX5_reduce 61 = .ok (.invokevirtual 128, 3) := by decide +kernel
theorem dX5_reduce_64 : decode cX5_reduce 64 = .ok (.aload_n 0, 1) := by decide +kernel
theorem dX5_reduce_65 : decode cX5_reduce 65 = .ok (.getfield 48, 3) := by decide +kernel
theorem dX5_reduce_68 : decode cX5_reduce 68 = .ok (.iload_n 2, 1) := by decide +kernel
theorem dX5_reduce_69 : decode cX5_reduce 69 = .ok (.dup2, 1) := by decide +kernel
theorem dX5_reduce_70 : decode cX5_reduce 70 = .ok (.iaload, 1) := by decide +kernel
theorem dX5_reduce_71 : decode cX5_reduce 71 = .ok (.iload_n 3, 1) := by decide +kernel
theorem dX5_reduce_72 : decode cX5_reduce 72 = .ok (.isub, 1) := by decide +kernel
theorem dX5_reduce_73 : decode cX5_reduce 73 = .ok (.iastore, 1) := by decide +kernel
theorem dX5_reduce_74 : decode cX5_reduce 74 = .ok (.aload_n 0, 1) := by decide +kernel
theorem dX5_reduce_75 : decode cX5_reduce 75 = .ok (.getfield 51, 3) := by decide +kernel
theorem dX5_reduce_78 : decode cX5_reduce 78 = .ok (.iload_n 2, 1) := by decide +kernel
theorem dX5_reduce_79 : decode cX5_reduce 79 = .ok (.aload_n 0, 1) := by decide +kernel
theorem dX5_reduce_80 : decode cX5_reduce 80 = .ok (.getfield 51, 3) := by decide +kernel
theorem dX5_reduce_83 : decode cX5_reduce 83 = .ok (.iload_n 2, 1) := by decide +kernel
theorem dX5_reduce_84 : decode cX5_reduce 84 = .ok (.iaload, 1) := by decide +kernel
theorem dX5_reduce_85 : decode cX5_reduce 85 = .ok (.aload_n 0, 1) := by decide +kernel
theorem dX5_reduce_86 : decode cX5_reduce 86 = .ok (.getfield 48, 3) := by decide +kernel
theorem dX5_reduce_89 : decode cX5_reduce 89 = .ok (.iload_n 2, 1) := by decide +kernel
theorem dX5_reduce_90 : decode cX5_reduce 90 = .ok (.iaload, 1) := by decide +kernel
theorem dX5_reduce_91 : decode cX5_reduce 91 = .ok (.if_icmp .le 12, 3) := by decide +kernel
theorem dX5_reduce_94 : decode cX5_reduce 94 = .ok (.aload_n 0, 1) := by decide +kernel
theorem dX5_reduce_95 : decode cX5_reduce 95 = .ok (.getfield 48, 3) := by decide +kernel
theorem dX5_reduce_98 : decode cX5_reduce 98 = .ok (.iload_n 2, 1) := by decide +kernel
theorem dX5_reduce_99 : decode cX5_reduce 99 = .ok (.iaload, 1) := by decide +kernel
theorem dX5_reduce_100 : decode cX5_reduce 100 = .ok (.goto 9, 3) := by decide +kernel
theorem dX5_reduce_103 : decode cX5_reduce 103 = .ok (.aload_n 0, 1) := by decide +kernel
theorem dX5_reduce_104 : decode cX5_reduce 104 = .ok (.getfield 51, 3) := by decide +kernel
theorem dX5_reduce_107 : decode cX5_reduce 107 = .ok (.iload_n 2, 1) := by decide +kernel
theorem dX5_reduce_108 : decode cX5_reduce 108 = .ok (.iaload, 1) := by decide +kernel
theorem dX5_reduce_109 : decode cX5_reduce 109 = .ok (.iastore, 1) := by decide +kernel
theorem dX5_reduce_110 : decode cX5_reduce 110 = .ok (.aload_n 0, 1) := by decide +kernel
theorem dX5_reduce_111 : decode cX5_reduce 111 = .ok (.getfield 48, 3) := by decide +kernel
theorem dX5_reduce_114 : decode cX5_reduce 114 = .ok (.iload_n 2, 1) := by decide +kernel
theorem dX5_reduce_115 : decode cX5_reduce 115 = .ok (.iaload, 1) := by decide +kernel
theorem dX5_reduce_116 : decode cX5_reduce 116 = .ok (.ireturn, 1) := by decide +kernel
set_option maxRecDepth 20000 in
theorem ggX5_until_X5_refusal : GoodIn wsX5_until wsX5_refusal := goodIn_r _ [8, 9, 10, 11, 12, 7, 13, 14, 15, 16, 17, 18, 19, 20, 21, 22, 23, 24, 25, 26, 27, 28, 29, 30, 31, 32, 33, 34, 35, 36, 37, 38, 39, 40, 41, 42, 43, 44, 45, 46, 47, 48, 49, 50, 51, 52, 53] (by decide +kernel) (by decide +kernel)
set_option maxRecDepth 20000 in
theorem gX5_until_X5_refusal : GoodIn wsX5_until (wsV RX5 177 RX5 yX5_refusal wsX5_refusal) := goodIn_app (goodIn_of _ (by decide +kernel)) ggX5_until_X5_refusal
theorem dX5_until_0 : decode cX5_until 0 = .ok (.aload_n 0, 1) := by decide +kernel
theorem dX5_until_1 : decode cX5_until 1 = .ok (.aload_n 0, 1) := by decide +kernel
theorem dX5_until_2 : decode cX5_until 2 = .ok (.iload_n 1, 1) := by decide +kernel
theorem dX5_until_3 : decode cX5_until 3 = .ok (.iload_n 2, 1) := by decide +kernel
theorem dX5_until_4 : decode cX5_until 4 = .ok (.iload_n 3, 1) := by decide +kernel
theorem dX5_until_5 : decode cX5_until 5 = .ok (.ifCond .lt 7, 3) := by decide +kernel
theorem dX5_until_8 : decode cX5_until 8 = .ok (.iconst 1, 1) := by decide +kernel
theorem dX5_until_9 : decode cX5_until 9 = .ok (.goto 4, 3) := by decide +kernel
theorem dX5_until_12 : decode cX5_until 12 = .ok (.iconst 0, 1) := by decide +kernel
theorem dX5_until_13 : decode cX5_until 13 = .ok (.invokevirtual 177, 3) := by decide +kernel
theorem dX5_until_16 : decode cX5_until 16 = .ok (.putfield 93, 3) := by decide +kernel
theorem dX5_until_19 : decode cX5_until 19 = .ok (.aload_n 0, 1) := by decide +kernel
theorem dX5_until_20 : decode cX5_until 20 = .ok (.aload_n 0, 1) := by decide +kernel
theorem dX5_until_21 : decode cX5_until 21 = .ok (.getfield 93, 3) := by decide +kernel
theorem dX5_until_24 : decode cX5_until 24 = .ok (.ifCond .ne 19, 3) := by decide +kernel
theorem dX5_until_27 : decode cX5_until 27 = .ok (.iload_n 3, 1) := by decide +kernel
theorem dX5_until_28 : decode cX5_until 28 = .ok (.ifCond .eq 15, 3) := by decide +kernel
theorem dX5_until_31 : decode cX5_until 31 = .ok (.iload_n 3, 1) := by decide +kernel
theorem dX5_until_32 : decode cX5_until 32 = .ok (.aload_n 0, 1) := by decide +kernel
theorem dX5_until_33 : decode cX5_until 33 = .ok (.getfield 181, 3) := by decide +kernel
theorem dX5_until_36 : decode cX5_until 36 = .ok (.if_icmp .gt 7, 3) := by decide +kernel
theorem dX5_until_39 : decode cX5_until 39 = .ok (.iconst 3, 1) := by decide +kernel
theorem dX5_until_40 : decode cX5_until 40 = .ok (.goto 7, 3) := by decide +kernel
theorem dX5_until_43 : decode cX5_until 43 = .ok (.aload_n 0, 1) := by decide +kernel
theorem dX5_until_44 : decode cX5_until 44 = .ok (.getfield 93, 3) := by decide +kernel
theorem dX5_until_47 : decode cX5_until 47 = .ok (.putfield 93, 3) := by decide +kernel
theorem dX5_until_50 : decode cX5_until 50 = .ok (.aload_n 0, 1) := by decide +kernel
theorem dX5_until_51 : decode cX5_until 51 = .ok (.getfield 93, 3) := by decide +kernel
theorem dX5_until_54 : decode cX5_until 54 = .ok (.ifCond .ne 10, 3) := by decide +kernel
theorem dX5_until_57 : decode cX5_until 57 = .ok (.aload_n 0, 1) := by decide +kernel
theorem dX5_until_58 : decode cX5_until 58 = .ok (.getfield 60, 3) := by decide +kernel
theorem dX5_until_61 : decode cX5_until 61 = .ok (.iload_n 2, 1) := by decide +kernel
theorem dX5_until_62 : decode cX5_until 62 = .ok (.iload_n 3, 1) := by decide +kernel
theorem dX5_until_63 : decode cX5_until 63 = .ok (.iastore, 1) := by decide +kernel
theorem dX5_until_64 : decode cX5_until 64 = .ok (.return_, 1) := by decide +kernel
set_option maxRecDepth 20000 in
theorem ggX5_pass_X5_isIn : GoodIn wsX5_pass wsX5_isIn := goodIn_r _ [9] (by decide +kernel) (by decide +kernel)
set_option maxRecDepth 20000 in
theorem gX5_pass_X5_isIn : GoodIn wsX5_pass (va_wsS RX5 97 yX5_isIn wsX5_isIn) := goodIn_app (goodIn_of _ (by decide +kernel)) ggX5_pass_X5_isIn
set_option maxRecDepth 20000 in
theorem ggX5_pass_X5_isThere : GoodIn wsX5_pass wsX5_isThere := goodIn_r _ [13, 14, 34, 35, 36, 37, 38, 39, 40, 41, 42, 43, 44, 45, 46, 47, 48, 49, 50, 51, 52, 53, 54, 55, 56, 57, 58, 59, 60, 61, 62, 63, 64, 65] (by decide +kernel) (by decide +kernel)
set_option maxRecDepth 20000 in
theorem gX5_pass_X5_isThere : GoodIn wsX5_pass (wsV RX5 119 RX5 yX5_isThere wsX5_isThere) := goodIn_app (goodIn_of _ (by decide +kernel)) ggX5_pass_X5_isThere
set_option maxRecDepth 20000 in
theorem ggX5_pass_X5_cancelled : GoodIn wsX5_pass wsX5_cancelled := goodIn_r _ [18, 19, 20, 14, 21, 22, 23, 8, 24, 25, 26, 27, 28, 29, 30, 31, 32, 33, 34, 35, 36, 37, 38, 39, 40, 41, 42, 43, 44, 45, 46, 47, 48, 49, 50, 51, 52, 53, 54, 55, 56, 57, 58, 59, 60, 61, 62, 63, 64, 65] (by decide +kernel) (by decide +kernel)
set_option maxRecDepth 20000 in
theorem gX5_pass_X5_cancelled : GoodIn wsX5_pass (wsV RX5 153 RX5 yX5_cancelled wsX5_cancelled) := goodIn_app (goodIn_of _ (by decide +kernel)) ggX5_pass_X5_cancelled
theorem dX5_pass_0 : decode cX5_pass 0 = .ok (.aload_n 0, 1) := by decide +kernel
theorem dX5_pass_1 : decode cX5_pass 1 = .ok (.iload_n 1, 1) := by decide +kernel
theorem dX5_pass_2 : decode cX5_pass 2 = .ok (.iconst 0, 1) := by decide +kernel
theorem dX5_pass_3 : decode cX5_pass 3 = .ok (.ldc 111, 2) := by decide +kernel
theorem dX5_pass_5 : decode cX5_pass 5 = .ok (.invokestatic 97, 3) := by decide +kernel
theorem dX5_pass_8 : decode cX5_pass 8 = .ok (.ifCond .eq 7, 3) := by decide +kernel
theorem dX5_pass_11 : decode cX5_pass 11 = .ok (.iconst 0, 1) := by decide +kernel
theorem dX5_pass_12 : decode cX5_pass 12 = .ok (.goto 4, 3) := by decide +kernel
theorem dX5_pass_15 : decode cX5_pass 15 = .ok (.iconst 1, 1) := by decide +kernel
theorem dX5_pass_16 : decode cX5_pass 16 = .ok (.putfield 93, 3) := by decide +kernel
theorem dX5_pass_19 : decode cX5_pass 19 = .ok (.aload_n 0, 1) := by decide +kernel
theorem dX5_pass_20 : decode cX5_pass 20 = .ok (.getfield 93, 3) := by decide +kernel
theorem dX5_pass_23 : decode cX5_pass 23 = .ok (.ifCond .le 5, 3) := by decide +kernel
theorem dX5_pass_26 : decode cX5_pass 26 = .ok (.iconst 0, 1) := by decide +kernel
theorem dX5_pass_27 : decode cX5_pass 27 = .ok (.ireturn, 1) := by decide +kernel
theorem dX5_pass_28 : decode cX5_pass 28 = .ok (.aload_n 0, 1) := by decide +kernel
theorem dX5_pass_29 : decode cX5_pass 29 = .ok (.dup, 1) := by decide +kernel
theorem dX5_pass_30 : decode cX5_pass 30 = .ok (.getfield 181, 3) := by decide +kernel
theorem dX5_pass_33 : decode cX5_pass 33 = .ok (.iload_n 1, 1) := by decide +kernel
theorem dX5_pass_34 : decode cX5_pass 34 = .ok (.iadd, 1) := by decide +kernel
theorem dX5_pass_35 : decode cX5_pass 35 = .ok (.putfield 181, 3) := by decide +kernel
theorem dX5_pass_38 : decode cX5_pass 38 = .ok (.iconst 0, 1) := by decide +kernel
theorem dX5_pass_39 : decode cX5_pass 39 = .ok (.istore_n 2, 1) := by decide +kernel
theorem dX5_pass_40 : decode cX5_pass 40 = .ok (.iconst 0, 1) := by decide +kernel
theorem dX5_pass_41 : decode cX5_pass 41 = .ok (.istore_n 3, 1) := by decide +kernel
theorem dX5_pass_42 : decode cX5_pass 42 = .ok (.iload_n 3, 1) := by decide +kernel
theorem dX5_pass_43 : decode cX5_pass 43 = .ok (.aload_n 0, 1) := by decide +kernel
theorem dX5_pass_44 : decode cX5_pass 44 = .ok (.getfield 116, 3) := by decide +kernel
theorem dX5_pass_47 : decode cX5_pass 47 = .ok (.if_icmp .ge 47, 3) := by decide +kernel
theorem dX5_pass_50 : decode cX5_pass 50 = .ok (.aload_n 0, 1) := by decide +kernel
theorem dX5_pass_51 : decode cX5_pass 51 = .ok (.iload_n 3, 1) := by decide +kernel
theorem dX5_pass_52 : decode cX5_pass 52 = .ok (.invokevirtual 119, 3) := by decide +kernel
theorem dX5_pass_55 : decode cX5_pass 55 = .ok (.ifCond .eq 33, 3) := by decide +kernel
theorem dX5_pass_58 : decode cX5_pass 58 = .ok (.aload_n 0, 1) := by decide +kernel
theorem dX5_pass_59 : decode cX5_pass 59 = .ok (.getfield 60, 3) := by decide +kernel
theorem dX5_pass_62 : decode cX5_pass 62 = .ok (.iload_n 3, 1) := by decide +kernel
theorem dX5_pass_63 : decode cX5_pass 63 = .ok (.iaload, 1) := by decide +kernel
theorem dX5_pass_64 : decode cX5_pass 64 = .ok (.ifCond .le 24, 3) := by decide +kernel
theorem dX5_pass_67 : decode cX5_pass 67 = .ok (.aload_n 0, 1) := by decide +kernel
theorem dX5_pass_68 : decode cX5_pass 68 = .ok (.getfield 60, 3) := by decide +kernel
theorem dX5_pass_71 : decode cX5_pass 71 = .ok (.iload_n 3, 1) := by decide +kernel
theorem dX5_pass_72 : decode cX5_pass 72 = .ok (.iaload, 1) := by decide +kernel
theorem dX5_pass_73 : decode cX5_pass 73 = .ok (.aload_n 0, 1) := by decide +kernel
theorem dX5_pass_74 : decode cX5_pass 74 = .ok (.getfield 181, 3) := by decide +kernel
theorem dX5_pass_77 : decode cX5_pass 77 = .ok (.if_icmp .gt 11, 3) := by decide +kernel
theorem dX5_pass_80 : decode cX5_pass 80 = .ok (.aload_n 0, 1) := by decide +kernel
theorem dX5_pass_81 : decode cX5_pass 81 = .ok (.iload_n 3, 1) := by decide +kernel
theorem dX5_pass_82 : decode cX5_pass 82 = .ok (.invokevirtual 153, 3) := by decide +kernel
theorem dX5_pass_85 : decode cX5_pass 85 = .ok (.iinc 2 1, 3) := by decide +kernel
theorem dX5_pass_88 : decode cX5_pass 88 = .ok (.iinc 3 1, 3) := by decide +kernel
theorem dX5_pass_91 : decode cX5_pass 91 = .ok (.goto (-49), 3) := by decide +kernel
theorem dX5_pass_94 : decode cX5_pass 94 = .ok (.iload_n 2, 1) := by decide +kernel
theorem dX5_pass_95 : decode cX5_pass 95 = .ok (.ireturn, 1) := by decide +kernel
set_option maxRecDepth 20000 in
theorem ggX5_best_X5_isSymbol : GoodIn wsX5_best wsX5_isSymbol := goodIn_r _ [6, 7, 8, 5, 9] (by decide +kernel) (by decide +kernel)
set_option maxRecDepth 20000 in
theorem gX5_best_X5_isSymbol : GoodIn wsX5_best (va_wsS RX5 108 yX5_isSymbol wsX5_isSymbol) := goodIn_app (goodIn_of _ (by decide +kernel)) ggX5_best_X5_isSymbol
set_option maxRecDepth 20000 in
theorem ggX5_best_X5_isIn : GoodIn wsX5_best wsX5_isIn := goodIn_r _ [9] (by decide +kernel) (by decide +kernel)
set_option maxRecDepth 20000 in
theorem gX5_best_X5_isIn : GoodIn wsX5_best (va_wsS RX5 97 yX5_isIn wsX5_isIn) := goodIn_app (goodIn_of _ (by decide +kernel)) ggX5_best_X5_isIn
set_option maxRecDepth 20000 in
theorem ggX5_best_X5_first : GoodIn wsX5_best wsX5_first := goodIn_r _ [13, 14, 2, 15, 16, 17, 18, 5, 19, 20, 21, 22, 23, 24, 25, 26, 27, 28, 29, 30, 31, 32, 33, 34, 35, 36, 37, 38, 39, 40, 41, 42, 43, 44, 45, 46, 47, 48, 49, 50, 51, 52, 53, 54, 55, 56, 57] (by decide +kernel) (by decide +kernel)
set_option maxRecDepth 20000 in
theorem gX5_best_X5_first : GoodIn wsX5_best (wsV RX5 135 RX5 yX5_first wsX5_first) := goodIn_app (goodIn_of _ (by decide +kernel)) ggX5_best_X5_first
theorem dX5_best_0 : decode cX5_best 0 = .ok (.iload_n 1, 1) := by decide +kernel
theorem dX5_best_1 : decode cX5_best 1 = .ok (.invokestatic 108, 3) := by decide +kernel
theorem dX5_best_4 : decode cX5_best 4 = .ok (.ifCond .eq 21, 3) := by decide +kernel
theorem dX5_best_7 : decode cX5_best 7 = .ok (.iload_n 2, 1) := by decide +kernel
theorem dX5_best_8 : decode cX5_best 8 = .ok (.iconst 0, 1) := by decide +kernel
theorem dX5_best_9 : decode cX5_best 9 = .ok (.iconst 1, 1) := by decide +kernel
theorem dX5_best_10 : decode cX5_best 10 = .ok (.invokestatic 97, 3) := by decide +kernel
theorem dX5_best_13 : decode cX5_best 13 = .ok (.ifCond .eq 12, 3) := by decide +kernel
theorem dX5_best_16 : decode cX5_best 16 = .ok (.aload_n 0, 1) := by decide +kernel
theorem dX5_best_17 : decode cX5_best 17 = .ok (.iload_n 1, 1) := by decide +kernel
theorem dX5_best_18 : decode cX5_best 18 = .ok (.iload_n 2, 1) := by decide +kernel
theorem dX5_best_19 : decode cX5_best 19 = .ok (.invokevirtual 135, 3) := by decide +kernel
theorem dX5_best_22 : decode cX5_best 22 = .ok (.goto 4, 3) := by decide +kernel
theorem dX5_best_25 : decode cX5_best 25 = .ok (.iconst (-1), 1) := by decide +kernel
theorem dX5_best_26 : decode cX5_best 26 = .ok (.istore_n 3, 1) := by decide +kernel
theorem dX5_best_27 : decode cX5_best 27 = .ok (.aload_n 0, 1) := by decide +kernel
theorem dX5_best_28 : decode cX5_best 28 = .ok (.iload_n 1, 1) := by decide +kernel
theorem dX5_best_29 : decode cX5_best 29 = .ok (.invokestatic 108, 3) := by decide +kernel
theorem dX5_best_32 : decode cX5_best 32 = .ok (.ifCond .ne 7, 3) := by decide +kernel
theorem dX5_best_35 : decode cX5_best 35 = .ok (.iconst 1, 1) := by decide +kernel
theorem dX5_best_36 : decode cX5_best 36 = .ok (.goto 26, 3) := by decide +kernel
theorem dX5_best_39 : decode cX5_best 39 = .ok (.iload_n 2, 1) := by decide +kernel
theorem dX5_best_40 : decode cX5_best 40 = .ok (.iconst 0, 1) := by decide +kernel
theorem dX5_best_41 : decode cX5_best 41 = .ok (.iconst 1, 1) := by decide +kernel
theorem dX5_best_42 : decode cX5_best 42 = .ok (.invokestatic 97, 3) := by decide +kernel
theorem dX5_best_45 : decode cX5_best 45 = .ok (.ifCond .ne 7, 3) := by decide +kernel
theorem dX5_best_48 : decode cX5_best 48 = .ok (.iconst 2, 1) := by decide +kernel
theorem dX5_best_49 : decode cX5_best 49 = .ok (.goto 13, 3) := by decide +kernel
theorem dX5_best_52 : decode cX5_best 52 = .ok (.iload_n 3, 1) := by decide +kernel
theorem dX5_best_53 : decode cX5_best 53 = .ok (.iconst (-1), 1) := by decide +kernel
theorem dX5_best_54 : decode cX5_best 54 = .ok (.if_icmp .ne 7, 3) := by decide +kernel
theorem dX5_best_57 : decode cX5_best 57 = .ok (.iconst 3, 1) := by decide +kernel
theorem dX5_best_58 : decode cX5_best 58 = .ok (.goto 4, 3) := by decide +kernel
theorem dX5_best_61 : decode cX5_best 61 = .ok (.iconst 0, 1) := by decide +kernel
theorem dX5_best_62 : decode cX5_best 62 = .ok (.putfield 93, 3) := by decide +kernel
theorem dX5_best_65 : decode cX5_best 65 = .ok (.aload_n 0, 1) := by decide +kernel
theorem dX5_best_66 : decode cX5_best 66 = .ok (.getfield 93, 3) := by decide +kernel
theorem dX5_best_69 : decode cX5_best 69 = .ok (.ifCond .le 7, 3) := by decide +kernel
theorem dX5_best_72 : decode cX5_best 72 = .ok (.iconst 0, 1) := by decide +kernel
theorem dX5_best_73 : decode cX5_best 73 = .ok (.goto 9, 3) := by decide +kernel
theorem dX5_best_76 : decode cX5_best 76 = .ok (.aload_n 0, 1) := by decide +kernel
theorem dX5_best_77 : decode cX5_best 77 = .ok (.getfield 45, 3) := by decide +kernel
theorem dX5_best_80 : decode cX5_best 80 = .ok (.iload_n 3, 1) := by decide +kernel
theorem dX5_best_81 : decode cX5_best 81 = .ok (.iaload, 1) := by decide +kernel
theorem dX5_best_82 : decode cX5_best 82 = .ok (.ireturn, 1) := by decide +kernel
set_option maxRecDepth 20000 in
theorem ggX5_priceCount_X5_priceAt : GoodIn wsX5_priceCount wsX5_priceAt := goodIn_r _ [5, 6, 7, 8, 9, 10, 4, 11, 12, 13, 14, 15, 16, 17, 18, 19, 20, 21, 22, 23, 24, 25, 26, 27, 28, 29, 30, 31, 32, 33, 34, 35, 36, 37, 38, 39, 40, 41, 42, 43, 44, 45, 46, 47, 48, 49] (by decide +kernel) (by decide +kernel)
set_option maxRecDepth 20000 in
theorem gX5_priceCount_X5_priceAt : GoodIn wsX5_priceCount (wsV RX5 184 RX5 yX5_priceAt wsX5_priceAt) := goodIn_app (goodIn_of _ (by decide +kernel)) ggX5_priceCount_X5_priceAt
theorem dX5_priceCount_0 : decode cX5_priceCount 0 = .ok (.iconst 0, 1) := by decide +kernel
theorem dX5_priceCount_1 : decode cX5_priceCount 1 = .ok (.istore_n 3, 1) := by decide +kernel
theorem dX5_priceCount_2 : decode cX5_priceCount 2 = .ok (.aload_n 0, 1) := by decide +kernel
theorem dX5_priceCount_3 : decode cX5_priceCount 3 = .ok (.iload_n 1, 1) := by decide +kernel
theorem dX5_priceCount_4 : decode cX5_priceCount 4 = .ok (.iload_n 2, 1) := by decide +kernel
theorem dX5_priceCount_5 : decode cX5_priceCount 5 = .ok (.iload_n 3, 1) := by decide +kernel
theorem dX5_priceCount_6 : decode cX5_priceCount 6 = .ok (.invokevirtual 184, 3) := by decide +kernel
theorem dX5_priceCount_9 : decode cX5_priceCount 9 = .ok (.iconst (-1), 1) := by decide +kernel
theorem dX5_priceCount_10 : decode cX5_priceCount 10 = .ok (.if_icmp .eq 9, 3) := by decide +kernel
theorem dX5_priceCount_13 : decode cX5_priceCount 13 = .ok (.iinc 3 1, 3) := by decide +kernel
theorem dX5_priceCount_16 : decode cX5_priceCount 16 = .ok (.goto (-14), 3) := by decide +kernel
theorem dX5_priceCount_19 : decode cX5_priceCount 19 = .ok (.iload_n 3, 1) := by decide +kernel
theorem dX5_priceCount_20 : decode cX5_priceCount 20 = .ok (.ireturn, 1) := by decide +kernel
set_option maxRecDepth 20000 in
theorem ggX5_depth_X5_isSymbol : GoodIn wsX5_depth wsX5_isSymbol := goodIn_r _ [8, 9, 10, 7, 11] (by decide +kernel) (by decide +kernel)
set_option maxRecDepth 20000 in
theorem gX5_depth_X5_isSymbol : GoodIn wsX5_depth (va_wsS RX5 108 yX5_isSymbol wsX5_isSymbol) := goodIn_app (goodIn_of _ (by decide +kernel)) ggX5_depth_X5_isSymbol
set_option maxRecDepth 20000 in
theorem ggX5_depth_X5_isIn : GoodIn wsX5_depth wsX5_isIn := goodIn_r _ [11] (by decide +kernel) (by decide +kernel)
set_option maxRecDepth 20000 in
theorem gX5_depth_X5_isIn : GoodIn wsX5_depth (va_wsS RX5 97 yX5_isIn wsX5_isIn) := goodIn_app (goodIn_of _ (by decide +kernel)) ggX5_depth_X5_isIn
set_option maxRecDepth 20000 in
theorem ggX5_depth_X5_priceCount : GoodIn wsX5_depth wsX5_priceCount := goodIn_r _ [15, 16, 17, 18, 7, 19, 2, 3, 20, 21, 22, 23, 24, 25, 26, 27, 28, 29, 30, 31, 32, 33, 34, 35, 36, 37, 38, 39, 40, 41, 42, 43, 44, 45, 46, 47, 48, 49, 50, 51, 52, 53, 54, 55, 56, 57, 58, 59, 60, 61] (by decide +kernel) (by decide +kernel)
set_option maxRecDepth 20000 in
theorem gX5_depth_X5_priceCount : GoodIn wsX5_depth (wsV RX5 188 RX5 yX5_priceCount wsX5_priceCount) := goodIn_app (goodIn_of _ (by decide +kernel)) ggX5_depth_X5_priceCount
set_option maxRecDepth 20000 in
theorem ggX5_depth_X5_rests : GoodIn wsX5_depth wsX5_rests := goodIn_r _ [23, 24, 25, 26, 30, 31, 32, 33, 34, 35, 36, 37, 38, 39, 40, 41, 42, 43, 44, 45, 46, 47, 48, 49, 50, 51, 52, 53, 54, 55, 56, 57, 58, 59, 60, 61] (by decide +kernel) (by decide +kernel)
set_option maxRecDepth 20000 in
theorem gX5_depth_X5_rests : GoodIn wsX5_depth (wsV RX5 122 RX5 yX5_rests wsX5_rests) := goodIn_app (goodIn_of _ (by decide +kernel)) ggX5_depth_X5_rests
theorem dX5_depth_0 : decode cX5_depth 0 = .ok (.aload_n 0, 1) := by decide +kernel
theorem dX5_depth_1 : decode cX5_depth 1 = .ok (.iload_n 1, 1) := by decide +kernel
theorem dX5_depth_2 : decode cX5_depth 2 = .ok (.invokestatic 108, 3) := by decide +kernel
theorem dX5_depth_5 : decode cX5_depth 5 = .ok (.ifCond .ne 7, 3) := by decide +kernel
theorem dX5_depth_8 : decode cX5_depth 8 = .ok (.iconst 1, 1) := by decide +kernel
theorem dX5_depth_9 : decode cX5_depth 9 = .ok (.goto 28, 3) := by decide +kernel
theorem dX5_depth_12 : decode cX5_depth 12 = .ok (.iload_n 2, 1) := by decide +kernel
theorem dX5_depth_13 : decode cX5_depth 13 = .ok (.iconst 0, 1) := by decide +kernel
theorem dX5_depth_14 : decode cX5_depth 14 = .ok (.iconst 1, 1) := by decide +kernel
theorem dX5_depth_15 : decode cX5_depth 15 = .ok (.invokestatic 97, 3) := by decide +kernel
theorem dX5_depth_18 : decode cX5_depth 18 = .ok (.ifCond .eq 14, 3) := by decide +kernel
theorem dX5_depth_21 : decode cX5_depth 21 = .ok (.iload_n 3, 1) := by decide +kernel
theorem dX5_depth_22 : decode cX5_depth 22 = .ok (.iconst 0, 1) := by decide +kernel
theorem dX5_depth_23 : decode cX5_depth 23 = .ok (.sipush 10000, 3) := by decide +kernel
theorem dX5_depth_26 : decode cX5_depth 26 = .ok (.invokestatic 97, 3) := by decide +kernel
theorem dX5_depth_29 : decode cX5_depth 29 = .ok (.ifCond .ne 7, 3) := by decide +kernel
theorem dX5_depth_32 : decode cX5_depth 32 = .ok (.iconst 2, 1) := by decide +kernel
theorem dX5_depth_33 : decode cX5_depth 33 = .ok (.goto 4, 3) := by decide +kernel
theorem dX5_depth_36 : decode cX5_depth 36 = .ok (.iconst 0, 1) := by decide +kernel
theorem dX5_depth_37 : decode cX5_depth 37 = .ok (.putfield 93, 3) := by decide +kernel
theorem dX5_depth_40 : decode cX5_depth 40 = .ok (.aload_n 0, 1) := by decide +kernel
theorem dX5_depth_41 : decode cX5_depth 41 = .ok (.getfield 93, 3) := by decide +kernel
theorem dX5_depth_44 : decode cX5_depth 44 = .ok (.ifCond .le 5, 3) := by decide +kernel
theorem dX5_depth_47 : decode cX5_depth 47 = .ok (.iconst 0, 1) := by decide +kernel
theorem dX5_depth_48 : decode cX5_depth 48 = .ok (.ireturn, 1) := by decide +kernel
theorem dX5_depth_49 : decode cX5_depth 49 = .ok (.iload_n 3, 1) := by decide +kernel
theorem dX5_depth_50 : decode cX5_depth 50 = .ok (.ifCond .ne 10, 3) := by decide +kernel
theorem dX5_depth_53 : decode cX5_depth 53 = .ok (.aload_n 0, 1) := by decide +kernel
theorem dX5_depth_54 : decode cX5_depth 54 = .ok (.iload_n 1, 1) := by decide +kernel
theorem dX5_depth_55 : decode cX5_depth 55 = .ok (.iload_n 2, 1) := by decide +kernel
theorem dX5_depth_56 : decode cX5_depth 56 = .ok (.invokevirtual 188, 3) := by decide +kernel
theorem dX5_depth_59 : decode cX5_depth 59 = .ok (.ireturn, 1) := by decide +kernel
theorem dX5_depth_60 : decode cX5_depth 60 = .ok (.iconst 0, 1) := by decide +kernel
theorem dX5_depth_61 : decode cX5_depth 61 = .ok (.istore 4, 2) := by decide +kernel
theorem dX5_depth_63 : decode cX5_depth 63 = .ok (.iconst 0, 1) := by decide +kernel
theorem dX5_depth_64 : decode cX5_depth 64 = .ok (.istore 5, 2) := by decide +kernel
theorem dX5_depth_66 : decode cX5_depth 66 = .ok (.iload 5, 2) := by decide +kernel
theorem dX5_depth_68 : decode cX5_depth 68 = .ok (.aload_n 0, 1) := by decide +kernel
theorem dX5_depth_69 : decode cX5_depth 69 = .ok (.getfield 116, 3) := by decide +kernel
theorem dX5_depth_72 : decode cX5_depth 72 = .ok (.if_icmp .ge 48, 3) := by decide +kernel
theorem dX5_depth_75 : decode cX5_depth 75 = .ok (.aload_n 0, 1) := by decide +kernel
theorem dX5_depth_76 : decode cX5_depth 76 = .ok (.iload 5, 2) := by decide +kernel
theorem dX5_depth_78 : decode cX5_depth 78 = .ok (.iload_n 1, 1) := by decide +kernel
theorem dX5_depth_79 : decode cX5_depth 79 = .ok (.iload_n 2, 1) := by decide +kernel
theorem dX5_depth_80 : decode cX5_depth 80 = .ok (.invokevirtual 122, 3) := by decide +kernel
theorem dX5_depth_83 : decode cX5_depth 83 = .ok (.ifCond .eq 27, 3) := by decide +kernel
theorem dX5_depth_86 : decode cX5_depth 86 = .ok (.aload_n 0, 1) := by decide +kernel
theorem dX5_depth_87 : decode cX5_depth 87 = .ok (.getfield 45, 3) := by decide +kernel
theorem dX5_depth_90 : decode cX5_depth 90 = .ok (.iload 5, 2) := by decide +kernel
theorem dX5_depth_92 : decode cX5_depth 92 = .ok (.iaload, 1) := by decide +kernel
theorem dX5_depth_93 : decode cX5_depth 93 = .ok (.iload_n 3, 1) := by decide +kernel
theorem dX5_depth_94 : decode cX5_depth 94 = .ok (.if_icmp .ne 16, 3) := by decide +kernel
theorem dX5_depth_97 : decode cX5_depth 97 = .ok (.iload 4, 2) := by decide +kernel
theorem dX5_depth_99 : decode cX5_depth 99 = .ok (.aload_n 0, 1) := by decide +kernel
theorem dX5_depth_100 : decode cX5_depth 100 = .ok (.getfield 51, 3) := by decide +kernel
theorem dX5_depth_103 : decode cX5_depth 103 = .ok (.iload 5, 2) := by decide +kernel
theorem dX5_depth_105 : decode cX5_depth 105 = .ok (.iaload, 1) := by decide +kernel
theorem dX5_depth_106 : decode cX5_depth 106 = .ok (.iadd, 1) := by decide +kernel
theorem dX5_depth_107 : decode cX5_depth 107 = .ok (.goto 5, 3) := by decide +kernel
theorem dX5_depth_110 : decode cX5_depth 110 = .ok (.iload 4, 2) := by decide +kernel
theorem dX5_depth_112 : decode cX5_depth 112 = .ok (.istore 4, 2) := by decide +kernel
theorem dX5_depth_114 : decode cX5_depth 114 = .ok (.iinc 5 1, 3) := by decide +kernel
theorem dX5_depth_117 : decode cX5_depth 117 = .ok (.goto (-51), 3) := by decide +kernel
theorem dX5_depth_120 : decode cX5_depth 120 = .ok (.iload 4, 2) := by decide +kernel
theorem dX5_depth_122 : decode cX5_depth 122 = .ok (.ireturn, 1) := by decide +kernel
set_option maxRecDepth 20000 in
theorem ggX5_priceAt_X5_rests : GoodIn wsX5_priceAt wsX5_rests := goodIn_r _ [7, 8, 9, 10, 14, 15, 16, 17, 18, 19, 20, 21, 22, 23, 24, 25, 26, 27, 28, 29, 30, 31, 32, 33, 34, 35, 36, 37, 38, 39, 40, 41, 42, 43, 44, 45] (by decide +kernel) (by decide +kernel)
set_option maxRecDepth 20000 in
theorem gX5_priceAt_X5_rests : GoodIn wsX5_priceAt (wsV RX5 122 RX5 yX5_rests wsX5_rests) := goodIn_app (goodIn_of _ (by decide +kernel)) ggX5_priceAt_X5_rests
set_option maxRecDepth 20000 in
theorem ggX5_priceAt_X5_isBetter : GoodIn wsX5_priceAt wsX5_isBetter := goodIn_r _ [13] (by decide +kernel) (by decide +kernel)
set_option maxRecDepth 20000 in
theorem gX5_priceAt_X5_isBetter : GoodIn wsX5_priceAt (va_wsS RX5 125 yX5_isBetter wsX5_isBetter) := goodIn_app (goodIn_of _ (by decide +kernel)) ggX5_priceAt_X5_isBetter
theorem dX5_priceAt_0 : decode cX5_priceAt 0 = .ok (.iconst (-1), 1) := by decide +kernel
theorem dX5_priceAt_1 : decode cX5_priceAt 1 = .ok (.istore 4, 2) := by decide +kernel
theorem dX5_priceAt_3 : decode cX5_priceAt 3 = .ok (.iconst 0, 1) := by decide +kernel
theorem dX5_priceAt_4 : decode cX5_priceAt 4 = .ok (.istore 5, 2) := by decide +kernel
theorem dX5_priceAt_6 : decode cX5_priceAt 6 = .ok (.iload 5, 2) := by decide +kernel
theorem dX5_priceAt_8 : decode cX5_priceAt 8 = .ok (.iload_n 3, 1) := by decide +kernel
theorem dX5_priceAt_9 : decode cX5_priceAt 9 = .ok (.if_icmp .gt 123, 3) := by decide +kernel
theorem dX5_priceAt_12 : decode cX5_priceAt 12 = .ok (.iconst (-1), 1) := by decide +kernel
theorem dX5_priceAt_13 : decode cX5_priceAt 13 = .ok (.istore 6, 2) := by decide +kernel
theorem dX5_priceAt_15 : decode cX5_priceAt 15 = .ok (.iconst 0, 1) := by decide +kernel
theorem dX5_priceAt_16 : decode cX5_priceAt 16 = .ok (.istore 7, 2) := by decide +kernel
theorem dX5_priceAt_18 : decode cX5_priceAt 18 = .ok (.iload 7, 2) := by decide +kernel
theorem dX5_priceAt_20 : decode cX5_priceAt 20 = .ok (.aload_n 0, 1) := by decide +kernel
theorem dX5_priceAt_21 : decode cX5_priceAt 21 = .ok (.getfield 116, 3) := by decide +kernel
theorem dX5_priceAt_24 : decode cX5_priceAt 24 = .ok (.if_icmp .ge 90, 3) := by decide +kernel
theorem dX5_priceAt_27 : decode cX5_priceAt 27 = .ok (.aload_n 0, 1) := by decide +kernel
theorem dX5_priceAt_28 : decode cX5_priceAt 28 = .ok (.iload 7, 2) := by decide +kernel
theorem dX5_priceAt_30 : decode cX5_priceAt 30 = .ok (.iload_n 1, 1) := by decide +kernel
theorem dX5_priceAt_31 : decode cX5_priceAt 31 = .ok (.iload_n 2, 1) := by decide +kernel
theorem dX5_priceAt_32 : decode cX5_priceAt 32 = .ok (.invokevirtual 122, 3) := by decide +kernel
theorem dX5_priceAt_35 : decode cX5_priceAt 35 = .ok (.ifCond .eq 29, 3) := by decide +kernel
theorem dX5_priceAt_38 : decode cX5_priceAt 38 = .ok (.iload 4, 2) := by decide +kernel
theorem dX5_priceAt_40 : decode cX5_priceAt 40 = .ok (.iconst (-1), 1) := by decide +kernel
theorem dX5_priceAt_41 : decode cX5_priceAt 41 = .ok (.if_icmp .eq 19, 3) := by decide +kernel
theorem dX5_priceAt_44 : decode cX5_priceAt 44 = .ok (.iload_n 2, 1) := by decide +kernel
theorem dX5_priceAt_45 : decode cX5_priceAt 45 = .ok (.iload 4, 2) := by decide +kernel
theorem dX5_priceAt_47 : decode cX5_priceAt 47 = .ok (.aload_n 0, 1) := by decide +kernel
theorem dX5_priceAt_48 : decode cX5_priceAt 48 = .ok (.getfield 45, 3) := by decide +kernel
theorem dX5_priceAt_51 : decode cX5_priceAt 51 = .ok (.iload 7, 2) := by decide +kernel
theorem dX5_priceAt_53 : decode cX5_priceAt 53 = .ok (.iaload, 1) := by decide +kernel
theorem dX5_priceAt_54 : decode cX5_priceAt 54 = .ok (.invokestatic 125, 3) := by decide +kernel
theorem dX5_priceAt_57 : decode cX5_priceAt 57 = .ok (.ifCond .eq 7, 3) := by decide +kernel
theorem dX5_priceAt_60 : decode cX5_priceAt 60 = .ok (.iconst 1, 1) := by decide +kernel
theorem dX5_priceAt_61 : decode cX5_priceAt 61 = .ok (.goto 4, 3) := by decide +kernel
theorem dX5_priceAt_64 : decode cX5_priceAt 64 = .ok (.iconst 0, 1) := by decide +kernel
theorem dX5_priceAt_65 : decode cX5_priceAt 65 = .ok (.istore 8, 2) := by decide +kernel
theorem dX5_priceAt_67 : decode cX5_priceAt 67 = .ok (.iload 8, 2) := by decide +kernel
theorem dX5_priceAt_69 : decode cX5_priceAt 69 = .ok (.ifCond .eq 35, 3) := by decide +kernel
theorem dX5_priceAt_72 : decode cX5_priceAt 72 = .ok (.iload 6, 2) := by decide +kernel
theorem dX5_priceAt_74 : decode cX5_priceAt 74 = .ok (.iconst (-1), 1) := by decide +kernel
theorem dX5_priceAt_75 : decode cX5_priceAt 75 = .ok (.if_icmp .eq 19, 3) := by decide +kernel
theorem dX5_priceAt_78 : decode cX5_priceAt 78 = .ok (.iload_n 2, 1) := by decide +kernel
theorem dX5_priceAt_79 : decode cX5_priceAt 79 = .ok (.aload_n 0, 1) := by decide +kernel
theorem dX5_priceAt_80 : decode cX5_priceAt 80 = .ok (.getfield 45, 3) := by decide +kernel
theorem dX5_priceAt_83 : decode cX5_priceAt 83 = .ok (.iload 7, 2) := by decide +kernel
theorem dX5_priceAt_85 : decode cX5_priceAt 85 = .ok (.iaload, 1) := by decide +kernel
theorem dX5_priceAt_86 : decode cX5_priceAt 86 = .ok (.iload 6, 2) := by decide +kernel
theorem dX5_priceAt_88 : decode cX5_priceAt 88 = .ok (.invokestatic 125, 3) := by decide +kernel
theorem dX5_priceAt_91 : decode cX5_priceAt 91 = .ok (.ifCond .eq 13, 3) := by decide +kernel
theorem dX5_priceAt_94 : decode cX5_priceAt 94 = .ok (.aload_n 0, 1) := by decide +kernel
theorem dX5_priceAt_95 : decode cX5_priceAt 95 = .ok (.getfield 45, 3) := by decide +kernel
theorem dX5_priceAt_98 : decode cX5_priceAt 98 = .ok (.iload 7, 2) := by decide +kernel
theorem dX5_priceAt_100 : decode cX5_priceAt 100 = .ok (.iaload, 1) := by decide +kernel
theorem dX5_priceAt_101 : decode cX5_priceAt 101 = .ok (.goto 5, 3) := by decide +kernel
theorem dX5_priceAt_104 : decode cX5_priceAt 104 = .ok (.iload 6, 2) := by decide +kernel
theorem dX5_priceAt_106 : decode cX5_priceAt 106 = .ok (.istore 6, 2) := by decide +kernel
theorem dX5_priceAt_108 : decode cX5_priceAt 108 = .ok (.iinc 7 1, 3) := by decide +kernel
theorem dX5_priceAt_111 : decode cX5_priceAt 111 = .ok (.goto (-93), 3) := by decide +kernel
theorem dX5_priceAt_114 : decode cX5_priceAt 114 = .ok (.iload 6, 2) := by decide +kernel
theorem dX5_priceAt_116 : decode cX5_priceAt 116 = .ok (.istore 4, 2) := by decide +kernel
theorem dX5_priceAt_118 : decode cX5_priceAt 118 = .ok (.iload 4, 2) := by decide +kernel
theorem dX5_priceAt_120 : decode cX5_priceAt 120 = .ok (.iconst (-1), 1) := by decide +kernel
theorem dX5_priceAt_121 : decode cX5_priceAt 121 = .ok (.if_icmp .ne 5, 3) := by decide +kernel
theorem dX5_priceAt_124 : decode cX5_priceAt 124 = .ok (.iconst (-1), 1) := by decide +kernel
theorem dX5_priceAt_125 : decode cX5_priceAt 125 = .ok (.ireturn, 1) := by decide +kernel
theorem dX5_priceAt_126 : decode cX5_priceAt 126 = .ok (.iinc 5 1, 3) := by decide +kernel
theorem dX5_priceAt_129 : decode cX5_priceAt 129 = .ok (.goto (-123), 3) := by decide +kernel
theorem dX5_priceAt_132 : decode cX5_priceAt 132 = .ok (.iload 4, 2) := by decide +kernel
theorem dX5_priceAt_134 : decode cX5_priceAt 134 = .ok (.ireturn, 1) := by decide +kernel
set_option maxRecDepth 20000 in
theorem ggX5_level_X5_isIn : GoodIn wsX5_level wsX5_isIn := goodIn_r _ [8] (by decide +kernel) (by decide +kernel)
set_option maxRecDepth 20000 in
theorem gX5_level_X5_isIn : GoodIn wsX5_level (va_wsS RX5 97 yX5_isIn wsX5_isIn) := goodIn_app (goodIn_of _ (by decide +kernel)) ggX5_level_X5_isIn
set_option maxRecDepth 20000 in
theorem ggX5_level_X5_isSymbol : GoodIn wsX5_level wsX5_isSymbol := goodIn_r _ [11, 5, 6, 7, 8] (by decide +kernel) (by decide +kernel)
set_option maxRecDepth 20000 in
theorem gX5_level_X5_isSymbol : GoodIn wsX5_level (va_wsS RX5 108 yX5_isSymbol wsX5_isSymbol) := goodIn_app (goodIn_of _ (by decide +kernel)) ggX5_level_X5_isSymbol
set_option maxRecDepth 20000 in
theorem ggX5_level_X5_priceAt : GoodIn wsX5_level wsX5_priceAt := goodIn_r _ [15, 2, 3, 16, 17, 18, 7, 19, 20, 21, 22, 23, 24, 25, 26, 27, 28, 29, 30, 31, 32, 33, 34, 35, 36, 37, 38, 39, 40, 41, 42, 43, 44, 45, 46, 47, 48, 49, 50, 51, 52, 53, 54, 55, 56, 57] (by decide +kernel) (by decide +kernel)
set_option maxRecDepth 20000 in
theorem gX5_level_X5_priceAt : GoodIn wsX5_level (wsV RX5 184 RX5 yX5_priceAt wsX5_priceAt) := goodIn_app (goodIn_of _ (by decide +kernel)) ggX5_level_X5_priceAt
set_option maxRecDepth 20000 in
theorem ggX5_level_X5_rests : GoodIn wsX5_level wsX5_rests := goodIn_r _ [19, 20, 21, 22, 26, 27, 28, 29, 30, 31, 32, 33, 34, 35, 36, 37, 38, 39, 40, 41, 42, 43, 44, 45, 46, 47, 48, 49, 50, 51, 52, 53, 54, 55, 56, 57] (by decide +kernel) (by decide +kernel)
set_option maxRecDepth 20000 in
theorem gX5_level_X5_rests : GoodIn wsX5_level (wsV RX5 122 RX5 yX5_rests wsX5_rests) := goodIn_app (goodIn_of _ (by decide +kernel)) ggX5_level_X5_rests
theorem dX5_level_0 : decode cX5_level 0 = .ok (.iload_n 2, 1) := by decide +kernel
theorem dX5_level_1 : decode cX5_level 1 = .ok (.iconst 0, 1) := by decide +kernel
theorem dX5_level_2 : decode cX5_level 2 = .ok (.iconst 1, 1) := by decide +kernel
theorem dX5_level_3 : decode cX5_level 3 = .ok (.invokestatic 97, 3) := by decide +kernel
theorem dX5_level_6 : decode cX5_level 6 = .ok (.istore 5, 2) := by decide +kernel
theorem dX5_level_8 : decode cX5_level 8 = .ok (.iload_n 1, 1) := by decide +kernel
theorem dX5_level_9 : decode cX5_level 9 = .ok (.invokestatic 108, 3) := by decide +kernel
theorem dX5_level_12 : decode cX5_level 12 = .ok (.ifCond .eq 22, 3) := by decide +kernel
theorem dX5_level_15 : decode cX5_level 15 = .ok (.iload 5, 2) := by decide +kernel
theorem dX5_level_17 : decode cX5_level 17 = .ok (.ifCond .eq 17, 3) := by decide +kernel
theorem dX5_level_20 : decode cX5_level 20 = .ok (.iload_n 3, 1) := by decide +kernel
theorem dX5_level_21 : decode cX5_level 21 = .ok (.ifCond .lt 13, 3) := by decide +kernel
theorem dX5_level_24 : decode cX5_level 24 = .ok (.aload_n 0, 1) := by decide +kernel
theorem dX5_level_25 : decode cX5_level 25 = .ok (.iload_n 1, 1) := by decide +kernel
theorem dX5_level_26 : decode cX5_level 26 = .ok (.iload_n 2, 1) := by decide +kernel
theorem dX5_level_27 : decode cX5_level 27 = .ok (.iload_n 3, 1) := by decide +kernel
theorem dX5_level_28 : decode cX5_level 28 = .ok (.invokevirtual 184, 3) := by decide +kernel
theorem dX5_level_31 : decode cX5_level 31 = .ok (.goto 4, 3) := by decide +kernel
theorem dX5_level_34 : decode cX5_level 34 = .ok (.iconst (-1), 1) := by decide +kernel
theorem dX5_level_35 : decode cX5_level 35 = .ok (.istore 6, 2) := by decide +kernel
theorem dX5_level_37 : decode cX5_level 37 = .ok (.aload_n 0, 1) := by decide +kernel
theorem dX5_level_38 : decode cX5_level 38 = .ok (.iload_n 1, 1) := by decide +kernel
theorem dX5_level_39 : decode cX5_level 39 = .ok (.invokestatic 108, 3) := by decide +kernel
theorem dX5_level_42 : decode cX5_level 42 = .ok (.ifCond .eq 18, 3) := by decide +kernel
theorem dX5_level_45 : decode cX5_level 45 = .ok (.iload_n 3, 1) := by decide +kernel
theorem dX5_level_46 : decode cX5_level 46 = .ok (.ifCond .lt 14, 3) := by decide +kernel
theorem dX5_level_49 : decode cX5_level 49 = .ok (.iload 5, 2) := by decide +kernel
theorem dX5_level_51 : decode cX5_level 51 = .ok (.ifCond .eq 13, 3) := by decide +kernel
theorem dX5_level_54 : decode cX5_level 54 = .ok (.iload 6, 2) := by decide +kernel
theorem dX5_level_56 : decode cX5_level 56 = .ok (.iconst (-1), 1) := by decide +kernel
theorem dX5_level_57 : decode cX5_level 57 = .ok (.if_icmp .ne 7, 3) := by decide +kernel
theorem dX5_level_60 : decode cX5_level 60 = .ok (.iconst 1, 1) := by decide +kernel
theorem dX5_level_61 : decode cX5_level 61 = .ok (.goto 23, 3) := by decide +kernel
theorem dX5_level_64 : decode cX5_level 64 = .ok (.iload 5, 2) := by decide +kernel
theorem dX5_level_66 : decode cX5_level 66 = .ok (.ifCond .eq 13, 3) := by decide +kernel
theorem dX5_level_69 : decode cX5_level 69 = .ok (.iload 4, 2) := by decide +kernel
theorem dX5_level_71 : decode cX5_level 71 = .ok (.iconst 0, 1) := by decide +kernel
theorem dX5_level_72 : decode cX5_level 72 = .ok (.iconst 2, 1) := by decide +kernel
theorem dX5_level_73 : decode cX5_level 73 = .ok (.invokestatic 97, 3) := by decide +kernel
theorem dX5_level_76 : decode cX5_level 76 = .ok (.ifCond .ne 7, 3) := by decide +kernel
theorem dX5_level_79 : decode cX5_level 79 = .ok (.iconst 2, 1) := by decide +kernel
theorem dX5_level_80 : decode cX5_level 80 = .ok (.goto 4, 3) := by decide +kernel
theorem dX5_level_83 : decode cX5_level 83 = .ok (.iconst 0, 1) := by decide +kernel
theorem dX5_level_84 : decode cX5_level 84 = .ok (.putfield 93, 3) := by decide +kernel
theorem dX5_level_87 : decode cX5_level 87 = .ok (.aload_n 0, 1) := by decide +kernel
theorem dX5_level_88 : decode cX5_level 88 = .ok (.getfield 93, 3) := by decide +kernel
theorem dX5_level_91 : decode cX5_level 91 = .ok (.ifCond .gt 8, 3) := by decide +kernel
theorem dX5_level_94 : decode cX5_level 94 = .ok (.iload 4, 2) := by decide +kernel
theorem dX5_level_96 : decode cX5_level 96 = .ok (.ifCond .ne 17, 3) := by decide +kernel
theorem dX5_level_99 : decode cX5_level 99 = .ok (.aload_n 0, 1) := by decide +kernel
theorem dX5_level_100 : decode cX5_level 100 = .ok (.getfield 93, 3) := by decide +kernel
theorem dX5_level_103 : decode cX5_level 103 = .ok (.ifCond .le 7, 3) := by decide +kernel
theorem dX5_level_106 : decode cX5_level 106 = .ok (.iconst 0, 1) := by decide +kernel
theorem dX5_level_107 : decode cX5_level 107 = .ok (.goto 5, 3) := by decide +kernel
theorem dX5_level_110 : decode cX5_level 110 = .ok (.iload 6, 2) := by decide +kernel
theorem dX5_level_112 : decode cX5_level 112 = .ok (.ireturn, 1) := by decide +kernel
theorem dX5_level_113 : decode cX5_level 113 = .ok (.iconst 0, 1) := by decide +kernel
theorem dX5_level_114 : decode cX5_level 114 = .ok (.istore 7, 2) := by decide +kernel
theorem dX5_level_116 : decode cX5_level 116 = .ok (.iconst 0, 1) := by decide +kernel
theorem dX5_level_117 : decode cX5_level 117 = .ok (.istore 8, 2) := by decide +kernel
theorem dX5_level_119 : decode cX5_level 119 = .ok (.iload 8, 2) := by decide +kernel
theorem dX5_level_121 : decode cX5_level 121 = .ok (.aload_n 0, 1) := by decide +kernel
theorem dX5_level_122 : decode cX5_level 122 = .ok (.getfield 116, 3) := by decide +kernel
theorem dX5_level_125 : decode cX5_level 125 = .ok (.if_icmp .ge 71, 3) := by decide +kernel
theorem dX5_level_128 : decode cX5_level 128 = .ok (.aload_n 0, 1) := by decide +kernel
theorem dX5_level_129 : decode cX5_level 129 = .ok (.iload 8, 2) := by decide +kernel
theorem dX5_level_131 : decode cX5_level 131 = .ok (.iload_n 1, 1) := by decide +kernel
theorem dX5_level_132 : decode cX5_level 132 = .ok (.iload_n 2, 1) := by decide +kernel
theorem dX5_level_133 : decode cX5_level 133 = .ok (.invokevirtual 122, 3) := by decide +kernel
theorem dX5_level_136 : decode cX5_level 136 = .ok (.ifCond .eq 19, 3) := by decide +kernel
theorem dX5_level_139 : decode cX5_level 139 = .ok (.aload_n 0, 1) := by decide +kernel
theorem dX5_level_140 : decode cX5_level 140 = .ok (.getfield 45, 3) := by decide +kernel
theorem dX5_level_143 : decode cX5_level 143 = .ok (.iload 8, 2) := by decide +kernel
theorem dX5_level_145 : decode cX5_level 145 = .ok (.iaload, 1) := by decide +kernel
theorem dX5_level_146 : decode cX5_level 146 = .ok (.iload 6, 2) := by decide +kernel
theorem dX5_level_148 : decode cX5_level 148 = .ok (.if_icmp .ne 7, 3) := by decide +kernel
theorem dX5_level_151 : decode cX5_level 151 = .ok (.iconst 1, 1) := by decide +kernel
theorem dX5_level_152 : decode cX5_level 152 = .ok (.goto 4, 3) := by decide +kernel
theorem dX5_level_155 : decode cX5_level 155 = .ok (.iconst 0, 1) := by decide +kernel
theorem dX5_level_156 : decode cX5_level 156 = .ok (.istore 9, 2) := by decide +kernel
theorem dX5_level_158 : decode cX5_level 158 = .ok (.iload 9, 2) := by decide +kernel
theorem dX5_level_160 : decode cX5_level 160 = .ok (.ifCond .eq 26, 3) := by decide +kernel
theorem dX5_level_163 : decode cX5_level 163 = .ok (.iload 7, 2) := by decide +kernel
theorem dX5_level_165 : decode cX5_level 165 = .ok (.iload 4, 2) := by decide +kernel
theorem dX5_level_167 : decode cX5_level 167 = .ok (.iconst 1, 1) := by decide +kernel
theorem dX5_level_168 : decode cX5_level 168 = .ok (.if_icmp .ne 7, 3) := by decide +kernel
theorem dX5_level_171 : decode cX5_level 171 = .ok (.iconst 1, 1) := by decide +kernel
theorem dX5_level_172 : decode cX5_level 172 = .ok (.goto 10, 3) := by decide +kernel
theorem dX5_level_175 : decode cX5_level 175 = .ok (.aload_n 0, 1) := by decide +kernel
theorem dX5_level_176 : decode cX5_level 176 = .ok (.getfield 48, 3) := by decide +kernel
theorem dX5_level_179 : decode cX5_level 179 = .ok (.iload 8, 2) := by decide +kernel
theorem dX5_level_181 : decode cX5_level 181 = .ok (.iaload, 1) := by decide +kernel
theorem dX5_level_182 : decode cX5_level 182 = .ok (.iadd, 1) := by decide +kernel
theorem dX5_level_183 : decode cX5_level 183 = .ok (.goto 5, 3) := by decide +kernel
theorem dX5_level_186 : decode cX5_level 186 = .ok (.iload 7, 2) := by decide +kernel
theorem dX5_level_188 : decode cX5_level 188 = .ok (.istore 7, 2) := by decide +kernel
theorem dX5_level_190 : decode cX5_level 190 = .ok (.iinc 8 1, 3) := by decide +kernel
theorem dX5_level_193 : decode cX5_level 193 = .ok (.goto (-74), 3) := by decide +kernel
theorem dX5_level_196 : decode cX5_level 196 = .ok (.iload 7, 2) := by decide +kernel
theorem dX5_level_198 : decode cX5_level 198 = .ok (.ireturn, 1) := by decide +kernel
set_option maxRecDepth 20000 in
theorem ggX5_about_X5_isIn : GoodIn wsX5_about wsX5_isIn := goodIn_r _ [12] (by decide +kernel) (by decide +kernel)
set_option maxRecDepth 20000 in
theorem gX5_about_X5_isIn : GoodIn wsX5_about (va_wsS RX5 97 yX5_isIn wsX5_isIn) := goodIn_app (goodIn_of _ (by decide +kernel)) ggX5_about_X5_isIn
theorem dX5_about_0 : decode cX5_about 0 = .ok (.aload_n 0, 1) := by decide +kernel
theorem dX5_about_1 : decode cX5_about 1 = .ok (.iload_n 1, 1) := by decide +kernel
theorem dX5_about_2 : decode cX5_about 2 = .ok (.iconst 0, 1) := by decide +kernel
theorem dX5_about_3 : decode cX5_about 3 = .ok (.aload_n 0, 1) := by decide +kernel
theorem dX5_about_4 : decode cX5_about 4 = .ok (.getfield 116, 3) := by decide +kernel
theorem dX5_about_7 : decode cX5_about 7 = .ok (.iconst 1, 1) := by decide +kernel
theorem dX5_about_8 : decode cX5_about 8 = .ok (.isub, 1) := by decide +kernel
theorem dX5_about_9 : decode cX5_about 9 = .ok (.invokestatic 97, 3) := by decide +kernel
theorem dX5_about_12 : decode cX5_about 12 = .ok (.ifCond .ne 7, 3) := by decide +kernel
theorem dX5_about_15 : decode cX5_about 15 = .ok (.iconst 1, 1) := by decide +kernel
theorem dX5_about_16 : decode cX5_about 16 = .ok (.goto 17, 3) := by decide +kernel
theorem dX5_about_19 : decode cX5_about 19 = .ok (.iload_n 2, 1) := by decide +kernel
theorem dX5_about_20 : decode cX5_about 20 = .ok (.iconst 0, 1) := by decide +kernel
theorem dX5_about_21 : decode cX5_about 21 = .ok (.iconst 5, 1) := by decide +kernel
theorem dX5_about_22 : decode cX5_about 22 = .ok (.invokestatic 97, 3) := by decide +kernel
theorem dX5_about_25 : decode cX5_about 25 = .ok (.ifCond .ne 7, 3) := by decide +kernel
theorem dX5_about_28 : decode cX5_about 28 = .ok (.iconst 2, 1) := by decide +kernel
theorem dX5_about_29 : decode cX5_about 29 = .ok (.goto 4, 3) := by decide +kernel
theorem dX5_about_32 : decode cX5_about 32 = .ok (.iconst 0, 1) := by decide +kernel
theorem dX5_about_33 : decode cX5_about 33 = .ok (.putfield 93, 3) := by decide +kernel
theorem dX5_about_36 : decode cX5_about 36 = .ok (.aload_n 0, 1) := by decide +kernel
theorem dX5_about_37 : decode cX5_about 37 = .ok (.getfield 93, 3) := by decide +kernel
theorem dX5_about_40 : decode cX5_about 40 = .ok (.ifCond .le 5, 3) := by decide +kernel
theorem dX5_about_43 : decode cX5_about 43 = .ok (.iconst 0, 1) := by decide +kernel
theorem dX5_about_44 : decode cX5_about 44 = .ok (.ireturn, 1) := by decide +kernel
theorem dX5_about_45 : decode cX5_about 45 = .ok (.iload_n 2, 1) := by decide +kernel
theorem dX5_about_46 : decode cX5_about 46 = .ok (.ifCond .ne 12, 3) := by decide +kernel
theorem dX5_about_49 : decode cX5_about 49 = .ok (.aload_n 0, 1) := by decide +kernel
theorem dX5_about_50 : decode cX5_about 50 = .ok (.getfield 33, 3) := by decide +kernel
theorem dX5_about_53 : decode cX5_about 53 = .ok (.iload_n 1, 1) := by decide +kernel
theorem dX5_about_54 : decode cX5_about 54 = .ok (.iaload, 1) := by decide +kernel
theorem dX5_about_55 : decode cX5_about 55 = .ok (.goto 78, 3) := by decide +kernel
theorem dX5_about_58 : decode cX5_about 58 = .ok (.iload_n 2, 1) := by decide +kernel
theorem dX5_about_59 : decode cX5_about 59 = .ok (.iconst 1, 1) := by decide +kernel
theorem dX5_about_60 : decode cX5_about 60 = .ok (.if_icmp .ne 12, 3) := by decide +kernel
theorem dX5_about_63 : decode cX5_about 63 = .ok (.aload_n 0, 1) := by decide +kernel
theorem dX5_about_64 : decode cX5_about 64 = .ok (.getfield 48, 3) := by decide +kernel
theorem dX5_about_67 : decode cX5_about 67 = .ok (.iload_n 1, 1) := by decide +kernel
theorem dX5_about_68 : decode cX5_about 68 = .ok (.iaload, 1) := by decide +kernel
theorem dX5_about_69 : decode cX5_about 69 = .ok (.goto 64, 3) := by decide +kernel
theorem dX5_about_72 : decode cX5_about 72 = .ok (.iload_n 2, 1) := by decide +kernel
theorem dX5_about_73 : decode cX5_about 73 = .ok (.iconst 2, 1) := by decide +kernel
theorem dX5_about_74 : decode cX5_about 74 = .ok (.if_icmp .ne 25, 3) := by decide +kernel
theorem dX5_about_77 : decode cX5_about 77 = .ok (.aload_n 0, 1) := by decide +kernel
theorem dX5_about_78 : decode cX5_about 78 = .ok (.getfield 57, 3) := by decide +kernel
theorem dX5_about_81 : decode cX5_about 81 = .ok (.iload_n 1, 1) := by decide +kernel
theorem dX5_about_82 : decode cX5_about 82 = .ok (.iaload, 1) := by decide +kernel
theorem dX5_about_83 : decode cX5_about 83 = .ok (.ifCond .ne 12, 3) := by decide +kernel
theorem dX5_about_86 : decode cX5_about 86 = .ok (.aload_n 0, 1) := by decide +kernel
theorem dX5_about_87 : decode cX5_about 87 = .ok (.getfield 51, 3) := by decide +kernel
theorem dX5_about_90 : decode cX5_about 90 = .ok (.iload_n 1, 1) := by decide +kernel
theorem dX5_about_91 : decode cX5_about 91 = .ok (.iaload, 1) := by decide +kernel
theorem dX5_about_92 : decode cX5_about 92 = .ok (.goto 41, 3) := by decide +kernel
theorem dX5_about_95 : decode cX5_about 95 = .ok (.iconst 0, 1) := by decide +kernel
theorem dX5_about_96 : decode cX5_about 96 = .ok (.goto 37, 3) := by decide +kernel
theorem dX5_about_99 : decode cX5_about 99 = .ok (.iload_n 2, 1) := by decide +kernel
theorem dX5_about_100 : decode cX5_about 100 = .ok (.iconst 3, 1) := by decide +kernel
theorem dX5_about_101 : decode cX5_about 101 = .ok (.if_icmp .ne 12, 3) := by decide +kernel
theorem dX5_about_104 : decode cX5_about 104 = .ok (.aload_n 0, 1) := by decide +kernel
theorem dX5_about_105 : decode cX5_about 105 = .ok (.getfield 57, 3) := by decide +kernel
theorem dX5_about_108 : decode cX5_about 108 = .ok (.iload_n 1, 1) := by decide +kernel
theorem dX5_about_109 : decode cX5_about 109 = .ok (.iaload, 1) := by decide +kernel
theorem dX5_about_110 : decode cX5_about 110 = .ok (.goto 23, 3) := by decide +kernel
theorem dX5_about_113 : decode cX5_about 113 = .ok (.iload_n 2, 1) := by decide +kernel
theorem dX5_about_114 : decode cX5_about 114 = .ok (.iconst 4, 1) := by decide +kernel
theorem dX5_about_115 : decode cX5_about 115 = .ok (.if_icmp .ne 12, 3) := by decide +kernel
theorem dX5_about_118 : decode cX5_about 118 = .ok (.aload_n 0, 1) := by decide +kernel
theorem dX5_about_119 : decode cX5_about 119 = .ok (.getfield 60, 3) := by decide +kernel
theorem dX5_about_122 : decode cX5_about 122 = .ok (.iload_n 1, 1) := by decide +kernel
theorem dX5_about_123 : decode cX5_about 123 = .ok (.iaload, 1) := by decide +kernel
theorem dX5_about_124 : decode cX5_about 124 = .ok (.goto 9, 3) := by decide +kernel
theorem dX5_about_127 : decode cX5_about 127 = .ok (.aload_n 0, 1) := by decide +kernel
theorem dX5_about_128 : decode cX5_about 128 = .ok (.getfield 63, 3) := by decide +kernel
theorem dX5_about_131 : decode cX5_about 131 = .ok (.iload_n 1, 1) := by decide +kernel
theorem dX5_about_132 : decode cX5_about 132 = .ok (.iaload, 1) := by decide +kernel
theorem dX5_about_133 : decode cX5_about 133 = .ok (.ireturn, 1) := by decide +kernel
set_option maxRecDepth 20000 in
theorem ggX5_ahead_X5_isIn : GoodIn wsX5_ahead wsX5_isIn := goodIn_r _ [12] (by decide +kernel) (by decide +kernel)
set_option maxRecDepth 20000 in
theorem gX5_ahead_X5_isIn : GoodIn wsX5_ahead (va_wsS RX5 97 yX5_isIn wsX5_isIn) := goodIn_app (goodIn_of _ (by decide +kernel)) ggX5_ahead_X5_isIn
set_option maxRecDepth 20000 in
theorem ggX5_ahead_X5_rests : GoodIn wsX5_ahead wsX5_rests := goodIn_r _ [16, 2, 4, 5, 17, 18, 19, 20, 21, 22, 23, 24, 25, 26, 27, 28, 29, 30, 31, 32, 33, 34, 35, 36, 37, 38, 39, 40, 41, 42, 43, 44, 45, 46, 47, 48] (by decide +kernel) (by decide +kernel)
set_option maxRecDepth 20000 in
theorem gX5_ahead_X5_rests : GoodIn wsX5_ahead (wsV RX5 122 RX5 yX5_rests wsX5_rests) := goodIn_app (goodIn_of _ (by decide +kernel)) ggX5_ahead_X5_rests
theorem dX5_ahead_0 : decode cX5_ahead 0 = .ok (.aload_n 0, 1) := by decide +kernel
theorem dX5_ahead_1 : decode cX5_ahead 1 = .ok (.iload_n 1, 1) := by decide +kernel
theorem dX5_ahead_2 : decode cX5_ahead 2 = .ok (.iconst 0, 1) := by decide +kernel
theorem dX5_ahead_3 : decode cX5_ahead 3 = .ok (.aload_n 0, 1) := by decide +kernel
theorem dX5_ahead_4 : decode cX5_ahead 4 = .ok (.getfield 116, 3) := by decide +kernel
theorem dX5_ahead_7 : decode cX5_ahead 7 = .ok (.iconst 1, 1) := by decide +kernel
theorem dX5_ahead_8 : decode cX5_ahead 8 = .ok (.isub, 1) := by decide +kernel
theorem dX5_ahead_9 : decode cX5_ahead 9 = .ok (.invokestatic 97, 3) := by decide +kernel
theorem dX5_ahead_12 : decode cX5_ahead 12 = .ok (.ifCond .ne 7, 3) := by decide +kernel
theorem dX5_ahead_15 : decode cX5_ahead 15 = .ok (.iconst 1, 1) := by decide +kernel
theorem dX5_ahead_16 : decode cX5_ahead 16 = .ok (.goto 17, 3) := by decide +kernel
theorem dX5_ahead_19 : decode cX5_ahead 19 = .ok (.aload_n 0, 1) := by decide +kernel
theorem dX5_ahead_20 : decode cX5_ahead 20 = .ok (.getfield 57, 3) := by decide +kernel
theorem dX5_ahead_23 : decode cX5_ahead 23 = .ok (.iload_n 1, 1) := by decide +kernel
theorem dX5_ahead_24 : decode cX5_ahead 24 = .ok (.iaload, 1) := by decide +kernel
theorem dX5_ahead_25 : decode cX5_ahead 25 = .ok (.ifCond .eq 7, 3) := by decide +kernel
theorem dX5_ahead_28 : decode cX5_ahead 28 = .ok (.iconst 2, 1) := by decide +kernel
theorem dX5_ahead_29 : decode cX5_ahead 29 = .ok (.goto 4, 3) := by decide +kernel
theorem dX5_ahead_32 : decode cX5_ahead 32 = .ok (.iconst 0, 1) := by decide +kernel
theorem dX5_ahead_33 : decode cX5_ahead 33 = .ok (.putfield 93, 3) := by decide +kernel
theorem dX5_ahead_36 : decode cX5_ahead 36 = .ok (.iconst 0, 1) := by decide +kernel
theorem dX5_ahead_37 : decode cX5_ahead 37 = .ok (.istore_n 2, 1) := by decide +kernel
theorem dX5_ahead_38 : decode cX5_ahead 38 = .ok (.iconst 0, 1) := by decide +kernel
theorem dX5_ahead_39 : decode cX5_ahead 39 = .ok (.istore_n 3, 1) := by decide +kernel
theorem dX5_ahead_40 : decode cX5_ahead 40 = .ok (.iload_n 3, 1) := by decide +kernel
theorem dX5_ahead_41 : decode cX5_ahead 41 = .ok (.aload_n 0, 1) := by decide +kernel
theorem dX5_ahead_42 : decode cX5_ahead 42 = .ok (.getfield 116, 3) := by decide +kernel
theorem dX5_ahead_45 : decode cX5_ahead 45 = .ok (.if_icmp .ge 79, 3) := by decide +kernel
theorem dX5_ahead_48 : decode cX5_ahead 48 = .ok (.aload_n 0, 1) := by decide +kernel
theorem dX5_ahead_49 : decode cX5_ahead 49 = .ok (.getfield 93, 3) := by decide +kernel
theorem dX5_ahead_52 : decode cX5_ahead 52 = .ok (.ifCond .ne 72, 3) := by decide +kernel
theorem dX5_ahead_55 : decode cX5_ahead 55 = .ok (.aload_n 0, 1) := by decide +kernel
theorem dX5_ahead_56 : decode cX5_ahead 56 = .ok (.iload_n 3, 1) := by decide +kernel
theorem dX5_ahead_57 : decode cX5_ahead 57 = .ok (.aload_n 0, 1) := by decide +kernel
theorem dX5_ahead_58 : decode cX5_ahead 58 = .ok (.getfield 36, 3) := by decide +kernel
theorem dX5_ahead_61 : decode cX5_ahead 61 = .ok (.iload_n 1, 1) := by decide +kernel
theorem dX5_ahead_62 : decode cX5_ahead 62 = .ok (.iaload, 1) := by decide +kernel
theorem dX5_ahead_63 : decode cX5_ahead 63 = .ok (.aload_n 0, 1) := by decide +kernel
theorem dX5_ahead_64 : decode cX5_ahead 64 = .ok (.getfield 39, 3) := by decide +kernel
theorem dX5_ahead_67 : decode cX5_ahead 67 = .ok (.iload_n 1, 1) := by decide +kernel
theorem dX5_ahead_68 : decode cX5_ahead 68 = .ok (.iaload, 1) := by decide +kernel
theorem dX5_ahead_69 : decode cX5_ahead 69 = .ok (.invokevirtual 122, 3) := by decide +kernel
theorem dX5_ahead_72 : decode cX5_ahead 72 = .ok (.ifCond .eq 44, 3) := by decide +kernel
theorem dX5_ahead_75 : decode cX5_ahead 75 = .ok (.aload_n 0, 1) := by decide +kernel
theorem dX5_ahead_76 : decode cX5_ahead 76 = .ok (.getfield 45, 3) := by decide +kernel
theorem dX5_ahead_79 : decode cX5_ahead 79 = .ok (.iload_n 3, 1) := by decide +kernel
theorem dX5_ahead_80 : decode cX5_ahead 80 = .ok (.iaload, 1) := by decide +kernel
theorem dX5_ahead_81 : decode cX5_ahead 81 = .ok (.aload_n 0, 1) := by decide +kernel
theorem dX5_ahead_82 : decode cX5_ahead 82 = .ok (.getfield 45, 3) := by decide +kernel
theorem dX5_ahead_85 : decode cX5_ahead 85 = .ok (.iload_n 1, 1) := by decide +kernel
theorem dX5_ahead_86 : decode cX5_ahead 86 = .ok (.iaload, 1) := by decide +kernel
theorem dX5_ahead_87 : decode cX5_ahead 87 = .ok (.if_icmp .ne 29, 3) := by decide +kernel
theorem dX5_ahead_90 : decode cX5_ahead 90 = .ok (.aload_n 0, 1) := by decide +kernel
theorem dX5_ahead_91 : decode cX5_ahead 91 = .ok (.getfield 66, 3) := by decide +kernel
theorem dX5_ahead_94 : decode cX5_ahead 94 = .ok (.iload_n 3, 1) := by decide +kernel
theorem dX5_ahead_95 : decode cX5_ahead 95 = .ok (.iaload, 1) := by decide +kernel
theorem dX5_ahead_96 : decode cX5_ahead 96 = .ok (.aload_n 0, 1) := by decide +kernel
theorem dX5_ahead_97 : decode cX5_ahead 97 = .ok (.getfield 66, 3) := by decide +kernel
theorem dX5_ahead_100 : decode cX5_ahead 100 = .ok (.iload_n 1, 1) := by decide +kernel
theorem dX5_ahead_101 : decode cX5_ahead 101 = .ok (.iaload, 1) := by decide +kernel
theorem dX5_ahead_102 : decode cX5_ahead 102 = .ok (.if_icmp .ge 14, 3) := by decide +kernel
theorem dX5_ahead_105 : decode cX5_ahead 105 = .ok (.iload_n 2, 1) := by decide +kernel
theorem dX5_ahead_106 : decode cX5_ahead 106 = .ok (.aload_n 0, 1) := by decide +kernel
theorem dX5_ahead_107 : decode cX5_ahead 107 = .ok (.getfield 51, 3) := by decide +kernel
theorem dX5_ahead_110 : decode cX5_ahead 110 = .ok (.iload_n 3, 1) := by decide +kernel
theorem dX5_ahead_111 : decode cX5_ahead 111 = .ok (.iaload, 1) := by decide +kernel
theorem dX5_ahead_112 : decode cX5_ahead 112 = .ok (.iadd, 1) := by decide +kernel
theorem dX5_ahead_113 : decode cX5_ahead 113 = .ok (.goto 4, 3) := by decide +kernel
theorem dX5_ahead_116 : decode cX5_ahead 116 = .ok (.iload_n 2, 1) := by decide +kernel
theorem dX5_ahead_117 : decode cX5_ahead 117 = .ok (.istore_n 2, 1) := by decide +kernel
theorem dX5_ahead_118 : decode cX5_ahead 118 = .ok (.iinc 3 1, 3) := by decide +kernel
theorem dX5_ahead_121 : decode cX5_ahead 121 = .ok (.goto (-81), 3) := by decide +kernel
theorem dX5_ahead_124 : decode cX5_ahead 124 = .ok (.iload_n 2, 1) := by decide +kernel
theorem dX5_ahead_125 : decode cX5_ahead 125 = .ok (.ireturn, 1) := by decide +kernel
set_option maxRecDepth 20000 in
theorem ggX5_cash_X5_isAccount : GoodIn wsX5_cash wsX5_isAccount := goodIn_r _ [7, 8, 9, 6, 10] (by decide +kernel) (by decide +kernel)
set_option maxRecDepth 20000 in
theorem gX5_cash_X5_isAccount : GoodIn wsX5_cash (va_wsS RX5 101 yX5_isAccount wsX5_isAccount) := goodIn_app (goodIn_of _ (by decide +kernel)) ggX5_cash_X5_isAccount
set_option maxRecDepth 20000 in
theorem ggX5_cash_X5_isIn : GoodIn wsX5_cash wsX5_isIn := goodIn_r _ [10] (by decide +kernel) (by decide +kernel)
set_option maxRecDepth 20000 in
theorem gX5_cash_X5_isIn : GoodIn wsX5_cash (va_wsS RX5 97 yX5_isIn wsX5_isIn) := goodIn_app (goodIn_of _ (by decide +kernel)) ggX5_cash_X5_isIn
theorem dX5_cash_0 : decode cX5_cash 0 = .ok (.aload_n 0, 1) := by decide +kernel
theorem dX5_cash_1 : decode cX5_cash 1 = .ok (.iload_n 1, 1) := by decide +kernel
theorem dX5_cash_2 : decode cX5_cash 2 = .ok (.invokestatic 101, 3) := by decide +kernel
theorem dX5_cash_5 : decode cX5_cash 5 = .ok (.ifCond .ne 7, 3) := by decide +kernel
theorem dX5_cash_8 : decode cX5_cash 8 = .ok (.iconst 1, 1) := by decide +kernel
theorem dX5_cash_9 : decode cX5_cash 9 = .ok (.goto 17, 3) := by decide +kernel
theorem dX5_cash_12 : decode cX5_cash 12 = .ok (.iload_n 2, 1) := by decide +kernel
theorem dX5_cash_13 : decode cX5_cash 13 = .ok (.iconst 0, 1) := by decide +kernel
theorem dX5_cash_14 : decode cX5_cash 14 = .ok (.iconst 1, 1) := by decide +kernel
theorem dX5_cash_15 : decode cX5_cash 15 = .ok (.invokestatic 97, 3) := by decide +kernel
theorem dX5_cash_18 : decode cX5_cash 18 = .ok (.ifCond .ne 7, 3) := by decide +kernel
theorem dX5_cash_21 : decode cX5_cash 21 = .ok (.iconst 2, 1) := by decide +kernel
theorem dX5_cash_22 : decode cX5_cash 22 = .ok (.goto 4, 3) := by decide +kernel
theorem dX5_cash_25 : decode cX5_cash 25 = .ok (.iconst 0, 1) := by decide +kernel
theorem dX5_cash_26 : decode cX5_cash 26 = .ok (.putfield 93, 3) := by decide +kernel
theorem dX5_cash_29 : decode cX5_cash 29 = .ok (.aload_n 0, 1) := by decide +kernel
theorem dX5_cash_30 : decode cX5_cash 30 = .ok (.getfield 93, 3) := by decide +kernel
theorem dX5_cash_33 : decode cX5_cash 33 = .ok (.ifCond .le 7, 3) := by decide +kernel
theorem dX5_cash_36 : decode cX5_cash 36 = .ok (.lconst 0, 1) := by decide +kernel
theorem dX5_cash_37 : decode cX5_cash 37 = .ok (.goto 22, 3) := by decide +kernel
theorem dX5_cash_40 : decode cX5_cash 40 = .ok (.iload_n 2, 1) := by decide +kernel
theorem dX5_cash_41 : decode cX5_cash 41 = .ok (.ifCond .ne 12, 3) := by decide +kernel
theorem dX5_cash_44 : decode cX5_cash 44 = .ok (.aload_n 0, 1) := by decide +kernel
theorem dX5_cash_45 : decode cX5_cash 45 = .ok (.getfield 7, 3) := by decide +kernel
theorem dX5_cash_48 : decode cX5_cash 48 = .ok (.iload_n 1, 1) := by decide +kernel
theorem dX5_cash_49 : decode cX5_cash 49 = .ok (.laload, 1) := by decide +kernel
theorem dX5_cash_50 : decode cX5_cash 50 = .ok (.goto 9, 3) := by decide +kernel
theorem dX5_cash_53 : decode cX5_cash 53 = .ok (.aload_n 0, 1) := by decide +kernel
theorem dX5_cash_54 : decode cX5_cash 54 = .ok (.getfield 13, 3) := by decide +kernel
theorem dX5_cash_57 : decode cX5_cash 57 = .ok (.iload_n 1, 1) := by decide +kernel
theorem dX5_cash_58 : decode cX5_cash 58 = .ok (.laload, 1) := by decide +kernel
theorem dX5_cash_59 : decode cX5_cash 59 = .ok (.lreturn, 1) := by decide +kernel
set_option maxRecDepth 20000 in
theorem ggX5_shares_X5_isAccount : GoodIn wsX5_shares wsX5_isAccount := goodIn_r _ [9, 10, 11, 8, 12] (by decide +kernel) (by decide +kernel)
set_option maxRecDepth 20000 in
theorem gX5_shares_X5_isAccount : GoodIn wsX5_shares (va_wsS RX5 101 yX5_isAccount wsX5_isAccount) := goodIn_app (goodIn_of _ (by decide +kernel)) ggX5_shares_X5_isAccount
set_option maxRecDepth 20000 in
theorem ggX5_shares_X5_isSymbol : GoodIn wsX5_shares wsX5_isSymbol := goodIn_r _ [15, 10, 11, 8, 12] (by decide +kernel) (by decide +kernel)
set_option maxRecDepth 20000 in
theorem gX5_shares_X5_isSymbol : GoodIn wsX5_shares (va_wsS RX5 108 yX5_isSymbol wsX5_isSymbol) := goodIn_app (goodIn_of _ (by decide +kernel)) ggX5_shares_X5_isSymbol
set_option maxRecDepth 20000 in
theorem ggX5_shares_X5_isIn : GoodIn wsX5_shares wsX5_isIn := goodIn_r _ [12] (by decide +kernel) (by decide +kernel)
set_option maxRecDepth 20000 in
theorem gX5_shares_X5_isIn : GoodIn wsX5_shares (va_wsS RX5 97 yX5_isIn wsX5_isIn) := goodIn_app (goodIn_of _ (by decide +kernel)) ggX5_shares_X5_isIn
set_option maxRecDepth 20000 in
theorem ggX5_shares_X5_cell : GoodIn wsX5_shares wsX5_cell := goodIn_r _ [18] (by decide +kernel) (by decide +kernel)
set_option maxRecDepth 20000 in
theorem gX5_shares_X5_cell : GoodIn wsX5_shares (va_wsS RX5 112 yX5_cell wsX5_cell) := goodIn_app (goodIn_of _ (by decide +kernel)) ggX5_shares_X5_cell
theorem dX5_shares_0 : decode cX5_shares 0 = .ok (.aload_n 0, 1) := by decide +kernel
theorem dX5_shares_1 : decode cX5_shares 1 = .ok (.iload_n 1, 1) := by decide +kernel
theorem dX5_shares_2 : decode cX5_shares 2 = .ok (.invokestatic 101, 3) := by decide +kernel
theorem dX5_shares_5 : decode cX5_shares 5 = .ok (.ifCond .eq 10, 3) := by decide +kernel
theorem dX5_shares_8 : decode cX5_shares 8 = .ok (.iload_n 2, 1) := by decide +kernel
theorem dX5_shares_9 : decode cX5_shares 9 = .ok (.invokestatic 108, 3) := by decide +kernel
theorem dX5_shares_12 : decode cX5_shares 12 = .ok (.ifCond .ne 7, 3) := by decide +kernel
theorem dX5_shares_15 : decode cX5_shares 15 = .ok (.iconst 1, 1) := by decide +kernel
theorem dX5_shares_16 : decode cX5_shares 16 = .ok (.goto 17, 3) := by decide +kernel
theorem dX5_shares_19 : decode cX5_shares 19 = .ok (.iload_n 3, 1) := by decide +kernel
theorem dX5_shares_20 : decode cX5_shares 20 = .ok (.iconst 0, 1) := by decide +kernel
theorem dX5_shares_21 : decode cX5_shares 21 = .ok (.iconst 3, 1) := by decide +kernel
theorem dX5_shares_22 : decode cX5_shares 22 = .ok (.invokestatic 97, 3) := by decide +kernel
theorem dX5_shares_25 : decode cX5_shares 25 = .ok (.ifCond .ne 7, 3) := by decide +kernel
theorem dX5_shares_28 : decode cX5_shares 28 = .ok (.iconst 2, 1) := by decide +kernel
theorem dX5_shares_29 : decode cX5_shares 29 = .ok (.goto 4, 3) := by decide +kernel
theorem dX5_shares_32 : decode cX5_shares 32 = .ok (.iconst 0, 1) := by decide +kernel
theorem dX5_shares_33 : decode cX5_shares 33 = .ok (.putfield 93, 3) := by decide +kernel
theorem dX5_shares_36 : decode cX5_shares 36 = .ok (.aload_n 0, 1) := by decide +kernel
theorem dX5_shares_37 : decode cX5_shares 37 = .ok (.getfield 93, 3) := by decide +kernel
theorem dX5_shares_40 : decode cX5_shares 40 = .ok (.ifCond .le 5, 3) := by decide +kernel
theorem dX5_shares_43 : decode cX5_shares 43 = .ok (.iconst 0, 1) := by decide +kernel
theorem dX5_shares_44 : decode cX5_shares 44 = .ok (.ireturn, 1) := by decide +kernel
theorem dX5_shares_45 : decode cX5_shares 45 = .ok (.iload_n 1, 1) := by decide +kernel
theorem dX5_shares_46 : decode cX5_shares 46 = .ok (.iload_n 2, 1) := by decide +kernel
theorem dX5_shares_47 : decode cX5_shares 47 = .ok (.invokestatic 112, 3) := by decide +kernel
theorem dX5_shares_50 : decode cX5_shares 50 = .ok (.istore 4, 2) := by decide +kernel
theorem dX5_shares_52 : decode cX5_shares 52 = .ok (.iload_n 3, 1) := by decide +kernel
theorem dX5_shares_53 : decode cX5_shares 53 = .ok (.ifCond .ne 13, 3) := by decide +kernel
theorem dX5_shares_56 : decode cX5_shares 56 = .ok (.aload_n 0, 1) := by decide +kernel
theorem dX5_shares_57 : decode cX5_shares 57 = .ok (.getfield 16, 3) := by decide +kernel
theorem dX5_shares_60 : decode cX5_shares 60 = .ok (.iload 4, 2) := by decide +kernel
theorem dX5_shares_62 : decode cX5_shares 62 = .ok (.iaload, 1) := by decide +kernel
theorem dX5_shares_63 : decode cX5_shares 63 = .ok (.goto 40, 3) := by decide +kernel
theorem dX5_shares_66 : decode cX5_shares 66 = .ok (.iload_n 3, 1) := by decide +kernel
theorem dX5_shares_67 : decode cX5_shares 67 = .ok (.iconst 1, 1) := by decide +kernel
theorem dX5_shares_68 : decode cX5_shares 68 = .ok (.if_icmp .ne 13, 3) := by decide +kernel
theorem dX5_shares_71 : decode cX5_shares 71 = .ok (.aload_n 0, 1) := by decide +kernel
theorem dX5_shares_72 : decode cX5_shares 72 = .ok (.getfield 20, 3) := by decide +kernel
theorem dX5_shares_75 : decode cX5_shares 75 = .ok (.iload 4, 2) := by decide +kernel
theorem dX5_shares_77 : decode cX5_shares 77 = .ok (.iaload, 1) := by decide +kernel
theorem dX5_shares_78 : decode cX5_shares 78 = .ok (.goto 25, 3) := by decide +kernel
theorem dX5_shares_81 : decode cX5_shares 81 = .ok (.iload_n 3, 1) := by decide +kernel
theorem dX5_shares_82 : decode cX5_shares 82 = .ok (.iconst 2, 1) := by decide +kernel
theorem dX5_shares_83 : decode cX5_shares 83 = .ok (.if_icmp .ne 13, 3) := by decide +kernel
theorem dX5_shares_86 : decode cX5_shares 86 = .ok (.aload_n 0, 1) := by decide +kernel
theorem dX5_shares_87 : decode cX5_shares 87 = .ok (.getfield 23, 3) := by decide +kernel
theorem dX5_shares_90 : decode cX5_shares 90 = .ok (.iload 4, 2) := by decide +kernel
theorem dX5_shares_92 : decode cX5_shares 92 = .ok (.iaload, 1) := by decide +kernel
theorem dX5_shares_93 : decode cX5_shares 93 = .ok (.goto 10, 3) := by decide +kernel
theorem dX5_shares_96 : decode cX5_shares 96 = .ok (.aload_n 0, 1) := by decide +kernel
theorem dX5_shares_97 : decode cX5_shares 97 = .ok (.getfield 26, 3) := by decide +kernel
theorem dX5_shares_100 : decode cX5_shares 100 = .ok (.iload 4, 2) := by decide +kernel
theorem dX5_shares_102 : decode cX5_shares 102 = .ok (.iaload, 1) := by decide +kernel
theorem dX5_shares_103 : decode cX5_shares 103 = .ok (.ireturn, 1) := by decide +kernel
set_option maxRecDepth 20000 in
theorem ggX5_count_X5_isIn : GoodIn wsX5_count wsX5_isIn := goodIn_r _ [9] (by decide +kernel) (by decide +kernel)
set_option maxRecDepth 20000 in
theorem gX5_count_X5_isIn : GoodIn wsX5_count (va_wsS RX5 97 yX5_isIn wsX5_isIn) := goodIn_app (goodIn_of _ (by decide +kernel)) ggX5_count_X5_isIn
set_option maxRecDepth 20000 in
theorem ggX5_count_X5_there : GoodIn wsX5_count wsX5_there := goodIn_r _ [13, 3, 14, 15, 16, 8, 17, 18, 19, 20, 21, 22, 23, 24, 25, 26, 27, 28, 29, 30, 31, 32, 33, 34, 35, 36, 37, 38, 39, 40, 41, 42, 43, 44, 45, 46, 47, 48, 49, 50] (by decide +kernel) (by decide +kernel)
set_option maxRecDepth 20000 in
theorem gX5_count_X5_there : GoodIn wsX5_count (wsV RX5 166 RX5 yX5_there wsX5_there) := goodIn_app (goodIn_of _ (by decide +kernel)) ggX5_count_X5_there
theorem dX5_count_0 : decode cX5_count 0 = .ok (.aload_n 0, 1) := by decide +kernel
theorem dX5_count_1 : decode cX5_count 1 = .ok (.iload_n 1, 1) := by decide +kernel
theorem dX5_count_2 : decode cX5_count 2 = .ok (.iconst 0, 1) := by decide +kernel
theorem dX5_count_3 : decode cX5_count 3 = .ok (.iconst 4, 1) := by decide +kernel
theorem dX5_count_4 : decode cX5_count 4 = .ok (.invokestatic 97, 3) := by decide +kernel
theorem dX5_count_7 : decode cX5_count 7 = .ok (.ifCond .eq 7, 3) := by decide +kernel
theorem dX5_count_10 : decode cX5_count 10 = .ok (.iconst 0, 1) := by decide +kernel
theorem dX5_count_11 : decode cX5_count 11 = .ok (.goto 4, 3) := by decide +kernel
theorem dX5_count_14 : decode cX5_count 14 = .ok (.iconst 1, 1) := by decide +kernel
theorem dX5_count_15 : decode cX5_count 15 = .ok (.putfield 93, 3) := by decide +kernel
theorem dX5_count_18 : decode cX5_count 18 = .ok (.aload_n 0, 1) := by decide +kernel
theorem dX5_count_19 : decode cX5_count 19 = .ok (.getfield 93, 3) := by decide +kernel
theorem dX5_count_22 : decode cX5_count 22 = .ok (.ifCond .gt 8, 3) := by decide +kernel
theorem dX5_count_25 : decode cX5_count 25 = .ok (.iload_n 1, 1) := by decide +kernel
theorem dX5_count_26 : decode cX5_count 26 = .ok (.iconst 3, 1) := by decide +kernel
theorem dX5_count_27 : decode cX5_count 27 = .ok (.if_icmp .eq 54, 3) := by decide +kernel
theorem dX5_count_30 : decode cX5_count 30 = .ok (.aload_n 0, 1) := by decide +kernel
theorem dX5_count_31 : decode cX5_count 31 = .ok (.getfield 93, 3) := by decide +kernel
theorem dX5_count_34 : decode cX5_count 34 = .ok (.ifCond .le 7, 3) := by decide +kernel
theorem dX5_count_37 : decode cX5_count 37 = .ok (.iconst 0, 1) := by decide +kernel
theorem dX5_count_38 : decode cX5_count 38 = .ok (.goto 42, 3) := by decide +kernel
theorem dX5_count_41 : decode cX5_count 41 = .ok (.iload_n 1, 1) := by decide +kernel
theorem dX5_count_42 : decode cX5_count 42 = .ok (.ifCond .ne 10, 3) := by decide +kernel
theorem dX5_count_45 : decode cX5_count 45 = .ok (.aload_n 0, 1) := by decide +kernel
theorem dX5_count_46 : decode cX5_count 46 = .ok (.getfield 132, 3) := by decide +kernel
theorem dX5_count_49 : decode cX5_count 49 = .ok (.goto 31, 3) := by decide +kernel
theorem dX5_count_52 : decode cX5_count 52 = .ok (.iload_n 1, 1) := by decide +kernel
theorem dX5_count_53 : decode cX5_count 53 = .ok (.iconst 1, 1) := by decide +kernel
theorem dX5_count_54 : decode cX5_count 54 = .ok (.if_icmp .ne 10, 3) := by decide +kernel
theorem dX5_count_57 : decode cX5_count 57 = .ok (.aload_n 0, 1) := by decide +kernel
theorem dX5_count_58 : decode cX5_count 58 = .ok (.getfield 116, 3) := by decide +kernel
theorem dX5_count_61 : decode cX5_count 61 = .ok (.goto 19, 3) := by decide +kernel
theorem dX5_count_64 : decode cX5_count 64 = .ok (.iload_n 1, 1) := by decide +kernel
theorem dX5_count_65 : decode cX5_count 65 = .ok (.iconst 2, 1) := by decide +kernel
theorem dX5_count_66 : decode cX5_count 66 = .ok (.if_icmp .ne 10, 3) := by decide +kernel
theorem dX5_count_69 : decode cX5_count 69 = .ok (.aload_n 0, 1) := by decide +kernel
theorem dX5_count_70 : decode cX5_count 70 = .ok (.invokevirtual 166, 3) := by decide +kernel
theorem dX5_count_73 : decode cX5_count 73 = .ok (.goto 7, 3) := by decide +kernel
theorem dX5_count_76 : decode cX5_count 76 = .ok (.aload_n 0, 1) := by decide +kernel
theorem dX5_count_77 : decode cX5_count 77 = .ok (.getfield 181, 3) := by decide +kernel
theorem dX5_count_80 : decode cX5_count 80 = .ok (.ireturn, 1) := by decide +kernel
theorem dX5_count_81 : decode cX5_count 81 = .ok (.iconst 0, 1) := by decide +kernel
theorem dX5_count_82 : decode cX5_count 82 = .ok (.istore_n 2, 1) := by decide +kernel
theorem dX5_count_83 : decode cX5_count 83 = .ok (.iconst 0, 1) := by decide +kernel
theorem dX5_count_84 : decode cX5_count 84 = .ok (.istore_n 3, 1) := by decide +kernel
theorem dX5_count_85 : decode cX5_count 85 = .ok (.iload_n 3, 1) := by decide +kernel
theorem dX5_count_86 : decode cX5_count 86 = .ok (.sipush 512, 3) := by decide +kernel
theorem dX5_count_89 : decode cX5_count 89 = .ok (.if_icmp .ge 26, 3) := by decide +kernel
theorem dX5_count_92 : decode cX5_count 92 = .ok (.aload_n 0, 1) := by decide +kernel
theorem dX5_count_93 : decode cX5_count 93 = .ok (.getfield 29, 3) := by decide +kernel
theorem dX5_count_96 : decode cX5_count 96 = .ok (.iload_n 3, 1) := by decide +kernel
theorem dX5_count_97 : decode cX5_count 97 = .ok (.baload, 1) := by decide +kernel
theorem dX5_count_98 : decode cX5_count 98 = .ok (.ifCond .eq 9, 3) := by decide +kernel
theorem dX5_count_101 : decode cX5_count 101 = .ok (.iload_n 2, 1) := by decide +kernel
theorem dX5_count_102 : decode cX5_count 102 = .ok (.iconst 1, 1) := by decide +kernel
theorem dX5_count_103 : decode cX5_count 103 = .ok (.iadd, 1) := by decide +kernel
theorem dX5_count_104 : decode cX5_count 104 = .ok (.goto 4, 3) := by decide +kernel
theorem dX5_count_107 : decode cX5_count 107 = .ok (.iload_n 2, 1) := by decide +kernel
theorem dX5_count_108 : decode cX5_count 108 = .ok (.istore_n 2, 1) := by decide +kernel
theorem dX5_count_109 : decode cX5_count 109 = .ok (.iinc 3 1, 3) := by decide +kernel
theorem dX5_count_112 : decode cX5_count 112 = .ok (.goto (-27), 3) := by decide +kernel
theorem dX5_count_115 : decode cX5_count 115 = .ok (.iload_n 2, 1) := by decide +kernel
theorem dX5_count_116 : decode cX5_count 116 = .ok (.ireturn, 1) := by decide +kernel
set_option maxRecDepth 20000 in
theorem ggX5_trade_X5_isIn : GoodIn wsX5_trade wsX5_isIn := goodIn_r _ [7] (by decide +kernel) (by decide +kernel)
set_option maxRecDepth 20000 in
theorem gX5_trade_X5_isIn : GoodIn wsX5_trade (va_wsS RX5 97 yX5_isIn wsX5_isIn) := goodIn_app (goodIn_of _ (by decide +kernel)) ggX5_trade_X5_isIn
theorem dX5_trade_0 : decode cX5_trade 0 = .ok (.aload_n 0, 1) := by decide +kernel
theorem dX5_trade_1 : decode cX5_trade 1 = .ok (.iload_n 1, 1) := by decide +kernel
theorem dX5_trade_2 : decode cX5_trade 2 = .ok (.ifCond .lt 18, 3) := by decide +kernel
theorem dX5_trade_5 : decode cX5_trade 5 = .ok (.iload_n 1, 1) := by decide +kernel
theorem dX5_trade_6 : decode cX5_trade 6 = .ok (.aload_n 0, 1) := by decide +kernel
theorem dX5_trade_7 : decode cX5_trade 7 = .ok (.getfield 132, 3) := by decide +kernel
theorem dX5_trade_10 : decode cX5_trade 10 = .ok (.if_icmp .ge 10, 3) := by decide +kernel
theorem dX5_trade_13 : decode cX5_trade 13 = .ok (.iload_n 1, 1) := by decide +kernel
theorem dX5_trade_14 : decode cX5_trade 14 = .ok (.sipush 300, 3) := by decide +kernel
theorem dX5_trade_17 : decode cX5_trade 17 = .ok (.if_icmp .lt 7, 3) := by decide +kernel
theorem dX5_trade_20 : decode cX5_trade 20 = .ok (.iconst 1, 1) := by decide +kernel
theorem dX5_trade_21 : decode cX5_trade 21 = .ok (.goto 17, 3) := by decide +kernel
theorem dX5_trade_24 : decode cX5_trade 24 = .ok (.iload_n 2, 1) := by decide +kernel
theorem dX5_trade_25 : decode cX5_trade 25 = .ok (.iconst 0, 1) := by decide +kernel
theorem dX5_trade_26 : decode cX5_trade 26 = .ok (.iconst 3, 1) := by decide +kernel
theorem dX5_trade_27 : decode cX5_trade 27 = .ok (.invokestatic 97, 3) := by decide +kernel
theorem dX5_trade_30 : decode cX5_trade 30 = .ok (.ifCond .ne 7, 3) := by decide +kernel
theorem dX5_trade_33 : decode cX5_trade 33 = .ok (.iconst 2, 1) := by decide +kernel
theorem dX5_trade_34 : decode cX5_trade 34 = .ok (.goto 4, 3) := by decide +kernel
theorem dX5_trade_37 : decode cX5_trade 37 = .ok (.iconst 0, 1) := by decide +kernel
theorem dX5_trade_38 : decode cX5_trade 38 = .ok (.putfield 93, 3) := by decide +kernel
theorem dX5_trade_41 : decode cX5_trade 41 = .ok (.aload_n 0, 1) := by decide +kernel
theorem dX5_trade_42 : decode cX5_trade 42 = .ok (.getfield 93, 3) := by decide +kernel
theorem dX5_trade_45 : decode cX5_trade 45 = .ok (.ifCond .le 7, 3) := by decide +kernel
theorem dX5_trade_48 : decode cX5_trade 48 = .ok (.iconst 0, 1) := by decide +kernel
theorem dX5_trade_49 : decode cX5_trade 49 = .ok (.goto 13, 3) := by decide +kernel
theorem dX5_trade_52 : decode cX5_trade 52 = .ok (.aload_n 0, 1) := by decide +kernel
theorem dX5_trade_53 : decode cX5_trade 53 = .ok (.getfield 78, 3) := by decide +kernel
theorem dX5_trade_56 : decode cX5_trade 56 = .ok (.iconst 4, 1) := by decide +kernel
theorem dX5_trade_57 : decode cX5_trade 57 = .ok (.iload_n 1, 1) := by decide +kernel
theorem dX5_trade_58 : decode cX5_trade 58 = .ok (.imul, 1) := by decide +kernel
theorem dX5_trade_59 : decode cX5_trade 59 = .ok (.iload_n 2, 1) := by decide +kernel
theorem dX5_trade_60 : decode cX5_trade 60 = .ok (.iadd, 1) := by decide +kernel
theorem dX5_trade_61 : decode cX5_trade 61 = .ok (.iaload, 1) := by decide +kernel
theorem dX5_trade_62 : decode cX5_trade 62 = .ok (.ireturn, 1) := by decide +kernel
set_option maxRecDepth 20000 in
theorem ggX5_symbol_X5_isSymbol : GoodIn wsX5_symbol wsX5_isSymbol := goodIn_r _ [9, 10, 11, 8, 12] (by decide +kernel) (by decide +kernel)
set_option maxRecDepth 20000 in
theorem gX5_symbol_X5_isSymbol : GoodIn wsX5_symbol (va_wsS RX5 108 yX5_isSymbol wsX5_isSymbol) := goodIn_app (goodIn_of _ (by decide +kernel)) ggX5_symbol_X5_isSymbol
set_option maxRecDepth 20000 in
theorem ggX5_symbol_X5_isIn : GoodIn wsX5_symbol wsX5_isIn := goodIn_r _ [12] (by decide +kernel) (by decide +kernel)
set_option maxRecDepth 20000 in
theorem gX5_symbol_X5_isIn : GoodIn wsX5_symbol (va_wsS RX5 97 yX5_isIn wsX5_isIn) := goodIn_app (goodIn_of _ (by decide +kernel)) ggX5_symbol_X5_isIn
theorem dX5_symbol_0 : decode cX5_symbol 0 = .ok (.aload_n 0, 1) := by decide +kernel
theorem dX5_symbol_1 : decode cX5_symbol 1 = .ok (.iload_n 1, 1) := by decide +kernel
theorem dX5_symbol_2 : decode cX5_symbol 2 = .ok (.invokestatic 108, 3) := by decide +kernel
theorem dX5_symbol_5 : decode cX5_symbol 5 = .ok (.ifCond .ne 7, 3) := by decide +kernel
theorem dX5_symbol_8 : decode cX5_symbol 8 = .ok (.iconst 1, 1) := by decide +kernel
theorem dX5_symbol_9 : decode cX5_symbol 9 = .ok (.goto 17, 3) := by decide +kernel
theorem dX5_symbol_12 : decode cX5_symbol 12 = .ok (.iload_n 2, 1) := by decide +kernel
theorem dX5_symbol_13 : decode cX5_symbol 13 = .ok (.iconst 0, 1) := by decide +kernel
theorem dX5_symbol_14 : decode cX5_symbol 14 = .ok (.iconst 3, 1) := by decide +kernel
theorem dX5_symbol_15 : decode cX5_symbol 15 = .ok (.invokestatic 97, 3) := by decide +kernel
theorem dX5_symbol_18 : decode cX5_symbol 18 = .ok (.ifCond .ne 7, 3) := by decide +kernel
theorem dX5_symbol_21 : decode cX5_symbol 21 = .ok (.iconst 2, 1) := by decide +kernel
theorem dX5_symbol_22 : decode cX5_symbol 22 = .ok (.goto 4, 3) := by decide +kernel
theorem dX5_symbol_25 : decode cX5_symbol 25 = .ok (.iconst 0, 1) := by decide +kernel
theorem dX5_symbol_26 : decode cX5_symbol 26 = .ok (.putfield 93, 3) := by decide +kernel
theorem dX5_symbol_29 : decode cX5_symbol 29 = .ok (.aload_n 0, 1) := by decide +kernel
theorem dX5_symbol_30 : decode cX5_symbol 30 = .ok (.getfield 93, 3) := by decide +kernel
theorem dX5_symbol_33 : decode cX5_symbol 33 = .ok (.ifCond .le 7, 3) := by decide +kernel
theorem dX5_symbol_36 : decode cX5_symbol 36 = .ok (.iconst 0, 1) := by decide +kernel
theorem dX5_symbol_37 : decode cX5_symbol 37 = .ok (.goto 50, 3) := by decide +kernel
theorem dX5_symbol_40 : decode cX5_symbol 40 = .ok (.iload_n 2, 1) := by decide +kernel
theorem dX5_symbol_41 : decode cX5_symbol 41 = .ok (.ifCond .ne 12, 3) := by decide +kernel
theorem dX5_symbol_44 : decode cX5_symbol 44 = .ok (.aload_n 0, 1) := by decide +kernel
theorem dX5_symbol_45 : decode cX5_symbol 45 = .ok (.getfield 81, 3) := by decide +kernel
theorem dX5_symbol_48 : decode cX5_symbol 48 = .ok (.iload_n 1, 1) := by decide +kernel
theorem dX5_symbol_49 : decode cX5_symbol 49 = .ok (.iaload, 1) := by decide +kernel
theorem dX5_symbol_50 : decode cX5_symbol 50 = .ok (.goto 37, 3) := by decide +kernel
theorem dX5_symbol_53 : decode cX5_symbol 53 = .ok (.iload_n 2, 1) := by decide +kernel
theorem dX5_symbol_54 : decode cX5_symbol 54 = .ok (.iconst 1, 1) := by decide +kernel
theorem dX5_symbol_55 : decode cX5_symbol 55 = .ok (.if_icmp .ne 12, 3) := by decide +kernel
theorem dX5_symbol_58 : decode cX5_symbol 58 = .ok (.aload_n 0, 1) := by decide +kernel
theorem dX5_symbol_59 : decode cX5_symbol 59 = .ok (.getfield 84, 3) := by decide +kernel
theorem dX5_symbol_62 : decode cX5_symbol 62 = .ok (.iload_n 1, 1) := by decide +kernel
theorem dX5_symbol_63 : decode cX5_symbol 63 = .ok (.iaload, 1) := by decide +kernel
theorem dX5_symbol_64 : decode cX5_symbol 64 = .ok (.goto 23, 3) := by decide +kernel
theorem dX5_symbol_67 : decode cX5_symbol 67 = .ok (.iload_n 2, 1) := by decide +kernel
theorem dX5_symbol_68 : decode cX5_symbol 68 = .ok (.iconst 2, 1) := by decide +kernel
theorem dX5_symbol_69 : decode cX5_symbol 69 = .ok (.if_icmp .ne 12, 3) := by decide +kernel
theorem dX5_symbol_72 : decode cX5_symbol 72 = .ok (.aload_n 0, 1) := by decide +kernel
theorem dX5_symbol_73 : decode cX5_symbol 73 = .ok (.getfield 87, 3) := by decide +kernel
theorem dX5_symbol_76 : decode cX5_symbol 76 = .ok (.iload_n 1, 1) := by decide +kernel
theorem dX5_symbol_77 : decode cX5_symbol 77 = .ok (.iaload, 1) := by decide +kernel
theorem dX5_symbol_78 : decode cX5_symbol 78 = .ok (.goto 9, 3) := by decide +kernel
theorem dX5_symbol_81 : decode cX5_symbol 81 = .ok (.aload_n 0, 1) := by decide +kernel
theorem dX5_symbol_82 : decode cX5_symbol 82 = .ok (.getfield 90, 3) := by decide +kernel
theorem dX5_symbol_85 : decode cX5_symbol 85 = .ok (.iload_n 1, 1) := by decide +kernel
theorem dX5_symbol_86 : decode cX5_symbol 86 = .ok (.iaload, 1) := by decide +kernel
theorem dX5_symbol_87 : decode cX5_symbol 87 = .ok (.ireturn, 1) := by decide +kernel
set_option maxRecDepth 20000 in
theorem ggX5_business_X5_cell : GoodIn wsX5_business wsX5_cell := goodIn_r _ [6] (by decide +kernel) (by decide +kernel)
set_option maxRecDepth 20000 in
theorem gX5_business_X5_cell : GoodIn wsX5_business (va_wsS RX5 112 yX5_cell wsX5_cell) := goodIn_app (goodIn_of _ (by decide +kernel)) ggX5_business_X5_cell
theorem dX5_business_0 : decode cX5_business 0 = .ok (.aload_n 0, 1) := by decide +kernel
theorem dX5_business_1 : decode cX5_business 1 = .ok (.getfield 23, 3) := by decide +kernel
theorem dX5_business_4 : decode cX5_business 4 = .ok (.iload_n 1, 1) := by decide +kernel
theorem dX5_business_5 : decode cX5_business 5 = .ok (.iload_n 2, 1) := by decide +kernel
theorem dX5_business_6 : decode cX5_business 6 = .ok (.invokestatic 112, 3) := by decide +kernel
theorem dX5_business_9 : decode cX5_business 9 = .ok (.iaload, 1) := by decide +kernel
theorem dX5_business_10 : decode cX5_business 10 = .ok (.aload_n 0, 1) := by decide +kernel
theorem dX5_business_11 : decode cX5_business 11 = .ok (.getfield 26, 3) := by decide +kernel
theorem dX5_business_14 : decode cX5_business 14 = .ok (.iload_n 1, 1) := by decide +kernel
theorem dX5_business_15 : decode cX5_business 15 = .ok (.iload_n 2, 1) := by decide +kernel
theorem dX5_business_16 : decode cX5_business 16 = .ok (.invokestatic 112, 3) := by decide +kernel
theorem dX5_business_19 : decode cX5_business 19 = .ok (.iaload, 1) := by decide +kernel
theorem dX5_business_20 : decode cX5_business 20 = .ok (.iadd, 1) := by decide +kernel
theorem dX5_business_21 : decode cX5_business 21 = .ok (.ireturn, 1) := by decide +kernel
set_option maxRecDepth 20000 in
theorem ggX5_busiest_X5_isSymbol : GoodIn wsX5_busiest wsX5_isSymbol := goodIn_r _ [5, 6, 7, 4, 8] (by decide +kernel) (by decide +kernel)
set_option maxRecDepth 20000 in
theorem gX5_busiest_X5_isSymbol : GoodIn wsX5_busiest (va_wsS RX5 108 yX5_isSymbol wsX5_isSymbol) := goodIn_app (goodIn_of _ (by decide +kernel)) ggX5_busiest_X5_isSymbol
set_option maxRecDepth 20000 in
theorem ggX5_busiest_X5_business : GoodIn wsX5_busiest wsX5_business := goodIn_r _ [12, 13, 14, 15, 16, 4, 17, 18, 19, 20, 21, 22, 23, 24, 25, 26, 27, 28, 29, 30, 31, 32, 33, 34, 35, 36, 37, 38, 39, 40, 41, 42, 43, 44, 45, 46, 47, 48, 49] (by decide +kernel) (by decide +kernel)
set_option maxRecDepth 20000 in
theorem gX5_busiest_X5_business : GoodIn wsX5_busiest (wsV RX5 191 RX5 yX5_business wsX5_business) := goodIn_app (goodIn_of _ (by decide +kernel)) ggX5_busiest_X5_business
