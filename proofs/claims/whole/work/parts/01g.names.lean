theorem dX5_free_23 : decode cX5_free 23 = .ok (.aload_n 0, 1) := by decide +kernel
theorem dX5_free_24 : decode cX5_free 24 = .ok (.getfield 45, 3) := by decide +kernel
theorem dX5_free_27 : decode cX5_free 27 = .ok (.iload_n 1, 1) := by decide +kernel
theorem dX5_free_28 : decode cX5_free 28 = .ok (.iaload, 1) := by decide +kernel
theorem dX5_free_29 : decode cX5_free 29 = .ok (.i2l, 1) := by decide +kernel
theorem dX5_free_30 : decode cX5_free 30 = .ok (.iload_n 2, 1) := by decide +kernel
theorem dX5_free_31 : decode cX5_free 31 = .ok (.i2l, 1) := by decide +kernel
theorem dX5_free_32 : decode cX5_free 32 = .ok (.lmul, 1) := by decide +kernel
theorem dX5_free_33 : decode cX5_free 33 = .ok (.lsub, 1) := by decide +kernel
theorem dX5_free_34 : decode cX5_free 34 = .ok (.lastore, 1) := by decide +kernel
theorem dX5_free_35 : decode cX5_free 35 = .ok (.goto 22, 3) := by decide +kernel
theorem dX5_free_38 : decode cX5_free 38 = .ok (.aload_n 0, 1) := by decide +kernel
theorem dX5_free_39 : decode cX5_free 39 = .ok (.getfield 20, 3) := by decide +kernel
theorem dX5_free_42 : decode cX5_free 42 = .ok (.iload_n 3, 1) := by decide +kernel
theorem dX5_free_43 : decode cX5_free 43 = .ok (.aload_n 0, 1) := by decide +kernel
theorem dX5_free_44 : decode cX5_free 44 = .ok (.getfield 36, 3) := by decide +kernel
theorem dX5_free_47 : decode cX5_free 47 = .ok (.iload_n 1, 1) := by decide +kernel
theorem dX5_free_48 : decode cX5_free 48 = .ok (.iaload, 1) := by decide +kernel
theorem dX5_free_49 : decode cX5_free 49 = .ok (.invokestatic 112, 3) := by decide +kernel
theorem dX5_free_52 : decode cX5_free 52 = .ok (.dup2, 1) := by decide +kernel
theorem dX5_free_53 : decode cX5_free 53 = .ok (.iaload, 1) := by decide +kernel
theorem dX5_free_54 : decode cX5_free 54 = .ok (.iload_n 2, 1) := by decide +kernel
theorem dX5_free_55 : decode cX5_free 55 = .ok (.isub, 1) := by decide +kernel
theorem dX5_free_56 : decode cX5_free 56 = .ok (.iastore, 1) := by decide +kernel
theorem dX5_free_57 : decode cX5_free 57 = .ok (.return_, 1) := by decide +kernel
set_option maxRecDepth 20000 in
theorem ggX5_cancelled_X5_free : GoodIn wsX5_cancelled wsX5_free := goodIn_r _ [8, 9, 10, 11, 12, 13, 14, 15, 16, 7, 17, 18, 19, 20, 21, 22, 23, 24, 25, 26, 27, 28, 29, 30, 31, 32, 33, 34, 35, 36, 37, 38, 39, 40, 41, 42, 43, 44, 45, 46, 47, 48, 49] (by decide +kernel) (by decide +kernel)
set_option maxRecDepth 20000 in
theorem gX5_cancelled_X5_free : GoodIn wsX5_cancelled (wsV RX5 128 RX5 yX5_free wsX5_free) := goodIn_app (goodIn_of _ (by decide +kernel)) ggX5_cancelled_X5_free
theorem dX5_cancelled_0 : decode cX5_cancelled 0 = .ok (.aload_n 0, 1) := by decide +kernel
theorem dX5_cancelled_1 : decode cX5_cancelled 1 = .ok (.iload_n 1, 1) := by decide +kernel
theorem dX5_cancelled_2 : decode cX5_cancelled 2 = .ok (.aload_n 0, 1) := by decide +kernel
theorem dX5_cancelled_3 : decode cX5_cancelled 3 = .ok (.getfield 48, 3) := by decide +kernel
theorem dX5_cancelled_6 : decode cX5_cancelled 6 = .ok (.iload_n 1, 1) := by decide +kernel
theorem dX5_cancelled_7 : decode cX5_cancelled 7 = .ok (.iaload, 1) := by decide +kernel
theorem dX5_cancelled_8 : decode cX5_cancelled 8 = .ok (.invokevirtual 128, 3) := by decide +kernel
theorem dX5_cancelled_11 : decode cX5_cancelled 11 = .ok (.aload_n 0, 1) := by decide +kernel
theorem dX5_cancelled_12 : decode cX5_cancelled 12 = .ok (.getfield 48, 3) := by decide +kernel
theorem dX5_cancelled_15 : decode cX5_cancelled 15 = .ok (.iload_n 1, 1) := by decide +kernel
theorem dX5_cancelled_16 : decode cX5_cancelled 16 = .ok (.iconst 0, 1) := by decide +kernel
theorem dX5_cancelled_17 : decode cX5_cancelled 17 = .ok (.iastore, 1) := by decide +kernel
theorem dX5_cancelled_18 : decode cX5_cancelled 18 = .ok (.aload_n 0, 1) := by decide +kernel
theorem dX5_cancelled_19 : decode cX5_cancelled 19 = .ok (.getfield 51, 3) := by decide +kernel
theorem dX5_cancelled_22 : decode cX5_cancelled 22 = .ok (.iload_n 1, 1) := by decide +kernel
theorem dX5_cancelled_23 : decode cX5_cancelled 23 = .ok (.iconst 0, 1) := by decide +kernel
theorem dX5_cancelled_24 : decode cX5_cancelled 24 = .ok (.iastore, 1) := by decide +kernel
theorem dX5_cancelled_25 : decode cX5_cancelled 25 = .ok (.aload_n 0, 1) := by decide +kernel
theorem dX5_cancelled_26 : decode cX5_cancelled 26 = .ok (.getfield 57, 3) := by decide +kernel
theorem dX5_cancelled_29 : decode cX5_cancelled 29 = .ok (.iload_n 1, 1) := by decide +kernel
theorem dX5_cancelled_30 : decode cX5_cancelled 30 = .ok (.iconst 3, 1) := by decide +kernel
theorem dX5_cancelled_31 : decode cX5_cancelled 31 = .ok (.iastore, 1) := by decide +kernel
theorem dX5_cancelled_32 : decode cX5_cancelled 32 = .ok (.return_, 1) := by decide +kernel
set_option maxRecDepth 20000 in
theorem ggX5_exchange_X5_free : GoodIn wsX5_exchange wsX5_free := goodIn_r _ [19, 4, 3, 20, 2, 21, 1, 22, 23, 18, 24, 25, 26, 27, 28, 29, 30, 31, 32, 33, 34, 35, 36, 37, 38, 39, 40, 41, 42, 43, 44, 45, 46, 47, 48, 49, 50, 51, 52, 53, 54, 55, 56] (by decide +kernel) (by decide +kernel)
set_option maxRecDepth 20000 in
theorem gX5_exchange_X5_free : GoodIn wsX5_exchange (wsV RX5 128 RX5 yX5_free wsX5_free) := goodIn_app (goodIn_of _ (by decide +kernel)) ggX5_exchange_X5_free
set_option maxRecDepth 20000 in
theorem ggX5_exchange_X5_cell : GoodIn wsX5_exchange wsX5_cell := goodIn_r _ [24] (by decide +kernel) (by decide +kernel)
set_option maxRecDepth 20000 in
theorem gX5_exchange_X5_cell : GoodIn wsX5_exchange (va_wsS RX5 112 yX5_cell wsX5_cell) := goodIn_app (goodIn_of _ (by decide +kernel)) ggX5_exchange_X5_cell
theorem dX5_exchange_0 : decode cX5_exchange 0 = .ok (.aload_n 0, 1) := by decide +kernel
theorem dX5_exchange_1 : decode cX5_exchange 1 = .ok (.getfield 36, 3) := by decide +kernel
theorem dX5_exchange_4 : decode cX5_exchange 4 = .ok (.iload_n 1, 1) := by decide +kernel
theorem dX5_exchange_5 : decode cX5_exchange 5 = .ok (.iaload, 1) := by decide +kernel
theorem dX5_exchange_6 : decode cX5_exchange 6 = .ok (.istore 4, 2) := by decide +kernel
theorem dX5_exchange_8 : decode cX5_exchange 8 = .ok (.aload_n 0, 1) := by decide +kernel
theorem dX5_exchange_9 : decode cX5_exchange 9 = .ok (.getfield 45, 3) := by decide +kernel
theorem dX5_exchange_12 : decode cX5_exchange 12 = .ok (.iload_n 2, 1) := by decide +kernel
theorem dX5_exchange_13 : decode cX5_exchange 13 = .ok (.iaload, 1) := by decide +kernel
theorem dX5_exchange_14 : decode cX5_exchange 14 = .ok (.istore 5, 2) := by decide +kernel
theorem dX5_exchange_16 : decode cX5_exchange 16 = .ok (.aload_n 0, 1) := by decide +kernel
theorem dX5_exchange_17 : decode cX5_exchange 17 = .ok (.getfield 39, 3) := by decide +kernel
theorem dX5_exchange_20 : decode cX5_exchange 20 = .ok (.iload_n 1, 1) := by decide +kernel
theorem dX5_exchange_21 : decode cX5_exchange 21 = .ok (.iaload, 1) := by decide +kernel
theorem dX5_exchange_22 : decode cX5_exchange 22 = .ok (.ifCond .ne 12, 3) := by decide +kernel
theorem dX5_exchange_25 : decode cX5_exchange 25 = .ok (.aload_n 0, 1) := by decide +kernel
theorem dX5_exchange_26 : decode cX5_exchange 26 = .ok (.getfield 33, 3) := by decide +kernel
theorem dX5_exchange_29 : decode cX5_exchange 29 = .ok (.iload_n 1, 1) := by decide +kernel
theorem dX5_exchange_30 : decode cX5_exchange 30 = .ok (.iaload, 1) := by decide +kernel
theorem dX5_exchange_31 : decode cX5_exchange 31 = .ok (.goto 9, 3) := by decide +kernel
theorem dX5_exchange_34 : decode cX5_exchange 34 = .ok (.aload_n 0, 1) := by decide +kernel
theorem dX5_exchange_35 : decode cX5_exchange 35 = .ok (.getfield 33, 3) := by decide +kernel
theorem dX5_exchange_38 : decode cX5_exchange 38 = .ok (.iload_n 2, 1) := by decide +kernel
theorem dX5_exchange_39 : decode cX5_exchange 39 = .ok (.iaload, 1) := by decide +kernel
theorem dX5_exchange_40 : decode cX5_exchange 40 = .ok (.istore 6, 2) := by decide +kernel
theorem dX5_exchange_42 : decode cX5_exchange 42 = .ok (.aload_n 0, 1) := by decide +kernel
theorem dX5_exchange_43 : decode cX5_exchange 43 = .ok (.getfield 39, 3) := by decide +kernel
theorem dX5_exchange_46 : decode cX5_exchange 46 = .ok (.iload_n 1, 1) := by decide +kernel
theorem dX5_exchange_47 : decode cX5_exchange 47 = .ok (.iaload, 1) := by decide +kernel
theorem dX5_exchange_48 : decode cX5_exchange 48 = .ok (.ifCond .ne 12, 3) := by decide +kernel
theorem dX5_exchange_51 : decode cX5_exchange 51 = .ok (.aload_n 0, 1) := by decide +kernel
theorem dX5_exchange_52 : decode cX5_exchange 52 = .ok (.getfield 33, 3) := by decide +kernel
theorem dX5_exchange_55 : decode cX5_exchange 55 = .ok (.iload_n 2, 1) := by decide +kernel
theorem dX5_exchange_56 : decode cX5_exchange 56 = .ok (.iaload, 1) := by decide +kernel
theorem dX5_exchange_57 : decode cX5_exchange 57 = .ok (.goto 9, 3) := by decide +kernel
theorem dX5_exchange_60 : decode cX5_exchange 60 = .ok (.aload_n 0, 1) := by decide +kernel
theorem dX5_exchange_61 : decode cX5_exchange 61 = .ok (.getfield 33, 3) := by decide +kernel
theorem dX5_exchange_64 : decode cX5_exchange 64 = .ok (.iload_n 1, 1) := by decide +kernel
theorem dX5_exchange_65 : decode cX5_exchange 65 = .ok (.iaload, 1) := by decide +kernel
theorem dX5_exchange_66 : decode cX5_exchange 66 = .ok (.istore 7, 2) := by decide +kernel
theorem dX5_exchange_68 : decode cX5_exchange 68 = .ok (.aload_n 0, 1) := by decide +kernel
theorem dX5_exchange_69 : decode cX5_exchange 69 = .ok (.iload_n 1, 1) := by decide +kernel
theorem dX5_exchange_70 : decode cX5_exchange 70 = .ok (.iload_n 3, 1) := by decide +kernel
theorem dX5_exchange_71 : decode cX5_exchange 71 = .ok (.invokevirtual 128, 3) := by decide +kernel
theorem dX5_exchange_74 : decode cX5_exchange 74 = .ok (.aload_n 0, 1) := by decide +kernel
theorem dX5_exchange_75 : decode cX5_exchange 75 = .ok (.iload_n 2, 1) := by decide +kernel
theorem dX5_exchange_76 : decode cX5_exchange 76 = .ok (.iload_n 3, 1) := by decide +kernel
theorem dX5_exchange_77 : decode cX5_exchange 77 = .ok (.invokevirtual 128, 3) := by decide +kernel
theorem dX5_exchange_80 : decode cX5_exchange 80 = .ok (.aload_n 0, 1) := by decide +kernel
theorem dX5_exchange_81 : decode cX5_exchange 81 = .ok (.getfield 7, 3) := by decide +kernel
theorem dX5_exchange_84 : decode cX5_exchange 84 = .ok (.iload 6, 2) := by decide +kernel
theorem dX5_exchange_86 : decode cX5_exchange 86 = .ok (.dup2, 1) := by decide +kernel
theorem dX5_exchange_87 : decode cX5_exchange 87 = .ok (.laload, 1) := by decide +kernel
theorem dX5_exchange_88 : decode cX5_exchange 88 = .ok (.iload 5, 2) := by decide +kernel
theorem dX5_exchange_90 : decode cX5_exchange 90 = .ok (.i2l, 1) := by decide +kernel
theorem dX5_exchange_91 : decode cX5_exchange 91 = .ok (.iload_n 3, 1) := by decide +kernel
theorem dX5_exchange_92 : decode cX5_exchange 92 = .ok (.i2l, 1) := by decide +kernel
theorem dX5_exchange_93 : decode cX5_exchange 93 = .ok (.lmul, 1) := by decide +kernel
theorem dX5_exchange_94 : decode cX5_exchange 94 = .ok (.lsub, 1) := by decide +kernel
theorem dX5_exchange_95 : decode cX5_exchange 95 = .ok (.lastore, 1) := by decide +kernel
theorem dX5_exchange_96 : decode cX5_exchange 96 = .ok (.aload_n 0, 1) := by decide +kernel
theorem dX5_exchange_97 : decode cX5_exchange 97 = .ok (.getfield 7, 3) := by decide +kernel
theorem dX5_exchange_100 : decode cX5_exchange 100 = .ok (.iload 7, 2) := by decide +kernel
theorem dX5_exchange_102 : decode cX5_exchange 102 = .ok (.dup2, 1) := by decide +kernel
theorem dX5_exchange_103 : decode cX5_exchange 103 = .ok (.laload, 1) := by decide +kernel
theorem dX5_exchange_104 : decode cX5_exchange 104 = .ok (.iload 5, 2) := by decide +kernel
theorem dX5_exchange_106 : decode cX5_exchange 106 = .ok (.i2l, 1) := by decide +kernel
theorem dX5_exchange_107 : decode cX5_exchange 107 = .ok (.iload_n 3, 1) := by decide +kernel
theorem dX5_exchange_108 : decode cX5_exchange 108 = .ok (.i2l, 1) := by decide +kernel
theorem dX5_exchange_109 : decode cX5_exchange 109 = .ok (.lmul, 1) := by decide +kernel
theorem dX5_exchange_110 : decode cX5_exchange 110 = .ok (.ladd, 1) := by decide +kernel
theorem dX5_exchange_111 : decode cX5_exchange 111 = .ok (.lastore, 1) := by decide +kernel
theorem dX5_exchange_112 : decode cX5_exchange 112 = .ok (.aload_n 0, 1) := by decide +kernel
theorem dX5_exchange_113 : decode cX5_exchange 113 = .ok (.getfield 16, 3) := by decide +kernel
theorem dX5_exchange_116 : decode cX5_exchange 116 = .ok (.iload 6, 2) := by decide +kernel
theorem dX5_exchange_118 : decode cX5_exchange 118 = .ok (.iload 4, 2) := by decide +kernel
theorem dX5_exchange_120 : decode cX5_exchange 120 = .ok (.invokestatic 112, 3) := by decide +kernel
theorem dX5_exchange_123 : decode cX5_exchange 123 = .ok (.dup2, 1) := by decide +kernel
theorem dX5_exchange_124 : decode cX5_exchange 124 = .ok (.iaload, 1) := by decide +kernel
theorem dX5_exchange_125 : decode cX5_exchange 125 = .ok (.iload_n 3, 1) := by decide +kernel
theorem dX5_exchange_126 : decode cX5_exchange 126 = .ok (.iadd, 1) := by decide +kernel
theorem dX5_exchange_127 : decode cX5_exchange 127 = .ok (.iastore, 1) := by decide +kernel
theorem dX5_exchange_128 : decode cX5_exchange 128 = .ok (.aload_n 0, 1) := by decide +kernel
theorem dX5_exchange_129 : decode cX5_exchange 129 = .ok (.getfield 16, 3) := by decide +kernel
theorem dX5_exchange_132 : decode cX5_exchange 132 = .ok (.iload 7, 2) := by decide +kernel
theorem dX5_exchange_134 : decode cX5_exchange 134 = .ok (.iload 4, 2) := by decide +kernel
theorem dX5_exchange_136 : decode cX5_exchange 136 = .ok (.invokestatic 112, 3) := by decide +kernel
theorem dX5_exchange_139 : decode cX5_exchange 139 = .ok (.dup2, 1) := by decide +kernel
theorem dX5_exchange_140 : decode cX5_exchange 140 = .ok (.iaload, 1) := by decide +kernel
theorem dX5_exchange_141 : decode cX5_exchange 141 = .ok (.iload_n 3, 1) := by decide +kernel
theorem dX5_exchange_142 : decode cX5_exchange 142 = .ok (.isub, 1) := by decide +kernel
theorem dX5_exchange_143 : decode cX5_exchange 143 = .ok (.iastore, 1) := by decide +kernel
theorem dX5_exchange_144 : decode cX5_exchange 144 = .ok (.aload_n 0, 1) := by decide +kernel
theorem dX5_exchange_145 : decode cX5_exchange 145 = .ok (.getfield 23, 3) := by decide +kernel
theorem dX5_exchange_148 : decode cX5_exchange 148 = .ok (.iload 6, 2) := by decide +kernel
theorem dX5_exchange_150 : decode cX5_exchange 150 = .ok (.iload 4, 2) := by decide +kernel
theorem dX5_exchange_152 : decode cX5_exchange 152 = .ok (.invokestatic 112, 3) := by decide +kernel
theorem dX5_exchange_155 : decode cX5_exchange 155 = .ok (.dup2, 1) := by decide +kernel
theorem dX5_exchange_156 : decode cX5_exchange 156 = .ok (.iaload, 1) := by decide +kernel
theorem dX5_exchange_157 : decode cX5_exchange 157 = .ok (.iload_n 3, 1) := by decide +kernel
theorem dX5_exchange_158 : decode cX5_exchange 158 = .ok (.iadd, 1) := by decide +kernel
theorem dX5_exchange_159 : decode cX5_exchange 159 = .ok (.iastore, 1) := by decide +kernel
theorem dX5_exchange_160 : decode cX5_exchange 160 = .ok (.aload_n 0, 1) := by decide +kernel
theorem dX5_exchange_161 : decode cX5_exchange 161 = .ok (.getfield 26, 3) := by decide +kernel
theorem dX5_exchange_164 : decode cX5_exchange 164 = .ok (.iload 7, 2) := by decide +kernel
theorem dX5_exchange_166 : decode cX5_exchange 166 = .ok (.iload 4, 2) := by decide +kernel
theorem dX5_exchange_168 : decode cX5_exchange 168 = .ok (.invokestatic 112, 3) := by decide +kernel
theorem dX5_exchange_171 : decode cX5_exchange 171 = .ok (.dup2, 1) := by decide +kernel
theorem dX5_exchange_172 : decode cX5_exchange 172 = .ok (.iaload, 1) := by decide +kernel
theorem dX5_exchange_173 : decode cX5_exchange 173 = .ok (.iload_n 3, 1) := by decide +kernel
theorem dX5_exchange_174 : decode cX5_exchange 174 = .ok (.iadd, 1) := by decide +kernel
theorem dX5_exchange_175 : decode cX5_exchange 175 = .ok (.iastore, 1) := by decide +kernel
theorem dX5_exchange_176 : decode cX5_exchange 176 = .ok (.aload_n 0, 1) := by decide +kernel
theorem dX5_exchange_177 : decode cX5_exchange 177 = .ok (.getfield 132, 3) := by decide +kernel
theorem dX5_exchange_180 : decode cX5_exchange 180 = .ok (.sipush 300, 3) := by decide +kernel
theorem dX5_exchange_183 : decode cX5_exchange 183 = .ok (.if_icmp .ge 58, 3) := by decide +kernel
theorem dX5_exchange_186 : decode cX5_exchange 186 = .ok (.aload_n 0, 1) := by decide +kernel
theorem dX5_exchange_187 : decode cX5_exchange 187 = .ok (.getfield 78, 3) := by decide +kernel
theorem dX5_exchange_190 : decode cX5_exchange 190 = .ok (.iconst 4, 1) := by decide +kernel
theorem dX5_exchange_191 : decode cX5_exchange 191 = .ok (.aload_n 0, 1) := by decide +kernel
theorem dX5_exchange_192 : decode cX5_exchange 192 = .ok (.getfield 132, 3) := by decide +kernel
theorem dX5_exchange_195 : decode cX5_exchange 195 = .ok (.imul, 1) := by decide +kernel
theorem dX5_exchange_196 : decode cX5_exchange 196 = .ok (.iload_n 1, 1) := by decide +kernel
theorem dX5_exchange_197 : decode cX5_exchange 197 = .ok (.iastore, 1) := by decide +kernel
theorem dX5_exchange_198 : decode cX5_exchange 198 = .ok (.aload_n 0, 1) := by decide +kernel
theorem dX5_exchange_199 : decode cX5_exchange 199 = .ok (.getfield 78, 3) := by decide +kernel
theorem dX5_exchange_202 : decode cX5_exchange 202 = .ok (.iconst 4, 1) := by decide +kernel
theorem dX5_exchange_203 : decode cX5_exchange 203 = .ok (.aload_n 0, 1) := by decide +kernel
theorem dX5_exchange_204 : decode cX5_exchange 204 = .ok (.getfield 132, 3) := by decide +kernel
theorem dX5_exchange_207 : decode cX5_exchange 207 = .ok (.imul, 1) := by decide +kernel
theorem dX5_exchange_208 : decode cX5_exchange 208 = .ok (.iconst 1, 1) := by decide +kernel
theorem dX5_exchange_209 : decode cX5_exchange 209 = .ok (.iadd, 1) := by decide +kernel
theorem dX5_exchange_210 : decode cX5_exchange 210 = .ok (.iload_n 2, 1) := by decide +kernel
theorem dX5_exchange_211 : decode cX5_exchange 211 = .ok (.iastore, 1) := by decide +kernel
theorem dX5_exchange_212 : decode cX5_exchange 212 = .ok (.aload_n 0, 1) := by decide +kernel
theorem dX5_exchange_213 : decode cX5_exchange 213 = .ok (.getfield 78, 3) := by decide +kernel
theorem dX5_exchange_216 : decode cX5_exchange 216 = .ok (.iconst 4, 1) := by decide +kernel
theorem dX5_exchange_217 : decode cX5_exchange 217 = .ok (.aload_n 0, 1) := by decide +kernel
theorem dX5_exchange_218 : decode cX5_exchange 218 = .ok (.getfield 132, 3) := by decide +kernel
theorem dX5_exchange_221 : decode cX5_exchange 221 = .ok (.imul, 1) := by decide +kernel
theorem dX5_exchange_222 : decode cX5_exchange 222 = .ok (.iconst 2, 1) := by decide +kernel
theorem dX5_exchange_223 : decode cX5_exchange 223 = .ok (.iadd, 1) := by decide +kernel
theorem dX5_exchange_224 : decode cX5_exchange 224 = .ok (.iload 5, 2) := by decide +kernel
theorem dX5_exchange_226 : decode cX5_exchange 226 = .ok (.iastore, 1) := by decide +kernel
theorem dX5_exchange_227 : decode cX5_exchange 227 = .ok (.aload_n 0, 1) := by decide +kernel
theorem dX5_exchange_228 : decode cX5_exchange 228 = .ok (.getfield 78, 3) := by decide +kernel
theorem dX5_exchange_231 : decode cX5_exchange 231 = .ok (.iconst 4, 1) := by decide +kernel
theorem dX5_exchange_232 : decode cX5_exchange 232 = .ok (.aload_n 0, 1) := by decide +kernel
theorem dX5_exchange_233 : decode cX5_exchange 233 = .ok (.getfield 132, 3) := by decide +kernel
theorem dX5_exchange_236 : decode cX5_exchange 236 = .ok (.imul, 1) := by decide +kernel
theorem dX5_exchange_237 : decode cX5_exchange 237 = .ok (.iconst 3, 1) := by decide +kernel
theorem dX5_exchange_238 : decode cX5_exchange 238 = .ok (.iadd, 1) := by decide +kernel
theorem dX5_exchange_239 : decode cX5_exchange 239 = .ok (.iload_n 3, 1) := by decide +kernel
theorem dX5_exchange_240 : decode cX5_exchange 240 = .ok (.iastore, 1) := by decide +kernel
theorem dX5_exchange_241 : decode cX5_exchange 241 = .ok (.aload_n 0, 1) := by decide +kernel
theorem dX5_exchange_242 : decode cX5_exchange 242 = .ok (.dup, 1) := by decide +kernel
theorem dX5_exchange_243 : decode cX5_exchange 243 = .ok (.getfield 132, 3) := by decide +kernel
theorem dX5_exchange_246 : decode cX5_exchange 246 = .ok (.iconst 1, 1) := by decide +kernel
theorem dX5_exchange_247 : decode cX5_exchange 247 = .ok (.iadd, 1) := by decide +kernel
theorem dX5_exchange_248 : decode cX5_exchange 248 = .ok (.putfield 132, 3) := by decide +kernel
theorem dX5_exchange_251 : decode cX5_exchange 251 = .ok (.aload_n 0, 1) := by decide +kernel
theorem dX5_exchange_252 : decode cX5_exchange 252 = .ok (.getfield 81, 3) := by decide +kernel
theorem dX5_exchange_255 : decode cX5_exchange 255 = .ok (.iload 4, 2) := by decide +kernel
theorem dX5_exchange_257 : decode cX5_exchange 257 = .ok (.iload 5, 2) := by decide +kernel
theorem dX5_exchange_259 : decode cX5_exchange 259 = .ok (.iastore, 1) := by decide +kernel
theorem dX5_exchange_260 : decode cX5_exchange 260 = .ok (.aload_n 0, 1) := by decide +kernel
theorem dX5_exchange_261 : decode cX5_exchange 261 = .ok (.getfield 84, 3) := by decide +kernel
theorem dX5_exchange_264 : decode cX5_exchange 264 = .ok (.iload 4, 2) := by decide +kernel
theorem dX5_exchange_266 : decode cX5_exchange 266 = .ok (.aload_n 0, 1) := by decide +kernel
theorem dX5_exchange_267 : decode cX5_exchange 267 = .ok (.getfield 84, 3) := by decide +kernel
theorem dX5_exchange_270 : decode cX5_exchange 270 = .ok (.iload 4, 2) := by decide +kernel
theorem dX5_exchange_272 : decode cX5_exchange 272 = .ok (.iaload, 1) := by decide +kernel
theorem dX5_exchange_273 : decode cX5_exchange 273 = .ok (.ifCond .eq 15, 3) := by decide +kernel
theorem dX5_exchange_276 : decode cX5_exchange 276 = .ok (.iload 5, 2) := by decide +kernel
theorem dX5_exchange_278 : decode cX5_exchange 278 = .ok (.aload_n 0, 1) := by decide +kernel
theorem dX5_exchange_279 : decode cX5_exchange 279 = .ok (.getfield 84, 3) := by decide +kernel
theorem dX5_exchange_282 : decode cX5_exchange 282 = .ok (.iload 4, 2) := by decide +kernel
theorem dX5_exchange_284 : decode cX5_exchange 284 = .ok (.iaload, 1) := by decide +kernel
theorem dX5_exchange_285 : decode cX5_exchange 285 = .ok (.if_icmp .le 8, 3) := by decide +kernel
theorem dX5_exchange_288 : decode cX5_exchange 288 = .ok (.iload 5, 2) := by decide +kernel
theorem dX5_exchange_290 : decode cX5_exchange 290 = .ok (.goto 10, 3) := by decide +kernel
theorem dX5_exchange_293 : decode cX5_exchange 293 = .ok (.aload_n 0, 1) := by decide +kernel
theorem dX5_exchange_294 : decode cX5_exchange 294 = .ok (.getfield 84, 3) := by decide +kernel
theorem dX5_exchange_297 : decode cX5_exchange 297 = .ok (.iload 4, 2) := by decide +kernel
theorem dX5_exchange_299 : decode cX5_exchange 299 = .ok (.iaload, 1) := by decide +kernel
theorem dX5_exchange_300 : decode cX5_exchange 300 = .ok (.iastore, 1) := by decide +kernel
theorem dX5_exchange_301 : decode cX5_exchange 301 = .ok (.aload_n 0, 1) := by decide +kernel
theorem dX5_exchange_302 : decode cX5_exchange 302 = .ok (.getfield 87, 3) := by decide +kernel
theorem dX5_exchange_305 : decode cX5_exchange 305 = .ok (.iload 4, 2) := by decide +kernel
theorem dX5_exchange_307 : decode cX5_exchange 307 = .ok (.aload_n 0, 1) := by decide +kernel
theorem dX5_exchange_308 : decode cX5_exchange 308 = .ok (.getfield 87, 3) := by decide +kernel
theorem dX5_exchange_311 : decode cX5_exchange 311 = .ok (.iload 4, 2) := by decide +kernel
theorem dX5_exchange_313 : decode cX5_exchange 313 = .ok (.iaload, 1) := by decide +kernel
theorem dX5_exchange_314 : decode cX5_exchange 314 = .ok (.ifCond .eq 15, 3) := by decide +kernel
theorem dX5_exchange_317 : decode cX5_exchange 317 = .ok (.iload 5, 2) := by decide +kernel
theorem dX5_exchange_319 : decode cX5_exchange 319 = .ok (.aload_n 0, 1) := by decide +kernel
theorem dX5_exchange_320 : decode cX5_exchange 320 = .ok (.getfield 87, 3) := by decide +kernel
theorem dX5_exchange_323 : decode cX5_exchange 323 = .ok (.iload 4, 2) := by decide +kernel
theorem dX5_exchange_325 : decode cX5_exchange 325 = .ok (.iaload, 1) := by decide +kernel
theorem dX5_exchange_326 : decode cX5_exchange 326 = .ok (.if_icmp .ge 8, 3) := by decide +kernel
theorem dX5_exchange_329 : decode cX5_exchange 329 = .ok (.iload 5, 2) := by decide +kernel
theorem dX5_exchange_331 : decode cX5_exchange 331 = .ok (.goto 10, 3) := by decide +kernel
theorem dX5_exchange_334 : decode cX5_exchange 334 = .ok (.aload_n 0, 1) := by decide +kernel
theorem dX5_exchange_335 : decode cX5_exchange 335 = .ok (.getfield 87, 3) := by decide +kernel
theorem dX5_exchange_338 : decode cX5_exchange 338 = .ok (.iload 4, 2) := by decide +kernel
theorem dX5_exchange_340 : decode cX5_exchange 340 = .ok (.iaload, 1) := by decide +kernel
theorem dX5_exchange_341 : decode cX5_exchange 341 = .ok (.iastore, 1) := by decide +kernel
theorem dX5_exchange_342 : decode cX5_exchange 342 = .ok (.aload_n 0, 1) := by decide +kernel
theorem dX5_exchange_343 : decode cX5_exchange 343 = .ok (.getfield 90, 3) := by decide +kernel
theorem dX5_exchange_346 : decode cX5_exchange 346 = .ok (.iload 4, 2) := by decide +kernel
theorem dX5_exchange_348 : decode cX5_exchange 348 = .ok (.dup2, 1) := by decide +kernel
theorem dX5_exchange_349 : decode cX5_exchange 349 = .ok (.iaload, 1) := by decide +kernel
theorem dX5_exchange_350 : decode cX5_exchange 350 = .ok (.iload_n 3, 1) := by decide +kernel
theorem dX5_exchange_351 : decode cX5_exchange 351 = .ok (.iadd, 1) := by decide +kernel
theorem dX5_exchange_352 : decode cX5_exchange 352 = .ok (.iastore, 1) := by decide +kernel
theorem dX5_exchange_353 : decode cX5_exchange 353 = .ok (.return_, 1) := by decide +kernel
set_option maxRecDepth 20000 in
theorem ggX5_match_X5_first : GoodIn wsX5_match wsX5_first := goodIn_r _ [15, 16, 17, 9, 18, 19, 20, 14, 21, 7, 1, 2, 22, 23, 24, 52, 53, 54, 55, 56, 57, 58, 59, 60, 61, 62, 63, 64, 65, 66, 67, 68, 69, 70, 71, 72, 73, 74, 75, 76, 77, 78, 79, 80, 81, 82, 83] (by decide +kernel) (by decide +kernel)
set_option maxRecDepth 20000 in
theorem gX5_match_X5_first : GoodIn wsX5_match (wsV RX5 135 RX5 yX5_first wsX5_first) := goodIn_app (goodIn_of _ (by decide +kernel)) ggX5_match_X5_first
set_option maxRecDepth 20000 in
theorem ggX5_match_X5_allows : GoodIn wsX5_match wsX5_allows := goodIn_r _ [28, 2, 17, 52, 53, 54, 55, 56, 57, 58, 59, 60, 61, 62, 63, 64, 65, 66, 67, 68, 69, 70, 71, 72, 73, 74, 75, 76, 77, 78, 79, 80, 81, 82, 83] (by decide +kernel) (by decide +kernel)
set_option maxRecDepth 20000 in
theorem gX5_match_X5_allows : GoodIn wsX5_match (wsV RX5 138 RX5 yX5_allows wsX5_allows) := goodIn_app (goodIn_of _ (by decide +kernel)) ggX5_match_X5_allows
set_option maxRecDepth 20000 in
theorem ggX5_match_X5_exchange : GoodIn wsX5_match wsX5_exchange := goodIn_r _ [32, 1, 17, 2, 4, 33, 34, 35, 36, 37, 38, 39, 40, 41, 42, 43, 44, 45, 14, 46, 47, 48, 49, 50, 51, 52, 53, 54, 55, 56, 57, 58, 59, 60, 61, 62, 63, 64, 65, 66, 67, 68, 69, 70, 71, 72, 73, 74, 75, 76, 77, 78, 79, 80, 81, 82, 83] (by decide +kernel) (by decide +kernel)
set_option maxRecDepth 20000 in
theorem gX5_match_X5_exchange : GoodIn wsX5_match (wsV RX5 142 RX5 yX5_exchange wsX5_exchange) := goodIn_app (goodIn_of _ (by decide +kernel)) ggX5_match_X5_exchange
theorem dX5_match_0 : decode cX5_match 0 = .ok (.iconst 0, 1) := by decide +kernel
theorem dX5_match_1 : decode cX5_match 1 = .ok (.istore_n 2, 1) := by decide +kernel
theorem dX5_match_2 : decode cX5_match 2 = .ok (.aload_n 0, 1) := by decide +kernel
theorem dX5_match_3 : decode cX5_match 3 = .ok (.aload_n 0, 1) := by decide +kernel
theorem dX5_match_4 : decode cX5_match 4 = .ok (.getfield 36, 3) := by decide +kernel
theorem dX5_match_7 : decode cX5_match 7 = .ok (.iload_n 1, 1) := by decide +kernel
theorem dX5_match_8 : decode cX5_match 8 = .ok (.iaload, 1) := by decide +kernel
theorem dX5_match_9 : decode cX5_match 9 = .ok (.iconst 1, 1) := by decide +kernel
theorem dX5_match_10 : decode cX5_match 10 = .ok (.aload_n 0, 1) := by decide +kernel
theorem dX5_match_11 : decode cX5_match 11 = .ok (.getfield 39, 3) := by decide +kernel
theorem dX5_match_14 : decode cX5_match 14 = .ok (.iload_n 1, 1) := by decide +kernel
theorem dX5_match_15 : decode cX5_match 15 = .ok (.iaload, 1) := by decide +kernel
theorem dX5_match_16 : decode cX5_match 16 = .ok (.isub, 1) := by decide +kernel
theorem dX5_match_17 : decode cX5_match 17 = .ok (.invokevirtual 135, 3) := by decide +kernel
theorem dX5_match_20 : decode cX5_match 20 = .ok (.istore_n 3, 1) := by decide +kernel
theorem dX5_match_21 : decode cX5_match 21 = .ok (.aload_n 0, 1) := by decide +kernel
theorem dX5_match_22 : decode cX5_match 22 = .ok (.getfield 48, 3) := by decide +kernel
theorem dX5_match_25 : decode cX5_match 25 = .ok (.iload_n 1, 1) := by decide +kernel
theorem dX5_match_26 : decode cX5_match 26 = .ok (.iaload, 1) := by decide +kernel
theorem dX5_match_27 : decode cX5_match 27 = .ok (.ifCond .le 247, 3) := by decide +kernel
theorem dX5_match_30 : decode cX5_match 30 = .ok (.iload_n 2, 1) := by decide +kernel
theorem dX5_match_31 : decode cX5_match 31 = .ok (.ifCond .ne 243, 3) := by decide +kernel
theorem dX5_match_34 : decode cX5_match 34 = .ok (.iload_n 3, 1) := by decide +kernel
theorem dX5_match_35 : decode cX5_match 35 = .ok (.iconst (-1), 1) := by decide +kernel
theorem dX5_match_36 : decode cX5_match 36 = .ok (.if_icmp .eq 238, 3) := by decide +kernel
theorem dX5_match_39 : decode cX5_match 39 = .ok (.aload_n 0, 1) := by decide +kernel
theorem dX5_match_40 : decode cX5_match 40 = .ok (.iload_n 1, 1) := by decide +kernel
theorem dX5_match_41 : decode cX5_match 41 = .ok (.iload_n 3, 1) := by decide +kernel
theorem dX5_match_42 : decode cX5_match 42 = .ok (.invokevirtual 138, 3) := by decide +kernel
theorem dX5_match_45 : decode cX5_match 45 = .ok (.ifCond .eq 229, 3) := by decide +kernel
theorem dX5_match_48 : decode cX5_match 48 = .ok (.aload_n 0, 1) := by decide +kernel
theorem dX5_match_49 : decode cX5_match 49 = .ok (.getfield 33, 3) := by decide +kernel
theorem dX5_match_52 : decode cX5_match 52 = .ok (.iload_n 3, 1) := by decide +kernel
theorem dX5_match_53 : decode cX5_match 53 = .ok (.iaload, 1) := by decide +kernel
theorem dX5_match_54 : decode cX5_match 54 = .ok (.aload_n 0, 1) := by decide +kernel
theorem dX5_match_55 : decode cX5_match 55 = .ok (.getfield 33, 3) := by decide +kernel
theorem dX5_match_58 : decode cX5_match 58 = .ok (.iload_n 1, 1) := by decide +kernel
theorem dX5_match_59 : decode cX5_match 59 = .ok (.iaload, 1) := by decide +kernel
theorem dX5_match_60 : decode cX5_match 60 = .ok (.if_icmp .ne 7, 3) := by decide +kernel
theorem dX5_match_63 : decode cX5_match 63 = .ok (.iconst 1, 1) := by decide +kernel
theorem dX5_match_64 : decode cX5_match 64 = .ok (.goto 4, 3) := by decide +kernel
theorem dX5_match_67 : decode cX5_match 67 = .ok (.iconst 0, 1) := by decide +kernel
theorem dX5_match_68 : decode cX5_match 68 = .ok (.istore_n 2, 1) := by decide +kernel
theorem dX5_match_69 : decode cX5_match 69 = .ok (.iload_n 2, 1) := by decide +kernel
theorem dX5_match_70 : decode cX5_match 70 = .ok (.ifCond .ne (-49), 3) := by decide +kernel
theorem dX5_match_73 : decode cX5_match 73 = .ok (.aload_n 0, 1) := by decide +kernel
theorem dX5_match_74 : decode cX5_match 74 = .ok (.getfield 48, 3) := by decide +kernel
theorem dX5_match_77 : decode cX5_match 77 = .ok (.iload_n 1, 1) := by decide +kernel
theorem dX5_match_78 : decode cX5_match 78 = .ok (.iaload, 1) := by decide +kernel
theorem dX5_match_79 : decode cX5_match 79 = .ok (.aload_n 0, 1) := by decide +kernel
theorem dX5_match_80 : decode cX5_match 80 = .ok (.getfield 51, 3) := by decide +kernel
theorem dX5_match_83 : decode cX5_match 83 = .ok (.iload_n 3, 1) := by decide +kernel
theorem dX5_match_84 : decode cX5_match 84 = .ok (.iaload, 1) := by decide +kernel
theorem dX5_match_85 : decode cX5_match 85 = .ok (.if_icmp .ge 12, 3) := by decide +kernel
theorem dX5_match_88 : decode cX5_match 88 = .ok (.aload_n 0, 1) := by decide +kernel
theorem dX5_match_89 : decode cX5_match 89 = .ok (.getfield 48, 3) := by decide +kernel
theorem dX5_match_92 : decode cX5_match 92 = .ok (.iload_n 1, 1) := by decide +kernel
theorem dX5_match_93 : decode cX5_match 93 = .ok (.iaload, 1) := by decide +kernel
theorem dX5_match_94 : decode cX5_match 94 = .ok (.goto 9, 3) := by decide +kernel
theorem dX5_match_97 : decode cX5_match 97 = .ok (.aload_n 0, 1) := by decide +kernel
theorem dX5_match_98 : decode cX5_match 98 = .ok (.getfield 51, 3) := by decide +kernel
theorem dX5_match_101 : decode cX5_match 101 = .ok (.iload_n 3, 1) := by decide +kernel
theorem dX5_match_102 : decode cX5_match 102 = .ok (.iaload, 1) := by decide +kernel
theorem dX5_match_103 : decode cX5_match 103 = .ok (.istore 4, 2) := by decide +kernel
theorem dX5_match_105 : decode cX5_match 105 = .ok (.aload_n 0, 1) := by decide +kernel
theorem dX5_match_106 : decode cX5_match 106 = .ok (.iload_n 1, 1) := by decide +kernel
theorem dX5_match_107 : decode cX5_match 107 = .ok (.iload_n 3, 1) := by decide +kernel
theorem dX5_match_108 : decode cX5_match 108 = .ok (.iload 4, 2) := by decide +kernel
theorem dX5_match_110 : decode cX5_match 110 = .ok (.invokevirtual 142, 3) := by decide +kernel
theorem dX5_match_113 : decode cX5_match 113 = .ok (.aload_n 0, 1) := by decide +kernel
theorem dX5_match_114 : decode cX5_match 114 = .ok (.getfield 48, 3) := by decide +kernel
theorem dX5_match_117 : decode cX5_match 117 = .ok (.iload_n 1, 1) := by decide +kernel
theorem dX5_match_118 : decode cX5_match 118 = .ok (.dup2, 1) := by decide +kernel
theorem dX5_match_119 : decode cX5_match 119 = .ok (.iaload, 1) := by decide +kernel
theorem dX5_match_120 : decode cX5_match 120 = .ok (.iload 4, 2) := by decide +kernel
theorem dX5_match_122 : decode cX5_match 122 = .ok (.isub, 1) := by decide +kernel
theorem dX5_match_123 : decode cX5_match 123 = .ok (.iastore, 1) := by decide +kernel
theorem dX5_match_124 : decode cX5_match 124 = .ok (.aload_n 0, 1) := by decide +kernel
theorem dX5_match_125 : decode cX5_match 125 = .ok (.getfield 63, 3) := by decide +kernel
theorem dX5_match_128 : decode cX5_match 128 = .ok (.iload_n 1, 1) := by decide +kernel
theorem dX5_match_129 : decode cX5_match 129 = .ok (.dup2, 1) := by decide +kernel
theorem dX5_match_130 : decode cX5_match 130 = .ok (.iaload, 1) := by decide +kernel
theorem dX5_match_131 : decode cX5_match 131 = .ok (.iload 4, 2) := by decide +kernel
theorem dX5_match_133 : decode cX5_match 133 = .ok (.iadd, 1) := by decide +kernel
theorem dX5_match_134 : decode cX5_match 134 = .ok (.iastore, 1) := by decide +kernel
theorem dX5_match_135 : decode cX5_match 135 = .ok (.aload_n 0, 1) := by decide +kernel
theorem dX5_match_136 : decode cX5_match 136 = .ok (.getfield 48, 3) := by decide +kernel
theorem dX5_match_139 : decode cX5_match 139 = .ok (.iload_n 3, 1) := by decide +kernel
theorem dX5_match_140 : decode cX5_match 140 = .ok (.dup2, 1) := by decide +kernel
theorem dX5_match_141 : decode cX5_match 141 = .ok (.iaload, 1) := by decide +kernel
theorem dX5_match_142 : decode cX5_match 142 = .ok (.iload 4, 2) := by decide +kernel
theorem dX5_match_144 : decode cX5_match 144 = .ok (.isub, 1) := by decide +kernel
theorem dX5_match_145 : decode cX5_match 145 = .ok (.iastore, 1) := by decide +kernel
theorem dX5_match_146 : decode cX5_match 146 = .ok (.aload_n 0, 1) := by decide +kernel
theorem dX5_match_147 : decode cX5_match 147 = .ok (.getfield 51, 3) := by decide +kernel
theorem dX5_match_150 : decode cX5_match 150 = .ok (.iload_n 3, 1) := by decide +kernel
theorem dX5_match_151 : decode cX5_match 151 = .ok (.dup2, 1) := by decide +kernel
theorem dX5_match_152 : decode cX5_match 152 = .ok (.iaload, 1) := by decide +kernel
theorem dX5_match_153 : decode cX5_match 153 = .ok (.iload 4, 2) := by decide +kernel
theorem dX5_match_155 : decode cX5_match 155 = .ok (.isub, 1) := by decide +kernel
theorem dX5_match_156 : decode cX5_match 156 = .ok (.iastore, 1) := by decide +kernel
theorem dX5_match_157 : decode cX5_match 157 = .ok (.aload_n 0, 1) := by decide +kernel
theorem dX5_match_158 : decode cX5_match 158 = .ok (.getfield 63, 3) := by decide +kernel
theorem dX5_match_161 : decode cX5_match 161 = .ok (.iload_n 3, 1) := by decide +kernel
theorem dX5_match_162 : decode cX5_match 162 = .ok (.dup2, 1) := by decide +kernel
theorem dX5_match_163 : decode cX5_match 163 = .ok (.iaload, 1) := by decide +kernel
theorem dX5_match_164 : decode cX5_match 164 = .ok (.iload 4, 2) := by decide +kernel
theorem dX5_match_166 : decode cX5_match 166 = .ok (.iadd, 1) := by decide +kernel
theorem dX5_match_167 : decode cX5_match 167 = .ok (.iastore, 1) := by decide +kernel
theorem dX5_match_168 : decode cX5_match 168 = .ok (.aload_n 0, 1) := by decide +kernel
theorem dX5_match_169 : decode cX5_match 169 = .ok (.getfield 48, 3) := by decide +kernel
theorem dX5_match_172 : decode cX5_match 172 = .ok (.iload_n 3, 1) := by decide +kernel
theorem dX5_match_173 : decode cX5_match 173 = .ok (.iaload, 1) := by decide +kernel
theorem dX5_match_174 : decode cX5_match 174 = .ok (.ifCond .ne 13, 3) := by decide +kernel
theorem dX5_match_177 : decode cX5_match 177 = .ok (.aload_n 0, 1) := by decide +kernel
theorem dX5_match_178 : decode cX5_match 178 = .ok (.getfield 57, 3) := by decide +kernel
theorem dX5_match_181 : decode cX5_match 181 = .ok (.iload_n 3, 1) := by decide +kernel
theorem dX5_match_182 : decode cX5_match 182 = .ok (.iconst 2, 1) := by decide +kernel
theorem dX5_match_183 : decode cX5_match 183 = .ok (.iastore, 1) := by decide +kernel
theorem dX5_match_184 : decode cX5_match 184 = .ok (.goto 68, 3) := by decide +kernel
theorem dX5_match_187 : decode cX5_match 187 = .ok (.aload_n 0, 1) := by decide +kernel
theorem dX5_match_188 : decode cX5_match 188 = .ok (.getfield 51, 3) := by decide +kernel
theorem dX5_match_191 : decode cX5_match 191 = .ok (.iload_n 3, 1) := by decide +kernel
theorem dX5_match_192 : decode cX5_match 192 = .ok (.iaload, 1) := by decide +kernel
theorem dX5_match_193 : decode cX5_match 193 = .ok (.ifCond .ne 59, 3) := by decide +kernel
theorem dX5_match_196 : decode cX5_match 196 = .ok (.aload_n 0, 1) := by decide +kernel
theorem dX5_match_197 : decode cX5_match 197 = .ok (.getfield 51, 3) := by decide +kernel
theorem dX5_match_200 : decode cX5_match 200 = .ok (.iload_n 3, 1) := by decide +kernel
theorem dX5_match_201 : decode cX5_match 201 = .ok (.aload_n 0, 1) := by decide +kernel
theorem dX5_match_202 : decode cX5_match 202 = .ok (.getfield 48, 3) := by decide +kernel
theorem dX5_match_205 : decode cX5_match 205 = .ok (.iload_n 3, 1) := by decide +kernel
theorem dX5_match_206 : decode cX5_match 206 = .ok (.iaload, 1) := by decide +kernel
theorem dX5_match_207 : decode cX5_match 207 = .ok (.aload_n 0, 1) := by decide +kernel
theorem dX5_match_208 : decode cX5_match 208 = .ok (.getfield 54, 3) := by decide +kernel
theorem dX5_match_211 : decode cX5_match 211 = .ok (.iload_n 3, 1) := by decide +kernel
theorem dX5_match_212 : decode cX5_match 212 = .ok (.iaload, 1) := by decide +kernel
theorem dX5_match_213 : decode cX5_match 213 = .ok (.if_icmp .ge 12, 3) := by decide +kernel
theorem dX5_match_216 : decode cX5_match 216 = .ok (.aload_n 0, 1) := by decide +kernel
theorem dX5_match_217 : decode cX5_match 217 = .ok (.getfield 48, 3) := by decide +kernel
theorem dX5_match_220 : decode cX5_match 220 = .ok (.iload_n 3, 1) := by decide +kernel
theorem dX5_match_221 : decode cX5_match 221 = .ok (.iaload, 1) := by decide +kernel
theorem dX5_match_222 : decode cX5_match 222 = .ok (.goto 9, 3) := by decide +kernel
theorem dX5_match_225 : decode cX5_match 225 = .ok (.aload_n 0, 1) := by decide +kernel
theorem dX5_match_226 : decode cX5_match 226 = .ok (.getfield 54, 3) := by decide +kernel
theorem dX5_match_229 : decode cX5_match 229 = .ok (.iload_n 3, 1) := by decide +kernel
theorem dX5_match_230 : decode cX5_match 230 = .ok (.iaload, 1) := by decide +kernel
theorem dX5_match_231 : decode cX5_match 231 = .ok (.iastore, 1) := by decide +kernel
theorem dX5_match_232 : decode cX5_match 232 = .ok (.aload_n 0, 1) := by decide +kernel
theorem dX5_match_233 : decode cX5_match 233 = .ok (.getfield 66, 3) := by decide +kernel
theorem dX5_match_236 : decode cX5_match 236 = .ok (.iload_n 3, 1) := by decide +kernel
theorem dX5_match_237 : decode cX5_match 237 = .ok (.aload_n 0, 1) := by decide +kernel
theorem dX5_match_238 : decode cX5_match 238 = .ok (.getfield 146, 3) := by decide +kernel
theorem dX5_match_241 : decode cX5_match 241 = .ok (.iastore, 1) := by decide +kernel
theorem dX5_match_242 : decode cX5_match 242 = .ok (.aload_n 0, 1) := by decide +kernel
theorem dX5_match_243 : decode cX5_match 243 = .ok (.dup, 1) := by decide +kernel
theorem dX5_match_244 : decode cX5_match 244 = .ok (.getfield 146, 3) := by decide +kernel
theorem dX5_match_247 : decode cX5_match 247 = .ok (.iconst 1, 1) := by decide +kernel
theorem dX5_match_248 : decode cX5_match 248 = .ok (.iadd, 1) := by decide +kernel
theorem dX5_match_249 : decode cX5_match 249 = .ok (.putfield 146, 3) := by decide +kernel
theorem dX5_match_252 : decode cX5_match 252 = .ok (.aload_n 0, 1) := by decide +kernel
theorem dX5_match_253 : decode cX5_match 253 = .ok (.aload_n 0, 1) := by decide +kernel
theorem dX5_match_254 : decode cX5_match 254 = .ok (.getfield 36, 3) := by decide +kernel
theorem dX5_match_257 : decode cX5_match 257 = .ok (.iload_n 1, 1) := by decide +kernel
theorem dX5_match_258 : decode cX5_match 258 = .ok (.iaload, 1) := by decide +kernel
theorem dX5_match_259 : decode cX5_match 259 = .ok (.iconst 1, 1) := by decide +kernel
theorem dX5_match_260 : decode cX5_match 260 = .ok (.aload_n 0, 1) := by decide +kernel
theorem dX5_match_261 : decode cX5_match 261 = .ok (.getfield 39, 3) := by decide +kernel
theorem dX5_match_264 : decode cX5_match 264 = .ok (.iload_n 1, 1) := by decide +kernel
theorem dX5_match_265 : decode cX5_match 265 = .ok (.iaload, 1) := by decide +kernel
theorem dX5_match_266 : decode cX5_match 266 = .ok (.isub, 1) := by decide +kernel
theorem dX5_match_267 : decode cX5_match 267 = .ok (.invokevirtual 135, 3) := by decide +kernel
theorem dX5_match_270 : decode cX5_match 270 = .ok (.istore_n 3, 1) := by decide +kernel
theorem dX5_match_271 : decode cX5_match 271 = .ok (.goto (-250), 3) := by decide +kernel
theorem dX5_match_274 : decode cX5_match 274 = .ok (.iload_n 2, 1) := by decide +kernel
theorem dX5_match_275 : decode cX5_match 275 = .ok (.ireturn, 1) := by decide +kernel
set_option maxRecDepth 20000 in
theorem ggX5_wouldTrade_X5_rests : GoodIn wsX5_wouldTrade wsX5_rests := goodIn_r _ [18, 19, 9, 10, 27, 28, 29, 30, 31, 32, 33, 34, 35, 36, 37, 38, 39, 40, 41, 42, 43, 44, 45, 46, 47, 48, 49, 50, 51, 52, 53, 54, 55, 56, 57, 58] (by decide +kernel) (by decide +kernel)
set_option maxRecDepth 20000 in
theorem gX5_wouldTrade_X5_rests : GoodIn wsX5_wouldTrade (wsV RX5 122 RX5 yX5_rests wsX5_rests) := goodIn_app (goodIn_of _ (by decide +kernel)) ggX5_wouldTrade_X5_rests
set_option maxRecDepth 20000 in
theorem ggX5_wouldTrade_X5_isBetter : GoodIn wsX5_wouldTrade wsX5_isBetter := goodIn_r _ [22] (by decide +kernel) (by decide +kernel)
set_option maxRecDepth 20000 in
theorem gX5_wouldTrade_X5_isBetter : GoodIn wsX5_wouldTrade (va_wsS RX5 125 yX5_isBetter wsX5_isBetter) := goodIn_app (goodIn_of _ (by decide +kernel)) ggX5_wouldTrade_X5_isBetter
set_option maxRecDepth 20000 in
theorem ggX5_wouldTrade_X5_allows : GoodIn wsX5_wouldTrade wsX5_allows := goodIn_r _ [26, 10, 11, 27, 28, 29, 30, 31, 32, 33, 34, 35, 36, 37, 38, 39, 40, 41, 42, 43, 44, 45, 46, 47, 48, 49, 50, 51, 52, 53, 54, 55, 56, 57, 58] (by decide +kernel) (by decide +kernel)
set_option maxRecDepth 20000 in
theorem gX5_wouldTrade_X5_allows : GoodIn wsX5_wouldTrade (wsV RX5 138 RX5 yX5_allows wsX5_allows) := goodIn_app (goodIn_of _ (by decide +kernel)) ggX5_wouldTrade_X5_allows
theorem dX5_wouldTrade_0 : decode cX5_wouldTrade 0 = .ok (.iconst 0, 1) := by decide +kernel
theorem dX5_wouldTrade_1 : decode cX5_wouldTrade 1 = .ok (.istore_n 2, 1) := by decide +kernel
theorem dX5_wouldTrade_2 : decode cX5_wouldTrade 2 = .ok (.iload_n 2, 1) := by decide +kernel
theorem dX5_wouldTrade_3 : decode cX5_wouldTrade 3 = .ok (.aload_n 0, 1) := by decide +kernel
theorem dX5_wouldTrade_4 : decode cX5_wouldTrade 4 = .ok (.getfield 116, 3) := by decide +kernel
theorem dX5_wouldTrade_7 : decode cX5_wouldTrade 7 = .ok (.if_icmp .ge 45, 3) := by decide +kernel
theorem dX5_wouldTrade_10 : decode cX5_wouldTrade 10 = .ok (.aload_n 0, 1) := by decide +kernel
theorem dX5_wouldTrade_11 : decode cX5_wouldTrade 11 = .ok (.getfield 69, 3) := by decide +kernel
theorem dX5_wouldTrade_14 : decode cX5_wouldTrade 14 = .ok (.iload_n 2, 1) := by decide +kernel
theorem dX5_wouldTrade_15 : decode cX5_wouldTrade 15 = .ok (.aload_n 0, 1) := by decide +kernel
theorem dX5_wouldTrade_16 : decode cX5_wouldTrade 16 = .ok (.getfield 48, 3) := by decide +kernel
theorem dX5_wouldTrade_19 : decode cX5_wouldTrade 19 = .ok (.iload_n 2, 1) := by decide +kernel
theorem dX5_wouldTrade_20 : decode cX5_wouldTrade 20 = .ok (.iaload, 1) := by decide +kernel
theorem dX5_wouldTrade_21 : decode cX5_wouldTrade 21 = .ok (.iastore, 1) := by decide +kernel
theorem dX5_wouldTrade_22 : decode cX5_wouldTrade 22 = .ok (.aload_n 0, 1) := by decide +kernel
theorem dX5_wouldTrade_23 : decode cX5_wouldTrade 23 = .ok (.getfield 72, 3) := by decide +kernel
theorem dX5_wouldTrade_26 : decode cX5_wouldTrade 26 = .ok (.iload_n 2, 1) := by decide +kernel
theorem dX5_wouldTrade_27 : decode cX5_wouldTrade 27 = .ok (.aload_n 0, 1) := by decide +kernel
theorem dX5_wouldTrade_28 : decode cX5_wouldTrade 28 = .ok (.getfield 51, 3) := by decide +kernel
theorem dX5_wouldTrade_31 : decode cX5_wouldTrade 31 = .ok (.iload_n 2, 1) := by decide +kernel
theorem dX5_wouldTrade_32 : decode cX5_wouldTrade 32 = .ok (.iaload, 1) := by decide +kernel
theorem dX5_wouldTrade_33 : decode cX5_wouldTrade 33 = .ok (.iastore, 1) := by decide +kernel
theorem dX5_wouldTrade_34 : decode cX5_wouldTrade 34 = .ok (.aload_n 0, 1) := by decide +kernel
theorem dX5_wouldTrade_35 : decode cX5_wouldTrade 35 = .ok (.getfield 75, 3) := by decide +kernel
theorem dX5_wouldTrade_38 : decode cX5_wouldTrade 38 = .ok (.iload_n 2, 1) := by decide +kernel
theorem dX5_wouldTrade_39 : decode cX5_wouldTrade 39 = .ok (.aload_n 0, 1) := by decide +kernel
theorem dX5_wouldTrade_40 : decode cX5_wouldTrade 40 = .ok (.getfield 66, 3) := by decide +kernel
theorem dX5_wouldTrade_43 : decode cX5_wouldTrade 43 = .ok (.iload_n 2, 1) := by decide +kernel
theorem dX5_wouldTrade_44 : decode cX5_wouldTrade 44 = .ok (.iaload, 1) := by decide +kernel
theorem dX5_wouldTrade_45 : decode cX5_wouldTrade 45 = .ok (.iastore, 1) := by decide +kernel
theorem dX5_wouldTrade_46 : decode cX5_wouldTrade 46 = .ok (.iinc 2 1, 3) := by decide +kernel
theorem dX5_wouldTrade_49 : decode cX5_wouldTrade 49 = .ok (.goto (-47), 3) := by decide +kernel
theorem dX5_wouldTrade_52 : decode cX5_wouldTrade 52 = .ok (.aload_n 0, 1) := by decide +kernel
theorem dX5_wouldTrade_53 : decode cX5_wouldTrade 53 = .ok (.getfield 48, 3) := by decide +kernel
theorem dX5_wouldTrade_56 : decode cX5_wouldTrade 56 = .ok (.iload_n 1, 1) := by decide +kernel
theorem dX5_wouldTrade_57 : decode cX5_wouldTrade 57 = .ok (.iaload, 1) := by decide +kernel
theorem dX5_wouldTrade_58 : decode cX5_wouldTrade 58 = .ok (.istore_n 2, 1) := by decide +kernel
theorem dX5_wouldTrade_59 : decode cX5_wouldTrade 59 = .ok (.aload_n 0, 1) := by decide +kernel
theorem dX5_wouldTrade_60 : decode cX5_wouldTrade 60 = .ok (.getfield 146, 3) := by decide +kernel
theorem dX5_wouldTrade_63 : decode cX5_wouldTrade 63 = .ok (.istore_n 3, 1) := by decide +kernel
theorem dX5_wouldTrade_64 : decode cX5_wouldTrade 64 = .ok (.iload_n 2, 1) := by decide +kernel
theorem dX5_wouldTrade_65 : decode cX5_wouldTrade 65 = .ok (.ifCond .le 292, 3) := by decide +kernel
theorem dX5_wouldTrade_68 : decode cX5_wouldTrade 68 = .ok (.iconst (-1), 1) := by decide +kernel
theorem dX5_wouldTrade_69 : decode cX5_wouldTrade 69 = .ok (.istore 4, 2) := by decide +kernel
theorem dX5_wouldTrade_71 : decode cX5_wouldTrade 71 = .ok (.iconst 0, 1) := by decide +kernel
theorem dX5_wouldTrade_72 : decode cX5_wouldTrade 72 = .ok (.istore 5, 2) := by decide +kernel
theorem dX5_wouldTrade_74 : decode cX5_wouldTrade 74 = .ok (.iload 5, 2) := by decide +kernel
theorem dX5_wouldTrade_76 : decode cX5_wouldTrade 76 = .ok (.aload_n 0, 1) := by decide +kernel
theorem dX5_wouldTrade_77 : decode cX5_wouldTrade 77 = .ok (.getfield 116, 3) := by decide +kernel
theorem dX5_wouldTrade_80 : decode cX5_wouldTrade 80 = .ok (.if_icmp .ge 125, 3) := by decide +kernel
theorem dX5_wouldTrade_83 : decode cX5_wouldTrade 83 = .ok (.aload_n 0, 1) := by decide +kernel
theorem dX5_wouldTrade_84 : decode cX5_wouldTrade 84 = .ok (.iload 5, 2) := by decide +kernel
theorem dX5_wouldTrade_86 : decode cX5_wouldTrade 86 = .ok (.aload_n 0, 1) := by decide +kernel
theorem dX5_wouldTrade_87 : decode cX5_wouldTrade 87 = .ok (.getfield 36, 3) := by decide +kernel
theorem dX5_wouldTrade_90 : decode cX5_wouldTrade 90 = .ok (.iload_n 1, 1) := by decide +kernel
theorem dX5_wouldTrade_91 : decode cX5_wouldTrade 91 = .ok (.iaload, 1) := by decide +kernel
theorem dX5_wouldTrade_92 : decode cX5_wouldTrade 92 = .ok (.iconst 1, 1) := by decide +kernel
theorem dX5_wouldTrade_93 : decode cX5_wouldTrade 93 = .ok (.aload_n 0, 1) := by decide +kernel
theorem dX5_wouldTrade_94 : decode cX5_wouldTrade 94 = .ok (.getfield 39, 3) := by decide +kernel
theorem dX5_wouldTrade_97 : decode cX5_wouldTrade 97 = .ok (.iload_n 1, 1) := by decide +kernel
theorem dX5_wouldTrade_98 : decode cX5_wouldTrade 98 = .ok (.iaload, 1) := by decide +kernel
theorem dX5_wouldTrade_99 : decode cX5_wouldTrade 99 = .ok (.isub, 1) := by decide +kernel
theorem dX5_wouldTrade_100 : decode cX5_wouldTrade 100 = .ok (.invokevirtual 122, 3) := by decide +kernel
theorem dX5_wouldTrade_103 : decode cX5_wouldTrade 103 = .ok (.ifCond .eq 17, 3) := by decide +kernel
theorem dX5_wouldTrade_106 : decode cX5_wouldTrade 106 = .ok (.aload_n 0, 1) := by decide +kernel
theorem dX5_wouldTrade_107 : decode cX5_wouldTrade 107 = .ok (.getfield 69, 3) := by decide +kernel
theorem dX5_wouldTrade_110 : decode cX5_wouldTrade 110 = .ok (.iload 5, 2) := by decide +kernel
theorem dX5_wouldTrade_112 : decode cX5_wouldTrade 112 = .ok (.iaload, 1) := by decide +kernel
theorem dX5_wouldTrade_113 : decode cX5_wouldTrade 113 = .ok (.ifCond .le 7, 3) := by decide +kernel
theorem dX5_wouldTrade_116 : decode cX5_wouldTrade 116 = .ok (.iconst 1, 1) := by decide +kernel
theorem dX5_wouldTrade_117 : decode cX5_wouldTrade 117 = .ok (.goto 4, 3) := by decide +kernel
theorem dX5_wouldTrade_120 : decode cX5_wouldTrade 120 = .ok (.iconst 0, 1) := by decide +kernel
theorem dX5_wouldTrade_121 : decode cX5_wouldTrade 121 = .ok (.istore 6, 2) := by decide +kernel
theorem dX5_wouldTrade_123 : decode cX5_wouldTrade 123 = .ok (.iload 6, 2) := by decide +kernel
theorem dX5_wouldTrade_125 : decode cX5_wouldTrade 125 = .ok (.ifCond .eq 74, 3) := by decide +kernel
theorem dX5_wouldTrade_128 : decode cX5_wouldTrade 128 = .ok (.iload 4, 2) := by decide +kernel
theorem dX5_wouldTrade_130 : decode cX5_wouldTrade 130 = .ok (.iconst (-1), 1) := by decide +kernel
theorem dX5_wouldTrade_131 : decode cX5_wouldTrade 131 = .ok (.if_icmp .eq 64, 3) := by decide +kernel
theorem dX5_wouldTrade_134 : decode cX5_wouldTrade 134 = .ok (.aload_n 0, 1) := by decide +kernel
theorem dX5_wouldTrade_135 : decode cX5_wouldTrade 135 = .ok (.getfield 39, 3) := by decide +kernel
theorem dX5_wouldTrade_138 : decode cX5_wouldTrade 138 = .ok (.iload 5, 2) := by decide +kernel
theorem dX5_wouldTrade_140 : decode cX5_wouldTrade 140 = .ok (.iaload, 1) := by decide +kernel
theorem dX5_wouldTrade_141 : decode cX5_wouldTrade 141 = .ok (.aload_n 0, 1) := by decide +kernel
theorem dX5_wouldTrade_142 : decode cX5_wouldTrade 142 = .ok (.getfield 45, 3) := by decide +kernel
theorem dX5_wouldTrade_145 : decode cX5_wouldTrade 145 = .ok (.iload 5, 2) := by decide +kernel
theorem dX5_wouldTrade_147 : decode cX5_wouldTrade 147 = .ok (.iaload, 1) := by decide +kernel
theorem dX5_wouldTrade_148 : decode cX5_wouldTrade 148 = .ok (.aload_n 0, 1) := by decide +kernel
theorem dX5_wouldTrade_149 : decode cX5_wouldTrade 149 = .ok (.getfield 45, 3) := by decide +kernel
theorem dX5_wouldTrade_152 : decode cX5_wouldTrade 152 = .ok (.iload 4, 2) := by decide +kernel
theorem dX5_wouldTrade_154 : decode cX5_wouldTrade 154 = .ok (.iaload, 1) := by decide +kernel
theorem dX5_wouldTrade_155 : decode cX5_wouldTrade 155 = .ok (.invokestatic 125, 3) := by decide +kernel
theorem dX5_wouldTrade_158 : decode cX5_wouldTrade 158 = .ok (.ifCond .ne 37, 3) := by decide +kernel
theorem dX5_wouldTrade_161 : decode cX5_wouldTrade 161 = .ok (.aload_n 0, 1) := by decide +kernel
theorem dX5_wouldTrade_162 : decode cX5_wouldTrade 162 = .ok (.getfield 45, 3) := by decide +kernel
theorem dX5_wouldTrade_165 : decode cX5_wouldTrade 165 = .ok (.iload 5, 2) := by decide +kernel
theorem dX5_wouldTrade_167 : decode cX5_wouldTrade 167 = .ok (.iaload, 1) := by decide +kernel
theorem dX5_wouldTrade_168 : decode cX5_wouldTrade 168 = .ok (.aload_n 0, 1) := by decide +kernel
theorem dX5_wouldTrade_169 : decode cX5_wouldTrade 169 = .ok (.getfield 45, 3) := by decide +kernel
theorem dX5_wouldTrade_172 : decode cX5_wouldTrade 172 = .ok (.iload 4, 2) := by decide +kernel
theorem dX5_wouldTrade_174 : decode cX5_wouldTrade 174 = .ok (.iaload, 1) := by decide +kernel
theorem dX5_wouldTrade_175 : decode cX5_wouldTrade 175 = .ok (.if_icmp .ne 24, 3) := by decide +kernel
theorem dX5_wouldTrade_178 : decode cX5_wouldTrade 178 = .ok (.aload_n 0, 1) := by decide +kernel
theorem dX5_wouldTrade_179 : decode cX5_wouldTrade 179 = .ok (.getfield 75, 3) := by decide +kernel
theorem dX5_wouldTrade_182 : decode cX5_wouldTrade 182 = .ok (.iload 5, 2) := by decide +kernel
theorem dX5_wouldTrade_184 : decode cX5_wouldTrade 184 = .ok (.iaload, 1) := by decide +kernel
theorem dX5_wouldTrade_185 : decode cX5_wouldTrade 185 = .ok (.aload_n 0, 1) := by decide +kernel
theorem dX5_wouldTrade_186 : decode cX5_wouldTrade 186 = .ok (.getfield 75, 3) := by decide +kernel
theorem dX5_wouldTrade_189 : decode cX5_wouldTrade 189 = .ok (.iload 4, 2) := by decide +kernel
theorem dX5_wouldTrade_191 : decode cX5_wouldTrade 191 = .ok (.iaload, 1) := by decide +kernel
theorem dX5_wouldTrade_192 : decode cX5_wouldTrade 192 = .ok (.if_icmp .ge 7, 3) := by decide +kernel
theorem dX5_wouldTrade_195 : decode cX5_wouldTrade 195 = .ok (.iload 5, 2) := by decide +kernel
theorem dX5_wouldTrade_197 : decode cX5_wouldTrade 197 = .ok (.istore 4, 2) := by decide +kernel
theorem dX5_wouldTrade_199 : decode cX5_wouldTrade 199 = .ok (.iinc 5 1, 3) := by decide +kernel
theorem dX5_wouldTrade_202 : decode cX5_wouldTrade 202 = .ok (.goto (-128), 3) := by decide +kernel
theorem dX5_wouldTrade_205 : decode cX5_wouldTrade 205 = .ok (.iload 4, 2) := by decide +kernel
theorem dX5_wouldTrade_207 : decode cX5_wouldTrade 207 = .ok (.iconst (-1), 1) := by decide +kernel
theorem dX5_wouldTrade_208 : decode cX5_wouldTrade 208 = .ok (.if_icmp .eq 29, 3) := by decide +kernel
theorem dX5_wouldTrade_211 : decode cX5_wouldTrade 211 = .ok (.aload_n 0, 1) := by decide +kernel
theorem dX5_wouldTrade_212 : decode cX5_wouldTrade 212 = .ok (.iload_n 1, 1) := by decide +kernel
theorem dX5_wouldTrade_213 : decode cX5_wouldTrade 213 = .ok (.iload 4, 2) := by decide +kernel
theorem dX5_wouldTrade_215 : decode cX5_wouldTrade 215 = .ok (.invokevirtual 138, 3) := by decide +kernel
theorem dX5_wouldTrade_218 : decode cX5_wouldTrade 218 = .ok (.ifCond .eq 19, 3) := by decide +kernel
theorem dX5_wouldTrade_221 : decode cX5_wouldTrade 221 = .ok (.aload_n 0, 1) := by decide +kernel
theorem dX5_wouldTrade_222 : decode cX5_wouldTrade 222 = .ok (.getfield 33, 3) := by decide +kernel
theorem dX5_wouldTrade_225 : decode cX5_wouldTrade 225 = .ok (.iload 4, 2) := by decide +kernel
theorem dX5_wouldTrade_227 : decode cX5_wouldTrade 227 = .ok (.iaload, 1) := by decide +kernel
theorem dX5_wouldTrade_228 : decode cX5_wouldTrade 228 = .ok (.aload_n 0, 1) := by decide +kernel
theorem dX5_wouldTrade_229 : decode cX5_wouldTrade 229 = .ok (.getfield 33, 3) := by decide +kernel
theorem dX5_wouldTrade_232 : decode cX5_wouldTrade 232 = .ok (.iload_n 1, 1) := by decide +kernel
theorem dX5_wouldTrade_233 : decode cX5_wouldTrade 233 = .ok (.iaload, 1) := by decide +kernel
theorem dX5_wouldTrade_234 : decode cX5_wouldTrade 234 = .ok (.if_icmp .ne 5, 3) := by decide +kernel
theorem dX5_wouldTrade_237 : decode cX5_wouldTrade 237 = .ok (.iconst 0, 1) := by decide +kernel
theorem dX5_wouldTrade_238 : decode cX5_wouldTrade 238 = .ok (.ireturn, 1) := by decide +kernel
theorem dX5_wouldTrade_239 : decode cX5_wouldTrade 239 = .ok (.iload_n 2, 1) := by decide +kernel
theorem dX5_wouldTrade_240 : decode cX5_wouldTrade 240 = .ok (.aload_n 0, 1) := by decide +kernel
theorem dX5_wouldTrade_241 : decode cX5_wouldTrade 241 = .ok (.getfield 72, 3) := by decide +kernel
theorem dX5_wouldTrade_244 : decode cX5_wouldTrade 244 = .ok (.iload 4, 2) := by decide +kernel
theorem dX5_wouldTrade_246 : decode cX5_wouldTrade 246 = .ok (.iaload, 1) := by decide +kernel
theorem dX5_wouldTrade_247 : decode cX5_wouldTrade 247 = .ok (.if_icmp .ge 7, 3) := by decide +kernel
theorem dX5_wouldTrade_250 : decode cX5_wouldTrade 250 = .ok (.iload_n 2, 1) := by decide +kernel
theorem dX5_wouldTrade_251 : decode cX5_wouldTrade 251 = .ok (.goto 10, 3) := by decide +kernel
theorem dX5_wouldTrade_254 : decode cX5_wouldTrade 254 = .ok (.aload_n 0, 1) := by decide +kernel
theorem dX5_wouldTrade_255 : decode cX5_wouldTrade 255 = .ok (.getfield 72, 3) := by decide +kernel
theorem dX5_wouldTrade_258 : decode cX5_wouldTrade 258 = .ok (.iload 4, 2) := by decide +kernel
theorem dX5_wouldTrade_260 : decode cX5_wouldTrade 260 = .ok (.iaload, 1) := by decide +kernel
theorem dX5_wouldTrade_261 : decode cX5_wouldTrade 261 = .ok (.istore 5, 2) := by decide +kernel
theorem dX5_wouldTrade_263 : decode cX5_wouldTrade 263 = .ok (.iload_n 2, 1) := by decide +kernel
theorem dX5_wouldTrade_264 : decode cX5_wouldTrade 264 = .ok (.iload 5, 2) := by decide +kernel
theorem dX5_wouldTrade_266 : decode cX5_wouldTrade 266 = .ok (.isub, 1) := by decide +kernel
theorem dX5_wouldTrade_267 : decode cX5_wouldTrade 267 = .ok (.istore_n 2, 1) := by decide +kernel
theorem dX5_wouldTrade_268 : decode cX5_wouldTrade 268 = .ok (.aload_n 0, 1) := by decide +kernel
theorem dX5_wouldTrade_269 : decode cX5_wouldTrade 269 = .ok (.getfield 69, 3) := by decide +kernel
theorem dX5_wouldTrade_272 : decode cX5_wouldTrade 272 = .ok (.iload 4, 2) := by decide +kernel
theorem dX5_wouldTrade_274 : decode cX5_wouldTrade 274 = .ok (.dup2, 1) := by decide +kernel
theorem dX5_wouldTrade_275 : decode cX5_wouldTrade 275 = .ok (.iaload, 1) := by decide +kernel
theorem dX5_wouldTrade_276 : decode cX5_wouldTrade 276 = .ok (.iload 5, 2) := by decide +kernel
theorem dX5_wouldTrade_278 : decode cX5_wouldTrade 278 = .ok (.isub, 1) := by decide +kernel
theorem dX5_wouldTrade_279 : decode cX5_wouldTrade 279 = .ok (.iastore, 1) := by decide +kernel
theorem dX5_wouldTrade_280 : decode cX5_wouldTrade 280 = .ok (.aload_n 0, 1) := by decide +kernel
theorem dX5_wouldTrade_281 : decode cX5_wouldTrade 281 = .ok (.getfield 72, 3) := by decide +kernel
theorem dX5_wouldTrade_284 : decode cX5_wouldTrade 284 = .ok (.iload 4, 2) := by decide +kernel
theorem dX5_wouldTrade_286 : decode cX5_wouldTrade 286 = .ok (.dup2, 1) := by decide +kernel
theorem dX5_wouldTrade_287 : decode cX5_wouldTrade 287 = .ok (.iaload, 1) := by decide +kernel
theorem dX5_wouldTrade_288 : decode cX5_wouldTrade 288 = .ok (.iload 5, 2) := by decide +kernel
theorem dX5_wouldTrade_290 : decode cX5_wouldTrade 290 = .ok (.isub, 1) := by decide +kernel
theorem dX5_wouldTrade_291 : decode cX5_wouldTrade 291 = .ok (.iastore, 1) := by decide +kernel
theorem dX5_wouldTrade_292 : decode cX5_wouldTrade 292 = .ok (.aload_n 0, 1) := by decide +kernel
theorem dX5_wouldTrade_293 : decode cX5_wouldTrade 293 = .ok (.getfield 72, 3) := by decide +kernel
theorem dX5_wouldTrade_296 : decode cX5_wouldTrade 296 = .ok (.iload 4, 2) := by decide +kernel
theorem dX5_wouldTrade_298 : decode cX5_wouldTrade 298 = .ok (.iaload, 1) := by decide +kernel
theorem dX5_wouldTrade_299 : decode cX5_wouldTrade 299 = .ok (.ifCond .ne 55, 3) := by decide +kernel
theorem dX5_wouldTrade_302 : decode cX5_wouldTrade 302 = .ok (.aload_n 0, 1) := by decide +kernel
theorem dX5_wouldTrade_303 : decode cX5_wouldTrade 303 = .ok (.getfield 72, 3) := by decide +kernel
theorem dX5_wouldTrade_306 : decode cX5_wouldTrade 306 = .ok (.iload 4, 2) := by decide +kernel
theorem dX5_wouldTrade_308 : decode cX5_wouldTrade 308 = .ok (.aload_n 0, 1) := by decide +kernel
theorem dX5_wouldTrade_309 : decode cX5_wouldTrade 309 = .ok (.getfield 69, 3) := by decide +kernel
theorem dX5_wouldTrade_312 : decode cX5_wouldTrade 312 = .ok (.iload 4, 2) := by decide +kernel
theorem dX5_wouldTrade_314 : decode cX5_wouldTrade 314 = .ok (.iaload, 1) := by decide +kernel
theorem dX5_wouldTrade_315 : decode cX5_wouldTrade 315 = .ok (.aload_n 0, 1) := by decide +kernel
theorem dX5_wouldTrade_316 : decode cX5_wouldTrade 316 = .ok (.getfield 54, 3) := by decide +kernel
theorem dX5_wouldTrade_319 : decode cX5_wouldTrade 319 = .ok (.iload 4, 2) := by decide +kernel
theorem dX5_wouldTrade_321 : decode cX5_wouldTrade 321 = .ok (.iaload, 1) := by decide +kernel
theorem dX5_wouldTrade_322 : decode cX5_wouldTrade 322 = .ok (.if_icmp .ge 13, 3) := by decide +kernel
theorem dX5_wouldTrade_325 : decode cX5_wouldTrade 325 = .ok (.aload_n 0, 1) := by decide +kernel
theorem dX5_wouldTrade_326 : decode cX5_wouldTrade 326 = .ok (.getfield 69, 3) := by decide +kernel
theorem dX5_wouldTrade_329 : decode cX5_wouldTrade 329 = .ok (.iload 4, 2) := by decide +kernel
theorem dX5_wouldTrade_331 : decode cX5_wouldTrade 331 = .ok (.iaload, 1) := by decide +kernel
theorem dX5_wouldTrade_332 : decode cX5_wouldTrade 332 = .ok (.goto 10, 3) := by decide +kernel
theorem dX5_wouldTrade_335 : decode cX5_wouldTrade 335 = .ok (.aload_n 0, 1) := by decide +kernel
theorem dX5_wouldTrade_336 : decode cX5_wouldTrade 336 = .ok (.getfield 54, 3) := by decide +kernel
theorem dX5_wouldTrade_339 : decode cX5_wouldTrade 339 = .ok (.iload 4, 2) := by decide +kernel
theorem dX5_wouldTrade_341 : decode cX5_wouldTrade 341 = .ok (.iaload, 1) := by decide +kernel
theorem dX5_wouldTrade_342 : decode cX5_wouldTrade 342 = .ok (.iastore, 1) := by decide +kernel
theorem dX5_wouldTrade_343 : decode cX5_wouldTrade 343 = .ok (.aload_n 0, 1) := by decide +kernel
theorem dX5_wouldTrade_344 : decode cX5_wouldTrade 344 = .ok (.getfield 75, 3) := by decide +kernel
theorem dX5_wouldTrade_347 : decode cX5_wouldTrade 347 = .ok (.iload 4, 2) := by decide +kernel
theorem dX5_wouldTrade_349 : decode cX5_wouldTrade 349 = .ok (.iload_n 3, 1) := by decide +kernel
theorem dX5_wouldTrade_350 : decode cX5_wouldTrade 350 = .ok (.iastore, 1) := by decide +kernel
theorem dX5_wouldTrade_351 : decode cX5_wouldTrade 351 = .ok (.iinc 3 1, 3) := by decide +kernel
theorem dX5_wouldTrade_354 : decode cX5_wouldTrade 354 = .ok (.goto (-290), 3) := by decide +kernel
theorem dX5_wouldTrade_357 : decode cX5_wouldTrade 357 = .ok (.iconst 1, 1) := by decide +kernel
theorem dX5_wouldTrade_358 : decode cX5_wouldTrade 358 = .ok (.ireturn, 1) := by decide +kernel
theorem dX5_rest_0 : decode cX5_rest 0 = .ok (.aload_n 0, 1) := by decide +kernel
theorem dX5_rest_1 : decode cX5_rest 1 = .ok (.getfield 57, 3) := by decide +kernel
theorem dX5_rest_4 : decode cX5_rest 4 = .ok (.iload_n 1, 1) := by decide +kernel
theorem dX5_rest_5 : decode cX5_rest 5 = .ok (.iconst 0, 1) := by decide +kernel
theorem dX5_rest_6 : decode cX5_rest 6 = .ok (.iastore, 1) := by decide +kernel
theorem dX5_rest_7 : decode cX5_rest 7 = .ok (.aload_n 0, 1) := by decide +kernel
theorem dX5_rest_8 : decode cX5_rest 8 = .ok (.getfield 51, 3) := by decide +kernel
theorem dX5_rest_11 : decode cX5_rest 11 = .ok (.iload_n 1, 1) := by decide +kernel
theorem dX5_rest_12 : decode cX5_rest 12 = .ok (.aload_n 0, 1) := by decide +kernel
theorem dX5_rest_13 : decode cX5_rest 13 = .ok (.getfield 42, 3) := by decide +kernel
theorem dX5_rest_16 : decode cX5_rest 16 = .ok (.iload_n 1, 1) := by decide +kernel
theorem dX5_rest_17 : decode cX5_rest 17 = .ok (.iaload, 1) := by decide +kernel
theorem dX5_rest_18 : decode cX5_rest 18 = .ok (.iconst 4, 1) := by decide +kernel
theorem dX5_rest_19 : decode cX5_rest 19 = .ok (.if_icmp .ne 27, 3) := by decide +kernel
theorem dX5_rest_22 : decode cX5_rest 22 = .ok (.aload_n 0, 1) := by decide +kernel
theorem dX5_rest_23 : decode cX5_rest 23 = .ok (.getfield 54, 3) := by decide +kernel
theorem dX5_rest_26 : decode cX5_rest 26 = .ok (.iload_n 1, 1) := by decide +kernel
theorem dX5_rest_27 : decode cX5_rest 27 = .ok (.iaload, 1) := by decide +kernel
theorem dX5_rest_28 : decode cX5_rest 28 = .ok (.aload_n 0, 1) := by decide +kernel
theorem dX5_rest_29 : decode cX5_rest 29 = .ok (.getfield 48, 3) := by decide +kernel
theorem dX5_rest_32 : decode cX5_rest 32 = .ok (.iload_n 1, 1) := by decide +kernel
theorem dX5_rest_33 : decode cX5_rest 33 = .ok (.iaload, 1) := by decide +kernel
theorem dX5_rest_34 : decode cX5_rest 34 = .ok (.if_icmp .ge 12, 3) := by decide +kernel
theorem dX5_rest_37 : decode cX5_rest 37 = .ok (.aload_n 0, 1) := by decide +kernel
theorem dX5_rest_38 : decode cX5_rest 38 = .ok (.getfield 54, 3) := by decide +kernel
theorem dX5_rest_41 : decode cX5_rest 41 = .ok (.iload_n 1, 1) := by decide +kernel
theorem dX5_rest_42 : decode cX5_rest 42 = .ok (.iaload, 1) := by decide +kernel
theorem dX5_rest_43 : decode cX5_rest 43 = .ok (.goto 9, 3) := by decide +kernel
theorem dX5_rest_46 : decode cX5_rest 46 = .ok (.aload_n 0, 1) := by decide +kernel
theorem dX5_rest_47 : decode cX5_rest 47 = .ok (.getfield 48, 3) := by decide +kernel
theorem dX5_rest_50 : decode cX5_rest 50 = .ok (.iload_n 1, 1) := by decide +kernel
theorem dX5_rest_51 : decode cX5_rest 51 = .ok (.iaload, 1) := by decide +kernel
theorem dX5_rest_52 : decode cX5_rest 52 = .ok (.iastore, 1) := by decide +kernel
theorem dX5_rest_53 : decode cX5_rest 53 = .ok (.aload_n 0, 1) := by decide +kernel
theorem dX5_rest_54 : decode cX5_rest 54 = .ok (.getfield 66, 3) := by decide +kernel
theorem dX5_rest_57 : decode cX5_rest 57 = .ok (.iload_n 1, 1) := by decide +kernel
theorem dX5_rest_58 : decode cX5_rest 58 = .ok (.aload_n 0, 1) := by decide +kernel
theorem dX5_rest_59 : decode cX5_rest 59 = .ok (.getfield 146, 3) := by decide +kernel
theorem dX5_rest_62 : decode cX5_rest 62 = .ok (.iastore, 1) := by decide +kernel
theorem dX5_rest_63 : decode cX5_rest 63 = .ok (.aload_n 0, 1) := by decide +kernel
theorem dX5_rest_64 : decode cX5_rest 64 = .ok (.dup, 1) := by decide +kernel
theorem dX5_rest_65 : decode cX5_rest 65 = .ok (.getfield 146, 3) := by decide +kernel
theorem dX5_rest_68 : decode cX5_rest 68 = .ok (.iconst 1, 1) := by decide +kernel
theorem dX5_rest_69 : decode cX5_rest 69 = .ok (.iadd, 1) := by decide +kernel
theorem dX5_rest_70 : decode cX5_rest 70 = .ok (.putfield 146, 3) := by decide +kernel
theorem dX5_rest_73 : decode cX5_rest 73 = .ok (.return_, 1) := by decide +kernel
set_option maxRecDepth 20000 in
theorem ggX5_finish_X5_rest : GoodIn wsX5_finish wsX5_rest := goodIn_r _ [7, 2, 8, 9, 10, 1, 11, 12, 30, 31, 32, 33, 34, 35, 36, 37, 38, 39, 40, 41, 42, 43, 44, 45, 46, 47, 48, 49, 50, 51, 52, 53, 54, 55, 56, 57, 58, 59, 60, 61] (by decide +kernel) (by decide +kernel)
set_option maxRecDepth 20000 in
theorem gX5_finish_X5_rest : GoodIn wsX5_finish (wsV RX5 149 RX5 yX5_rest wsX5_rest) := goodIn_app (goodIn_of _ (by decide +kernel)) ggX5_finish_X5_rest
set_option maxRecDepth 20000 in
theorem ggX5_finish_X5_cancelled : GoodIn wsX5_finish wsX5_cancelled := goodIn_r _ [16, 1, 8, 2, 17, 18, 19, 6, 20, 21, 22, 23, 24, 25, 26, 27, 28, 29, 30, 31, 32, 33, 34, 35, 36, 37, 38, 39, 40, 41, 42, 43, 44, 45, 46, 47, 48, 49, 50, 51, 52, 53, 54, 55, 56, 57, 58, 59, 60, 61] (by decide +kernel) (by decide +kernel)
set_option maxRecDepth 20000 in
theorem gX5_finish_X5_cancelled : GoodIn wsX5_finish (wsV RX5 153 RX5 yX5_cancelled wsX5_cancelled) := goodIn_app (goodIn_of _ (by decide +kernel)) ggX5_finish_X5_cancelled
theorem dX5_finish_0 : decode cX5_finish 0 = .ok (.aload_n 0, 1) := by decide +kernel
theorem dX5_finish_1 : decode cX5_finish 1 = .ok (.getfield 48, 3) := by decide +kernel
theorem dX5_finish_4 : decode cX5_finish 4 = .ok (.iload_n 1, 1) := by decide +kernel
theorem dX5_finish_5 : decode cX5_finish 5 = .ok (.iaload, 1) := by decide +kernel
theorem dX5_finish_6 : decode cX5_finish 6 = .ok (.ifCond .ne 13, 3) := by decide +kernel
theorem dX5_finish_9 : decode cX5_finish 9 = .ok (.aload_n 0, 1) := by decide +kernel
theorem dX5_finish_10 : decode cX5_finish 10 = .ok (.getfield 57, 3) := by decide +kernel
theorem dX5_finish_13 : decode cX5_finish 13 = .ok (.iload_n 1, 1) := by decide +kernel
theorem dX5_finish_14 : decode cX5_finish 14 = .ok (.iconst 2, 1) := by decide +kernel
theorem dX5_finish_15 : decode cX5_finish 15 = .ok (.iastore, 1) := by decide +kernel
theorem dX5_finish_16 : decode cX5_finish 16 = .ok (.goto 20, 3) := by decide +kernel
theorem dX5_finish_19 : decode cX5_finish 19 = .ok (.iload_n 2, 1) := by decide +kernel
theorem dX5_finish_20 : decode cX5_finish 20 = .ok (.ifCond .eq 11, 3) := by decide +kernel
theorem dX5_finish_23 : decode cX5_finish 23 = .ok (.aload_n 0, 1) := by decide +kernel
theorem dX5_finish_24 : decode cX5_finish 24 = .ok (.iload_n 1, 1) := by decide +kernel
theorem dX5_finish_25 : decode cX5_finish 25 = .ok (.invokevirtual 149, 3) := by decide +kernel
theorem dX5_finish_28 : decode cX5_finish 28 = .ok (.goto 8, 3) := by decide +kernel
theorem dX5_finish_31 : decode cX5_finish 31 = .ok (.aload_n 0, 1) := by decide +kernel
theorem dX5_finish_32 : decode cX5_finish 32 = .ok (.iload_n 1, 1) := by decide +kernel
theorem dX5_finish_33 : decode cX5_finish 33 = .ok (.invokevirtual 153, 3) := by decide +kernel
theorem dX5_finish_36 : decode cX5_finish 36 = .ok (.return_, 1) := by decide +kernel
set_option maxRecDepth 20000 in
theorem ggX5_act_X5_first : GoodIn wsX5_act wsX5_first := goodIn_r _ [9, 10, 11, 12, 13, 14, 15, 8, 16, 4, 2, 3, 17, 18, 19, 76, 77, 78, 79, 80, 81, 82, 83, 84, 85, 86, 87, 88, 89, 90, 91, 92, 93, 94, 95, 96, 97, 98, 99, 100, 101, 102, 103, 104, 105, 106, 107] (by decide +kernel) (by decide +kernel)
set_option maxRecDepth 20000 in
theorem gX5_act_X5_first : GoodIn wsX5_act (wsV RX5 135 RX5 yX5_first wsX5_first) := goodIn_app (goodIn_of _ (by decide +kernel)) ggX5_act_X5_first
set_option maxRecDepth 20000 in
theorem ggX5_act_X5_allows : GoodIn wsX5_act wsX5_allows := goodIn_r _ [23, 3, 11, 76, 77, 78, 79, 80, 81, 82, 83, 84, 85, 86, 87, 88, 89, 90, 91, 92, 93, 94, 95, 96, 97, 98, 99, 100, 101, 102, 103, 104, 105, 106, 107] (by decide +kernel) (by decide +kernel)
set_option maxRecDepth 20000 in
theorem gX5_act_X5_allows : GoodIn wsX5_act (wsV RX5 138 RX5 yX5_allows wsX5_allows) := goodIn_app (goodIn_of _ (by decide +kernel)) ggX5_act_X5_allows
set_option maxRecDepth 20000 in
theorem ggX5_act_X5_finish : GoodIn wsX5_act wsX5_finish := goodIn_r _ [27, 28, 4, 29, 30, 31, 8, 32, 33, 1, 34, 12, 35, 36, 37, 38, 39, 40, 41, 42, 43, 44, 3, 45, 11, 46, 2, 47, 48, 49, 76, 77, 78, 79, 80, 81, 82, 83, 84, 85, 86, 87, 88, 89, 90, 91, 92, 93, 94, 95, 96, 97, 98, 99, 100, 101, 102, 103, 104, 105, 106, 107] (by decide +kernel) (by decide +kernel)
set_option maxRecDepth 20000 in
theorem gX5_act_X5_finish : GoodIn wsX5_act (wsV RX5 156 RX5 yX5_finish wsX5_finish) := goodIn_app (goodIn_of _ (by decide +kernel)) ggX5_act_X5_finish
set_option maxRecDepth 20000 in
theorem ggX5_act_X5_wouldTrade : GoodIn wsX5_act wsX5_wouldTrade := goodIn_r _ [53, 10, 54, 28, 55, 33, 56, 12, 35, 2, 3, 11, 44, 34, 13, 14, 15, 8, 16, 4, 17, 18, 19, 20, 21, 22, 23, 76, 77, 78, 79, 80, 81, 82, 83, 84, 85, 86, 87, 88, 89, 90, 91, 92, 93, 94, 95, 96, 97, 98, 99, 100, 101, 102, 103, 104, 105, 106, 107] (by decide +kernel) (by decide +kernel)
set_option maxRecDepth 20000 in
theorem gX5_act_X5_wouldTrade : GoodIn wsX5_act (wsV RX5 160 RX5 yX5_wouldTrade wsX5_wouldTrade) := goodIn_app (goodIn_of _ (by decide +kernel)) ggX5_act_X5_wouldTrade
set_option maxRecDepth 20000 in
theorem ggX5_act_X5_cancelled : GoodIn wsX5_act wsX5_cancelled := goodIn_r _ [39, 28, 33, 4, 40, 41, 42, 8, 43, 44, 3, 45, 11, 46, 2, 47, 48, 49, 76, 77, 78, 79, 80, 81, 82, 83, 84, 85, 86, 87, 88, 89, 90, 91, 92, 93, 94, 95, 96, 97, 98, 99, 100, 101, 102, 103, 104, 105, 106, 107] (by decide +kernel) (by decide +kernel)
set_option maxRecDepth 20000 in
theorem gX5_act_X5_cancelled : GoodIn wsX5_act (wsV RX5 153 RX5 yX5_cancelled wsX5_cancelled) := goodIn_app (goodIn_of _ (by decide +kernel)) ggX5_act_X5_cancelled
set_option maxRecDepth 20000 in
theorem ggX5_act_X5_match : GoodIn wsX5_act wsX5_match := goodIn_r _ [60, 2, 3, 28, 44, 33, 61, 4, 34, 12, 35, 5, 6, 7, 8, 9, 10, 11, 13, 14, 15, 16, 17, 18, 19, 20, 21, 22, 23, 62, 63, 64, 65, 66, 67, 68, 69, 70, 71, 72, 73, 74, 75, 40, 41, 42, 43, 45, 46, 47, 48, 49, 76, 77, 78, 79, 80, 81, 82, 83, 84, 85, 86, 87, 88, 89, 90, 91, 92, 93, 94, 95, 96, 97, 98, 99, 100, 101, 102, 103, 104, 105, 106, 107] (by decide +kernel) (by decide +kernel)
set_option maxRecDepth 20000 in
theorem gX5_act_X5_match : GoodIn wsX5_act (wsV RX5 163 RX5 yX5_match wsX5_match) := goodIn_app (goodIn_of _ (by decide +kernel)) ggX5_act_X5_match
theorem dX5_act_0 : decode cX5_act 0 = .ok (.aload_n 0, 1) := by decide +kernel
theorem dX5_act_1 : decode cX5_act 1 = .ok (.getfield 42, 3) := by decide +kernel
theorem dX5_act_4 : decode cX5_act 4 = .ok (.iload_n 1, 1) := by decide +kernel
theorem dX5_act_5 : decode cX5_act 5 = .ok (.iaload, 1) := by decide +kernel
theorem dX5_act_6 : decode cX5_act 6 = .ok (.istore_n 2, 1) := by decide +kernel
theorem dX5_act_7 : decode cX5_act 7 = .ok (.aload_n 0, 1) := by decide +kernel
theorem dX5_act_8 : decode cX5_act 8 = .ok (.aload_n 0, 1) := by decide +kernel
theorem dX5_act_9 : decode cX5_act 9 = .ok (.getfield 36, 3) := by decide +kernel
theorem dX5_act_12 : decode cX5_act 12 = .ok (.iload_n 1, 1) := by decide +kernel
theorem dX5_act_13 : decode cX5_act 13 = .ok (.iaload, 1) := by decide +kernel
theorem dX5_act_14 : decode cX5_act 14 = .ok (.iconst 1, 1) := by decide +kernel
theorem dX5_act_15 : decode cX5_act 15 = .ok (.aload_n 0, 1) := by decide +kernel
theorem dX5_act_16 : decode cX5_act 16 = .ok (.getfield 39, 3) := by decide +kernel
theorem dX5_act_19 : decode cX5_act 19 = .ok (.iload_n 1, 1) := by decide +kernel
theorem dX5_act_20 : decode cX5_act 20 = .ok (.iaload, 1) := by decide +kernel
theorem dX5_act_21 : decode cX5_act 21 = .ok (.isub, 1) := by decide +kernel
theorem dX5_act_22 : decode cX5_act 22 = .ok (.invokevirtual 135, 3) := by decide +kernel
theorem dX5_act_25 : decode cX5_act 25 = .ok (.istore_n 3, 1) := by decide +kernel
theorem dX5_act_26 : decode cX5_act 26 = .ok (.iload_n 2, 1) := by decide +kernel
theorem dX5_act_27 : decode cX5_act 27 = .ok (.iconst 5, 1) := by decide +kernel
theorem dX5_act_28 : decode cX5_act 28 = .ok (.if_icmp .ne 13, 3) := by decide +kernel
theorem dX5_act_31 : decode cX5_act 31 = .ok (.aload_n 0, 1) := by decide +kernel
theorem dX5_act_32 : decode cX5_act 32 = .ok (.getfield 57, 3) := by decide +kernel
theorem dX5_act_35 : decode cX5_act 35 = .ok (.iload_n 1, 1) := by decide +kernel
theorem dX5_act_36 : decode cX5_act 36 = .ok (.iconst 1, 1) := by decide +kernel
theorem dX5_act_37 : decode cX5_act 37 = .ok (.iastore, 1) := by decide +kernel
theorem dX5_act_38 : decode cX5_act 38 = .ok (.goto 87, 3) := by decide +kernel
theorem dX5_act_41 : decode cX5_act 41 = .ok (.iload_n 2, 1) := by decide +kernel
theorem dX5_act_42 : decode cX5_act 42 = .ok (.iconst 3, 1) := by decide +kernel
theorem dX5_act_43 : decode cX5_act 43 = .ok (.if_icmp .ne 30, 3) := by decide +kernel
theorem dX5_act_46 : decode cX5_act 46 = .ok (.aload_n 0, 1) := by decide +kernel
theorem dX5_act_47 : decode cX5_act 47 = .ok (.iload_n 1, 1) := by decide +kernel
theorem dX5_act_48 : decode cX5_act 48 = .ok (.iload_n 3, 1) := by decide +kernel
theorem dX5_act_49 : decode cX5_act 49 = .ok (.iconst (-1), 1) := by decide +kernel
theorem dX5_act_50 : decode cX5_act 50 = .ok (.if_icmp .eq 12, 3) := by decide +kernel
theorem dX5_act_53 : decode cX5_act 53 = .ok (.aload_n 0, 1) := by decide +kernel
theorem dX5_act_54 : decode cX5_act 54 = .ok (.iload_n 1, 1) := by decide +kernel
theorem dX5_act_55 : decode cX5_act 55 = .ok (.iload_n 3, 1) := by decide +kernel
theorem dX5_act_56 : decode cX5_act 56 = .ok (.invokevirtual 138, 3) := by decide +kernel
theorem dX5_act_59 : decode cX5_act 59 = .ok (.ifCond .ne 7, 3) := by decide +kernel
theorem dX5_act_62 : decode cX5_act 62 = .ok (.iconst 1, 1) := by decide +kernel
theorem dX5_act_63 : decode cX5_act 63 = .ok (.goto 4, 3) := by decide +kernel
theorem dX5_act_66 : decode cX5_act 66 = .ok (.iconst 0, 1) := by decide +kernel
theorem dX5_act_67 : decode cX5_act 67 = .ok (.invokevirtual 156, 3) := by decide +kernel
theorem dX5_act_70 : decode cX5_act 70 = .ok (.goto 55, 3) := by decide +kernel
theorem dX5_act_73 : decode cX5_act 73 = .ok (.iload_n 2, 1) := by decide +kernel
theorem dX5_act_74 : decode cX5_act 74 = .ok (.iconst 2, 1) := by decide +kernel
theorem dX5_act_75 : decode cX5_act 75 = .ok (.if_icmp .ne 19, 3) := by decide +kernel
theorem dX5_act_78 : decode cX5_act 78 = .ok (.aload_n 0, 1) := by decide +kernel
theorem dX5_act_79 : decode cX5_act 79 = .ok (.iload_n 1, 1) := by decide +kernel
theorem dX5_act_80 : decode cX5_act 80 = .ok (.invokevirtual 160, 3) := by decide +kernel
theorem dX5_act_83 : decode cX5_act 83 = .ok (.ifCond .ne 11, 3) := by decide +kernel
theorem dX5_act_86 : decode cX5_act 86 = .ok (.aload_n 0, 1) := by decide +kernel
theorem dX5_act_87 : decode cX5_act 87 = .ok (.iload_n 1, 1) := by decide +kernel
theorem dX5_act_88 : decode cX5_act 88 = .ok (.invokevirtual 153, 3) := by decide +kernel
theorem dX5_act_91 : decode cX5_act 91 = .ok (.goto 34, 3) := by decide +kernel
theorem dX5_act_94 : decode cX5_act 94 = .ok (.aload_n 0, 1) := by decide +kernel
theorem dX5_act_95 : decode cX5_act 95 = .ok (.iload_n 1, 1) := by decide +kernel
theorem dX5_act_96 : decode cX5_act 96 = .ok (.invokevirtual 163, 3) := by decide +kernel
theorem dX5_act_99 : decode cX5_act 99 = .ok (.istore 4, 2) := by decide +kernel
theorem dX5_act_101 : decode cX5_act 101 = .ok (.aload_n 0, 1) := by decide +kernel
theorem dX5_act_102 : decode cX5_act 102 = .ok (.iload_n 1, 1) := by decide +kernel
theorem dX5_act_103 : decode cX5_act 103 = .ok (.iload 4, 2) := by decide +kernel
theorem dX5_act_105 : decode cX5_act 105 = .ok (.ifCond .ne 16, 3) := by decide +kernel
theorem dX5_act_108 : decode cX5_act 108 = .ok (.iload_n 2, 1) := by decide +kernel
theorem dX5_act_109 : decode cX5_act 109 = .ok (.ifCond .eq 8, 3) := by decide +kernel
theorem dX5_act_112 : decode cX5_act 112 = .ok (.iload_n 2, 1) := by decide +kernel
theorem dX5_act_113 : decode cX5_act 113 = .ok (.iconst 4, 1) := by decide +kernel
theorem dX5_act_114 : decode cX5_act 114 = .ok (.if_icmp .ne 7, 3) := by decide +kernel
theorem dX5_act_117 : decode cX5_act 117 = .ok (.iconst 1, 1) := by decide +kernel
theorem dX5_act_118 : decode cX5_act 118 = .ok (.goto 4, 3) := by decide +kernel
theorem dX5_act_121 : decode cX5_act 121 = .ok (.iconst 0, 1) := by decide +kernel
theorem dX5_act_122 : decode cX5_act 122 = .ok (.invokevirtual 156, 3) := by decide +kernel
theorem dX5_act_125 : decode cX5_act 125 = .ok (.return_, 1) := by decide +kernel
theorem dX5_ready_0 : decode cX5_ready 0 = .ok (.iconst 0, 1) := by decide +kernel
theorem dX5_ready_1 : decode cX5_ready 1 = .ok (.istore_n 2, 1) := by decide +kernel
theorem dX5_ready_2 : decode cX5_ready 2 = .ok (.iload_n 2, 1) := by decide +kernel
theorem dX5_ready_3 : decode cX5_ready 3 = .ok (.aload_n 0, 1) := by decide +kernel
theorem dX5_ready_4 : decode cX5_ready 4 = .ok (.getfield 116, 3) := by decide +kernel
theorem dX5_ready_7 : decode cX5_ready 7 = .ok (.if_icmp .ge 92, 3) := by decide +kernel
theorem dX5_ready_10 : decode cX5_ready 10 = .ok (.aload_n 0, 1) := by decide +kernel
theorem dX5_ready_11 : decode cX5_ready 11 = .ok (.getfield 57, 3) := by decide +kernel
theorem dX5_ready_14 : decode cX5_ready 14 = .ok (.iload_n 2, 1) := by decide +kernel
theorem dX5_ready_15 : decode cX5_ready 15 = .ok (.iaload, 1) := by decide +kernel
theorem dX5_ready_16 : decode cX5_ready 16 = .ok (.iconst 1, 1) := by decide +kernel
theorem dX5_ready_17 : decode cX5_ready 17 = .ok (.if_icmp .ne 26, 3) := by decide +kernel
theorem dX5_ready_20 : decode cX5_ready 20 = .ok (.aload_n 0, 1) := by decide +kernel
theorem dX5_ready_21 : decode cX5_ready 21 = .ok (.getfield 36, 3) := by decide +kernel
theorem dX5_ready_24 : decode cX5_ready 24 = .ok (.iload_n 2, 1) := by decide +kernel
theorem dX5_ready_25 : decode cX5_ready 25 = .ok (.iaload, 1) := by decide +kernel
theorem dX5_ready_26 : decode cX5_ready 26 = .ok (.iload_n 1, 1) := by decide +kernel
theorem dX5_ready_27 : decode cX5_ready 27 = .ok (.if_icmp .ne 16, 3) := by decide +kernel
theorem dX5_ready_30 : decode cX5_ready 30 = .ok (.aload_n 0, 1) := by decide +kernel
theorem dX5_ready_31 : decode cX5_ready 31 = .ok (.getfield 81, 3) := by decide +kernel
theorem dX5_ready_34 : decode cX5_ready 34 = .ok (.iload_n 1, 1) := by decide +kernel
theorem dX5_ready_35 : decode cX5_ready 35 = .ok (.iaload, 1) := by decide +kernel
theorem dX5_ready_36 : decode cX5_ready 36 = .ok (.ifCond .le 7, 3) := by decide +kernel
theorem dX5_ready_39 : decode cX5_ready 39 = .ok (.iconst 1, 1) := by decide +kernel
theorem dX5_ready_40 : decode cX5_ready 40 = .ok (.goto 4, 3) := by decide +kernel
theorem dX5_ready_43 : decode cX5_ready 43 = .ok (.iconst 0, 1) := by decide +kernel
theorem dX5_ready_44 : decode cX5_ready 44 = .ok (.istore_n 3, 1) := by decide +kernel
theorem dX5_ready_45 : decode cX5_ready 45 = .ok (.iload_n 3, 1) := by decide +kernel
theorem dX5_ready_46 : decode cX5_ready 46 = .ok (.ifCond .eq 47, 3) := by decide +kernel
theorem dX5_ready_49 : decode cX5_ready 49 = .ok (.aload_n 0, 1) := by decide +kernel
theorem dX5_ready_50 : decode cX5_ready 50 = .ok (.getfield 39, 3) := by decide +kernel
theorem dX5_ready_53 : decode cX5_ready 53 = .ok (.iload_n 2, 1) := by decide +kernel
theorem dX5_ready_54 : decode cX5_ready 54 = .ok (.iaload, 1) := by decide +kernel
theorem dX5_ready_55 : decode cX5_ready 55 = .ok (.ifCond .ne 21, 3) := by decide +kernel
theorem dX5_ready_58 : decode cX5_ready 58 = .ok (.aload_n 0, 1) := by decide +kernel
theorem dX5_ready_59 : decode cX5_ready 59 = .ok (.getfield 81, 3) := by decide +kernel
theorem dX5_ready_62 : decode cX5_ready 62 = .ok (.iload_n 1, 1) := by decide +kernel
theorem dX5_ready_63 : decode cX5_ready 63 = .ok (.iaload, 1) := by decide +kernel
theorem dX5_ready_64 : decode cX5_ready 64 = .ok (.aload_n 0, 1) := by decide +kernel
theorem dX5_ready_65 : decode cX5_ready 65 = .ok (.getfield 54, 3) := by decide +kernel
theorem dX5_ready_68 : decode cX5_ready 68 = .ok (.iload_n 2, 1) := by decide +kernel
theorem dX5_ready_69 : decode cX5_ready 69 = .ok (.iaload, 1) := by decide +kernel
theorem dX5_ready_70 : decode cX5_ready 70 = .ok (.if_icmp .lt 23, 3) := by decide +kernel
theorem dX5_ready_73 : decode cX5_ready 73 = .ok (.goto 18, 3) := by decide +kernel
theorem dX5_ready_76 : decode cX5_ready 76 = .ok (.aload_n 0, 1) := by decide +kernel
theorem dX5_ready_77 : decode cX5_ready 77 = .ok (.getfield 81, 3) := by decide +kernel
theorem dX5_ready_80 : decode cX5_ready 80 = .ok (.iload_n 1, 1) := by decide +kernel
theorem dX5_ready_81 : decode cX5_ready 81 = .ok (.iaload, 1) := by decide +kernel
theorem dX5_ready_82 : decode cX5_ready 82 = .ok (.aload_n 0, 1) := by decide +kernel
theorem dX5_ready_83 : decode cX5_ready 83 = .ok (.getfield 54, 3) := by decide +kernel
theorem dX5_ready_86 : decode cX5_ready 86 = .ok (.iload_n 2, 1) := by decide +kernel
theorem dX5_ready_87 : decode cX5_ready 87 = .ok (.iaload, 1) := by decide +kernel
theorem dX5_ready_88 : decode cX5_ready 88 = .ok (.if_icmp .gt 5, 3) := by decide +kernel
theorem dX5_ready_91 : decode cX5_ready 91 = .ok (.iload_n 2, 1) := by decide +kernel
theorem dX5_ready_92 : decode cX5_ready 92 = .ok (.ireturn, 1) := by decide +kernel
theorem dX5_ready_93 : decode cX5_ready 93 = .ok (.iinc 2 1, 3) := by decide +kernel
theorem dX5_ready_96 : decode cX5_ready 96 = .ok (.goto (-94), 3) := by decide +kernel
theorem dX5_ready_99 : decode cX5_ready 99 = .ok (.iconst (-1), 1) := by decide +kernel
theorem dX5_ready_100 : decode cX5_ready 100 = .ok (.ireturn, 1) := by decide +kernel
set_option maxRecDepth 20000 in
theorem ggX5_order_X5_isAccount : GoodIn wsX5_order wsX5_isAccount := goodIn_r _ [18, 19, 20, 17, 21] (by decide +kernel) (by decide +kernel)
set_option maxRecDepth 20000 in
theorem gX5_order_X5_isAccount : GoodIn wsX5_order (va_wsS RX5 101 yX5_isAccount wsX5_isAccount) := goodIn_app (goodIn_of _ (by decide +kernel)) ggX5_order_X5_isAccount
set_option maxRecDepth 20000 in
theorem ggX5_order_X5_isSymbol : GoodIn wsX5_order wsX5_isSymbol := goodIn_r _ [24, 19, 20, 17, 21] (by decide +kernel) (by decide +kernel)
set_option maxRecDepth 20000 in
theorem gX5_order_X5_isSymbol : GoodIn wsX5_order (va_wsS RX5 108 yX5_isSymbol wsX5_isSymbol) := goodIn_app (goodIn_of _ (by decide +kernel)) ggX5_order_X5_isSymbol
set_option maxRecDepth 20000 in
theorem ggX5_order_X5_isIn : GoodIn wsX5_order wsX5_isIn := goodIn_r _ [21] (by decide +kernel) (by decide +kernel)
set_option maxRecDepth 20000 in
theorem gX5_order_X5_isIn : GoodIn wsX5_order (va_wsS RX5 97 yX5_isIn wsX5_isIn) := goodIn_app (goodIn_of _ (by decide +kernel)) ggX5_order_X5_isIn
set_option maxRecDepth 20000 in
theorem ggX5_order_X5_there : GoodIn wsX5_order wsX5_there := goodIn_r _ [28, 6, 29, 30, 31, 17, 32, 14, 102, 103, 104, 105, 106, 107, 108, 109, 110, 111, 112, 113, 114, 115, 116, 117, 118, 119, 120, 121, 122, 123, 124, 125, 126, 127, 128, 129, 130, 131, 132, 133] (by decide +kernel) (by decide +kernel)
set_option maxRecDepth 20000 in
theorem gX5_order_X5_there : GoodIn wsX5_order (wsV RX5 166 RX5 yX5_there wsX5_there) := goodIn_app (goodIn_of _ (by decide +kernel)) ggX5_order_X5_there
set_option maxRecDepth 20000 in
theorem ggX5_order_X5_cell : GoodIn wsX5_order wsX5_cell := goodIn_r _ [35] (by decide +kernel) (by decide +kernel)
set_option maxRecDepth 20000 in
theorem gX5_order_X5_cell : GoodIn wsX5_order (va_wsS RX5 112 yX5_cell wsX5_cell) := goodIn_app (goodIn_of _ (by decide +kernel)) ggX5_order_X5_cell
set_option maxRecDepth 20000 in
theorem ggX5_order_X5_free : GoodIn wsX5_order wsX5_free := goodIn_r _ [39, 7, 9, 2, 11, 4, 8, 33, 34, 17, 35, 102, 103, 104, 105, 106, 107, 108, 109, 110, 111, 112, 113, 114, 115, 116, 117, 118, 119, 120, 121, 122, 123, 124, 125, 126, 127, 128, 129, 130, 131, 132, 133] (by decide +kernel) (by decide +kernel)
set_option maxRecDepth 20000 in
theorem gX5_order_X5_free : GoodIn wsX5_order (wsV RX5 128 RX5 yX5_free wsX5_free) := goodIn_app (goodIn_of _ (by decide +kernel)) ggX5_order_X5_free
set_option maxRecDepth 20000 in
theorem ggX5_order_X5_act : GoodIn wsX5_order wsX5_act := goodIn_r _ [43, 10, 8, 9, 14, 44, 45, 46, 17, 47, 6, 11, 48, 49, 50, 51, 52, 53, 54, 55, 56, 57, 58, 59, 60, 61, 62, 63, 12, 64, 65, 66, 67, 68, 13, 69, 70, 71, 72, 73, 36, 37, 38, 39, 7, 2, 4, 33, 34, 35, 74, 75, 76, 77, 78, 79, 80, 81, 82, 83, 84, 85, 86, 87, 88, 89, 1, 3, 90, 91, 92, 93, 94, 95, 96, 97, 102, 103, 104, 105, 106, 107, 108, 109, 110, 111, 112, 113, 114, 115, 116, 117, 118, 119, 120, 121, 122, 123, 124, 125, 126, 127, 128, 129, 130, 131, 132, 133] (by decide +kernel) (by decide +kernel)
set_option maxRecDepth 20000 in
theorem gX5_order_X5_act : GoodIn wsX5_order (wsV RX5 170 RX5 yX5_act wsX5_act) := goodIn_app (goodIn_of _ (by decide +kernel)) ggX5_order_X5_act
set_option maxRecDepth 20000 in
theorem ggX5_order_X5_ready : GoodIn wsX5_order wsX5_ready := goodIn_r _ [101, 6, 14, 8, 94, 9, 13, 102, 103, 104, 105, 106, 107, 108, 109, 110, 111, 112, 113, 114, 115, 116, 117, 118, 119, 120, 121, 122, 123, 124, 125, 126, 127, 128, 129, 130, 131, 132, 133] (by decide +kernel) (by decide +kernel)
set_option maxRecDepth 20000 in
theorem gX5_order_X5_ready : GoodIn wsX5_order (wsV RX5 173 RX5 yX5_ready wsX5_ready) := goodIn_app (goodIn_of _ (by decide +kernel)) ggX5_order_X5_ready
theorem dX5_order_0 : decode cX5_order 0 = .ok (.iload_n 1, 1) := by decide +kernel
theorem dX5_order_1 : decode cX5_order 1 = .ok (.invokestatic 101, 3) := by decide +kernel
theorem dX5_order_4 : decode cX5_order 4 = .ok (.ifCond .eq 14, 3) := by decide +kernel
theorem dX5_order_7 : decode cX5_order 7 = .ok (.iload_n 2, 1) := by decide +kernel
theorem dX5_order_8 : decode cX5_order 8 = .ok (.invokestatic 108, 3) := by decide +kernel
theorem dX5_order_11 : decode cX5_order 11 = .ok (.ifCond .eq 7, 3) := by decide +kernel
theorem dX5_order_14 : decode cX5_order 14 = .ok (.iconst 1, 1) := by decide +kernel
theorem dX5_order_15 : decode cX5_order 15 = .ok (.goto 4, 3) := by decide +kernel
theorem dX5_order_18 : decode cX5_order 18 = .ok (.iconst 0, 1) := by decide +kernel
theorem dX5_order_19 : decode cX5_order 19 = .ok (.istore 8, 2) := by decide +kernel
theorem dX5_order_21 : decode cX5_order 21 = .ok (.iload_n 3, 1) := by decide +kernel
theorem dX5_order_22 : decode cX5_order 22 = .ok (.iconst 0, 1) := by decide +kernel
theorem dX5_order_23 : decode cX5_order 23 = .ok (.iconst 1, 1) := by decide +kernel
theorem dX5_order_24 : decode cX5_order 24 = .ok (.invokestatic 97, 3) := by decide +kernel
theorem dX5_order_27 : decode cX5_order 27 = .ok (.ifCond .eq 59, 3) := by decide +kernel
theorem dX5_order_30 : decode cX5_order 30 = .ok (.iload 4, 2) := by decide +kernel
theorem dX5_order_32 : decode cX5_order 32 = .ok (.iconst 0, 1) := by decide +kernel
theorem dX5_order_33 : decode cX5_order 33 = .ok (.iconst 5, 1) := by decide +kernel
theorem dX5_order_34 : decode cX5_order 34 = .ok (.invokestatic 97, 3) := by decide +kernel
theorem dX5_order_37 : decode cX5_order 37 = .ok (.ifCond .eq 49, 3) := by decide +kernel
theorem dX5_order_40 : decode cX5_order 40 = .ok (.iload 5, 2) := by decide +kernel
theorem dX5_order_42 : decode cX5_order 42 = .ok (.iconst 1, 1) := by decide +kernel
theorem dX5_order_43 : decode cX5_order 43 = .ok (.sipush 10000, 3) := by decide +kernel
theorem dX5_order_46 : decode cX5_order 46 = .ok (.invokestatic 97, 3) := by decide +kernel
theorem dX5_order_49 : decode cX5_order 49 = .ok (.ifCond .eq 37, 3) := by decide +kernel
theorem dX5_order_52 : decode cX5_order 52 = .ok (.iload 6, 2) := by decide +kernel
theorem dX5_order_54 : decode cX5_order 54 = .ok (.iconst 1, 1) := by decide +kernel
theorem dX5_order_55 : decode cX5_order 55 = .ok (.sipush 10000, 3) := by decide +kernel
theorem dX5_order_58 : decode cX5_order 58 = .ok (.invokestatic 97, 3) := by decide +kernel
theorem dX5_order_61 : decode cX5_order 61 = .ok (.ifCond .eq 25, 3) := by decide +kernel
theorem dX5_order_64 : decode cX5_order 64 = .ok (.iload 4, 2) := by decide +kernel
theorem dX5_order_66 : decode cX5_order 66 = .ok (.iconst 4, 1) := by decide +kernel
theorem dX5_order_67 : decode cX5_order 67 = .ok (.if_icmp .lt 15, 3) := by decide +kernel
theorem dX5_order_70 : decode cX5_order 70 = .ok (.iload 7, 2) := by decide +kernel
theorem dX5_order_72 : decode cX5_order 72 = .ok (.iconst 1, 1) := by decide +kernel
theorem dX5_order_73 : decode cX5_order 73 = .ok (.sipush 10000, 3) := by decide +kernel
theorem dX5_order_76 : decode cX5_order 76 = .ok (.invokestatic 97, 3) := by decide +kernel
theorem dX5_order_79 : decode cX5_order 79 = .ok (.ifCond .eq 7, 3) := by decide +kernel
theorem dX5_order_82 : decode cX5_order 82 = .ok (.iconst 1, 1) := by decide +kernel
theorem dX5_order_83 : decode cX5_order 83 = .ok (.goto 4, 3) := by decide +kernel
theorem dX5_order_86 : decode cX5_order 86 = .ok (.iconst 0, 1) := by decide +kernel
theorem dX5_order_87 : decode cX5_order 87 = .ok (.istore 9, 2) := by decide +kernel
theorem dX5_order_89 : decode cX5_order 89 = .ok (.iload 8, 2) := by decide +kernel
theorem dX5_order_91 : decode cX5_order 91 = .ok (.ifCond .eq 78, 3) := by decide +kernel
theorem dX5_order_94 : decode cX5_order 94 = .ok (.iload 9, 2) := by decide +kernel
theorem dX5_order_96 : decode cX5_order 96 = .ok (.ifCond .eq 73, 3) := by decide +kernel
theorem dX5_order_99 : decode cX5_order 99 = .ok (.aload_n 0, 1) := by decide +kernel
theorem dX5_order_100 : decode cX5_order 100 = .ok (.invokevirtual 166, 3) := by decide +kernel
theorem dX5_order_103 : decode cX5_order 103 = .ok (.bipush 100, 2) := by decide +kernel
theorem dX5_order_105 : decode cX5_order 105 = .ok (.if_icmp .ge 64, 3) := by decide +kernel
theorem dX5_order_108 : decode cX5_order 108 = .ok (.iload_n 3, 1) := by decide +kernel
theorem dX5_order_109 : decode cX5_order 109 = .ok (.ifCond .ne 30, 3) := by decide +kernel
theorem dX5_order_112 : decode cX5_order 112 = .ok (.aload_n 0, 1) := by decide +kernel
theorem dX5_order_113 : decode cX5_order 113 = .ok (.getfield 7, 3) := by decide +kernel
theorem dX5_order_116 : decode cX5_order 116 = .ok (.iload_n 1, 1) := by decide +kernel
theorem dX5_order_117 : decode cX5_order 117 = .ok (.laload, 1) := by decide +kernel
theorem dX5_order_118 : decode cX5_order 118 = .ok (.aload_n 0, 1) := by decide +kernel
theorem dX5_order_119 : decode cX5_order 119 = .ok (.getfield 13, 3) := by decide +kernel
theorem dX5_order_122 : decode cX5_order 122 = .ok (.iload_n 1, 1) := by decide +kernel
theorem dX5_order_123 : decode cX5_order 123 = .ok (.laload, 1) := by decide +kernel
theorem dX5_order_124 : decode cX5_order 124 = .ok (.lsub, 1) := by decide +kernel
theorem dX5_order_125 : decode cX5_order 125 = .ok (.iload 5, 2) := by decide +kernel
theorem dX5_order_127 : decode cX5_order 127 = .ok (.i2l, 1) := by decide +kernel
theorem dX5_order_128 : decode cX5_order 128 = .ok (.iload 6, 2) := by decide +kernel
theorem dX5_order_130 : decode cX5_order 130 = .ok (.i2l, 1) := by decide +kernel
theorem dX5_order_131 : decode cX5_order 131 = .ok (.lmul, 1) := by decide +kernel
theorem dX5_order_132 : decode cX5_order 132 = .ok (.lcmp, 1) := by decide +kernel
theorem dX5_order_133 : decode cX5_order 133 = .ok (.ifCond .lt 36, 3) := by decide +kernel
theorem dX5_order_136 : decode cX5_order 136 = .ok (.goto 29, 3) := by decide +kernel
theorem dX5_order_139 : decode cX5_order 139 = .ok (.aload_n 0, 1) := by decide +kernel
theorem dX5_order_140 : decode cX5_order 140 = .ok (.getfield 16, 3) := by decide +kernel
theorem dX5_order_143 : decode cX5_order 143 = .ok (.iload_n 1, 1) := by decide +kernel
theorem dX5_order_144 : decode cX5_order 144 = .ok (.iload_n 2, 1) := by decide +kernel
theorem dX5_order_145 : decode cX5_order 145 = .ok (.invokestatic 112, 3) := by decide +kernel
theorem dX5_order_148 : decode cX5_order 148 = .ok (.iaload, 1) := by decide +kernel
theorem dX5_order_149 : decode cX5_order 149 = .ok (.aload_n 0, 1) := by decide +kernel
theorem dX5_order_150 : decode cX5_order 150 = .ok (.getfield 20, 3) := by decide +kernel
theorem dX5_order_153 : decode cX5_order 153 = .ok (.iload_n 1, 1) := by decide +kernel
theorem dX5_order_154 : decode cX5_order 154 = .ok (.iload_n 2, 1) := by decide +kernel
theorem dX5_order_155 : decode cX5_order 155 = .ok (.invokestatic 112, 3) := by decide +kernel
theorem dX5_order_158 : decode cX5_order 158 = .ok (.iaload, 1) := by decide +kernel
theorem dX5_order_159 : decode cX5_order 159 = .ok (.isub, 1) := by decide +kernel
theorem dX5_order_160 : decode cX5_order 160 = .ok (.iload 6, 2) := by decide +kernel
theorem dX5_order_162 : decode cX5_order 162 = .ok (.if_icmp .lt 7, 3) := by decide +kernel
theorem dX5_order_165 : decode cX5_order 165 = .ok (.iconst 1, 1) := by decide +kernel
theorem dX5_order_166 : decode cX5_order 166 = .ok (.goto 4, 3) := by decide +kernel
theorem dX5_order_169 : decode cX5_order 169 = .ok (.iconst 0, 1) := by decide +kernel
theorem dX5_order_170 : decode cX5_order 170 = .ok (.istore 10, 2) := by decide +kernel
theorem dX5_order_172 : decode cX5_order 172 = .ok (.aload_n 0, 1) := by decide +kernel
theorem dX5_order_173 : decode cX5_order 173 = .ok (.iload 8, 2) := by decide +kernel
theorem dX5_order_175 : decode cX5_order 175 = .ok (.ifCond .ne 7, 3) := by decide +kernel
theorem dX5_order_178 : decode cX5_order 178 = .ok (.iconst 1, 1) := by decide +kernel
theorem dX5_order_179 : decode cX5_order 179 = .ok (.goto 22, 3) := by decide +kernel
theorem dX5_order_182 : decode cX5_order 182 = .ok (.iload 9, 2) := by decide +kernel
theorem dX5_order_184 : decode cX5_order 184 = .ok (.ifCond .ne 7, 3) := by decide +kernel
theorem dX5_order_187 : decode cX5_order 187 = .ok (.iconst 2, 1) := by decide +kernel
theorem dX5_order_188 : decode cX5_order 188 = .ok (.goto 13, 3) := by decide +kernel
theorem dX5_order_191 : decode cX5_order 191 = .ok (.iload 10, 2) := by decide +kernel
theorem dX5_order_193 : decode cX5_order 193 = .ok (.ifCond .ne 7, 3) := by decide +kernel
theorem dX5_order_196 : decode cX5_order 196 = .ok (.iconst 3, 1) := by decide +kernel
theorem dX5_order_197 : decode cX5_order 197 = .ok (.goto 4, 3) := by decide +kernel
theorem dX5_order_200 : decode cX5_order 200 = .ok (.iconst 0, 1) := by decide +kernel
theorem dX5_order_201 : decode cX5_order 201 = .ok (.putfield 93, 3) := by decide +kernel
theorem dX5_order_204 : decode cX5_order 204 = .ok (.aload_n 0, 1) := by decide +kernel
theorem dX5_order_205 : decode cX5_order 205 = .ok (.getfield 93, 3) := by decide +kernel
theorem dX5_order_208 : decode cX5_order 208 = .ok (.ifCond .le 5, 3) := by decide +kernel
theorem dX5_order_211 : decode cX5_order 211 = .ok (.iconst 0, 1) := by decide +kernel
theorem dX5_order_212 : decode cX5_order 212 = .ok (.ireturn, 1) := by decide +kernel
theorem dX5_order_213 : decode cX5_order 213 = .ok (.aload_n 0, 1) := by decide +kernel
theorem dX5_order_214 : decode cX5_order 214 = .ok (.getfield 116, 3) := by decide +kernel
theorem dX5_order_217 : decode cX5_order 217 = .ok (.istore 11, 2) := by decide +kernel
theorem dX5_order_219 : decode cX5_order 219 = .ok (.aload_n 0, 1) := by decide +kernel
theorem dX5_order_220 : decode cX5_order 220 = .ok (.dup, 1) := by decide +kernel
theorem dX5_order_221 : decode cX5_order 221 = .ok (.getfield 116, 3) := by decide +kernel
theorem dX5_order_224 : decode cX5_order 224 = .ok (.iconst 1, 1) := by decide +kernel
theorem dX5_order_225 : decode cX5_order 225 = .ok (.iadd, 1) := by decide +kernel
theorem dX5_order_226 : decode cX5_order 226 = .ok (.putfield 116, 3) := by decide +kernel
theorem dX5_order_229 : decode cX5_order 229 = .ok (.aload_n 0, 1) := by decide +kernel
theorem dX5_order_230 : decode cX5_order 230 = .ok (.getfield 33, 3) := by decide +kernel
theorem dX5_order_233 : decode cX5_order 233 = .ok (.iload 11, 2) := by decide +kernel
theorem dX5_order_235 : decode cX5_order 235 = .ok (.iload_n 1, 1) := by decide +kernel
theorem dX5_order_236 : decode cX5_order 236 = .ok (.iastore, 1) := by decide +kernel
theorem dX5_order_237 : decode cX5_order 237 = .ok (.aload_n 0, 1) := by decide +kernel
theorem dX5_order_238 : decode cX5_order 238 = .ok (.getfield 36, 3) := by decide +kernel
theorem dX5_order_241 : decode cX5_order 241 = .ok (.iload 11, 2) := by decide +kernel
theorem dX5_order_243 : decode cX5_order 243 = .ok (.iload_n 2, 1) := by decide +kernel
theorem dX5_order_244 : decode cX5_order 244 = .ok (.iastore, 1) := by decide +kernel
theorem dX5_order_245 : decode cX5_order 245 = .ok (.aload_n 0, 1) := by decide +kernel
theorem dX5_order_246 : decode cX5_order 246 = .ok (.getfield 39, 3) := by decide +kernel
theorem dX5_order_249 : decode cX5_order 249 = .ok (.iload 11, 2) := by decide +kernel
theorem dX5_order_251 : decode cX5_order 251 = .ok (.iload_n 3, 1) := by decide +kernel
theorem dX5_order_252 : decode cX5_order 252 = .ok (.iastore, 1) := by decide +kernel
theorem dX5_order_253 : decode cX5_order 253 = .ok (.aload_n 0, 1) := by decide +kernel
theorem dX5_order_254 : decode cX5_order 254 = .ok (.getfield 42, 3) := by decide +kernel
theorem dX5_order_257 : decode cX5_order 257 = .ok (.iload 11, 2) := by decide +kernel
theorem dX5_order_259 : decode cX5_order 259 = .ok (.iload 4, 2) := by decide +kernel
theorem dX5_order_261 : decode cX5_order 261 = .ok (.iastore, 1) := by decide +kernel
theorem dX5_order_262 : decode cX5_order 262 = .ok (.aload_n 0, 1) := by decide +kernel
theorem dX5_order_263 : decode cX5_order 263 = .ok (.getfield 45, 3) := by decide +kernel
theorem dX5_order_266 : decode cX5_order 266 = .ok (.iload 11, 2) := by decide +kernel
theorem dX5_order_268 : decode cX5_order 268 = .ok (.iload 5, 2) := by decide +kernel
theorem dX5_order_270 : decode cX5_order 270 = .ok (.iastore, 1) := by decide +kernel
theorem dX5_order_271 : decode cX5_order 271 = .ok (.aload_n 0, 1) := by decide +kernel
theorem dX5_order_272 : decode cX5_order 272 = .ok (.getfield 48, 3) := by decide +kernel
theorem dX5_order_275 : decode cX5_order 275 = .ok (.iload 11, 2) := by decide +kernel
theorem dX5_order_277 : decode cX5_order 277 = .ok (.iload 6, 2) := by decide +kernel
theorem dX5_order_279 : decode cX5_order 279 = .ok (.iastore, 1) := by decide +kernel
theorem dX5_order_280 : decode cX5_order 280 = .ok (.aload_n 0, 1) := by decide +kernel
theorem dX5_order_281 : decode cX5_order 281 = .ok (.getfield 54, 3) := by decide +kernel
theorem dX5_order_284 : decode cX5_order 284 = .ok (.iload 11, 2) := by decide +kernel
theorem dX5_order_286 : decode cX5_order 286 = .ok (.iload 7, 2) := by decide +kernel
theorem dX5_order_288 : decode cX5_order 288 = .ok (.iastore, 1) := by decide +kernel
theorem dX5_order_289 : decode cX5_order 289 = .ok (.aload_n 0, 1) := by decide +kernel
theorem dX5_order_290 : decode cX5_order 290 = .ok (.getfield 57, 3) := by decide +kernel
theorem dX5_order_293 : decode cX5_order 293 = .ok (.iload 11, 2) := by decide +kernel
theorem dX5_order_295 : decode cX5_order 295 = .ok (.iconst 3, 1) := by decide +kernel
theorem dX5_order_296 : decode cX5_order 296 = .ok (.iastore, 1) := by decide +kernel
theorem dX5_order_297 : decode cX5_order 297 = .ok (.aload_n 0, 1) := by decide +kernel
theorem dX5_order_298 : decode cX5_order 298 = .ok (.iload 11, 2) := by decide +kernel
