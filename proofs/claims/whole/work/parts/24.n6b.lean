set_option maxRecDepth 20000 in
theorem ggX6_goes_X6_lets : GoodIn wsX6_goes wsX6_lets := goodIn_r _ [11, 4, 12, 13, 5, 14, 15, 10, 16, 17, 18, 19, 20, 21, 22, 23, 24, 25, 26, 27, 53, 54, 55, 56, 57, 58, 59, 60, 61, 62, 63, 64, 65, 66, 67, 68, 69, 70, 71, 72, 73, 74, 75] (by decide +kernel) (by decide +kernel)
set_option maxRecDepth 20000 in
theorem gX6_goes_X6_lets : GoodIn wsX6_goes (wsV RX6 110 RX6 yX6_lets wsX6_lets) := goodIn_app (goodIn_of _ (by decide +kernel)) ggX6_goes_X6_lets
set_option maxRecDepth 20000 in
theorem ggX6_goes_X6_counts : GoodIn wsX6_goes wsX6_counts := goodIn_r _ [31, 4, 2, 14, 15, 10, 16, 32, 33, 34, 35, 36, 37, 38, 39, 40, 41, 42, 43, 44, 45, 17, 18, 19, 53, 54, 55, 56, 57, 58, 59, 60, 61, 62, 63, 64, 65, 66, 67, 68, 69, 70, 71, 72, 73, 74, 75] (by decide +kernel) (by decide +kernel)
set_option maxRecDepth 20000 in
theorem gX6_goes_X6_counts : GoodIn wsX6_goes (wsV RX6 114 RX6 yX6_counts wsX6_counts) := goodIn_app (goodIn_of _ (by decide +kernel)) ggX6_goes_X6_counts
set_option maxRecDepth 20000 in
theorem ggX6_goes_X6_cell : GoodIn wsX6_goes wsX6_cell := goodIn_r _ [16] (by decide +kernel) (by decide +kernel)
set_option maxRecDepth 20000 in
theorem gX6_goes_X6_cell : GoodIn wsX6_goes (va_wsS RX6 95 yX6_cell wsX6_cell) := goodIn_app (goodIn_of _ (by decide +kernel)) ggX6_goes_X6_cell
set_option maxRecDepth 20000 in
theorem ggX6_goes_X6_falses : GoodIn wsX6_goes wsX6_falses := goodIn_r _ [23, 24, 25, 26, 27, 17, 18, 10, 19, 53, 54, 55, 56, 57, 58, 59, 60, 61, 62, 63, 64, 65, 66, 67, 68, 69, 70, 71, 72, 73, 74, 75] (by decide +kernel) (by decide +kernel)
set_option maxRecDepth 20000 in
theorem gX6_goes_X6_falses : GoodIn wsX6_goes (wsV RX6 99 RX6 yX6_falses wsX6_falses) := goodIn_app (goodIn_of _ (by decide +kernel)) ggX6_goes_X6_falses
set_option maxRecDepth 20000 in
theorem ggX6_goes_X6_masks : GoodIn wsX6_goes wsX6_masks := goodIn_r _ [49, 50, 51, 52, 53, 54, 55, 56, 57, 58, 59, 60, 61, 62, 63, 64, 65, 66, 67, 68, 69, 70, 71, 72, 73, 74, 75] (by decide +kernel) (by decide +kernel)
set_option maxRecDepth 20000 in
theorem gX6_goes_X6_masks : GoodIn wsX6_goes (wsV RX6 125 RX6 yX6_masks wsX6_masks) := goodIn_app (goodIn_of _ (by decide +kernel)) ggX6_goes_X6_masks
set_option maxRecDepth 20000 in
theorem ggX6_goes_X6_isFirst : GoodIn wsX6_goes wsX6_isFirst := goodIn_r _ [35, 4, 14, 15, 10, 16, 36, 37, 38, 39, 40, 41, 42, 43, 44, 45, 17, 18, 19, 53, 54, 55, 56, 57, 58, 59, 60, 61, 62, 63, 64, 65, 66, 67, 68, 69, 70, 71, 72, 73, 74, 75] (by decide +kernel) (by decide +kernel)
set_option maxRecDepth 20000 in
theorem gX6_goes_X6_isFirst : GoodIn wsX6_goes (wsV RX6 106 RX6 yX6_isFirst wsX6_isFirst) := goodIn_app (goodIn_of _ (by decide +kernel)) ggX6_goes_X6_isFirst
theorem dX6_goes_0 : decode cX6_goes 0 = .ok (.aload_n 0, 1) := by decide +kernel
theorem dX6_goes_1 : decode cX6_goes 1 = .ok (.iload_n 1, 1) := by decide +kernel
theorem dX6_goes_2 : decode cX6_goes 2 = .ok (.invokevirtual 110, 3) := by decide +kernel
theorem dX6_goes_5 : decode cX6_goes 5 = .ok (.aload_n 0, 1) := by decide +kernel
theorem dX6_goes_6 : decode cX6_goes 6 = .ok (.iload_n 2, 1) := by decide +kernel
theorem dX6_goes_7 : decode cX6_goes 7 = .ok (.invokevirtual 114, 3) := by decide +kernel
theorem dX6_goes_10 : decode cX6_goes 10 = .ok (.aload_n 0, 1) := by decide +kernel
theorem dX6_goes_11 : decode cX6_goes 11 = .ok (.lconst 0, 1) := by decide +kernel
theorem dX6_goes_12 : decode cX6_goes 12 = .ok (.putfield 117, 3) := by decide +kernel
theorem dX6_goes_15 : decode cX6_goes 15 = .ok (.bipush (-50), 2) := by decide +kernel
theorem dX6_goes_17 : decode cX6_goes 17 = .ok (.istore_n 3, 1) := by decide +kernel
theorem dX6_goes_18 : decode cX6_goes 18 = .ok (.iload_n 3, 1) := by decide +kernel
theorem dX6_goes_19 : decode cX6_goes 19 = .ok (.bipush 50, 2) := by decide +kernel
theorem dX6_goes_21 : decode cX6_goes 21 = .ok (.if_icmp .gt 313, 3) := by decide +kernel
theorem dX6_goes_24 : decode cX6_goes 24 = .ok (.bipush (-50), 2) := by decide +kernel
theorem dX6_goes_26 : decode cX6_goes 26 = .ok (.istore 4, 2) := by decide +kernel
theorem dX6_goes_28 : decode cX6_goes 28 = .ok (.iload 4, 2) := by decide +kernel
theorem dX6_goes_30 : decode cX6_goes 30 = .ok (.iload_n 3, 1) := by decide +kernel
theorem dX6_goes_31 : decode cX6_goes 31 = .ok (.if_icmp .ge 297, 3) := by decide +kernel
theorem dX6_goes_34 : decode cX6_goes 34 = .ok (.aload_n 0, 1) := by decide +kernel
theorem dX6_goes_35 : decode cX6_goes 35 = .ok (.getfield 50, 3) := by decide +kernel
theorem dX6_goes_38 : decode cX6_goes 38 = .ok (.iload_n 3, 1) := by decide +kernel
theorem dX6_goes_39 : decode cX6_goes 39 = .ok (.bipush 50, 2) := by decide +kernel
theorem dX6_goes_41 : decode cX6_goes 41 = .ok (.iadd, 1) := by decide +kernel
theorem dX6_goes_42 : decode cX6_goes 42 = .ok (.iaload, 1) := by decide +kernel
theorem dX6_goes_43 : decode cX6_goes 43 = .ok (.i2l, 1) := by decide +kernel
theorem dX6_goes_44 : decode cX6_goes 44 = .ok (.aload_n 0, 1) := by decide +kernel
theorem dX6_goes_45 : decode cX6_goes 45 = .ok (.getfield 50, 3) := by decide +kernel
theorem dX6_goes_48 : decode cX6_goes 48 = .ok (.bipush 101, 2) := by decide +kernel
theorem dX6_goes_50 : decode cX6_goes 50 = .ok (.iload 4, 2) := by decide +kernel
theorem dX6_goes_52 : decode cX6_goes 52 = .ok (.iadd, 1) := by decide +kernel
theorem dX6_goes_53 : decode cX6_goes 53 = .ok (.bipush 50, 2) := by decide +kernel
theorem dX6_goes_55 : decode cX6_goes 55 = .ok (.iadd, 1) := by decide +kernel
theorem dX6_goes_56 : decode cX6_goes 56 = .ok (.iaload, 1) := by decide +kernel
theorem dX6_goes_57 : decode cX6_goes 57 = .ok (.i2l, 1) := by decide +kernel
theorem dX6_goes_58 : decode cX6_goes 58 = .ok (.lmul, 1) := by decide +kernel
theorem dX6_goes_59 : decode cX6_goes 59 = .ok (.lstore 5, 2) := by decide +kernel
theorem dX6_goes_61 : decode cX6_goes 61 = .ok (.lload 5, 2) := by decide +kernel
theorem dX6_goes_63 : decode cX6_goes 63 = .ok (.lconst 0, 1) := by decide +kernel
theorem dX6_goes_64 : decode cX6_goes 64 = .ok (.lcmp, 1) := by decide +kernel
theorem dX6_goes_65 : decode cX6_goes 65 = .ok (.ifCond .ne 6, 3) := by decide +kernel
theorem dX6_goes_68 : decode cX6_goes 68 = .ok (.goto 254, 3) := by decide +kernel
theorem dX6_goes_71 : decode cX6_goes 71 = .ok (.bipush (-50), 2) := by decide +kernel
theorem dX6_goes_73 : decode cX6_goes 73 = .ok (.istore 7, 2) := by decide +kernel
theorem dX6_goes_75 : decode cX6_goes 75 = .ok (.iload 7, 2) := by decide +kernel
theorem dX6_goes_77 : decode cX6_goes 77 = .ok (.bipush 50, 2) := by decide +kernel
theorem dX6_goes_79 : decode cX6_goes 79 = .ok (.if_icmp .gt 243, 3) := by decide +kernel
theorem dX6_goes_82 : decode cX6_goes 82 = .ok (.aload_n 0, 1) := by decide +kernel
theorem dX6_goes_83 : decode cX6_goes 83 = .ok (.getfield 7, 3) := by decide +kernel
theorem dX6_goes_86 : decode cX6_goes 86 = .ok (.iconst 0, 1) := by decide +kernel
theorem dX6_goes_87 : decode cX6_goes 87 = .ok (.iaload, 1) := by decide +kernel
theorem dX6_goes_88 : decode cX6_goes 88 = .ok (.iload_n 3, 1) := by decide +kernel
theorem dX6_goes_89 : decode cX6_goes 89 = .ok (.iload 7, 2) := by decide +kernel
theorem dX6_goes_91 : decode cX6_goes 91 = .ok (.isub, 1) := by decide +kernel
theorem dX6_goes_92 : decode cX6_goes 92 = .ok (.imul, 1) := by decide +kernel
theorem dX6_goes_93 : decode cX6_goes 93 = .ok (.aload_n 0, 1) := by decide +kernel
theorem dX6_goes_94 : decode cX6_goes 94 = .ok (.getfield 7, 3) := by decide +kernel
theorem dX6_goes_97 : decode cX6_goes 97 = .ok (.iconst 1, 1) := by decide +kernel
theorem dX6_goes_98 : decode cX6_goes 98 = .ok (.iaload, 1) := by decide +kernel
theorem dX6_goes_99 : decode cX6_goes 99 = .ok (.iload 4, 2) := by decide +kernel
theorem dX6_goes_101 : decode cX6_goes 101 = .ok (.imul, 1) := by decide +kernel
theorem dX6_goes_102 : decode cX6_goes 102 = .ok (.iadd, 1) := by decide +kernel
theorem dX6_goes_103 : decode cX6_goes 103 = .ok (.istore 8, 2) := by decide +kernel
theorem dX6_goes_105 : decode cX6_goes 105 = .ok (.iload 8, 2) := by decide +kernel
theorem dX6_goes_107 : decode cX6_goes 107 = .ok (.aload_n 0, 1) := by decide +kernel
theorem dX6_goes_108 : decode cX6_goes 108 = .ok (.getfield 7, 3) := by decide +kernel
theorem dX6_goes_111 : decode cX6_goes 111 = .ok (.iconst 1, 1) := by decide +kernel
theorem dX6_goes_112 : decode cX6_goes 112 = .ok (.iaload, 1) := by decide +kernel
theorem dX6_goes_113 : decode cX6_goes 113 = .ok (.idiv, 1) := by decide +kernel
theorem dX6_goes_114 : decode cX6_goes 114 = .ok (.istore 9, 2) := by decide +kernel
theorem dX6_goes_116 : decode cX6_goes 116 = .ok (.iload 9, 2) := by decide +kernel
theorem dX6_goes_118 : decode cX6_goes 118 = .ok (.aload_n 0, 1) := by decide +kernel
theorem dX6_goes_119 : decode cX6_goes 119 = .ok (.getfield 7, 3) := by decide +kernel
theorem dX6_goes_122 : decode cX6_goes 122 = .ok (.iconst 1, 1) := by decide +kernel
theorem dX6_goes_123 : decode cX6_goes 123 = .ok (.iaload, 1) := by decide +kernel
theorem dX6_goes_124 : decode cX6_goes 124 = .ok (.imul, 1) := by decide +kernel
theorem dX6_goes_125 : decode cX6_goes 125 = .ok (.iload 8, 2) := by decide +kernel
theorem dX6_goes_127 : decode cX6_goes 127 = .ok (.if_icmp .ne 189, 3) := by decide +kernel
theorem dX6_goes_130 : decode cX6_goes 130 = .ok (.iload 9, 2) := by decide +kernel
theorem dX6_goes_132 : decode cX6_goes 132 = .ok (.iload 7, 2) := by decide +kernel
theorem dX6_goes_134 : decode cX6_goes 134 = .ok (.if_icmp .lt 182, 3) := by decide +kernel
theorem dX6_goes_137 : decode cX6_goes 137 = .ok (.iload 9, 2) := by decide +kernel
theorem dX6_goes_139 : decode cX6_goes 139 = .ok (.bipush 50, 2) := by decide +kernel
theorem dX6_goes_141 : decode cX6_goes 141 = .ok (.if_icmp .gt 175, 3) := by decide +kernel
theorem dX6_goes_144 : decode cX6_goes 144 = .ok (.aload_n 0, 1) := by decide +kernel
theorem dX6_goes_145 : decode cX6_goes 145 = .ok (.getfield 44, 3) := by decide +kernel
theorem dX6_goes_148 : decode cX6_goes 148 = .ok (.iconst 2, 1) := by decide +kernel
theorem dX6_goes_149 : decode cX6_goes 149 = .ok (.iload 7, 2) := by decide +kernel
theorem dX6_goes_151 : decode cX6_goes 151 = .ok (.invokestatic 95, 3) := by decide +kernel
theorem dX6_goes_154 : decode cX6_goes 154 = .ok (.baload, 1) := by decide +kernel
theorem dX6_goes_155 : decode cX6_goes 155 = .ok (.ifCond .eq 161, 3) := by decide +kernel
theorem dX6_goes_158 : decode cX6_goes 158 = .ok (.aload_n 0, 1) := by decide +kernel
theorem dX6_goes_159 : decode cX6_goes 159 = .ok (.getfield 44, 3) := by decide +kernel
theorem dX6_goes_162 : decode cX6_goes 162 = .ok (.iconst 5, 1) := by decide +kernel
theorem dX6_goes_163 : decode cX6_goes 163 = .ok (.iload 9, 2) := by decide +kernel
theorem dX6_goes_165 : decode cX6_goes 165 = .ok (.invokestatic 95, 3) := by decide +kernel
theorem dX6_goes_168 : decode cX6_goes 168 = .ok (.baload, 1) := by decide +kernel
theorem dX6_goes_169 : decode cX6_goes 169 = .ok (.ifCond .ne 6, 3) := by decide +kernel
theorem dX6_goes_172 : decode cX6_goes 172 = .ok (.goto 144, 3) := by decide +kernel
theorem dX6_goes_175 : decode cX6_goes 175 = .ok (.aload_n 0, 1) := by decide +kernel
theorem dX6_goes_176 : decode cX6_goes 176 = .ok (.getfield 7, 3) := by decide +kernel
theorem dX6_goes_179 : decode cX6_goes 179 = .ok (.iconst 0, 1) := by decide +kernel
theorem dX6_goes_180 : decode cX6_goes 180 = .ok (.iaload, 1) := by decide +kernel
theorem dX6_goes_181 : decode cX6_goes 181 = .ok (.iload_n 3, 1) := by decide +kernel
theorem dX6_goes_182 : decode cX6_goes 182 = .ok (.imul, 1) := by decide +kernel
theorem dX6_goes_183 : decode cX6_goes 183 = .ok (.iload_n 3, 1) := by decide +kernel
theorem dX6_goes_184 : decode cX6_goes 184 = .ok (.imul, 1) := by decide +kernel
theorem dX6_goes_185 : decode cX6_goes 185 = .ok (.aload_n 0, 1) := by decide +kernel
theorem dX6_goes_186 : decode cX6_goes 186 = .ok (.getfield 7, 3) := by decide +kernel
theorem dX6_goes_189 : decode cX6_goes 189 = .ok (.iconst 1, 1) := by decide +kernel
theorem dX6_goes_190 : decode cX6_goes 190 = .ok (.iaload, 1) := by decide +kernel
theorem dX6_goes_191 : decode cX6_goes 191 = .ok (.iload 4, 2) := by decide +kernel
theorem dX6_goes_193 : decode cX6_goes 193 = .ok (.imul, 1) := by decide +kernel
theorem dX6_goes_194 : decode cX6_goes 194 = .ok (.iload 4, 2) := by decide +kernel
theorem dX6_goes_196 : decode cX6_goes 196 = .ok (.imul, 1) := by decide +kernel
theorem dX6_goes_197 : decode cX6_goes 197 = .ok (.iadd, 1) := by decide +kernel
theorem dX6_goes_198 : decode cX6_goes 198 = .ok (.aload_n 0, 1) := by decide +kernel
theorem dX6_goes_199 : decode cX6_goes 199 = .ok (.getfield 7, 3) := by decide +kernel
theorem dX6_goes_202 : decode cX6_goes 202 = .ok (.iconst 0, 1) := by decide +kernel
theorem dX6_goes_203 : decode cX6_goes 203 = .ok (.iaload, 1) := by decide +kernel
theorem dX6_goes_204 : decode cX6_goes 204 = .ok (.iload 7, 2) := by decide +kernel
theorem dX6_goes_206 : decode cX6_goes 206 = .ok (.imul, 1) := by decide +kernel
theorem dX6_goes_207 : decode cX6_goes 207 = .ok (.iload 7, 2) := by decide +kernel
theorem dX6_goes_209 : decode cX6_goes 209 = .ok (.imul, 1) := by decide +kernel
theorem dX6_goes_210 : decode cX6_goes 210 = .ok (.aload_n 0, 1) := by decide +kernel
theorem dX6_goes_211 : decode cX6_goes 211 = .ok (.getfield 7, 3) := by decide +kernel
theorem dX6_goes_214 : decode cX6_goes 214 = .ok (.iconst 1, 1) := by decide +kernel
theorem dX6_goes_215 : decode cX6_goes 215 = .ok (.iaload, 1) := by decide +kernel
theorem dX6_goes_216 : decode cX6_goes 216 = .ok (.iload 9, 2) := by decide +kernel
theorem dX6_goes_218 : decode cX6_goes 218 = .ok (.imul, 1) := by decide +kernel
theorem dX6_goes_219 : decode cX6_goes 219 = .ok (.iload 9, 2) := by decide +kernel
theorem dX6_goes_221 : decode cX6_goes 221 = .ok (.imul, 1) := by decide +kernel
theorem dX6_goes_222 : decode cX6_goes 222 = .ok (.iadd, 1) := by decide +kernel
theorem dX6_goes_223 : decode cX6_goes 223 = .ok (.if_icmp .ge 6, 3) := by decide +kernel
theorem dX6_goes_226 : decode cX6_goes 226 = .ok (.goto 90, 3) := by decide +kernel
theorem dX6_goes_229 : decode cX6_goes 229 = .ok (.aload_n 0, 1) := by decide +kernel
theorem dX6_goes_230 : decode cX6_goes 230 = .ok (.dup, 1) := by decide +kernel
theorem dX6_goes_231 : decode cX6_goes 231 = .ok (.getfield 117, 3) := by decide +kernel
theorem dX6_goes_234 : decode cX6_goes 234 = .ok (.lload 5, 2) := by decide +kernel
theorem dX6_goes_236 : decode cX6_goes 236 = .ok (.ladd, 1) := by decide +kernel
theorem dX6_goes_237 : decode cX6_goes 237 = .ok (.putfield 117, 3) := by decide +kernel
theorem dX6_goes_240 : decode cX6_goes 240 = .ok (.aload_n 0, 1) := by decide +kernel
theorem dX6_goes_241 : decode cX6_goes 241 = .ok (.getfield 47, 3) := by decide +kernel
theorem dX6_goes_244 : decode cX6_goes 244 = .ok (.iconst 1, 1) := by decide +kernel
theorem dX6_goes_245 : decode cX6_goes 245 = .ok (.iload_n 3, 1) := by decide +kernel
theorem dX6_goes_246 : decode cX6_goes 246 = .ok (.invokestatic 95, 3) := by decide +kernel
theorem dX6_goes_249 : decode cX6_goes 249 = .ok (.iconst 1, 1) := by decide +kernel
theorem dX6_goes_250 : decode cX6_goes 250 = .ok (.bastore, 1) := by decide +kernel
theorem dX6_goes_251 : decode cX6_goes 251 = .ok (.aload_n 0, 1) := by decide +kernel
theorem dX6_goes_252 : decode cX6_goes 252 = .ok (.getfield 47, 3) := by decide +kernel
theorem dX6_goes_255 : decode cX6_goes 255 = .ok (.iconst 4, 1) := by decide +kernel
theorem dX6_goes_256 : decode cX6_goes 256 = .ok (.iload 4, 2) := by decide +kernel
theorem dX6_goes_258 : decode cX6_goes 258 = .ok (.invokestatic 95, 3) := by decide +kernel
theorem dX6_goes_261 : decode cX6_goes 261 = .ok (.iconst 1, 1) := by decide +kernel
theorem dX6_goes_262 : decode cX6_goes 262 = .ok (.bastore, 1) := by decide +kernel
theorem dX6_goes_263 : decode cX6_goes 263 = .ok (.aload_n 0, 1) := by decide +kernel
theorem dX6_goes_264 : decode cX6_goes 264 = .ok (.getfield 47, 3) := by decide +kernel
theorem dX6_goes_267 : decode cX6_goes 267 = .ok (.iconst 2, 1) := by decide +kernel
theorem dX6_goes_268 : decode cX6_goes 268 = .ok (.iload 7, 2) := by decide +kernel
theorem dX6_goes_270 : decode cX6_goes 270 = .ok (.invokestatic 95, 3) := by decide +kernel
theorem dX6_goes_273 : decode cX6_goes 273 = .ok (.iconst 1, 1) := by decide +kernel
theorem dX6_goes_274 : decode cX6_goes 274 = .ok (.bastore, 1) := by decide +kernel
theorem dX6_goes_275 : decode cX6_goes 275 = .ok (.aload_n 0, 1) := by decide +kernel
theorem dX6_goes_276 : decode cX6_goes 276 = .ok (.getfield 47, 3) := by decide +kernel
theorem dX6_goes_279 : decode cX6_goes 279 = .ok (.iconst 5, 1) := by decide +kernel
theorem dX6_goes_280 : decode cX6_goes 280 = .ok (.iload 9, 2) := by decide +kernel
theorem dX6_goes_282 : decode cX6_goes 282 = .ok (.invokestatic 95, 3) := by decide +kernel
theorem dX6_goes_285 : decode cX6_goes 285 = .ok (.iconst 1, 1) := by decide +kernel
theorem dX6_goes_286 : decode cX6_goes 286 = .ok (.bastore, 1) := by decide +kernel
theorem dX6_goes_287 : decode cX6_goes 287 = .ok (.aload_n 0, 1) := by decide +kernel
theorem dX6_goes_288 : decode cX6_goes 288 = .ok (.getfield 121, 3) := by decide +kernel
theorem dX6_goes_291 : decode cX6_goes 291 = .ok (.ifCond .eq 25, 3) := by decide +kernel
theorem dX6_goes_294 : decode cX6_goes 294 = .ok (.aload_n 0, 1) := by decide +kernel
theorem dX6_goes_295 : decode cX6_goes 295 = .ok (.iload_n 3, 1) := by decide +kernel
theorem dX6_goes_296 : decode cX6_goes 296 = .ok (.iload 4, 2) := by decide +kernel
theorem dX6_goes_298 : decode cX6_goes 298 = .ok (.aload_n 0, 1) := by decide +kernel
theorem dX6_goes_299 : decode cX6_goes 299 = .ok (.iconst 2, 1) := by decide +kernel
theorem dX6_goes_300 : decode cX6_goes 300 = .ok (.iload 7, 2) := by decide +kernel
theorem dX6_goes_302 : decode cX6_goes 302 = .ok (.invokevirtual 99, 3) := by decide +kernel
theorem dX6_goes_305 : decode cX6_goes 305 = .ok (.aload_n 0, 1) := by decide +kernel
theorem dX6_goes_306 : decode cX6_goes 306 = .ok (.iconst 5, 1) := by decide +kernel
theorem dX6_goes_307 : decode cX6_goes 307 = .ok (.iload 9, 2) := by decide +kernel
theorem dX6_goes_309 : decode cX6_goes 309 = .ok (.invokevirtual 99, 3) := by decide +kernel
theorem dX6_goes_312 : decode cX6_goes 312 = .ok (.ior, 1) := by decide +kernel
theorem dX6_goes_313 : decode cX6_goes 313 = .ok (.invokevirtual 125, 3) := by decide +kernel
theorem dX6_goes_316 : decode cX6_goes 316 = .ok (.iinc 7 1, 3) := by decide +kernel
theorem dX6_goes_319 : decode cX6_goes 319 = .ok (.goto (-244), 3) := by decide +kernel
theorem dX6_goes_322 : decode cX6_goes 322 = .ok (.iinc 4 1, 3) := by decide +kernel
theorem dX6_goes_325 : decode cX6_goes 325 = .ok (.goto (-297), 3) := by decide +kernel
theorem dX6_goes_328 : decode cX6_goes 328 = .ok (.iinc 3 1, 3) := by decide +kernel
theorem dX6_goes_331 : decode cX6_goes 331 = .ok (.goto (-313), 3) := by decide +kernel
theorem dX6_goes_334 : decode cX6_goes 334 = .ok (.iconst 0, 1) := by decide +kernel
theorem dX6_goes_335 : decode cX6_goes 335 = .ok (.istore_n 3, 1) := by decide +kernel
theorem dX6_goes_336 : decode cX6_goes 336 = .ok (.iload_n 3, 1) := by decide +kernel
theorem dX6_goes_337 : decode cX6_goes 337 = .ok (.iconst 2, 1) := by decide +kernel
theorem dX6_goes_338 : decode cX6_goes 338 = .ok (.if_icmp .ge 91, 3) := by decide +kernel
theorem dX6_goes_341 : decode cX6_goes 341 = .ok (.bipush (-50), 2) := by decide +kernel
theorem dX6_goes_343 : decode cX6_goes 343 = .ok (.istore 4, 2) := by decide +kernel
theorem dX6_goes_345 : decode cX6_goes 345 = .ok (.iload 4, 2) := by decide +kernel
theorem dX6_goes_347 : decode cX6_goes 347 = .ok (.bipush 50, 2) := by decide +kernel
theorem dX6_goes_349 : decode cX6_goes 349 = .ok (.if_icmp .gt 74, 3) := by decide +kernel
theorem dX6_goes_352 : decode cX6_goes 352 = .ok (.aload_n 0, 1) := by decide +kernel
theorem dX6_goes_353 : decode cX6_goes 353 = .ok (.getfield 47, 3) := by decide +kernel
theorem dX6_goes_356 : decode cX6_goes 356 = .ok (.iconst 3, 1) := by decide +kernel
theorem dX6_goes_357 : decode cX6_goes 357 = .ok (.iload_n 3, 1) := by decide +kernel
theorem dX6_goes_358 : decode cX6_goes 358 = .ok (.imul, 1) := by decide +kernel
theorem dX6_goes_359 : decode cX6_goes 359 = .ok (.iconst 1, 1) := by decide +kernel
theorem dX6_goes_360 : decode cX6_goes 360 = .ok (.iadd, 1) := by decide +kernel
theorem dX6_goes_361 : decode cX6_goes 361 = .ok (.iload 4, 2) := by decide +kernel
theorem dX6_goes_363 : decode cX6_goes 363 = .ok (.invokestatic 95, 3) := by decide +kernel
theorem dX6_goes_366 : decode cX6_goes 366 = .ok (.baload, 1) := by decide +kernel
theorem dX6_goes_367 : decode cX6_goes 367 = .ok (.ifCond .ne 6, 3) := by decide +kernel
theorem dX6_goes_370 : decode cX6_goes 370 = .ok (.goto 47, 3) := by decide +kernel
theorem dX6_goes_373 : decode cX6_goes 373 = .ok (.bipush (-50), 2) := by decide +kernel
theorem dX6_goes_375 : decode cX6_goes 375 = .ok (.istore 5, 2) := by decide +kernel
theorem dX6_goes_377 : decode cX6_goes 377 = .ok (.iload 5, 2) := by decide +kernel
theorem dX6_goes_379 : decode cX6_goes 379 = .ok (.bipush 50, 2) := by decide +kernel
theorem dX6_goes_381 : decode cX6_goes 381 = .ok (.if_icmp .gt 36, 3) := by decide +kernel
theorem dX6_goes_384 : decode cX6_goes 384 = .ok (.aload_n 0, 1) := by decide +kernel
theorem dX6_goes_385 : decode cX6_goes 385 = .ok (.iload_n 3, 1) := by decide +kernel
theorem dX6_goes_386 : decode cX6_goes 386 = .ok (.iload 5, 2) := by decide +kernel
theorem dX6_goes_388 : decode cX6_goes 388 = .ok (.iload 4, 2) := by decide +kernel
theorem dX6_goes_390 : decode cX6_goes 390 = .ok (.iload_n 2, 1) := by decide +kernel
theorem dX6_goes_391 : decode cX6_goes 391 = .ok (.invokevirtual 106, 3) := by decide +kernel
theorem dX6_goes_394 : decode cX6_goes 394 = .ok (.ifCond .eq 17, 3) := by decide +kernel
theorem dX6_goes_397 : decode cX6_goes 397 = .ok (.aload_n 0, 1) := by decide +kernel
theorem dX6_goes_398 : decode cX6_goes 398 = .ok (.getfield 47, 3) := by decide +kernel
theorem dX6_goes_401 : decode cX6_goes 401 = .ok (.iconst 3, 1) := by decide +kernel
theorem dX6_goes_402 : decode cX6_goes 402 = .ok (.iload_n 3, 1) := by decide +kernel
theorem dX6_goes_403 : decode cX6_goes 403 = .ok (.imul, 1) := by decide +kernel
theorem dX6_goes_404 : decode cX6_goes 404 = .ok (.iload 5, 2) := by decide +kernel
theorem dX6_goes_406 : decode cX6_goes 406 = .ok (.invokestatic 95, 3) := by decide +kernel
theorem dX6_goes_409 : decode cX6_goes 409 = .ok (.iconst 1, 1) := by decide +kernel
theorem dX6_goes_410 : decode cX6_goes 410 = .ok (.bastore, 1) := by decide +kernel
theorem dX6_goes_411 : decode cX6_goes 411 = .ok (.iinc 5 1, 3) := by decide +kernel
theorem dX6_goes_414 : decode cX6_goes 414 = .ok (.goto (-37), 3) := by decide +kernel
theorem dX6_goes_417 : decode cX6_goes 417 = .ok (.iinc 4 1, 3) := by decide +kernel
theorem dX6_goes_420 : decode cX6_goes 420 = .ok (.goto (-75), 3) := by decide +kernel
theorem dX6_goes_423 : decode cX6_goes 423 = .ok (.iinc 3 1, 3) := by decide +kernel
theorem dX6_goes_426 : decode cX6_goes 426 = .ok (.goto (-90), 3) := by decide +kernel
theorem dX6_goes_429 : decode cX6_goes 429 = .ok (.aload_n 0, 1) := by decide +kernel
theorem dX6_goes_430 : decode cX6_goes 430 = .ok (.getfield 117, 3) := by decide +kernel
theorem dX6_goes_433 : decode cX6_goes 433 = .ok (.lconst 0, 1) := by decide +kernel
theorem dX6_goes_434 : decode cX6_goes 434 = .ok (.lcmp, 1) := by decide +kernel
theorem dX6_goes_435 : decode cX6_goes 435 = .ok (.ifCond .le 7, 3) := by decide +kernel
theorem dX6_goes_438 : decode cX6_goes 438 = .ok (.iconst 1, 1) := by decide +kernel
theorem dX6_goes_439 : decode cX6_goes 439 = .ok (.goto 4, 3) := by decide +kernel
theorem dX6_goes_442 : decode cX6_goes 442 = .ok (.iconst 0, 1) := by decide +kernel
theorem dX6_goes_443 : decode cX6_goes 443 = .ok (.ireturn, 1) := by decide +kernel
set_option maxRecDepth 20000 in
theorem ggX6_makes_X6_lets : GoodIn wsX6_makes wsX6_lets := goodIn_r _ [10, 4, 11, 12, 13, 14, 15, 9, 16, 17, 18, 19, 20, 21, 22, 23, 2, 24, 25, 26, 41, 42, 43, 44, 45, 46, 47, 48, 49, 50, 51, 52, 53, 54, 55, 56, 57, 58, 59, 60, 61, 62, 63] (by decide +kernel) (by decide +kernel)
set_option maxRecDepth 20000 in
theorem gX6_makes_X6_lets : GoodIn wsX6_makes (wsV RX6 110 RX6 yX6_lets wsX6_lets) := goodIn_app (goodIn_of _ (by decide +kernel)) ggX6_makes_X6_lets
set_option maxRecDepth 20000 in
theorem ggX6_makes_X6_cell : GoodIn wsX6_makes wsX6_cell := goodIn_r _ [16] (by decide +kernel) (by decide +kernel)
set_option maxRecDepth 20000 in
theorem gX6_makes_X6_cell : GoodIn wsX6_makes (va_wsS RX6 95 yX6_cell wsX6_cell) := goodIn_app (goodIn_of _ (by decide +kernel)) ggX6_makes_X6_cell
set_option maxRecDepth 20000 in
theorem ggX6_makes_X6_isFirst : GoodIn wsX6_makes wsX6_isFirst := goodIn_r _ [30, 4, 14, 15, 9, 16, 31, 32, 33, 34, 35, 36, 37, 38, 39, 40, 17, 18, 19, 41, 42, 43, 44, 45, 46, 47, 48, 49, 50, 51, 52, 53, 54, 55, 56, 57, 58, 59, 60, 61, 62, 63] (by decide +kernel) (by decide +kernel)
set_option maxRecDepth 20000 in
theorem gX6_makes_X6_isFirst : GoodIn wsX6_makes (wsV RX6 106 RX6 yX6_isFirst wsX6_isFirst) := goodIn_app (goodIn_of _ (by decide +kernel)) ggX6_makes_X6_isFirst
set_option maxRecDepth 20000 in
theorem ggX6_makes_X6_falses : GoodIn wsX6_makes wsX6_falses := goodIn_r _ [23, 2, 24, 25, 26, 17, 18, 9, 19, 41, 42, 43, 44, 45, 46, 47, 48, 49, 50, 51, 52, 53, 54, 55, 56, 57, 58, 59, 60, 61, 62, 63] (by decide +kernel) (by decide +kernel)
set_option maxRecDepth 20000 in
theorem gX6_makes_X6_falses : GoodIn wsX6_makes (wsV RX6 99 RX6 yX6_falses wsX6_falses) := goodIn_app (goodIn_of _ (by decide +kernel)) ggX6_makes_X6_falses
theorem dX6_makes_0 : decode cX6_makes 0 = .ok (.aload_n 0, 1) := by decide +kernel
theorem dX6_makes_1 : decode cX6_makes 1 = .ok (.iconst 0, 1) := by decide +kernel
theorem dX6_makes_2 : decode cX6_makes 2 = .ok (.invokevirtual 110, 3) := by decide +kernel
theorem dX6_makes_5 : decode cX6_makes 5 = .ok (.iconst 0, 1) := by decide +kernel
theorem dX6_makes_6 : decode cX6_makes 6 = .ok (.istore_n 1, 1) := by decide +kernel
theorem dX6_makes_7 : decode cX6_makes 7 = .ok (.iload_n 1, 1) := by decide +kernel
theorem dX6_makes_8 : decode cX6_makes 8 = .ok (.iconst 2, 1) := by decide +kernel
theorem dX6_makes_9 : decode cX6_makes 9 = .ok (.if_icmp .ge 204, 3) := by decide +kernel
theorem dX6_makes_12 : decode cX6_makes 12 = .ok (.bipush (-50), 2) := by decide +kernel
theorem dX6_makes_14 : decode cX6_makes 14 = .ok (.istore_n 2, 1) := by decide +kernel
theorem dX6_makes_15 : decode cX6_makes 15 = .ok (.iload_n 2, 1) := by decide +kernel
theorem dX6_makes_16 : decode cX6_makes 16 = .ok (.bipush 50, 2) := by decide +kernel
theorem dX6_makes_18 : decode cX6_makes 18 = .ok (.if_icmp .gt 189, 3) := by decide +kernel
theorem dX6_makes_21 : decode cX6_makes 21 = .ok (.bipush 101, 2) := by decide +kernel
theorem dX6_makes_23 : decode cX6_makes 23 = .ok (.iload_n 1, 1) := by decide +kernel
theorem dX6_makes_24 : decode cX6_makes 24 = .ok (.imul, 1) := by decide +kernel
theorem dX6_makes_25 : decode cX6_makes 25 = .ok (.iload_n 2, 1) := by decide +kernel
theorem dX6_makes_26 : decode cX6_makes 26 = .ok (.iadd, 1) := by decide +kernel
theorem dX6_makes_27 : decode cX6_makes 27 = .ok (.bipush 50, 2) := by decide +kernel
theorem dX6_makes_29 : decode cX6_makes 29 = .ok (.iadd, 1) := by decide +kernel
theorem dX6_makes_30 : decode cX6_makes 30 = .ok (.istore_n 3, 1) := by decide +kernel
theorem dX6_makes_31 : decode cX6_makes 31 = .ok (.aload_n 0, 1) := by decide +kernel
theorem dX6_makes_32 : decode cX6_makes 32 = .ok (.getfield 63, 3) := by decide +kernel
theorem dX6_makes_35 : decode cX6_makes 35 = .ok (.iload_n 3, 1) := by decide +kernel
theorem dX6_makes_36 : decode cX6_makes 36 = .ok (.iconst 0, 1) := by decide +kernel
theorem dX6_makes_37 : decode cX6_makes 37 = .ok (.iastore, 1) := by decide +kernel
theorem dX6_makes_38 : decode cX6_makes 38 = .ok (.iconst 0, 1) := by decide +kernel
theorem dX6_makes_39 : decode cX6_makes 39 = .ok (.istore 4, 2) := by decide +kernel
theorem dX6_makes_41 : decode cX6_makes 41 = .ok (.iload 4, 2) := by decide +kernel
theorem dX6_makes_43 : decode cX6_makes 43 = .ok (.iconst 1, 1) := by decide +kernel
theorem dX6_makes_44 : decode cX6_makes 44 = .ok (.aload_n 0, 1) := by decide +kernel
theorem dX6_makes_45 : decode cX6_makes 45 = .ok (.getfield 92, 3) := by decide +kernel
theorem dX6_makes_48 : decode cX6_makes 48 = .ok (.ishl, 1) := by decide +kernel
theorem dX6_makes_49 : decode cX6_makes 49 = .ok (.if_icmp .ge 22, 3) := by decide +kernel
theorem dX6_makes_52 : decode cX6_makes 52 = .ok (.aload_n 0, 1) := by decide +kernel
theorem dX6_makes_53 : decode cX6_makes 53 = .ok (.getfield 57, 3) := by decide +kernel
theorem dX6_makes_56 : decode cX6_makes 56 = .ok (.iload_n 3, 1) := by decide +kernel
theorem dX6_makes_57 : decode cX6_makes 57 = .ok (.bipush 10, 2) := by decide +kernel
theorem dX6_makes_59 : decode cX6_makes 59 = .ok (.ishl, 1) := by decide +kernel
theorem dX6_makes_60 : decode cX6_makes 60 = .ok (.iload 4, 2) := by decide +kernel
theorem dX6_makes_62 : decode cX6_makes 62 = .ok (.iadd, 1) := by decide +kernel
theorem dX6_makes_63 : decode cX6_makes 63 = .ok (.iconst 0, 1) := by decide +kernel
theorem dX6_makes_64 : decode cX6_makes 64 = .ok (.bastore, 1) := by decide +kernel
theorem dX6_makes_65 : decode cX6_makes 65 = .ok (.iinc 4 1, 3) := by decide +kernel
theorem dX6_makes_68 : decode cX6_makes 68 = .ok (.goto (-27), 3) := by decide +kernel
theorem dX6_makes_71 : decode cX6_makes 71 = .ok (.bipush (-50), 2) := by decide +kernel
theorem dX6_makes_73 : decode cX6_makes 73 = .ok (.istore 4, 2) := by decide +kernel
theorem dX6_makes_75 : decode cX6_makes 75 = .ok (.iload 4, 2) := by decide +kernel
theorem dX6_makes_77 : decode cX6_makes 77 = .ok (.bipush 50, 2) := by decide +kernel
theorem dX6_makes_79 : decode cX6_makes 79 = .ok (.if_icmp .gt 122, 3) := by decide +kernel
theorem dX6_makes_82 : decode cX6_makes 82 = .ok (.aload_n 0, 1) := by decide +kernel
theorem dX6_makes_83 : decode cX6_makes 83 = .ok (.getfield 44, 3) := by decide +kernel
theorem dX6_makes_86 : decode cX6_makes 86 = .ok (.iconst 3, 1) := by decide +kernel
theorem dX6_makes_87 : decode cX6_makes 87 = .ok (.iload_n 1, 1) := by decide +kernel
theorem dX6_makes_88 : decode cX6_makes 88 = .ok (.imul, 1) := by decide +kernel
theorem dX6_makes_89 : decode cX6_makes 89 = .ok (.iconst 1, 1) := by decide +kernel
theorem dX6_makes_90 : decode cX6_makes 90 = .ok (.iadd, 1) := by decide +kernel
theorem dX6_makes_91 : decode cX6_makes 91 = .ok (.iload_n 2, 1) := by decide +kernel
theorem dX6_makes_92 : decode cX6_makes 92 = .ok (.invokestatic 95, 3) := by decide +kernel
theorem dX6_makes_95 : decode cX6_makes 95 = .ok (.baload, 1) := by decide +kernel
theorem dX6_makes_96 : decode cX6_makes 96 = .ok (.ifCond .eq 99, 3) := by decide +kernel
theorem dX6_makes_99 : decode cX6_makes 99 = .ok (.aload_n 0, 1) := by decide +kernel
theorem dX6_makes_100 : decode cX6_makes 100 = .ok (.iload_n 1, 1) := by decide +kernel
theorem dX6_makes_101 : decode cX6_makes 101 = .ok (.iload 4, 2) := by decide +kernel
theorem dX6_makes_103 : decode cX6_makes 103 = .ok (.iload_n 2, 1) := by decide +kernel
theorem dX6_makes_104 : decode cX6_makes 104 = .ok (.iconst (-1), 1) := by decide +kernel
theorem dX6_makes_105 : decode cX6_makes 105 = .ok (.invokevirtual 106, 3) := by decide +kernel
theorem dX6_makes_108 : decode cX6_makes 108 = .ok (.ifCond .ne 6, 3) := by decide +kernel
theorem dX6_makes_111 : decode cX6_makes 111 = .ok (.goto 84, 3) := by decide +kernel
theorem dX6_makes_114 : decode cX6_makes 114 = .ok (.aload_n 0, 1) := by decide +kernel
theorem dX6_makes_115 : decode cX6_makes 115 = .ok (.iconst 3, 1) := by decide +kernel
theorem dX6_makes_116 : decode cX6_makes 116 = .ok (.iload_n 1, 1) := by decide +kernel
theorem dX6_makes_117 : decode cX6_makes 117 = .ok (.imul, 1) := by decide +kernel
theorem dX6_makes_118 : decode cX6_makes 118 = .ok (.iload 4, 2) := by decide +kernel
theorem dX6_makes_120 : decode cX6_makes 120 = .ok (.invokevirtual 99, 3) := by decide +kernel
theorem dX6_makes_123 : decode cX6_makes 123 = .ok (.aload_n 0, 1) := by decide +kernel
theorem dX6_makes_124 : decode cX6_makes 124 = .ok (.iconst 3, 1) := by decide +kernel
theorem dX6_makes_125 : decode cX6_makes 125 = .ok (.iload_n 1, 1) := by decide +kernel
theorem dX6_makes_126 : decode cX6_makes 126 = .ok (.imul, 1) := by decide +kernel
theorem dX6_makes_127 : decode cX6_makes 127 = .ok (.iconst 1, 1) := by decide +kernel
theorem dX6_makes_128 : decode cX6_makes 128 = .ok (.iadd, 1) := by decide +kernel
theorem dX6_makes_129 : decode cX6_makes 129 = .ok (.iload_n 2, 1) := by decide +kernel
theorem dX6_makes_130 : decode cX6_makes 130 = .ok (.invokevirtual 99, 3) := by decide +kernel
theorem dX6_makes_133 : decode cX6_makes 133 = .ok (.ior, 1) := by decide +kernel
theorem dX6_makes_134 : decode cX6_makes 134 = .ok (.istore 5, 2) := by decide +kernel
theorem dX6_makes_136 : decode cX6_makes 136 = .ok (.aload_n 0, 1) := by decide +kernel
theorem dX6_makes_137 : decode cX6_makes 137 = .ok (.getfield 57, 3) := by decide +kernel
theorem dX6_makes_140 : decode cX6_makes 140 = .ok (.iload_n 3, 1) := by decide +kernel
theorem dX6_makes_141 : decode cX6_makes 141 = .ok (.bipush 10, 2) := by decide +kernel
theorem dX6_makes_143 : decode cX6_makes 143 = .ok (.ishl, 1) := by decide +kernel
theorem dX6_makes_144 : decode cX6_makes 144 = .ok (.iload 5, 2) := by decide +kernel
theorem dX6_makes_146 : decode cX6_makes 146 = .ok (.iadd, 1) := by decide +kernel
theorem dX6_makes_147 : decode cX6_makes 147 = .ok (.baload, 1) := by decide +kernel
theorem dX6_makes_148 : decode cX6_makes 148 = .ok (.ifCond .eq 6, 3) := by decide +kernel
theorem dX6_makes_151 : decode cX6_makes 151 = .ok (.goto 44, 3) := by decide +kernel
theorem dX6_makes_154 : decode cX6_makes 154 = .ok (.aload_n 0, 1) := by decide +kernel
theorem dX6_makes_155 : decode cX6_makes 155 = .ok (.getfield 57, 3) := by decide +kernel
theorem dX6_makes_158 : decode cX6_makes 158 = .ok (.iload_n 3, 1) := by decide +kernel
theorem dX6_makes_159 : decode cX6_makes 159 = .ok (.bipush 10, 2) := by decide +kernel
theorem dX6_makes_161 : decode cX6_makes 161 = .ok (.ishl, 1) := by decide +kernel
theorem dX6_makes_162 : decode cX6_makes 162 = .ok (.iload 5, 2) := by decide +kernel
theorem dX6_makes_164 : decode cX6_makes 164 = .ok (.iadd, 1) := by decide +kernel
theorem dX6_makes_165 : decode cX6_makes 165 = .ok (.iconst 1, 1) := by decide +kernel
theorem dX6_makes_166 : decode cX6_makes 166 = .ok (.bastore, 1) := by decide +kernel
theorem dX6_makes_167 : decode cX6_makes 167 = .ok (.aload_n 0, 1) := by decide +kernel
theorem dX6_makes_168 : decode cX6_makes 168 = .ok (.getfield 60, 3) := by decide +kernel
theorem dX6_makes_171 : decode cX6_makes 171 = .ok (.bipush 101, 2) := by decide +kernel
theorem dX6_makes_173 : decode cX6_makes 173 = .ok (.iload_n 3, 1) := by decide +kernel
theorem dX6_makes_174 : decode cX6_makes 174 = .ok (.imul, 1) := by decide +kernel
theorem dX6_makes_175 : decode cX6_makes 175 = .ok (.aload_n 0, 1) := by decide +kernel
theorem dX6_makes_176 : decode cX6_makes 176 = .ok (.getfield 63, 3) := by decide +kernel
theorem dX6_makes_179 : decode cX6_makes 179 = .ok (.iload_n 3, 1) := by decide +kernel
theorem dX6_makes_180 : decode cX6_makes 180 = .ok (.iaload, 1) := by decide +kernel
theorem dX6_makes_181 : decode cX6_makes 181 = .ok (.iadd, 1) := by decide +kernel
theorem dX6_makes_182 : decode cX6_makes 182 = .ok (.iload 5, 2) := by decide +kernel
theorem dX6_makes_184 : decode cX6_makes 184 = .ok (.iastore, 1) := by decide +kernel
theorem dX6_makes_185 : decode cX6_makes 185 = .ok (.aload_n 0, 1) := by decide +kernel
theorem dX6_makes_186 : decode cX6_makes 186 = .ok (.getfield 63, 3) := by decide +kernel
theorem dX6_makes_189 : decode cX6_makes 189 = .ok (.iload_n 3, 1) := by decide +kernel
theorem dX6_makes_190 : decode cX6_makes 190 = .ok (.dup2, 1) := by decide +kernel
theorem dX6_makes_191 : decode cX6_makes 191 = .ok (.iaload, 1) := by decide +kernel
theorem dX6_makes_192 : decode cX6_makes 192 = .ok (.iconst 1, 1) := by decide +kernel
theorem dX6_makes_193 : decode cX6_makes 193 = .ok (.iadd, 1) := by decide +kernel
theorem dX6_makes_194 : decode cX6_makes 194 = .ok (.iastore, 1) := by decide +kernel
theorem dX6_makes_195 : decode cX6_makes 195 = .ok (.iinc 4 1, 3) := by decide +kernel
theorem dX6_makes_198 : decode cX6_makes 198 = .ok (.goto (-123), 3) := by decide +kernel
theorem dX6_makes_201 : decode cX6_makes 201 = .ok (.iinc 2 1, 3) := by decide +kernel
theorem dX6_makes_204 : decode cX6_makes 204 = .ok (.goto (-189), 3) := by decide +kernel
theorem dX6_makes_207 : decode cX6_makes 207 = .ok (.iinc 1 1, 3) := by decide +kernel
theorem dX6_makes_210 : decode cX6_makes 210 = .ok (.goto (-203), 3) := by decide +kernel
theorem dX6_makes_213 : decode cX6_makes 213 = .ok (.return_, 1) := by decide +kernel
set_option maxRecDepth 20000 in
theorem ggX6_fewest_X6_makes : GoodIn wsX6_fewest wsX6_makes := goodIn_r _ [8, 9, 3, 10, 11, 12, 13, 14, 15, 7, 16, 17, 18, 19, 20, 21, 22, 23, 24, 25, 26, 27, 28, 29, 30, 31, 32, 33, 34, 35, 36, 37, 38, 39, 40, 41, 42, 43, 44, 45, 46, 69, 70, 71, 72, 73, 74, 75, 76, 77, 78, 79, 80, 81, 82, 83, 84, 85, 86, 87, 88, 89, 90, 91] (by decide +kernel) (by decide +kernel)
set_option maxRecDepth 20000 in
theorem gX6_fewest_X6_makes : GoodIn wsX6_fewest (wsV RX6 129 RX6 yX6_makes wsX6_makes) := goodIn_app (goodIn_of _ (by decide +kernel)) ggX6_fewest_X6_makes
set_option maxRecDepth 20000 in
theorem ggX6_fewest_X6_goes : GoodIn wsX6_fewest wsX6_goes := goodIn_r _ [50, 51, 52, 53, 11, 19, 2, 13, 14, 15, 7, 16, 17, 18, 20, 21, 22, 23, 24, 25, 26, 27, 28, 29, 3, 30, 31, 32, 54, 55, 56, 57, 33, 34, 35, 36, 37, 38, 39, 40, 41, 42, 43, 44, 45, 46, 58, 59, 60, 61, 9, 1, 12, 69, 70, 71, 72, 73, 74, 75, 76, 77, 78, 79, 80, 81, 82, 83, 84, 85, 86, 87, 88, 89, 90, 91] (by decide +kernel) (by decide +kernel)
set_option maxRecDepth 20000 in
theorem gX6_fewest_X6_goes : GoodIn wsX6_fewest (wsV RX6 132 RX6 yX6_goes wsX6_goes) := goodIn_app (goodIn_of _ (by decide +kernel)) ggX6_fewest_X6_goes
set_option maxRecDepth 20000 in
theorem ggX6_fewest_J6_bitCount_0f7a4 : GoodIn wsX6_fewest wsJ6_bitCount_0f7a4 := goodIn_r _ [65, 66, 67, 68] (by decide +kernel) (by decide +kernel)
set_option maxRecDepth 20000 in
theorem gX6_fewest_J6_bitCount_0f7a4 : GoodIn wsX6_fewest (va_wsS RX6 135 yJ6_bitCount_0f7a4 wsJ6_bitCount_0f7a4) := goodIn_app (goodIn_of _ (by decide +kernel)) ggX6_fewest_J6_bitCount_0f7a4
theorem dX6_fewest_0 : decode cX6_fewest 0 = .ok (.iconst 0, 1) := by decide +kernel
theorem dX6_fewest_1 : decode cX6_fewest 1 = .ok (.istore_n 1, 1) := by decide +kernel
theorem dX6_fewest_2 : decode cX6_fewest 2 = .ok (.iload_n 1, 1) := by decide +kernel
theorem dX6_fewest_3 : decode cX6_fewest 3 = .ok (.sipush 1024, 3) := by decide +kernel
theorem dX6_fewest_6 : decode cX6_fewest 6 = .ok (.if_icmp .ge 16, 3) := by decide +kernel
theorem dX6_fewest_9 : decode cX6_fewest 9 = .ok (.aload_n 0, 1) := by decide +kernel
theorem dX6_fewest_10 : decode cX6_fewest 10 = .ok (.getfield 53, 3) := by decide +kernel
theorem dX6_fewest_13 : decode cX6_fewest 13 = .ok (.iload_n 1, 1) := by decide +kernel
theorem dX6_fewest_14 : decode cX6_fewest 14 = .ok (.iconst 0, 1) := by decide +kernel
theorem dX6_fewest_15 : decode cX6_fewest 15 = .ok (.bastore, 1) := by decide +kernel
theorem dX6_fewest_16 : decode cX6_fewest 16 = .ok (.iinc 1 1, 3) := by decide +kernel
theorem dX6_fewest_19 : decode cX6_fewest 19 = .ok (.goto (-17), 3) := by decide +kernel
theorem dX6_fewest_22 : decode cX6_fewest 22 = .ok (.aload_n 0, 1) := by decide +kernel
theorem dX6_fewest_23 : decode cX6_fewest 23 = .ok (.invokevirtual 129, 3) := by decide +kernel
theorem dX6_fewest_26 : decode cX6_fewest 26 = .ok (.aload_n 0, 1) := by decide +kernel
theorem dX6_fewest_27 : decode cX6_fewest 27 = .ok (.iconst 1, 1) := by decide +kernel
theorem dX6_fewest_28 : decode cX6_fewest 28 = .ok (.putfield 121, 3) := by decide +kernel
theorem dX6_fewest_31 : decode cX6_fewest 31 = .ok (.aload_n 0, 1) := by decide +kernel
theorem dX6_fewest_32 : decode cX6_fewest 32 = .ok (.iconst 0, 1) := by decide +kernel
theorem dX6_fewest_33 : decode cX6_fewest 33 = .ok (.iconst (-1), 1) := by decide +kernel
theorem dX6_fewest_34 : decode cX6_fewest 34 = .ok (.invokevirtual 132, 3) := by decide +kernel
theorem dX6_fewest_37 : decode cX6_fewest 37 = .ok (.istore_n 1, 1) := by decide +kernel
theorem dX6_fewest_38 : decode cX6_fewest 38 = .ok (.aload_n 0, 1) := by decide +kernel
theorem dX6_fewest_39 : decode cX6_fewest 39 = .ok (.iconst 0, 1) := by decide +kernel
theorem dX6_fewest_40 : decode cX6_fewest 40 = .ok (.putfield 121, 3) := by decide +kernel
theorem dX6_fewest_43 : decode cX6_fewest 43 = .ok (.iconst (-1), 1) := by decide +kernel
theorem dX6_fewest_44 : decode cX6_fewest 44 = .ok (.istore_n 2, 1) := by decide +kernel
theorem dX6_fewest_45 : decode cX6_fewest 45 = .ok (.iconst 0, 1) := by decide +kernel
theorem dX6_fewest_46 : decode cX6_fewest 46 = .ok (.istore_n 3, 1) := by decide +kernel
theorem dX6_fewest_47 : decode cX6_fewest 47 = .ok (.iload_n 3, 1) := by decide +kernel
theorem dX6_fewest_48 : decode cX6_fewest 48 = .ok (.iconst 1, 1) := by decide +kernel
theorem dX6_fewest_49 : decode cX6_fewest 49 = .ok (.aload_n 0, 1) := by decide +kernel
theorem dX6_fewest_50 : decode cX6_fewest 50 = .ok (.getfield 92, 3) := by decide +kernel
theorem dX6_fewest_53 : decode cX6_fewest 53 = .ok (.ishl, 1) := by decide +kernel
theorem dX6_fewest_54 : decode cX6_fewest 54 = .ok (.if_icmp .ge 39, 3) := by decide +kernel
theorem dX6_fewest_57 : decode cX6_fewest 57 = .ok (.iload_n 1, 1) := by decide +kernel
theorem dX6_fewest_58 : decode cX6_fewest 58 = .ok (.ifCond .eq 35, 3) := by decide +kernel
theorem dX6_fewest_61 : decode cX6_fewest 61 = .ok (.aload_n 0, 1) := by decide +kernel
theorem dX6_fewest_62 : decode cX6_fewest 62 = .ok (.getfield 53, 3) := by decide +kernel
theorem dX6_fewest_65 : decode cX6_fewest 65 = .ok (.iload_n 3, 1) := by decide +kernel
theorem dX6_fewest_66 : decode cX6_fewest 66 = .ok (.baload, 1) := by decide +kernel
theorem dX6_fewest_67 : decode cX6_fewest 67 = .ok (.ifCond .eq 20, 3) := by decide +kernel
theorem dX6_fewest_70 : decode cX6_fewest 70 = .ok (.iload_n 2, 1) := by decide +kernel
theorem dX6_fewest_71 : decode cX6_fewest 71 = .ok (.ifCond .lt 14, 3) := by decide +kernel
theorem dX6_fewest_74 : decode cX6_fewest 74 = .ok (.iload_n 3, 1) := by decide +kernel
theorem dX6_fewest_75 : decode cX6_fewest 75 = .ok (.invokestatic 135, 3) := by decide +kernel
theorem dX6_fewest_78 : decode cX6_fewest 78 = .ok (.iload_n 2, 1) := by decide +kernel
theorem dX6_fewest_79 : decode cX6_fewest 79 = .ok (.invokestatic 135, 3) := by decide +kernel
theorem dX6_fewest_82 : decode cX6_fewest 82 = .ok (.if_icmp .ge 5, 3) := by decide +kernel
theorem dX6_fewest_85 : decode cX6_fewest 85 = .ok (.iload_n 3, 1) := by decide +kernel
theorem dX6_fewest_86 : decode cX6_fewest 86 = .ok (.istore_n 2, 1) := by decide +kernel
theorem dX6_fewest_87 : decode cX6_fewest 87 = .ok (.iinc 3 1, 3) := by decide +kernel
theorem dX6_fewest_90 : decode cX6_fewest 90 = .ok (.goto (-43), 3) := by decide +kernel
theorem dX6_fewest_93 : decode cX6_fewest 93 = .ok (.iload_n 2, 1) := by decide +kernel
theorem dX6_fewest_94 : decode cX6_fewest 94 = .ok (.ireturn, 1) := by decide +kernel
set_option maxRecDepth 20000 in
theorem ggX6_ways_X6_goes : GoodIn wsX6_ways wsX6_goes := goodIn_r _ [7, 2, 8, 9, 10, 11, 12, 13, 14, 15, 6, 16, 17, 18, 19, 20, 21, 22, 23, 24, 25, 26, 27, 28, 29, 30, 31, 32, 33, 34, 35, 36, 37, 38, 39, 40, 41, 42, 43, 44, 45, 46, 47, 48, 49, 50, 51, 52, 53, 54, 55, 56, 57, 58, 59, 60, 61, 62, 63, 64, 65, 66, 67, 68, 69, 70, 71, 72, 73, 74, 75, 76, 77, 78, 79, 80] (by decide +kernel) (by decide +kernel)
set_option maxRecDepth 20000 in
theorem gX6_ways_X6_goes : GoodIn wsX6_ways (wsV RX6 132 RX6 yX6_goes wsX6_goes) := goodIn_app (goodIn_of _ (by decide +kernel)) ggX6_ways_X6_goes
theorem dX6_ways_0 : decode cX6_ways 0 = .ok (.aload_n 0, 1) := by decide +kernel
theorem dX6_ways_1 : decode cX6_ways 1 = .ok (.iconst 0, 1) := by decide +kernel
theorem dX6_ways_2 : decode cX6_ways 2 = .ok (.putfield 66, 3) := by decide +kernel
theorem dX6_ways_5 : decode cX6_ways 5 = .ok (.aload_n 0, 1) := by decide +kernel
theorem dX6_ways_6 : decode cX6_ways 6 = .ok (.iconst 0, 1) := by decide +kernel
theorem dX6_ways_7 : decode cX6_ways 7 = .ok (.iconst (-1), 1) := by decide +kernel
theorem dX6_ways_8 : decode cX6_ways 8 = .ok (.invokevirtual 132, 3) := by decide +kernel
theorem dX6_ways_11 : decode cX6_ways 11 = .ok (.istore_n 1, 1) := by decide +kernel
theorem dX6_ways_12 : decode cX6_ways 12 = .ok (.aload_n 0, 1) := by decide +kernel
theorem dX6_ways_13 : decode cX6_ways 13 = .ok (.getfield 117, 3) := by decide +kernel
theorem dX6_ways_16 : decode cX6_ways 16 = .ok (.lreturn, 1) := by decide +kernel
set_option maxRecDepth 20000 in
theorem ggX6_span_X6_noSpeed : GoodIn wsX6_span wsX6_noSpeed := goodIn_r _ [6, 7, 8, 5, 9, 10, 11, 12] (by decide +kernel) (by decide +kernel)
set_option maxRecDepth 20000 in
theorem gX6_span_X6_noSpeed : GoodIn wsX6_span (va_wsS RX6 85 yX6_noSpeed wsX6_noSpeed) := goodIn_app (goodIn_of _ (by decide +kernel)) ggX6_span_X6_noSpeed
set_option maxRecDepth 20000 in
theorem ggX6_span_X6_throwsIf : GoodIn wsX6_span wsX6_throwsIf := goodIn_r _ [16, 1, 72, 73, 74, 75, 76, 77, 78, 79, 80, 81, 82, 83, 84, 85, 86, 87, 88, 89, 90, 91, 92, 93, 94] (by decide +kernel) (by decide +kernel)
set_option maxRecDepth 20000 in
theorem gX6_span_X6_throwsIf : GoodIn wsX6_span (wsV RX6 78 RX6 yX6_throwsIf wsX6_throwsIf) := goodIn_app (goodIn_of _ (by decide +kernel)) ggX6_span_X6_throwsIf
set_option maxRecDepth 20000 in
theorem ggX6_span_X6_all : GoodIn wsX6_span wsX6_all := goodIn_r _ [20, 21, 72, 73, 74, 75, 76, 77, 78, 79, 80, 81, 82, 83, 84, 85, 86, 87, 88, 89, 90, 91, 92, 93, 94] (by decide +kernel) (by decide +kernel)
set_option maxRecDepth 20000 in
theorem gX6_span_X6_all : GoodIn wsX6_span (wsV RX6 141 RX6 yX6_all wsX6_all) := goodIn_app (goodIn_of _ (by decide +kernel)) ggX6_span_X6_all
set_option maxRecDepth 20000 in
theorem ggX6_span_X6_goes : GoodIn wsX6_span wsX6_goes := goodIn_r _ [25, 26, 27, 28, 29, 2, 30, 31, 32, 33, 5, 34, 35, 36, 37, 38, 39, 10, 11, 12, 40, 41, 42, 43, 21, 44, 45, 46, 47, 48, 49, 50, 51, 52, 53, 54, 55, 56, 57, 58, 59, 60, 61, 62, 63, 64, 65, 66, 67, 68, 69, 70, 71, 72, 73, 74, 75, 76, 77, 78, 79, 80, 81, 82, 83, 84, 85, 86, 87, 88, 89, 90, 91, 92, 93, 94] (by decide +kernel) (by decide +kernel)
set_option maxRecDepth 20000 in
theorem gX6_span_X6_goes : GoodIn wsX6_span (wsV RX6 132 RX6 yX6_goes wsX6_goes) := goodIn_app (goodIn_of _ (by decide +kernel)) ggX6_span_X6_goes
set_option maxRecDepth 20000 in
theorem ggX6_span_X6_cell : GoodIn wsX6_span wsX6_cell := goodIn_r _ [39] (by decide +kernel) (by decide +kernel)
set_option maxRecDepth 20000 in
theorem gX6_span_X6_cell : GoodIn wsX6_span (va_wsS RX6 95 yX6_cell wsX6_cell) := goodIn_app (goodIn_of _ (by decide +kernel)) ggX6_span_X6_cell
theorem dX6_span_0 : decode cX6_span 0 = .ok (.aload_n 0, 1) := by decide +kernel
theorem dX6_span_1 : decode cX6_span 1 = .ok (.iconst 0, 1) := by decide +kernel
theorem dX6_span_2 : decode cX6_span 2 = .ok (.putfield 66, 3) := by decide +kernel
theorem dX6_span_5 : decode cX6_span 5 = .ok (.aload_n 0, 1) := by decide +kernel
theorem dX6_span_6 : decode cX6_span 6 = .ok (.iload_n 1, 1) := by decide +kernel
theorem dX6_span_7 : decode cX6_span 7 = .ok (.iload_n 2, 1) := by decide +kernel
theorem dX6_span_8 : decode cX6_span 8 = .ok (.invokestatic 85, 3) := by decide +kernel
theorem dX6_span_11 : decode cX6_span 11 = .ok (.iconst 1, 1) := by decide +kernel
theorem dX6_span_12 : decode cX6_span 12 = .ok (.invokevirtual 78, 3) := by decide +kernel
theorem dX6_span_15 : decode cX6_span 15 = .ok (.ifCond .ne 37, 3) := by decide +kernel
theorem dX6_span_18 : decode cX6_span 18 = .ok (.aload_n 0, 1) := by decide +kernel
theorem dX6_span_19 : decode cX6_span 19 = .ok (.aload_n 0, 1) := by decide +kernel
theorem dX6_span_20 : decode cX6_span 20 = .ok (.iload 4, 2) := by decide +kernel
theorem dX6_span_22 : decode cX6_span 22 = .ok (.ifCond .eq 10, 3) := by decide +kernel
theorem dX6_span_25 : decode cX6_span 25 = .ok (.aload_n 0, 1) := by decide +kernel
theorem dX6_span_26 : decode cX6_span 26 = .ok (.invokevirtual 141, 3) := by decide +kernel
theorem dX6_span_29 : decode cX6_span 29 = .ok (.goto 4, 3) := by decide +kernel
theorem dX6_span_32 : decode cX6_span 32 = .ok (.iconst 0, 1) := by decide +kernel
theorem dX6_span_33 : decode cX6_span 33 = .ok (.iconst (-1), 1) := by decide +kernel
theorem dX6_span_34 : decode cX6_span 34 = .ok (.invokevirtual 132, 3) := by decide +kernel
theorem dX6_span_37 : decode cX6_span 37 = .ok (.ifCond .ne 7, 3) := by decide +kernel
theorem dX6_span_40 : decode cX6_span 40 = .ok (.iconst 1, 1) := by decide +kernel
theorem dX6_span_41 : decode cX6_span 41 = .ok (.goto 4, 3) := by decide +kernel
theorem dX6_span_44 : decode cX6_span 44 = .ok (.iconst 0, 1) := by decide +kernel
theorem dX6_span_45 : decode cX6_span 45 = .ok (.iconst 2, 1) := by decide +kernel
theorem dX6_span_46 : decode cX6_span 46 = .ok (.invokevirtual 78, 3) := by decide +kernel
theorem dX6_span_49 : decode cX6_span 49 = .ok (.ifCond .eq 5, 3) := by decide +kernel
theorem dX6_span_52 : decode cX6_span 52 = .ok (.iconst 0, 1) := by decide +kernel
theorem dX6_span_53 : decode cX6_span 53 = .ok (.ireturn, 1) := by decide +kernel
theorem dX6_span_54 : decode cX6_span 54 = .ok (.iload_n 3, 1) := by decide +kernel
theorem dX6_span_55 : decode cX6_span 55 = .ok (.ifCond .eq 8, 3) := by decide +kernel
theorem dX6_span_58 : decode cX6_span 58 = .ok (.bipush 50, 2) := by decide +kernel
theorem dX6_span_60 : decode cX6_span 60 = .ok (.goto 5, 3) := by decide +kernel
theorem dX6_span_63 : decode cX6_span 63 = .ok (.bipush (-50), 2) := by decide +kernel
theorem dX6_span_65 : decode cX6_span 65 = .ok (.istore 5, 2) := by decide +kernel
theorem dX6_span_67 : decode cX6_span 67 = .ok (.aload_n 0, 1) := by decide +kernel
theorem dX6_span_68 : decode cX6_span 68 = .ok (.getfield 47, 3) := by decide +kernel
theorem dX6_span_71 : decode cX6_span 71 = .ok (.iconst 3, 1) := by decide +kernel
theorem dX6_span_72 : decode cX6_span 72 = .ok (.iload_n 1, 1) := by decide +kernel
theorem dX6_span_73 : decode cX6_span 73 = .ok (.imul, 1) := by decide +kernel
theorem dX6_span_74 : decode cX6_span 74 = .ok (.iload_n 2, 1) := by decide +kernel
theorem dX6_span_75 : decode cX6_span 75 = .ok (.iadd, 1) := by decide +kernel
theorem dX6_span_76 : decode cX6_span 76 = .ok (.iload 5, 2) := by decide +kernel
theorem dX6_span_78 : decode cX6_span 78 = .ok (.invokestatic 95, 3) := by decide +kernel
theorem dX6_span_81 : decode cX6_span 81 = .ok (.baload, 1) := by decide +kernel
theorem dX6_span_82 : decode cX6_span 82 = .ok (.ifCond .ne 20, 3) := by decide +kernel
theorem dX6_span_85 : decode cX6_span 85 = .ok (.iload 5, 2) := by decide +kernel
theorem dX6_span_87 : decode cX6_span 87 = .ok (.iload_n 3, 1) := by decide +kernel
theorem dX6_span_88 : decode cX6_span 88 = .ok (.ifCond .eq 7, 3) := by decide +kernel
theorem dX6_span_91 : decode cX6_span 91 = .ok (.iconst (-1), 1) := by decide +kernel
theorem dX6_span_92 : decode cX6_span 92 = .ok (.goto 4, 3) := by decide +kernel
theorem dX6_span_95 : decode cX6_span 95 = .ok (.iconst 1, 1) := by decide +kernel
theorem dX6_span_96 : decode cX6_span 96 = .ok (.iadd, 1) := by decide +kernel
theorem dX6_span_97 : decode cX6_span 97 = .ok (.istore 5, 2) := by decide +kernel
theorem dX6_span_99 : decode cX6_span 99 = .ok (.goto (-32), 3) := by decide +kernel
theorem dX6_span_102 : decode cX6_span 102 = .ok (.iload 5, 2) := by decide +kernel
theorem dX6_span_104 : decode cX6_span 104 = .ok (.ireturn, 1) := by decide +kernel
set_option maxRecDepth 20000 in
theorem ggX6_fit_X6_all : GoodIn wsX6_fit wsX6_all := goodIn_r _ [6, 7, 62, 63, 64, 65, 66, 67, 68, 69, 70, 71, 72, 73, 74, 75, 76, 77, 78, 79, 80, 81, 82, 83, 84] (by decide +kernel) (by decide +kernel)
set_option maxRecDepth 20000 in
theorem gX6_fit_X6_all : GoodIn wsX6_fit (wsV RX6 141 RX6 yX6_all wsX6_all) := goodIn_app (goodIn_of _ (by decide +kernel)) ggX6_fit_X6_all
set_option maxRecDepth 20000 in
theorem ggX6_fit_X6_goes : GoodIn wsX6_fit wsX6_goes := goodIn_r _ [11, 12, 13, 14, 15, 16, 17, 18, 19, 20, 5, 21, 22, 23, 24, 25, 26, 27, 28, 29, 30, 31, 32, 33, 7, 34, 35, 36, 37, 38, 39, 40, 41, 42, 43, 44, 45, 46, 47, 48, 49, 50, 51, 52, 53, 54, 55, 56, 57, 58, 59, 60, 61, 62, 63, 64, 65, 66, 67, 68, 69, 70, 71, 72, 73, 74, 75, 76, 77, 78, 79, 80, 81, 82, 83, 84] (by decide +kernel) (by decide +kernel)
set_option maxRecDepth 20000 in
theorem gX6_fit_X6_goes : GoodIn wsX6_fit (wsV RX6 132 RX6 yX6_goes wsX6_goes) := goodIn_app (goodIn_of _ (by decide +kernel)) ggX6_fit_X6_goes
theorem dX6_fit_0 : decode cX6_fit 0 = .ok (.aload_n 0, 1) := by decide +kernel
theorem dX6_fit_1 : decode cX6_fit 1 = .ok (.iconst 0, 1) := by decide +kernel
theorem dX6_fit_2 : decode cX6_fit 2 = .ok (.putfield 66, 3) := by decide +kernel
theorem dX6_fit_5 : decode cX6_fit 5 = .ok (.aload_n 0, 1) := by decide +kernel
theorem dX6_fit_6 : decode cX6_fit 6 = .ok (.iload_n 1, 1) := by decide +kernel
theorem dX6_fit_7 : decode cX6_fit 7 = .ok (.aload_n 0, 1) := by decide +kernel
theorem dX6_fit_8 : decode cX6_fit 8 = .ok (.invokevirtual 141, 3) := by decide +kernel
theorem dX6_fit_11 : decode cX6_fit 11 = .ok (.iand, 1) := by decide +kernel
theorem dX6_fit_12 : decode cX6_fit 12 = .ok (.iconst (-1), 1) := by decide +kernel
theorem dX6_fit_13 : decode cX6_fit 13 = .ok (.invokevirtual 132, 3) := by decide +kernel
theorem dX6_fit_16 : decode cX6_fit 16 = .ok (.ireturn, 1) := by decide +kernel
set_option maxRecDepth 20000 in
theorem ggX6_wrong_X6_fewest : GoodIn wsX6_wrong wsX6_fewest := goodIn_r _ [6, 7, 8, 9, 10, 11, 12, 5, 13, 14, 15, 16, 17, 18, 19, 20, 21, 22, 23, 24, 25, 26, 27, 28, 29, 30, 31, 32, 33, 34, 35, 36, 37, 38, 39, 40, 41, 42, 43, 44, 45, 46, 47, 48, 49, 50, 51, 52, 53, 54, 55, 56, 57, 58, 59, 60, 61, 62, 63, 64, 65, 66, 67, 68, 69, 70, 71, 72, 73, 74, 75, 76, 77, 78, 79, 80, 81, 82, 83, 84, 85, 86, 87, 88, 89, 90, 91, 92, 93, 94, 95, 96] (by decide +kernel) (by decide +kernel)
set_option maxRecDepth 20000 in
theorem gX6_wrong_X6_fewest : GoodIn wsX6_wrong (wsV RX6 145 RX6 yX6_fewest wsX6_fewest) := goodIn_app (goodIn_of _ (by decide +kernel)) ggX6_wrong_X6_fewest
set_option maxRecDepth 20000 in
theorem ggX6_wrong_J6_bitCount_0f7a4 : GoodIn wsX6_wrong wsJ6_bitCount_0f7a4 := goodIn_r _ [70, 71, 72, 73] (by decide +kernel) (by decide +kernel)
set_option maxRecDepth 20000 in
theorem gX6_wrong_J6_bitCount_0f7a4 : GoodIn wsX6_wrong (va_wsS RX6 135 yJ6_bitCount_0f7a4 wsJ6_bitCount_0f7a4) := goodIn_app (goodIn_of _ (by decide +kernel)) ggX6_wrong_J6_bitCount_0f7a4
theorem dX6_wrong_0 : decode cX6_wrong 0 = .ok (.aload_n 0, 1) := by decide +kernel
theorem dX6_wrong_1 : decode cX6_wrong 1 = .ok (.iconst 0, 1) := by decide +kernel
theorem dX6_wrong_2 : decode cX6_wrong 2 = .ok (.putfield 66, 3) := by decide +kernel
theorem dX6_wrong_5 : decode cX6_wrong 5 = .ok (.aload_n 0, 1) := by decide +kernel
theorem dX6_wrong_6 : decode cX6_wrong 6 = .ok (.invokevirtual 145, 3) := by decide +kernel
theorem dX6_wrong_9 : decode cX6_wrong 9 = .ok (.istore_n 1, 1) := by decide +kernel
theorem dX6_wrong_10 : decode cX6_wrong 10 = .ok (.iload_n 1, 1) := by decide +kernel
theorem dX6_wrong_11 : decode cX6_wrong 11 = .ok (.ifCond .ge 7, 3) := by decide +kernel
theorem dX6_wrong_14 : decode cX6_wrong 14 = .ok (.iconst (-1), 1) := by decide +kernel
theorem dX6_wrong_15 : decode cX6_wrong 15 = .ok (.goto 7, 3) := by decide +kernel
theorem dX6_wrong_18 : decode cX6_wrong 18 = .ok (.iload_n 1, 1) := by decide +kernel
theorem dX6_wrong_19 : decode cX6_wrong 19 = .ok (.invokestatic 135, 3) := by decide +kernel
theorem dX6_wrong_22 : decode cX6_wrong 22 = .ok (.ireturn, 1) := by decide +kernel
set_option maxRecDepth 20000 in
theorem ggX6_which_X6_fewest : GoodIn wsX6_which wsX6_fewest := goodIn_r _ [6, 7, 8, 9, 10, 11, 12, 5, 13, 14, 15, 16, 17, 18, 19, 20, 21, 22, 23, 24, 25, 26, 27, 28, 29, 30, 31, 32, 33, 34, 35, 36, 37, 38, 39, 40, 41, 42, 43, 44, 45, 46, 47, 48, 49, 50, 51, 52, 53, 54, 55, 56, 57, 58, 59, 60, 61, 62, 63, 64, 65, 66, 67, 68, 69, 70, 71, 72, 73, 74, 75, 76, 77, 78, 79, 80, 81, 82, 83, 84, 85, 86, 87, 88, 89, 90, 91, 92, 93, 94, 95, 96] (by decide +kernel) (by decide +kernel)
set_option maxRecDepth 20000 in
theorem gX6_which_X6_fewest : GoodIn wsX6_which (wsV RX6 145 RX6 yX6_fewest wsX6_fewest) := goodIn_app (goodIn_of _ (by decide +kernel)) ggX6_which_X6_fewest
theorem dX6_which_0 : decode cX6_which 0 = .ok (.aload_n 0, 1) := by decide +kernel
theorem dX6_which_1 : decode cX6_which 1 = .ok (.iconst 0, 1) := by decide +kernel
theorem dX6_which_2 : decode cX6_which 2 = .ok (.putfield 66, 3) := by decide +kernel
theorem dX6_which_5 : decode cX6_which 5 = .ok (.aload_n 0, 1) := by decide +kernel
theorem dX6_which_6 : decode cX6_which 6 = .ok (.invokevirtual 145, 3) := by decide +kernel
theorem dX6_which_9 : decode cX6_which 9 = .ok (.ireturn, 1) := by decide +kernel
set_option maxRecDepth 20000 in
theorem ggX6_odds_X6_goes : GoodIn wsX6_odds wsX6_goes := goodIn_r _ [8, 9, 10, 11, 12, 13, 14, 15, 16, 17, 7, 18, 19, 20, 21, 22, 23, 24, 25, 26, 27, 28, 29, 30, 31, 32, 33, 34, 35, 36, 37, 38, 39, 40, 41, 42, 43, 44, 45, 46, 2, 47, 48, 3, 49, 50, 51, 52, 53, 54, 55, 56, 57, 58, 59, 60, 61, 62, 63, 64, 65, 66, 67, 68, 69, 70, 71, 72, 73, 74, 75, 76, 77, 78, 79, 80] (by decide +kernel) (by decide +kernel)
set_option maxRecDepth 20000 in
theorem gX6_odds_X6_goes : GoodIn wsX6_odds (wsV RX6 132 RX6 yX6_goes wsX6_goes) := goodIn_app (goodIn_of _ (by decide +kernel)) ggX6_odds_X6_goes
theorem dX6_odds_0 : decode cX6_odds 0 = .ok (.aload_n 0, 1) := by decide +kernel
theorem dX6_odds_1 : decode cX6_odds 1 = .ok (.iconst 0, 1) := by decide +kernel
theorem dX6_odds_2 : decode cX6_odds 2 = .ok (.putfield 66, 3) := by decide +kernel
theorem dX6_odds_5 : decode cX6_odds 5 = .ok (.aload_n 0, 1) := by decide +kernel
theorem dX6_odds_6 : decode cX6_odds 6 = .ok (.iconst 0, 1) := by decide +kernel
theorem dX6_odds_7 : decode cX6_odds 7 = .ok (.iconst (-1), 1) := by decide +kernel
theorem dX6_odds_8 : decode cX6_odds 8 = .ok (.invokevirtual 132, 3) := by decide +kernel
theorem dX6_odds_11 : decode cX6_odds 11 = .ok (.ifCond .eq 5, 3) := by decide +kernel
theorem dX6_odds_14 : decode cX6_odds 14 = .ok (.iconst 0, 1) := by decide +kernel
theorem dX6_odds_15 : decode cX6_odds 15 = .ok (.ireturn, 1) := by decide +kernel
theorem dX6_odds_16 : decode cX6_odds 16 = .ok (.iconst 0, 1) := by decide +kernel
theorem dX6_odds_17 : decode cX6_odds 17 = .ok (.istore_n 1, 1) := by decide +kernel
theorem dX6_odds_18 : decode cX6_odds 18 = .ok (.iconst 0, 1) := by decide +kernel
theorem dX6_odds_19 : decode cX6_odds 19 = .ok (.istore_n 2, 1) := by decide +kernel
theorem dX6_odds_20 : decode cX6_odds 20 = .ok (.iload_n 2, 1) := by decide +kernel
theorem dX6_odds_21 : decode cX6_odds 21 = .ok (.aload_n 0, 1) := by decide +kernel
theorem dX6_odds_22 : decode cX6_odds 22 = .ok (.getfield 82, 3) := by decide +kernel
theorem dX6_odds_25 : decode cX6_odds 25 = .ok (.if_icmp .ge 37, 3) := by decide +kernel
theorem dX6_odds_28 : decode cX6_odds 28 = .ok (.iload_n 1, 1) := by decide +kernel
theorem dX6_odds_29 : decode cX6_odds 29 = .ok (.aload_n 0, 1) := by decide +kernel
theorem dX6_odds_30 : decode cX6_odds 30 = .ok (.getfield 26, 3) := by decide +kernel
theorem dX6_odds_33 : decode cX6_odds 33 = .ok (.iload_n 2, 1) := by decide +kernel
theorem dX6_odds_34 : decode cX6_odds 34 = .ok (.baload, 1) := by decide +kernel
theorem dX6_odds_35 : decode cX6_odds 35 = .ok (.ifCond .ne 18, 3) := by decide +kernel
theorem dX6_odds_38 : decode cX6_odds 38 = .ok (.aload_n 0, 1) := by decide +kernel
theorem dX6_odds_39 : decode cX6_odds 39 = .ok (.iconst 0, 1) := by decide +kernel
theorem dX6_odds_40 : decode cX6_odds 40 = .ok (.iload_n 2, 1) := by decide +kernel
theorem dX6_odds_41 : decode cX6_odds 41 = .ok (.invokevirtual 132, 3) := by decide +kernel
theorem dX6_odds_44 : decode cX6_odds 44 = .ok (.ifCond .eq 9, 3) := by decide +kernel
theorem dX6_odds_47 : decode cX6_odds 47 = .ok (.iconst 1, 1) := by decide +kernel
theorem dX6_odds_48 : decode cX6_odds 48 = .ok (.iload_n 2, 1) := by decide +kernel
theorem dX6_odds_49 : decode cX6_odds 49 = .ok (.ishl, 1) := by decide +kernel
theorem dX6_odds_50 : decode cX6_odds 50 = .ok (.goto 4, 3) := by decide +kernel
theorem dX6_odds_53 : decode cX6_odds 53 = .ok (.iconst 0, 1) := by decide +kernel
theorem dX6_odds_54 : decode cX6_odds 54 = .ok (.ior, 1) := by decide +kernel
theorem dX6_odds_55 : decode cX6_odds 55 = .ok (.istore_n 1, 1) := by decide +kernel
theorem dX6_odds_56 : decode cX6_odds 56 = .ok (.iinc 2 1, 3) := by decide +kernel
theorem dX6_odds_59 : decode cX6_odds 59 = .ok (.goto (-39), 3) := by decide +kernel
theorem dX6_odds_62 : decode cX6_odds 62 = .ok (.iload_n 1, 1) := by decide +kernel
theorem dX6_odds_63 : decode cX6_odds 63 = .ok (.ireturn, 1) := by decide +kernel
set_option maxRecDepth 20000 in
theorem ggX6_avoided_X6_noCar : GoodIn wsX6_avoided wsX6_noCar := goodIn_r _ [6, 7, 8, 5, 9] (by decide +kernel) (by decide +kernel)
set_option maxRecDepth 20000 in
theorem gX6_avoided_X6_noCar : GoodIn wsX6_avoided (va_wsS RX6 74 yX6_noCar wsX6_noCar) := goodIn_app (goodIn_of _ (by decide +kernel)) ggX6_avoided_X6_noCar
set_option maxRecDepth 20000 in
theorem ggX6_avoided_X6_throwsIf : GoodIn wsX6_avoided wsX6_throwsIf := goodIn_r _ [13, 1, 65, 66, 67, 68, 69, 70, 71, 72, 73, 74, 75, 76, 77, 78, 79, 80, 81, 82, 83, 84, 85, 86, 87] (by decide +kernel) (by decide +kernel)
set_option maxRecDepth 20000 in
theorem gX6_avoided_X6_throwsIf : GoodIn wsX6_avoided (wsV RX6 78 RX6 yX6_throwsIf wsX6_throwsIf) := goodIn_app (goodIn_of _ (by decide +kernel)) ggX6_avoided_X6_throwsIf
set_option maxRecDepth 20000 in
theorem ggX6_avoided_X6_in : GoodIn wsX6_avoided wsX6_in := goodIn_r _ [9] (by decide +kernel) (by decide +kernel)
set_option maxRecDepth 20000 in
theorem gX6_avoided_X6_in : GoodIn wsX6_avoided (va_wsS RX6 70 yX6_in wsX6_in) := goodIn_app (goodIn_of _ (by decide +kernel)) ggX6_avoided_X6_in
set_option maxRecDepth 20000 in
theorem ggX6_avoided_X6_goes : GoodIn wsX6_avoided wsX6_goes := goodIn_r _ [17, 18, 19, 20, 21, 2, 22, 23, 24, 25, 5, 26, 27, 28, 29, 30, 31, 7, 8, 9, 32, 33, 34, 35, 36, 37, 38, 39, 40, 41, 42, 43, 44, 45, 46, 47, 48, 49, 50, 51, 52, 53, 54, 55, 56, 57, 58, 59, 60, 61, 62, 63, 64, 65, 66, 67, 68, 69, 70, 71, 72, 73, 74, 75, 76, 77, 78, 79, 80, 81, 82, 83, 84, 85, 86, 87] (by decide +kernel) (by decide +kernel)
set_option maxRecDepth 20000 in
theorem gX6_avoided_X6_goes : GoodIn wsX6_avoided (wsV RX6 132 RX6 yX6_goes wsX6_goes) := goodIn_app (goodIn_of _ (by decide +kernel)) ggX6_avoided_X6_goes
set_option maxRecDepth 20000 in
theorem ggX6_avoided_X6_cell : GoodIn wsX6_avoided wsX6_cell := goodIn_r _ [31] (by decide +kernel) (by decide +kernel)
set_option maxRecDepth 20000 in
theorem gX6_avoided_X6_cell : GoodIn wsX6_avoided (va_wsS RX6 95 yX6_cell wsX6_cell) := goodIn_app (goodIn_of _ (by decide +kernel)) ggX6_avoided_X6_cell
theorem dX6_avoided_0 : decode cX6_avoided 0 = .ok (.aload_n 0, 1) := by decide +kernel
theorem dX6_avoided_1 : decode cX6_avoided 1 = .ok (.iconst 0, 1) := by decide +kernel
theorem dX6_avoided_2 : decode cX6_avoided 2 = .ok (.putfield 66, 3) := by decide +kernel
theorem dX6_avoided_5 : decode cX6_avoided 5 = .ok (.aload_n 0, 1) := by decide +kernel
theorem dX6_avoided_6 : decode cX6_avoided 6 = .ok (.iload_n 1, 1) := by decide +kernel
theorem dX6_avoided_7 : decode cX6_avoided 7 = .ok (.invokestatic 74, 3) := by decide +kernel
theorem dX6_avoided_10 : decode cX6_avoided 10 = .ok (.iconst 1, 1) := by decide +kernel
theorem dX6_avoided_11 : decode cX6_avoided 11 = .ok (.invokevirtual 78, 3) := by decide +kernel
theorem dX6_avoided_14 : decode cX6_avoided 14 = .ok (.ifCond .ne 60, 3) := by decide +kernel
theorem dX6_avoided_17 : decode cX6_avoided 17 = .ok (.aload_n 0, 1) := by decide +kernel
theorem dX6_avoided_18 : decode cX6_avoided 18 = .ok (.iload_n 2, 1) := by decide +kernel
theorem dX6_avoided_19 : decode cX6_avoided 19 = .ok (.iconst 0, 1) := by decide +kernel
theorem dX6_avoided_20 : decode cX6_avoided 20 = .ok (.sipush 2000, 3) := by decide +kernel
theorem dX6_avoided_23 : decode cX6_avoided 23 = .ok (.invokestatic 70, 3) := by decide +kernel
theorem dX6_avoided_26 : decode cX6_avoided 26 = .ok (.ifCond .eq 14, 3) := by decide +kernel
theorem dX6_avoided_29 : decode cX6_avoided 29 = .ok (.iload_n 3, 1) := by decide +kernel
theorem dX6_avoided_30 : decode cX6_avoided 30 = .ok (.iconst 0, 1) := by decide +kernel
theorem dX6_avoided_31 : decode cX6_avoided 31 = .ok (.sipush 150, 3) := by decide +kernel
theorem dX6_avoided_34 : decode cX6_avoided 34 = .ok (.invokestatic 70, 3) := by decide +kernel
theorem dX6_avoided_37 : decode cX6_avoided 37 = .ok (.ifCond .ne 7, 3) := by decide +kernel
theorem dX6_avoided_40 : decode cX6_avoided 40 = .ok (.iconst 1, 1) := by decide +kernel
theorem dX6_avoided_41 : decode cX6_avoided 41 = .ok (.goto 4, 3) := by decide +kernel
theorem dX6_avoided_44 : decode cX6_avoided 44 = .ok (.iconst 0, 1) := by decide +kernel
theorem dX6_avoided_45 : decode cX6_avoided 45 = .ok (.iconst 2, 1) := by decide +kernel
theorem dX6_avoided_46 : decode cX6_avoided 46 = .ok (.invokevirtual 78, 3) := by decide +kernel
theorem dX6_avoided_49 : decode cX6_avoided 49 = .ok (.ifCond .ne 25, 3) := by decide +kernel
theorem dX6_avoided_52 : decode cX6_avoided 52 = .ok (.aload_n 0, 1) := by decide +kernel
theorem dX6_avoided_53 : decode cX6_avoided 53 = .ok (.aload_n 0, 1) := by decide +kernel
theorem dX6_avoided_54 : decode cX6_avoided 54 = .ok (.iconst 0, 1) := by decide +kernel
theorem dX6_avoided_55 : decode cX6_avoided 55 = .ok (.iconst (-1), 1) := by decide +kernel
theorem dX6_avoided_56 : decode cX6_avoided 56 = .ok (.invokevirtual 132, 3) := by decide +kernel
theorem dX6_avoided_59 : decode cX6_avoided 59 = .ok (.ifCond .ne 7, 3) := by decide +kernel
theorem dX6_avoided_62 : decode cX6_avoided 62 = .ok (.iconst 1, 1) := by decide +kernel
theorem dX6_avoided_63 : decode cX6_avoided 63 = .ok (.goto 4, 3) := by decide +kernel
theorem dX6_avoided_66 : decode cX6_avoided 66 = .ok (.iconst 0, 1) := by decide +kernel
theorem dX6_avoided_67 : decode cX6_avoided 67 = .ok (.iconst 3, 1) := by decide +kernel
theorem dX6_avoided_68 : decode cX6_avoided 68 = .ok (.invokevirtual 78, 3) := by decide +kernel
theorem dX6_avoided_71 : decode cX6_avoided 71 = .ok (.ifCond .eq 5, 3) := by decide +kernel
theorem dX6_avoided_74 : decode cX6_avoided 74 = .ok (.iconst 0, 1) := by decide +kernel
theorem dX6_avoided_75 : decode cX6_avoided 75 = .ok (.ireturn, 1) := by decide +kernel
theorem dX6_avoided_76 : decode cX6_avoided 76 = .ok (.iconst 0, 1) := by decide +kernel
theorem dX6_avoided_77 : decode cX6_avoided 77 = .ok (.istore 4, 2) := by decide +kernel
theorem dX6_avoided_79 : decode cX6_avoided 79 = .ok (.iconst 1, 1) := by decide +kernel
theorem dX6_avoided_80 : decode cX6_avoided 80 = .ok (.istore 5, 2) := by decide +kernel
theorem dX6_avoided_82 : decode cX6_avoided 82 = .ok (.bipush (-50), 2) := by decide +kernel
theorem dX6_avoided_84 : decode cX6_avoided 84 = .ok (.istore 6, 2) := by decide +kernel
theorem dX6_avoided_86 : decode cX6_avoided 86 = .ok (.iload 6, 2) := by decide +kernel
theorem dX6_avoided_88 : decode cX6_avoided 88 = .ok (.bipush 50, 2) := by decide +kernel
theorem dX6_avoided_90 : decode cX6_avoided 90 = .ok (.if_icmp .gt 83, 3) := by decide +kernel
theorem dX6_avoided_93 : decode cX6_avoided 93 = .ok (.aload_n 0, 1) := by decide +kernel
theorem dX6_avoided_94 : decode cX6_avoided 94 = .ok (.getfield 47, 3) := by decide +kernel
theorem dX6_avoided_97 : decode cX6_avoided 97 = .ok (.iconst 3, 1) := by decide +kernel
theorem dX6_avoided_98 : decode cX6_avoided 98 = .ok (.iload_n 1, 1) := by decide +kernel
theorem dX6_avoided_99 : decode cX6_avoided 99 = .ok (.imul, 1) := by decide +kernel
theorem dX6_avoided_100 : decode cX6_avoided 100 = .ok (.iload 6, 2) := by decide +kernel
theorem dX6_avoided_102 : decode cX6_avoided 102 = .ok (.invokestatic 95, 3) := by decide +kernel
theorem dX6_avoided_105 : decode cX6_avoided 105 = .ok (.baload, 1) := by decide +kernel
theorem dX6_avoided_106 : decode cX6_avoided 106 = .ok (.ifCond .ne 6, 3) := by decide +kernel
theorem dX6_avoided_109 : decode cX6_avoided 109 = .ok (.goto 58, 3) := by decide +kernel
theorem dX6_avoided_112 : decode cX6_avoided 112 = .ok (.bipush 51, 2) := by decide +kernel
theorem dX6_avoided_114 : decode cX6_avoided 114 = .ok (.iload 6, 2) := by decide +kernel
theorem dX6_avoided_116 : decode cX6_avoided 116 = .ok (.imul, 1) := by decide +kernel
theorem dX6_avoided_117 : decode cX6_avoided 117 = .ok (.iload 6, 2) := by decide +kernel
theorem dX6_avoided_119 : decode cX6_avoided 119 = .ok (.imul, 1) := by decide +kernel
theorem dX6_avoided_120 : decode cX6_avoided 120 = .ok (.iload_n 2, 1) := by decide +kernel
theorem dX6_avoided_121 : decode cX6_avoided 121 = .ok (.iload_n 3, 1) := by decide +kernel
theorem dX6_avoided_122 : decode cX6_avoided 122 = .ok (.imul, 1) := by decide +kernel
theorem dX6_avoided_123 : decode cX6_avoided 123 = .ok (.if_icmp .gt 7, 3) := by decide +kernel
theorem dX6_avoided_126 : decode cX6_avoided 126 = .ok (.iconst 1, 1) := by decide +kernel
theorem dX6_avoided_127 : decode cX6_avoided 127 = .ok (.goto 4, 3) := by decide +kernel
theorem dX6_avoided_130 : decode cX6_avoided 130 = .ok (.iconst 0, 1) := by decide +kernel
theorem dX6_avoided_131 : decode cX6_avoided 131 = .ok (.istore 7, 2) := by decide +kernel
theorem dX6_avoided_133 : decode cX6_avoided 133 = .ok (.iload 4, 2) := by decide +kernel
theorem dX6_avoided_135 : decode cX6_avoided 135 = .ok (.ifCond .ne 8, 3) := by decide +kernel
theorem dX6_avoided_138 : decode cX6_avoided 138 = .ok (.iload 7, 2) := by decide +kernel
theorem dX6_avoided_140 : decode cX6_avoided 140 = .ok (.ifCond .eq 7, 3) := by decide +kernel
theorem dX6_avoided_143 : decode cX6_avoided 143 = .ok (.iconst 1, 1) := by decide +kernel
theorem dX6_avoided_144 : decode cX6_avoided 144 = .ok (.goto 4, 3) := by decide +kernel
theorem dX6_avoided_147 : decode cX6_avoided 147 = .ok (.iconst 0, 1) := by decide +kernel
theorem dX6_avoided_148 : decode cX6_avoided 148 = .ok (.istore 4, 2) := by decide +kernel
theorem dX6_avoided_150 : decode cX6_avoided 150 = .ok (.iload 5, 2) := by decide +kernel
theorem dX6_avoided_152 : decode cX6_avoided 152 = .ok (.ifCond .eq 12, 3) := by decide +kernel
theorem dX6_avoided_155 : decode cX6_avoided 155 = .ok (.iload 7, 2) := by decide +kernel
theorem dX6_avoided_157 : decode cX6_avoided 157 = .ok (.ifCond .eq 7, 3) := by decide +kernel
theorem dX6_avoided_160 : decode cX6_avoided 160 = .ok (.iconst 1, 1) := by decide +kernel
theorem dX6_avoided_161 : decode cX6_avoided 161 = .ok (.goto 4, 3) := by decide +kernel
theorem dX6_avoided_164 : decode cX6_avoided 164 = .ok (.iconst 0, 1) := by decide +kernel
theorem dX6_avoided_165 : decode cX6_avoided 165 = .ok (.istore 5, 2) := by decide +kernel
theorem dX6_avoided_167 : decode cX6_avoided 167 = .ok (.iinc 6 1, 3) := by decide +kernel
theorem dX6_avoided_170 : decode cX6_avoided 170 = .ok (.goto (-84), 3) := by decide +kernel
theorem dX6_avoided_173 : decode cX6_avoided 173 = .ok (.iload 5, 2) := by decide +kernel
theorem dX6_avoided_175 : decode cX6_avoided 175 = .ok (.ifCond .eq 7, 3) := by decide +kernel
theorem dX6_avoided_178 : decode cX6_avoided 178 = .ok (.iconst 2, 1) := by decide +kernel
theorem dX6_avoided_179 : decode cX6_avoided 179 = .ok (.goto 13, 3) := by decide +kernel
theorem dX6_avoided_182 : decode cX6_avoided 182 = .ok (.iload 4, 2) := by decide +kernel
theorem dX6_avoided_184 : decode cX6_avoided 184 = .ok (.ifCond .eq 7, 3) := by decide +kernel
theorem dX6_avoided_187 : decode cX6_avoided 187 = .ok (.iconst 1, 1) := by decide +kernel
theorem dX6_avoided_188 : decode cX6_avoided 188 = .ok (.goto 4, 3) := by decide +kernel
theorem dX6_avoided_191 : decode cX6_avoided 191 = .ok (.iconst 0, 1) := by decide +kernel
theorem dX6_avoided_192 : decode cX6_avoided 192 = .ok (.ireturn, 1) := by decide +kernel
set_option maxRecDepth 20000 in
theorem ggX6_can_X6_noSpeed : GoodIn wsX6_can wsX6_noSpeed := goodIn_r _ [6, 7, 8, 5, 9, 10, 11, 12] (by decide +kernel) (by decide +kernel)
set_option maxRecDepth 20000 in
theorem gX6_can_X6_noSpeed : GoodIn wsX6_can (va_wsS RX6 85 yX6_noSpeed wsX6_noSpeed) := goodIn_app (goodIn_of _ (by decide +kernel)) ggX6_can_X6_noSpeed
set_option maxRecDepth 20000 in
theorem ggX6_can_X6_throwsIf : GoodIn wsX6_can wsX6_throwsIf := goodIn_r _ [16, 1, 68, 69, 70, 71, 72, 73, 74, 75, 76, 77, 78, 79, 80, 81, 82, 83, 84, 85, 86, 87, 88, 89, 90] (by decide +kernel) (by decide +kernel)
set_option maxRecDepth 20000 in
theorem gX6_can_X6_throwsIf : GoodIn wsX6_can (wsV RX6 78 RX6 yX6_throwsIf wsX6_throwsIf) := goodIn_app (goodIn_of _ (by decide +kernel)) ggX6_can_X6_throwsIf
set_option maxRecDepth 20000 in
theorem ggX6_can_X6_in : GoodIn wsX6_can wsX6_in := goodIn_r _ [12] (by decide +kernel) (by decide +kernel)
set_option maxRecDepth 20000 in
theorem gX6_can_X6_in : GoodIn wsX6_can (va_wsS RX6 70 yX6_in wsX6_in) := goodIn_app (goodIn_of _ (by decide +kernel)) ggX6_can_X6_in
set_option maxRecDepth 20000 in
theorem ggX6_can_X6_goes : GoodIn wsX6_can wsX6_goes := goodIn_r _ [20, 21, 22, 23, 24, 2, 25, 26, 27, 28, 5, 29, 30, 31, 32, 33, 34, 10, 11, 12, 35, 36, 37, 38, 39, 40, 41, 42, 43, 44, 45, 46, 47, 48, 49, 50, 51, 52, 53, 54, 55, 56, 57, 58, 59, 60, 61, 62, 63, 64, 65, 66, 67, 68, 69, 70, 71, 72, 73, 74, 75, 76, 77, 78, 79, 80, 81, 82, 83, 84, 85, 86, 87, 88, 89, 90] (by decide +kernel) (by decide +kernel)
set_option maxRecDepth 20000 in
theorem gX6_can_X6_goes : GoodIn wsX6_can (wsV RX6 132 RX6 yX6_goes wsX6_goes) := goodIn_app (goodIn_of _ (by decide +kernel)) ggX6_can_X6_goes
set_option maxRecDepth 20000 in
theorem ggX6_can_X6_cell : GoodIn wsX6_can wsX6_cell := goodIn_r _ [34] (by decide +kernel) (by decide +kernel)
set_option maxRecDepth 20000 in
theorem gX6_can_X6_cell : GoodIn wsX6_can (va_wsS RX6 95 yX6_cell wsX6_cell) := goodIn_app (goodIn_of _ (by decide +kernel)) ggX6_can_X6_cell
theorem dX6_can_0 : decode cX6_can 0 = .ok (.aload_n 0, 1) := by decide +kernel
theorem dX6_can_1 : decode cX6_can 1 = .ok (.iconst 0, 1) := by decide +kernel
theorem dX6_can_2 : decode cX6_can 2 = .ok (.putfield 66, 3) := by decide +kernel
theorem dX6_can_5 : decode cX6_can 5 = .ok (.aload_n 0, 1) := by decide +kernel
theorem dX6_can_6 : decode cX6_can 6 = .ok (.iload_n 1, 1) := by decide +kernel
theorem dX6_can_7 : decode cX6_can 7 = .ok (.iload_n 2, 1) := by decide +kernel
theorem dX6_can_8 : decode cX6_can 8 = .ok (.invokestatic 85, 3) := by decide +kernel
theorem dX6_can_11 : decode cX6_can 11 = .ok (.iconst 1, 1) := by decide +kernel
theorem dX6_can_12 : decode cX6_can 12 = .ok (.invokevirtual 78, 3) := by decide +kernel
theorem dX6_can_15 : decode cX6_can 15 = .ok (.ifCond .ne 44, 3) := by decide +kernel
theorem dX6_can_18 : decode cX6_can 18 = .ok (.iload_n 3, 1) := by decide +kernel
theorem dX6_can_19 : decode cX6_can 19 = .ok (.bipush (-50), 2) := by decide +kernel
theorem dX6_can_21 : decode cX6_can 21 = .ok (.bipush 50, 2) := by decide +kernel
theorem dX6_can_23 : decode cX6_can 23 = .ok (.invokestatic 70, 3) := by decide +kernel
theorem dX6_can_26 : decode cX6_can 26 = .ok (.ifCond .eq 33, 3) := by decide +kernel
theorem dX6_can_29 : decode cX6_can 29 = .ok (.aload_n 0, 1) := by decide +kernel
theorem dX6_can_30 : decode cX6_can 30 = .ok (.iconst 0, 1) := by decide +kernel
theorem dX6_can_31 : decode cX6_can 31 = .ok (.iconst (-1), 1) := by decide +kernel
theorem dX6_can_32 : decode cX6_can 32 = .ok (.invokevirtual 132, 3) := by decide +kernel
theorem dX6_can_35 : decode cX6_can 35 = .ok (.ifCond .eq 24, 3) := by decide +kernel
theorem dX6_can_38 : decode cX6_can 38 = .ok (.aload_n 0, 1) := by decide +kernel
theorem dX6_can_39 : decode cX6_can 39 = .ok (.getfield 47, 3) := by decide +kernel
theorem dX6_can_42 : decode cX6_can 42 = .ok (.iconst 3, 1) := by decide +kernel
theorem dX6_can_43 : decode cX6_can 43 = .ok (.iload_n 1, 1) := by decide +kernel
theorem dX6_can_44 : decode cX6_can 44 = .ok (.imul, 1) := by decide +kernel
theorem dX6_can_45 : decode cX6_can 45 = .ok (.iload_n 2, 1) := by decide +kernel
theorem dX6_can_46 : decode cX6_can 46 = .ok (.iadd, 1) := by decide +kernel
theorem dX6_can_47 : decode cX6_can 47 = .ok (.iload_n 3, 1) := by decide +kernel
theorem dX6_can_48 : decode cX6_can 48 = .ok (.invokestatic 95, 3) := by decide +kernel
theorem dX6_can_51 : decode cX6_can 51 = .ok (.baload, 1) := by decide +kernel
theorem dX6_can_52 : decode cX6_can 52 = .ok (.ifCond .eq 7, 3) := by decide +kernel
theorem dX6_can_55 : decode cX6_can 55 = .ok (.iconst 1, 1) := by decide +kernel
theorem dX6_can_56 : decode cX6_can 56 = .ok (.goto 4, 3) := by decide +kernel
theorem dX6_can_59 : decode cX6_can 59 = .ok (.iconst 0, 1) := by decide +kernel
theorem dX6_can_60 : decode cX6_can 60 = .ok (.ireturn, 1) := by decide +kernel
