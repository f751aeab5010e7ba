theorem dX8_allOf_0 : decode cX8_allOf 0 = .ok (.aload_n 0, 1) := by decide +kernel
theorem dX8_allOf_1 : decode cX8_allOf 1 = .ok (.iload_n 2, 1) := by decide +kernel
set_option maxRecDepth 20000 in
theorem ggX8_allOf_X8_entries : GoodIn wsX8_allOf wsX8_entries := goodIn_r _ [10, 5, 11, 12, 13, 9, 14, 3, 15, 16, 17, 18, 19, 20, 21, 22, 23, 24, 25, 26, 27, 28, 29, 30, 31, 4, 32, 33, 34, 35, 36, 37, 38, 39, 40, 41, 42, 43, 44, 112, 113, 114, 115, 116, 117, 118, 119, 120, 121, 122, 123, 124, 125, 126, 127, 128] rfl (by decide +kernel)
set_option maxRecDepth 20000 in
theorem gX8_allOf_X8_entries : GoodIn wsX8_allOf (wsV RX8 158 RX8 yX8_entries wsX8_entries) := goodIn_app (goodIn_of _ (by decide +kernel)) ggX8_allOf_X8_entries
theorem dX8_allOf_2 : decode cX8_allOf 2 = .ok (.invokevirtual 158, 3) := by decide +kernel
theorem dX8_allOf_5 : decode cX8_allOf 5 = .ok (.istore_n 3, 1) := by decide +kernel
theorem dX8_allOf_6 : decode cX8_allOf 6 = .ok (.aload_n 0, 1) := by decide +kernel
theorem dX8_allOf_7 : decode cX8_allOf 7 = .ok (.iload_n 1, 1) := by decide +kernel
set_option maxRecDepth 20000 in
theorem ggX8_allOf_X8_root : GoodIn wsX8_allOf wsX8_root := goodIn_r _ [14, 3, 15, 112, 113, 114, 115, 116, 117, 118, 119, 120, 121, 122, 123, 124, 125, 126, 127, 128] rfl (by decide +kernel)
set_option maxRecDepth 20000 in
theorem gX8_allOf_X8_root : GoodIn wsX8_allOf (wsV RX8 95 RX8 yX8_root wsX8_root) := goodIn_app (goodIn_of _ (by decide +kernel)) ggX8_allOf_X8_root
theorem dX8_allOf_8 : decode cX8_allOf 8 = .ok (.invokevirtual 95, 3) := by decide +kernel
theorem dX8_allOf_11 : decode cX8_allOf 11 = .ok (.istore 4, 2) := by decide +kernel
theorem dX8_allOf_13 : decode cX8_allOf 13 = .ok (.iconst 0, 1) := by decide +kernel
theorem dX8_allOf_14 : decode cX8_allOf 14 = .ok (.istore 5, 2) := by decide +kernel
theorem dX8_allOf_16 : decode cX8_allOf 16 = .ok (.iload 5, 2) := by decide +kernel
theorem dX8_allOf_18 : decode cX8_allOf 18 = .ok (.iload_n 3, 1) := by decide +kernel
theorem dX8_allOf_19 : decode cX8_allOf 19 = .ok (.if_icmp .ge 54, 3) := by decide +kernel
theorem dX8_allOf_73 : decode cX8_allOf 73 = .ok (.iconst 0, 1) := by decide +kernel
theorem dX8_allOf_74 : decode cX8_allOf 74 = .ok (.istore 5, 2) := by decide +kernel
theorem dX8_allOf_76 : decode cX8_allOf 76 = .ok (.iconst 0, 1) := by decide +kernel
theorem dX8_allOf_77 : decode cX8_allOf 77 = .ok (.istore 6, 2) := by decide +kernel
theorem dX8_allOf_79 : decode cX8_allOf 79 = .ok (.iload 6, 2) := by decide +kernel
theorem dX8_allOf_81 : decode cX8_allOf 81 = .ok (.iload_n 3, 1) := by decide +kernel
theorem dX8_allOf_82 : decode cX8_allOf 82 = .ok (.if_icmp .ge 148, 3) := by decide +kernel
theorem dX8_allOf_230 : decode cX8_allOf 230 = .ok (.aload_n 0, 1) := by decide +kernel
theorem dX8_allOf_231 : decode cX8_allOf 231 = .ok (.getfield 17, 3) := by decide +kernel
theorem dX8_allOf_234 : decode cX8_allOf 234 = .ok (.iload 4, 2) := by decide +kernel
theorem dX8_allOf_236 : decode cX8_allOf 236 = .ok (.iaload, 1) := by decide +kernel
theorem dX8_allOf_237 : decode cX8_allOf 237 = .ok (.iload 5, 2) := by decide +kernel
theorem dX8_allOf_239 : decode cX8_allOf 239 = .ok (.iadd, 1) := by decide +kernel
theorem dX8_allOf_240 : decode cX8_allOf 240 = .ok (.sipush 1000, 3) := by decide +kernel
theorem dX8_allOf_243 : decode cX8_allOf 243 = .ok (.if_icmp .le 19, 3) := by decide +kernel
theorem dX8_allOf_262 : decode cX8_allOf 262 = .ok (.iconst 0, 1) := by decide +kernel
theorem dX8_allOf_263 : decode cX8_allOf 263 = .ok (.istore 6, 2) := by decide +kernel
theorem dX8_allOf_265 : decode cX8_allOf 265 = .ok (.iload 6, 2) := by decide +kernel
theorem dX8_allOf_267 : decode cX8_allOf 267 = .ok (.iload_n 3, 1) := by decide +kernel
theorem dX8_allOf_268 : decode cX8_allOf 268 = .ok (.if_icmp .ge 43, 3) := by decide +kernel
theorem dX8_allOf_311 : decode cX8_allOf 311 = .ok (.iload_n 3, 1) := by decide +kernel
theorem dX8_allOf_312 : decode cX8_allOf 312 = .ok (.i2l, 1) := by decide +kernel
theorem dX8_allOf_313 : decode cX8_allOf 313 = .ok (.lreturn, 1) := by decide +kernel
theorem dX8_allOf_271 : decode cX8_allOf 271 = .ok (.aload_n 0, 1) := by decide +kernel
theorem dX8_allOf_272 : decode cX8_allOf 272 = .ok (.iload_n 1, 1) := by decide +kernel
theorem dX8_allOf_273 : decode cX8_allOf 273 = .ok (.iconst 0, 1) := by decide +kernel
theorem dX8_allOf_274 : decode cX8_allOf 274 = .ok (.aload_n 0, 1) := by decide +kernel
theorem dX8_allOf_275 : decode cX8_allOf 275 = .ok (.getfield 47, 3) := by decide +kernel
theorem dX8_allOf_278 : decode cX8_allOf 278 = .ok (.iload 6, 2) := by decide +kernel
theorem dX8_allOf_280 : decode cX8_allOf 280 = .ok (.iaload, 1) := by decide +kernel
theorem dX8_allOf_281 : decode cX8_allOf 281 = .ok (.aload_n 0, 1) := by decide +kernel
theorem dX8_allOf_282 : decode cX8_allOf 282 = .ok (.getfield 50, 3) := by decide +kernel
theorem dX8_allOf_285 : decode cX8_allOf 285 = .ok (.iload 6, 2) := by decide +kernel
theorem dX8_allOf_287 : decode cX8_allOf 287 = .ok (.iaload, 1) := by decide +kernel
theorem dX8_allOf_288 : decode cX8_allOf 288 = .ok (.aload_n 0, 1) := by decide +kernel
theorem dX8_allOf_289 : decode cX8_allOf 289 = .ok (.iload_n 1, 1) := by decide +kernel
theorem dX8_allOf_290 : decode cX8_allOf 290 = .ok (.aload_n 0, 1) := by decide +kernel
theorem dX8_allOf_291 : decode cX8_allOf 291 = .ok (.getfield 47, 3) := by decide +kernel
theorem dX8_allOf_294 : decode cX8_allOf 294 = .ok (.iload 6, 2) := by decide +kernel
theorem dX8_allOf_296 : decode cX8_allOf 296 = .ok (.iaload, 1) := by decide +kernel
set_option maxRecDepth 20000 in
theorem ggX8_allOf_X8_at : GoodIn wsX8_allOf wsX8_at := goodIn_r _ [56, 5, 3, 4, 11, 12, 13, 9, 14, 15, 21, 22, 23, 24, 25, 26, 27, 28, 29, 30, 31, 32, 33, 34, 35, 36, 37, 38, 39, 40, 41, 42, 43, 44, 16, 17, 18, 19, 20, 112, 113, 114, 115, 116, 117, 118, 119, 120, 121, 122, 123, 124, 125, 126, 127, 128] rfl (by decide +kernel)
set_option maxRecDepth 20000 in
theorem gX8_allOf_X8_at : GoodIn wsX8_allOf (wsV RX8 146 RX8 yX8_at wsX8_at) := goodIn_app (goodIn_of _ (by decide +kernel)) ggX8_allOf_X8_at
theorem dX8_allOf_297 : decode cX8_allOf 297 = .ok (.invokevirtual 146, 3) := by decide +kernel
theorem dX8_allOf_300 : decode cX8_allOf 300 = .ok (.lconst 0, 1) := by decide +kernel
set_option maxRecDepth 20000 in
theorem ggX8_allOf_X8_put : GoodIn wsX8_allOf wsX8_put := goodIn_r _ [69, 70, 5, 20, 11, 12, 13, 9, 14, 3, 15, 21, 22, 23, 24, 25, 26, 27, 28, 29, 30, 31, 4, 32, 33, 34, 35, 36, 37, 38, 39, 40, 41, 42, 43, 44, 57, 58, 59, 60, 61, 62, 63, 64, 65, 71, 72, 73, 74, 75, 76, 77, 78, 79, 16, 17, 18, 19, 80, 81, 82, 83, 84, 85, 86, 49, 50, 51, 52, 87, 88, 89, 90, 91, 92, 93, 94, 95, 96, 97, 98, 99, 100, 101, 102, 103, 104, 105, 106, 107, 108, 109, 110, 111, 112, 113, 114, 115, 116, 117, 118, 119, 120, 121, 122, 123, 124, 125, 126, 127, 128] rfl (by decide +kernel)
set_option maxRecDepth 20000 in
theorem gX8_allOf_X8_put : GoodIn wsX8_allOf (wsV RX8 151 RX8 yX8_put wsX8_put) := goodIn_app (goodIn_of _ (by decide +kernel)) ggX8_allOf_X8_put
theorem dX8_allOf_301 : decode cX8_allOf 301 = .ok (.invokevirtual 151, 3) := by decide +kernel
theorem dX8_allOf_304 : decode cX8_allOf 304 = .ok (.pop2, 1) := by decide +kernel
theorem dX8_allOf_305 : decode cX8_allOf 305 = .ok (.iinc 6 1, 3) := by decide +kernel
theorem dX8_allOf_308 : decode cX8_allOf 308 = .ok (.goto (-43), 3) := by decide +kernel
theorem dX8_allOf_246 : decode cX8_allOf 246 = .ok (.aload_n 0, 1) := by decide +kernel
theorem dX8_allOf_247 : decode cX8_allOf 247 = .ok (.iload 4, 2) := by decide +kernel
set_option maxRecDepth 20000 in
theorem ggX8_allOf_X8_isLimited : GoodIn wsX8_allOf wsX8_isLimited := goodIn_r _ [65, 3, 4, 112, 113, 114, 115, 116, 117, 118, 119, 120, 121, 122, 123, 124, 125, 126, 127, 128] rfl (by decide +kernel)
set_option maxRecDepth 20000 in
theorem gX8_allOf_X8_isLimited : GoodIn wsX8_allOf (wsV RX8 182 RX8 yX8_isLimited wsX8_isLimited) := goodIn_app (goodIn_of _ (by decide +kernel)) ggX8_allOf_X8_isLimited
theorem dX8_allOf_249 : decode cX8_allOf 249 = .ok (.invokevirtual 182, 3) := by decide +kernel
theorem dX8_allOf_252 : decode cX8_allOf 252 = .ok (.ifCond .ne 10, 3) := by decide +kernel
theorem dX8_allOf_255 : decode cX8_allOf 255 = .ok (.aload_n 0, 1) := by decide +kernel
theorem dX8_allOf_256 : decode cX8_allOf 256 = .ok (.iconst 4, 1) := by decide +kernel
set_option maxRecDepth 20000 in
theorem ggX8_allOf_X8_refuse : GoodIn wsX8_allOf wsX8_refuse := goodIn_r _ [60, 61, 112, 113, 114, 115, 116, 117, 118, 119, 120, 121, 122, 123, 124, 125, 126, 127, 128] rfl (by decide +kernel)
set_option maxRecDepth 20000 in
theorem gX8_allOf_X8_refuse : GoodIn wsX8_allOf (wsV RX8 68 RX8 yX8_refuse wsX8_refuse) := goodIn_app (goodIn_of _ (by decide +kernel)) ggX8_allOf_X8_refuse
theorem dX8_allOf_257 : decode cX8_allOf 257 = .ok (.invokevirtual 68, 3) := by decide +kernel
theorem dX8_allOf_260 : decode cX8_allOf 260 = .ok (.i2l, 1) := by decide +kernel
theorem dX8_allOf_261 : decode cX8_allOf 261 = .ok (.lreturn, 1) := by decide +kernel
theorem dX8_allOf_85 : decode cX8_allOf 85 = .ok (.aload_n 0, 1) := by decide +kernel
theorem dX8_allOf_86 : decode cX8_allOf 86 = .ok (.iload_n 1, 1) := by decide +kernel
theorem dX8_allOf_87 : decode cX8_allOf 87 = .ok (.aload_n 0, 1) := by decide +kernel
theorem dX8_allOf_88 : decode cX8_allOf 88 = .ok (.getfield 47, 3) := by decide +kernel
theorem dX8_allOf_91 : decode cX8_allOf 91 = .ok (.iload 6, 2) := by decide +kernel
theorem dX8_allOf_93 : decode cX8_allOf 93 = .ok (.iaload, 1) := by decide +kernel
theorem dX8_allOf_94 : decode cX8_allOf 94 = .ok (.invokevirtual 146, 3) := by decide +kernel
theorem dX8_allOf_97 : decode cX8_allOf 97 = .ok (.ifCond .lt 6, 3) := by decide +kernel
theorem dX8_allOf_103 : decode cX8_allOf 103 = .ok (.aload_n 0, 1) := by decide +kernel
theorem dX8_allOf_104 : decode cX8_allOf 104 = .ok (.iload_n 1, 1) := by decide +kernel
theorem dX8_allOf_105 : decode cX8_allOf 105 = .ok (.aload_n 0, 1) := by decide +kernel
theorem dX8_allOf_106 : decode cX8_allOf 106 = .ok (.getfield 47, 3) := by decide +kernel
theorem dX8_allOf_109 : decode cX8_allOf 109 = .ok (.iload 6, 2) := by decide +kernel
theorem dX8_allOf_111 : decode cX8_allOf 111 = .ok (.iaload, 1) := by decide +kernel
set_option maxRecDepth 20000 in
theorem ggX8_allOf_X8_isWithin : GoodIn wsX8_allOf wsX8_isWithin := goodIn_r _ [24, 3, 15, 25, 26, 27, 28, 29, 30, 9, 31, 4, 11, 12, 13, 14, 32, 33, 34, 35, 36, 37, 38, 39, 40, 41, 42, 43, 44, 112, 113, 114, 115, 116, 117, 118, 119, 120, 121, 122, 123, 124, 125, 126, 127, 128] rfl (by decide +kernel)
set_option maxRecDepth 20000 in
theorem gX8_allOf_X8_isWithin : GoodIn wsX8_allOf (wsV RX8 108 RX8 yX8_isWithin wsX8_isWithin) := goodIn_app (goodIn_of _ (by decide +kernel)) ggX8_allOf_X8_isWithin
theorem dX8_allOf_112 : decode cX8_allOf 112 = .ok (.invokevirtual 108, 3) := by decide +kernel
theorem dX8_allOf_115 : decode cX8_allOf 115 = .ok (.ifCond .ne 10, 3) := by decide +kernel
theorem dX8_allOf_125 : decode cX8_allOf 125 = .ok (.iconst 0, 1) := by decide +kernel
theorem dX8_allOf_126 : decode cX8_allOf 126 = .ok (.istore 7, 2) := by decide +kernel
theorem dX8_allOf_128 : decode cX8_allOf 128 = .ok (.iconst 0, 1) := by decide +kernel
theorem dX8_allOf_129 : decode cX8_allOf 129 = .ok (.istore 8, 2) := by decide +kernel
theorem dX8_allOf_131 : decode cX8_allOf 131 = .ok (.iload 8, 2) := by decide +kernel
theorem dX8_allOf_133 : decode cX8_allOf 133 = .ok (.iload 6, 2) := by decide +kernel
theorem dX8_allOf_135 : decode cX8_allOf 135 = .ok (.if_icmp .ge 74, 3) := by decide +kernel
theorem dX8_allOf_209 : decode cX8_allOf 209 = .ok (.iload 5, 2) := by decide +kernel
theorem dX8_allOf_211 : decode cX8_allOf 211 = .ok (.iload 7, 2) := by decide +kernel
theorem dX8_allOf_213 : decode cX8_allOf 213 = .ok (.ifCond .eq 7, 3) := by decide +kernel
theorem dX8_allOf_220 : decode cX8_allOf 220 = .ok (.iconst 1, 1) := by decide +kernel
theorem dX8_allOf_221 : decode cX8_allOf 221 = .ok (.iadd, 1) := by decide +kernel
theorem dX8_allOf_222 : decode cX8_allOf 222 = .ok (.istore 5, 2) := by decide +kernel
theorem dX8_allOf_224 : decode cX8_allOf 224 = .ok (.iinc 6 1, 3) := by decide +kernel
theorem dX8_allOf_227 : decode cX8_allOf 227 = .ok (.goto (-148), 3) := by decide +kernel
theorem dX8_allOf_216 : decode cX8_allOf 216 = .ok (.iconst 0, 1) := by decide +kernel
theorem dX8_allOf_217 : decode cX8_allOf 217 = .ok (.goto 4, 3) := by decide +kernel
theorem dX8_allOf_138 : decode cX8_allOf 138 = .ok (.iload 7, 2) := by decide +kernel
theorem dX8_allOf_140 : decode cX8_allOf 140 = .ok (.ifCond .ne 69, 3) := by decide +kernel
theorem dX8_allOf_143 : decode cX8_allOf 143 = .ok (.aload_n 0, 1) := by decide +kernel
theorem dX8_allOf_144 : decode cX8_allOf 144 = .ok (.getfield 7, 3) := by decide +kernel
theorem dX8_allOf_147 : decode cX8_allOf 147 = .ok (.iload 4, 2) := by decide +kernel
theorem dX8_allOf_149 : decode cX8_allOf 149 = .ok (.iaload, 1) := by decide +kernel
theorem dX8_allOf_150 : decode cX8_allOf 150 = .ok (.iconst 3, 1) := by decide +kernel
theorem dX8_allOf_151 : decode cX8_allOf 151 = .ok (.if_icmp .ne 49, 3) := by decide +kernel
theorem dX8_allOf_200 : decode cX8_allOf 200 = .ok (.iconst 0, 1) := by decide +kernel
theorem dX8_allOf_201 : decode cX8_allOf 201 = .ok (.istore 7, 2) := by decide +kernel
theorem dX8_allOf_203 : decode cX8_allOf 203 = .ok (.iinc 8 1, 3) := by decide +kernel
theorem dX8_allOf_206 : decode cX8_allOf 206 = .ok (.goto (-75), 3) := by decide +kernel
theorem dX8_allOf_154 : decode cX8_allOf 154 = .ok (.aload_n 0, 1) := by decide +kernel
theorem dX8_allOf_155 : decode cX8_allOf 155 = .ok (.getfield 20, 3) := by decide +kernel
theorem dX8_allOf_158 : decode cX8_allOf 158 = .ok (.iload 4, 2) := by decide +kernel
theorem dX8_allOf_160 : decode cX8_allOf 160 = .ok (.iaload, 1) := by decide +kernel
theorem dX8_allOf_161 : decode cX8_allOf 161 = .ok (.aload_n 0, 1) := by decide +kernel
theorem dX8_allOf_162 : decode cX8_allOf 162 = .ok (.getfield 47, 3) := by decide +kernel
theorem dX8_allOf_165 : decode cX8_allOf 165 = .ok (.iload 8, 2) := by decide +kernel
theorem dX8_allOf_167 : decode cX8_allOf 167 = .ok (.iaload, 1) := by decide +kernel
theorem dX8_allOf_168 : decode cX8_allOf 168 = .ok (.aload_n 0, 1) := by decide +kernel
theorem dX8_allOf_169 : decode cX8_allOf 169 = .ok (.getfield 47, 3) := by decide +kernel
theorem dX8_allOf_172 : decode cX8_allOf 172 = .ok (.iload 6, 2) := by decide +kernel
theorem dX8_allOf_174 : decode cX8_allOf 174 = .ok (.iaload, 1) := by decide +kernel
set_option maxRecDepth 20000 in
theorem ggX8_allOf_X8_compare : GoodIn wsX8_allOf wsX8_compare := goodIn_r _ [34, 35, 36, 9, 37, 38, 39, 40] rfl (by decide +kernel)
set_option maxRecDepth 20000 in
theorem gX8_allOf_X8_compare : GoodIn wsX8_allOf (va_wsS RX8 98 yX8_compare wsX8_compare) := goodIn_app (goodIn_of _ (by decide +kernel)) ggX8_allOf_X8_compare
theorem dX8_allOf_175 : decode cX8_allOf 175 = .ok (.invokestatic 98, 3) := by decide +kernel
theorem dX8_allOf_178 : decode cX8_allOf 178 = .ok (.ifCond .ne 22, 3) := by decide +kernel
theorem dX8_allOf_181 : decode cX8_allOf 181 = .ok (.aload_n 0, 1) := by decide +kernel
theorem dX8_allOf_182 : decode cX8_allOf 182 = .ok (.iload_n 1, 1) := by decide +kernel
theorem dX8_allOf_183 : decode cX8_allOf 183 = .ok (.aload_n 0, 1) := by decide +kernel
theorem dX8_allOf_184 : decode cX8_allOf 184 = .ok (.getfield 47, 3) := by decide +kernel
theorem dX8_allOf_187 : decode cX8_allOf 187 = .ok (.iload 8, 2) := by decide +kernel
theorem dX8_allOf_189 : decode cX8_allOf 189 = .ok (.iaload, 1) := by decide +kernel
theorem dX8_allOf_190 : decode cX8_allOf 190 = .ok (.invokevirtual 146, 3) := by decide +kernel
theorem dX8_allOf_193 : decode cX8_allOf 193 = .ok (.ifCond .ge 7, 3) := by decide +kernel
theorem dX8_allOf_196 : decode cX8_allOf 196 = .ok (.iconst 1, 1) := by decide +kernel
theorem dX8_allOf_197 : decode cX8_allOf 197 = .ok (.goto 4, 3) := by decide +kernel
theorem dX8_allOf_118 : decode cX8_allOf 118 = .ok (.aload_n 0, 1) := by decide +kernel
theorem dX8_allOf_119 : decode cX8_allOf 119 = .ok (.iconst 3, 1) := by decide +kernel
theorem dX8_allOf_120 : decode cX8_allOf 120 = .ok (.invokevirtual 68, 3) := by decide +kernel
theorem dX8_allOf_123 : decode cX8_allOf 123 = .ok (.i2l, 1) := by decide +kernel
theorem dX8_allOf_124 : decode cX8_allOf 124 = .ok (.lreturn, 1) := by decide +kernel
theorem dX8_allOf_100 : decode cX8_allOf 100 = .ok (.goto 124, 3) := by decide +kernel
theorem dX8_allOf_22 : decode cX8_allOf 22 = .ok (.aload_n 0, 1) := by decide +kernel
theorem dX8_allOf_23 : decode cX8_allOf 23 = .ok (.iload_n 2, 1) := by decide +kernel
theorem dX8_allOf_24 : decode cX8_allOf 24 = .ok (.iload 5, 2) := by decide +kernel
set_option maxRecDepth 20000 in
theorem ggX8_allOf_X8_nth : GoodIn wsX8_allOf wsX8_nth := goodIn_r _ [48, 5, 11, 12, 13, 9, 14, 3, 15, 41, 42, 43, 44, 25, 16, 17, 18, 19, 20, 21, 22, 23, 24, 26, 27, 28, 29, 30, 31, 4, 32, 33, 34, 35, 36, 37, 38, 39, 40, 112, 113, 114, 115, 116, 117, 118, 119, 120, 121, 122, 123, 124, 125, 126, 127, 128] rfl (by decide +kernel)
set_option maxRecDepth 20000 in
theorem gX8_allOf_X8_nth : GoodIn wsX8_allOf (wsV RX8 188 RX8 yX8_nth wsX8_nth) := goodIn_app (goodIn_of _ (by decide +kernel)) ggX8_allOf_X8_nth
theorem dX8_allOf_26 : decode cX8_allOf 26 = .ok (.invokevirtual 188, 3) := by decide +kernel
theorem dX8_allOf_29 : decode cX8_allOf 29 = .ok (.istore 6, 2) := by decide +kernel
theorem dX8_allOf_31 : decode cX8_allOf 31 = .ok (.aload_n 0, 1) := by decide +kernel
theorem dX8_allOf_32 : decode cX8_allOf 32 = .ok (.getfield 47, 3) := by decide +kernel
theorem dX8_allOf_35 : decode cX8_allOf 35 = .ok (.iload 5, 2) := by decide +kernel
theorem dX8_allOf_37 : decode cX8_allOf 37 = .ok (.aload_n 0, 1) := by decide +kernel
theorem dX8_allOf_38 : decode cX8_allOf 38 = .ok (.aload_n 0, 1) := by decide +kernel
theorem dX8_allOf_39 : decode cX8_allOf 39 = .ok (.iload_n 2, 1) := by decide +kernel
theorem dX8_allOf_40 : decode cX8_allOf 40 = .ok (.invokevirtual 95, 3) := by decide +kernel
theorem dX8_allOf_43 : decode cX8_allOf 43 = .ok (.iload 6, 2) := by decide +kernel
set_option maxRecDepth 20000 in
theorem ggX8_allOf_X8_key : GoodIn wsX8_allOf wsX8_key := goodIn_r _ [19, 20, 112, 113, 114, 115, 116, 117, 118, 119, 120, 121, 122, 123, 124, 125, 126, 127, 128] rfl (by decide +kernel)
set_option maxRecDepth 20000 in
theorem gX8_allOf_X8_key : GoodIn wsX8_allOf (wsV RX8 111 RX8 yX8_key wsX8_key) := goodIn_app (goodIn_of _ (by decide +kernel)) ggX8_allOf_X8_key
theorem dX8_allOf_45 : decode cX8_allOf 45 = .ok (.invokevirtual 111, 3) := by decide +kernel
theorem dX8_allOf_48 : decode cX8_allOf 48 = .ok (.iastore, 1) := by decide +kernel
theorem dX8_allOf_49 : decode cX8_allOf 49 = .ok (.aload_n 0, 1) := by decide +kernel
theorem dX8_allOf_50 : decode cX8_allOf 50 = .ok (.getfield 50, 3) := by decide +kernel
theorem dX8_allOf_53 : decode cX8_allOf 53 = .ok (.iload 5, 2) := by decide +kernel
theorem dX8_allOf_55 : decode cX8_allOf 55 = .ok (.aload_n 0, 1) := by decide +kernel
theorem dX8_allOf_56 : decode cX8_allOf 56 = .ok (.aload_n 0, 1) := by decide +kernel
theorem dX8_allOf_57 : decode cX8_allOf 57 = .ok (.iload_n 2, 1) := by decide +kernel
theorem dX8_allOf_58 : decode cX8_allOf 58 = .ok (.invokevirtual 95, 3) := by decide +kernel
theorem dX8_allOf_61 : decode cX8_allOf 61 = .ok (.iload 6, 2) := by decide +kernel
set_option maxRecDepth 20000 in
theorem ggX8_allOf_X8_value : GoodIn wsX8_allOf wsX8_value := goodIn_r _ [52, 20, 112, 113, 114, 115, 116, 117, 118, 119, 120, 121, 122, 123, 124, 125, 126, 127, 128] rfl (by decide +kernel)
set_option maxRecDepth 20000 in
theorem gX8_allOf_X8_value : GoodIn wsX8_allOf (wsV RX8 118 RX8 yX8_value wsX8_value) := goodIn_app (goodIn_of _ (by decide +kernel)) ggX8_allOf_X8_value
theorem dX8_allOf_63 : decode cX8_allOf 63 = .ok (.invokevirtual 118, 3) := by decide +kernel
theorem dX8_allOf_66 : decode cX8_allOf 66 = .ok (.iastore, 1) := by decide +kernel
theorem dX8_allOf_67 : decode cX8_allOf 67 = .ok (.iinc 5 1, 3) := by decide +kernel
theorem dX8_allOf_70 : decode cX8_allOf 70 = .ok (.goto (-54), 3) := by decide +kernel
set_option maxHeartbeats 4000000 in
set_option maxRecDepth 100000 in
/-- allOf -/
theorem c_X8_allOf (l : Launch) (dC : Nat → ClassId) (dI : Nat → Nat → Nat) (sz : Nat) (h0 : Nat) (th : Int32) (q1 : Nat) (q2 : Nat) (q3 : Nat) (q4 : Nat) (q5 : Nat) (q6 : Nat) (q7 : Nat) (q8 : Nat) (q9 : Nat) (q10 : Nat) (q11 : Nat) (q13 : Nat) (q14 : Nat) (q15 : Nat) (c1 : ClassId) (c2 : ClassId) (c3 : ClassId) (c4 : ClassId) (c5 : ClassId) (c6 : ClassId) (c7 : ClassId) (c8 : ClassId) (c9 : ClassId) (c10 : ClassId) (c11 : ClassId) (c13 : ClassId) (c14 : ClassId) (c15 : ClassId) (a1 : Nat → Int32) (a2 : Nat → Int32) (a3 : Nat → Int32) (a4 : Nat → Int32) (a5 : Nat → Int32) (a6 : Nat → Int32) (a7 : Nat → Int32) (a8 : Nat → Int32) (a9 : Nat → Int32) (a10 : Nat → Int32) (a11 : Nat → Int32) (a13 : Nat → Int32) (a14 : Nat → Int32) (a15 : Nat → Int32) (v12 : Value) (v16 : Value) (o : Nat) (dep : Nat → Nat) (r : Nat) (o2 : Nat) (r2 : Nat) (ho9 : o < 16) (hF9 : rF a1 a8 dep) (hd9 : dep o < 17) (hrt9 : rtN a1 a8 17 o = r) (hM9 : mOK (a1 r) (a4 r) (a3 r) (a6 r)) (hkd9 : 1 ≤ (a1 r).toInt ∧ (a1 r).toInt ≤ 3) (ho8 : o2 < 16) (hd8 : dep o2 < 17) (hrt8 : rtN a1 a8 17 o2 = r2) (hM2 : mOK (a1 r2) (a4 r2) (a3 r2) (a6 r2)) : Met l yX8_allOf wsX8_allOf ({ frames := 7, cells := 0, slots := 0, locals := 290 }) (va_Pc [.ref h0, .int (nI o), .int (nI o2)] (pk_Pre (dC, dI) [(h0, .inr (8, [.int th, .ref q1, .ref q2, .ref q3, .ref q4, .ref q5, .ref q6, .ref q7, .ref q8, .ref q9, .ref q10, .ref q11, v12, .ref q13, .ref q14, .ref q15, v16])), (q1, .inl (c1, 16, .inl a1)), (q2, .inl (c2, 67200, .inl a2)), (q3, .inl (c3, 16, .inl a3)), (q4, .inl (c4, 16, .inl a4)), (q5, .inl (c5, 16, .inl a5)), (q6, .inl (c6, 16, .inl a6)), (q7, .inl (c7, 16, .inl a7)), (q8, .inl (c8, 16, .inl a8)), (q9, .inl (c9, 16, .inl a9)), (q10, .inl (c10, 16, .inl a10)), (q11, .inl (c11, 16, .inl a11)), (q13, .inl (c13, 1000, .inl a13)), (q14, .inl (c14, 1000, .inl a14)), (q15, .inl (c15, 4096, .inl a15))] [(c1, .int), (c2, .int), (c3, .int), (c4, .int), (c5, .int), (c6, .int), (c7, .int), (c8, .int), (c9, .int), (c10, .int), (c11, .int), (c13, .int), (c14, .int), (c15, .boolean)] sz)) (va_Ql (fun (x : Int64) (u : Int32 × (Nat → Int32) × (Nat → Int32) × (Nat → Int32) × (Nat → Int32) × (Nat → Int32) × (Nat → Int32) × (Nat → Int32)) => (∃ d : Nat, d ≤ 2000 ∧ rsR r d a2 a3 a6 a7 u.2.1 u.2.2.1 u.2.2.2.1 u.2.2.2.2.1) ∧ mOK (a1 r) (a4 r) (u.2.2.1 r) (u.2.2.2.1 r)) (fun (u : Int32 × (Nat → Int32) × (Nat → Int32) × (Nat → Int32) × (Nat → Int32) × (Nat → Int32) × (Nat → Int32) × (Nat → Int32)) (t : State) => va_P (dC, dI) vwCl [(h0, .inr (8, [.int u.1, .ref q1, .ref q2, .ref q3, .ref q4, .ref q5, .ref q6, .ref q7, .ref q8, .ref q9, .ref q10, .ref q11, v12, .ref q13, .ref q14, .ref q15, v16])), (q1, .inl (c1, 16, .inl a1)), (q2, .inl (c2, 67200, .inl u.2.1)), (q3, .inl (c3, 16, .inl u.2.2.1)), (q4, .inl (c4, 16, .inl a4)), (q5, .inl (c5, 16, .inl a5)), (q6, .inl (c6, 16, .inl u.2.2.2.1)), (q7, .inl (c7, 16, .inl u.2.2.2.2.1)), (q8, .inl (c8, 16, .inl a8)), (q9, .inl (c9, 16, .inl a9)), (q10, .inl (c10, 16, .inl a10)), (q11, .inl (c11, 16, .inl a11)), (q13, .inl (c13, 1000, .inl u.2.2.2.2.2.1)), (q14, .inl (c14, 1000, .inl u.2.2.2.2.2.2.1)), (q15, .inl (c15, 4096, .inl u.2.2.2.2.2.2.2))] t.heap ∧ va_K (dC, dI) vwCl [(c1, .int), (c2, .int), (c3, .int), (c4, .int), (c5, .int), (c6, .int), (c7, .int), (c8, .int), (c9, .int), (c10, .int), (c11, .int), (c13, .int), (c14, .int), (c15, .boolean)] t ∧ va_D (va_A [(h0, .inr (8, [.int th, .ref q1, .ref q2, .ref q3, .ref q4, .ref q5, .ref q6, .ref q7, .ref q8, .ref q9, .ref q10, .ref q11, v12, .ref q13, .ref q14, .ref q15, v16])), (q1, .inl (c1, 16, .inl a1)), (q2, .inl (c2, 67200, .inl a2)), (q3, .inl (c3, 16, .inl a3)), (q4, .inl (c4, 16, .inl a4)), (q5, .inl (c5, 16, .inl a5)), (q6, .inl (c6, 16, .inl a6)), (q7, .inl (c7, 16, .inl a7)), (q8, .inl (c8, 16, .inl a8)), (q9, .inl (c9, 16, .inl a9)), (q10, .inl (c10, 16, .inl a10)), (q11, .inl (c11, 16, .inl a11)), (q13, .inl (c13, 1000, .inl a13)), (q14, .inl (c14, 1000, .inl a14)), (q15, .inl (c15, 4096, .inl a15))] sz) [(h0, .inr (8, [.int u.1, .ref q1, .ref q2, .ref q3, .ref q4, .ref q5, .ref q6, .ref q7, .ref q8, .ref q9, .ref q10, .ref q11, v12, .ref q13, .ref q14, .ref q15, v16])), (q1, .inl (c1, 16, .inl a1)), (q2, .inl (c2, 67200, .inl u.2.1)), (q3, .inl (c3, 16, .inl u.2.2.1)), (q4, .inl (c4, 16, .inl a4)), (q5, .inl (c5, 16, .inl a5)), (q6, .inl (c6, 16, .inl u.2.2.2.1)), (q7, .inl (c7, 16, .inl u.2.2.2.2.1)), (q8, .inl (c8, 16, .inl a8)), (q9, .inl (c9, 16, .inl a9)), (q10, .inl (c10, 16, .inl a10)), (q11, .inl (c11, 16, .inl a11)), (q13, .inl (c13, 1000, .inl u.2.2.2.2.2.1)), (q14, .inl (c14, 1000, .inl u.2.2.2.2.2.2.1)), (q15, .inl (c15, 4096, .inl u.2.2.2.2.2.2.2))]) (va_A [(h0, .inr (8, [.int th, .ref q1, .ref q2, .ref q3, .ref q4, .ref q5, .ref q6, .ref q7, .ref q8, .ref q9, .ref q10, .ref q11, v12, .ref q13, .ref q14, .ref q15, v16])), (q1, .inl (c1, 16, .inl a1)), (q2, .inl (c2, 67200, .inl a2)), (q3, .inl (c3, 16, .inl a3)), (q4, .inl (c4, 16, .inl a4)), (q5, .inl (c5, 16, .inl a5)), (q6, .inl (c6, 16, .inl a6)), (q7, .inl (c7, 16, .inl a7)), (q8, .inl (c8, 16, .inl a8)), (q9, .inl (c9, 16, .inl a9)), (q10, .inl (c10, 16, .inl a10)), (q11, .inl (c11, 16, .inl a11)), (q13, .inl (c13, 1000, .inl a13)), (q14, .inl (c14, 1000, .inl a14)), (q15, .inl (c15, 4096, .inl a15))] sz)) 0 0 (va_A [(h0, .inr (8, [.int th, .ref q1, .ref q2, .ref q3, .ref q4, .ref q5, .ref q6, .ref q7, .ref q8, .ref q9, .ref q10, .ref q11, v12, .ref q13, .ref q14, .ref q15, v16])), (q1, .inl (c1, 16, .inl a1)), (q2, .inl (c2, 67200, .inl a2)), (q3, .inl (c3, 16, .inl a3)), (q4, .inl (c4, 16, .inl a4)), (q5, .inl (c5, 16, .inl a5)), (q6, .inl (c6, 16, .inl a6)), (q7, .inl (c7, 16, .inl a7)), (q8, .inl (c8, 16, .inl a8)), (q9, .inl (c9, 16, .inl a9)), (q10, .inl (c10, 16, .inl a10)), (q11, .inl (c11, 16, .inl a11)), (q13, .inl (c13, 1000, .inl a13)), (q14, .inl (c14, 1000, .inl a14)), (q15, .inl (c15, 4096, .inl a15))] sz) := by
  refine Met.ofW (cc := cX8_allOf) (maxL := 9) (ret := (some .long)) (by decide) rfl ?_
  intro p e s m args below meth c s₁ B hml hv
  obtain ⟨rfl, hsz, hP, hK, hD0⟩ := hv
  have hx := B.exec
  have hb := B.bytes
  have hr := B.returns
  have hts := atoms_spec (ws := wsX8_allOf) B.pre
  have hown : s.vm.findClass RX8 = some m.cls := findClass_of_methodNamed B.named
  have hlocks := B.notSynchronized
  subst hsz
  have hD := hD0.self (sz := s.heap.size)
  generalize hAe : va_A [(h0, .inr (8, [.int th, .ref q1, .ref q2, .ref q3, .ref q4, .ref q5, .ref q6, .ref q7, .ref q8, .ref q9, .ref q10, .ref q11, v12, .ref q13, .ref q14, .ref q15, v16])), (q1, .inl (c1, 16, .inl a1)), (q2, .inl (c2, 67200, .inl a2)), (q3, .inl (c3, 16, .inl a3)), (q4, .inl (c4, 16, .inl a4)), (q5, .inl (c5, 16, .inl a5)), (q6, .inl (c6, 16, .inl a6)), (q7, .inl (c7, 16, .inl a7)), (q8, .inl (c8, 16, .inl a8)), (q9, .inl (c9, 16, .inl a9)), (q10, .inl (c10, 16, .inl a10)), (q11, .inl (c11, 16, .inl a11)), (q13, .inl (c13, 1000, .inl a13)), (q14, .inl (c14, 1000, .inl a14)), (q15, .inl (c15, 4096, .inl a15))] s.heap.size = A at hD ⊢
  have hA : ∀ q : Nat, s.heap.size ≤ q → A q := fun q h => by rw [← hAe]; exact Or.inr h
  have hS : va_S A s.heap s.heap [] := va_S.rf
  have hP : va_P (dC, dI) vwCl [(h0, .inr (8, [.int th, .ref q1, .ref q2, .ref q3, .ref q4, .ref q5, .ref q6, .ref q7, .ref q8, .ref q9, .ref q10, .ref q11, v12, .ref q13, .ref q14, .ref q15, v16])), (q1, .inl (c1, 16, .inl a1)), (q2, .inl (c2, 67200, .inl a2)), (q3, .inl (c3, 16, .inl a3)), (q4, .inl (c4, 16, .inl a4)), (q5, .inl (c5, 16, .inl a5)), (q6, .inl (c6, 16, .inl a6)), (q7, .inl (c7, 16, .inl a7)), (q8, .inl (c8, 16, .inl a8)), (q9, .inl (c9, 16, .inl a9)), (q10, .inl (c10, 16, .inl a10)), (q11, .inl (c11, 16, .inl a11)), (q13, .inl (c13, 1000, .inl a13)), (q14, .inl (c14, 1000, .inl a14)), (q15, .inl (c15, 4096, .inl a15))] s.heap := hP
  have hl := lv_entry ([.ref h0, .int (nI o), .int (nI o2)]) (n := 9) (Nat.le_of_ble_eq_true rfl)
  rw [lg_entry_eq]
  generalize (lg_sl ([.ref h0, .int (nI o), .int (nI o2)]) ++ List.replicate (9 - (lg_sl ([.ref h0, .int (nI o), .int (nI o2)])).length) Slot.unset).toArray = ls at hl ⊢
  have hl : lv_has ls 9 [(0, .ref h0), (1, .int (nI o)), (2, .int (nI o2))] := hl
  have hw0_ := hts (.fieldLink RX8 17 "KeyAtlasModel" "size" "[I") (List.mem_of_getElem? (l := wsX8_allOf) (i := 5) rfl)
  have hw1_ := hts (.fieldLink RX8 47 "KeyAtlasModel" "keys" "[I") (List.mem_of_getElem? (l := wsX8_allOf) (i := 1) rfl)
  have hw2_ := hts (.fieldLink RX8 50 "KeyAtlasModel" "values" "[I") (List.mem_of_getElem? (l := wsX8_allOf) (i := 2) rfl)
  have hw3_ := hts (.fieldLink RX8 7 "KeyAtlasModel" "kind" "[I") (List.mem_of_getElem? (l := wsX8_allOf) (i := 3) rfl)
  have hw4_ := hts (.fieldLink RX8 20 "KeyAtlasModel" "first" "[I") (List.mem_of_getElem? (l := wsX8_allOf) (i := 4) rfl)
  have hi0_ : ∀ w ∈ u_ws RX8 TX8 17, w ∈ wsX8_allOf := fun w h => List.mem_cons_of_mem _ (List.mem_append_right _ h)
  obtain ⟨nz, tb, hs9, hz9, hT9, hM8⟩ := mo_go hM9
  have hn8 : (a3 r).toInt = (nz : Int) := by rw [hs9]; exact nI_toInt (by omega)
  obtain ⟨n2, tb2, hs8, hz8, -, -⟩ := mo_go hM2
  refine lv_aload_n hx hb dX8_allOf_0 rfl (lv_at hl 0 rfl) ?_
  refine lv_iload_n hx hb dX8_allOf_1 rfl (lv_at hl 2 rfl) ?_
  have hPc := hP.sub (ws' := [(h0, .inr (8, [.int th, .ref q1, .ref q2, .ref q3, .ref q4, .ref q5, .ref q6, .ref q7, .ref q8, .ref q9, .ref q10, .ref q11, v12, .ref q13, .ref q14, .ref q15, v16])), (q1, .inl (c1, 16, .inl a1)), (q2, .inl (c2, 67200, .inl a2)), (q3, .inl (c3, 16, .inl a3)), (q4, .inl (c4, 16, .inl a4)), (q8, .inl (c8, 16, .inl a8)), (q9, .inl (c9, 16, .inl a9)), (q10, .inl (c10, 16, .inl a10)), (q11, .inl (c11, 16, .inl a11))]) [0, 1, 2, 3, 4, 8, 9, 10, 11] rfl
  have hDc := hD.sub (ws' := [(h0, .inr (8, [.int th, .ref q1, .ref q2, .ref q3, .ref q4, .ref q5, .ref q6, .ref q7, .ref q8, .ref q9, .ref q10, .ref q11, v12, .ref q13, .ref q14, .ref q15, v16])), (q1, .inl (c1, 16, .inl a1)), (q2, .inl (c2, 67200, .inl a2)), (q3, .inl (c3, 16, .inl a3)), (q4, .inl (c4, 16, .inl a4)), (q8, .inl (c8, 16, .inl a8)), (q9, .inl (c9, 16, .inl a9)), (q10, .inl (c10, 16, .inl a10)), (q11, .inl (c11, 16, .inl a11))]) [0, 1, 2, 3, 4, 8, 9, 10, 11] (by decide) rfl
  have hKc := hK.sub (tys' := [(c1, .int), (c2, .int), (c3, .int), (c4, .int), (c8, .int), (c9, .int), (c10, .int), (c11, .int)]) [0, 1, 2, 3, 7, 8, 9, 10] rfl
  have hFc := va_free (wc := [(h0, .inr (8, [.int th, .ref q1, .ref q2, .ref q3, .ref q4, .ref q5, .ref q6, .ref q7, .ref q8, .ref q9, .ref q10, .ref q11, v12, .ref q13, .ref q14, .ref q15, v16])), (q1, .inl (c1, 16, .inl a1)), (q2, .inl (c2, 67200, .inl a2)), (q3, .inl (c3, 16, .inl a3)), (q4, .inl (c4, 16, .inl a4)), (q8, .inl (c8, 16, .inl a8)), (q9, .inl (c9, 16, .inl a9)), (q10, .inl (c10, 16, .inl a10)), (q11, .inl (c11, 16, .inl a11))]) hD hS hA [0, 1, 2, 3, 4, 8, 9, 10, 11] rfl
  refine va_calli (va_runV (As := [.int (nI o2)]) (rest := []) ⟨hx, hb, hml, hown, hts⟩ (c_X8_entries l  dC dI s.heap.size h0 th q1 q2 q3 q4 q8 q9 q10 q11 c1 c2 c3 c4 c8 c9 c10 c11 a1 a2 a3 a4 a8 a9 a10 a11 (.ref q5) (.ref q6) (.ref q7) v12 (.ref q13) (.ref q14) (.ref q15) v16 o2 dep n2 ho8 hF9 hd8 (by rw [hrt8]; exact hs8) hz8) (cwV 1 hts gX8_allOf_X8_entries rfl rfl rfl (by decide +kernel) ⟨(Nat.le_of_ble_eq_true rfl), (Nat.le_of_ble_eq_true rfl)⟩) ⟨pk_blind, va_recv hKc hPc (ci := 8) (q0 := 0) rfl rfl, pk_call hPc hKc hDc⟩ rfl rfl hl.1 rfl (lv_room (Nat.le_of_ble_eq_true rfl)) dX8_allOf_2 ⟨(Nat.le_of_ble_eq_true rfl), (Nat.le_of_ble_eq_true rfl)⟩) hS (fun q _ h => hFc q h) hFc (fun r_1 ur_1 t H1 locs ht hvm hw hB hz1 hk1 hS => ?_)
  try dsimp only at hw
  obtain ⟨ne, hne⟩ : ∃ n9 : Nat, n9 = cntN (inO a1 a2 a4 a8 a9 a10 a11 o2) n2 := ⟨_, rfl⟩
  have hne2 : ne ≤ n2 := by rw [hne]; exact cnt_le _ _
  obtain ⟨hP1, hK1, hD1⟩ := hB
  rw [ht] at hP1
  have hK1 := va_K.moved hvm.symm hK1
  obtain ⟨hP, hD⟩ := va_join (wr := [(q5, .inl (c5, 16, .inl a5)), (q6, .inl (c6, 16, .inl a6)), (q7, .inl (c7, 16, .inl a7)), (q13, .inl (c13, 1000, .inl a13)), (q14, .inl (c14, 1000, .inl a14)), (q15, .inl (c15, 4096, .inl a15))]) (w1 := [(h0, .inr (8, [.int th, .ref q1, .ref q2, .ref q3, .ref q4, .ref q5, .ref q6, .ref q7, .ref q8, .ref q9, .ref q10, .ref q11, v12, .ref q13, .ref q14, .ref q15, v16])), (q1, .inl (c1, 16, .inl a1)), (q2, .inl (c2, 67200, .inl a2)), (q3, .inl (c3, 16, .inl a3)), (q4, .inl (c4, 16, .inl a4)), (q8, .inl (c8, 16, .inl a8)), (q9, .inl (c9, 16, .inl a9)), (q10, .inl (c10, 16, .inl a10)), (q11, .inl (c11, 16, .inl a11))]) hP hD [0, 1, 2, 3, 4, 8, 9, 10, 11] [5, 6, 7, 12, 13, 14] rfl rfl (by decide) (by decide) hk1 hFc hP1 hD1
  clear hk1 hz1 ht hPc hDc hKc hFc
  generalize H1 = H at hP hS ⊢
  replace hP : va_P (dC, dI) vwCl [(q5, .inl (c5, 16, .inl a5)), (q6, .inl (c6, 16, .inl a6)), (q7, .inl (c7, 16, .inl a7)), (q13, .inl (c13, 1000, .inl a13)), (q14, .inl (c14, 1000, .inl a14)), (q15, .inl (c15, 4096, .inl a15)), (h0, .inr (8, [.int th, .ref q1, .ref q2, .ref q3, .ref q4, .ref q5, .ref q6, .ref q7, .ref q8, .ref q9, .ref q10, .ref q11, v12, .ref q13, .ref q14, .ref q15, v16])), (q1, .inl (c1, 16, .inl a1)), (q2, .inl (c2, 67200, .inl a2)), (q3, .inl (c3, 16, .inl a3)), (q4, .inl (c4, 16, .inl a4)), (q8, .inl (c8, 16, .inl a8)), (q9, .inl (c9, 16, .inl a9)), (q10, .inl (c10, 16, .inl a10)), (q11, .inl (c11, 16, .inl a11))] H := hP
  replace hD : va_D A [(q5, .inl (c5, 16, .inl a5)), (q6, .inl (c6, 16, .inl a6)), (q7, .inl (c7, 16, .inl a7)), (q13, .inl (c13, 1000, .inl a13)), (q14, .inl (c14, 1000, .inl a14)), (q15, .inl (c15, 4096, .inl a15)), (h0, .inr (8, [.int th, .ref q1, .ref q2, .ref q3, .ref q4, .ref q5, .ref q6, .ref q7, .ref q8, .ref q9, .ref q10, .ref q11, v12, .ref q13, .ref q14, .ref q15, v16])), (q1, .inl (c1, 16, .inl a1)), (q2, .inl (c2, 67200, .inl a2)), (q3, .inl (c3, 16, .inl a3)), (q4, .inl (c4, 16, .inl a4)), (q8, .inl (c8, 16, .inl a8)), (q9, .inl (c9, 16, .inl a9)), (q10, .inl (c10, 16, .inl a10)), (q11, .inl (c11, 16, .inl a11))] := hD
  refine W.widen (k := 0) (n := 0) (Nat.le_of_ble_eq_true rfl) (Nat.le_of_ble_eq_true rfl) ?_
  obtain rfl : r_1 = nI ne := by rw [hne]; exact hw
  refine W.eq (g2 := F0 m 5 ls [.int (nI ne)]) rfl ?_
  refine lv_istore_n (lv' := [(3, .int (nI ne)), (0, .ref h0), (1, .int (nI o)), (2, .int (nI o2))]) hx hb dX8_allOf_5 rfl hl (by decide) rfl (fun ls hl => ?_)
  refine lv_aload_n hx hb dX8_allOf_6 rfl (lv_at hl 1 rfl) ?_
  refine lv_iload_n hx hb dX8_allOf_7 rfl (lv_at hl 2 rfl) ?_
  have hPc := hP.sub (ws' := [(h0, .inr (8, [.int th, .ref q1, .ref q2, .ref q3, .ref q4, .ref q5, .ref q6, .ref q7, .ref q8, .ref q9, .ref q10, .ref q11, v12, .ref q13, .ref q14, .ref q15, v16])), (q1, .inl (c1, 16, .inl a1)), (q8, .inl (c8, 16, .inl a8))]) [6, 7, 11] rfl
  have hDc := hD.sub (ws' := [(h0, .inr (8, [.int th, .ref q1, .ref q2, .ref q3, .ref q4, .ref q5, .ref q6, .ref q7, .ref q8, .ref q9, .ref q10, .ref q11, v12, .ref q13, .ref q14, .ref q15, v16])), (q1, .inl (c1, 16, .inl a1)), (q8, .inl (c8, 16, .inl a8))]) [6, 7, 11] (by decide) rfl
  have hKc := hK.sub (tys' := [(c1, .int), (c8, .int)]) [0, 7] rfl
  have hFc := va_free (wc := [(h0, .inr (8, [.int th, .ref q1, .ref q2, .ref q3, .ref q4, .ref q5, .ref q6, .ref q7, .ref q8, .ref q9, .ref q10, .ref q11, v12, .ref q13, .ref q14, .ref q15, v16])), (q1, .inl (c1, 16, .inl a1)), (q8, .inl (c8, 16, .inl a8))]) hD hS hA [6, 7, 11] rfl
  refine va_calli (va_runV (As := [.int (nI o)]) (rest := []) ⟨hx, hb, hml, hown, hts⟩ (c_X8_root l  dC dI H.size h0 th q1 q8 c1 c8 a1 a8 (.ref q2) (.ref q3) (.ref q4) (.ref q5) (.ref q6) (.ref q7) (.ref q9) (.ref q10) (.ref q11) v12 (.ref q13) (.ref q14) (.ref q15) v16 o dep ho9 hF9 hd9) (cwV 1 hts gX8_allOf_X8_root rfl rfl rfl (by decide +kernel) ⟨(Nat.le_of_ble_eq_true rfl), (Nat.le_of_ble_eq_true rfl)⟩) ⟨pk_blind, va_recv hKc hPc (ci := 8) (q0 := 0) rfl rfl, pk_call hPc hKc hDc⟩ rfl rfl hl.1 rfl (lv_room (Nat.le_of_ble_eq_true rfl)) dX8_allOf_8 ⟨(Nat.le_of_ble_eq_true rfl), (Nat.le_of_ble_eq_true rfl)⟩) hS (fun q _ h => hFc q h) hFc (fun r_2 ur_2 t H1 locs ht hvm hw hB hz1 hk1 hS => ?_)
  try dsimp only at hw
  obtain ⟨er_2, hr9, hr8⟩ := hw
  rw [hrt9] at er_2 hr9 hr8
  obtain ⟨hP1, hK1, hD1⟩ := hB
  rw [ht] at hP1
  have hK1 := va_K.moved hvm.symm hK1
  obtain ⟨hP, hD⟩ := va_join (wr := [(q5, .inl (c5, 16, .inl a5)), (q6, .inl (c6, 16, .inl a6)), (q7, .inl (c7, 16, .inl a7)), (q13, .inl (c13, 1000, .inl a13)), (q14, .inl (c14, 1000, .inl a14)), (q15, .inl (c15, 4096, .inl a15)), (q2, .inl (c2, 67200, .inl a2)), (q3, .inl (c3, 16, .inl a3)), (q4, .inl (c4, 16, .inl a4)), (q9, .inl (c9, 16, .inl a9)), (q10, .inl (c10, 16, .inl a10)), (q11, .inl (c11, 16, .inl a11))]) (w1 := [(h0, .inr (8, [.int th, .ref q1, .ref q2, .ref q3, .ref q4, .ref q5, .ref q6, .ref q7, .ref q8, .ref q9, .ref q10, .ref q11, v12, .ref q13, .ref q14, .ref q15, v16])), (q1, .inl (c1, 16, .inl a1)), (q8, .inl (c8, 16, .inl a8))]) hP hD [6, 7, 11] [0, 1, 2, 3, 4, 5, 8, 9, 10, 12, 13, 14] rfl rfl (by decide) (by decide) hk1 hFc hP1 hD1
  clear hk1 hz1 ht hPc hDc hKc hFc
  generalize H1 = H at hP hS ⊢
  replace hP : va_P (dC, dI) vwCl [(q5, .inl (c5, 16, .inl a5)), (q6, .inl (c6, 16, .inl a6)), (q7, .inl (c7, 16, .inl a7)), (q13, .inl (c13, 1000, .inl a13)), (q14, .inl (c14, 1000, .inl a14)), (q15, .inl (c15, 4096, .inl a15)), (q2, .inl (c2, 67200, .inl a2)), (q3, .inl (c3, 16, .inl a3)), (q4, .inl (c4, 16, .inl a4)), (q9, .inl (c9, 16, .inl a9)), (q10, .inl (c10, 16, .inl a10)), (q11, .inl (c11, 16, .inl a11)), (h0, .inr (8, [.int th, .ref q1, .ref q2, .ref q3, .ref q4, .ref q5, .ref q6, .ref q7, .ref q8, .ref q9, .ref q10, .ref q11, v12, .ref q13, .ref q14, .ref q15, v16])), (q1, .inl (c1, 16, .inl a1)), (q8, .inl (c8, 16, .inl a8))] H := hP
  replace hD : va_D A [(q5, .inl (c5, 16, .inl a5)), (q6, .inl (c6, 16, .inl a6)), (q7, .inl (c7, 16, .inl a7)), (q13, .inl (c13, 1000, .inl a13)), (q14, .inl (c14, 1000, .inl a14)), (q15, .inl (c15, 4096, .inl a15)), (q2, .inl (c2, 67200, .inl a2)), (q3, .inl (c3, 16, .inl a3)), (q4, .inl (c4, 16, .inl a4)), (q9, .inl (c9, 16, .inl a9)), (q10, .inl (c10, 16, .inl a10)), (q11, .inl (c11, 16, .inl a11)), (h0, .inr (8, [.int th, .ref q1, .ref q2, .ref q3, .ref q4, .ref q5, .ref q6, .ref q7, .ref q8, .ref q9, .ref q10, .ref q11, v12, .ref q13, .ref q14, .ref q15, v16])), (q1, .inl (c1, 16, .inl a1)), (q8, .inl (c8, 16, .inl a8))] := hD
  refine W.widen (k := 0) (n := 0) (Nat.le_of_ble_eq_true rfl) (Nat.le_of_ble_eq_true rfl) ?_
  subst er_2
  refine W.eq (g2 := F0 m 11 ls [.int (nI r)]) rfl ?_
  refine lv_istore (lv' := [(4, .int (nI r)), (3, .int (nI ne)), (0, .ref h0), (1, .int (nI o)), (2, .int (nI o2))]) hx hb dX8_allOf_11 hl (by decide) rfl (fun ls hl => ?_)
  refine lv_iconst (v := 0) hx hb dX8_allOf_13 (by decide) ?_
  refine lv_istore (lv' := [(5, .int 0), (4, .int (nI r)), (3, .int (nI ne)), (0, .ref h0), (1, .int (nI o)), (2, .int (nI o2))]) hx hb dX8_allOf_14 hl (by decide) rfl (fun ls hl => ?_)
  obtain ⟨i, es_i⟩ : ∃ z : Nat, z = 0 := ⟨_, rfl⟩
  obtain ⟨x9, ex9⟩ : ∃ y : Int32, y = nI i := ⟨_, rfl⟩
  obtain ⟨f13, ef_f13⟩ : ∃ z : Nat → Int32, z = a13 := ⟨_, rfl⟩
  obtain ⟨f14, ef_f14⟩ : ∃ z : Nat → Int32, z = a14 := ⟨_, rfl⟩
  obtain ⟨n9, en9⟩ : ∃ n : Nat, n = ne + 1 := ⟨_, rfl⟩
  replace hl : lv_has ls 9 [(5, .int x9), (4, .int (nI r)), (3, .int (nI ne)), (0, .ref h0), (1, .int (nI o)), (2, .int (nI o2))] := by subst ex9; subst es_i; exact hl
  replace hP : va_P (dC, dI) vwCl [(q5, .inl (c5, 16, .inl a5)), (q6, .inl (c6, 16, .inl a6)), (q7, .inl (c7, 16, .inl a7)), (q13, .inl (c13, 1000, .inl f13)), (q14, .inl (c14, 1000, .inl f14)), (q15, .inl (c15, 4096, .inl a15)), (q2, .inl (c2, 67200, .inl a2)), (q3, .inl (c3, 16, .inl a3)), (q4, .inl (c4, 16, .inl a4)), (q9, .inl (c9, 16, .inl a9)), (q10, .inl (c10, 16, .inl a10)), (q11, .inl (c11, 16, .inl a11)), (h0, .inr (8, [.int th, .ref q1, .ref q2, .ref q3, .ref q4, .ref q5, .ref q6, .ref q7, .ref q8, .ref q9, .ref q10, .ref q11, v12, .ref q13, .ref q14, .ref q15, v16])), (q1, .inl (c1, 16, .inl a1)), (q8, .inl (c8, 16, .inl a8))] H := by subst ef_f13; subst ef_f14; exact hP
  replace hD : va_D A [(q5, .inl (c5, 16, .inl a5)), (q6, .inl (c6, 16, .inl a6)), (q7, .inl (c7, 16, .inl a7)), (q13, .inl (c13, 1000, .inl f13)), (q14, .inl (c14, 1000, .inl f14)), (q15, .inl (c15, 4096, .inl a15)), (q2, .inl (c2, 67200, .inl a2)), (q3, .inl (c3, 16, .inl a3)), (q4, .inl (c4, 16, .inl a4)), (q9, .inl (c9, 16, .inl a9)), (q10, .inl (c10, 16, .inl a10)), (q11, .inl (c11, 16, .inl a11)), (h0, .inr (8, [.int th, .ref q1, .ref q2, .ref q3, .ref q4, .ref q5, .ref q6, .ref q7, .ref q8, .ref q9, .ref q10, .ref q11, v12, .ref q13, .ref q14, .ref q15, v16])), (q1, .inl (c1, 16, .inl a1)), (q8, .inl (c8, 16, .inl a8))] := by subst ef_f13; subst ef_f14; exact hD
  have hi9 : i ≤ ne := by subst ex9; subst es_i; subst ef_f13; subst ef_f14; subst en9; exact Nat.zero_le _
  have hn9 : ne + 1 ≤ i + n9 := by subst ex9; subst es_i; subst ef_f13; subst ef_f14; subst en9; exact by omega
  clear en9 es_i ef_f13 ef_f14
  induction n9 generalizing i x9 ls H locs f13 f14 with
  | zero => exact absurd hn9 (by omega)
  | succ n9 ih =>
    subst ex9
    refine lv_iload hx hb dX8_allOf_16 (lv_at hl 0 rfl) ?_
    refine lv_iload_n hx hb dX8_allOf_18 rfl (lv_at hl 2 rfl) ?_
    refine lv_icmp_ge (tgt := 73) hx hb dX8_allOf_19 (by decide) (fun c_3 => ?_) (fun c_3 => ?_)
    ·
      have ic_3 : ((ne : Nat) : Int) ≤ ((i : Nat) : Int) := tx_le (nI_toInt (by omega)) (nI_toInt (by omega)) c_3
      refine lv_iconst (v := 0) hx hb dX8_allOf_73 (by decide) ?_
      refine lv_istore (lv' := [(5, .int 0), (4, .int (nI r)), (3, .int (nI ne)), (0, .ref h0), (1, .int (nI o)), (2, .int (nI o2))]) hx hb dX8_allOf_74 hl (by decide) rfl (fun ls hl => ?_)
      refine lv_iconst (v := 0) hx hb dX8_allOf_76 (by decide) ?_
      refine lv_istore (lv' := [(6, .int 0), (5, .int 0), (4, .int (nI r)), (3, .int (nI ne)), (0, .ref h0), (1, .int (nI o)), (2, .int (nI o2))]) hx hb dX8_allOf_77 hl (by decide) rfl (fun ls hl => ?_)
      obtain ⟨i8, es_i8⟩ : ∃ z : Nat, z = 0 := ⟨_, rfl⟩
      obtain ⟨x8, ex8⟩ : ∃ y : Int32, y = nI i8 := ⟨_, rfl⟩
      obtain ⟨g8, es_g8⟩ : ∃ z : Int32, z = 0 := ⟨_, rfl⟩
      obtain ⟨n9B, en9⟩ : ∃ n : Nat, n = ne + 1 := ⟨_, rfl⟩
      replace hl : lv_has ls 9 [(6, .int x8), (5, .int g8), (4, .int (nI r)), (3, .int (nI ne)), (0, .ref h0), (1, .int (nI o)), (2, .int (nI o2))] := by subst ex8; subst es_i8; subst es_g8; exact hl
      have hi8 : i8 ≤ ne := by subst ex8; subst es_i8; subst es_g8; subst en9; exact Nat.zero_le _
      have hn8b : ne + 1 ≤ i8 + n9B := by subst ex8; subst es_i8; subst es_g8; subst en9; exact by omega
      clear en9 es_i8 es_g8
      induction n9B generalizing i8 x8 g8 ls H locs with
      | zero => exact absurd hn8b (by omega)
      | succ n9B ihB =>
        subst ex8
        refine lv_iload hx hb dX8_allOf_79 (lv_at hl 0 rfl) ?_
        refine lv_iload_n hx hb dX8_allOf_81 rfl (lv_at hl 3 rfl) ?_
        refine lv_icmp_ge (tgt := 230) hx hb dX8_allOf_82 (by decide) (fun c_4 => ?_) (fun c_4 => ?_)
        ·
          have ic_4 : ((ne : Nat) : Int) ≤ ((i8 : Nat) : Int) := tx_le (nI_toInt (by omega)) (nI_toInt (by omega)) c_4
          refine lv_aload_n hx hb dX8_allOf_230 rfl (lv_at hl 4 rfl) ?_
          refine va_get (D := (dC, dI)) (ci := 8) (v := .ref q3) (C := RX8) (T := TX8) (N := 17) hx hb hts hi0_ hown hK hP 12 rfl rfl 3 (by decide) hw0_ (fun _ h9 => h9) rfl dX8_allOf_231 ?_
          refine lv_iload hx hb dX8_allOf_234 (lv_at hl 2 rfl) ?_
          refine va_iald (i := nI r) hx hb hK hP 7 2 rfl rfl (vp_in_nI (by omega) (by omega)) dX8_allOf_236 ?_
          refine W.eq (g2 := F0 m 237 ls [.int (a3 r)]) (by rw [nI_clamp (by omega)]) ?_
          refine lv_iload hx hb dX8_allOf_237 (lv_at hl 1 rfl) ?_
          refine lv_iadd hx hb dX8_allOf_239 ?_
          refine lv_sipush (v := 1000) hx hb dX8_allOf_240 (by decide) ?_
          refine lv_icmp_le (tgt := 262) hx hb dX8_allOf_243 (by decide) (fun c_5 => ?_) (fun c_5 => ?_)
          ·
            have ic_5 : ((a3 r) + g8).toInt ≤ 1000 := tx_le rfl (by decide) c_5
            refine lv_iconst (v := 0) hx hb dX8_allOf_262 (by decide) ?_
            refine lv_istore (lv' := [(6, .int 0), (5, .int g8), (4, .int (nI r)), (3, .int (nI ne)), (0, .ref h0), (1, .int (nI o)), (2, .int (nI o2))]) hx hb dX8_allOf_263 hl (by decide) rfl (fun ls hl => ?_)
            obtain ⟨i6, es_i6⟩ : ∃ z : Nat, z = 0 := ⟨_, rfl⟩
            obtain ⟨x6, ex6⟩ : ∃ y : Int32, y = nI i6 := ⟨_, rfl⟩
            obtain ⟨kt_, ef_kt_⟩ : ∃ z : Int32, z = th := ⟨_, rfl⟩
            obtain ⟨k2_, ef_k2_⟩ : ∃ z : Nat → Int32, z = a2 := ⟨_, rfl⟩
            obtain ⟨k3_, ef_k3_⟩ : ∃ z : Nat → Int32, z = a3 := ⟨_, rfl⟩
            obtain ⟨k6_, ef_k6_⟩ : ∃ z : Nat → Int32, z = a6 := ⟨_, rfl⟩
            obtain ⟨k7_, ef_k7_⟩ : ∃ z : Nat → Int32, z = a7 := ⟨_, rfl⟩
            obtain ⟨k15_, ef_k15_⟩ : ∃ z : Nat → Int32, z = a15 := ⟨_, rfl⟩
            obtain ⟨n9D, en9⟩ : ∃ n : Nat, n = ne + 1 := ⟨_, rfl⟩
            replace hl : lv_has ls 9 [(6, .int x6), (5, .int g8), (4, .int (nI r)), (3, .int (nI ne)), (0, .ref h0), (1, .int (nI o)), (2, .int (nI o2))] := by subst ex6; subst es_i6; exact hl
            replace hP : va_P (dC, dI) vwCl [(q5, .inl (c5, 16, .inl a5)), (q6, .inl (c6, 16, .inl k6_)), (q7, .inl (c7, 16, .inl k7_)), (q13, .inl (c13, 1000, .inl f13)), (q14, .inl (c14, 1000, .inl f14)), (q15, .inl (c15, 4096, .inl k15_)), (q2, .inl (c2, 67200, .inl k2_)), (q3, .inl (c3, 16, .inl k3_)), (q4, .inl (c4, 16, .inl a4)), (q9, .inl (c9, 16, .inl a9)), (q10, .inl (c10, 16, .inl a10)), (q11, .inl (c11, 16, .inl a11)), (h0, .inr (8, [.int kt_, .ref q1, .ref q2, .ref q3, .ref q4, .ref q5, .ref q6, .ref q7, .ref q8, .ref q9, .ref q10, .ref q11, v12, .ref q13, .ref q14, .ref q15, v16])), (q1, .inl (c1, 16, .inl a1)), (q8, .inl (c8, 16, .inl a8))] H := by subst ef_kt_; subst ef_k2_; subst ef_k3_; subst ef_k6_; subst ef_k7_; subst ef_k15_; exact hP
            replace hD : va_D A [(q5, .inl (c5, 16, .inl a5)), (q6, .inl (c6, 16, .inl k6_)), (q7, .inl (c7, 16, .inl k7_)), (q13, .inl (c13, 1000, .inl f13)), (q14, .inl (c14, 1000, .inl f14)), (q15, .inl (c15, 4096, .inl k15_)), (q2, .inl (c2, 67200, .inl k2_)), (q3, .inl (c3, 16, .inl k3_)), (q4, .inl (c4, 16, .inl a4)), (q9, .inl (c9, 16, .inl a9)), (q10, .inl (c10, 16, .inl a10)), (q11, .inl (c11, 16, .inl a11)), (h0, .inr (8, [.int kt_, .ref q1, .ref q2, .ref q3, .ref q4, .ref q5, .ref q6, .ref q7, .ref q8, .ref q9, .ref q10, .ref q11, v12, .ref q13, .ref q14, .ref q15, v16])), (q1, .inl (c1, 16, .inl a1)), (q8, .inl (c8, 16, .inl a8))] := by subst ef_kt_; subst ef_k2_; subst ef_k3_; subst ef_k6_; subst ef_k7_; subst ef_k15_; exact hD
            have hi6 : i6 ≤ ne := by subst ex6; subst es_i6; subst ef_kt_; subst ef_k2_; subst ef_k3_; subst ef_k6_; subst ef_k7_; subst ef_k15_; subst en9; exact Nat.zero_le _
            have hn6 : ne + 1 ≤ i6 + n9D := by subst ex6; subst es_i6; subst ef_kt_; subst ef_k2_; subst ef_k3_; subst ef_k6_; subst ef_k7_; subst ef_k15_; subst en9; exact by omega
            have hv6 : ∃ d : Nat, d ≤ 2 * i6 ∧ rsR r d a2 a3 a6 a7 k2_ k3_ k6_ k7_ := by subst ex6; subst es_i6; subst ef_kt_; subst ef_k2_; subst ef_k3_; subst ef_k6_; subst ef_k7_; subst ef_k15_; subst en9; exact ⟨0, by omega, rs_rf⟩
            have hM6 : mOK (a1 r) (a4 r) (k3_ r) (k6_ r) := by subst ex6; subst es_i6; subst ef_kt_; subst ef_k2_; subst ef_k3_; subst ef_k6_; subst ef_k7_; subst ef_k15_; subst en9; exact hM9
            clear en9 es_i6 ef_kt_ ef_k2_ ef_k3_ ef_k6_ ef_k7_ ef_k15_
            induction n9D generalizing i6 x6 ls H locs kt_ k2_ k3_ k6_ k7_ k15_ with
            | zero => exact absurd hn6 (by omega)
            | succ n9D ihD =>
              subst ex6
              refine lv_iload hx hb dX8_allOf_265 (lv_at hl 0 rfl) ?_
              refine lv_iload_n hx hb dX8_allOf_267 rfl (lv_at hl 3 rfl) ?_
              refine lv_icmp_ge (tgt := 311) hx hb dX8_allOf_268 (by decide) (fun c_6 => ?_) (fun c_6 => ?_)
              ·
                have ic_6 : ((ne : Nat) : Int) ≤ ((i6 : Nat) : Int) := tx_le (nI_toInt (by omega)) (nI_toInt (by omega)) c_6
                refine lv_iload_n hx hb dX8_allOf_311 rfl (lv_at hl 3 rfl) ?_
                refine lv_i2l (v := (nI ne).toInt64) hx hb dX8_allOf_312 rfl ?_
                have hP9 := hP.sub (ws' := [(h0, .inr (8, [.int kt_, .ref q1, .ref q2, .ref q3, .ref q4, .ref q5, .ref q6, .ref q7, .ref q8, .ref q9, .ref q10, .ref q11, v12, .ref q13, .ref q14, .ref q15, v16])), (q1, .inl (c1, 16, .inl a1)), (q2, .inl (c2, 67200, .inl k2_)), (q3, .inl (c3, 16, .inl k3_)), (q4, .inl (c4, 16, .inl a4)), (q5, .inl (c5, 16, .inl a5)), (q6, .inl (c6, 16, .inl k6_)), (q7, .inl (c7, 16, .inl k7_)), (q8, .inl (c8, 16, .inl a8)), (q9, .inl (c9, 16, .inl a9)), (q10, .inl (c10, 16, .inl a10)), (q11, .inl (c11, 16, .inl a11)), (q13, .inl (c13, 1000, .inl f13)), (q14, .inl (c14, 1000, .inl f14)), (q15, .inl (c15, 4096, .inl k15_))]) [12, 13, 6, 7, 8, 0, 1, 2, 14, 9, 10, 11, 3, 4, 5] rfl
                have hD9 := hD.sub (ws' := [(h0, .inr (8, [.int kt_, .ref q1, .ref q2, .ref q3, .ref q4, .ref q5, .ref q6, .ref q7, .ref q8, .ref q9, .ref q10, .ref q11, v12, .ref q13, .ref q14, .ref q15, v16])), (q1, .inl (c1, 16, .inl a1)), (q2, .inl (c2, 67200, .inl k2_)), (q3, .inl (c3, 16, .inl k3_)), (q4, .inl (c4, 16, .inl a4)), (q5, .inl (c5, 16, .inl a5)), (q6, .inl (c6, 16, .inl k6_)), (q7, .inl (c7, 16, .inl k7_)), (q8, .inl (c8, 16, .inl a8)), (q9, .inl (c9, 16, .inl a9)), (q10, .inl (c10, 16, .inl a10)), (q11, .inl (c11, 16, .inl a11)), (q13, .inl (c13, 1000, .inl f13)), (q14, .inl (c14, 1000, .inl f14)), (q15, .inl (c15, 4096, .inl k15_))]) [12, 13, 6, 7, 8, 0, 1, 2, 14, 9, 10, 11, 3, 4, 5] (by decide) rfl
                have hK9 := hK.sub (tys' := [(c1, .int), (c2, .int), (c3, .int), (c4, .int), (c5, .int), (c6, .int), (c7, .int), (c8, .int), (c9, .int), (c10, .int), (c11, .int), (c13, .int), (c14, .int), (c15, .boolean)]) [0, 1, 2, 3, 4, 5, 6, 7, 8, 9, 10, 11, 12, 13] rfl
                refine W.widen (k := 0) (n := 0) (Nat.le_of_ble_eq_true rfl) (Nat.le_of_ble_eq_true rfl) ?_
                exact W.lret (v := (nI ne).toInt64) hx hb hr (fun t ht hW => ⟨⟨(nI ne).toInt64, (kt_, k2_, k3_, k6_, k7_, f13, f14, k15_), rfl, ⟨by obtain ⟨e9, z1_, z2_⟩ := hv6; exact ⟨e9, by omega, z2_⟩, hM6⟩, by rw [ht]; exact hP9, va_K.moved hW.alike hK9, hD9⟩, hS.F ht⟩) hS.2.2 dX8_allOf_313
              ·
                have ic_6 : ((i6 : Nat) : Int) < ((ne : Nat) : Int) := tx_nle (nI_toInt (by omega)) (nI_toInt (by omega)) c_6
                obtain ⟨nz5, tb5, hs5, hz5, -, -⟩ := mo_go hM6
                refine lv_aload_n hx hb dX8_allOf_271 rfl (lv_at hl 4 rfl) ?_
                refine lv_iload_n hx hb dX8_allOf_272 rfl (lv_at hl 5 rfl) ?_
                refine lv_iconst (v := 0) hx hb dX8_allOf_273 (by decide) ?_
                refine lv_aload_n hx hb dX8_allOf_274 rfl (lv_at hl 4 rfl) ?_
                refine va_get (D := (dC, dI)) (ci := 8) (v := .ref q13) (C := RX8) (T := TX8) (N := 17) hx hb hts hi0_ hown hK hP 12 rfl rfl 13 (by decide) hw1_ (fun _ h9 => h9) rfl dX8_allOf_275 ?_
                refine lv_iload hx hb dX8_allOf_278 (lv_at hl 0 rfl) ?_
                refine va_iald (i := nI i6) hx hb hK hP 3 11 rfl rfl (vp_in_nI (by omega) (by omega)) dX8_allOf_280 ?_
                refine W.eq (g2 := F0 m 281 ls [.int (f13 i6), .int 0, .int (nI o), .ref h0]) (by rw [nI_clamp (by omega)]) ?_
                refine lv_aload_n hx hb dX8_allOf_281 rfl (lv_at hl 4 rfl) ?_
                refine va_get (D := (dC, dI)) (ci := 8) (v := .ref q14) (C := RX8) (T := TX8) (N := 17) hx hb hts hi0_ hown hK hP 12 rfl rfl 14 (by decide) hw2_ (fun _ h9 => h9) rfl dX8_allOf_282 ?_
                refine lv_iload hx hb dX8_allOf_285 (lv_at hl 0 rfl) ?_
                refine va_iald (i := nI i6) hx hb hK hP 4 12 rfl rfl (vp_in_nI (by omega) (by omega)) dX8_allOf_287 ?_
                refine W.eq (g2 := F0 m 288 ls [.int (f14 i6), .int (f13 i6), .int 0, .int (nI o), .ref h0]) (by rw [nI_clamp (by omega)]) ?_
                refine lv_aload_n hx hb dX8_allOf_288 rfl (lv_at hl 4 rfl) ?_
                refine lv_iload_n hx hb dX8_allOf_289 rfl (lv_at hl 5 rfl) ?_
                refine lv_aload_n hx hb dX8_allOf_290 rfl (lv_at hl 4 rfl) ?_
                refine va_get (D := (dC, dI)) (ci := 8) (v := .ref q13) (C := RX8) (T := TX8) (N := 17) hx hb hts hi0_ hown hK hP 12 rfl rfl 13 (by decide) hw1_ (fun _ h9 => h9) rfl dX8_allOf_291 ?_
                refine lv_iload hx hb dX8_allOf_294 (lv_at hl 0 rfl) ?_
                refine va_iald (i := nI i6) hx hb hK hP 3 11 rfl rfl (vp_in_nI (by omega) (by omega)) dX8_allOf_296 ?_
                refine W.eq (g2 := F0 m 297 ls [.int (f13 i6), .int (nI o), .ref h0, .int (f14 i6), .int (f13 i6), .int 0, .int (nI o), .ref h0]) (by rw [nI_clamp (by omega)]) ?_
                have hPc := hP.sub (ws' := [(h0, .inr (8, [.int kt_, .ref q1, .ref q2, .ref q3, .ref q4, .ref q5, .ref q6, .ref q7, .ref q8, .ref q9, .ref q10, .ref q11, v12, .ref q13, .ref q14, .ref q15, v16])), (q1, .inl (c1, 16, .inl a1)), (q2, .inl (c2, 67200, .inl k2_)), (q3, .inl (c3, 16, .inl k3_)), (q4, .inl (c4, 16, .inl a4)), (q8, .inl (c8, 16, .inl a8)), (q9, .inl (c9, 16, .inl a9)), (q10, .inl (c10, 16, .inl a10)), (q11, .inl (c11, 16, .inl a11))]) [12, 13, 6, 7, 8, 14, 9, 10, 11] rfl
                have hDc := hD.sub (ws' := [(h0, .inr (8, [.int kt_, .ref q1, .ref q2, .ref q3, .ref q4, .ref q5, .ref q6, .ref q7, .ref q8, .ref q9, .ref q10, .ref q11, v12, .ref q13, .ref q14, .ref q15, v16])), (q1, .inl (c1, 16, .inl a1)), (q2, .inl (c2, 67200, .inl k2_)), (q3, .inl (c3, 16, .inl k3_)), (q4, .inl (c4, 16, .inl a4)), (q8, .inl (c8, 16, .inl a8)), (q9, .inl (c9, 16, .inl a9)), (q10, .inl (c10, 16, .inl a10)), (q11, .inl (c11, 16, .inl a11))]) [12, 13, 6, 7, 8, 14, 9, 10, 11] (by decide) rfl
                have hKc := hK.sub (tys' := [(c1, .int), (c2, .int), (c3, .int), (c4, .int), (c8, .int), (c9, .int), (c10, .int), (c11, .int)]) [0, 1, 2, 3, 7, 8, 9, 10] rfl
                have hFc := va_free (wc := [(h0, .inr (8, [.int kt_, .ref q1, .ref q2, .ref q3, .ref q4, .ref q5, .ref q6, .ref q7, .ref q8, .ref q9, .ref q10, .ref q11, v12, .ref q13, .ref q14, .ref q15, v16])), (q1, .inl (c1, 16, .inl a1)), (q2, .inl (c2, 67200, .inl k2_)), (q3, .inl (c3, 16, .inl k3_)), (q4, .inl (c4, 16, .inl a4)), (q8, .inl (c8, 16, .inl a8)), (q9, .inl (c9, 16, .inl a9)), (q10, .inl (c10, 16, .inl a10)), (q11, .inl (c11, 16, .inl a11))]) hD hS hA [12, 13, 6, 7, 8, 14, 9, 10, 11] rfl
                refine va_calli (va_runV (As := [.int (nI o), .int (f13 i6)]) (rest := [.int (f14 i6), .int (f13 i6), .int 0, .int (nI o), .ref h0]) ⟨hx, hb, hml, hown, hts⟩ (c_X8_at l  dC dI H.size h0 kt_ q1 q2 q3 q4 q8 q9 q10 q11 c1 c2 c3 c4 c8 c9 c10 c11 a1 k2_ k3_ a4 a8 a9 a10 a11 (.ref q5) (.ref q6) (.ref q7) v12 (.ref q13) (.ref q14) (.ref q15) v16 o dep nz5 (f13 i6) ho9 hF9 hd9 (by rw [hrt9]; exact hs5) hz5) (cwV 2 hts gX8_allOf_X8_at rfl rfl rfl (by decide +kernel) ⟨(Nat.le_of_ble_eq_true rfl), (Nat.le_of_ble_eq_true rfl)⟩) ⟨pk_blind, va_recv hKc hPc (ci := 8) (q0 := 0) rfl rfl, pk_call hPc hKc hDc⟩ rfl rfl hl.1 rfl (lv_room (Nat.le_of_ble_eq_true rfl)) dX8_allOf_297 ⟨(Nat.le_of_ble_eq_true rfl), (Nat.le_of_ble_eq_true rfl)⟩) hS (fun q _ h => hFc q h) hFc (fun r_7 ur_7 t H1 locs ht hvm hw hB hz1 hk1 hS => ?_)
                try dsimp only at hw
                have jr_7 := hw
                obtain ⟨hP1, hK1, hD1⟩ := hB
                rw [ht] at hP1
                have hK1 := va_K.moved hvm.symm hK1
                obtain ⟨hP, hD⟩ := va_join (wr := [(q5, .inl (c5, 16, .inl a5)), (q6, .inl (c6, 16, .inl k6_)), (q7, .inl (c7, 16, .inl k7_)), (q13, .inl (c13, 1000, .inl f13)), (q14, .inl (c14, 1000, .inl f14)), (q15, .inl (c15, 4096, .inl k15_))]) (w1 := [(h0, .inr (8, [.int kt_, .ref q1, .ref q2, .ref q3, .ref q4, .ref q5, .ref q6, .ref q7, .ref q8, .ref q9, .ref q10, .ref q11, v12, .ref q13, .ref q14, .ref q15, v16])), (q1, .inl (c1, 16, .inl a1)), (q2, .inl (c2, 67200, .inl k2_)), (q3, .inl (c3, 16, .inl k3_)), (q4, .inl (c4, 16, .inl a4)), (q8, .inl (c8, 16, .inl a8)), (q9, .inl (c9, 16, .inl a9)), (q10, .inl (c10, 16, .inl a10)), (q11, .inl (c11, 16, .inl a11))]) hP hD [12, 13, 6, 7, 8, 14, 9, 10, 11] [0, 1, 2, 3, 4, 5] rfl rfl (by decide) (by decide) hk1 hFc hP1 hD1
                clear hk1 hz1 ht hPc hDc hKc hFc
                generalize H1 = H at hP hS ⊢
                replace hP : va_P (dC, dI) vwCl [(q5, .inl (c5, 16, .inl a5)), (q6, .inl (c6, 16, .inl k6_)), (q7, .inl (c7, 16, .inl k7_)), (q13, .inl (c13, 1000, .inl f13)), (q14, .inl (c14, 1000, .inl f14)), (q15, .inl (c15, 4096, .inl k15_)), (h0, .inr (8, [.int kt_, .ref q1, .ref q2, .ref q3, .ref q4, .ref q5, .ref q6, .ref q7, .ref q8, .ref q9, .ref q10, .ref q11, v12, .ref q13, .ref q14, .ref q15, v16])), (q1, .inl (c1, 16, .inl a1)), (q2, .inl (c2, 67200, .inl k2_)), (q3, .inl (c3, 16, .inl k3_)), (q4, .inl (c4, 16, .inl a4)), (q8, .inl (c8, 16, .inl a8)), (q9, .inl (c9, 16, .inl a9)), (q10, .inl (c10, 16, .inl a10)), (q11, .inl (c11, 16, .inl a11))] H := hP
                replace hD : va_D A [(q5, .inl (c5, 16, .inl a5)), (q6, .inl (c6, 16, .inl k6_)), (q7, .inl (c7, 16, .inl k7_)), (q13, .inl (c13, 1000, .inl f13)), (q14, .inl (c14, 1000, .inl f14)), (q15, .inl (c15, 4096, .inl k15_)), (h0, .inr (8, [.int kt_, .ref q1, .ref q2, .ref q3, .ref q4, .ref q5, .ref q6, .ref q7, .ref q8, .ref q9, .ref q10, .ref q11, v12, .ref q13, .ref q14, .ref q15, v16])), (q1, .inl (c1, 16, .inl a1)), (q2, .inl (c2, 67200, .inl k2_)), (q3, .inl (c3, 16, .inl k3_)), (q4, .inl (c4, 16, .inl a4)), (q8, .inl (c8, 16, .inl a8)), (q9, .inl (c9, 16, .inl a9)), (q10, .inl (c10, 16, .inl a10)), (q11, .inl (c11, 16, .inl a11))] := hD
                refine W.widen (k := 0) (n := 0) (Nat.le_of_ble_eq_true rfl) (Nat.le_of_ble_eq_true rfl) ?_
                refine W.eq (g2 := F0 m 300 ls [.int r_7, .int (f14 i6), .int (f13 i6), .int 0, .int (nI o), .ref h0]) rfl ?_
                have jat := at_i jr_7 hs5 hz5
                refine lv_lconst (v := 0) hx hb dX8_allOf_300 (by decide) ?_
                have hPc := hP.sub (ws' := [(h0, .inr (8, [.int kt_, .ref q1, .ref q2, .ref q3, .ref q4, .ref q5, .ref q6, .ref q7, .ref q8, .ref q9, .ref q10, .ref q11, v12, .ref q13, .ref q14, .ref q15, v16])), (q1, .inl (c1, 16, .inl a1)), (q2, .inl (c2, 67200, .inl k2_)), (q3, .inl (c3, 16, .inl k3_)), (q4, .inl (c4, 16, .inl a4)), (q5, .inl (c5, 16, .inl a5)), (q6, .inl (c6, 16, .inl k6_)), (q7, .inl (c7, 16, .inl k7_)), (q8, .inl (c8, 16, .inl a8)), (q9, .inl (c9, 16, .inl a9)), (q10, .inl (c10, 16, .inl a10)), (q11, .inl (c11, 16, .inl a11)), (q15, .inl (c15, 4096, .inl k15_))]) [6, 7, 8, 9, 10, 0, 1, 2, 11, 12, 13, 14, 5] rfl
                have hDc := hD.sub (ws' := [(h0, .inr (8, [.int kt_, .ref q1, .ref q2, .ref q3, .ref q4, .ref q5, .ref q6, .ref q7, .ref q8, .ref q9, .ref q10, .ref q11, v12, .ref q13, .ref q14, .ref q15, v16])), (q1, .inl (c1, 16, .inl a1)), (q2, .inl (c2, 67200, .inl k2_)), (q3, .inl (c3, 16, .inl k3_)), (q4, .inl (c4, 16, .inl a4)), (q5, .inl (c5, 16, .inl a5)), (q6, .inl (c6, 16, .inl k6_)), (q7, .inl (c7, 16, .inl k7_)), (q8, .inl (c8, 16, .inl a8)), (q9, .inl (c9, 16, .inl a9)), (q10, .inl (c10, 16, .inl a10)), (q11, .inl (c11, 16, .inl a11)), (q15, .inl (c15, 4096, .inl k15_))]) [6, 7, 8, 9, 10, 0, 1, 2, 11, 12, 13, 14, 5] (by decide) rfl
                have hKc := hK.sub (tys' := [(c1, .int), (c2, .int), (c3, .int), (c4, .int), (c5, .int), (c6, .int), (c7, .int), (c8, .int), (c9, .int), (c10, .int), (c11, .int), (c15, .boolean)]) [0, 1, 2, 3, 4, 5, 6, 7, 8, 9, 10, 13] rfl
                have hFc := va_free (wc := [(h0, .inr (8, [.int kt_, .ref q1, .ref q2, .ref q3, .ref q4, .ref q5, .ref q6, .ref q7, .ref q8, .ref q9, .ref q10, .ref q11, v12, .ref q13, .ref q14, .ref q15, v16])), (q1, .inl (c1, 16, .inl a1)), (q2, .inl (c2, 67200, .inl k2_)), (q3, .inl (c3, 16, .inl k3_)), (q4, .inl (c4, 16, .inl a4)), (q5, .inl (c5, 16, .inl a5)), (q6, .inl (c6, 16, .inl k6_)), (q7, .inl (c7, 16, .inl k7_)), (q8, .inl (c8, 16, .inl a8)), (q9, .inl (c9, 16, .inl a9)), (q10, .inl (c10, 16, .inl a10)), (q11, .inl (c11, 16, .inl a11)), (q15, .inl (c15, 4096, .inl k15_))]) hD hS hA [6, 7, 8, 9, 10, 0, 1, 2, 11, 12, 13, 14, 5] rfl
                refine va_calll (va_runV (As := [.int (nI o), .int 0, .int (f13 i6), .int (f14 i6), .int r_7, .long 0]) (rest := []) ⟨hx, hb, hml, hown, hts⟩ (c_X8_put l  dC dI H.size h0 kt_ q1 q2 q3 q4 q5 q6 q7 q8 q9 q10 q11 q15 c1 c2 c3 c4 c5 c6 c7 c8 c9 c10 c11 c15 a1 k2_ k3_ a4 a5 k6_ k7_ a8 a9 a10 a11 k15_ v12 (.ref q13) (.ref q14) v16 o dep r 0 (f13 i6) (f14 i6) r_7 0 ho9 hF9 hd9 hrt9 hM6 hkd9 jat) (cwV 6 hts gX8_allOf_X8_put rfl rfl rfl (by decide +kernel) ⟨(Nat.le_of_ble_eq_true rfl), (Nat.le_of_ble_eq_true rfl)⟩) ⟨pk_blind, va_recv hKc hPc (ci := 8) (q0 := 0) rfl rfl, pk_call hPc hKc hDc⟩ rfl rfl hl.1 rfl (lv_room (Nat.le_of_ble_eq_true rfl)) dX8_allOf_301 ⟨(Nat.le_of_ble_eq_true rfl), (Nat.le_of_ble_eq_true rfl)⟩) hS (fun q _ h => hFc q h) hFc (fun r_8 ur_8 t H1 locs ht hvm hw hB hz1 hk1 hS => ?_)
                try dsimp only at hw
                have jr_8 := hw
                obtain ⟨hP1, hK1, hD1⟩ := hB
                rw [ht] at hP1
                have hK1 := va_K.moved hvm.symm hK1
                obtain ⟨hP, hD⟩ := va_join (wr := [(q13, .inl (c13, 1000, .inl f13)), (q14, .inl (c14, 1000, .inl f14))]) (w1 := [(h0, .inr (8, [.int ur_8.1, .ref q1, .ref q2, .ref q3, .ref q4, .ref q5, .ref q6, .ref q7, .ref q8, .ref q9, .ref q10, .ref q11, v12, .ref q13, .ref q14, .ref q15, v16])), (q1, .inl (c1, 16, .inl a1)), (q2, .inl (c2, 67200, .inl ur_8.2.1)), (q3, .inl (c3, 16, .inl ur_8.2.2.1)), (q4, .inl (c4, 16, .inl a4)), (q5, .inl (c5, 16, .inl a5)), (q6, .inl (c6, 16, .inl ur_8.2.2.2.1)), (q7, .inl (c7, 16, .inl ur_8.2.2.2.2.1)), (q8, .inl (c8, 16, .inl a8)), (q9, .inl (c9, 16, .inl a9)), (q10, .inl (c10, 16, .inl a10)), (q11, .inl (c11, 16, .inl a11)), (q15, .inl (c15, 4096, .inl ur_8.2.2.2.2.2))]) hP hD [6, 7, 8, 9, 10, 0, 1, 2, 11, 12, 13, 14, 5] [3, 4] rfl rfl (by decide) (by decide) hk1 hFc hP1 hD1
                clear hk1 hz1 ht hPc hDc hKc hFc
                generalize H1 = H at hP hS ⊢
                replace hP : va_P (dC, dI) vwCl [(q13, .inl (c13, 1000, .inl f13)), (q14, .inl (c14, 1000, .inl f14)), (h0, .inr (8, [.int ur_8.1, .ref q1, .ref q2, .ref q3, .ref q4, .ref q5, .ref q6, .ref q7, .ref q8, .ref q9, .ref q10, .ref q11, v12, .ref q13, .ref q14, .ref q15, v16])), (q1, .inl (c1, 16, .inl a1)), (q2, .inl (c2, 67200, .inl ur_8.2.1)), (q3, .inl (c3, 16, .inl ur_8.2.2.1)), (q4, .inl (c4, 16, .inl a4)), (q5, .inl (c5, 16, .inl a5)), (q6, .inl (c6, 16, .inl ur_8.2.2.2.1)), (q7, .inl (c7, 16, .inl ur_8.2.2.2.2.1)), (q8, .inl (c8, 16, .inl a8)), (q9, .inl (c9, 16, .inl a9)), (q10, .inl (c10, 16, .inl a10)), (q11, .inl (c11, 16, .inl a11)), (q15, .inl (c15, 4096, .inl ur_8.2.2.2.2.2))] H := hP
                replace hD : va_D A [(q13, .inl (c13, 1000, .inl f13)), (q14, .inl (c14, 1000, .inl f14)), (h0, .inr (8, [.int ur_8.1, .ref q1, .ref q2, .ref q3, .ref q4, .ref q5, .ref q6, .ref q7, .ref q8, .ref q9, .ref q10, .ref q11, v12, .ref q13, .ref q14, .ref q15, v16])), (q1, .inl (c1, 16, .inl a1)), (q2, .inl (c2, 67200, .inl ur_8.2.1)), (q3, .inl (c3, 16, .inl ur_8.2.2.1)), (q4, .inl (c4, 16, .inl a4)), (q5, .inl (c5, 16, .inl a5)), (q6, .inl (c6, 16, .inl ur_8.2.2.2.1)), (q7, .inl (c7, 16, .inl ur_8.2.2.2.2.1)), (q8, .inl (c8, 16, .inl a8)), (q9, .inl (c9, 16, .inl a9)), (q10, .inl (c10, 16, .inl a10)), (q11, .inl (c11, 16, .inl a11)), (q15, .inl (c15, 4096, .inl ur_8.2.2.2.2.2))] := hD
                refine W.widen (k := 0) (n := 0) (Nat.le_of_ble_eq_true rfl) (Nat.le_of_ble_eq_true rfl) ?_
                refine W.eq (g2 := F0 m 304 ls [.long r_8]) rfl ?_
                obtain ⟨⟨d9, y1_, y2_⟩, y3_⟩ := jr_8
                refine lv_pop2_2 hx hb dX8_allOf_304 rfl ?_
                refine lv_iinc (v := nI (i6 + 1)) (lv' := [(6, .int (nI (i6 + 1))), (5, .int g8), (4, .int (nI r)), (3, .int (nI ne)), (0, .ref h0), (1, .int (nI o)), (2, .int (nI o2))]) hx hb dX8_allOf_305 hl (k := 0) rfl (by rw [show Int32.ofInt 1 = nI 1 from rfl, nI_add]) (by decide) rfl (fun ls hl => ?_)
                refine lv_goto (tgt := 265) hx hb dX8_allOf_308 (by decide) ?_
                exact ihD (i6 := i6 + 1) (x6 := nI (i6 + 1)) (ex6 := rfl) (ls := ls) (k6_ := ur_8.2.2.2.1) (k7_ := ur_8.2.2.2.2.1) (k15_ := ur_8.2.2.2.2.2) (k2_ := ur_8.2.1) (k3_ := ur_8.2.2.1) (kt_ := ur_8.1) (H := H) (locs := locs) (hP := hP.sub (ws' := [(q5, .inl (c5, 16, .inl a5)), (q6, .inl (c6, 16, .inl ur_8.2.2.2.1)), (q7, .inl (c7, 16, .inl ur_8.2.2.2.2.1)), (q13, .inl (c13, 1000, .inl f13)), (q14, .inl (c14, 1000, .inl f14)), (q15, .inl (c15, 4096, .inl ur_8.2.2.2.2.2)), (q2, .inl (c2, 67200, .inl ur_8.2.1)), (q3, .inl (c3, 16, .inl ur_8.2.2.1)), (q4, .inl (c4, 16, .inl a4)), (q9, .inl (c9, 16, .inl a9)), (q10, .inl (c10, 16, .inl a10)), (q11, .inl (c11, 16, .inl a11)), (h0, .inr (8, [.int ur_8.1, .ref q1, .ref q2, .ref q3, .ref q4, .ref q5, .ref q6, .ref q7, .ref q8, .ref q9, .ref q10, .ref q11, v12, .ref q13, .ref q14, .ref q15, v16])), (q1, .inl (c1, 16, .inl a1)), (q8, .inl (c8, 16, .inl a8))]) [7, 8, 9, 0, 1, 14, 4, 5, 6, 11, 12, 13, 2, 3, 10] rfl) (hS := hS) (hD := hD.sub (ws' := [(q5, .inl (c5, 16, .inl a5)), (q6, .inl (c6, 16, .inl ur_8.2.2.2.1)), (q7, .inl (c7, 16, .inl ur_8.2.2.2.2.1)), (q13, .inl (c13, 1000, .inl f13)), (q14, .inl (c14, 1000, .inl f14)), (q15, .inl (c15, 4096, .inl ur_8.2.2.2.2.2)), (q2, .inl (c2, 67200, .inl ur_8.2.1)), (q3, .inl (c3, 16, .inl ur_8.2.2.1)), (q4, .inl (c4, 16, .inl a4)), (q9, .inl (c9, 16, .inl a9)), (q10, .inl (c10, 16, .inl a10)), (q11, .inl (c11, 16, .inl a11)), (h0, .inr (8, [.int ur_8.1, .ref q1, .ref q2, .ref q3, .ref q4, .ref q5, .ref q6, .ref q7, .ref q8, .ref q9, .ref q10, .ref q11, v12, .ref q13, .ref q14, .ref q15, v16])), (q1, .inl (c1, 16, .inl a1)), (q8, .inl (c8, 16, .inl a8))]) [7, 8, 9, 0, 1, 14, 4, 5, 6, 11, 12, 13, 2, 3, 10] (by decide) rfl) (hi6 := by omega) (hn6 := by omega) (hv6 := by obtain ⟨e9, z1_, z2_⟩ := hv6; exact ⟨e9 + d9, by omega, rs_tr z2_ y2_⟩) (hM6 := y3_) (hl := lv_sub hl [0, 1, 2, 3, 4, 5, 6] rfl)
          ·
            have ic_5 : 1000 < ((a3 r) + g8).toInt := tx_nle rfl (by decide) c_5
            refine lv_aload_n hx hb dX8_allOf_246 rfl (lv_at hl 4 rfl) ?_
            refine lv_iload hx hb dX8_allOf_247 (lv_at hl 2 rfl) ?_
            have hPc := hP.sub (ws' := [(h0, .inr (8, [.int th, .ref q1, .ref q2, .ref q3, .ref q4, .ref q5, .ref q6, .ref q7, .ref q8, .ref q9, .ref q10, .ref q11, v12, .ref q13, .ref q14, .ref q15, v16])), (q1, .inl (c1, 16, .inl a1)), (q4, .inl (c4, 16, .inl a4))]) [12, 13, 8] rfl
            have hDc := hD.sub (ws' := [(h0, .inr (8, [.int th, .ref q1, .ref q2, .ref q3, .ref q4, .ref q5, .ref q6, .ref q7, .ref q8, .ref q9, .ref q10, .ref q11, v12, .ref q13, .ref q14, .ref q15, v16])), (q1, .inl (c1, 16, .inl a1)), (q4, .inl (c4, 16, .inl a4))]) [12, 13, 8] (by decide) rfl
            have hKc := hK.sub (tys' := [(c1, .int), (c4, .int)]) [0, 3] rfl
            have hFc := va_free (wc := [(h0, .inr (8, [.int th, .ref q1, .ref q2, .ref q3, .ref q4, .ref q5, .ref q6, .ref q7, .ref q8, .ref q9, .ref q10, .ref q11, v12, .ref q13, .ref q14, .ref q15, v16])), (q1, .inl (c1, 16, .inl a1)), (q4, .inl (c4, 16, .inl a4))]) hD hS hA [12, 13, 8] rfl
            refine va_calli (va_runV (As := [.int (nI r)]) (rest := []) ⟨hx, hb, hml, hown, hts⟩ (c_X8_isLimited l  dC dI H.size h0 th q1 q4 c1 c4 a1 a4 (.ref q2) (.ref q3) (.ref q5) (.ref q6) (.ref q7) (.ref q8) (.ref q9) (.ref q10) (.ref q11) v12 (.ref q13) (.ref q14) (.ref q15) v16 r hr9) (cwV 1 hts gX8_allOf_X8_isLimited rfl rfl rfl (by decide +kernel) ⟨(Nat.le_of_ble_eq_true rfl), (Nat.le_of_ble_eq_true rfl)⟩) ⟨pk_blind, va_recv hKc hPc (ci := 8) (q0 := 0) rfl rfl, pk_call hPc hKc hDc⟩ rfl rfl hl.1 rfl (lv_room (Nat.le_of_ble_eq_true rfl)) dX8_allOf_249 ⟨(Nat.le_of_ble_eq_true rfl), (Nat.le_of_ble_eq_true rfl)⟩) hS (fun q _ h => hFc q h) hFc (fun r_9 ur_9 t H1 locs ht hvm hw hB hz1 hk1 hS => ?_)
            try dsimp only at hw
            have jr_9 := hw
            obtain ⟨hP1, hK1, hD1⟩ := hB
            rw [ht] at hP1
            have hK1 := va_K.moved hvm.symm hK1
            obtain ⟨hP, hD⟩ := va_join (wr := [(q5, .inl (c5, 16, .inl a5)), (q6, .inl (c6, 16, .inl a6)), (q7, .inl (c7, 16, .inl a7)), (q13, .inl (c13, 1000, .inl f13)), (q14, .inl (c14, 1000, .inl f14)), (q15, .inl (c15, 4096, .inl a15)), (q2, .inl (c2, 67200, .inl a2)), (q3, .inl (c3, 16, .inl a3)), (q9, .inl (c9, 16, .inl a9)), (q10, .inl (c10, 16, .inl a10)), (q11, .inl (c11, 16, .inl a11)), (q8, .inl (c8, 16, .inl a8))]) (w1 := [(h0, .inr (8, [.int th, .ref q1, .ref q2, .ref q3, .ref q4, .ref q5, .ref q6, .ref q7, .ref q8, .ref q9, .ref q10, .ref q11, v12, .ref q13, .ref q14, .ref q15, v16])), (q1, .inl (c1, 16, .inl a1)), (q4, .inl (c4, 16, .inl a4))]) hP hD [12, 13, 8] [0, 1, 2, 3, 4, 5, 6, 7, 9, 10, 11, 14] rfl rfl (by decide) (by decide) hk1 hFc hP1 hD1
            clear hk1 hz1 ht hPc hDc hKc hFc
            generalize H1 = H at hP hS ⊢
            replace hP : va_P (dC, dI) vwCl [(q5, .inl (c5, 16, .inl a5)), (q6, .inl (c6, 16, .inl a6)), (q7, .inl (c7, 16, .inl a7)), (q13, .inl (c13, 1000, .inl f13)), (q14, .inl (c14, 1000, .inl f14)), (q15, .inl (c15, 4096, .inl a15)), (q2, .inl (c2, 67200, .inl a2)), (q3, .inl (c3, 16, .inl a3)), (q9, .inl (c9, 16, .inl a9)), (q10, .inl (c10, 16, .inl a10)), (q11, .inl (c11, 16, .inl a11)), (q8, .inl (c8, 16, .inl a8)), (h0, .inr (8, [.int th, .ref q1, .ref q2, .ref q3, .ref q4, .ref q5, .ref q6, .ref q7, .ref q8, .ref q9, .ref q10, .ref q11, v12, .ref q13, .ref q14, .ref q15, v16])), (q1, .inl (c1, 16, .inl a1)), (q4, .inl (c4, 16, .inl a4))] H := hP
            replace hD : va_D A [(q5, .inl (c5, 16, .inl a5)), (q6, .inl (c6, 16, .inl a6)), (q7, .inl (c7, 16, .inl a7)), (q13, .inl (c13, 1000, .inl f13)), (q14, .inl (c14, 1000, .inl f14)), (q15, .inl (c15, 4096, .inl a15)), (q2, .inl (c2, 67200, .inl a2)), (q3, .inl (c3, 16, .inl a3)), (q9, .inl (c9, 16, .inl a9)), (q10, .inl (c10, 16, .inl a10)), (q11, .inl (c11, 16, .inl a11)), (q8, .inl (c8, 16, .inl a8)), (h0, .inr (8, [.int th, .ref q1, .ref q2, .ref q3, .ref q4, .ref q5, .ref q6, .ref q7, .ref q8, .ref q9, .ref q10, .ref q11, v12, .ref q13, .ref q14, .ref q15, v16])), (q1, .inl (c1, 16, .inl a1)), (q4, .inl (c4, 16, .inl a4))] := hD
            refine W.widen (k := 0) (n := 0) (Nat.le_of_ble_eq_true rfl) (Nat.le_of_ble_eq_true rfl) ?_
            refine W.eq (g2 := F0 m 252 ls [.int r_9]) rfl ?_
            refine lv_if_ne (tgt := 262) hx hb dX8_allOf_252 (by decide) (fun c_10 => ?_) (fun c_10 => ?_)
            ·
              have ic_10 : ¬ r_9.toInt = 0 := tx_ne rfl (by decide) c_10
              refine lv_iconst (v := 0) hx hb dX8_allOf_262 (by decide) ?_
              refine lv_istore (lv' := [(6, .int 0), (5, .int g8), (4, .int (nI r)), (3, .int (nI ne)), (0, .ref h0), (1, .int (nI o)), (2, .int (nI o2))]) hx hb dX8_allOf_263 hl (by decide) rfl (fun ls hl => ?_)
              obtain ⟨i6, es_i6⟩ : ∃ z : Nat, z = 0 := ⟨_, rfl⟩
              obtain ⟨x6, ex6⟩ : ∃ y : Int32, y = nI i6 := ⟨_, rfl⟩
              obtain ⟨kt_, ef_kt_⟩ : ∃ z : Int32, z = th := ⟨_, rfl⟩
              obtain ⟨k2_, ef_k2_⟩ : ∃ z : Nat → Int32, z = a2 := ⟨_, rfl⟩
              obtain ⟨k3_, ef_k3_⟩ : ∃ z : Nat → Int32, z = a3 := ⟨_, rfl⟩
              obtain ⟨k6_, ef_k6_⟩ : ∃ z : Nat → Int32, z = a6 := ⟨_, rfl⟩
              obtain ⟨k7_, ef_k7_⟩ : ∃ z : Nat → Int32, z = a7 := ⟨_, rfl⟩
              obtain ⟨k15_, ef_k15_⟩ : ∃ z : Nat → Int32, z = a15 := ⟨_, rfl⟩
              obtain ⟨n9D, en9⟩ : ∃ n : Nat, n = ne + 1 := ⟨_, rfl⟩
              replace hl : lv_has ls 9 [(6, .int x6), (5, .int g8), (4, .int (nI r)), (3, .int (nI ne)), (0, .ref h0), (1, .int (nI o)), (2, .int (nI o2))] := by subst ex6; subst es_i6; exact hl
              replace hP : va_P (dC, dI) vwCl [(q5, .inl (c5, 16, .inl a5)), (q6, .inl (c6, 16, .inl k6_)), (q7, .inl (c7, 16, .inl k7_)), (q13, .inl (c13, 1000, .inl f13)), (q14, .inl (c14, 1000, .inl f14)), (q15, .inl (c15, 4096, .inl k15_)), (q2, .inl (c2, 67200, .inl k2_)), (q3, .inl (c3, 16, .inl k3_)), (q9, .inl (c9, 16, .inl a9)), (q10, .inl (c10, 16, .inl a10)), (q11, .inl (c11, 16, .inl a11)), (q8, .inl (c8, 16, .inl a8)), (h0, .inr (8, [.int kt_, .ref q1, .ref q2, .ref q3, .ref q4, .ref q5, .ref q6, .ref q7, .ref q8, .ref q9, .ref q10, .ref q11, v12, .ref q13, .ref q14, .ref q15, v16])), (q1, .inl (c1, 16, .inl a1)), (q4, .inl (c4, 16, .inl a4))] H := by subst ef_kt_; subst ef_k2_; subst ef_k3_; subst ef_k6_; subst ef_k7_; subst ef_k15_; exact hP
              replace hD : va_D A [(q5, .inl (c5, 16, .inl a5)), (q6, .inl (c6, 16, .inl k6_)), (q7, .inl (c7, 16, .inl k7_)), (q13, .inl (c13, 1000, .inl f13)), (q14, .inl (c14, 1000, .inl f14)), (q15, .inl (c15, 4096, .inl k15_)), (q2, .inl (c2, 67200, .inl k2_)), (q3, .inl (c3, 16, .inl k3_)), (q9, .inl (c9, 16, .inl a9)), (q10, .inl (c10, 16, .inl a10)), (q11, .inl (c11, 16, .inl a11)), (q8, .inl (c8, 16, .inl a8)), (h0, .inr (8, [.int kt_, .ref q1, .ref q2, .ref q3, .ref q4, .ref q5, .ref q6, .ref q7, .ref q8, .ref q9, .ref q10, .ref q11, v12, .ref q13, .ref q14, .ref q15, v16])), (q1, .inl (c1, 16, .inl a1)), (q4, .inl (c4, 16, .inl a4))] := by subst ef_kt_; subst ef_k2_; subst ef_k3_; subst ef_k6_; subst ef_k7_; subst ef_k15_; exact hD
              have hi6 : i6 ≤ ne := by subst ex6; subst es_i6; subst ef_kt_; subst ef_k2_; subst ef_k3_; subst ef_k6_; subst ef_k7_; subst ef_k15_; subst en9; exact Nat.zero_le _
              have hn6 : ne + 1 ≤ i6 + n9D := by subst ex6; subst es_i6; subst ef_kt_; subst ef_k2_; subst ef_k3_; subst ef_k6_; subst ef_k7_; subst ef_k15_; subst en9; exact by omega
              have hv6 : ∃ d : Nat, d ≤ 2 * i6 ∧ rsR r d a2 a3 a6 a7 k2_ k3_ k6_ k7_ := by subst ex6; subst es_i6; subst ef_kt_; subst ef_k2_; subst ef_k3_; subst ef_k6_; subst ef_k7_; subst ef_k15_; subst en9; exact ⟨0, by omega, rs_rf⟩
              have hM6 : mOK (a1 r) (a4 r) (k3_ r) (k6_ r) := by subst ex6; subst es_i6; subst ef_kt_; subst ef_k2_; subst ef_k3_; subst ef_k6_; subst ef_k7_; subst ef_k15_; subst en9; exact hM9
              clear en9 es_i6 ef_kt_ ef_k2_ ef_k3_ ef_k6_ ef_k7_ ef_k15_
              induction n9D generalizing i6 x6 ls H locs kt_ k2_ k3_ k6_ k7_ k15_ with
              | zero => exact absurd hn6 (by omega)
              | succ n9D ihD =>
                subst ex6
                refine lv_iload hx hb dX8_allOf_265 (lv_at hl 0 rfl) ?_
                refine lv_iload_n hx hb dX8_allOf_267 rfl (lv_at hl 3 rfl) ?_
                refine lv_icmp_ge (tgt := 311) hx hb dX8_allOf_268 (by decide) (fun c_11 => ?_) (fun c_11 => ?_)
                ·
                  have ic_11 : ((ne : Nat) : Int) ≤ ((i6 : Nat) : Int) := tx_le (nI_toInt (by omega)) (nI_toInt (by omega)) c_11
                  refine lv_iload_n hx hb dX8_allOf_311 rfl (lv_at hl 3 rfl) ?_
                  refine lv_i2l (v := (nI ne).toInt64) hx hb dX8_allOf_312 rfl ?_
                  have hP9 := hP.sub (ws' := [(h0, .inr (8, [.int kt_, .ref q1, .ref q2, .ref q3, .ref q4, .ref q5, .ref q6, .ref q7, .ref q8, .ref q9, .ref q10, .ref q11, v12, .ref q13, .ref q14, .ref q15, v16])), (q1, .inl (c1, 16, .inl a1)), (q2, .inl (c2, 67200, .inl k2_)), (q3, .inl (c3, 16, .inl k3_)), (q4, .inl (c4, 16, .inl a4)), (q5, .inl (c5, 16, .inl a5)), (q6, .inl (c6, 16, .inl k6_)), (q7, .inl (c7, 16, .inl k7_)), (q8, .inl (c8, 16, .inl a8)), (q9, .inl (c9, 16, .inl a9)), (q10, .inl (c10, 16, .inl a10)), (q11, .inl (c11, 16, .inl a11)), (q13, .inl (c13, 1000, .inl f13)), (q14, .inl (c14, 1000, .inl f14)), (q15, .inl (c15, 4096, .inl k15_))]) [12, 13, 6, 7, 14, 0, 1, 2, 11, 8, 9, 10, 3, 4, 5] rfl
                  have hD9 := hD.sub (ws' := [(h0, .inr (8, [.int kt_, .ref q1, .ref q2, .ref q3, .ref q4, .ref q5, .ref q6, .ref q7, .ref q8, .ref q9, .ref q10, .ref q11, v12, .ref q13, .ref q14, .ref q15, v16])), (q1, .inl (c1, 16, .inl a1)), (q2, .inl (c2, 67200, .inl k2_)), (q3, .inl (c3, 16, .inl k3_)), (q4, .inl (c4, 16, .inl a4)), (q5, .inl (c5, 16, .inl a5)), (q6, .inl (c6, 16, .inl k6_)), (q7, .inl (c7, 16, .inl k7_)), (q8, .inl (c8, 16, .inl a8)), (q9, .inl (c9, 16, .inl a9)), (q10, .inl (c10, 16, .inl a10)), (q11, .inl (c11, 16, .inl a11)), (q13, .inl (c13, 1000, .inl f13)), (q14, .inl (c14, 1000, .inl f14)), (q15, .inl (c15, 4096, .inl k15_))]) [12, 13, 6, 7, 14, 0, 1, 2, 11, 8, 9, 10, 3, 4, 5] (by decide) rfl
                  have hK9 := hK.sub (tys' := [(c1, .int), (c2, .int), (c3, .int), (c4, .int), (c5, .int), (c6, .int), (c7, .int), (c8, .int), (c9, .int), (c10, .int), (c11, .int), (c13, .int), (c14, .int), (c15, .boolean)]) [0, 1, 2, 3, 4, 5, 6, 7, 8, 9, 10, 11, 12, 13] rfl
                  refine W.widen (k := 0) (n := 0) (Nat.le_of_ble_eq_true rfl) (Nat.le_of_ble_eq_true rfl) ?_
                  exact W.lret (v := (nI ne).toInt64) hx hb hr (fun t ht hW => ⟨⟨(nI ne).toInt64, (kt_, k2_, k3_, k6_, k7_, f13, f14, k15_), rfl, ⟨by obtain ⟨e9, z1_, z2_⟩ := hv6; exact ⟨e9, by omega, z2_⟩, hM6⟩, by rw [ht]; exact hP9, va_K.moved hW.alike hK9, hD9⟩, hS.F ht⟩) hS.2.2 dX8_allOf_313
                ·
                  have ic_11 : ((i6 : Nat) : Int) < ((ne : Nat) : Int) := tx_nle (nI_toInt (by omega)) (nI_toInt (by omega)) c_11
                  obtain ⟨nz5, tb5, hs5, hz5, -, -⟩ := mo_go hM6
                  refine lv_aload_n hx hb dX8_allOf_271 rfl (lv_at hl 4 rfl) ?_
                  refine lv_iload_n hx hb dX8_allOf_272 rfl (lv_at hl 5 rfl) ?_
                  refine lv_iconst (v := 0) hx hb dX8_allOf_273 (by decide) ?_
                  refine lv_aload_n hx hb dX8_allOf_274 rfl (lv_at hl 4 rfl) ?_
                  refine va_get (D := (dC, dI)) (ci := 8) (v := .ref q13) (C := RX8) (T := TX8) (N := 17) hx hb hts hi0_ hown hK hP 12 rfl rfl 13 (by decide) hw1_ (fun _ h9 => h9) rfl dX8_allOf_275 ?_
                  refine lv_iload hx hb dX8_allOf_278 (lv_at hl 0 rfl) ?_
                  refine va_iald (i := nI i6) hx hb hK hP 3 11 rfl rfl (vp_in_nI (by omega) (by omega)) dX8_allOf_280 ?_
                  refine W.eq (g2 := F0 m 281 ls [.int (f13 i6), .int 0, .int (nI o), .ref h0]) (by rw [nI_clamp (by omega)]) ?_
                  refine lv_aload_n hx hb dX8_allOf_281 rfl (lv_at hl 4 rfl) ?_
                  refine va_get (D := (dC, dI)) (ci := 8) (v := .ref q14) (C := RX8) (T := TX8) (N := 17) hx hb hts hi0_ hown hK hP 12 rfl rfl 14 (by decide) hw2_ (fun _ h9 => h9) rfl dX8_allOf_282 ?_
                  refine lv_iload hx hb dX8_allOf_285 (lv_at hl 0 rfl) ?_
                  refine va_iald (i := nI i6) hx hb hK hP 4 12 rfl rfl (vp_in_nI (by omega) (by omega)) dX8_allOf_287 ?_
                  refine W.eq (g2 := F0 m 288 ls [.int (f14 i6), .int (f13 i6), .int 0, .int (nI o), .ref h0]) (by rw [nI_clamp (by omega)]) ?_
                  refine lv_aload_n hx hb dX8_allOf_288 rfl (lv_at hl 4 rfl) ?_
                  refine lv_iload_n hx hb dX8_allOf_289 rfl (lv_at hl 5 rfl) ?_
                  refine lv_aload_n hx hb dX8_allOf_290 rfl (lv_at hl 4 rfl) ?_
                  refine va_get (D := (dC, dI)) (ci := 8) (v := .ref q13) (C := RX8) (T := TX8) (N := 17) hx hb hts hi0_ hown hK hP 12 rfl rfl 13 (by decide) hw1_ (fun _ h9 => h9) rfl dX8_allOf_291 ?_
                  refine lv_iload hx hb dX8_allOf_294 (lv_at hl 0 rfl) ?_
                  refine va_iald (i := nI i6) hx hb hK hP 3 11 rfl rfl (vp_in_nI (by omega) (by omega)) dX8_allOf_296 ?_
                  refine W.eq (g2 := F0 m 297 ls [.int (f13 i6), .int (nI o), .ref h0, .int (f14 i6), .int (f13 i6), .int 0, .int (nI o), .ref h0]) (by rw [nI_clamp (by omega)]) ?_
                  have hPc := hP.sub (ws' := [(h0, .inr (8, [.int kt_, .ref q1, .ref q2, .ref q3, .ref q4, .ref q5, .ref q6, .ref q7, .ref q8, .ref q9, .ref q10, .ref q11, v12, .ref q13, .ref q14, .ref q15, v16])), (q1, .inl (c1, 16, .inl a1)), (q2, .inl (c2, 67200, .inl k2_)), (q3, .inl (c3, 16, .inl k3_)), (q4, .inl (c4, 16, .inl a4)), (q8, .inl (c8, 16, .inl a8)), (q9, .inl (c9, 16, .inl a9)), (q10, .inl (c10, 16, .inl a10)), (q11, .inl (c11, 16, .inl a11))]) [12, 13, 6, 7, 14, 11, 8, 9, 10] rfl
                  have hDc := hD.sub (ws' := [(h0, .inr (8, [.int kt_, .ref q1, .ref q2, .ref q3, .ref q4, .ref q5, .ref q6, .ref q7, .ref q8, .ref q9, .ref q10, .ref q11, v12, .ref q13, .ref q14, .ref q15, v16])), (q1, .inl (c1, 16, .inl a1)), (q2, .inl (c2, 67200, .inl k2_)), (q3, .inl (c3, 16, .inl k3_)), (q4, .inl (c4, 16, .inl a4)), (q8, .inl (c8, 16, .inl a8)), (q9, .inl (c9, 16, .inl a9)), (q10, .inl (c10, 16, .inl a10)), (q11, .inl (c11, 16, .inl a11))]) [12, 13, 6, 7, 14, 11, 8, 9, 10] (by decide) rfl
                  have hKc := hK.sub (tys' := [(c1, .int), (c2, .int), (c3, .int), (c4, .int), (c8, .int), (c9, .int), (c10, .int), (c11, .int)]) [0, 1, 2, 3, 7, 8, 9, 10] rfl
                  have hFc := va_free (wc := [(h0, .inr (8, [.int kt_, .ref q1, .ref q2, .ref q3, .ref q4, .ref q5, .ref q6, .ref q7, .ref q8, .ref q9, .ref q10, .ref q11, v12, .ref q13, .ref q14, .ref q15, v16])), (q1, .inl (c1, 16, .inl a1)), (q2, .inl (c2, 67200, .inl k2_)), (q3, .inl (c3, 16, .inl k3_)), (q4, .inl (c4, 16, .inl a4)), (q8, .inl (c8, 16, .inl a8)), (q9, .inl (c9, 16, .inl a9)), (q10, .inl (c10, 16, .inl a10)), (q11, .inl (c11, 16, .inl a11))]) hD hS hA [12, 13, 6, 7, 14, 11, 8, 9, 10] rfl
                  refine va_calli (va_runV (As := [.int (nI o), .int (f13 i6)]) (rest := [.int (f14 i6), .int (f13 i6), .int 0, .int (nI o), .ref h0]) ⟨hx, hb, hml, hown, hts⟩ (c_X8_at l  dC dI H.size h0 kt_ q1 q2 q3 q4 q8 q9 q10 q11 c1 c2 c3 c4 c8 c9 c10 c11 a1 k2_ k3_ a4 a8 a9 a10 a11 (.ref q5) (.ref q6) (.ref q7) v12 (.ref q13) (.ref q14) (.ref q15) v16 o dep nz5 (f13 i6) ho9 hF9 hd9 (by rw [hrt9]; exact hs5) hz5) (cwV 2 hts gX8_allOf_X8_at rfl rfl rfl (by decide +kernel) ⟨(Nat.le_of_ble_eq_true rfl), (Nat.le_of_ble_eq_true rfl)⟩) ⟨pk_blind, va_recv hKc hPc (ci := 8) (q0 := 0) rfl rfl, pk_call hPc hKc hDc⟩ rfl rfl hl.1 rfl (lv_room (Nat.le_of_ble_eq_true rfl)) dX8_allOf_297 ⟨(Nat.le_of_ble_eq_true rfl), (Nat.le_of_ble_eq_true rfl)⟩) hS (fun q _ h => hFc q h) hFc (fun r_12 ur_12 t H1 locs ht hvm hw hB hz1 hk1 hS => ?_)
                  try dsimp only at hw
                  have jr_12 := hw
                  obtain ⟨hP1, hK1, hD1⟩ := hB
                  rw [ht] at hP1
                  have hK1 := va_K.moved hvm.symm hK1
                  obtain ⟨hP, hD⟩ := va_join (wr := [(q5, .inl (c5, 16, .inl a5)), (q6, .inl (c6, 16, .inl k6_)), (q7, .inl (c7, 16, .inl k7_)), (q13, .inl (c13, 1000, .inl f13)), (q14, .inl (c14, 1000, .inl f14)), (q15, .inl (c15, 4096, .inl k15_))]) (w1 := [(h0, .inr (8, [.int kt_, .ref q1, .ref q2, .ref q3, .ref q4, .ref q5, .ref q6, .ref q7, .ref q8, .ref q9, .ref q10, .ref q11, v12, .ref q13, .ref q14, .ref q15, v16])), (q1, .inl (c1, 16, .inl a1)), (q2, .inl (c2, 67200, .inl k2_)), (q3, .inl (c3, 16, .inl k3_)), (q4, .inl (c4, 16, .inl a4)), (q8, .inl (c8, 16, .inl a8)), (q9, .inl (c9, 16, .inl a9)), (q10, .inl (c10, 16, .inl a10)), (q11, .inl (c11, 16, .inl a11))]) hP hD [12, 13, 6, 7, 14, 11, 8, 9, 10] [0, 1, 2, 3, 4, 5] rfl rfl (by decide) (by decide) hk1 hFc hP1 hD1
                  clear hk1 hz1 ht hPc hDc hKc hFc
                  generalize H1 = H at hP hS ⊢
                  replace hP : va_P (dC, dI) vwCl [(q5, .inl (c5, 16, .inl a5)), (q6, .inl (c6, 16, .inl k6_)), (q7, .inl (c7, 16, .inl k7_)), (q13, .inl (c13, 1000, .inl f13)), (q14, .inl (c14, 1000, .inl f14)), (q15, .inl (c15, 4096, .inl k15_)), (h0, .inr (8, [.int kt_, .ref q1, .ref q2, .ref q3, .ref q4, .ref q5, .ref q6, .ref q7, .ref q8, .ref q9, .ref q10, .ref q11, v12, .ref q13, .ref q14, .ref q15, v16])), (q1, .inl (c1, 16, .inl a1)), (q2, .inl (c2, 67200, .inl k2_)), (q3, .inl (c3, 16, .inl k3_)), (q4, .inl (c4, 16, .inl a4)), (q8, .inl (c8, 16, .inl a8)), (q9, .inl (c9, 16, .inl a9)), (q10, .inl (c10, 16, .inl a10)), (q11, .inl (c11, 16, .inl a11))] H := hP
                  replace hD : va_D A [(q5, .inl (c5, 16, .inl a5)), (q6, .inl (c6, 16, .inl k6_)), (q7, .inl (c7, 16, .inl k7_)), (q13, .inl (c13, 1000, .inl f13)), (q14, .inl (c14, 1000, .inl f14)), (q15, .inl (c15, 4096, .inl k15_)), (h0, .inr (8, [.int kt_, .ref q1, .ref q2, .ref q3, .ref q4, .ref q5, .ref q6, .ref q7, .ref q8, .ref q9, .ref q10, .ref q11, v12, .ref q13, .ref q14, .ref q15, v16])), (q1, .inl (c1, 16, .inl a1)), (q2, .inl (c2, 67200, .inl k2_)), (q3, .inl (c3, 16, .inl k3_)), (q4, .inl (c4, 16, .inl a4)), (q8, .inl (c8, 16, .inl a8)), (q9, .inl (c9, 16, .inl a9)), (q10, .inl (c10, 16, .inl a10)), (q11, .inl (c11, 16, .inl a11))] := hD
                  refine W.widen (k := 0) (n := 0) (Nat.le_of_ble_eq_true rfl) (Nat.le_of_ble_eq_true rfl) ?_
                  refine W.eq (g2 := F0 m 300 ls [.int r_12, .int (f14 i6), .int (f13 i6), .int 0, .int (nI o), .ref h0]) rfl ?_
                  have jat := at_i jr_12 hs5 hz5
                  refine lv_lconst (v := 0) hx hb dX8_allOf_300 (by decide) ?_
                  have hPc := hP.sub (ws' := [(h0, .inr (8, [.int kt_, .ref q1, .ref q2, .ref q3, .ref q4, .ref q5, .ref q6, .ref q7, .ref q8, .ref q9, .ref q10, .ref q11, v12, .ref q13, .ref q14, .ref q15, v16])), (q1, .inl (c1, 16, .inl a1)), (q2, .inl (c2, 67200, .inl k2_)), (q3, .inl (c3, 16, .inl k3_)), (q4, .inl (c4, 16, .inl a4)), (q5, .inl (c5, 16, .inl a5)), (q6, .inl (c6, 16, .inl k6_)), (q7, .inl (c7, 16, .inl k7_)), (q8, .inl (c8, 16, .inl a8)), (q9, .inl (c9, 16, .inl a9)), (q10, .inl (c10, 16, .inl a10)), (q11, .inl (c11, 16, .inl a11)), (q15, .inl (c15, 4096, .inl k15_))]) [6, 7, 8, 9, 10, 0, 1, 2, 11, 12, 13, 14, 5] rfl
                  have hDc := hD.sub (ws' := [(h0, .inr (8, [.int kt_, .ref q1, .ref q2, .ref q3, .ref q4, .ref q5, .ref q6, .ref q7, .ref q8, .ref q9, .ref q10, .ref q11, v12, .ref q13, .ref q14, .ref q15, v16])), (q1, .inl (c1, 16, .inl a1)), (q2, .inl (c2, 67200, .inl k2_)), (q3, .inl (c3, 16, .inl k3_)), (q4, .inl (c4, 16, .inl a4)), (q5, .inl (c5, 16, .inl a5)), (q6, .inl (c6, 16, .inl k6_)), (q7, .inl (c7, 16, .inl k7_)), (q8, .inl (c8, 16, .inl a8)), (q9, .inl (c9, 16, .inl a9)), (q10, .inl (c10, 16, .inl a10)), (q11, .inl (c11, 16, .inl a11)), (q15, .inl (c15, 4096, .inl k15_))]) [6, 7, 8, 9, 10, 0, 1, 2, 11, 12, 13, 14, 5] (by decide) rfl
                  have hKc := hK.sub (tys' := [(c1, .int), (c2, .int), (c3, .int), (c4, .int), (c5, .int), (c6, .int), (c7, .int), (c8, .int), (c9, .int), (c10, .int), (c11, .int), (c15, .boolean)]) [0, 1, 2, 3, 4, 5, 6, 7, 8, 9, 10, 13] rfl
                  have hFc := va_free (wc := [(h0, .inr (8, [.int kt_, .ref q1, .ref q2, .ref q3, .ref q4, .ref q5, .ref q6, .ref q7, .ref q8, .ref q9, .ref q10, .ref q11, v12, .ref q13, .ref q14, .ref q15, v16])), (q1, .inl (c1, 16, .inl a1)), (q2, .inl (c2, 67200, .inl k2_)), (q3, .inl (c3, 16, .inl k3_)), (q4, .inl (c4, 16, .inl a4)), (q5, .inl (c5, 16, .inl a5)), (q6, .inl (c6, 16, .inl k6_)), (q7, .inl (c7, 16, .inl k7_)), (q8, .inl (c8, 16, .inl a8)), (q9, .inl (c9, 16, .inl a9)), (q10, .inl (c10, 16, .inl a10)), (q11, .inl (c11, 16, .inl a11)), (q15, .inl (c15, 4096, .inl k15_))]) hD hS hA [6, 7, 8, 9, 10, 0, 1, 2, 11, 12, 13, 14, 5] rfl
                  refine va_calll (va_runV (As := [.int (nI o), .int 0, .int (f13 i6), .int (f14 i6), .int r_12, .long 0]) (rest := []) ⟨hx, hb, hml, hown, hts⟩ (c_X8_put l  dC dI H.size h0 kt_ q1 q2 q3 q4 q5 q6 q7 q8 q9 q10 q11 q15 c1 c2 c3 c4 c5 c6 c7 c8 c9 c10 c11 c15 a1 k2_ k3_ a4 a5 k6_ k7_ a8 a9 a10 a11 k15_ v12 (.ref q13) (.ref q14) v16 o dep r 0 (f13 i6) (f14 i6) r_12 0 ho9 hF9 hd9 hrt9 hM6 hkd9 jat) (cwV 6 hts gX8_allOf_X8_put rfl rfl rfl (by decide +kernel) ⟨(Nat.le_of_ble_eq_true rfl), (Nat.le_of_ble_eq_true rfl)⟩) ⟨pk_blind, va_recv hKc hPc (ci := 8) (q0 := 0) rfl rfl, pk_call hPc hKc hDc⟩ rfl rfl hl.1 rfl (lv_room (Nat.le_of_ble_eq_true rfl)) dX8_allOf_301 ⟨(Nat.le_of_ble_eq_true rfl), (Nat.le_of_ble_eq_true rfl)⟩) hS (fun q _ h => hFc q h) hFc (fun r_13 ur_13 t H1 locs ht hvm hw hB hz1 hk1 hS => ?_)
                  try dsimp only at hw
                  have jr_13 := hw
                  obtain ⟨hP1, hK1, hD1⟩ := hB
                  rw [ht] at hP1
                  have hK1 := va_K.moved hvm.symm hK1
                  obtain ⟨hP, hD⟩ := va_join (wr := [(q13, .inl (c13, 1000, .inl f13)), (q14, .inl (c14, 1000, .inl f14))]) (w1 := [(h0, .inr (8, [.int ur_13.1, .ref q1, .ref q2, .ref q3, .ref q4, .ref q5, .ref q6, .ref q7, .ref q8, .ref q9, .ref q10, .ref q11, v12, .ref q13, .ref q14, .ref q15, v16])), (q1, .inl (c1, 16, .inl a1)), (q2, .inl (c2, 67200, .inl ur_13.2.1)), (q3, .inl (c3, 16, .inl ur_13.2.2.1)), (q4, .inl (c4, 16, .inl a4)), (q5, .inl (c5, 16, .inl a5)), (q6, .inl (c6, 16, .inl ur_13.2.2.2.1)), (q7, .inl (c7, 16, .inl ur_13.2.2.2.2.1)), (q8, .inl (c8, 16, .inl a8)), (q9, .inl (c9, 16, .inl a9)), (q10, .inl (c10, 16, .inl a10)), (q11, .inl (c11, 16, .inl a11)), (q15, .inl (c15, 4096, .inl ur_13.2.2.2.2.2))]) hP hD [6, 7, 8, 9, 10, 0, 1, 2, 11, 12, 13, 14, 5] [3, 4] rfl rfl (by decide) (by decide) hk1 hFc hP1 hD1
                  clear hk1 hz1 ht hPc hDc hKc hFc
                  generalize H1 = H at hP hS ⊢
                  replace hP : va_P (dC, dI) vwCl [(q13, .inl (c13, 1000, .inl f13)), (q14, .inl (c14, 1000, .inl f14)), (h0, .inr (8, [.int ur_13.1, .ref q1, .ref q2, .ref q3, .ref q4, .ref q5, .ref q6, .ref q7, .ref q8, .ref q9, .ref q10, .ref q11, v12, .ref q13, .ref q14, .ref q15, v16])), (q1, .inl (c1, 16, .inl a1)), (q2, .inl (c2, 67200, .inl ur_13.2.1)), (q3, .inl (c3, 16, .inl ur_13.2.2.1)), (q4, .inl (c4, 16, .inl a4)), (q5, .inl (c5, 16, .inl a5)), (q6, .inl (c6, 16, .inl ur_13.2.2.2.1)), (q7, .inl (c7, 16, .inl ur_13.2.2.2.2.1)), (q8, .inl (c8, 16, .inl a8)), (q9, .inl (c9, 16, .inl a9)), (q10, .inl (c10, 16, .inl a10)), (q11, .inl (c11, 16, .inl a11)), (q15, .inl (c15, 4096, .inl ur_13.2.2.2.2.2))] H := hP
                  replace hD : va_D A [(q13, .inl (c13, 1000, .inl f13)), (q14, .inl (c14, 1000, .inl f14)), (h0, .inr (8, [.int ur_13.1, .ref q1, .ref q2, .ref q3, .ref q4, .ref q5, .ref q6, .ref q7, .ref q8, .ref q9, .ref q10, .ref q11, v12, .ref q13, .ref q14, .ref q15, v16])), (q1, .inl (c1, 16, .inl a1)), (q2, .inl (c2, 67200, .inl ur_13.2.1)), (q3, .inl (c3, 16, .inl ur_13.2.2.1)), (q4, .inl (c4, 16, .inl a4)), (q5, .inl (c5, 16, .inl a5)), (q6, .inl (c6, 16, .inl ur_13.2.2.2.1)), (q7, .inl (c7, 16, .inl ur_13.2.2.2.2.1)), (q8, .inl (c8, 16, .inl a8)), (q9, .inl (c9, 16, .inl a9)), (q10, .inl (c10, 16, .inl a10)), (q11, .inl (c11, 16, .inl a11)), (q15, .inl (c15, 4096, .inl ur_13.2.2.2.2.2))] := hD
                  refine W.widen (k := 0) (n := 0) (Nat.le_of_ble_eq_true rfl) (Nat.le_of_ble_eq_true rfl) ?_
                  refine W.eq (g2 := F0 m 304 ls [.long r_13]) rfl ?_
                  obtain ⟨⟨d9, y1_, y2_⟩, y3_⟩ := jr_13
                  refine lv_pop2_2 hx hb dX8_allOf_304 rfl ?_
                  refine lv_iinc (v := nI (i6 + 1)) (lv' := [(6, .int (nI (i6 + 1))), (5, .int g8), (4, .int (nI r)), (3, .int (nI ne)), (0, .ref h0), (1, .int (nI o)), (2, .int (nI o2))]) hx hb dX8_allOf_305 hl (k := 0) rfl (by rw [show Int32.ofInt 1 = nI 1 from rfl, nI_add]) (by decide) rfl (fun ls hl => ?_)
                  refine lv_goto (tgt := 265) hx hb dX8_allOf_308 (by decide) ?_
                  exact ihD (i6 := i6 + 1) (x6 := nI (i6 + 1)) (ex6 := rfl) (ls := ls) (k6_ := ur_13.2.2.2.1) (k7_ := ur_13.2.2.2.2.1) (k15_ := ur_13.2.2.2.2.2) (k2_ := ur_13.2.1) (k3_ := ur_13.2.2.1) (kt_ := ur_13.1) (H := H) (locs := locs) (hP := hP.sub (ws' := [(q5, .inl (c5, 16, .inl a5)), (q6, .inl (c6, 16, .inl ur_13.2.2.2.1)), (q7, .inl (c7, 16, .inl ur_13.2.2.2.2.1)), (q13, .inl (c13, 1000, .inl f13)), (q14, .inl (c14, 1000, .inl f14)), (q15, .inl (c15, 4096, .inl ur_13.2.2.2.2.2)), (q2, .inl (c2, 67200, .inl ur_13.2.1)), (q3, .inl (c3, 16, .inl ur_13.2.2.1)), (q9, .inl (c9, 16, .inl a9)), (q10, .inl (c10, 16, .inl a10)), (q11, .inl (c11, 16, .inl a11)), (q8, .inl (c8, 16, .inl a8)), (h0, .inr (8, [.int ur_13.1, .ref q1, .ref q2, .ref q3, .ref q4, .ref q5, .ref q6, .ref q7, .ref q8, .ref q9, .ref q10, .ref q11, v12, .ref q13, .ref q14, .ref q15, v16])), (q1, .inl (c1, 16, .inl a1)), (q4, .inl (c4, 16, .inl a4))]) [7, 8, 9, 0, 1, 14, 4, 5, 11, 12, 13, 10, 2, 3, 6] rfl) (hS := hS) (hD := hD.sub (ws' := [(q5, .inl (c5, 16, .inl a5)), (q6, .inl (c6, 16, .inl ur_13.2.2.2.1)), (q7, .inl (c7, 16, .inl ur_13.2.2.2.2.1)), (q13, .inl (c13, 1000, .inl f13)), (q14, .inl (c14, 1000, .inl f14)), (q15, .inl (c15, 4096, .inl ur_13.2.2.2.2.2)), (q2, .inl (c2, 67200, .inl ur_13.2.1)), (q3, .inl (c3, 16, .inl ur_13.2.2.1)), (q9, .inl (c9, 16, .inl a9)), (q10, .inl (c10, 16, .inl a10)), (q11, .inl (c11, 16, .inl a11)), (q8, .inl (c8, 16, .inl a8)), (h0, .inr (8, [.int ur_13.1, .ref q1, .ref q2, .ref q3, .ref q4, .ref q5, .ref q6, .ref q7, .ref q8, .ref q9, .ref q10, .ref q11, v12, .ref q13, .ref q14, .ref q15, v16])), (q1, .inl (c1, 16, .inl a1)), (q4, .inl (c4, 16, .inl a4))]) [7, 8, 9, 0, 1, 14, 4, 5, 11, 12, 13, 10, 2, 3, 6] (by decide) rfl) (hi6 := by omega) (hn6 := by omega) (hv6 := by obtain ⟨e9, z1_, z2_⟩ := hv6; exact ⟨e9 + d9, by omega, rs_tr z2_ y2_⟩) (hM6 := y3_) (hl := lv_sub hl [0, 1, 2, 3, 4, 5, 6] rfl)
            ·
              have ic_10 : r_9.toInt = 0 := tx_eq rfl (by decide) c_10
              refine lv_aload_n hx hb dX8_allOf_255 rfl (lv_at hl 4 rfl) ?_
              refine lv_iconst (v := 4) hx hb dX8_allOf_256 (by decide) ?_
              have hPc := hP.sub (ws' := [(h0, .inr (8, [.int th, .ref q1, .ref q2, .ref q3, .ref q4, .ref q5, .ref q6, .ref q7, .ref q8, .ref q9, .ref q10, .ref q11, v12, .ref q13, .ref q14, .ref q15, v16]))]) [12] rfl
              have hDc := hD.sub (ws' := [(h0, .inr (8, [.int th, .ref q1, .ref q2, .ref q3, .ref q4, .ref q5, .ref q6, .ref q7, .ref q8, .ref q9, .ref q10, .ref q11, v12, .ref q13, .ref q14, .ref q15, v16]))]) [12] (by decide) rfl
              have hKc := hK.sub (tys' := []) [] rfl
              have hFc := va_free (wc := [(h0, .inr (8, [.int th, .ref q1, .ref q2, .ref q3, .ref q4, .ref q5, .ref q6, .ref q7, .ref q8, .ref q9, .ref q10, .ref q11, v12, .ref q13, .ref q14, .ref q15, v16]))]) hD hS hA [12] rfl
              refine va_calli (va_runV (As := [.int 4]) (rest := []) ⟨hx, hb, hml, hown, hts⟩ (c_X8_refuse l  dC dI H.size h0 th (.ref q1) (.ref q2) (.ref q3) (.ref q4) (.ref q5) (.ref q6) (.ref q7) (.ref q8) (.ref q9) (.ref q10) (.ref q11) v12 (.ref q13) (.ref q14) (.ref q15) v16 4) (cwV 1 hts gX8_allOf_X8_refuse rfl rfl rfl (by decide +kernel) ⟨(Nat.le_of_ble_eq_true rfl), (Nat.le_of_ble_eq_true rfl)⟩) ⟨pk_blind, va_recv hKc hPc (ci := 8) (q0 := 0) rfl rfl, pk_call hPc hKc hDc⟩ rfl rfl hl.1 rfl (lv_room (Nat.le_of_ble_eq_true rfl)) dX8_allOf_257 ⟨(Nat.le_of_ble_eq_true rfl), (Nat.le_of_ble_eq_true rfl)⟩) hS (fun q _ h => hFc q h) hFc (fun r_14 ur_14 t H1 locs ht hvm hw hB hz1 hk1 hS => ?_)
              try dsimp only at hw
              obtain ⟨hP1, hK1, hD1⟩ := hB
              rw [ht] at hP1
              have hK1 := va_K.moved hvm.symm hK1
              obtain ⟨hP, hD⟩ := va_join (wr := [(q5, .inl (c5, 16, .inl a5)), (q6, .inl (c6, 16, .inl a6)), (q7, .inl (c7, 16, .inl a7)), (q13, .inl (c13, 1000, .inl f13)), (q14, .inl (c14, 1000, .inl f14)), (q15, .inl (c15, 4096, .inl a15)), (q2, .inl (c2, 67200, .inl a2)), (q3, .inl (c3, 16, .inl a3)), (q9, .inl (c9, 16, .inl a9)), (q10, .inl (c10, 16, .inl a10)), (q11, .inl (c11, 16, .inl a11)), (q8, .inl (c8, 16, .inl a8)), (q1, .inl (c1, 16, .inl a1)), (q4, .inl (c4, 16, .inl a4))]) (w1 := [(h0, .inr (8, [.int 4, .ref q1, .ref q2, .ref q3, .ref q4, .ref q5, .ref q6, .ref q7, .ref q8, .ref q9, .ref q10, .ref q11, v12, .ref q13, .ref q14, .ref q15, v16]))]) hP hD [12] [0, 1, 2, 3, 4, 5, 6, 7, 8, 9, 10, 11, 13, 14] rfl rfl (by decide) (by decide) hk1 hFc hP1 hD1
              clear hk1 hz1 ht hPc hDc hKc hFc
              generalize H1 = H at hP hS ⊢
              replace hP : va_P (dC, dI) vwCl [(q5, .inl (c5, 16, .inl a5)), (q6, .inl (c6, 16, .inl a6)), (q7, .inl (c7, 16, .inl a7)), (q13, .inl (c13, 1000, .inl f13)), (q14, .inl (c14, 1000, .inl f14)), (q15, .inl (c15, 4096, .inl a15)), (q2, .inl (c2, 67200, .inl a2)), (q3, .inl (c3, 16, .inl a3)), (q9, .inl (c9, 16, .inl a9)), (q10, .inl (c10, 16, .inl a10)), (q11, .inl (c11, 16, .inl a11)), (q8, .inl (c8, 16, .inl a8)), (q1, .inl (c1, 16, .inl a1)), (q4, .inl (c4, 16, .inl a4)), (h0, .inr (8, [.int 4, .ref q1, .ref q2, .ref q3, .ref q4, .ref q5, .ref q6, .ref q7, .ref q8, .ref q9, .ref q10, .ref q11, v12, .ref q13, .ref q14, .ref q15, v16]))] H := hP
              replace hD : va_D A [(q5, .inl (c5, 16, .inl a5)), (q6, .inl (c6, 16, .inl a6)), (q7, .inl (c7, 16, .inl a7)), (q13, .inl (c13, 1000, .inl f13)), (q14, .inl (c14, 1000, .inl f14)), (q15, .inl (c15, 4096, .inl a15)), (q2, .inl (c2, 67200, .inl a2)), (q3, .inl (c3, 16, .inl a3)), (q9, .inl (c9, 16, .inl a9)), (q10, .inl (c10, 16, .inl a10)), (q11, .inl (c11, 16, .inl a11)), (q8, .inl (c8, 16, .inl a8)), (q1, .inl (c1, 16, .inl a1)), (q4, .inl (c4, 16, .inl a4)), (h0, .inr (8, [.int 4, .ref q1, .ref q2, .ref q3, .ref q4, .ref q5, .ref q6, .ref q7, .ref q8, .ref q9, .ref q10, .ref q11, v12, .ref q13, .ref q14, .ref q15, v16]))] := hD
              refine W.widen (k := 0) (n := 0) (Nat.le_of_ble_eq_true rfl) (Nat.le_of_ble_eq_true rfl) ?_
              obtain rfl : r_14 = 0 := hw
              refine W.eq (g2 := F0 m 260 ls [.int 0]) rfl ?_
              refine lv_i2l (v := (0 : Int32).toInt64) hx hb dX8_allOf_260 rfl ?_
              have hP9 := hP.sub (ws' := [(h0, .inr (8, [.int 4, .ref q1, .ref q2, .ref q3, .ref q4, .ref q5, .ref q6, .ref q7, .ref q8, .ref q9, .ref q10, .ref q11, v12, .ref q13, .ref q14, .ref q15, v16])), (q1, .inl (c1, 16, .inl a1)), (q2, .inl (c2, 67200, .inl a2)), (q3, .inl (c3, 16, .inl a3)), (q4, .inl (c4, 16, .inl a4)), (q5, .inl (c5, 16, .inl a5)), (q6, .inl (c6, 16, .inl a6)), (q7, .inl (c7, 16, .inl a7)), (q8, .inl (c8, 16, .inl a8)), (q9, .inl (c9, 16, .inl a9)), (q10, .inl (c10, 16, .inl a10)), (q11, .inl (c11, 16, .inl a11)), (q13, .inl (c13, 1000, .inl f13)), (q14, .inl (c14, 1000, .inl f14)), (q15, .inl (c15, 4096, .inl a15))]) [14, 12, 6, 7, 13, 0, 1, 2, 11, 8, 9, 10, 3, 4, 5] rfl
              have hD9 := hD.sub (ws' := [(h0, .inr (8, [.int 4, .ref q1, .ref q2, .ref q3, .ref q4, .ref q5, .ref q6, .ref q7, .ref q8, .ref q9, .ref q10, .ref q11, v12, .ref q13, .ref q14, .ref q15, v16])), (q1, .inl (c1, 16, .inl a1)), (q2, .inl (c2, 67200, .inl a2)), (q3, .inl (c3, 16, .inl a3)), (q4, .inl (c4, 16, .inl a4)), (q5, .inl (c5, 16, .inl a5)), (q6, .inl (c6, 16, .inl a6)), (q7, .inl (c7, 16, .inl a7)), (q8, .inl (c8, 16, .inl a8)), (q9, .inl (c9, 16, .inl a9)), (q10, .inl (c10, 16, .inl a10)), (q11, .inl (c11, 16, .inl a11)), (q13, .inl (c13, 1000, .inl f13)), (q14, .inl (c14, 1000, .inl f14)), (q15, .inl (c15, 4096, .inl a15))]) [14, 12, 6, 7, 13, 0, 1, 2, 11, 8, 9, 10, 3, 4, 5] (by decide) rfl
              have hK9 := hK.sub (tys' := [(c1, .int), (c2, .int), (c3, .int), (c4, .int), (c5, .int), (c6, .int), (c7, .int), (c8, .int), (c9, .int), (c10, .int), (c11, .int), (c13, .int), (c14, .int), (c15, .boolean)]) [0, 1, 2, 3, 4, 5, 6, 7, 8, 9, 10, 11, 12, 13] rfl
              refine W.widen (k := 0) (n := 0) (Nat.le_of_ble_eq_true rfl) (Nat.le_of_ble_eq_true rfl) ?_
              exact W.lret (v := (0 : Int32).toInt64) hx hb hr (fun t ht hW => ⟨⟨(0 : Int32).toInt64, (4, a2, a3, a6, a7, f13, f14, a15), rfl, ⟨⟨0, by omega, rs_rf⟩, hM9⟩, by rw [ht]; exact hP9, va_K.moved hW.alike hK9, hD9⟩, hS.F ht⟩) hS.2.2 dX8_allOf_261
        ·
          have ic_4 : ((i8 : Nat) : Int) < ((ne : Nat) : Int) := tx_nle (nI_toInt (by omega)) (nI_toInt (by omega)) c_4
          refine lv_aload_n hx hb dX8_allOf_85 rfl (lv_at hl 4 rfl) ?_
          refine lv_iload_n hx hb dX8_allOf_86 rfl (lv_at hl 5 rfl) ?_
          refine lv_aload_n hx hb dX8_allOf_87 rfl (lv_at hl 4 rfl) ?_
          refine va_get (D := (dC, dI)) (ci := 8) (v := .ref q13) (C := RX8) (T := TX8) (N := 17) hx hb hts hi0_ hown hK hP 12 rfl rfl 13 (by decide) hw1_ (fun _ h9 => h9) rfl dX8_allOf_88 ?_
          refine lv_iload hx hb dX8_allOf_91 (lv_at hl 0 rfl) ?_
          refine va_iald (i := nI i8) hx hb hK hP 3 11 rfl rfl (vp_in_nI (by omega) (by omega)) dX8_allOf_93 ?_
          refine W.eq (g2 := F0 m 94 ls [.int (f13 i8), .int (nI o), .ref h0]) (by rw [nI_clamp (by omega)]) ?_
          have hPc := hP.sub (ws' := [(h0, .inr (8, [.int th, .ref q1, .ref q2, .ref q3, .ref q4, .ref q5, .ref q6, .ref q7, .ref q8, .ref q9, .ref q10, .ref q11, v12, .ref q13, .ref q14, .ref q15, v16])), (q1, .inl (c1, 16, .inl a1)), (q2, .inl (c2, 67200, .inl a2)), (q3, .inl (c3, 16, .inl a3)), (q4, .inl (c4, 16, .inl a4)), (q8, .inl (c8, 16, .inl a8)), (q9, .inl (c9, 16, .inl a9)), (q10, .inl (c10, 16, .inl a10)), (q11, .inl (c11, 16, .inl a11))]) [12, 13, 6, 7, 8, 14, 9, 10, 11] rfl
          have hDc := hD.sub (ws' := [(h0, .inr (8, [.int th, .ref q1, .ref q2, .ref q3, .ref q4, .ref q5, .ref q6, .ref q7, .ref q8, .ref q9, .ref q10, .ref q11, v12, .ref q13, .ref q14, .ref q15, v16])), (q1, .inl (c1, 16, .inl a1)), (q2, .inl (c2, 67200, .inl a2)), (q3, .inl (c3, 16, .inl a3)), (q4, .inl (c4, 16, .inl a4)), (q8, .inl (c8, 16, .inl a8)), (q9, .inl (c9, 16, .inl a9)), (q10, .inl (c10, 16, .inl a10)), (q11, .inl (c11, 16, .inl a11))]) [12, 13, 6, 7, 8, 14, 9, 10, 11] (by decide) rfl
          have hKc := hK.sub (tys' := [(c1, .int), (c2, .int), (c3, .int), (c4, .int), (c8, .int), (c9, .int), (c10, .int), (c11, .int)]) [0, 1, 2, 3, 7, 8, 9, 10] rfl
          have hFc := va_free (wc := [(h0, .inr (8, [.int th, .ref q1, .ref q2, .ref q3, .ref q4, .ref q5, .ref q6, .ref q7, .ref q8, .ref q9, .ref q10, .ref q11, v12, .ref q13, .ref q14, .ref q15, v16])), (q1, .inl (c1, 16, .inl a1)), (q2, .inl (c2, 67200, .inl a2)), (q3, .inl (c3, 16, .inl a3)), (q4, .inl (c4, 16, .inl a4)), (q8, .inl (c8, 16, .inl a8)), (q9, .inl (c9, 16, .inl a9)), (q10, .inl (c10, 16, .inl a10)), (q11, .inl (c11, 16, .inl a11))]) hD hS hA [12, 13, 6, 7, 8, 14, 9, 10, 11] rfl
          refine va_calli (va_runV (As := [.int (nI o), .int (f13 i8)]) (rest := []) ⟨hx, hb, hml, hown, hts⟩ (c_X8_at l  dC dI H.size h0 th q1 q2 q3 q4 q8 q9 q10 q11 c1 c2 c3 c4 c8 c9 c10 c11 a1 a2 a3 a4 a8 a9 a10 a11 (.ref q5) (.ref q6) (.ref q7) v12 (.ref q13) (.ref q14) (.ref q15) v16 o dep nz (f13 i8) ho9 hF9 hd9 (by rw [hrt9]; exact hs9) hz9) (cwV 2 hts gX8_allOf_X8_at rfl rfl rfl (by decide +kernel) ⟨(Nat.le_of_ble_eq_true rfl), (Nat.le_of_ble_eq_true rfl)⟩) ⟨pk_blind, va_recv hKc hPc (ci := 8) (q0 := 0) rfl rfl, pk_call hPc hKc hDc⟩ rfl rfl hl.1 rfl (lv_room (Nat.le_of_ble_eq_true rfl)) dX8_allOf_94 ⟨(Nat.le_of_ble_eq_true rfl), (Nat.le_of_ble_eq_true rfl)⟩) hS (fun q _ h => hFc q h) hFc (fun r_15 ur_15 t H1 locs ht hvm hw hB hz1 hk1 hS => ?_)
          try dsimp only at hw
          have jr_15 := hw
          obtain ⟨hP1, hK1, hD1⟩ := hB
          rw [ht] at hP1
          have hK1 := va_K.moved hvm.symm hK1
          obtain ⟨hP, hD⟩ := va_join (wr := [(q5, .inl (c5, 16, .inl a5)), (q6, .inl (c6, 16, .inl a6)), (q7, .inl (c7, 16, .inl a7)), (q13, .inl (c13, 1000, .inl f13)), (q14, .inl (c14, 1000, .inl f14)), (q15, .inl (c15, 4096, .inl a15))]) (w1 := [(h0, .inr (8, [.int th, .ref q1, .ref q2, .ref q3, .ref q4, .ref q5, .ref q6, .ref q7, .ref q8, .ref q9, .ref q10, .ref q11, v12, .ref q13, .ref q14, .ref q15, v16])), (q1, .inl (c1, 16, .inl a1)), (q2, .inl (c2, 67200, .inl a2)), (q3, .inl (c3, 16, .inl a3)), (q4, .inl (c4, 16, .inl a4)), (q8, .inl (c8, 16, .inl a8)), (q9, .inl (c9, 16, .inl a9)), (q10, .inl (c10, 16, .inl a10)), (q11, .inl (c11, 16, .inl a11))]) hP hD [12, 13, 6, 7, 8, 14, 9, 10, 11] [0, 1, 2, 3, 4, 5] rfl rfl (by decide) (by decide) hk1 hFc hP1 hD1
          clear hk1 hz1 ht hPc hDc hKc hFc
          generalize H1 = H at hP hS ⊢
          replace hP : va_P (dC, dI) vwCl [(q5, .inl (c5, 16, .inl a5)), (q6, .inl (c6, 16, .inl a6)), (q7, .inl (c7, 16, .inl a7)), (q13, .inl (c13, 1000, .inl f13)), (q14, .inl (c14, 1000, .inl f14)), (q15, .inl (c15, 4096, .inl a15)), (h0, .inr (8, [.int th, .ref q1, .ref q2, .ref q3, .ref q4, .ref q5, .ref q6, .ref q7, .ref q8, .ref q9, .ref q10, .ref q11, v12, .ref q13, .ref q14, .ref q15, v16])), (q1, .inl (c1, 16, .inl a1)), (q2, .inl (c2, 67200, .inl a2)), (q3, .inl (c3, 16, .inl a3)), (q4, .inl (c4, 16, .inl a4)), (q8, .inl (c8, 16, .inl a8)), (q9, .inl (c9, 16, .inl a9)), (q10, .inl (c10, 16, .inl a10)), (q11, .inl (c11, 16, .inl a11))] H := hP
          replace hD : va_D A [(q5, .inl (c5, 16, .inl a5)), (q6, .inl (c6, 16, .inl a6)), (q7, .inl (c7, 16, .inl a7)), (q13, .inl (c13, 1000, .inl f13)), (q14, .inl (c14, 1000, .inl f14)), (q15, .inl (c15, 4096, .inl a15)), (h0, .inr (8, [.int th, .ref q1, .ref q2, .ref q3, .ref q4, .ref q5, .ref q6, .ref q7, .ref q8, .ref q9, .ref q10, .ref q11, v12, .ref q13, .ref q14, .ref q15, v16])), (q1, .inl (c1, 16, .inl a1)), (q2, .inl (c2, 67200, .inl a2)), (q3, .inl (c3, 16, .inl a3)), (q4, .inl (c4, 16, .inl a4)), (q8, .inl (c8, 16, .inl a8)), (q9, .inl (c9, 16, .inl a9)), (q10, .inl (c10, 16, .inl a10)), (q11, .inl (c11, 16, .inl a11))] := hD
          refine W.widen (k := 0) (n := 0) (Nat.le_of_ble_eq_true rfl) (Nat.le_of_ble_eq_true rfl) ?_
          refine W.eq (g2 := F0 m 97 ls [.int r_15]) rfl ?_
          refine lv_if_lt (tgt := 103) hx hb dX8_allOf_97 (by decide) (fun c_16 => ?_) (fun c_16 => ?_)
          ·
            have ic_16 : r_15.toInt < 0 := tx_lt rfl (by decide) c_16
            refine lv_aload_n hx hb dX8_allOf_103 rfl (lv_at hl 4 rfl) ?_
            refine lv_iload_n hx hb dX8_allOf_104 rfl (lv_at hl 5 rfl) ?_
            refine lv_aload_n hx hb dX8_allOf_105 rfl (lv_at hl 4 rfl) ?_
            refine va_get (D := (dC, dI)) (ci := 8) (v := .ref q13) (C := RX8) (T := TX8) (N := 17) hx hb hts hi0_ hown hK hP 6 rfl rfl 13 (by decide) hw1_ (fun _ h9 => h9) rfl dX8_allOf_106 ?_
            refine lv_iload hx hb dX8_allOf_109 (lv_at hl 0 rfl) ?_
            refine va_iald (i := nI i8) hx hb hK hP 3 11 rfl rfl (vp_in_nI (by omega) (by omega)) dX8_allOf_111 ?_
            refine W.eq (g2 := F0 m 112 ls [.int (f13 i8), .int (nI o), .ref h0]) (by rw [nI_clamp (by omega)]) ?_
            have hPc := hP.sub (ws' := [(h0, .inr (8, [.int th, .ref q1, .ref q2, .ref q3, .ref q4, .ref q5, .ref q6, .ref q7, .ref q8, .ref q9, .ref q10, .ref q11, v12, .ref q13, .ref q14, .ref q15, v16])), (q1, .inl (c1, 16, .inl a1)), (q4, .inl (c4, 16, .inl a4)), (q8, .inl (c8, 16, .inl a8)), (q9, .inl (c9, 16, .inl a9)), (q10, .inl (c10, 16, .inl a10)), (q11, .inl (c11, 16, .inl a11))]) [6, 7, 10, 11, 12, 13, 14] rfl
            have hDc := hD.sub (ws' := [(h0, .inr (8, [.int th, .ref q1, .ref q2, .ref q3, .ref q4, .ref q5, .ref q6, .ref q7, .ref q8, .ref q9, .ref q10, .ref q11, v12, .ref q13, .ref q14, .ref q15, v16])), (q1, .inl (c1, 16, .inl a1)), (q4, .inl (c4, 16, .inl a4)), (q8, .inl (c8, 16, .inl a8)), (q9, .inl (c9, 16, .inl a9)), (q10, .inl (c10, 16, .inl a10)), (q11, .inl (c11, 16, .inl a11))]) [6, 7, 10, 11, 12, 13, 14] (by decide) rfl
            have hKc := hK.sub (tys' := [(c1, .int), (c4, .int), (c8, .int), (c9, .int), (c10, .int), (c11, .int)]) [0, 3, 7, 8, 9, 10] rfl
            have hFc := va_free (wc := [(h0, .inr (8, [.int th, .ref q1, .ref q2, .ref q3, .ref q4, .ref q5, .ref q6, .ref q7, .ref q8, .ref q9, .ref q10, .ref q11, v12, .ref q13, .ref q14, .ref q15, v16])), (q1, .inl (c1, 16, .inl a1)), (q4, .inl (c4, 16, .inl a4)), (q8, .inl (c8, 16, .inl a8)), (q9, .inl (c9, 16, .inl a9)), (q10, .inl (c10, 16, .inl a10)), (q11, .inl (c11, 16, .inl a11))]) hD hS hA [6, 7, 10, 11, 12, 13, 14] rfl
            refine va_calli (va_runV (As := [.int (nI o), .int (f13 i8)]) (rest := []) ⟨hx, hb, hml, hown, hts⟩ (c_X8_isWithin l  dC dI H.size h0 th q1 q4 q8 q9 q10 q11 c1 c4 c8 c9 c10 c11 a1 a4 a8 a9 a10 a11 (.ref q2) (.ref q3) (.ref q5) (.ref q6) (.ref q7) v12 (.ref q13) (.ref q14) (.ref q15) v16 o dep (f13 i8) ho9 hF9 hd9) (cwV 2 hts gX8_allOf_X8_isWithin rfl rfl rfl (by decide +kernel) ⟨(Nat.le_of_ble_eq_true rfl), (Nat.le_of_ble_eq_true rfl)⟩) ⟨pk_blind, va_recv hKc hPc (ci := 8) (q0 := 0) rfl rfl, pk_call hPc hKc hDc⟩ rfl rfl hl.1 rfl (lv_room (Nat.le_of_ble_eq_true rfl)) dX8_allOf_112 ⟨(Nat.le_of_ble_eq_true rfl), (Nat.le_of_ble_eq_true rfl)⟩) hS (fun q _ h => hFc q h) hFc (fun r_17 ur_17 t H1 locs ht hvm hw hB hz1 hk1 hS => ?_)
            try dsimp only at hw
            obtain ⟨hP1, hK1, hD1⟩ := hB
            rw [ht] at hP1
            have hK1 := va_K.moved hvm.symm hK1
            obtain ⟨hP, hD⟩ := va_join (wr := [(q5, .inl (c5, 16, .inl a5)), (q6, .inl (c6, 16, .inl a6)), (q7, .inl (c7, 16, .inl a7)), (q13, .inl (c13, 1000, .inl f13)), (q14, .inl (c14, 1000, .inl f14)), (q15, .inl (c15, 4096, .inl a15)), (q2, .inl (c2, 67200, .inl a2)), (q3, .inl (c3, 16, .inl a3))]) (w1 := [(h0, .inr (8, [.int th, .ref q1, .ref q2, .ref q3, .ref q4, .ref q5, .ref q6, .ref q7, .ref q8, .ref q9, .ref q10, .ref q11, v12, .ref q13, .ref q14, .ref q15, v16])), (q1, .inl (c1, 16, .inl a1)), (q4, .inl (c4, 16, .inl a4)), (q8, .inl (c8, 16, .inl a8)), (q9, .inl (c9, 16, .inl a9)), (q10, .inl (c10, 16, .inl a10)), (q11, .inl (c11, 16, .inl a11))]) hP hD [6, 7, 10, 11, 12, 13, 14] [0, 1, 2, 3, 4, 5, 8, 9] rfl rfl (by decide) (by decide) hk1 hFc hP1 hD1
            clear hk1 hz1 ht hPc hDc hKc hFc
            generalize H1 = H at hP hS ⊢
            replace hP : va_P (dC, dI) vwCl [(q5, .inl (c5, 16, .inl a5)), (q6, .inl (c6, 16, .inl a6)), (q7, .inl (c7, 16, .inl a7)), (q13, .inl (c13, 1000, .inl f13)), (q14, .inl (c14, 1000, .inl f14)), (q15, .inl (c15, 4096, .inl a15)), (q2, .inl (c2, 67200, .inl a2)), (q3, .inl (c3, 16, .inl a3)), (h0, .inr (8, [.int th, .ref q1, .ref q2, .ref q3, .ref q4, .ref q5, .ref q6, .ref q7, .ref q8, .ref q9, .ref q10, .ref q11, v12, .ref q13, .ref q14, .ref q15, v16])), (q1, .inl (c1, 16, .inl a1)), (q4, .inl (c4, 16, .inl a4)), (q8, .inl (c8, 16, .inl a8)), (q9, .inl (c9, 16, .inl a9)), (q10, .inl (c10, 16, .inl a10)), (q11, .inl (c11, 16, .inl a11))] H := hP
            replace hD : va_D A [(q5, .inl (c5, 16, .inl a5)), (q6, .inl (c6, 16, .inl a6)), (q7, .inl (c7, 16, .inl a7)), (q13, .inl (c13, 1000, .inl f13)), (q14, .inl (c14, 1000, .inl f14)), (q15, .inl (c15, 4096, .inl a15)), (q2, .inl (c2, 67200, .inl a2)), (q3, .inl (c3, 16, .inl a3)), (h0, .inr (8, [.int th, .ref q1, .ref q2, .ref q3, .ref q4, .ref q5, .ref q6, .ref q7, .ref q8, .ref q9, .ref q10, .ref q11, v12, .ref q13, .ref q14, .ref q15, v16])), (q1, .inl (c1, 16, .inl a1)), (q4, .inl (c4, 16, .inl a4)), (q8, .inl (c8, 16, .inl a8)), (q9, .inl (c9, 16, .inl a9)), (q10, .inl (c10, 16, .inl a10)), (q11, .inl (c11, 16, .inl a11))] := hD
            refine W.widen (k := 0) (n := 0) (Nat.le_of_ble_eq_true rfl) (Nat.le_of_ble_eq_true rfl) ?_
            obtain rfl : r_17 = tz (winN a1 a8 a11 a9 a10 a4 17 o (f13 i8)) := hw
            refine W.eq (g2 := F0 m 115 ls [.int (tz (winN a1 a8 a11 a9 a10 a4 17 o (f13 i8)))]) rfl ?_
            refine lv_if_ne (tgt := 125) hx hb dX8_allOf_115 (by decide) (fun c_18 => ?_) (fun c_18 => ?_)
            ·
              have ic_18 : ¬ (tz (winN a1 a8 a11 a9 a10 a4 17 o (f13 i8))).toInt = 0 := tx_ne rfl (by decide) c_18
              refine lv_iconst (v := 0) hx hb dX8_allOf_125 (by decide) ?_
              refine lv_istore (lv' := [(7, .int 0), (6, .int (nI i8)), (5, .int g8), (4, .int (nI r)), (3, .int (nI ne)), (0, .ref h0), (1, .int (nI o)), (2, .int (nI o2))]) hx hb dX8_allOf_126 hl (by decide) rfl (fun ls hl => ?_)
              refine lv_iconst (v := 0) hx hb dX8_allOf_128 (by decide) ?_
              refine lv_istore (lv' := [(8, .int 0), (7, .int 0), (6, .int (nI i8)), (5, .int g8), (4, .int (nI r)), (3, .int (nI ne)), (0, .ref h0), (1, .int (nI o)), (2, .int (nI o2))]) hx hb dX8_allOf_129 hl (by decide) rfl (fun ls hl => ?_)
              obtain ⟨i7, es_i7⟩ : ∃ z : Nat, z = 0 := ⟨_, rfl⟩
              obtain ⟨x7, ex7⟩ : ∃ y : Int32, y = nI i7 := ⟨_, rfl⟩
              obtain ⟨g7, es_g7⟩ : ∃ z : Int32, z = 0 := ⟨_, rfl⟩
              obtain ⟨n9C, en9⟩ : ∃ n : Nat, n = i8 + 1 := ⟨_, rfl⟩
              replace hl : lv_has ls 9 [(8, .int x7), (7, .int g7), (6, .int (nI i8)), (5, .int g8), (4, .int (nI r)), (3, .int (nI ne)), (0, .ref h0), (1, .int (nI o)), (2, .int (nI o2))] := by subst ex7; subst es_i7; subst es_g7; exact hl
              have hi7 : i7 ≤ i8 := by subst ex7; subst es_i7; subst es_g7; subst en9; exact Nat.zero_le _
              have hn7 : i8 + 1 ≤ i7 + n9C := by subst ex7; subst es_i7; subst es_g7; subst en9; exact by omega
              clear en9 es_i7 es_g7
              induction n9C generalizing i7 x7 g7 ls H locs with
              | zero => exact absurd hn7 (by omega)
              | succ n9C ihC =>
                subst ex7
                refine lv_iload hx hb dX8_allOf_131 (lv_at hl 0 rfl) ?_
                refine lv_iload hx hb dX8_allOf_133 (lv_at hl 2 rfl) ?_
                refine lv_icmp_ge (tgt := 209) hx hb dX8_allOf_135 (by decide) (fun c_19 => ?_) (fun c_19 => ?_)
                ·
                  have ic_19 : ((i8 : Nat) : Int) ≤ ((i7 : Nat) : Int) := tx_le (nI_toInt (by omega)) (nI_toInt (by omega)) c_19
                  refine lv_iload hx hb dX8_allOf_209 (lv_at hl 3 rfl) ?_
                  refine lv_iload hx hb dX8_allOf_211 (lv_at hl 1 rfl) ?_
                  refine lv_if_eq (tgt := 220) hx hb dX8_allOf_213 (by decide) (fun c_20 => ?_) (fun c_20 => ?_)
                  ·
                    have ic_20 : g7.toInt = 0 := tx_eq rfl (by decide) c_20
                    refine lv_iconst (v := 1) hx hb dX8_allOf_220 (by decide) ?_
                    refine lv_iadd hx hb dX8_allOf_221 ?_
                    refine lv_istore (lv' := [(5, .int (g8 + 1)), (8, .int (nI i7)), (7, .int g7), (6, .int (nI i8)), (4, .int (nI r)), (3, .int (nI ne)), (0, .ref h0), (1, .int (nI o)), (2, .int (nI o2))]) hx hb dX8_allOf_222 hl (by decide) rfl (fun ls hl => ?_)
                    refine lv_iinc (v := nI (i8 + 1)) (lv' := [(6, .int (nI (i8 + 1))), (5, .int (g8 + 1)), (8, .int (nI i7)), (7, .int g7), (4, .int (nI r)), (3, .int (nI ne)), (0, .ref h0), (1, .int (nI o)), (2, .int (nI o2))]) hx hb dX8_allOf_224 hl (k := 3) rfl (by rw [show Int32.ofInt 1 = nI 1 from rfl, nI_add]) (by decide) rfl (fun ls hl => ?_)
                    refine lv_goto (tgt := 79) hx hb dX8_allOf_227 (by decide) ?_
                    exact ihB (i8 := i8 + 1) (x8 := nI (i8 + 1)) (ex8 := rfl) (g8 := g8 + 1) (ls := ls) (H := H) (locs := locs) (hP := hP.sub (ws' := [(q5, .inl (c5, 16, .inl a5)), (q6, .inl (c6, 16, .inl a6)), (q7, .inl (c7, 16, .inl a7)), (q13, .inl (c13, 1000, .inl f13)), (q14, .inl (c14, 1000, .inl f14)), (q15, .inl (c15, 4096, .inl a15)), (q2, .inl (c2, 67200, .inl a2)), (q3, .inl (c3, 16, .inl a3)), (q4, .inl (c4, 16, .inl a4)), (q9, .inl (c9, 16, .inl a9)), (q10, .inl (c10, 16, .inl a10)), (q11, .inl (c11, 16, .inl a11)), (h0, .inr (8, [.int th, .ref q1, .ref q2, .ref q3, .ref q4, .ref q5, .ref q6, .ref q7, .ref q8, .ref q9, .ref q10, .ref q11, v12, .ref q13, .ref q14, .ref q15, v16])), (q1, .inl (c1, 16, .inl a1)), (q8, .inl (c8, 16, .inl a8))]) [0, 1, 2, 3, 4, 5, 6, 7, 10, 12, 13, 14, 8, 9, 11] rfl) (hS := hS) (hi8 := by omega) (hn8b := by omega) (hl := lv_sub hl [0, 1, 4, 5, 6, 7, 8] rfl)
                  ·
                    have ic_20 : ¬ g7.toInt = 0 := tx_ne rfl (by decide) c_20
                    refine lv_iconst (v := 0) hx hb dX8_allOf_216 (by decide) ?_
                    refine lv_goto (tgt := 221) hx hb dX8_allOf_217 (by decide) ?_
                    refine lv_iadd hx hb dX8_allOf_221 ?_
                    refine lv_istore (lv' := [(5, .int (g8 + 0)), (8, .int (nI i7)), (7, .int g7), (6, .int (nI i8)), (4, .int (nI r)), (3, .int (nI ne)), (0, .ref h0), (1, .int (nI o)), (2, .int (nI o2))]) hx hb dX8_allOf_222 hl (by decide) rfl (fun ls hl => ?_)
                    refine lv_iinc (v := nI (i8 + 1)) (lv' := [(6, .int (nI (i8 + 1))), (5, .int (g8 + 0)), (8, .int (nI i7)), (7, .int g7), (4, .int (nI r)), (3, .int (nI ne)), (0, .ref h0), (1, .int (nI o)), (2, .int (nI o2))]) hx hb dX8_allOf_224 hl (k := 3) rfl (by rw [show Int32.ofInt 1 = nI 1 from rfl, nI_add]) (by decide) rfl (fun ls hl => ?_)
                    refine lv_goto (tgt := 79) hx hb dX8_allOf_227 (by decide) ?_
                    exact ihB (i8 := i8 + 1) (x8 := nI (i8 + 1)) (ex8 := rfl) (g8 := g8 + 0) (ls := ls) (H := H) (locs := locs) (hP := hP.sub (ws' := [(q5, .inl (c5, 16, .inl a5)), (q6, .inl (c6, 16, .inl a6)), (q7, .inl (c7, 16, .inl a7)), (q13, .inl (c13, 1000, .inl f13)), (q14, .inl (c14, 1000, .inl f14)), (q15, .inl (c15, 4096, .inl a15)), (q2, .inl (c2, 67200, .inl a2)), (q3, .inl (c3, 16, .inl a3)), (q4, .inl (c4, 16, .inl a4)), (q9, .inl (c9, 16, .inl a9)), (q10, .inl (c10, 16, .inl a10)), (q11, .inl (c11, 16, .inl a11)), (h0, .inr (8, [.int th, .ref q1, .ref q2, .ref q3, .ref q4, .ref q5, .ref q6, .ref q7, .ref q8, .ref q9, .ref q10, .ref q11, v12, .ref q13, .ref q14, .ref q15, v16])), (q1, .inl (c1, 16, .inl a1)), (q8, .inl (c8, 16, .inl a8))]) [0, 1, 2, 3, 4, 5, 6, 7, 10, 12, 13, 14, 8, 9, 11] rfl) (hS := hS) (hi8 := by omega) (hn8b := by omega) (hl := lv_sub hl [0, 1, 4, 5, 6, 7, 8] rfl)
                ·
                  have ic_19 : ((i7 : Nat) : Int) < ((i8 : Nat) : Int) := tx_nle (nI_toInt (by omega)) (nI_toInt (by omega)) c_19
                  refine lv_iload hx hb dX8_allOf_138 (lv_at hl 1 rfl) ?_
                  refine lv_if_ne (tgt := 209) hx hb dX8_allOf_140 (by decide) (fun c_21 => ?_) (fun c_21 => ?_)
                  ·
                    have ic_21 : ¬ g7.toInt = 0 := tx_ne rfl (by decide) c_21
                    refine lv_iload hx hb dX8_allOf_209 (lv_at hl 3 rfl) ?_
                    refine lv_iload hx hb dX8_allOf_211 (lv_at hl 1 rfl) ?_
                    refine lv_if_eq (tgt := 220) hx hb dX8_allOf_213 (by decide) (fun c_22 => ?_) (fun c_22 => ?_)
                    ·
                      have ic_22 : g7.toInt = 0 := tx_eq rfl (by decide) c_22
                      refine lv_iconst (v := 1) hx hb dX8_allOf_220 (by decide) ?_
                      refine lv_iadd hx hb dX8_allOf_221 ?_
                      refine lv_istore (lv' := [(5, .int (g8 + 1)), (8, .int (nI i7)), (7, .int g7), (6, .int (nI i8)), (4, .int (nI r)), (3, .int (nI ne)), (0, .ref h0), (1, .int (nI o)), (2, .int (nI o2))]) hx hb dX8_allOf_222 hl (by decide) rfl (fun ls hl => ?_)
                      refine lv_iinc (v := nI (i8 + 1)) (lv' := [(6, .int (nI (i8 + 1))), (5, .int (g8 + 1)), (8, .int (nI i7)), (7, .int g7), (4, .int (nI r)), (3, .int (nI ne)), (0, .ref h0), (1, .int (nI o)), (2, .int (nI o2))]) hx hb dX8_allOf_224 hl (k := 3) rfl (by rw [show Int32.ofInt 1 = nI 1 from rfl, nI_add]) (by decide) rfl (fun ls hl => ?_)
                      refine lv_goto (tgt := 79) hx hb dX8_allOf_227 (by decide) ?_
                      exact ihB (i8 := i8 + 1) (x8 := nI (i8 + 1)) (ex8 := rfl) (g8 := g8 + 1) (ls := ls) (H := H) (locs := locs) (hP := hP.sub (ws' := [(q5, .inl (c5, 16, .inl a5)), (q6, .inl (c6, 16, .inl a6)), (q7, .inl (c7, 16, .inl a7)), (q13, .inl (c13, 1000, .inl f13)), (q14, .inl (c14, 1000, .inl f14)), (q15, .inl (c15, 4096, .inl a15)), (q2, .inl (c2, 67200, .inl a2)), (q3, .inl (c3, 16, .inl a3)), (q4, .inl (c4, 16, .inl a4)), (q9, .inl (c9, 16, .inl a9)), (q10, .inl (c10, 16, .inl a10)), (q11, .inl (c11, 16, .inl a11)), (h0, .inr (8, [.int th, .ref q1, .ref q2, .ref q3, .ref q4, .ref q5, .ref q6, .ref q7, .ref q8, .ref q9, .ref q10, .ref q11, v12, .ref q13, .ref q14, .ref q15, v16])), (q1, .inl (c1, 16, .inl a1)), (q8, .inl (c8, 16, .inl a8))]) [0, 1, 2, 3, 4, 5, 6, 7, 10, 12, 13, 14, 8, 9, 11] rfl) (hS := hS) (hi8 := by omega) (hn8b := by omega) (hl := lv_sub hl [0, 1, 4, 5, 6, 7, 8] rfl)
                    ·
                      have ic_22 : ¬ g7.toInt = 0 := tx_ne rfl (by decide) c_22
                      refine lv_iconst (v := 0) hx hb dX8_allOf_216 (by decide) ?_
                      refine lv_goto (tgt := 221) hx hb dX8_allOf_217 (by decide) ?_
                      refine lv_iadd hx hb dX8_allOf_221 ?_
                      refine lv_istore (lv' := [(5, .int (g8 + 0)), (8, .int (nI i7)), (7, .int g7), (6, .int (nI i8)), (4, .int (nI r)), (3, .int (nI ne)), (0, .ref h0), (1, .int (nI o)), (2, .int (nI o2))]) hx hb dX8_allOf_222 hl (by decide) rfl (fun ls hl => ?_)
                      refine lv_iinc (v := nI (i8 + 1)) (lv' := [(6, .int (nI (i8 + 1))), (5, .int (g8 + 0)), (8, .int (nI i7)), (7, .int g7), (4, .int (nI r)), (3, .int (nI ne)), (0, .ref h0), (1, .int (nI o)), (2, .int (nI o2))]) hx hb dX8_allOf_224 hl (k := 3) rfl (by rw [show Int32.ofInt 1 = nI 1 from rfl, nI_add]) (by decide) rfl (fun ls hl => ?_)
                      refine lv_goto (tgt := 79) hx hb dX8_allOf_227 (by decide) ?_
                      exact ihB (i8 := i8 + 1) (x8 := nI (i8 + 1)) (ex8 := rfl) (g8 := g8 + 0) (ls := ls) (H := H) (locs := locs) (hP := hP.sub (ws' := [(q5, .inl (c5, 16, .inl a5)), (q6, .inl (c6, 16, .inl a6)), (q7, .inl (c7, 16, .inl a7)), (q13, .inl (c13, 1000, .inl f13)), (q14, .inl (c14, 1000, .inl f14)), (q15, .inl (c15, 4096, .inl a15)), (q2, .inl (c2, 67200, .inl a2)), (q3, .inl (c3, 16, .inl a3)), (q4, .inl (c4, 16, .inl a4)), (q9, .inl (c9, 16, .inl a9)), (q10, .inl (c10, 16, .inl a10)), (q11, .inl (c11, 16, .inl a11)), (h0, .inr (8, [.int th, .ref q1, .ref q2, .ref q3, .ref q4, .ref q5, .ref q6, .ref q7, .ref q8, .ref q9, .ref q10, .ref q11, v12, .ref q13, .ref q14, .ref q15, v16])), (q1, .inl (c1, 16, .inl a1)), (q8, .inl (c8, 16, .inl a8))]) [0, 1, 2, 3, 4, 5, 6, 7, 10, 12, 13, 14, 8, 9, 11] rfl) (hS := hS) (hi8 := by omega) (hn8b := by omega) (hl := lv_sub hl [0, 1, 4, 5, 6, 7, 8] rfl)
                  ·
                    have ic_21 : g7.toInt = 0 := tx_eq rfl (by decide) c_21
                    refine lv_aload_n hx hb dX8_allOf_143 rfl (lv_at hl 6 rfl) ?_
                    refine va_get (D := (dC, dI)) (ci := 8) (v := .ref q1) (C := RX8) (T := TX8) (N := 17) hx hb hts hi0_ hown hK hP 8 rfl rfl 1 (by decide) hw3_ (fun _ h9 => h9) rfl dX8_allOf_144 ?_
                    refine lv_iload hx hb dX8_allOf_147 (lv_at hl 4 rfl) ?_
                    refine va_iald (i := nI r) hx hb hK hP 9 0 rfl rfl (vp_in_nI (by omega) (by omega)) dX8_allOf_149 ?_
                    refine W.eq (g2 := F0 m 150 ls [.int (a1 r)]) (by rw [nI_clamp (by omega)]) ?_
                    refine lv_iconst (v := 3) hx hb dX8_allOf_150 (by decide) ?_
                    refine lv_icmp_ne (tgt := 200) hx hb dX8_allOf_151 (by decide) (fun c_23 => ?_) (fun c_23 => ?_)
                    ·
                      have ic_23 : ¬ (a1 r).toInt = 3 := tx_ne rfl (by decide) c_23
                      refine lv_iconst (v := 0) hx hb dX8_allOf_200 (by decide) ?_
                      refine lv_istore (lv' := [(7, .int 0), (8, .int (nI i7)), (6, .int (nI i8)), (5, .int g8), (4, .int (nI r)), (3, .int (nI ne)), (0, .ref h0), (1, .int (nI o)), (2, .int (nI o2))]) hx hb dX8_allOf_201 hl (by decide) rfl (fun ls hl => ?_)
                      refine lv_iinc (v := nI (i7 + 1)) (lv' := [(8, .int (nI (i7 + 1))), (7, .int 0), (6, .int (nI i8)), (5, .int g8), (4, .int (nI r)), (3, .int (nI ne)), (0, .ref h0), (1, .int (nI o)), (2, .int (nI o2))]) hx hb dX8_allOf_203 hl (k := 1) rfl (by rw [show Int32.ofInt 1 = nI 1 from rfl, nI_add]) (by decide) rfl (fun ls hl => ?_)
                      refine lv_goto (tgt := 131) hx hb dX8_allOf_206 (by decide) ?_
                      exact ihC (i7 := i7 + 1) (x7 := nI (i7 + 1)) (ex7 := rfl) (g7 := 0) (ls := ls) (H := H) (locs := locs) (hP := hP.sub (ws' := [(q5, .inl (c5, 16, .inl a5)), (q6, .inl (c6, 16, .inl a6)), (q7, .inl (c7, 16, .inl a7)), (q13, .inl (c13, 1000, .inl f13)), (q14, .inl (c14, 1000, .inl f14)), (q15, .inl (c15, 4096, .inl a15)), (q2, .inl (c2, 67200, .inl a2)), (q3, .inl (c3, 16, .inl a3)), (h0, .inr (8, [.int th, .ref q1, .ref q2, .ref q3, .ref q4, .ref q5, .ref q6, .ref q7, .ref q8, .ref q9, .ref q10, .ref q11, v12, .ref q13, .ref q14, .ref q15, v16])), (q1, .inl (c1, 16, .inl a1)), (q4, .inl (c4, 16, .inl a4)), (q8, .inl (c8, 16, .inl a8)), (q9, .inl (c9, 16, .inl a9)), (q10, .inl (c10, 16, .inl a10)), (q11, .inl (c11, 16, .inl a11))]) [0, 1, 2, 3, 4, 5, 6, 7, 8, 9, 10, 11, 12, 13, 14] rfl) (hS := hS) (hi7 := by omega) (hn7 := by omega) (hl := lv_sub hl [0, 1, 2, 3, 4, 5, 6, 7, 8] rfl)
                    ·
                      have ic_23 : (a1 r).toInt = 3 := tx_eq rfl (by decide) c_23
                      refine lv_aload_n hx hb dX8_allOf_154 rfl (lv_at hl 6 rfl) ?_
                      refine va_get (D := (dC, dI)) (ci := 8) (v := .ref q4) (C := RX8) (T := TX8) (N := 17) hx hb hts hi0_ hown hK hP 8 rfl rfl 4 (by decide) hw4_ (fun _ h9 => h9) rfl dX8_allOf_155 ?_
                      refine lv_iload hx hb dX8_allOf_158 (lv_at hl 4 rfl) ?_
                      refine va_iald (i := nI r) hx hb hK hP 10 3 rfl rfl (vp_in_nI (by omega) (by omega)) dX8_allOf_160 ?_
                      refine W.eq (g2 := F0 m 161 ls [.int (a4 r)]) (by rw [nI_clamp (by omega)]) ?_
                      refine lv_aload_n hx hb dX8_allOf_161 rfl (lv_at hl 6 rfl) ?_
                      refine va_get (D := (dC, dI)) (ci := 8) (v := .ref q13) (C := RX8) (T := TX8) (N := 17) hx hb hts hi0_ hown hK hP 8 rfl rfl 13 (by decide) hw1_ (fun _ h9 => h9) rfl dX8_allOf_162 ?_
                      refine lv_iload hx hb dX8_allOf_165 (lv_at hl 0 rfl) ?_
                      refine va_iald (i := nI i7) hx hb hK hP 3 11 rfl rfl (vp_in_nI (by omega) (by omega)) dX8_allOf_167 ?_
                      refine W.eq (g2 := F0 m 168 ls [.int (f13 i7), .int (a4 r)]) (by rw [nI_clamp (by omega)]) ?_
                      refine lv_aload_n hx hb dX8_allOf_168 rfl (lv_at hl 6 rfl) ?_
                      refine va_get (D := (dC, dI)) (ci := 8) (v := .ref q13) (C := RX8) (T := TX8) (N := 17) hx hb hts hi0_ hown hK hP 8 rfl rfl 13 (by decide) hw1_ (fun _ h9 => h9) rfl dX8_allOf_169 ?_
                      refine lv_iload hx hb dX8_allOf_172 (lv_at hl 2 rfl) ?_
                      refine va_iald (i := nI i8) hx hb hK hP 3 11 rfl rfl (vp_in_nI (by omega) (by omega)) dX8_allOf_174 ?_
                      refine W.eq (g2 := F0 m 175 ls [.int (f13 i8), .int (f13 i7), .int (a4 r)]) (by rw [nI_clamp (by omega)]) ?_
                      have hPc := hP.sub (ws' := []) [] rfl
                      have hDc := hD.sub (ws' := []) [] (by decide) rfl
                      have hKc := hK.sub (tys' := []) [] rfl
                      have hFc := va_free (wc := []) hD hS hA [] rfl
                      refine va_calli (va_runS (As := [.int (a4 r), .int (f13 i7), .int (f13 i8)]) (rest := []) ⟨hx, hb, hml, hown, hts⟩ (c_X8_compare l  dC dI H.size (a4 r) (f13 i7) (f13 i8)) (va_cwS 3 hts gX8_allOf_X8_compare rfl rfl rfl (by decide +kernel) ⟨(Nat.le_of_ble_eq_true rfl), (Nat.le_of_ble_eq_true rfl)⟩) ⟨pk_blind, pk_call hPc hKc hDc⟩ rfl rfl hl.1 rfl (lv_room (Nat.le_of_ble_eq_true rfl)) dX8_allOf_175 ⟨(Nat.le_of_ble_eq_true rfl), (Nat.le_of_ble_eq_true rfl)⟩) hS (fun q _ h => hFc q h) hFc (fun r_24 ur_24 t H1 locs ht hvm hw hB hz1 hk1 hS => ?_)
                      try dsimp only at hw
                      have jr_24 := hw
                      obtain ⟨hP, hD⟩ := va_join (wr := [(q5, .inl (c5, 16, .inl a5)), (q6, .inl (c6, 16, .inl a6)), (q7, .inl (c7, 16, .inl a7)), (q13, .inl (c13, 1000, .inl f13)), (q14, .inl (c14, 1000, .inl f14)), (q15, .inl (c15, 4096, .inl a15)), (q2, .inl (c2, 67200, .inl a2)), (q3, .inl (c3, 16, .inl a3)), (h0, .inr (8, [.int th, .ref q1, .ref q2, .ref q3, .ref q4, .ref q5, .ref q6, .ref q7, .ref q8, .ref q9, .ref q10, .ref q11, v12, .ref q13, .ref q14, .ref q15, v16])), (q1, .inl (c1, 16, .inl a1)), (q4, .inl (c4, 16, .inl a4)), (q8, .inl (c8, 16, .inl a8)), (q9, .inl (c9, 16, .inl a9)), (q10, .inl (c10, 16, .inl a10)), (q11, .inl (c11, 16, .inl a11))]) (w1 := []) hP hD [] [0, 1, 2, 3, 4, 5, 6, 7, 8, 9, 10, 11, 12, 13, 14] rfl rfl (by decide) (by decide) hk1 hFc tx_P0 tx_D0
                      clear hk1 hz1 ht hPc hDc hKc hFc
                      generalize H1 = H at hP hS ⊢
                      replace hP : va_P (dC, dI) vwCl [(q5, .inl (c5, 16, .inl a5)), (q6, .inl (c6, 16, .inl a6)), (q7, .inl (c7, 16, .inl a7)), (q13, .inl (c13, 1000, .inl f13)), (q14, .inl (c14, 1000, .inl f14)), (q15, .inl (c15, 4096, .inl a15)), (q2, .inl (c2, 67200, .inl a2)), (q3, .inl (c3, 16, .inl a3)), (h0, .inr (8, [.int th, .ref q1, .ref q2, .ref q3, .ref q4, .ref q5, .ref q6, .ref q7, .ref q8, .ref q9, .ref q10, .ref q11, v12, .ref q13, .ref q14, .ref q15, v16])), (q1, .inl (c1, 16, .inl a1)), (q4, .inl (c4, 16, .inl a4)), (q8, .inl (c8, 16, .inl a8)), (q9, .inl (c9, 16, .inl a9)), (q10, .inl (c10, 16, .inl a10)), (q11, .inl (c11, 16, .inl a11))] H := hP
                      replace hD : va_D A [(q5, .inl (c5, 16, .inl a5)), (q6, .inl (c6, 16, .inl a6)), (q7, .inl (c7, 16, .inl a7)), (q13, .inl (c13, 1000, .inl f13)), (q14, .inl (c14, 1000, .inl f14)), (q15, .inl (c15, 4096, .inl a15)), (q2, .inl (c2, 67200, .inl a2)), (q3, .inl (c3, 16, .inl a3)), (h0, .inr (8, [.int th, .ref q1, .ref q2, .ref q3, .ref q4, .ref q5, .ref q6, .ref q7, .ref q8, .ref q9, .ref q10, .ref q11, v12, .ref q13, .ref q14, .ref q15, v16])), (q1, .inl (c1, 16, .inl a1)), (q4, .inl (c4, 16, .inl a4)), (q8, .inl (c8, 16, .inl a8)), (q9, .inl (c9, 16, .inl a9)), (q10, .inl (c10, 16, .inl a10)), (q11, .inl (c11, 16, .inl a11))] := hD
                      refine W.widen (k := 0) (n := 0) (Nat.le_of_ble_eq_true rfl) (Nat.le_of_ble_eq_true rfl) ?_
                      refine W.eq (g2 := F0 m 178 ls [.int r_24]) rfl ?_
                      refine lv_if_ne (tgt := 200) hx hb dX8_allOf_178 (by decide) (fun c_25 => ?_) (fun c_25 => ?_)
                      ·
                        have ic_25 : ¬ r_24.toInt = 0 := tx_ne rfl (by decide) c_25
                        refine lv_iconst (v := 0) hx hb dX8_allOf_200 (by decide) ?_
                        refine lv_istore (lv' := [(7, .int 0), (8, .int (nI i7)), (6, .int (nI i8)), (5, .int g8), (4, .int (nI r)), (3, .int (nI ne)), (0, .ref h0), (1, .int (nI o)), (2, .int (nI o2))]) hx hb dX8_allOf_201 hl (by decide) rfl (fun ls hl => ?_)
                        refine lv_iinc (v := nI (i7 + 1)) (lv' := [(8, .int (nI (i7 + 1))), (7, .int 0), (6, .int (nI i8)), (5, .int g8), (4, .int (nI r)), (3, .int (nI ne)), (0, .ref h0), (1, .int (nI o)), (2, .int (nI o2))]) hx hb dX8_allOf_203 hl (k := 1) rfl (by rw [show Int32.ofInt 1 = nI 1 from rfl, nI_add]) (by decide) rfl (fun ls hl => ?_)
                        refine lv_goto (tgt := 131) hx hb dX8_allOf_206 (by decide) ?_
                        exact ihC (i7 := i7 + 1) (x7 := nI (i7 + 1)) (ex7 := rfl) (g7 := 0) (ls := ls) (H := H) (locs := locs) (hP := hP.sub (ws' := [(q5, .inl (c5, 16, .inl a5)), (q6, .inl (c6, 16, .inl a6)), (q7, .inl (c7, 16, .inl a7)), (q13, .inl (c13, 1000, .inl f13)), (q14, .inl (c14, 1000, .inl f14)), (q15, .inl (c15, 4096, .inl a15)), (q2, .inl (c2, 67200, .inl a2)), (q3, .inl (c3, 16, .inl a3)), (h0, .inr (8, [.int th, .ref q1, .ref q2, .ref q3, .ref q4, .ref q5, .ref q6, .ref q7, .ref q8, .ref q9, .ref q10, .ref q11, v12, .ref q13, .ref q14, .ref q15, v16])), (q1, .inl (c1, 16, .inl a1)), (q4, .inl (c4, 16, .inl a4)), (q8, .inl (c8, 16, .inl a8)), (q9, .inl (c9, 16, .inl a9)), (q10, .inl (c10, 16, .inl a10)), (q11, .inl (c11, 16, .inl a11))]) [0, 1, 2, 3, 4, 5, 6, 7, 8, 9, 10, 11, 12, 13, 14] rfl) (hS := hS) (hi7 := by omega) (hn7 := by omega) (hl := lv_sub hl [0, 1, 2, 3, 4, 5, 6, 7, 8] rfl)
                      ·
                        have ic_25 : r_24.toInt = 0 := tx_eq rfl (by decide) c_25
                        refine lv_aload_n hx hb dX8_allOf_181 rfl (lv_at hl 6 rfl) ?_
                        refine lv_iload_n hx hb dX8_allOf_182 rfl (lv_at hl 7 rfl) ?_
                        refine lv_aload_n hx hb dX8_allOf_183 rfl (lv_at hl 6 rfl) ?_
                        refine va_get (D := (dC, dI)) (ci := 8) (v := .ref q13) (C := RX8) (T := TX8) (N := 17) hx hb hts hi0_ hown hK hP 8 rfl rfl 13 (by decide) hw1_ (fun _ h9 => h9) rfl dX8_allOf_184 ?_
                        refine lv_iload hx hb dX8_allOf_187 (lv_at hl 0 rfl) ?_
                        refine va_iald (i := nI i7) hx hb hK hP 3 11 rfl rfl (vp_in_nI (by omega) (by omega)) dX8_allOf_189 ?_
                        refine W.eq (g2 := F0 m 190 ls [.int (f13 i7), .int (nI o), .ref h0]) (by rw [nI_clamp (by omega)]) ?_
                        have hPc := hP.sub (ws' := [(h0, .inr (8, [.int th, .ref q1, .ref q2, .ref q3, .ref q4, .ref q5, .ref q6, .ref q7, .ref q8, .ref q9, .ref q10, .ref q11, v12, .ref q13, .ref q14, .ref q15, v16])), (q1, .inl (c1, 16, .inl a1)), (q2, .inl (c2, 67200, .inl a2)), (q3, .inl (c3, 16, .inl a3)), (q4, .inl (c4, 16, .inl a4)), (q8, .inl (c8, 16, .inl a8)), (q9, .inl (c9, 16, .inl a9)), (q10, .inl (c10, 16, .inl a10)), (q11, .inl (c11, 16, .inl a11))]) [8, 9, 6, 7, 10, 11, 12, 13, 14] rfl
                        have hDc := hD.sub (ws' := [(h0, .inr (8, [.int th, .ref q1, .ref q2, .ref q3, .ref q4, .ref q5, .ref q6, .ref q7, .ref q8, .ref q9, .ref q10, .ref q11, v12, .ref q13, .ref q14, .ref q15, v16])), (q1, .inl (c1, 16, .inl a1)), (q2, .inl (c2, 67200, .inl a2)), (q3, .inl (c3, 16, .inl a3)), (q4, .inl (c4, 16, .inl a4)), (q8, .inl (c8, 16, .inl a8)), (q9, .inl (c9, 16, .inl a9)), (q10, .inl (c10, 16, .inl a10)), (q11, .inl (c11, 16, .inl a11))]) [8, 9, 6, 7, 10, 11, 12, 13, 14] (by decide) rfl
                        have hKc := hK.sub (tys' := [(c1, .int), (c2, .int), (c3, .int), (c4, .int), (c8, .int), (c9, .int), (c10, .int), (c11, .int)]) [0, 1, 2, 3, 7, 8, 9, 10] rfl
                        have hFc := va_free (wc := [(h0, .inr (8, [.int th, .ref q1, .ref q2, .ref q3, .ref q4, .ref q5, .ref q6, .ref q7, .ref q8, .ref q9, .ref q10, .ref q11, v12, .ref q13, .ref q14, .ref q15, v16])), (q1, .inl (c1, 16, .inl a1)), (q2, .inl (c2, 67200, .inl a2)), (q3, .inl (c3, 16, .inl a3)), (q4, .inl (c4, 16, .inl a4)), (q8, .inl (c8, 16, .inl a8)), (q9, .inl (c9, 16, .inl a9)), (q10, .inl (c10, 16, .inl a10)), (q11, .inl (c11, 16, .inl a11))]) hD hS hA [8, 9, 6, 7, 10, 11, 12, 13, 14] rfl
                        refine va_calli (va_runV (As := [.int (nI o), .int (f13 i7)]) (rest := []) ⟨hx, hb, hml, hown, hts⟩ (c_X8_at l  dC dI H.size h0 th q1 q2 q3 q4 q8 q9 q10 q11 c1 c2 c3 c4 c8 c9 c10 c11 a1 a2 a3 a4 a8 a9 a10 a11 (.ref q5) (.ref q6) (.ref q7) v12 (.ref q13) (.ref q14) (.ref q15) v16 o dep nz (f13 i7) ho9 hF9 hd9 (by rw [hrt9]; exact hs9) hz9) (cwV 2 hts gX8_allOf_X8_at rfl rfl rfl (by decide +kernel) ⟨(Nat.le_of_ble_eq_true rfl), (Nat.le_of_ble_eq_true rfl)⟩) ⟨pk_blind, va_recv hKc hPc (ci := 8) (q0 := 0) rfl rfl, pk_call hPc hKc hDc⟩ rfl rfl hl.1 rfl (lv_room (Nat.le_of_ble_eq_true rfl)) dX8_allOf_190 ⟨(Nat.le_of_ble_eq_true rfl), (Nat.le_of_ble_eq_true rfl)⟩) hS (fun q _ h => hFc q h) hFc (fun r_26 ur_26 t H1 locs ht hvm hw hB hz1 hk1 hS => ?_)
                        try dsimp only at hw
                        have jr_26 := hw
                        obtain ⟨hP1, hK1, hD1⟩ := hB
                        rw [ht] at hP1
                        have hK1 := va_K.moved hvm.symm hK1
                        obtain ⟨hP, hD⟩ := va_join (wr := [(q5, .inl (c5, 16, .inl a5)), (q6, .inl (c6, 16, .inl a6)), (q7, .inl (c7, 16, .inl a7)), (q13, .inl (c13, 1000, .inl f13)), (q14, .inl (c14, 1000, .inl f14)), (q15, .inl (c15, 4096, .inl a15))]) (w1 := [(h0, .inr (8, [.int th, .ref q1, .ref q2, .ref q3, .ref q4, .ref q5, .ref q6, .ref q7, .ref q8, .ref q9, .ref q10, .ref q11, v12, .ref q13, .ref q14, .ref q15, v16])), (q1, .inl (c1, 16, .inl a1)), (q2, .inl (c2, 67200, .inl a2)), (q3, .inl (c3, 16, .inl a3)), (q4, .inl (c4, 16, .inl a4)), (q8, .inl (c8, 16, .inl a8)), (q9, .inl (c9, 16, .inl a9)), (q10, .inl (c10, 16, .inl a10)), (q11, .inl (c11, 16, .inl a11))]) hP hD [8, 9, 6, 7, 10, 11, 12, 13, 14] [0, 1, 2, 3, 4, 5] rfl rfl (by decide) (by decide) hk1 hFc hP1 hD1
                        clear hk1 hz1 ht hPc hDc hKc hFc
                        generalize H1 = H at hP hS ⊢
                        replace hP : va_P (dC, dI) vwCl [(q5, .inl (c5, 16, .inl a5)), (q6, .inl (c6, 16, .inl a6)), (q7, .inl (c7, 16, .inl a7)), (q13, .inl (c13, 1000, .inl f13)), (q14, .inl (c14, 1000, .inl f14)), (q15, .inl (c15, 4096, .inl a15)), (h0, .inr (8, [.int th, .ref q1, .ref q2, .ref q3, .ref q4, .ref q5, .ref q6, .ref q7, .ref q8, .ref q9, .ref q10, .ref q11, v12, .ref q13, .ref q14, .ref q15, v16])), (q1, .inl (c1, 16, .inl a1)), (q2, .inl (c2, 67200, .inl a2)), (q3, .inl (c3, 16, .inl a3)), (q4, .inl (c4, 16, .inl a4)), (q8, .inl (c8, 16, .inl a8)), (q9, .inl (c9, 16, .inl a9)), (q10, .inl (c10, 16, .inl a10)), (q11, .inl (c11, 16, .inl a11))] H := hP
                        replace hD : va_D A [(q5, .inl (c5, 16, .inl a5)), (q6, .inl (c6, 16, .inl a6)), (q7, .inl (c7, 16, .inl a7)), (q13, .inl (c13, 1000, .inl f13)), (q14, .inl (c14, 1000, .inl f14)), (q15, .inl (c15, 4096, .inl a15)), (h0, .inr (8, [.int th, .ref q1, .ref q2, .ref q3, .ref q4, .ref q5, .ref q6, .ref q7, .ref q8, .ref q9, .ref q10, .ref q11, v12, .ref q13, .ref q14, .ref q15, v16])), (q1, .inl (c1, 16, .inl a1)), (q2, .inl (c2, 67200, .inl a2)), (q3, .inl (c3, 16, .inl a3)), (q4, .inl (c4, 16, .inl a4)), (q8, .inl (c8, 16, .inl a8)), (q9, .inl (c9, 16, .inl a9)), (q10, .inl (c10, 16, .inl a10)), (q11, .inl (c11, 16, .inl a11))] := hD
                        refine W.widen (k := 0) (n := 0) (Nat.le_of_ble_eq_true rfl) (Nat.le_of_ble_eq_true rfl) ?_
                        refine W.eq (g2 := F0 m 193 ls [.int r_26]) rfl ?_
                        refine lv_if_ge (tgt := 200) hx hb dX8_allOf_193 (by decide) (fun c_27 => ?_) (fun c_27 => ?_)
                        ·
                          have ic_27 : 0 ≤ r_26.toInt := tx_le (by decide) rfl c_27
                          refine lv_iconst (v := 0) hx hb dX8_allOf_200 (by decide) ?_
                          refine lv_istore (lv' := [(7, .int 0), (8, .int (nI i7)), (6, .int (nI i8)), (5, .int g8), (4, .int (nI r)), (3, .int (nI ne)), (0, .ref h0), (1, .int (nI o)), (2, .int (nI o2))]) hx hb dX8_allOf_201 hl (by decide) rfl (fun ls hl => ?_)
                          refine lv_iinc (v := nI (i7 + 1)) (lv' := [(8, .int (nI (i7 + 1))), (7, .int 0), (6, .int (nI i8)), (5, .int g8), (4, .int (nI r)), (3, .int (nI ne)), (0, .ref h0), (1, .int (nI o)), (2, .int (nI o2))]) hx hb dX8_allOf_203 hl (k := 1) rfl (by rw [show Int32.ofInt 1 = nI 1 from rfl, nI_add]) (by decide) rfl (fun ls hl => ?_)
                          refine lv_goto (tgt := 131) hx hb dX8_allOf_206 (by decide) ?_
                          exact ihC (i7 := i7 + 1) (x7 := nI (i7 + 1)) (ex7 := rfl) (g7 := 0) (ls := ls) (H := H) (locs := locs) (hP := hP.sub (ws' := [(q5, .inl (c5, 16, .inl a5)), (q6, .inl (c6, 16, .inl a6)), (q7, .inl (c7, 16, .inl a7)), (q13, .inl (c13, 1000, .inl f13)), (q14, .inl (c14, 1000, .inl f14)), (q15, .inl (c15, 4096, .inl a15)), (q2, .inl (c2, 67200, .inl a2)), (q3, .inl (c3, 16, .inl a3)), (h0, .inr (8, [.int th, .ref q1, .ref q2, .ref q3, .ref q4, .ref q5, .ref q6, .ref q7, .ref q8, .ref q9, .ref q10, .ref q11, v12, .ref q13, .ref q14, .ref q15, v16])), (q1, .inl (c1, 16, .inl a1)), (q4, .inl (c4, 16, .inl a4)), (q8, .inl (c8, 16, .inl a8)), (q9, .inl (c9, 16, .inl a9)), (q10, .inl (c10, 16, .inl a10)), (q11, .inl (c11, 16, .inl a11))]) [0, 1, 2, 3, 4, 5, 8, 9, 6, 7, 10, 11, 12, 13, 14] rfl) (hS := hS) (hi7 := by omega) (hn7 := by omega) (hl := lv_sub hl [0, 1, 2, 3, 4, 5, 6, 7, 8] rfl)
                        ·
                          have ic_27 : r_26.toInt < 0 := tx_nle (by decide) rfl c_27
                          refine lv_iconst (v := 1) hx hb dX8_allOf_196 (by decide) ?_
                          refine lv_goto (tgt := 201) hx hb dX8_allOf_197 (by decide) ?_
                          refine lv_istore (lv' := [(7, .int 1), (8, .int (nI i7)), (6, .int (nI i8)), (5, .int g8), (4, .int (nI r)), (3, .int (nI ne)), (0, .ref h0), (1, .int (nI o)), (2, .int (nI o2))]) hx hb dX8_allOf_201 hl (by decide) rfl (fun ls hl => ?_)
                          refine lv_iinc (v := nI (i7 + 1)) (lv' := [(8, .int (nI (i7 + 1))), (7, .int 1), (6, .int (nI i8)), (5, .int g8), (4, .int (nI r)), (3, .int (nI ne)), (0, .ref h0), (1, .int (nI o)), (2, .int (nI o2))]) hx hb dX8_allOf_203 hl (k := 1) rfl (by rw [show Int32.ofInt 1 = nI 1 from rfl, nI_add]) (by decide) rfl (fun ls hl => ?_)
                          refine lv_goto (tgt := 131) hx hb dX8_allOf_206 (by decide) ?_
                          exact ihC (i7 := i7 + 1) (x7 := nI (i7 + 1)) (ex7 := rfl) (g7 := 1) (ls := ls) (H := H) (locs := locs) (hP := hP.sub (ws' := [(q5, .inl (c5, 16, .inl a5)), (q6, .inl (c6, 16, .inl a6)), (q7, .inl (c7, 16, .inl a7)), (q13, .inl (c13, 1000, .inl f13)), (q14, .inl (c14, 1000, .inl f14)), (q15, .inl (c15, 4096, .inl a15)), (q2, .inl (c2, 67200, .inl a2)), (q3, .inl (c3, 16, .inl a3)), (h0, .inr (8, [.int th, .ref q1, .ref q2, .ref q3, .ref q4, .ref q5, .ref q6, .ref q7, .ref q8, .ref q9, .ref q10, .ref q11, v12, .ref q13, .ref q14, .ref q15, v16])), (q1, .inl (c1, 16, .inl a1)), (q4, .inl (c4, 16, .inl a4)), (q8, .inl (c8, 16, .inl a8)), (q9, .inl (c9, 16, .inl a9)), (q10, .inl (c10, 16, .inl a10)), (q11, .inl (c11, 16, .inl a11))]) [0, 1, 2, 3, 4, 5, 8, 9, 6, 7, 10, 11, 12, 13, 14] rfl) (hS := hS) (hi7 := by omega) (hn7 := by omega) (hl := lv_sub hl [0, 1, 2, 3, 4, 5, 6, 7, 8] rfl)
            ·
              have ic_18 : (tz (winN a1 a8 a11 a9 a10 a4 17 o (f13 i8))).toInt = 0 := tx_eq rfl (by decide) c_18
              refine lv_aload_n hx hb dX8_allOf_118 rfl (lv_at hl 4 rfl) ?_
              refine lv_iconst (v := 3) hx hb dX8_allOf_119 (by decide) ?_
              have hPc := hP.sub (ws' := [(h0, .inr (8, [.int th, .ref q1, .ref q2, .ref q3, .ref q4, .ref q5, .ref q6, .ref q7, .ref q8, .ref q9, .ref q10, .ref q11, v12, .ref q13, .ref q14, .ref q15, v16]))]) [8] rfl
              have hDc := hD.sub (ws' := [(h0, .inr (8, [.int th, .ref q1, .ref q2, .ref q3, .ref q4, .ref q5, .ref q6, .ref q7, .ref q8, .ref q9, .ref q10, .ref q11, v12, .ref q13, .ref q14, .ref q15, v16]))]) [8] (by decide) rfl
              have hKc := hK.sub (tys' := []) [] rfl
              have hFc := va_free (wc := [(h0, .inr (8, [.int th, .ref q1, .ref q2, .ref q3, .ref q4, .ref q5, .ref q6, .ref q7, .ref q8, .ref q9, .ref q10, .ref q11, v12, .ref q13, .ref q14, .ref q15, v16]))]) hD hS hA [8] rfl
              refine va_calli (va_runV (As := [.int 3]) (rest := []) ⟨hx, hb, hml, hown, hts⟩ (c_X8_refuse l  dC dI H.size h0 th (.ref q1) (.ref q2) (.ref q3) (.ref q4) (.ref q5) (.ref q6) (.ref q7) (.ref q8) (.ref q9) (.ref q10) (.ref q11) v12 (.ref q13) (.ref q14) (.ref q15) v16 3) (cwV 1 hts gX8_allOf_X8_refuse rfl rfl rfl (by decide +kernel) ⟨(Nat.le_of_ble_eq_true rfl), (Nat.le_of_ble_eq_true rfl)⟩) ⟨pk_blind, va_recv hKc hPc (ci := 8) (q0 := 0) rfl rfl, pk_call hPc hKc hDc⟩ rfl rfl hl.1 rfl (lv_room (Nat.le_of_ble_eq_true rfl)) dX8_allOf_120 ⟨(Nat.le_of_ble_eq_true rfl), (Nat.le_of_ble_eq_true rfl)⟩) hS (fun q _ h => hFc q h) hFc (fun r_28 ur_28 t H1 locs ht hvm hw hB hz1 hk1 hS => ?_)
              try dsimp only at hw
              obtain ⟨hP1, hK1, hD1⟩ := hB
              rw [ht] at hP1
              have hK1 := va_K.moved hvm.symm hK1
              obtain ⟨hP, hD⟩ := va_join (wr := [(q5, .inl (c5, 16, .inl a5)), (q6, .inl (c6, 16, .inl a6)), (q7, .inl (c7, 16, .inl a7)), (q13, .inl (c13, 1000, .inl f13)), (q14, .inl (c14, 1000, .inl f14)), (q15, .inl (c15, 4096, .inl a15)), (q2, .inl (c2, 67200, .inl a2)), (q3, .inl (c3, 16, .inl a3)), (q1, .inl (c1, 16, .inl a1)), (q4, .inl (c4, 16, .inl a4)), (q8, .inl (c8, 16, .inl a8)), (q9, .inl (c9, 16, .inl a9)), (q10, .inl (c10, 16, .inl a10)), (q11, .inl (c11, 16, .inl a11))]) (w1 := [(h0, .inr (8, [.int 3, .ref q1, .ref q2, .ref q3, .ref q4, .ref q5, .ref q6, .ref q7, .ref q8, .ref q9, .ref q10, .ref q11, v12, .ref q13, .ref q14, .ref q15, v16]))]) hP hD [8] [0, 1, 2, 3, 4, 5, 6, 7, 9, 10, 11, 12, 13, 14] rfl rfl (by decide) (by decide) hk1 hFc hP1 hD1
              clear hk1 hz1 ht hPc hDc hKc hFc
              generalize H1 = H at hP hS ⊢
              replace hP : va_P (dC, dI) vwCl [(q5, .inl (c5, 16, .inl a5)), (q6, .inl (c6, 16, .inl a6)), (q7, .inl (c7, 16, .inl a7)), (q13, .inl (c13, 1000, .inl f13)), (q14, .inl (c14, 1000, .inl f14)), (q15, .inl (c15, 4096, .inl a15)), (q2, .inl (c2, 67200, .inl a2)), (q3, .inl (c3, 16, .inl a3)), (q1, .inl (c1, 16, .inl a1)), (q4, .inl (c4, 16, .inl a4)), (q8, .inl (c8, 16, .inl a8)), (q9, .inl (c9, 16, .inl a9)), (q10, .inl (c10, 16, .inl a10)), (q11, .inl (c11, 16, .inl a11)), (h0, .inr (8, [.int 3, .ref q1, .ref q2, .ref q3, .ref q4, .ref q5, .ref q6, .ref q7, .ref q8, .ref q9, .ref q10, .ref q11, v12, .ref q13, .ref q14, .ref q15, v16]))] H := hP
              replace hD : va_D A [(q5, .inl (c5, 16, .inl a5)), (q6, .inl (c6, 16, .inl a6)), (q7, .inl (c7, 16, .inl a7)), (q13, .inl (c13, 1000, .inl f13)), (q14, .inl (c14, 1000, .inl f14)), (q15, .inl (c15, 4096, .inl a15)), (q2, .inl (c2, 67200, .inl a2)), (q3, .inl (c3, 16, .inl a3)), (q1, .inl (c1, 16, .inl a1)), (q4, .inl (c4, 16, .inl a4)), (q8, .inl (c8, 16, .inl a8)), (q9, .inl (c9, 16, .inl a9)), (q10, .inl (c10, 16, .inl a10)), (q11, .inl (c11, 16, .inl a11)), (h0, .inr (8, [.int 3, .ref q1, .ref q2, .ref q3, .ref q4, .ref q5, .ref q6, .ref q7, .ref q8, .ref q9, .ref q10, .ref q11, v12, .ref q13, .ref q14, .ref q15, v16]))] := hD
              refine W.widen (k := 0) (n := 0) (Nat.le_of_ble_eq_true rfl) (Nat.le_of_ble_eq_true rfl) ?_
              obtain rfl : r_28 = 0 := hw
              refine W.eq (g2 := F0 m 123 ls [.int 0]) rfl ?_
              refine lv_i2l (v := (0 : Int32).toInt64) hx hb dX8_allOf_123 rfl ?_
              have hP9 := hP.sub (ws' := [(h0, .inr (8, [.int 3, .ref q1, .ref q2, .ref q3, .ref q4, .ref q5, .ref q6, .ref q7, .ref q8, .ref q9, .ref q10, .ref q11, v12, .ref q13, .ref q14, .ref q15, v16])), (q1, .inl (c1, 16, .inl a1)), (q2, .inl (c2, 67200, .inl a2)), (q3, .inl (c3, 16, .inl a3)), (q4, .inl (c4, 16, .inl a4)), (q5, .inl (c5, 16, .inl a5)), (q6, .inl (c6, 16, .inl a6)), (q7, .inl (c7, 16, .inl a7)), (q8, .inl (c8, 16, .inl a8)), (q9, .inl (c9, 16, .inl a9)), (q10, .inl (c10, 16, .inl a10)), (q11, .inl (c11, 16, .inl a11)), (q13, .inl (c13, 1000, .inl f13)), (q14, .inl (c14, 1000, .inl f14)), (q15, .inl (c15, 4096, .inl a15))]) [14, 8, 6, 7, 9, 0, 1, 2, 10, 11, 12, 13, 3, 4, 5] rfl
              have hD9 := hD.sub (ws' := [(h0, .inr (8, [.int 3, .ref q1, .ref q2, .ref q3, .ref q4, .ref q5, .ref q6, .ref q7, .ref q8, .ref q9, .ref q10, .ref q11, v12, .ref q13, .ref q14, .ref q15, v16])), (q1, .inl (c1, 16, .inl a1)), (q2, .inl (c2, 67200, .inl a2)), (q3, .inl (c3, 16, .inl a3)), (q4, .inl (c4, 16, .inl a4)), (q5, .inl (c5, 16, .inl a5)), (q6, .inl (c6, 16, .inl a6)), (q7, .inl (c7, 16, .inl a7)), (q8, .inl (c8, 16, .inl a8)), (q9, .inl (c9, 16, .inl a9)), (q10, .inl (c10, 16, .inl a10)), (q11, .inl (c11, 16, .inl a11)), (q13, .inl (c13, 1000, .inl f13)), (q14, .inl (c14, 1000, .inl f14)), (q15, .inl (c15, 4096, .inl a15))]) [14, 8, 6, 7, 9, 0, 1, 2, 10, 11, 12, 13, 3, 4, 5] (by decide) rfl
              have hK9 := hK.sub (tys' := [(c1, .int), (c2, .int), (c3, .int), (c4, .int), (c5, .int), (c6, .int), (c7, .int), (c8, .int), (c9, .int), (c10, .int), (c11, .int), (c13, .int), (c14, .int), (c15, .boolean)]) [0, 1, 2, 3, 4, 5, 6, 7, 8, 9, 10, 11, 12, 13] rfl
              refine W.widen (k := 0) (n := 0) (Nat.le_of_ble_eq_true rfl) (Nat.le_of_ble_eq_true rfl) ?_
              exact W.lret (v := (0 : Int32).toInt64) hx hb hr (fun t ht hW => ⟨⟨(0 : Int32).toInt64, (3, a2, a3, a6, a7, f13, f14, a15), rfl, ⟨⟨0, by omega, rs_rf⟩, hM9⟩, by rw [ht]; exact hP9, va_K.moved hW.alike hK9, hD9⟩, hS.F ht⟩) hS.2.2 dX8_allOf_124
          ·
            have ic_16 : 0 ≤ r_15.toInt := tx_nlt rfl (by decide) c_16
            refine lv_goto (tgt := 224) hx hb dX8_allOf_100 (by decide) ?_
            refine lv_iinc (v := nI (i8 + 1)) (lv' := [(6, .int (nI (i8 + 1))), (5, .int g8), (4, .int (nI r)), (3, .int (nI ne)), (0, .ref h0), (1, .int (nI o)), (2, .int (nI o2))]) hx hb dX8_allOf_224 hl (k := 0) rfl (by rw [show Int32.ofInt 1 = nI 1 from rfl, nI_add]) (by decide) rfl (fun ls hl => ?_)
            refine lv_goto (tgt := 79) hx hb dX8_allOf_227 (by decide) ?_
            exact ihB (i8 := i8 + 1) (x8 := nI (i8 + 1)) (ex8 := rfl) (g8 := g8) (ls := ls) (H := H) (locs := locs) (hP := hP.sub (ws' := [(q5, .inl (c5, 16, .inl a5)), (q6, .inl (c6, 16, .inl a6)), (q7, .inl (c7, 16, .inl a7)), (q13, .inl (c13, 1000, .inl f13)), (q14, .inl (c14, 1000, .inl f14)), (q15, .inl (c15, 4096, .inl a15)), (q2, .inl (c2, 67200, .inl a2)), (q3, .inl (c3, 16, .inl a3)), (q4, .inl (c4, 16, .inl a4)), (q9, .inl (c9, 16, .inl a9)), (q10, .inl (c10, 16, .inl a10)), (q11, .inl (c11, 16, .inl a11)), (h0, .inr (8, [.int th, .ref q1, .ref q2, .ref q3, .ref q4, .ref q5, .ref q6, .ref q7, .ref q8, .ref q9, .ref q10, .ref q11, v12, .ref q13, .ref q14, .ref q15, v16])), (q1, .inl (c1, 16, .inl a1)), (q8, .inl (c8, 16, .inl a8))]) [0, 1, 2, 3, 4, 5, 8, 9, 10, 12, 13, 14, 6, 7, 11] rfl) (hS := hS) (hi8 := by omega) (hn8b := by omega) (hl := lv_sub hl [0, 1, 2, 3, 4, 5, 6] rfl)
    ·
      have ic_3 : ((i : Nat) : Int) < ((ne : Nat) : Int) := tx_nle (nI_toInt (by omega)) (nI_toInt (by omega)) c_3
      refine lv_aload_n hx hb dX8_allOf_22 rfl (lv_at hl 3 rfl) ?_
      refine lv_iload_n hx hb dX8_allOf_23 rfl (lv_at hl 5 rfl) ?_
      refine lv_iload hx hb dX8_allOf_24 (lv_at hl 0 rfl) ?_
      have hPc := hP.sub (ws' := [(h0, .inr (8, [.int th, .ref q1, .ref q2, .ref q3, .ref q4, .ref q5, .ref q6, .ref q7, .ref q8, .ref q9, .ref q10, .ref q11, v12, .ref q13, .ref q14, .ref q15, v16])), (q1, .inl (c1, 16, .inl a1)), (q2, .inl (c2, 67200, .inl a2)), (q3, .inl (c3, 16, .inl a3)), (q4, .inl (c4, 16, .inl a4)), (q8, .inl (c8, 16, .inl a8)), (q9, .inl (c9, 16, .inl a9)), (q10, .inl (c10, 16, .inl a10)), (q11, .inl (c11, 16, .inl a11))]) [12, 13, 6, 7, 8, 14, 9, 10, 11] rfl
      have hDc := hD.sub (ws' := [(h0, .inr (8, [.int th, .ref q1, .ref q2, .ref q3, .ref q4, .ref q5, .ref q6, .ref q7, .ref q8, .ref q9, .ref q10, .ref q11, v12, .ref q13, .ref q14, .ref q15, v16])), (q1, .inl (c1, 16, .inl a1)), (q2, .inl (c2, 67200, .inl a2)), (q3, .inl (c3, 16, .inl a3)), (q4, .inl (c4, 16, .inl a4)), (q8, .inl (c8, 16, .inl a8)), (q9, .inl (c9, 16, .inl a9)), (q10, .inl (c10, 16, .inl a10)), (q11, .inl (c11, 16, .inl a11))]) [12, 13, 6, 7, 8, 14, 9, 10, 11] (by decide) rfl
      have hKc := hK.sub (tys' := [(c1, .int), (c2, .int), (c3, .int), (c4, .int), (c8, .int), (c9, .int), (c10, .int), (c11, .int)]) [0, 1, 2, 3, 7, 8, 9, 10] rfl
      have hFc := va_free (wc := [(h0, .inr (8, [.int th, .ref q1, .ref q2, .ref q3, .ref q4, .ref q5, .ref q6, .ref q7, .ref q8, .ref q9, .ref q10, .ref q11, v12, .ref q13, .ref q14, .ref q15, v16])), (q1, .inl (c1, 16, .inl a1)), (q2, .inl (c2, 67200, .inl a2)), (q3, .inl (c3, 16, .inl a3)), (q4, .inl (c4, 16, .inl a4)), (q8, .inl (c8, 16, .inl a8)), (q9, .inl (c9, 16, .inl a9)), (q10, .inl (c10, 16, .inl a10)), (q11, .inl (c11, 16, .inl a11))]) hD hS hA [12, 13, 6, 7, 8, 14, 9, 10, 11] rfl
      refine va_calli (va_runV (As := [.int (nI o2), .int (nI i)]) (rest := []) ⟨hx, hb, hml, hown, hts⟩ (c_X8_nth l  dC dI H.size h0 th q1 q2 q3 q4 q8 q9 q10 q11 c1 c2 c3 c4 c8 c9 c10 c11 a1 a2 a3 a4 a8 a9 a10 a11 (.ref q5) (.ref q6) (.ref q7) v12 (.ref q13) (.ref q14) (.ref q15) v16 o2 dep n2 i ho8 hF9 hd8 (by rw [hrt8]; exact hs8) hz8 (by rw [← hne]; omega)) (cwV 2 hts gX8_allOf_X8_nth rfl rfl rfl (by decide +kernel) ⟨(Nat.le_of_ble_eq_true rfl), (Nat.le_of_ble_eq_true rfl)⟩) ⟨pk_blind, va_recv hKc hPc (ci := 8) (q0 := 0) rfl rfl, pk_call hPc hKc hDc⟩ rfl rfl hl.1 rfl (lv_room (Nat.le_of_ble_eq_true rfl)) dX8_allOf_26 ⟨(Nat.le_of_ble_eq_true rfl), (Nat.le_of_ble_eq_true rfl)⟩) hS (fun q _ h => hFc q h) hFc (fun r_29 ur_29 t H1 locs ht hvm hw hB hz1 hk1 hS => ?_)
      try dsimp only at hw
      have jr_29 := hw
      obtain ⟨hP1, hK1, hD1⟩ := hB
      rw [ht] at hP1
      have hK1 := va_K.moved hvm.symm hK1
      obtain ⟨hP, hD⟩ := va_join (wr := [(q5, .inl (c5, 16, .inl a5)), (q6, .inl (c6, 16, .inl a6)), (q7, .inl (c7, 16, .inl a7)), (q13, .inl (c13, 1000, .inl f13)), (q14, .inl (c14, 1000, .inl f14)), (q15, .inl (c15, 4096, .inl a15))]) (w1 := [(h0, .inr (8, [.int th, .ref q1, .ref q2, .ref q3, .ref q4, .ref q5, .ref q6, .ref q7, .ref q8, .ref q9, .ref q10, .ref q11, v12, .ref q13, .ref q14, .ref q15, v16])), (q1, .inl (c1, 16, .inl a1)), (q2, .inl (c2, 67200, .inl a2)), (q3, .inl (c3, 16, .inl a3)), (q4, .inl (c4, 16, .inl a4)), (q8, .inl (c8, 16, .inl a8)), (q9, .inl (c9, 16, .inl a9)), (q10, .inl (c10, 16, .inl a10)), (q11, .inl (c11, 16, .inl a11))]) hP hD [12, 13, 6, 7, 8, 14, 9, 10, 11] [0, 1, 2, 3, 4, 5] rfl rfl (by decide) (by decide) hk1 hFc hP1 hD1
      clear hk1 hz1 ht hPc hDc hKc hFc
      generalize H1 = H at hP hS ⊢
      replace hP : va_P (dC, dI) vwCl [(q5, .inl (c5, 16, .inl a5)), (q6, .inl (c6, 16, .inl a6)), (q7, .inl (c7, 16, .inl a7)), (q13, .inl (c13, 1000, .inl f13)), (q14, .inl (c14, 1000, .inl f14)), (q15, .inl (c15, 4096, .inl a15)), (h0, .inr (8, [.int th, .ref q1, .ref q2, .ref q3, .ref q4, .ref q5, .ref q6, .ref q7, .ref q8, .ref q9, .ref q10, .ref q11, v12, .ref q13, .ref q14, .ref q15, v16])), (q1, .inl (c1, 16, .inl a1)), (q2, .inl (c2, 67200, .inl a2)), (q3, .inl (c3, 16, .inl a3)), (q4, .inl (c4, 16, .inl a4)), (q8, .inl (c8, 16, .inl a8)), (q9, .inl (c9, 16, .inl a9)), (q10, .inl (c10, 16, .inl a10)), (q11, .inl (c11, 16, .inl a11))] H := hP
      replace hD : va_D A [(q5, .inl (c5, 16, .inl a5)), (q6, .inl (c6, 16, .inl a6)), (q7, .inl (c7, 16, .inl a7)), (q13, .inl (c13, 1000, .inl f13)), (q14, .inl (c14, 1000, .inl f14)), (q15, .inl (c15, 4096, .inl a15)), (h0, .inr (8, [.int th, .ref q1, .ref q2, .ref q3, .ref q4, .ref q5, .ref q6, .ref q7, .ref q8, .ref q9, .ref q10, .ref q11, v12, .ref q13, .ref q14, .ref q15, v16])), (q1, .inl (c1, 16, .inl a1)), (q2, .inl (c2, 67200, .inl a2)), (q3, .inl (c3, 16, .inl a3)), (q4, .inl (c4, 16, .inl a4)), (q8, .inl (c8, 16, .inl a8)), (q9, .inl (c9, 16, .inl a9)), (q10, .inl (c10, 16, .inl a10)), (q11, .inl (c11, 16, .inl a11))] := hD
      refine W.widen (k := 0) (n := 0) (Nat.le_of_ble_eq_true rfl) (Nat.le_of_ble_eq_true rfl) ?_
      obtain ⟨k8, hk8, rfl, hk8b⟩ := jr_29
      refine W.eq (g2 := F0 m 29 ls [.int (nI k8)]) rfl ?_
      refine lv_istore (lv' := [(6, .int (nI k8)), (5, .int (nI i)), (4, .int (nI r)), (3, .int (nI ne)), (0, .ref h0), (1, .int (nI o)), (2, .int (nI o2))]) hx hb dX8_allOf_29 hl (by decide) rfl (fun ls hl => ?_)
      refine lv_aload_n hx hb dX8_allOf_31 rfl (lv_at hl 4 rfl) ?_
      refine va_get (D := (dC, dI)) (ci := 8) (v := .ref q13) (C := RX8) (T := TX8) (N := 17) hx hb hts hi0_ hown hK hP 6 rfl rfl 13 (by decide) hw1_ (fun _ h9 => h9) rfl dX8_allOf_32 ?_
      refine lv_iload hx hb dX8_allOf_35 (lv_at hl 1 rfl) ?_
      refine lv_aload_n hx hb dX8_allOf_37 rfl (lv_at hl 4 rfl) ?_
      refine lv_aload_n hx hb dX8_allOf_38 rfl (lv_at hl 4 rfl) ?_
      refine lv_iload_n hx hb dX8_allOf_39 rfl (lv_at hl 6 rfl) ?_
      have hPc := hP.sub (ws' := [(h0, .inr (8, [.int th, .ref q1, .ref q2, .ref q3, .ref q4, .ref q5, .ref q6, .ref q7, .ref q8, .ref q9, .ref q10, .ref q11, v12, .ref q13, .ref q14, .ref q15, v16])), (q1, .inl (c1, 16, .inl a1)), (q8, .inl (c8, 16, .inl a8))]) [6, 7, 11] rfl
      have hDc := hD.sub (ws' := [(h0, .inr (8, [.int th, .ref q1, .ref q2, .ref q3, .ref q4, .ref q5, .ref q6, .ref q7, .ref q8, .ref q9, .ref q10, .ref q11, v12, .ref q13, .ref q14, .ref q15, v16])), (q1, .inl (c1, 16, .inl a1)), (q8, .inl (c8, 16, .inl a8))]) [6, 7, 11] (by decide) rfl
      have hKc := hK.sub (tys' := [(c1, .int), (c8, .int)]) [0, 7] rfl
      have hFc := va_free (wc := [(h0, .inr (8, [.int th, .ref q1, .ref q2, .ref q3, .ref q4, .ref q5, .ref q6, .ref q7, .ref q8, .ref q9, .ref q10, .ref q11, v12, .ref q13, .ref q14, .ref q15, v16])), (q1, .inl (c1, 16, .inl a1)), (q8, .inl (c8, 16, .inl a8))]) hD hS hA [6, 7, 11] rfl
      refine va_calli (va_runV (As := [.int (nI o2)]) (rest := [.ref h0, .int (nI i), .ref q13]) ⟨hx, hb, hml, hown, hts⟩ (c_X8_root l  dC dI H.size h0 th q1 q8 c1 c8 a1 a8 (.ref q2) (.ref q3) (.ref q4) (.ref q5) (.ref q6) (.ref q7) (.ref q9) (.ref q10) (.ref q11) v12 (.ref q13) (.ref q14) (.ref q15) v16 o2 dep ho8 hF9 hd8) (cwV 1 hts gX8_allOf_X8_root rfl rfl rfl (by decide +kernel) ⟨(Nat.le_of_ble_eq_true rfl), (Nat.le_of_ble_eq_true rfl)⟩) ⟨pk_blind, va_recv hKc hPc (ci := 8) (q0 := 0) rfl rfl, pk_call hPc hKc hDc⟩ rfl rfl hl.1 rfl (lv_room (Nat.le_of_ble_eq_true rfl)) dX8_allOf_40 ⟨(Nat.le_of_ble_eq_true rfl), (Nat.le_of_ble_eq_true rfl)⟩) hS (fun q _ h => hFc q h) hFc (fun r_30 ur_30 t H1 locs ht hvm hw hB hz1 hk1 hS => ?_)
      try dsimp only at hw
      obtain ⟨er_30, hr7, hr6⟩ := hw
      rw [hrt8] at er_30 hr7 hr6
      obtain ⟨hP1, hK1, hD1⟩ := hB
      rw [ht] at hP1
      have hK1 := va_K.moved hvm.symm hK1
      obtain ⟨hP, hD⟩ := va_join (wr := [(q5, .inl (c5, 16, .inl a5)), (q6, .inl (c6, 16, .inl a6)), (q7, .inl (c7, 16, .inl a7)), (q13, .inl (c13, 1000, .inl f13)), (q14, .inl (c14, 1000, .inl f14)), (q15, .inl (c15, 4096, .inl a15)), (q2, .inl (c2, 67200, .inl a2)), (q3, .inl (c3, 16, .inl a3)), (q4, .inl (c4, 16, .inl a4)), (q9, .inl (c9, 16, .inl a9)), (q10, .inl (c10, 16, .inl a10)), (q11, .inl (c11, 16, .inl a11))]) (w1 := [(h0, .inr (8, [.int th, .ref q1, .ref q2, .ref q3, .ref q4, .ref q5, .ref q6, .ref q7, .ref q8, .ref q9, .ref q10, .ref q11, v12, .ref q13, .ref q14, .ref q15, v16])), (q1, .inl (c1, 16, .inl a1)), (q8, .inl (c8, 16, .inl a8))]) hP hD [6, 7, 11] [0, 1, 2, 3, 4, 5, 8, 9, 10, 12, 13, 14] rfl rfl (by decide) (by decide) hk1 hFc hP1 hD1
      clear hk1 hz1 ht hPc hDc hKc hFc
      generalize H1 = H at hP hS ⊢
      replace hP : va_P (dC, dI) vwCl [(q5, .inl (c5, 16, .inl a5)), (q6, .inl (c6, 16, .inl a6)), (q7, .inl (c7, 16, .inl a7)), (q13, .inl (c13, 1000, .inl f13)), (q14, .inl (c14, 1000, .inl f14)), (q15, .inl (c15, 4096, .inl a15)), (q2, .inl (c2, 67200, .inl a2)), (q3, .inl (c3, 16, .inl a3)), (q4, .inl (c4, 16, .inl a4)), (q9, .inl (c9, 16, .inl a9)), (q10, .inl (c10, 16, .inl a10)), (q11, .inl (c11, 16, .inl a11)), (h0, .inr (8, [.int th, .ref q1, .ref q2, .ref q3, .ref q4, .ref q5, .ref q6, .ref q7, .ref q8, .ref q9, .ref q10, .ref q11, v12, .ref q13, .ref q14, .ref q15, v16])), (q1, .inl (c1, 16, .inl a1)), (q8, .inl (c8, 16, .inl a8))] H := hP
      replace hD : va_D A [(q5, .inl (c5, 16, .inl a5)), (q6, .inl (c6, 16, .inl a6)), (q7, .inl (c7, 16, .inl a7)), (q13, .inl (c13, 1000, .inl f13)), (q14, .inl (c14, 1000, .inl f14)), (q15, .inl (c15, 4096, .inl a15)), (q2, .inl (c2, 67200, .inl a2)), (q3, .inl (c3, 16, .inl a3)), (q4, .inl (c4, 16, .inl a4)), (q9, .inl (c9, 16, .inl a9)), (q10, .inl (c10, 16, .inl a10)), (q11, .inl (c11, 16, .inl a11)), (h0, .inr (8, [.int th, .ref q1, .ref q2, .ref q3, .ref q4, .ref q5, .ref q6, .ref q7, .ref q8, .ref q9, .ref q10, .ref q11, v12, .ref q13, .ref q14, .ref q15, v16])), (q1, .inl (c1, 16, .inl a1)), (q8, .inl (c8, 16, .inl a8))] := hD
      refine W.widen (k := 0) (n := 0) (Nat.le_of_ble_eq_true rfl) (Nat.le_of_ble_eq_true rfl) ?_
      subst er_30
      refine W.eq (g2 := F0 m 43 ls [.int (nI r2), .ref h0, .int (nI i), .ref q13]) rfl ?_
      refine lv_iload hx hb dX8_allOf_43 (lv_at hl 0 rfl) ?_
      have hPc := hP.sub (ws' := [(h0, .inr (8, [.int th, .ref q1, .ref q2, .ref q3, .ref q4, .ref q5, .ref q6, .ref q7, .ref q8, .ref q9, .ref q10, .ref q11, v12, .ref q13, .ref q14, .ref q15, v16])), (q2, .inl (c2, 67200, .inl a2))]) [12, 6] rfl
      have hDc := hD.sub (ws' := [(h0, .inr (8, [.int th, .ref q1, .ref q2, .ref q3, .ref q4, .ref q5, .ref q6, .ref q7, .ref q8, .ref q9, .ref q10, .ref q11, v12, .ref q13, .ref q14, .ref q15, v16])), (q2, .inl (c2, 67200, .inl a2))]) [12, 6] (by decide) rfl
      have hKc := hK.sub (tys' := [(c2, .int)]) [1] rfl
      have hFc := va_free (wc := [(h0, .inr (8, [.int th, .ref q1, .ref q2, .ref q3, .ref q4, .ref q5, .ref q6, .ref q7, .ref q8, .ref q9, .ref q10, .ref q11, v12, .ref q13, .ref q14, .ref q15, v16])), (q2, .inl (c2, 67200, .inl a2))]) hD hS hA [12, 6] rfl
      refine va_calli (va_runV (As := [.int (nI r2), .int (nI k8)]) (rest := [.int (nI i), .ref q13]) ⟨hx, hb, hml, hown, hts⟩ (c_X8_key l  dC dI H.size h0 th q2 c2 a2 (.ref q1) (.ref q3) (.ref q4) (.ref q5) (.ref q6) (.ref q7) (.ref q8) (.ref q9) (.ref q10) (.ref q11) v12 (.ref q13) (.ref q14) (.ref q15) v16 r2 k8 hr7 (by omega)) (cwV 2 hts gX8_allOf_X8_key rfl rfl rfl (by decide +kernel) ⟨(Nat.le_of_ble_eq_true rfl), (Nat.le_of_ble_eq_true rfl)⟩) ⟨pk_blind, va_recv hKc hPc (ci := 8) (q0 := 0) rfl rfl, pk_call hPc hKc hDc⟩ rfl rfl hl.1 rfl (lv_room (Nat.le_of_ble_eq_true rfl)) dX8_allOf_45 ⟨(Nat.le_of_ble_eq_true rfl), (Nat.le_of_ble_eq_true rfl)⟩) hS (fun q _ h => hFc q h) hFc (fun r_31 ur_31 t H1 locs ht hvm hw hB hz1 hk1 hS => ?_)
      try dsimp only at hw
      obtain ⟨hP1, hK1, hD1⟩ := hB
      rw [ht] at hP1
      have hK1 := va_K.moved hvm.symm hK1
      obtain ⟨hP, hD⟩ := va_join (wr := [(q5, .inl (c5, 16, .inl a5)), (q6, .inl (c6, 16, .inl a6)), (q7, .inl (c7, 16, .inl a7)), (q13, .inl (c13, 1000, .inl f13)), (q14, .inl (c14, 1000, .inl f14)), (q15, .inl (c15, 4096, .inl a15)), (q3, .inl (c3, 16, .inl a3)), (q4, .inl (c4, 16, .inl a4)), (q9, .inl (c9, 16, .inl a9)), (q10, .inl (c10, 16, .inl a10)), (q11, .inl (c11, 16, .inl a11)), (q1, .inl (c1, 16, .inl a1)), (q8, .inl (c8, 16, .inl a8))]) (w1 := [(h0, .inr (8, [.int th, .ref q1, .ref q2, .ref q3, .ref q4, .ref q5, .ref q6, .ref q7, .ref q8, .ref q9, .ref q10, .ref q11, v12, .ref q13, .ref q14, .ref q15, v16])), (q2, .inl (c2, 67200, .inl a2))]) hP hD [12, 6] [0, 1, 2, 3, 4, 5, 7, 8, 9, 10, 11, 13, 14] rfl rfl (by decide) (by decide) hk1 hFc hP1 hD1
      clear hk1 hz1 ht hPc hDc hKc hFc
      generalize H1 = H at hP hS ⊢
      replace hP : va_P (dC, dI) vwCl [(q5, .inl (c5, 16, .inl a5)), (q6, .inl (c6, 16, .inl a6)), (q7, .inl (c7, 16, .inl a7)), (q13, .inl (c13, 1000, .inl f13)), (q14, .inl (c14, 1000, .inl f14)), (q15, .inl (c15, 4096, .inl a15)), (q3, .inl (c3, 16, .inl a3)), (q4, .inl (c4, 16, .inl a4)), (q9, .inl (c9, 16, .inl a9)), (q10, .inl (c10, 16, .inl a10)), (q11, .inl (c11, 16, .inl a11)), (q1, .inl (c1, 16, .inl a1)), (q8, .inl (c8, 16, .inl a8)), (h0, .inr (8, [.int th, .ref q1, .ref q2, .ref q3, .ref q4, .ref q5, .ref q6, .ref q7, .ref q8, .ref q9, .ref q10, .ref q11, v12, .ref q13, .ref q14, .ref q15, v16])), (q2, .inl (c2, 67200, .inl a2))] H := hP
      replace hD : va_D A [(q5, .inl (c5, 16, .inl a5)), (q6, .inl (c6, 16, .inl a6)), (q7, .inl (c7, 16, .inl a7)), (q13, .inl (c13, 1000, .inl f13)), (q14, .inl (c14, 1000, .inl f14)), (q15, .inl (c15, 4096, .inl a15)), (q3, .inl (c3, 16, .inl a3)), (q4, .inl (c4, 16, .inl a4)), (q9, .inl (c9, 16, .inl a9)), (q10, .inl (c10, 16, .inl a10)), (q11, .inl (c11, 16, .inl a11)), (q1, .inl (c1, 16, .inl a1)), (q8, .inl (c8, 16, .inl a8)), (h0, .inr (8, [.int th, .ref q1, .ref q2, .ref q3, .ref q4, .ref q5, .ref q6, .ref q7, .ref q8, .ref q9, .ref q10, .ref q11, v12, .ref q13, .ref q14, .ref q15, v16])), (q2, .inl (c2, 67200, .inl a2))] := hD
      refine W.widen (k := 0) (n := 0) (Nat.le_of_ble_eq_true rfl) (Nat.le_of_ble_eq_true rfl) ?_
      obtain rfl : r_31 = a2 (4200 * r2 + k8) := hw
      refine W.eq (g2 := F0 m 48 ls [.int (a2 (4200 * r2 + k8)), .int (nI i), .ref q13]) rfl ?_
      refine va_iast (i := nI i) hx hb hK hP hD hS 3 11 rfl rfl (vp_in_nI (by omega) (by omega)) dX8_allOf_48 (fun H locs hP hD hS => ?_)
      rw [nI_clamp (by omega)] at hP hD
      replace hP : va_P (dC, dI) vwCl [(q5, .inl (c5, 16, .inl a5)), (q6, .inl (c6, 16, .inl a6)), (q7, .inl (c7, 16, .inl a7)), (q13, .inl (c13, 1000, .inl (upd f13 i (a2 (4200 * r2 + k8))))), (q14, .inl (c14, 1000, .inl f14)), (q15, .inl (c15, 4096, .inl a15)), (q3, .inl (c3, 16, .inl a3)), (q4, .inl (c4, 16, .inl a4)), (q9, .inl (c9, 16, .inl a9)), (q10, .inl (c10, 16, .inl a10)), (q11, .inl (c11, 16, .inl a11)), (q1, .inl (c1, 16, .inl a1)), (q8, .inl (c8, 16, .inl a8)), (h0, .inr (8, [.int th, .ref q1, .ref q2, .ref q3, .ref q4, .ref q5, .ref q6, .ref q7, .ref q8, .ref q9, .ref q10, .ref q11, v12, .ref q13, .ref q14, .ref q15, v16])), (q2, .inl (c2, 67200, .inl a2))] H := hP
      replace hD : va_D A [(q5, .inl (c5, 16, .inl a5)), (q6, .inl (c6, 16, .inl a6)), (q7, .inl (c7, 16, .inl a7)), (q13, .inl (c13, 1000, .inl (upd f13 i (a2 (4200 * r2 + k8))))), (q14, .inl (c14, 1000, .inl f14)), (q15, .inl (c15, 4096, .inl a15)), (q3, .inl (c3, 16, .inl a3)), (q4, .inl (c4, 16, .inl a4)), (q9, .inl (c9, 16, .inl a9)), (q10, .inl (c10, 16, .inl a10)), (q11, .inl (c11, 16, .inl a11)), (q1, .inl (c1, 16, .inl a1)), (q8, .inl (c8, 16, .inl a8)), (h0, .inr (8, [.int th, .ref q1, .ref q2, .ref q3, .ref q4, .ref q5, .ref q6, .ref q7, .ref q8, .ref q9, .ref q10, .ref q11, v12, .ref q13, .ref q14, .ref q15, v16])), (q2, .inl (c2, 67200, .inl a2))] := hD
      refine lv_aload_n hx hb dX8_allOf_49 rfl (lv_at hl 4 rfl) ?_
      refine va_get (D := (dC, dI)) (ci := 8) (v := .ref q14) (C := RX8) (T := TX8) (N := 17) hx hb hts hi0_ hown hK hP 13 rfl rfl 14 (by decide) hw2_ (fun _ h9 => h9) rfl dX8_allOf_50 ?_
      refine lv_iload hx hb dX8_allOf_53 (lv_at hl 1 rfl) ?_
      refine lv_aload_n hx hb dX8_allOf_55 rfl (lv_at hl 4 rfl) ?_
      refine lv_aload_n hx hb dX8_allOf_56 rfl (lv_at hl 4 rfl) ?_
      refine lv_iload_n hx hb dX8_allOf_57 rfl (lv_at hl 6 rfl) ?_
      have hPc := hP.sub (ws' := [(h0, .inr (8, [.int th, .ref q1, .ref q2, .ref q3, .ref q4, .ref q5, .ref q6, .ref q7, .ref q8, .ref q9, .ref q10, .ref q11, v12, .ref q13, .ref q14, .ref q15, v16])), (q1, .inl (c1, 16, .inl a1)), (q8, .inl (c8, 16, .inl a8))]) [13, 11, 12] rfl
      have hDc := hD.sub (ws' := [(h0, .inr (8, [.int th, .ref q1, .ref q2, .ref q3, .ref q4, .ref q5, .ref q6, .ref q7, .ref q8, .ref q9, .ref q10, .ref q11, v12, .ref q13, .ref q14, .ref q15, v16])), (q1, .inl (c1, 16, .inl a1)), (q8, .inl (c8, 16, .inl a8))]) [13, 11, 12] (by decide) rfl
      have hKc := hK.sub (tys' := [(c1, .int), (c8, .int)]) [0, 7] rfl
      have hFc := va_free (wc := [(h0, .inr (8, [.int th, .ref q1, .ref q2, .ref q3, .ref q4, .ref q5, .ref q6, .ref q7, .ref q8, .ref q9, .ref q10, .ref q11, v12, .ref q13, .ref q14, .ref q15, v16])), (q1, .inl (c1, 16, .inl a1)), (q8, .inl (c8, 16, .inl a8))]) hD hS hA [13, 11, 12] rfl
      refine va_calli (va_runV (As := [.int (nI o2)]) (rest := [.ref h0, .int (nI i), .ref q14]) ⟨hx, hb, hml, hown, hts⟩ (c_X8_root l  dC dI H.size h0 th q1 q8 c1 c8 a1 a8 (.ref q2) (.ref q3) (.ref q4) (.ref q5) (.ref q6) (.ref q7) (.ref q9) (.ref q10) (.ref q11) v12 (.ref q13) (.ref q14) (.ref q15) v16 o2 dep ho8 hF9 hd8) (cwV 1 hts gX8_allOf_X8_root rfl rfl rfl (by decide +kernel) ⟨(Nat.le_of_ble_eq_true rfl), (Nat.le_of_ble_eq_true rfl)⟩) ⟨pk_blind, va_recv hKc hPc (ci := 8) (q0 := 0) rfl rfl, pk_call hPc hKc hDc⟩ rfl rfl hl.1 rfl (lv_room (Nat.le_of_ble_eq_true rfl)) dX8_allOf_58 ⟨(Nat.le_of_ble_eq_true rfl), (Nat.le_of_ble_eq_true rfl)⟩) hS (fun q _ h => hFc q h) hFc (fun r_32 ur_32 t H1 locs ht hvm hw hB hz1 hk1 hS => ?_)
      try dsimp only at hw
      obtain ⟨er_32, hr7, hr6⟩ := hw
      rw [hrt8] at er_32 hr7 hr6
      obtain ⟨hP1, hK1, hD1⟩ := hB
      rw [ht] at hP1
      have hK1 := va_K.moved hvm.symm hK1
      obtain ⟨hP, hD⟩ := va_join (wr := [(q5, .inl (c5, 16, .inl a5)), (q6, .inl (c6, 16, .inl a6)), (q7, .inl (c7, 16, .inl a7)), (q13, .inl (c13, 1000, .inl (upd f13 i (a2 (4200 * r2 + k8))))), (q14, .inl (c14, 1000, .inl f14)), (q15, .inl (c15, 4096, .inl a15)), (q3, .inl (c3, 16, .inl a3)), (q4, .inl (c4, 16, .inl a4)), (q9, .inl (c9, 16, .inl a9)), (q10, .inl (c10, 16, .inl a10)), (q11, .inl (c11, 16, .inl a11)), (q2, .inl (c2, 67200, .inl a2))]) (w1 := [(h0, .inr (8, [.int th, .ref q1, .ref q2, .ref q3, .ref q4, .ref q5, .ref q6, .ref q7, .ref q8, .ref q9, .ref q10, .ref q11, v12, .ref q13, .ref q14, .ref q15, v16])), (q1, .inl (c1, 16, .inl a1)), (q8, .inl (c8, 16, .inl a8))]) hP hD [13, 11, 12] [0, 1, 2, 3, 4, 5, 6, 7, 8, 9, 10, 14] rfl rfl (by decide) (by decide) hk1 hFc hP1 hD1
      clear hk1 hz1 ht hPc hDc hKc hFc
      generalize H1 = H at hP hS ⊢
      replace hP : va_P (dC, dI) vwCl [(q5, .inl (c5, 16, .inl a5)), (q6, .inl (c6, 16, .inl a6)), (q7, .inl (c7, 16, .inl a7)), (q13, .inl (c13, 1000, .inl (upd f13 i (a2 (4200 * r2 + k8))))), (q14, .inl (c14, 1000, .inl f14)), (q15, .inl (c15, 4096, .inl a15)), (q3, .inl (c3, 16, .inl a3)), (q4, .inl (c4, 16, .inl a4)), (q9, .inl (c9, 16, .inl a9)), (q10, .inl (c10, 16, .inl a10)), (q11, .inl (c11, 16, .inl a11)), (q2, .inl (c2, 67200, .inl a2)), (h0, .inr (8, [.int th, .ref q1, .ref q2, .ref q3, .ref q4, .ref q5, .ref q6, .ref q7, .ref q8, .ref q9, .ref q10, .ref q11, v12, .ref q13, .ref q14, .ref q15, v16])), (q1, .inl (c1, 16, .inl a1)), (q8, .inl (c8, 16, .inl a8))] H := hP
      replace hD : va_D A [(q5, .inl (c5, 16, .inl a5)), (q6, .inl (c6, 16, .inl a6)), (q7, .inl (c7, 16, .inl a7)), (q13, .inl (c13, 1000, .inl (upd f13 i (a2 (4200 * r2 + k8))))), (q14, .inl (c14, 1000, .inl f14)), (q15, .inl (c15, 4096, .inl a15)), (q3, .inl (c3, 16, .inl a3)), (q4, .inl (c4, 16, .inl a4)), (q9, .inl (c9, 16, .inl a9)), (q10, .inl (c10, 16, .inl a10)), (q11, .inl (c11, 16, .inl a11)), (q2, .inl (c2, 67200, .inl a2)), (h0, .inr (8, [.int th, .ref q1, .ref q2, .ref q3, .ref q4, .ref q5, .ref q6, .ref q7, .ref q8, .ref q9, .ref q10, .ref q11, v12, .ref q13, .ref q14, .ref q15, v16])), (q1, .inl (c1, 16, .inl a1)), (q8, .inl (c8, 16, .inl a8))] := hD
      refine W.widen (k := 0) (n := 0) (Nat.le_of_ble_eq_true rfl) (Nat.le_of_ble_eq_true rfl) ?_
      subst er_32
      refine W.eq (g2 := F0 m 61 ls [.int (nI r2), .ref h0, .int (nI i), .ref q14]) rfl ?_
      refine lv_iload hx hb dX8_allOf_61 (lv_at hl 0 rfl) ?_
      have hPc := hP.sub (ws' := [(h0, .inr (8, [.int th, .ref q1, .ref q2, .ref q3, .ref q4, .ref q5, .ref q6, .ref q7, .ref q8, .ref q9, .ref q10, .ref q11, v12, .ref q13, .ref q14, .ref q15, v16])), (q2, .inl (c2, 67200, .inl a2))]) [12, 11] rfl
      have hDc := hD.sub (ws' := [(h0, .inr (8, [.int th, .ref q1, .ref q2, .ref q3, .ref q4, .ref q5, .ref q6, .ref q7, .ref q8, .ref q9, .ref q10, .ref q11, v12, .ref q13, .ref q14, .ref q15, v16])), (q2, .inl (c2, 67200, .inl a2))]) [12, 11] (by decide) rfl
      have hKc := hK.sub (tys' := [(c2, .int)]) [1] rfl
      have hFc := va_free (wc := [(h0, .inr (8, [.int th, .ref q1, .ref q2, .ref q3, .ref q4, .ref q5, .ref q6, .ref q7, .ref q8, .ref q9, .ref q10, .ref q11, v12, .ref q13, .ref q14, .ref q15, v16])), (q2, .inl (c2, 67200, .inl a2))]) hD hS hA [12, 11] rfl
      refine va_calli (va_runV (As := [.int (nI r2), .int (nI k8)]) (rest := [.int (nI i), .ref q14]) ⟨hx, hb, hml, hown, hts⟩ (c_X8_value l  dC dI H.size h0 th q2 c2 a2 (.ref q1) (.ref q3) (.ref q4) (.ref q5) (.ref q6) (.ref q7) (.ref q8) (.ref q9) (.ref q10) (.ref q11) v12 (.ref q13) (.ref q14) (.ref q15) v16 r2 k8 hr7 (by omega)) (cwV 2 hts gX8_allOf_X8_value rfl rfl rfl (by decide +kernel) ⟨(Nat.le_of_ble_eq_true rfl), (Nat.le_of_ble_eq_true rfl)⟩) ⟨pk_blind, va_recv hKc hPc (ci := 8) (q0 := 0) rfl rfl, pk_call hPc hKc hDc⟩ rfl rfl hl.1 rfl (lv_room (Nat.le_of_ble_eq_true rfl)) dX8_allOf_63 ⟨(Nat.le_of_ble_eq_true rfl), (Nat.le_of_ble_eq_true rfl)⟩) hS (fun q _ h => hFc q h) hFc (fun r_33 ur_33 t H1 locs ht hvm hw hB hz1 hk1 hS => ?_)
      try dsimp only at hw
      obtain ⟨hP1, hK1, hD1⟩ := hB
      rw [ht] at hP1
      have hK1 := va_K.moved hvm.symm hK1
      obtain ⟨hP, hD⟩ := va_join (wr := [(q5, .inl (c5, 16, .inl a5)), (q6, .inl (c6, 16, .inl a6)), (q7, .inl (c7, 16, .inl a7)), (q13, .inl (c13, 1000, .inl (upd f13 i (a2 (4200 * r2 + k8))))), (q14, .inl (c14, 1000, .inl f14)), (q15, .inl (c15, 4096, .inl a15)), (q3, .inl (c3, 16, .inl a3)), (q4, .inl (c4, 16, .inl a4)), (q9, .inl (c9, 16, .inl a9)), (q10, .inl (c10, 16, .inl a10)), (q11, .inl (c11, 16, .inl a11)), (q1, .inl (c1, 16, .inl a1)), (q8, .inl (c8, 16, .inl a8))]) (w1 := [(h0, .inr (8, [.int th, .ref q1, .ref q2, .ref q3, .ref q4, .ref q5, .ref q6, .ref q7, .ref q8, .ref q9, .ref q10, .ref q11, v12, .ref q13, .ref q14, .ref q15, v16])), (q2, .inl (c2, 67200, .inl a2))]) hP hD [12, 11] [0, 1, 2, 3, 4, 5, 6, 7, 8, 9, 10, 13, 14] rfl rfl (by decide) (by decide) hk1 hFc hP1 hD1
      clear hk1 hz1 ht hPc hDc hKc hFc
      generalize H1 = H at hP hS ⊢
      replace hP : va_P (dC, dI) vwCl [(q5, .inl (c5, 16, .inl a5)), (q6, .inl (c6, 16, .inl a6)), (q7, .inl (c7, 16, .inl a7)), (q13, .inl (c13, 1000, .inl (upd f13 i (a2 (4200 * r2 + k8))))), (q14, .inl (c14, 1000, .inl f14)), (q15, .inl (c15, 4096, .inl a15)), (q3, .inl (c3, 16, .inl a3)), (q4, .inl (c4, 16, .inl a4)), (q9, .inl (c9, 16, .inl a9)), (q10, .inl (c10, 16, .inl a10)), (q11, .inl (c11, 16, .inl a11)), (q1, .inl (c1, 16, .inl a1)), (q8, .inl (c8, 16, .inl a8)), (h0, .inr (8, [.int th, .ref q1, .ref q2, .ref q3, .ref q4, .ref q5, .ref q6, .ref q7, .ref q8, .ref q9, .ref q10, .ref q11, v12, .ref q13, .ref q14, .ref q15, v16])), (q2, .inl (c2, 67200, .inl a2))] H := hP
      replace hD : va_D A [(q5, .inl (c5, 16, .inl a5)), (q6, .inl (c6, 16, .inl a6)), (q7, .inl (c7, 16, .inl a7)), (q13, .inl (c13, 1000, .inl (upd f13 i (a2 (4200 * r2 + k8))))), (q14, .inl (c14, 1000, .inl f14)), (q15, .inl (c15, 4096, .inl a15)), (q3, .inl (c3, 16, .inl a3)), (q4, .inl (c4, 16, .inl a4)), (q9, .inl (c9, 16, .inl a9)), (q10, .inl (c10, 16, .inl a10)), (q11, .inl (c11, 16, .inl a11)), (q1, .inl (c1, 16, .inl a1)), (q8, .inl (c8, 16, .inl a8)), (h0, .inr (8, [.int th, .ref q1, .ref q2, .ref q3, .ref q4, .ref q5, .ref q6, .ref q7, .ref q8, .ref q9, .ref q10, .ref q11, v12, .ref q13, .ref q14, .ref q15, v16])), (q2, .inl (c2, 67200, .inl a2))] := hD
      refine W.widen (k := 0) (n := 0) (Nat.le_of_ble_eq_true rfl) (Nat.le_of_ble_eq_true rfl) ?_
      obtain rfl : r_33 = a2 (4200 * r2 + 1000 + k8) := hw
      refine W.eq (g2 := F0 m 66 ls [.int (a2 (4200 * r2 + 1000 + k8)), .int (nI i), .ref q14]) rfl ?_
      refine va_iast (i := nI i) hx hb hK hP hD hS 4 12 rfl rfl (vp_in_nI (by omega) (by omega)) dX8_allOf_66 (fun H locs hP hD hS => ?_)
      rw [nI_clamp (by omega)] at hP hD
      replace hP : va_P (dC, dI) vwCl [(q5, .inl (c5, 16, .inl a5)), (q6, .inl (c6, 16, .inl a6)), (q7, .inl (c7, 16, .inl a7)), (q13, .inl (c13, 1000, .inl (upd f13 i (a2 (4200 * r2 + k8))))), (q14, .inl (c14, 1000, .inl (upd f14 i (a2 (4200 * r2 + 1000 + k8))))), (q15, .inl (c15, 4096, .inl a15)), (q3, .inl (c3, 16, .inl a3)), (q4, .inl (c4, 16, .inl a4)), (q9, .inl (c9, 16, .inl a9)), (q10, .inl (c10, 16, .inl a10)), (q11, .inl (c11, 16, .inl a11)), (q1, .inl (c1, 16, .inl a1)), (q8, .inl (c8, 16, .inl a8)), (h0, .inr (8, [.int th, .ref q1, .ref q2, .ref q3, .ref q4, .ref q5, .ref q6, .ref q7, .ref q8, .ref q9, .ref q10, .ref q11, v12, .ref q13, .ref q14, .ref q15, v16])), (q2, .inl (c2, 67200, .inl a2))] H := hP
      replace hD : va_D A [(q5, .inl (c5, 16, .inl a5)), (q6, .inl (c6, 16, .inl a6)), (q7, .inl (c7, 16, .inl a7)), (q13, .inl (c13, 1000, .inl (upd f13 i (a2 (4200 * r2 + k8))))), (q14, .inl (c14, 1000, .inl (upd f14 i (a2 (4200 * r2 + 1000 + k8))))), (q15, .inl (c15, 4096, .inl a15)), (q3, .inl (c3, 16, .inl a3)), (q4, .inl (c4, 16, .inl a4)), (q9, .inl (c9, 16, .inl a9)), (q10, .inl (c10, 16, .inl a10)), (q11, .inl (c11, 16, .inl a11)), (q1, .inl (c1, 16, .inl a1)), (q8, .inl (c8, 16, .inl a8)), (h0, .inr (8, [.int th, .ref q1, .ref q2, .ref q3, .ref q4, .ref q5, .ref q6, .ref q7, .ref q8, .ref q9, .ref q10, .ref q11, v12, .ref q13, .ref q14, .ref q15, v16])), (q2, .inl (c2, 67200, .inl a2))] := hD
      refine lv_iinc (v := nI (i + 1)) (lv' := [(5, .int (nI (i + 1))), (6, .int (nI k8)), (4, .int (nI r)), (3, .int (nI ne)), (0, .ref h0), (1, .int (nI o)), (2, .int (nI o2))]) hx hb dX8_allOf_67 hl (k := 1) rfl (by rw [show Int32.ofInt 1 = nI 1 from rfl, nI_add]) (by decide) rfl (fun ls hl => ?_)
      refine lv_goto (tgt := 16) hx hb dX8_allOf_70 (by decide) ?_
      exact ih (i := i + 1) (x9 := nI (i + 1)) (ex9 := rfl) (ls := ls) (f13 := (upd f13 i (a2 (4200 * r2 + k8)))) (f14 := (upd f14 i (a2 (4200 * r2 + 1000 + k8)))) (H := H) (locs := locs) (hP := hP.sub (ws' := [(q5, .inl (c5, 16, .inl a5)), (q6, .inl (c6, 16, .inl a6)), (q7, .inl (c7, 16, .inl a7)), (q13, .inl (c13, 1000, .inl (upd f13 i (a2 (4200 * r2 + k8))))), (q14, .inl (c14, 1000, .inl (upd f14 i (a2 (4200 * r2 + 1000 + k8))))), (q15, .inl (c15, 4096, .inl a15)), (q2, .inl (c2, 67200, .inl a2)), (q3, .inl (c3, 16, .inl a3)), (q4, .inl (c4, 16, .inl a4)), (q9, .inl (c9, 16, .inl a9)), (q10, .inl (c10, 16, .inl a10)), (q11, .inl (c11, 16, .inl a11)), (h0, .inr (8, [.int th, .ref q1, .ref q2, .ref q3, .ref q4, .ref q5, .ref q6, .ref q7, .ref q8, .ref q9, .ref q10, .ref q11, v12, .ref q13, .ref q14, .ref q15, v16])), (q1, .inl (c1, 16, .inl a1)), (q8, .inl (c8, 16, .inl a8))]) [0, 1, 2, 3, 4, 5, 14, 6, 7, 8, 9, 10, 13, 11, 12] rfl) (hS := hS) (hD := hD.sub (ws' := [(q5, .inl (c5, 16, .inl a5)), (q6, .inl (c6, 16, .inl a6)), (q7, .inl (c7, 16, .inl a7)), (q13, .inl (c13, 1000, .inl (upd f13 i (a2 (4200 * r2 + k8))))), (q14, .inl (c14, 1000, .inl (upd f14 i (a2 (4200 * r2 + 1000 + k8))))), (q15, .inl (c15, 4096, .inl a15)), (q2, .inl (c2, 67200, .inl a2)), (q3, .inl (c3, 16, .inl a3)), (q4, .inl (c4, 16, .inl a4)), (q9, .inl (c9, 16, .inl a9)), (q10, .inl (c10, 16, .inl a10)), (q11, .inl (c11, 16, .inl a11)), (h0, .inr (8, [.int th, .ref q1, .ref q2, .ref q3, .ref q4, .ref q5, .ref q6, .ref q7, .ref q8, .ref q9, .ref q10, .ref q11, v12, .ref q13, .ref q14, .ref q15, v16])), (q1, .inl (c1, 16, .inl a1)), (q8, .inl (c8, 16, .inl a8))]) [0, 1, 2, 3, 4, 5, 14, 6, 7, 8, 9, 10, 13, 11, 12] (by decide) rfl) (hi9 := by omega) (hn9 := by omega) (hl := lv_sub hl [0, 2, 3, 4, 5, 6] rfl)
