theorem dX8_move_0 : decode cX8_move 0 = .ok (.aload_n 0, 1) := by decide +kernel
theorem dX8_move_1 : decode cX8_move 1 = .ok (.iload_n 1, 1) := by decide +kernel
set_option maxRecDepth 20000 in
theorem ggX8_move_X8_isThere : GoodIn wsX8_move wsX8_isThere := goodIn_r _ [13, 1, 14, 15, 12, 16, 84, 85, 86, 87, 88, 89, 90, 91, 92, 93, 94, 95, 96, 97, 98, 99, 100] rfl (by decide +kernel)
set_option maxRecDepth 20000 in
theorem gX8_move_X8_isThere : GoodIn wsX8_move (wsV RX8 80 RX8 yX8_isThere wsX8_isThere) := goodIn_app (goodIn_of _ (by decide +kernel)) ggX8_move_X8_isThere
theorem dX8_move_2 : decode cX8_move 2 = .ok (.invokevirtual 80, 3) := by decide +kernel
theorem dX8_move_5 : decode cX8_move 5 = .ok (.ifCond .ne 10, 3) := by decide +kernel
theorem dX8_move_15 : decode cX8_move 15 = .ok (.aload_n 0, 1) := by decide +kernel
theorem dX8_move_16 : decode cX8_move 16 = .ok (.getfield 7, 3) := by decide +kernel
theorem dX8_move_19 : decode cX8_move 19 = .ok (.iload_n 1, 1) := by decide +kernel
theorem dX8_move_20 : decode cX8_move 20 = .ok (.iaload, 1) := by decide +kernel
theorem dX8_move_21 : decode cX8_move 21 = .ok (.iconst 5, 1) := by decide +kernel
theorem dX8_move_22 : decode cX8_move 22 = .ok (.if_icmp .eq 10, 3) := by decide +kernel
theorem dX8_move_32 : decode cX8_move 32 = .ok (.iload_n 2, 1) := by decide +kernel
theorem dX8_move_33 : decode cX8_move 33 = .ok (.iconst 0, 1) := by decide +kernel
theorem dX8_move_34 : decode cX8_move 34 = .ok (.iconst 4, 1) := by decide +kernel
set_option maxRecDepth 20000 in
theorem ggX8_move_X8_in : GoodIn wsX8_move wsX8_in := goodIn_r _ [16] rfl (by decide +kernel)
set_option maxRecDepth 20000 in
theorem gX8_move_X8_in : GoodIn wsX8_move (va_wsS RX8 64 yX8_in wsX8_in) := goodIn_app (goodIn_of _ (by decide +kernel)) ggX8_move_X8_in
theorem dX8_move_35 : decode cX8_move 35 = .ok (.invokestatic 64, 3) := by decide +kernel
theorem dX8_move_38 : decode cX8_move 38 = .ok (.ifCond .ne 10, 3) := by decide +kernel
theorem dX8_move_48 : decode cX8_move 48 = .ok (.aload_n 0, 1) := by decide +kernel
theorem dX8_move_49 : decode cX8_move 49 = .ok (.getfield 32, 3) := by decide +kernel
theorem dX8_move_52 : decode cX8_move 52 = .ok (.iload_n 1, 1) := by decide +kernel
theorem dX8_move_53 : decode cX8_move 53 = .ok (.iaload, 1) := by decide +kernel
theorem dX8_move_54 : decode cX8_move 54 = .ok (.istore 4, 2) := by decide +kernel
theorem dX8_move_56 : decode cX8_move 56 = .ok (.aload_n 0, 1) := by decide +kernel
theorem dX8_move_57 : decode cX8_move 57 = .ok (.iload 4, 2) := by decide +kernel
set_option maxRecDepth 20000 in
theorem ggX8_move_X8_root : GoodIn wsX8_move wsX8_root := goodIn_r _ [24, 1, 2, 84, 85, 86, 87, 88, 89, 90, 91, 92, 93, 94, 95, 96, 97, 98, 99, 100] rfl (by decide +kernel)
set_option maxRecDepth 20000 in
theorem gX8_move_X8_root : GoodIn wsX8_move (wsV RX8 95 RX8 yX8_root wsX8_root) := goodIn_app (goodIn_of _ (by decide +kernel)) ggX8_move_X8_root
theorem dX8_move_59 : decode cX8_move 59 = .ok (.invokevirtual 95, 3) := by decide +kernel
theorem dX8_move_62 : decode cX8_move 62 = .ok (.istore 5, 2) := by decide +kernel
theorem dX8_move_64 : decode cX8_move 64 = .ok (.aload_n 0, 1) := by decide +kernel
theorem dX8_move_65 : decode cX8_move 65 = .ok (.getfield 44, 3) := by decide +kernel
theorem dX8_move_68 : decode cX8_move 68 = .ok (.iload_n 1, 1) := by decide +kernel
theorem dX8_move_69 : decode cX8_move 69 = .ok (.iaload, 1) := by decide +kernel
theorem dX8_move_70 : decode cX8_move 70 = .ok (.aload_n 0, 1) := by decide +kernel
theorem dX8_move_71 : decode cX8_move 71 = .ok (.getfield 29, 3) := by decide +kernel
theorem dX8_move_74 : decode cX8_move 74 = .ok (.iload 5, 2) := by decide +kernel
theorem dX8_move_76 : decode cX8_move 76 = .ok (.iaload, 1) := by decide +kernel
theorem dX8_move_77 : decode cX8_move 77 = .ok (.if_icmp .eq 10, 3) := by decide +kernel
theorem dX8_move_87 : decode cX8_move 87 = .ok (.aload_n 0, 1) := by decide +kernel
theorem dX8_move_88 : decode cX8_move 88 = .ok (.iload 4, 2) := by decide +kernel
set_option maxRecDepth 20000 in
theorem ggX8_move_X8_entries : GoodIn wsX8_move wsX8_entries := goodIn_r _ [28, 29, 21, 22, 23, 12, 24, 1, 2, 30, 31, 32, 33, 8, 34, 35, 36, 37, 38, 6, 7, 39, 40, 41, 42, 43, 44, 45, 46, 47, 48, 49, 50, 51, 52, 53, 54, 55, 56, 84, 85, 86, 87, 88, 89, 90, 91, 92, 93, 94, 95, 96, 97, 98, 99, 100] rfl (by decide +kernel)
set_option maxRecDepth 20000 in
theorem gX8_move_X8_entries : GoodIn wsX8_move (wsV RX8 158 RX8 yX8_entries wsX8_entries) := goodIn_app (goodIn_of _ (by decide +kernel)) ggX8_move_X8_entries
theorem dX8_move_90 : decode cX8_move 90 = .ok (.invokevirtual 158, 3) := by decide +kernel
theorem dX8_move_93 : decode cX8_move 93 = .ok (.istore 6, 2) := by decide +kernel
theorem dX8_move_95 : decode cX8_move 95 = .ok (.aload_n 0, 1) := by decide +kernel
theorem dX8_move_96 : decode cX8_move 96 = .ok (.iconst 0, 1) := by decide +kernel
theorem dX8_move_97 : decode cX8_move 97 = .ok (.putfield 60, 3) := by decide +kernel
theorem dX8_move_100 : decode cX8_move 100 = .ok (.iload_n 2, 1) := by decide +kernel
theorem dX8_move_101 : decode cX8_move 101 = .ok (.ifCond .ne 65, 3) := by decide +kernel
theorem dX8_move_166 : decode cX8_move 166 = .ok (.iload_n 2, 1) := by decide +kernel
theorem dX8_move_167 : decode cX8_move 167 = .ok (.iconst 1, 1) := by decide +kernel
theorem dX8_move_168 : decode cX8_move 168 = .ok (.if_icmp .ne 20, 3) := by decide +kernel
theorem dX8_move_188 : decode cX8_move 188 = .ok (.aload_n 0, 1) := by decide +kernel
theorem dX8_move_189 : decode cX8_move 189 = .ok (.getfield 38, 3) := by decide +kernel
theorem dX8_move_192 : decode cX8_move 192 = .ok (.iload_n 1, 1) := by decide +kernel
theorem dX8_move_193 : decode cX8_move 193 = .ok (.iaload, 1) := by decide +kernel
theorem dX8_move_194 : decode cX8_move 194 = .ok (.ifCond .ne 10, 3) := by decide +kernel
theorem dX8_move_204 : decode cX8_move 204 = .ok (.aload_n 0, 1) := by decide +kernel
theorem dX8_move_205 : decode cX8_move 205 = .ok (.iload 4, 2) := by decide +kernel
theorem dX8_move_207 : decode cX8_move 207 = .ok (.aload_n 0, 1) := by decide +kernel
theorem dX8_move_208 : decode cX8_move 208 = .ok (.getfield 38, 3) := by decide +kernel
theorem dX8_move_211 : decode cX8_move 211 = .ok (.iload_n 1, 1) := by decide +kernel
theorem dX8_move_212 : decode cX8_move 212 = .ok (.iaload, 1) := by decide +kernel
theorem dX8_move_213 : decode cX8_move 213 = .ok (.iconst 1, 1) := by decide +kernel
theorem dX8_move_214 : decode cX8_move 214 = .ok (.isub, 1) := by decide +kernel
set_option maxRecDepth 20000 in
theorem ggX8_move_X8_nth : GoodIn wsX8_move wsX8_nth := goodIn_r _ [60, 29, 21, 22, 23, 12, 24, 1, 2, 53, 54, 55, 56, 38, 30, 31, 32, 33, 8, 34, 35, 36, 37, 6, 7, 39, 40, 41, 42, 43, 44, 45, 46, 47, 48, 49, 50, 51, 52, 84, 85, 86, 87, 88, 89, 90, 91, 92, 93, 94, 95, 96, 97, 98, 99, 100] rfl (by decide +kernel)
set_option maxRecDepth 20000 in
theorem gX8_move_X8_nth : GoodIn wsX8_move (wsV RX8 188 RX8 yX8_nth wsX8_nth) := goodIn_app (goodIn_of _ (by decide +kernel)) ggX8_move_X8_nth
theorem dX8_move_215 : decode cX8_move 215 = .ok (.invokevirtual 188, 3) := by decide +kernel
theorem dX8_move_218 : decode cX8_move 218 = .ok (.istore 7, 2) := by decide +kernel
theorem dX8_move_220 : decode cX8_move 220 = .ok (.iload_n 2, 1) := by decide +kernel
theorem dX8_move_221 : decode cX8_move 221 = .ok (.iconst 4, 1) := by decide +kernel
theorem dX8_move_222 : decode cX8_move 222 = .ok (.if_icmp .ne 13, 3) := by decide +kernel
theorem dX8_move_235 : decode cX8_move 235 = .ok (.iload_n 2, 1) := by decide +kernel
theorem dX8_move_236 : decode cX8_move 236 = .ok (.iconst 3, 1) := by decide +kernel
theorem dX8_move_237 : decode cX8_move 237 = .ok (.if_icmp .ne 36, 3) := by decide +kernel
theorem dX8_move_273 : decode cX8_move 273 = .ok (.aload_n 0, 1) := by decide +kernel
theorem dX8_move_274 : decode cX8_move 274 = .ok (.iload 5, 2) := by decide +kernel
theorem dX8_move_276 : decode cX8_move 276 = .ok (.iload 7, 2) := by decide +kernel
set_option maxRecDepth 20000 in
theorem ggX8_move_X8_key : GoodIn wsX8_move wsX8_key := goodIn_r _ [33, 8, 84, 85, 86, 87, 88, 89, 90, 91, 92, 93, 94, 95, 96, 97, 98, 99, 100] rfl (by decide +kernel)
set_option maxRecDepth 20000 in
theorem gX8_move_X8_key : GoodIn wsX8_move (wsV RX8 111 RX8 yX8_key wsX8_key) := goodIn_app (goodIn_of _ (by decide +kernel)) ggX8_move_X8_key
theorem dX8_move_278 : decode cX8_move 278 = .ok (.invokevirtual 111, 3) := by decide +kernel
theorem dX8_move_281 : decode cX8_move 281 = .ok (.istore 8, 2) := by decide +kernel
theorem dX8_move_283 : decode cX8_move 283 = .ok (.aload_n 0, 1) := by decide +kernel
theorem dX8_move_284 : decode cX8_move 284 = .ok (.iload 5, 2) := by decide +kernel
theorem dX8_move_286 : decode cX8_move 286 = .ok (.iload 7, 2) := by decide +kernel
set_option maxRecDepth 20000 in
theorem ggX8_move_X8_goes : GoodIn wsX8_move wsX8_goes := goodIn_r _ [68, 1, 29, 4, 8, 30, 31, 32, 12, 33, 69, 70, 71, 72, 73, 74, 75, 50, 51, 52, 61, 62, 63, 64, 76, 77, 78, 79, 80, 81, 82, 83, 84, 85, 86, 87, 88, 89, 90, 91, 92, 93, 94, 95, 96, 97, 98, 99, 100] rfl (by decide +kernel)
set_option maxRecDepth 20000 in
theorem gX8_move_X8_goes : GoodIn wsX8_move (wsV RX8 128 RX8 yX8_goes wsX8_goes) := goodIn_app (goodIn_of _ (by decide +kernel)) ggX8_move_X8_goes
theorem dX8_move_288 : decode cX8_move 288 = .ok (.invokevirtual 128, 3) := by decide +kernel
theorem dX8_move_291 : decode cX8_move 291 = .ok (.aload_n 0, 1) := by decide +kernel
theorem dX8_move_292 : decode cX8_move 292 = .ok (.getfield 35, 3) := by decide +kernel
theorem dX8_move_295 : decode cX8_move 295 = .ok (.iload_n 1, 1) := by decide +kernel
theorem dX8_move_296 : decode cX8_move 296 = .ok (.dup2, 1) := by decide +kernel
theorem dX8_move_297 : decode cX8_move 297 = .ok (.iaload, 1) := by decide +kernel
theorem dX8_move_298 : decode cX8_move 298 = .ok (.iconst 1, 1) := by decide +kernel
theorem dX8_move_299 : decode cX8_move 299 = .ok (.isub, 1) := by decide +kernel
theorem dX8_move_300 : decode cX8_move 300 = .ok (.iastore, 1) := by decide +kernel
theorem dX8_move_301 : decode cX8_move 301 = .ok (.aload_n 0, 1) := by decide +kernel
theorem dX8_move_302 : decode cX8_move 302 = .ok (.getfield 38, 3) := by decide +kernel
theorem dX8_move_305 : decode cX8_move 305 = .ok (.iload_n 1, 1) := by decide +kernel
theorem dX8_move_306 : decode cX8_move 306 = .ok (.iconst 0, 1) := by decide +kernel
theorem dX8_move_307 : decode cX8_move 307 = .ok (.iastore, 1) := by decide +kernel
theorem dX8_move_308 : decode cX8_move 308 = .ok (.aload_n 0, 1) := by decide +kernel
theorem dX8_move_309 : decode cX8_move 309 = .ok (.getfield 44, 3) := by decide +kernel
theorem dX8_move_312 : decode cX8_move 312 = .ok (.iload_n 1, 1) := by decide +kernel
theorem dX8_move_313 : decode cX8_move 313 = .ok (.aload_n 0, 1) := by decide +kernel
theorem dX8_move_314 : decode cX8_move 314 = .ok (.getfield 29, 3) := by decide +kernel
theorem dX8_move_317 : decode cX8_move 317 = .ok (.iload 5, 2) := by decide +kernel
theorem dX8_move_319 : decode cX8_move 319 = .ok (.iaload, 1) := by decide +kernel
theorem dX8_move_320 : decode cX8_move 320 = .ok (.iastore, 1) := by decide +kernel
theorem dX8_move_321 : decode cX8_move 321 = .ok (.iload 8, 2) := by decide +kernel
theorem dX8_move_323 : decode cX8_move 323 = .ok (.i2l, 1) := by decide +kernel
theorem dX8_move_324 : decode cX8_move 324 = .ok (.lreturn, 1) := by decide +kernel
theorem dX8_move_240 : decode cX8_move 240 = .ok (.aload_n 0, 1) := by decide +kernel
theorem dX8_move_241 : decode cX8_move 241 = .ok (.iload 5, 2) := by decide +kernel
theorem dX8_move_243 : decode cX8_move 243 = .ok (.iload 7, 2) := by decide +kernel
set_option maxRecDepth 20000 in
theorem ggX8_move_X8_value : GoodIn wsX8_move wsX8_value := goodIn_r _ [64, 8, 84, 85, 86, 87, 88, 89, 90, 91, 92, 93, 94, 95, 96, 97, 98, 99, 100] rfl (by decide +kernel)
set_option maxRecDepth 20000 in
theorem gX8_move_X8_value : GoodIn wsX8_move (wsV RX8 118 RX8 yX8_value wsX8_value) := goodIn_app (goodIn_of _ (by decide +kernel)) ggX8_move_X8_value
theorem dX8_move_245 : decode cX8_move 245 = .ok (.invokevirtual 118, 3) := by decide +kernel
theorem dX8_move_248 : decode cX8_move 248 = .ok (.istore 8, 2) := by decide +kernel
theorem dX8_move_250 : decode cX8_move 250 = .ok (.aload_n 0, 1) := by decide +kernel
theorem dX8_move_251 : decode cX8_move 251 = .ok (.getfield 14, 3) := by decide +kernel
theorem dX8_move_254 : decode cX8_move 254 = .ok (.sipush 4200, 3) := by decide +kernel
theorem dX8_move_257 : decode cX8_move 257 = .ok (.iload 5, 2) := by decide +kernel
theorem dX8_move_259 : decode cX8_move 259 = .ok (.imul, 1) := by decide +kernel
theorem dX8_move_260 : decode cX8_move 260 = .ok (.sipush 1000, 3) := by decide +kernel
theorem dX8_move_263 : decode cX8_move 263 = .ok (.iadd, 1) := by decide +kernel
theorem dX8_move_264 : decode cX8_move 264 = .ok (.iload 7, 2) := by decide +kernel
theorem dX8_move_266 : decode cX8_move 266 = .ok (.iadd, 1) := by decide +kernel
theorem dX8_move_267 : decode cX8_move 267 = .ok (.iload_n 3, 1) := by decide +kernel
theorem dX8_move_268 : decode cX8_move 268 = .ok (.iastore, 1) := by decide +kernel
theorem dX8_move_269 : decode cX8_move 269 = .ok (.iload 8, 2) := by decide +kernel
theorem dX8_move_271 : decode cX8_move 271 = .ok (.i2l, 1) := by decide +kernel
theorem dX8_move_272 : decode cX8_move 272 = .ok (.lreturn, 1) := by decide +kernel
theorem dX8_move_225 : decode cX8_move 225 = .ok (.aload_n 0, 1) := by decide +kernel
theorem dX8_move_226 : decode cX8_move 226 = .ok (.iload 5, 2) := by decide +kernel
theorem dX8_move_228 : decode cX8_move 228 = .ok (.iload 7, 2) := by decide +kernel
theorem dX8_move_230 : decode cX8_move 230 = .ok (.invokevirtual 118, 3) := by decide +kernel
theorem dX8_move_233 : decode cX8_move 233 = .ok (.i2l, 1) := by decide +kernel
theorem dX8_move_234 : decode cX8_move 234 = .ok (.lreturn, 1) := by decide +kernel
theorem dX8_move_197 : decode cX8_move 197 = .ok (.aload_n 0, 1) := by decide +kernel
theorem dX8_move_198 : decode cX8_move 198 = .ok (.iconst 4, 1) := by decide +kernel
set_option maxRecDepth 20000 in
theorem ggX8_move_X8_refuse : GoodIn wsX8_move wsX8_refuse := goodIn_r _ [20, 5, 84, 85, 86, 87, 88, 89, 90, 91, 92, 93, 94, 95, 96, 97, 98, 99, 100] rfl (by decide +kernel)
set_option maxRecDepth 20000 in
theorem gX8_move_X8_refuse : GoodIn wsX8_move (wsV RX8 68 RX8 yX8_refuse wsX8_refuse) := goodIn_app (goodIn_of _ (by decide +kernel)) ggX8_move_X8_refuse
theorem dX8_move_199 : decode cX8_move 199 = .ok (.invokevirtual 68, 3) := by decide +kernel
theorem dX8_move_202 : decode cX8_move 202 = .ok (.i2l, 1) := by decide +kernel
theorem dX8_move_203 : decode cX8_move 203 = .ok (.lreturn, 1) := by decide +kernel
theorem dX8_move_171 : decode cX8_move 171 = .ok (.aload_n 0, 1) := by decide +kernel
theorem dX8_move_172 : decode cX8_move 172 = .ok (.getfield 35, 3) := by decide +kernel
theorem dX8_move_175 : decode cX8_move 175 = .ok (.iload_n 1, 1) := by decide +kernel
theorem dX8_move_176 : decode cX8_move 176 = .ok (.iaload, 1) := by decide +kernel
theorem dX8_move_177 : decode cX8_move 177 = .ok (.iload 6, 2) := by decide +kernel
theorem dX8_move_179 : decode cX8_move 179 = .ok (.if_icmp .ge 7, 3) := by decide +kernel
theorem dX8_move_186 : decode cX8_move 186 = .ok (.lconst 0, 1) := by decide +kernel
theorem dX8_move_187 : decode cX8_move 187 = .ok (.lreturn, 1) := by decide +kernel
theorem dX8_move_182 : decode cX8_move 182 = .ok (.lconst 1, 1) := by decide +kernel
theorem dX8_move_183 : decode cX8_move 183 = .ok (.goto 4, 3) := by decide +kernel
theorem dX8_move_104 : decode cX8_move 104 = .ok (.aload_n 0, 1) := by decide +kernel
theorem dX8_move_105 : decode cX8_move 105 = .ok (.getfield 35, 3) := by decide +kernel
theorem dX8_move_108 : decode cX8_move 108 = .ok (.iload_n 1, 1) := by decide +kernel
theorem dX8_move_109 : decode cX8_move 109 = .ok (.iaload, 1) := by decide +kernel
theorem dX8_move_110 : decode cX8_move 110 = .ok (.iload 6, 2) := by decide +kernel
theorem dX8_move_112 : decode cX8_move 112 = .ok (.if_icmp .ne 10, 3) := by decide +kernel
theorem dX8_move_122 : decode cX8_move 122 = .ok (.aload_n 0, 1) := by decide +kernel
theorem dX8_move_123 : decode cX8_move 123 = .ok (.getfield 35, 3) := by decide +kernel
theorem dX8_move_126 : decode cX8_move 126 = .ok (.iload_n 1, 1) := by decide +kernel
theorem dX8_move_127 : decode cX8_move 127 = .ok (.dup2, 1) := by decide +kernel
theorem dX8_move_128 : decode cX8_move 128 = .ok (.iaload, 1) := by decide +kernel
theorem dX8_move_129 : decode cX8_move 129 = .ok (.iconst 1, 1) := by decide +kernel
theorem dX8_move_130 : decode cX8_move 130 = .ok (.iadd, 1) := by decide +kernel
theorem dX8_move_131 : decode cX8_move 131 = .ok (.iastore, 1) := by decide +kernel
theorem dX8_move_132 : decode cX8_move 132 = .ok (.aload_n 0, 1) := by decide +kernel
theorem dX8_move_133 : decode cX8_move 133 = .ok (.getfield 38, 3) := by decide +kernel
theorem dX8_move_136 : decode cX8_move 136 = .ok (.iload_n 1, 1) := by decide +kernel
theorem dX8_move_137 : decode cX8_move 137 = .ok (.aload_n 0, 1) := by decide +kernel
theorem dX8_move_138 : decode cX8_move 138 = .ok (.getfield 35, 3) := by decide +kernel
theorem dX8_move_141 : decode cX8_move 141 = .ok (.iload_n 1, 1) := by decide +kernel
theorem dX8_move_142 : decode cX8_move 142 = .ok (.iaload, 1) := by decide +kernel
theorem dX8_move_143 : decode cX8_move 143 = .ok (.iastore, 1) := by decide +kernel
theorem dX8_move_144 : decode cX8_move 144 = .ok (.aload_n 0, 1) := by decide +kernel
theorem dX8_move_145 : decode cX8_move 145 = .ok (.iload 5, 2) := by decide +kernel
theorem dX8_move_147 : decode cX8_move 147 = .ok (.aload_n 0, 1) := by decide +kernel
theorem dX8_move_148 : decode cX8_move 148 = .ok (.iload 4, 2) := by decide +kernel
theorem dX8_move_150 : decode cX8_move 150 = .ok (.aload_n 0, 1) := by decide +kernel
theorem dX8_move_151 : decode cX8_move 151 = .ok (.getfield 35, 3) := by decide +kernel
theorem dX8_move_154 : decode cX8_move 154 = .ok (.iload_n 1, 1) := by decide +kernel
theorem dX8_move_155 : decode cX8_move 155 = .ok (.iaload, 1) := by decide +kernel
theorem dX8_move_156 : decode cX8_move 156 = .ok (.iconst 1, 1) := by decide +kernel
theorem dX8_move_157 : decode cX8_move 157 = .ok (.isub, 1) := by decide +kernel
theorem dX8_move_158 : decode cX8_move 158 = .ok (.invokevirtual 188, 3) := by decide +kernel
theorem dX8_move_161 : decode cX8_move 161 = .ok (.invokevirtual 111, 3) := by decide +kernel
theorem dX8_move_164 : decode cX8_move 164 = .ok (.i2l, 1) := by decide +kernel
theorem dX8_move_165 : decode cX8_move 165 = .ok (.lreturn, 1) := by decide +kernel
theorem dX8_move_115 : decode cX8_move 115 = .ok (.aload_n 0, 1) := by decide +kernel
theorem dX8_move_116 : decode cX8_move 116 = .ok (.iconst 1, 1) := by decide +kernel
theorem dX8_move_117 : decode cX8_move 117 = .ok (.invokevirtual 68, 3) := by decide +kernel
theorem dX8_move_120 : decode cX8_move 120 = .ok (.i2l, 1) := by decide +kernel
theorem dX8_move_121 : decode cX8_move 121 = .ok (.lreturn, 1) := by decide +kernel
theorem dX8_move_80 : decode cX8_move 80 = .ok (.aload_n 0, 1) := by decide +kernel
theorem dX8_move_81 : decode cX8_move 81 = .ok (.iconst 4, 1) := by decide +kernel
theorem dX8_move_82 : decode cX8_move 82 = .ok (.invokevirtual 68, 3) := by decide +kernel
theorem dX8_move_85 : decode cX8_move 85 = .ok (.i2l, 1) := by decide +kernel
theorem dX8_move_86 : decode cX8_move 86 = .ok (.lreturn, 1) := by decide +kernel
theorem dX8_move_41 : decode cX8_move 41 = .ok (.aload_n 0, 1) := by decide +kernel
theorem dX8_move_42 : decode cX8_move 42 = .ok (.iconst 3, 1) := by decide +kernel
theorem dX8_move_43 : decode cX8_move 43 = .ok (.invokevirtual 68, 3) := by decide +kernel
theorem dX8_move_46 : decode cX8_move 46 = .ok (.i2l, 1) := by decide +kernel
theorem dX8_move_47 : decode cX8_move 47 = .ok (.lreturn, 1) := by decide +kernel
theorem dX8_move_25 : decode cX8_move 25 = .ok (.aload_n 0, 1) := by decide +kernel
theorem dX8_move_26 : decode cX8_move 26 = .ok (.iconst 2, 1) := by decide +kernel
theorem dX8_move_27 : decode cX8_move 27 = .ok (.invokevirtual 68, 3) := by decide +kernel
theorem dX8_move_30 : decode cX8_move 30 = .ok (.i2l, 1) := by decide +kernel
theorem dX8_move_31 : decode cX8_move 31 = .ok (.lreturn, 1) := by decide +kernel
theorem dX8_move_8 : decode cX8_move 8 = .ok (.aload_n 0, 1) := by decide +kernel
theorem dX8_move_9 : decode cX8_move 9 = .ok (.iconst 1, 1) := by decide +kernel
theorem dX8_move_10 : decode cX8_move 10 = .ok (.invokevirtual 68, 3) := by decide +kernel
theorem dX8_move_13 : decode cX8_move 13 = .ok (.i2l, 1) := by decide +kernel
theorem dX8_move_14 : decode cX8_move 14 = .ok (.lreturn, 1) := by decide +kernel
set_option maxHeartbeats 4000000 in
set_option maxRecDepth 100000 in
/-- move -/
theorem c_X8_move (l : Launch) (dC : Nat → ClassId) (dI : Nat → Nat → Nat) (sz : Nat) (h0 : Nat) (th : Int32) (q1 : Nat) (q2 : Nat) (q3 : Nat) (q4 : Nat) (q5 : Nat) (q6 : Nat) (q7 : Nat) (q8 : Nat) (q9 : Nat) (q10 : Nat) (q11 : Nat) (q12 : Nat) (c1 : ClassId) (c2 : ClassId) (c3 : ClassId) (c4 : ClassId) (c5 : ClassId) (c6 : ClassId) (c7 : ClassId) (c8 : ClassId) (c9 : ClassId) (c10 : ClassId) (c11 : ClassId) (c12 : ClassId) (a1 : Nat → Int32) (a2 : Nat → Int32) (a3 : Nat → Int32) (a4 : Nat → Int32) (a5 : Nat → Int32) (a6 : Nat → Int32) (a7 : Nat → Int32) (a8 : Nat → Int32) (a9 : Nat → Int32) (a10 : Nat → Int32) (a11 : Nat → Int32) (a12 : Nat → Int32) (v13 : Value) (v14 : Value) (v15 : Value) (v16 : Value) (dep : Nat → Nat) (p0 : Int32) (p1 : Int32) (p2 : Int32) (hF9 : rF a1 a8 dep) (hda : ∀ o : Nat, o < 16 → dep o < 17) (hMa : ∀ r : Nat, r < 16 → 1 ≤ (a1 r).toInt → (a1 r).toInt ≤ 3 → mOK (a1 r) (a4 r) (a3 r) (a6 r)) (hBa : ∀ r : Nat, r < 16 → 0 ≤ (a7 r).toInt ∧ (a7 r).toInt < 2147480000) (hCa : ∀ c : Nat, c < 16 → (a1 c).toInt = 5 → cuO a1 a2 a3 a4 a7 a8 a9 a10 a11 a12 c) : Met l yX8_move wsX8_move ({ frames := 6, cells := 0, slots := 0, locals := 230 }) (va_Pc [.ref h0, .int p0, .int p1, .int p2] (pk_Pre (dC, dI) [(h0, .inr (8, [.int th, .ref q1, .ref q2, .ref q3, .ref q4, .ref q5, .ref q6, .ref q7, .ref q8, .ref q9, .ref q10, .ref q11, .ref q12, v13, v14, v15, v16])), (q1, .inl (c1, 16, .inl a1)), (q2, .inl (c2, 67200, .inl a2)), (q3, .inl (c3, 16, .inl a3)), (q4, .inl (c4, 16, .inl a4)), (q5, .inl (c5, 16, .inl a5)), (q6, .inl (c6, 16, .inl a6)), (q7, .inl (c7, 16, .inl a7)), (q8, .inl (c8, 16, .inl a8)), (q9, .inl (c9, 16, .inl a9)), (q10, .inl (c10, 16, .inl a10)), (q11, .inl (c11, 16, .inl a11)), (q12, .inl (c12, 16, .inl a12))] [(c1, .int), (c2, .int), (c3, .int), (c4, .int), (c5, .int), (c6, .int), (c7, .int), (c8, .int), (c9, .int), (c10, .int), (c11, .int), (c12, .int)] sz)) (va_Ql (fun (x : Int64) (u : Int32 × (Nat → Int32) × (Nat → Int32) × (Nat → Int32) × (Nat → Int32) × (Nat → Int32) × (Nat → Int32)) => (u.2.1 = a2 ∧ u.2.2.1 = a3 ∧ u.2.2.2.1 = a7 ∧ u.2.2.2.2.1 = a9 ∧ u.2.2.2.2.2.1 = a10 ∧ u.2.2.2.2.2.2 = a12) ∨ (∃ c r d : Nat, c < 16 ∧ (a1 c).toInt = 5 ∧ d ≤ 1 ∧ rsR r d a2 a3 a6 a7 u.2.1 u.2.2.1 a6 u.2.2.2.1 ∧ r < 16 ∧ mOK (a1 r) (a4 r) (u.2.2.1 r) (a6 r) ∧ (∀ q : Nat, q ≠ c → u.2.2.2.2.1 q = a9 q ∧ u.2.2.2.2.2.1 q = a10 q ∧ u.2.2.2.2.2.2 q = a12 q) ∧ cuO a1 u.2.1 u.2.2.1 a4 u.2.2.2.1 a8 u.2.2.2.2.1 u.2.2.2.2.2.1 a11 u.2.2.2.2.2.2 c)) (fun (u : Int32 × (Nat → Int32) × (Nat → Int32) × (Nat → Int32) × (Nat → Int32) × (Nat → Int32) × (Nat → Int32)) (t : State) => va_P (dC, dI) vwCl [(h0, .inr (8, [.int u.1, .ref q1, .ref q2, .ref q3, .ref q4, .ref q5, .ref q6, .ref q7, .ref q8, .ref q9, .ref q10, .ref q11, .ref q12, v13, v14, v15, v16])), (q1, .inl (c1, 16, .inl a1)), (q2, .inl (c2, 67200, .inl u.2.1)), (q3, .inl (c3, 16, .inl u.2.2.1)), (q4, .inl (c4, 16, .inl a4)), (q5, .inl (c5, 16, .inl a5)), (q6, .inl (c6, 16, .inl a6)), (q7, .inl (c7, 16, .inl u.2.2.2.1)), (q8, .inl (c8, 16, .inl a8)), (q9, .inl (c9, 16, .inl u.2.2.2.2.1)), (q10, .inl (c10, 16, .inl u.2.2.2.2.2.1)), (q11, .inl (c11, 16, .inl a11)), (q12, .inl (c12, 16, .inl u.2.2.2.2.2.2))] t.heap ∧ va_K (dC, dI) vwCl [(c1, .int), (c2, .int), (c3, .int), (c4, .int), (c5, .int), (c6, .int), (c7, .int), (c8, .int), (c9, .int), (c10, .int), (c11, .int), (c12, .int)] t ∧ va_D (va_A [(h0, .inr (8, [.int th, .ref q1, .ref q2, .ref q3, .ref q4, .ref q5, .ref q6, .ref q7, .ref q8, .ref q9, .ref q10, .ref q11, .ref q12, v13, v14, v15, v16])), (q1, .inl (c1, 16, .inl a1)), (q2, .inl (c2, 67200, .inl a2)), (q3, .inl (c3, 16, .inl a3)), (q4, .inl (c4, 16, .inl a4)), (q5, .inl (c5, 16, .inl a5)), (q6, .inl (c6, 16, .inl a6)), (q7, .inl (c7, 16, .inl a7)), (q8, .inl (c8, 16, .inl a8)), (q9, .inl (c9, 16, .inl a9)), (q10, .inl (c10, 16, .inl a10)), (q11, .inl (c11, 16, .inl a11)), (q12, .inl (c12, 16, .inl a12))] sz) [(h0, .inr (8, [.int u.1, .ref q1, .ref q2, .ref q3, .ref q4, .ref q5, .ref q6, .ref q7, .ref q8, .ref q9, .ref q10, .ref q11, .ref q12, v13, v14, v15, v16])), (q1, .inl (c1, 16, .inl a1)), (q2, .inl (c2, 67200, .inl u.2.1)), (q3, .inl (c3, 16, .inl u.2.2.1)), (q4, .inl (c4, 16, .inl a4)), (q5, .inl (c5, 16, .inl a5)), (q6, .inl (c6, 16, .inl a6)), (q7, .inl (c7, 16, .inl u.2.2.2.1)), (q8, .inl (c8, 16, .inl a8)), (q9, .inl (c9, 16, .inl u.2.2.2.2.1)), (q10, .inl (c10, 16, .inl u.2.2.2.2.2.1)), (q11, .inl (c11, 16, .inl a11)), (q12, .inl (c12, 16, .inl u.2.2.2.2.2.2))]) (va_A [(h0, .inr (8, [.int th, .ref q1, .ref q2, .ref q3, .ref q4, .ref q5, .ref q6, .ref q7, .ref q8, .ref q9, .ref q10, .ref q11, .ref q12, v13, v14, v15, v16])), (q1, .inl (c1, 16, .inl a1)), (q2, .inl (c2, 67200, .inl a2)), (q3, .inl (c3, 16, .inl a3)), (q4, .inl (c4, 16, .inl a4)), (q5, .inl (c5, 16, .inl a5)), (q6, .inl (c6, 16, .inl a6)), (q7, .inl (c7, 16, .inl a7)), (q8, .inl (c8, 16, .inl a8)), (q9, .inl (c9, 16, .inl a9)), (q10, .inl (c10, 16, .inl a10)), (q11, .inl (c11, 16, .inl a11)), (q12, .inl (c12, 16, .inl a12))] sz)) 0 0 (va_A [(h0, .inr (8, [.int th, .ref q1, .ref q2, .ref q3, .ref q4, .ref q5, .ref q6, .ref q7, .ref q8, .ref q9, .ref q10, .ref q11, .ref q12, v13, v14, v15, v16])), (q1, .inl (c1, 16, .inl a1)), (q2, .inl (c2, 67200, .inl a2)), (q3, .inl (c3, 16, .inl a3)), (q4, .inl (c4, 16, .inl a4)), (q5, .inl (c5, 16, .inl a5)), (q6, .inl (c6, 16, .inl a6)), (q7, .inl (c7, 16, .inl a7)), (q8, .inl (c8, 16, .inl a8)), (q9, .inl (c9, 16, .inl a9)), (q10, .inl (c10, 16, .inl a10)), (q11, .inl (c11, 16, .inl a11)), (q12, .inl (c12, 16, .inl a12))] sz) := by
  refine Met.ofW (cc := cX8_move) (maxL := 9) (ret := (some .long)) (by decide) rfl ?_
  intro p e s m args below meth c s₁ B hml hv
  obtain ⟨rfl, hsz, hP, hK, hD0⟩ := hv
  have hx := B.exec
  have hb := B.bytes
  have hr := B.returns
  have hts := atoms_spec (ws := wsX8_move) B.pre
  have hown : s.vm.findClass RX8 = some m.cls := findClass_of_methodNamed B.named
  have hlocks := B.notSynchronized
  subst hsz
  have hD := hD0.self (sz := s.heap.size)
  generalize hAe : va_A [(h0, .inr (8, [.int th, .ref q1, .ref q2, .ref q3, .ref q4, .ref q5, .ref q6, .ref q7, .ref q8, .ref q9, .ref q10, .ref q11, .ref q12, v13, v14, v15, v16])), (q1, .inl (c1, 16, .inl a1)), (q2, .inl (c2, 67200, .inl a2)), (q3, .inl (c3, 16, .inl a3)), (q4, .inl (c4, 16, .inl a4)), (q5, .inl (c5, 16, .inl a5)), (q6, .inl (c6, 16, .inl a6)), (q7, .inl (c7, 16, .inl a7)), (q8, .inl (c8, 16, .inl a8)), (q9, .inl (c9, 16, .inl a9)), (q10, .inl (c10, 16, .inl a10)), (q11, .inl (c11, 16, .inl a11)), (q12, .inl (c12, 16, .inl a12))] s.heap.size = A at hD ⊢
  have hA : ∀ q : Nat, s.heap.size ≤ q → A q := fun q h => by rw [← hAe]; exact Or.inr h
  have hS : va_S A s.heap s.heap [] := va_S.rf
  have hP : va_P (dC, dI) vwCl [(h0, .inr (8, [.int th, .ref q1, .ref q2, .ref q3, .ref q4, .ref q5, .ref q6, .ref q7, .ref q8, .ref q9, .ref q10, .ref q11, .ref q12, v13, v14, v15, v16])), (q1, .inl (c1, 16, .inl a1)), (q2, .inl (c2, 67200, .inl a2)), (q3, .inl (c3, 16, .inl a3)), (q4, .inl (c4, 16, .inl a4)), (q5, .inl (c5, 16, .inl a5)), (q6, .inl (c6, 16, .inl a6)), (q7, .inl (c7, 16, .inl a7)), (q8, .inl (c8, 16, .inl a8)), (q9, .inl (c9, 16, .inl a9)), (q10, .inl (c10, 16, .inl a10)), (q11, .inl (c11, 16, .inl a11)), (q12, .inl (c12, 16, .inl a12))] s.heap := hP
  have hl := lv_entry ([.ref h0, .int p0, .int p1, .int p2]) (n := 9) (Nat.le_of_ble_eq_true rfl)
  rw [lg_entry_eq]
  generalize (lg_sl ([.ref h0, .int p0, .int p1, .int p2]) ++ List.replicate (9 - (lg_sl ([.ref h0, .int p0, .int p1, .int p2])).length) Slot.unset).toArray = ls at hl ⊢
  have hl : lv_has ls 9 [(0, .ref h0), (1, .int p0), (2, .int p1), (3, .int p2)] := hl
  have hw0_ := hts (.fieldLink RX8 7 "KeyAtlasModel" "kind" "[I") (List.mem_of_getElem? (l := wsX8_move) (i := 1) rfl)
  have hw1_ := hts (.fieldLink RX8 32 "KeyAtlasModel" "parent" "[I") (List.mem_of_getElem? (l := wsX8_move) (i := 2) rfl)
  have hw2_ := hts (.fieldLink RX8 44 "KeyAtlasModel" "seen" "[I") (List.mem_of_getElem? (l := wsX8_move) (i := 3) rfl)
  have hw3_ := hts (.fieldLink RX8 29 "KeyAtlasModel" "changes" "[I") (List.mem_of_getElem? (l := wsX8_move) (i := 4) rfl)
  have hw4_ := hts (.fieldLink RX8 60 "KeyAtlasModel" "thrown" "I") (List.mem_of_getElem? (l := wsX8_move) (i := 5) rfl)
  have hw5_ := hts (.fieldLink RX8 38 "KeyAtlasModel" "to" "[I") (List.mem_of_getElem? (l := wsX8_move) (i := 7) rfl)
  have hw6_ := hts (.fieldLink RX8 35 "KeyAtlasModel" "from" "[I") (List.mem_of_getElem? (l := wsX8_move) (i := 6) rfl)
  have hw7_ := hts (.fieldLink RX8 14 "KeyAtlasModel" "cell" "[I") (List.mem_of_getElem? (l := wsX8_move) (i := 8) rfl)
  have hi0_ : ∀ w ∈ u_ws RX8 TX8 17, w ∈ wsX8_move := fun w h => List.mem_cons_of_mem _ (List.mem_append_right _ h)
  refine lv_aload_n hx hb dX8_move_0 rfl (lv_at hl 0 rfl) ?_
  refine lv_iload_n hx hb dX8_move_1 rfl (lv_at hl 1 rfl) ?_
  have hPc := hP.sub (ws' := [(h0, .inr (8, [.int th, .ref q1, .ref q2, .ref q3, .ref q4, .ref q5, .ref q6, .ref q7, .ref q8, .ref q9, .ref q10, .ref q11, .ref q12, v13, v14, v15, v16])), (q1, .inl (c1, 16, .inl a1))]) [0, 1] rfl
  have hDc := hD.sub (ws' := [(h0, .inr (8, [.int th, .ref q1, .ref q2, .ref q3, .ref q4, .ref q5, .ref q6, .ref q7, .ref q8, .ref q9, .ref q10, .ref q11, .ref q12, v13, v14, v15, v16])), (q1, .inl (c1, 16, .inl a1))]) [0, 1] (by decide) rfl
  have hKc := hK.sub (tys' := [(c1, .int)]) [0] rfl
  have hFc := va_free (wc := [(h0, .inr (8, [.int th, .ref q1, .ref q2, .ref q3, .ref q4, .ref q5, .ref q6, .ref q7, .ref q8, .ref q9, .ref q10, .ref q11, .ref q12, v13, v14, v15, v16])), (q1, .inl (c1, 16, .inl a1))]) hD hS hA [0, 1] rfl
  refine va_calli (va_runV (As := [.int p0]) (rest := []) ⟨hx, hb, hml, hown, hts⟩ (c_X8_isThere l  dC dI s.heap.size h0 th q1 c1 a1 (.ref q2) (.ref q3) (.ref q4) (.ref q5) (.ref q6) (.ref q7) (.ref q8) (.ref q9) (.ref q10) (.ref q11) (.ref q12) v13 v14 v15 v16 p0) (cwV 1 hts gX8_move_X8_isThere rfl rfl rfl (by decide +kernel) ⟨(Nat.le_of_ble_eq_true rfl), (Nat.le_of_ble_eq_true rfl)⟩) ⟨pk_blind, va_recv hKc hPc (ci := 8) (q0 := 0) rfl rfl, pk_call hPc hKc hDc⟩ rfl rfl hl.1 rfl (lv_room (Nat.le_of_ble_eq_true rfl)) dX8_move_2 ⟨(Nat.le_of_ble_eq_true rfl), (Nat.le_of_ble_eq_true rfl)⟩) hS (fun q _ h => hFc q h) hFc (fun r_1 ur_1 t H1 locs ht hvm hw hB hz1 hk1 hS => ?_)
  try dsimp only at hw
  have jr_1 := hw
  obtain ⟨hP1, hK1, hD1⟩ := hB
  rw [ht] at hP1
  have hK1 := va_K.moved hvm.symm hK1
  obtain ⟨hP, hD⟩ := va_join (wr := [(q2, .inl (c2, 67200, .inl a2)), (q3, .inl (c3, 16, .inl a3)), (q4, .inl (c4, 16, .inl a4)), (q5, .inl (c5, 16, .inl a5)), (q6, .inl (c6, 16, .inl a6)), (q7, .inl (c7, 16, .inl a7)), (q8, .inl (c8, 16, .inl a8)), (q9, .inl (c9, 16, .inl a9)), (q10, .inl (c10, 16, .inl a10)), (q11, .inl (c11, 16, .inl a11)), (q12, .inl (c12, 16, .inl a12))]) (w1 := [(h0, .inr (8, [.int th, .ref q1, .ref q2, .ref q3, .ref q4, .ref q5, .ref q6, .ref q7, .ref q8, .ref q9, .ref q10, .ref q11, .ref q12, v13, v14, v15, v16])), (q1, .inl (c1, 16, .inl a1))]) hP hD [0, 1] [2, 3, 4, 5, 6, 7, 8, 9, 10, 11, 12] rfl rfl (by decide) (by decide) hk1 hFc hP1 hD1
  clear hk1 hz1 ht hPc hDc hKc hFc
  generalize H1 = H at hP hS ⊢
  replace hP : va_P (dC, dI) vwCl [(q2, .inl (c2, 67200, .inl a2)), (q3, .inl (c3, 16, .inl a3)), (q4, .inl (c4, 16, .inl a4)), (q5, .inl (c5, 16, .inl a5)), (q6, .inl (c6, 16, .inl a6)), (q7, .inl (c7, 16, .inl a7)), (q8, .inl (c8, 16, .inl a8)), (q9, .inl (c9, 16, .inl a9)), (q10, .inl (c10, 16, .inl a10)), (q11, .inl (c11, 16, .inl a11)), (q12, .inl (c12, 16, .inl a12)), (h0, .inr (8, [.int th, .ref q1, .ref q2, .ref q3, .ref q4, .ref q5, .ref q6, .ref q7, .ref q8, .ref q9, .ref q10, .ref q11, .ref q12, v13, v14, v15, v16])), (q1, .inl (c1, 16, .inl a1))] H := hP
  replace hD : va_D A [(q2, .inl (c2, 67200, .inl a2)), (q3, .inl (c3, 16, .inl a3)), (q4, .inl (c4, 16, .inl a4)), (q5, .inl (c5, 16, .inl a5)), (q6, .inl (c6, 16, .inl a6)), (q7, .inl (c7, 16, .inl a7)), (q8, .inl (c8, 16, .inl a8)), (q9, .inl (c9, 16, .inl a9)), (q10, .inl (c10, 16, .inl a10)), (q11, .inl (c11, 16, .inl a11)), (q12, .inl (c12, 16, .inl a12)), (h0, .inr (8, [.int th, .ref q1, .ref q2, .ref q3, .ref q4, .ref q5, .ref q6, .ref q7, .ref q8, .ref q9, .ref q10, .ref q11, .ref q12, v13, v14, v15, v16])), (q1, .inl (c1, 16, .inl a1))] := hD
  refine W.widen (k := 0) (n := 0) (Nat.le_of_ble_eq_true rfl) (Nat.le_of_ble_eq_true rfl) ?_
  refine W.eq (g2 := F0 m 5 ls [.int r_1]) rfl ?_
  refine lv_if_ne (tgt := 15) hx hb dX8_move_5 (by decide) (fun c_2 => ?_) (fun c_2 => ?_)
  ·
    have ic_2 : ¬ r_1.toInt = 0 := tx_ne rfl (by decide) c_2
    obtain ⟨cc, hcc, rfl, hkc⟩ := (jr_1.resolve_right (fun h => absurd h.1 ic_2)).2
    refine lv_aload_n hx hb dX8_move_15 rfl (lv_at hl 0 rfl) ?_
    refine va_get (D := (dC, dI)) (ci := 8) (v := .ref q1) (C := RX8) (T := TX8) (N := 17) hx hb hts hi0_ hown hK hP 11 rfl rfl 1 (by decide) hw0_ (fun _ h9 => h9) rfl dX8_move_16 ?_
    refine lv_iload_n hx hb dX8_move_19 rfl (lv_at hl 1 rfl) ?_
    refine va_iald (i := nI cc) hx hb hK hP 12 0 rfl rfl (vp_in_nI (by omega) (by omega)) dX8_move_20 ?_
    refine W.eq (g2 := F0 m 21 ls [.int (a1 cc)]) (by rw [nI_clamp (by omega)]) ?_
    refine lv_iconst (v := 5) hx hb dX8_move_21 (by decide) ?_
    refine lv_icmp_eq (tgt := 32) hx hb dX8_move_22 (by decide) (fun c_3 => ?_) (fun c_3 => ?_)
    ·
      have ic_3 : (a1 cc).toInt = 5 := tx_eq rfl (by decide) c_3
      refine lv_iload_n hx hb dX8_move_32 rfl (lv_at hl 2 rfl) ?_
      refine lv_iconst (v := 0) hx hb dX8_move_33 (by decide) ?_
      refine lv_iconst (v := 4) hx hb dX8_move_34 (by decide) ?_
      have hPc := hP.sub (ws' := []) [] rfl
      have hDc := hD.sub (ws' := []) [] (by decide) rfl
      have hKc := hK.sub (tys' := []) [] rfl
      have hFc := va_free (wc := []) hD hS hA [] rfl
      refine va_calli (va_runS (As := [.int p1, .int 0, .int 4]) (rest := []) ⟨hx, hb, hml, hown, hts⟩ (c_X8_in l  dC dI H.size p1 0 4 p1.toInt 0 4 rfl (by decide) (by decide)) (va_cwS 3 hts gX8_move_X8_in rfl rfl rfl (by decide +kernel) ⟨(Nat.le_of_ble_eq_true rfl), (Nat.le_of_ble_eq_true rfl)⟩) ⟨pk_blind, pk_call hPc hKc hDc⟩ rfl rfl hl.1 rfl (lv_room (Nat.le_of_ble_eq_true rfl)) dX8_move_35 ⟨(Nat.le_of_ble_eq_true rfl), (Nat.le_of_ble_eq_true rfl)⟩) hS (fun q _ h => hFc q h) hFc (fun r_4 ur_4 t H1 locs ht hvm hw hB hz1 hk1 hS => ?_)
      try dsimp only at hw
      have jr_4 := hw
      obtain ⟨hP, hD⟩ := va_join (wr := [(q2, .inl (c2, 67200, .inl a2)), (q3, .inl (c3, 16, .inl a3)), (q4, .inl (c4, 16, .inl a4)), (q5, .inl (c5, 16, .inl a5)), (q6, .inl (c6, 16, .inl a6)), (q7, .inl (c7, 16, .inl a7)), (q8, .inl (c8, 16, .inl a8)), (q9, .inl (c9, 16, .inl a9)), (q10, .inl (c10, 16, .inl a10)), (q11, .inl (c11, 16, .inl a11)), (q12, .inl (c12, 16, .inl a12)), (h0, .inr (8, [.int th, .ref q1, .ref q2, .ref q3, .ref q4, .ref q5, .ref q6, .ref q7, .ref q8, .ref q9, .ref q10, .ref q11, .ref q12, v13, v14, v15, v16])), (q1, .inl (c1, 16, .inl a1))]) (w1 := []) hP hD [] [0, 1, 2, 3, 4, 5, 6, 7, 8, 9, 10, 11, 12] rfl rfl (by decide) (by decide) hk1 hFc tx_P0 tx_D0
      clear hk1 hz1 ht hPc hDc hKc hFc
      generalize H1 = H at hP hS ⊢
      replace hP : va_P (dC, dI) vwCl [(q2, .inl (c2, 67200, .inl a2)), (q3, .inl (c3, 16, .inl a3)), (q4, .inl (c4, 16, .inl a4)), (q5, .inl (c5, 16, .inl a5)), (q6, .inl (c6, 16, .inl a6)), (q7, .inl (c7, 16, .inl a7)), (q8, .inl (c8, 16, .inl a8)), (q9, .inl (c9, 16, .inl a9)), (q10, .inl (c10, 16, .inl a10)), (q11, .inl (c11, 16, .inl a11)), (q12, .inl (c12, 16, .inl a12)), (h0, .inr (8, [.int th, .ref q1, .ref q2, .ref q3, .ref q4, .ref q5, .ref q6, .ref q7, .ref q8, .ref q9, .ref q10, .ref q11, .ref q12, v13, v14, v15, v16])), (q1, .inl (c1, 16, .inl a1))] H := hP
      replace hD : va_D A [(q2, .inl (c2, 67200, .inl a2)), (q3, .inl (c3, 16, .inl a3)), (q4, .inl (c4, 16, .inl a4)), (q5, .inl (c5, 16, .inl a5)), (q6, .inl (c6, 16, .inl a6)), (q7, .inl (c7, 16, .inl a7)), (q8, .inl (c8, 16, .inl a8)), (q9, .inl (c9, 16, .inl a9)), (q10, .inl (c10, 16, .inl a10)), (q11, .inl (c11, 16, .inl a11)), (q12, .inl (c12, 16, .inl a12)), (h0, .inr (8, [.int th, .ref q1, .ref q2, .ref q3, .ref q4, .ref q5, .ref q6, .ref q7, .ref q8, .ref q9, .ref q10, .ref q11, .ref q12, v13, v14, v15, v16])), (q1, .inl (c1, 16, .inl a1))] := hD
      refine W.widen (k := 0) (n := 0) (Nat.le_of_ble_eq_true rfl) (Nat.le_of_ble_eq_true rfl) ?_
      refine W.eq (g2 := F0 m 38 ls [.int r_4]) rfl ?_
      refine lv_if_ne (tgt := 48) hx hb dX8_move_38 (by decide) (fun c_5 => ?_) (fun c_5 => ?_)
      ·
        have ic_5 : ¬ r_4.toInt = 0 := tx_ne rfl (by decide) c_5
        refine lv_aload_n hx hb dX8_move_48 rfl (lv_at hl 0 rfl) ?_
        refine va_get (D := (dC, dI)) (ci := 8) (v := .ref q8) (C := RX8) (T := TX8) (N := 17) hx hb hts hi0_ hown hK hP 11 rfl rfl 8 (by decide) hw1_ (fun _ h9 => h9) rfl dX8_move_49 ?_
        refine lv_iload_n hx hb dX8_move_52 rfl (lv_at hl 1 rfl) ?_
        refine va_iald (i := nI cc) hx hb hK hP 6 7 rfl rfl (vp_in_nI (by omega) (by omega)) dX8_move_53 ?_
        refine W.eq (g2 := F0 m 54 ls [.int (a8 cc)]) (by rw [nI_clamp (by omega)]) ?_
        have ic5 : (a1 cc).toInt = 5 := by omega
        obtain ⟨o, ho9, ep8, hq8, hmo1, hmo2, -⟩ := hF9 cc hcc (Or.inr ic5)
        have hd9 := hda o ho9
        have hmo : 1 ≤ (a1 o).toInt ∧ (a1 o).toInt ≤ 4 := ⟨hmo1, hmo2⟩
        refine W.eq (g2 := F0 m 54 ls [.int (nI o)]) (by rw [ep8]) ?_
        refine lv_istore (lv' := [(4, .int (nI o)), (0, .ref h0), (1, .int (nI cc)), (2, .int p1), (3, .int p2)]) hx hb dX8_move_54 hl (by decide) rfl (fun ls hl => ?_)
        refine lv_aload_n hx hb dX8_move_56 rfl (lv_at hl 1 rfl) ?_
        refine lv_iload hx hb dX8_move_57 (lv_at hl 0 rfl) ?_
        have hPc := hP.sub (ws' := [(h0, .inr (8, [.int th, .ref q1, .ref q2, .ref q3, .ref q4, .ref q5, .ref q6, .ref q7, .ref q8, .ref q9, .ref q10, .ref q11, .ref q12, v13, v14, v15, v16])), (q1, .inl (c1, 16, .inl a1)), (q8, .inl (c8, 16, .inl a8))]) [11, 12, 6] rfl
        have hDc := hD.sub (ws' := [(h0, .inr (8, [.int th, .ref q1, .ref q2, .ref q3, .ref q4, .ref q5, .ref q6, .ref q7, .ref q8, .ref q9, .ref q10, .ref q11, .ref q12, v13, v14, v15, v16])), (q1, .inl (c1, 16, .inl a1)), (q8, .inl (c8, 16, .inl a8))]) [11, 12, 6] (by decide) rfl
        have hKc := hK.sub (tys' := [(c1, .int), (c8, .int)]) [0, 7] rfl
        have hFc := va_free (wc := [(h0, .inr (8, [.int th, .ref q1, .ref q2, .ref q3, .ref q4, .ref q5, .ref q6, .ref q7, .ref q8, .ref q9, .ref q10, .ref q11, .ref q12, v13, v14, v15, v16])), (q1, .inl (c1, 16, .inl a1)), (q8, .inl (c8, 16, .inl a8))]) hD hS hA [11, 12, 6] rfl
        refine va_calli (va_runV (As := [.int (nI o)]) (rest := []) ⟨hx, hb, hml, hown, hts⟩ (c_X8_root l  dC dI H.size h0 th q1 q8 c1 c8 a1 a8 (.ref q2) (.ref q3) (.ref q4) (.ref q5) (.ref q6) (.ref q7) (.ref q9) (.ref q10) (.ref q11) (.ref q12) v13 v14 v15 v16 o dep ho9 hF9 hd9) (cwV 1 hts gX8_move_X8_root rfl rfl rfl (by decide +kernel) ⟨(Nat.le_of_ble_eq_true rfl), (Nat.le_of_ble_eq_true rfl)⟩) ⟨pk_blind, va_recv hKc hPc (ci := 8) (q0 := 0) rfl rfl, pk_call hPc hKc hDc⟩ rfl rfl hl.1 rfl (lv_room (Nat.le_of_ble_eq_true rfl)) dX8_move_59 ⟨(Nat.le_of_ble_eq_true rfl), (Nat.le_of_ble_eq_true rfl)⟩) hS (fun q _ h => hFc q h) hFc (fun r_6 ur_6 t H1 locs ht hvm hw hB hz1 hk1 hS => ?_)
        try dsimp only at hw
        obtain ⟨r, hrt9⟩ : ∃ r : Nat, rtN a1 a8 17 o = r := ⟨_, rfl⟩
        obtain ⟨er_6, hr9, hr8⟩ := hw
        rw [hrt9] at er_6 hr9 hr8
        obtain ⟨hP1, hK1, hD1⟩ := hB
        rw [ht] at hP1
        have hK1 := va_K.moved hvm.symm hK1
        obtain ⟨hP, hD⟩ := va_join (wr := [(q2, .inl (c2, 67200, .inl a2)), (q3, .inl (c3, 16, .inl a3)), (q4, .inl (c4, 16, .inl a4)), (q5, .inl (c5, 16, .inl a5)), (q6, .inl (c6, 16, .inl a6)), (q7, .inl (c7, 16, .inl a7)), (q9, .inl (c9, 16, .inl a9)), (q10, .inl (c10, 16, .inl a10)), (q11, .inl (c11, 16, .inl a11)), (q12, .inl (c12, 16, .inl a12))]) (w1 := [(h0, .inr (8, [.int th, .ref q1, .ref q2, .ref q3, .ref q4, .ref q5, .ref q6, .ref q7, .ref q8, .ref q9, .ref q10, .ref q11, .ref q12, v13, v14, v15, v16])), (q1, .inl (c1, 16, .inl a1)), (q8, .inl (c8, 16, .inl a8))]) hP hD [11, 12, 6] [0, 1, 2, 3, 4, 5, 7, 8, 9, 10] rfl rfl (by decide) (by decide) hk1 hFc hP1 hD1
        clear hk1 hz1 ht hPc hDc hKc hFc
        generalize H1 = H at hP hS ⊢
        replace hP : va_P (dC, dI) vwCl [(q2, .inl (c2, 67200, .inl a2)), (q3, .inl (c3, 16, .inl a3)), (q4, .inl (c4, 16, .inl a4)), (q5, .inl (c5, 16, .inl a5)), (q6, .inl (c6, 16, .inl a6)), (q7, .inl (c7, 16, .inl a7)), (q9, .inl (c9, 16, .inl a9)), (q10, .inl (c10, 16, .inl a10)), (q11, .inl (c11, 16, .inl a11)), (q12, .inl (c12, 16, .inl a12)), (h0, .inr (8, [.int th, .ref q1, .ref q2, .ref q3, .ref q4, .ref q5, .ref q6, .ref q7, .ref q8, .ref q9, .ref q10, .ref q11, .ref q12, v13, v14, v15, v16])), (q1, .inl (c1, 16, .inl a1)), (q8, .inl (c8, 16, .inl a8))] H := hP
        replace hD : va_D A [(q2, .inl (c2, 67200, .inl a2)), (q3, .inl (c3, 16, .inl a3)), (q4, .inl (c4, 16, .inl a4)), (q5, .inl (c5, 16, .inl a5)), (q6, .inl (c6, 16, .inl a6)), (q7, .inl (c7, 16, .inl a7)), (q9, .inl (c9, 16, .inl a9)), (q10, .inl (c10, 16, .inl a10)), (q11, .inl (c11, 16, .inl a11)), (q12, .inl (c12, 16, .inl a12)), (h0, .inr (8, [.int th, .ref q1, .ref q2, .ref q3, .ref q4, .ref q5, .ref q6, .ref q7, .ref q8, .ref q9, .ref q10, .ref q11, .ref q12, v13, v14, v15, v16])), (q1, .inl (c1, 16, .inl a1)), (q8, .inl (c8, 16, .inl a8))] := hD
        refine W.widen (k := 0) (n := 0) (Nat.le_of_ble_eq_true rfl) (Nat.le_of_ble_eq_true rfl) ?_
        subst er_6
        refine W.eq (g2 := F0 m 62 ls [.int (nI r)]) rfl ?_
        have hkd9 : 1 ≤ (a1 r).toInt ∧ (a1 r).toInt ≤ 3 := by rw [← hrt9]; exact rt_kd hF9 ho9 hd9 hmo
        have hM9 := hMa r hr9 hkd9.1 hkd9.2
        obtain ⟨nz, tb, hs9, hz9, hT9, hM8⟩ := mo_go hM9
        have hn8 : (a3 r).toInt = (nz : Int) := by rw [hs9]; exact nI_toInt (by omega)
        refine lv_istore (lv' := [(5, .int (nI r)), (4, .int (nI o)), (0, .ref h0), (1, .int (nI cc)), (2, .int p1), (3, .int p2)]) hx hb dX8_move_62 hl (by decide) rfl (fun ls hl => ?_)
        refine lv_aload_n hx hb dX8_move_64 rfl (lv_at hl 2 rfl) ?_
        refine va_get (D := (dC, dI)) (ci := 8) (v := .ref q12) (C := RX8) (T := TX8) (N := 17) hx hb hts hi0_ hown hK hP 10 rfl rfl 12 (by decide) hw2_ (fun _ h9 => h9) rfl dX8_move_65 ?_
        refine lv_iload_n hx hb dX8_move_68 rfl (lv_at hl 3 rfl) ?_
        refine va_iald (i := nI cc) hx hb hK hP 9 11 rfl rfl (vp_in_nI (by omega) (by omega)) dX8_move_69 ?_
        refine W.eq (g2 := F0 m 70 ls [.int (a12 cc)]) (by rw [nI_clamp (by omega)]) ?_
        refine lv_aload_n hx hb dX8_move_70 rfl (lv_at hl 2 rfl) ?_
        refine va_get (D := (dC, dI)) (ci := 8) (v := .ref q7) (C := RX8) (T := TX8) (N := 17) hx hb hts hi0_ hown hK hP 10 rfl rfl 7 (by decide) hw3_ (fun _ h9 => h9) rfl dX8_move_71 ?_
        refine lv_iload hx hb dX8_move_74 (lv_at hl 0 rfl) ?_
        refine va_iald (i := nI r) hx hb hK hP 5 6 rfl rfl (vp_in_nI (by omega) (by omega)) dX8_move_76 ?_
        refine W.eq (g2 := F0 m 77 ls [.int (a7 r), .int (a12 cc)]) (by rw [nI_clamp (by omega)]) ?_
        refine lv_icmp_eq (tgt := 87) hx hb dX8_move_77 (by decide) (fun c_7 => ?_) (fun c_7 => ?_)
        ·
          have ic_7 : (a12 cc).toInt = (a7 r).toInt := tx_eq rfl rfl c_7
          obtain ⟨hsn1, hsn2, hsn3⟩ := hCa cc hcc ic5 o ho9 ep8
          rw [hrt9] at hsn2 hsn3
          obtain ⟨fr, tt, hfr, htt, hle1, hle2⟩ := hsn3 c_7 nz hs9 hz9
          refine lv_aload_n hx hb dX8_move_87 rfl (lv_at hl 2 rfl) ?_
          refine lv_iload hx hb dX8_move_88 (lv_at hl 1 rfl) ?_
          have hPc := hP.sub (ws' := [(h0, .inr (8, [.int th, .ref q1, .ref q2, .ref q3, .ref q4, .ref q5, .ref q6, .ref q7, .ref q8, .ref q9, .ref q10, .ref q11, .ref q12, v13, v14, v15, v16])), (q1, .inl (c1, 16, .inl a1)), (q2, .inl (c2, 67200, .inl a2)), (q3, .inl (c3, 16, .inl a3)), (q4, .inl (c4, 16, .inl a4)), (q8, .inl (c8, 16, .inl a8)), (q9, .inl (c9, 16, .inl a9)), (q10, .inl (c10, 16, .inl a10)), (q11, .inl (c11, 16, .inl a11))]) [10, 11, 0, 1, 2, 12, 6, 7, 8] rfl
          have hDc := hD.sub (ws' := [(h0, .inr (8, [.int th, .ref q1, .ref q2, .ref q3, .ref q4, .ref q5, .ref q6, .ref q7, .ref q8, .ref q9, .ref q10, .ref q11, .ref q12, v13, v14, v15, v16])), (q1, .inl (c1, 16, .inl a1)), (q2, .inl (c2, 67200, .inl a2)), (q3, .inl (c3, 16, .inl a3)), (q4, .inl (c4, 16, .inl a4)), (q8, .inl (c8, 16, .inl a8)), (q9, .inl (c9, 16, .inl a9)), (q10, .inl (c10, 16, .inl a10)), (q11, .inl (c11, 16, .inl a11))]) [10, 11, 0, 1, 2, 12, 6, 7, 8] (by decide) rfl
          have hKc := hK.sub (tys' := [(c1, .int), (c2, .int), (c3, .int), (c4, .int), (c8, .int), (c9, .int), (c10, .int), (c11, .int)]) [0, 1, 2, 3, 7, 8, 9, 10] rfl
          have hFc := va_free (wc := [(h0, .inr (8, [.int th, .ref q1, .ref q2, .ref q3, .ref q4, .ref q5, .ref q6, .ref q7, .ref q8, .ref q9, .ref q10, .ref q11, .ref q12, v13, v14, v15, v16])), (q1, .inl (c1, 16, .inl a1)), (q2, .inl (c2, 67200, .inl a2)), (q3, .inl (c3, 16, .inl a3)), (q4, .inl (c4, 16, .inl a4)), (q8, .inl (c8, 16, .inl a8)), (q9, .inl (c9, 16, .inl a9)), (q10, .inl (c10, 16, .inl a10)), (q11, .inl (c11, 16, .inl a11))]) hD hS hA [10, 11, 0, 1, 2, 12, 6, 7, 8] rfl
          refine va_calli (va_runV (As := [.int (nI o)]) (rest := []) ⟨hx, hb, hml, hown, hts⟩ (c_X8_entries l  dC dI H.size h0 th q1 q2 q3 q4 q8 q9 q10 q11 c1 c2 c3 c4 c8 c9 c10 c11 a1 a2 a3 a4 a8 a9 a10 a11 (.ref q5) (.ref q6) (.ref q7) (.ref q12) v13 v14 v15 v16 o dep nz ho9 hF9 hd9 (by rw [hrt9]; exact hs9) hz9) (cwV 1 hts gX8_move_X8_entries rfl rfl rfl (by decide +kernel) ⟨(Nat.le_of_ble_eq_true rfl), (Nat.le_of_ble_eq_true rfl)⟩) ⟨pk_blind, va_recv hKc hPc (ci := 8) (q0 := 0) rfl rfl, pk_call hPc hKc hDc⟩ rfl rfl hl.1 rfl (lv_room (Nat.le_of_ble_eq_true rfl)) dX8_move_90 ⟨(Nat.le_of_ble_eq_true rfl), (Nat.le_of_ble_eq_true rfl)⟩) hS (fun q _ h => hFc q h) hFc (fun r_8 ur_8 t H1 locs ht hvm hw hB hz1 hk1 hS => ?_)
          try dsimp only at hw
          obtain ⟨ne, hne⟩ : ∃ n9 : Nat, n9 = cntN (inO a1 a2 a4 a8 a9 a10 a11 o) nz := ⟨_, rfl⟩
          have hne2 : ne ≤ nz := by rw [hne]; exact cnt_le _ _
          obtain ⟨hP1, hK1, hD1⟩ := hB
          rw [ht] at hP1
          have hK1 := va_K.moved hvm.symm hK1
          obtain ⟨hP, hD⟩ := va_join (wr := [(q5, .inl (c5, 16, .inl a5)), (q6, .inl (c6, 16, .inl a6)), (q7, .inl (c7, 16, .inl a7)), (q12, .inl (c12, 16, .inl a12))]) (w1 := [(h0, .inr (8, [.int th, .ref q1, .ref q2, .ref q3, .ref q4, .ref q5, .ref q6, .ref q7, .ref q8, .ref q9, .ref q10, .ref q11, .ref q12, v13, v14, v15, v16])), (q1, .inl (c1, 16, .inl a1)), (q2, .inl (c2, 67200, .inl a2)), (q3, .inl (c3, 16, .inl a3)), (q4, .inl (c4, 16, .inl a4)), (q8, .inl (c8, 16, .inl a8)), (q9, .inl (c9, 16, .inl a9)), (q10, .inl (c10, 16, .inl a10)), (q11, .inl (c11, 16, .inl a11))]) hP hD [10, 11, 0, 1, 2, 12, 6, 7, 8] [3, 4, 5, 9] rfl rfl (by decide) (by decide) hk1 hFc hP1 hD1
          clear hk1 hz1 ht hPc hDc hKc hFc
          generalize H1 = H at hP hS ⊢
          replace hP : va_P (dC, dI) vwCl [(q5, .inl (c5, 16, .inl a5)), (q6, .inl (c6, 16, .inl a6)), (q7, .inl (c7, 16, .inl a7)), (q12, .inl (c12, 16, .inl a12)), (h0, .inr (8, [.int th, .ref q1, .ref q2, .ref q3, .ref q4, .ref q5, .ref q6, .ref q7, .ref q8, .ref q9, .ref q10, .ref q11, .ref q12, v13, v14, v15, v16])), (q1, .inl (c1, 16, .inl a1)), (q2, .inl (c2, 67200, .inl a2)), (q3, .inl (c3, 16, .inl a3)), (q4, .inl (c4, 16, .inl a4)), (q8, .inl (c8, 16, .inl a8)), (q9, .inl (c9, 16, .inl a9)), (q10, .inl (c10, 16, .inl a10)), (q11, .inl (c11, 16, .inl a11))] H := hP
          replace hD : va_D A [(q5, .inl (c5, 16, .inl a5)), (q6, .inl (c6, 16, .inl a6)), (q7, .inl (c7, 16, .inl a7)), (q12, .inl (c12, 16, .inl a12)), (h0, .inr (8, [.int th, .ref q1, .ref q2, .ref q3, .ref q4, .ref q5, .ref q6, .ref q7, .ref q8, .ref q9, .ref q10, .ref q11, .ref q12, v13, v14, v15, v16])), (q1, .inl (c1, 16, .inl a1)), (q2, .inl (c2, 67200, .inl a2)), (q3, .inl (c3, 16, .inl a3)), (q4, .inl (c4, 16, .inl a4)), (q8, .inl (c8, 16, .inl a8)), (q9, .inl (c9, 16, .inl a9)), (q10, .inl (c10, 16, .inl a10)), (q11, .inl (c11, 16, .inl a11))] := hD
          refine W.widen (k := 0) (n := 0) (Nat.le_of_ble_eq_true rfl) (Nat.le_of_ble_eq_true rfl) ?_
          obtain rfl : r_8 = nI ne := by rw [hne]; exact hw
          refine W.eq (g2 := F0 m 93 ls [.int (nI ne)]) rfl ?_
          rw [← hne] at hle2
          refine lv_istore (lv' := [(6, .int (nI ne)), (5, .int (nI r)), (4, .int (nI o)), (0, .ref h0), (1, .int (nI cc)), (2, .int p1), (3, .int p2)]) hx hb dX8_move_93 hl (by decide) rfl (fun ls hl => ?_)
          refine lv_aload_n hx hb dX8_move_95 rfl (lv_at hl 3 rfl) ?_
          refine lv_iconst (v := 0) hx hb dX8_move_96 (by decide) ?_
          refine va_put (D := (dC, dI)) (ci := 8) (v := .int 0) (ty := .int) (C := RX8) (T := TX8) (N := 17) hx hb hts hi0_ tyX8 tyX8_ok nmX8 hown hK hP hD hS 4 rfl rfl 0 (by decide) hw4_ (fun _ h9 => h9) rfl (by decide +kernel) rfl rfl (Nat.le_of_ble_eq_true rfl) dX8_move_97 (fun H locs hP hD hS => ?_)
          replace hP : va_P (dC, dI) vwCl [(q5, .inl (c5, 16, .inl a5)), (q6, .inl (c6, 16, .inl a6)), (q7, .inl (c7, 16, .inl a7)), (q12, .inl (c12, 16, .inl a12)), (h0, .inr (8, [.int 0, .ref q1, .ref q2, .ref q3, .ref q4, .ref q5, .ref q6, .ref q7, .ref q8, .ref q9, .ref q10, .ref q11, .ref q12, v13, v14, v15, v16])), (q1, .inl (c1, 16, .inl a1)), (q2, .inl (c2, 67200, .inl a2)), (q3, .inl (c3, 16, .inl a3)), (q4, .inl (c4, 16, .inl a4)), (q8, .inl (c8, 16, .inl a8)), (q9, .inl (c9, 16, .inl a9)), (q10, .inl (c10, 16, .inl a10)), (q11, .inl (c11, 16, .inl a11))] H := hP
          replace hD : va_D A [(q5, .inl (c5, 16, .inl a5)), (q6, .inl (c6, 16, .inl a6)), (q7, .inl (c7, 16, .inl a7)), (q12, .inl (c12, 16, .inl a12)), (h0, .inr (8, [.int 0, .ref q1, .ref q2, .ref q3, .ref q4, .ref q5, .ref q6, .ref q7, .ref q8, .ref q9, .ref q10, .ref q11, .ref q12, v13, v14, v15, v16])), (q1, .inl (c1, 16, .inl a1)), (q2, .inl (c2, 67200, .inl a2)), (q3, .inl (c3, 16, .inl a3)), (q4, .inl (c4, 16, .inl a4)), (q8, .inl (c8, 16, .inl a8)), (q9, .inl (c9, 16, .inl a9)), (q10, .inl (c10, 16, .inl a10)), (q11, .inl (c11, 16, .inl a11))] := hD
          refine lv_iload_n hx hb dX8_move_100 rfl (lv_at hl 5 rfl) ?_
          refine lv_if_ne (tgt := 166) hx hb dX8_move_101 (by decide) (fun c_9 => ?_) (fun c_9 => ?_)
          ·
            have ic_9 : ¬ p1.toInt = 0 := tx_ne rfl (by decide) c_9
            refine lv_iload_n hx hb dX8_move_166 rfl (lv_at hl 5 rfl) ?_
            refine lv_iconst (v := 1) hx hb dX8_move_167 (by decide) ?_
            refine lv_icmp_ne (tgt := 188) hx hb dX8_move_168 (by decide) (fun c_10 => ?_) (fun c_10 => ?_)
            ·
              have ic_10 : ¬ p1.toInt = 1 := tx_ne rfl (by decide) c_10
              refine lv_aload_n hx hb dX8_move_188 rfl (lv_at hl 3 rfl) ?_
              refine va_get (D := (dC, dI)) (ci := 8) (v := .ref q10) (C := RX8) (T := TX8) (N := 17) hx hb hts hi0_ hown hK hP 4 rfl rfl 10 (by decide) hw5_ (fun _ h9 => h9) rfl dX8_move_189 ?_
              refine lv_iload_n hx hb dX8_move_192 rfl (lv_at hl 4 rfl) ?_
              refine va_iald (i := nI cc) hx hb hK hP 11 9 rfl rfl (vp_in_nI (by omega) (by omega)) dX8_move_193 ?_
              refine W.eq (g2 := F0 m 194 ls [.int (a10 cc)]) (by rw [nI_clamp (by omega)]) ?_
              refine W.eq (g2 := F0 m 194 ls [.int (nI tt)]) (by rw [htt]) ?_
              refine lv_if_ne (tgt := 204) hx hb dX8_move_194 (by decide) (fun c_11 => ?_) (fun c_11 => ?_)
              ·
                have ic_11 : ¬ ((tt : Nat) : Int) = 0 := tx_ne (nI_toInt (by omega)) (by decide) c_11
                refine lv_aload_n hx hb dX8_move_204 rfl (lv_at hl 3 rfl) ?_
                refine lv_iload hx hb dX8_move_205 (lv_at hl 2 rfl) ?_
                refine lv_aload_n hx hb dX8_move_207 rfl (lv_at hl 3 rfl) ?_
                refine va_get (D := (dC, dI)) (ci := 8) (v := .ref q10) (C := RX8) (T := TX8) (N := 17) hx hb hts hi0_ hown hK hP 4 rfl rfl 10 (by decide) hw5_ (fun _ h9 => h9) rfl dX8_move_208 ?_
                refine lv_iload_n hx hb dX8_move_211 rfl (lv_at hl 4 rfl) ?_
                refine va_iald (i := nI cc) hx hb hK hP 11 9 rfl rfl (vp_in_nI (by omega) (by omega)) dX8_move_212 ?_
                refine W.eq (g2 := F0 m 213 ls [.int (a10 cc), .int (nI o), .ref h0]) (by rw [nI_clamp (by omega)]) ?_
                refine W.eq (g2 := F0 m 213 ls [.int (nI tt), .int (nI o), .ref h0]) (by rw [htt]) ?_
                refine lv_iconst (v := 1) hx hb dX8_move_213 (by decide) ?_
                refine lv_isub hx hb dX8_move_214 ?_
                refine lv_topi (fun z_12 ez_12 => ?_)
                obtain rfl : z_12 = nI (tt - 1) := ez_12.trans (by rw [show (1 : Int32) = nI 1 from rfl, pk_sub (by omega)])
                have hPc := hP.sub (ws' := [(h0, .inr (8, [.int 0, .ref q1, .ref q2, .ref q3, .ref q4, .ref q5, .ref q6, .ref q7, .ref q8, .ref q9, .ref q10, .ref q11, .ref q12, v13, v14, v15, v16])), (q1, .inl (c1, 16, .inl a1)), (q2, .inl (c2, 67200, .inl a2)), (q3, .inl (c3, 16, .inl a3)), (q4, .inl (c4, 16, .inl a4)), (q8, .inl (c8, 16, .inl a8)), (q9, .inl (c9, 16, .inl a9)), (q10, .inl (c10, 16, .inl a10)), (q11, .inl (c11, 16, .inl a11))]) [4, 5, 6, 7, 8, 9, 10, 11, 12] rfl
                have hDc := hD.sub (ws' := [(h0, .inr (8, [.int 0, .ref q1, .ref q2, .ref q3, .ref q4, .ref q5, .ref q6, .ref q7, .ref q8, .ref q9, .ref q10, .ref q11, .ref q12, v13, v14, v15, v16])), (q1, .inl (c1, 16, .inl a1)), (q2, .inl (c2, 67200, .inl a2)), (q3, .inl (c3, 16, .inl a3)), (q4, .inl (c4, 16, .inl a4)), (q8, .inl (c8, 16, .inl a8)), (q9, .inl (c9, 16, .inl a9)), (q10, .inl (c10, 16, .inl a10)), (q11, .inl (c11, 16, .inl a11))]) [4, 5, 6, 7, 8, 9, 10, 11, 12] (by decide) rfl
                have hKc := hK.sub (tys' := [(c1, .int), (c2, .int), (c3, .int), (c4, .int), (c8, .int), (c9, .int), (c10, .int), (c11, .int)]) [0, 1, 2, 3, 7, 8, 9, 10] rfl
                have hFc := va_free (wc := [(h0, .inr (8, [.int 0, .ref q1, .ref q2, .ref q3, .ref q4, .ref q5, .ref q6, .ref q7, .ref q8, .ref q9, .ref q10, .ref q11, .ref q12, v13, v14, v15, v16])), (q1, .inl (c1, 16, .inl a1)), (q2, .inl (c2, 67200, .inl a2)), (q3, .inl (c3, 16, .inl a3)), (q4, .inl (c4, 16, .inl a4)), (q8, .inl (c8, 16, .inl a8)), (q9, .inl (c9, 16, .inl a9)), (q10, .inl (c10, 16, .inl a10)), (q11, .inl (c11, 16, .inl a11))]) hD hS hA [4, 5, 6, 7, 8, 9, 10, 11, 12] rfl
                refine va_calli (va_runV (As := [.int (nI o), .int (nI (tt - 1))]) (rest := []) ⟨hx, hb, hml, hown, hts⟩ (c_X8_nth l  dC dI H.size h0 0 q1 q2 q3 q4 q8 q9 q10 q11 c1 c2 c3 c4 c8 c9 c10 c11 a1 a2 a3 a4 a8 a9 a10 a11 (.ref q5) (.ref q6) (.ref q7) (.ref q12) v13 v14 v15 v16 o dep nz (tt - 1) ho9 hF9 hd9 (by rw [hrt9]; exact hs9) hz9 (by rw [← hne]; omega)) (cwV 2 hts gX8_move_X8_nth rfl rfl rfl (by decide +kernel) ⟨(Nat.le_of_ble_eq_true rfl), (Nat.le_of_ble_eq_true rfl)⟩) ⟨pk_blind, va_recv hKc hPc (ci := 8) (q0 := 0) rfl rfl, pk_call hPc hKc hDc⟩ rfl rfl hl.1 rfl (lv_room (Nat.le_of_ble_eq_true rfl)) dX8_move_215 ⟨(Nat.le_of_ble_eq_true rfl), (Nat.le_of_ble_eq_true rfl)⟩) hS (fun q _ h => hFc q h) hFc (fun r_13 ur_13 t H1 locs ht hvm hw hB hz1 hk1 hS => ?_)
                try dsimp only at hw
                have jr_13 := hw
                obtain ⟨hP1, hK1, hD1⟩ := hB
                rw [ht] at hP1
                have hK1 := va_K.moved hvm.symm hK1
                obtain ⟨hP, hD⟩ := va_join (wr := [(q5, .inl (c5, 16, .inl a5)), (q6, .inl (c6, 16, .inl a6)), (q7, .inl (c7, 16, .inl a7)), (q12, .inl (c12, 16, .inl a12))]) (w1 := [(h0, .inr (8, [.int 0, .ref q1, .ref q2, .ref q3, .ref q4, .ref q5, .ref q6, .ref q7, .ref q8, .ref q9, .ref q10, .ref q11, .ref q12, v13, v14, v15, v16])), (q1, .inl (c1, 16, .inl a1)), (q2, .inl (c2, 67200, .inl a2)), (q3, .inl (c3, 16, .inl a3)), (q4, .inl (c4, 16, .inl a4)), (q8, .inl (c8, 16, .inl a8)), (q9, .inl (c9, 16, .inl a9)), (q10, .inl (c10, 16, .inl a10)), (q11, .inl (c11, 16, .inl a11))]) hP hD [4, 5, 6, 7, 8, 9, 10, 11, 12] [0, 1, 2, 3] rfl rfl (by decide) (by decide) hk1 hFc hP1 hD1
                clear hk1 hz1 ht hPc hDc hKc hFc
                generalize H1 = H at hP hS ⊢
                replace hP : va_P (dC, dI) vwCl [(q5, .inl (c5, 16, .inl a5)), (q6, .inl (c6, 16, .inl a6)), (q7, .inl (c7, 16, .inl a7)), (q12, .inl (c12, 16, .inl a12)), (h0, .inr (8, [.int 0, .ref q1, .ref q2, .ref q3, .ref q4, .ref q5, .ref q6, .ref q7, .ref q8, .ref q9, .ref q10, .ref q11, .ref q12, v13, v14, v15, v16])), (q1, .inl (c1, 16, .inl a1)), (q2, .inl (c2, 67200, .inl a2)), (q3, .inl (c3, 16, .inl a3)), (q4, .inl (c4, 16, .inl a4)), (q8, .inl (c8, 16, .inl a8)), (q9, .inl (c9, 16, .inl a9)), (q10, .inl (c10, 16, .inl a10)), (q11, .inl (c11, 16, .inl a11))] H := hP
                replace hD : va_D A [(q5, .inl (c5, 16, .inl a5)), (q6, .inl (c6, 16, .inl a6)), (q7, .inl (c7, 16, .inl a7)), (q12, .inl (c12, 16, .inl a12)), (h0, .inr (8, [.int 0, .ref q1, .ref q2, .ref q3, .ref q4, .ref q5, .ref q6, .ref q7, .ref q8, .ref q9, .ref q10, .ref q11, .ref q12, v13, v14, v15, v16])), (q1, .inl (c1, 16, .inl a1)), (q2, .inl (c2, 67200, .inl a2)), (q3, .inl (c3, 16, .inl a3)), (q4, .inl (c4, 16, .inl a4)), (q8, .inl (c8, 16, .inl a8)), (q9, .inl (c9, 16, .inl a9)), (q10, .inl (c10, 16, .inl a10)), (q11, .inl (c11, 16, .inl a11))] := hD
                refine W.widen (k := 0) (n := 0) (Nat.le_of_ble_eq_true rfl) (Nat.le_of_ble_eq_true rfl) ?_
                obtain ⟨k8, hk8, rfl, hk8b⟩ := jr_13
                refine W.eq (g2 := F0 m 218 ls [.int (nI k8)]) rfl ?_
                refine lv_istore (lv' := [(7, .int (nI k8)), (6, .int (nI ne)), (5, .int (nI r)), (4, .int (nI o)), (0, .ref h0), (1, .int (nI cc)), (2, .int p1), (3, .int p2)]) hx hb dX8_move_218 hl (by decide) rfl (fun ls hl => ?_)
                refine lv_iload_n hx hb dX8_move_220 rfl (lv_at hl 6 rfl) ?_
                refine lv_iconst (v := 4) hx hb dX8_move_221 (by decide) ?_
                refine lv_icmp_ne (tgt := 235) hx hb dX8_move_222 (by decide) (fun c_14 => ?_) (fun c_14 => ?_)
                ·
                  have ic_14 : ¬ p1.toInt = 4 := tx_ne rfl (by decide) c_14
                  refine lv_iload_n hx hb dX8_move_235 rfl (lv_at hl 6 rfl) ?_
                  refine lv_iconst (v := 3) hx hb dX8_move_236 (by decide) ?_
                  refine lv_icmp_ne (tgt := 273) hx hb dX8_move_237 (by decide) (fun c_15 => ?_) (fun c_15 => ?_)
                  ·
                    have ic_15 : ¬ p1.toInt = 3 := tx_ne rfl (by decide) c_15
                    refine lv_aload_n hx hb dX8_move_273 rfl (lv_at hl 4 rfl) ?_
                    refine lv_iload hx hb dX8_move_274 (lv_at hl 2 rfl) ?_
                    refine lv_iload hx hb dX8_move_276 (lv_at hl 0 rfl) ?_
                    have hPc := hP.sub (ws' := [(h0, .inr (8, [.int 0, .ref q1, .ref q2, .ref q3, .ref q4, .ref q5, .ref q6, .ref q7, .ref q8, .ref q9, .ref q10, .ref q11, .ref q12, v13, v14, v15, v16])), (q2, .inl (c2, 67200, .inl a2))]) [4, 6] rfl
                    have hDc := hD.sub (ws' := [(h0, .inr (8, [.int 0, .ref q1, .ref q2, .ref q3, .ref q4, .ref q5, .ref q6, .ref q7, .ref q8, .ref q9, .ref q10, .ref q11, .ref q12, v13, v14, v15, v16])), (q2, .inl (c2, 67200, .inl a2))]) [4, 6] (by decide) rfl
                    have hKc := hK.sub (tys' := [(c2, .int)]) [1] rfl
                    have hFc := va_free (wc := [(h0, .inr (8, [.int 0, .ref q1, .ref q2, .ref q3, .ref q4, .ref q5, .ref q6, .ref q7, .ref q8, .ref q9, .ref q10, .ref q11, .ref q12, v13, v14, v15, v16])), (q2, .inl (c2, 67200, .inl a2))]) hD hS hA [4, 6] rfl
                    refine va_calli (va_runV (As := [.int (nI r), .int (nI k8)]) (rest := []) ⟨hx, hb, hml, hown, hts⟩ (c_X8_key l  dC dI H.size h0 0 q2 c2 a2 (.ref q1) (.ref q3) (.ref q4) (.ref q5) (.ref q6) (.ref q7) (.ref q8) (.ref q9) (.ref q10) (.ref q11) (.ref q12) v13 v14 v15 v16 r k8 hr9 (by omega)) (cwV 2 hts gX8_move_X8_key rfl rfl rfl (by decide +kernel) ⟨(Nat.le_of_ble_eq_true rfl), (Nat.le_of_ble_eq_true rfl)⟩) ⟨pk_blind, va_recv hKc hPc (ci := 8) (q0 := 0) rfl rfl, pk_call hPc hKc hDc⟩ rfl rfl hl.1 rfl (lv_room (Nat.le_of_ble_eq_true rfl)) dX8_move_278 ⟨(Nat.le_of_ble_eq_true rfl), (Nat.le_of_ble_eq_true rfl)⟩) hS (fun q _ h => hFc q h) hFc (fun r_16 ur_16 t H1 locs ht hvm hw hB hz1 hk1 hS => ?_)
                    try dsimp only at hw
                    obtain ⟨hP1, hK1, hD1⟩ := hB
                    rw [ht] at hP1
                    have hK1 := va_K.moved hvm.symm hK1
                    obtain ⟨hP, hD⟩ := va_join (wr := [(q5, .inl (c5, 16, .inl a5)), (q6, .inl (c6, 16, .inl a6)), (q7, .inl (c7, 16, .inl a7)), (q12, .inl (c12, 16, .inl a12)), (q1, .inl (c1, 16, .inl a1)), (q3, .inl (c3, 16, .inl a3)), (q4, .inl (c4, 16, .inl a4)), (q8, .inl (c8, 16, .inl a8)), (q9, .inl (c9, 16, .inl a9)), (q10, .inl (c10, 16, .inl a10)), (q11, .inl (c11, 16, .inl a11))]) (w1 := [(h0, .inr (8, [.int 0, .ref q1, .ref q2, .ref q3, .ref q4, .ref q5, .ref q6, .ref q7, .ref q8, .ref q9, .ref q10, .ref q11, .ref q12, v13, v14, v15, v16])), (q2, .inl (c2, 67200, .inl a2))]) hP hD [4, 6] [0, 1, 2, 3, 5, 7, 8, 9, 10, 11, 12] rfl rfl (by decide) (by decide) hk1 hFc hP1 hD1
                    clear hk1 hz1 ht hPc hDc hKc hFc
                    generalize H1 = H at hP hS ⊢
                    replace hP : va_P (dC, dI) vwCl [(q5, .inl (c5, 16, .inl a5)), (q6, .inl (c6, 16, .inl a6)), (q7, .inl (c7, 16, .inl a7)), (q12, .inl (c12, 16, .inl a12)), (q1, .inl (c1, 16, .inl a1)), (q3, .inl (c3, 16, .inl a3)), (q4, .inl (c4, 16, .inl a4)), (q8, .inl (c8, 16, .inl a8)), (q9, .inl (c9, 16, .inl a9)), (q10, .inl (c10, 16, .inl a10)), (q11, .inl (c11, 16, .inl a11)), (h0, .inr (8, [.int 0, .ref q1, .ref q2, .ref q3, .ref q4, .ref q5, .ref q6, .ref q7, .ref q8, .ref q9, .ref q10, .ref q11, .ref q12, v13, v14, v15, v16])), (q2, .inl (c2, 67200, .inl a2))] H := hP
                    replace hD : va_D A [(q5, .inl (c5, 16, .inl a5)), (q6, .inl (c6, 16, .inl a6)), (q7, .inl (c7, 16, .inl a7)), (q12, .inl (c12, 16, .inl a12)), (q1, .inl (c1, 16, .inl a1)), (q3, .inl (c3, 16, .inl a3)), (q4, .inl (c4, 16, .inl a4)), (q8, .inl (c8, 16, .inl a8)), (q9, .inl (c9, 16, .inl a9)), (q10, .inl (c10, 16, .inl a10)), (q11, .inl (c11, 16, .inl a11)), (h0, .inr (8, [.int 0, .ref q1, .ref q2, .ref q3, .ref q4, .ref q5, .ref q6, .ref q7, .ref q8, .ref q9, .ref q10, .ref q11, .ref q12, v13, v14, v15, v16])), (q2, .inl (c2, 67200, .inl a2))] := hD
                    refine W.widen (k := 0) (n := 0) (Nat.le_of_ble_eq_true rfl) (Nat.le_of_ble_eq_true rfl) ?_
                    obtain rfl : r_16 = a2 (4200 * r + k8) := hw
                    refine W.eq (g2 := F0 m 281 ls [.int (a2 (4200 * r + k8))]) rfl ?_
                    refine lv_istore (lv' := [(8, .int (a2 (4200 * r + k8))), (7, .int (nI k8)), (6, .int (nI ne)), (5, .int (nI r)), (4, .int (nI o)), (0, .ref h0), (1, .int (nI cc)), (2, .int p1), (3, .int p2)]) hx hb dX8_move_281 hl (by decide) rfl (fun ls hl => ?_)
                    refine lv_aload_n hx hb dX8_move_283 rfl (lv_at hl 5 rfl) ?_
                    refine lv_iload hx hb dX8_move_284 (lv_at hl 3 rfl) ?_
                    refine lv_iload hx hb dX8_move_286 (lv_at hl 1 rfl) ?_
                    have hPc := hP.sub (ws' := [(h0, .inr (8, [.int 0, .ref q1, .ref q2, .ref q3, .ref q4, .ref q5, .ref q6, .ref q7, .ref q8, .ref q9, .ref q10, .ref q11, .ref q12, v13, v14, v15, v16])), (q1, .inl (c1, 16, .inl a1)), (q2, .inl (c2, 67200, .inl a2)), (q3, .inl (c3, 16, .inl a3)), (q5, .inl (c5, 16, .inl a5)), (q6, .inl (c6, 16, .inl a6)), (q7, .inl (c7, 16, .inl a7))]) [11, 4, 12, 5, 0, 1, 2] rfl
                    have hDc := hD.sub (ws' := [(h0, .inr (8, [.int 0, .ref q1, .ref q2, .ref q3, .ref q4, .ref q5, .ref q6, .ref q7, .ref q8, .ref q9, .ref q10, .ref q11, .ref q12, v13, v14, v15, v16])), (q1, .inl (c1, 16, .inl a1)), (q2, .inl (c2, 67200, .inl a2)), (q3, .inl (c3, 16, .inl a3)), (q5, .inl (c5, 16, .inl a5)), (q6, .inl (c6, 16, .inl a6)), (q7, .inl (c7, 16, .inl a7))]) [11, 4, 12, 5, 0, 1, 2] (by decide) rfl
                    have hKc := hK.sub (tys' := [(c1, .int), (c2, .int), (c3, .int), (c5, .int), (c6, .int), (c7, .int)]) [0, 1, 2, 4, 5, 6] rfl
                    have hFc := va_free (wc := [(h0, .inr (8, [.int 0, .ref q1, .ref q2, .ref q3, .ref q4, .ref q5, .ref q6, .ref q7, .ref q8, .ref q9, .ref q10, .ref q11, .ref q12, v13, v14, v15, v16])), (q1, .inl (c1, 16, .inl a1)), (q2, .inl (c2, 67200, .inl a2)), (q3, .inl (c3, 16, .inl a3)), (q5, .inl (c5, 16, .inl a5)), (q6, .inl (c6, 16, .inl a6)), (q7, .inl (c7, 16, .inl a7))]) hD hS hA [11, 4, 12, 5, 0, 1, 2] rfl
                    refine va_callv (va_runV (As := [.int (nI r), .int (nI k8)]) (rest := []) ⟨hx, hb, hml, hown, hts⟩ (c_X8_goes l  dC dI H.size h0 0 q1 q2 q3 q5 q6 q7 c1 c2 c3 c5 c6 c7 a1 a2 a3 a5 a6 a7 (.ref q4) (.ref q8) (.ref q9) (.ref q10) (.ref q11) (.ref q12) v13 v14 v15 v16 r k8 tb nz hr9 (by omega) hs9 hz9 (hT9 (by omega))) (cwV 2 hts gX8_move_X8_goes rfl rfl rfl (by decide +kernel) ⟨(Nat.le_of_ble_eq_true rfl), (Nat.le_of_ble_eq_true rfl)⟩) ⟨pk_blind, va_recv hKc hPc (ci := 8) (q0 := 0) rfl rfl, pk_call hPc hKc hDc⟩ rfl rfl hl.1 rfl (lv_room (Nat.le_of_ble_eq_true rfl)) dX8_move_288 ⟨(Nat.le_of_ble_eq_true rfl), (Nat.le_of_ble_eq_true rfl)⟩) hS (fun q _ h => hFc q h) hFc (fun ur_17 t H1 locs ht hvm hw hB hz1 hk1 hS => ?_)
                    try dsimp only at hw
                    have jr_17 := hw
                    obtain ⟨hP1, hK1, hD1⟩ := hB
                    rw [ht] at hP1
                    have hK1 := va_K.moved hvm.symm hK1
                    obtain ⟨hP, hD⟩ := va_join (wr := [(q12, .inl (c12, 16, .inl a12)), (q4, .inl (c4, 16, .inl a4)), (q8, .inl (c8, 16, .inl a8)), (q9, .inl (c9, 16, .inl a9)), (q10, .inl (c10, 16, .inl a10)), (q11, .inl (c11, 16, .inl a11))]) (w1 := [(h0, .inr (8, [.int 0, .ref q1, .ref q2, .ref q3, .ref q4, .ref q5, .ref q6, .ref q7, .ref q8, .ref q9, .ref q10, .ref q11, .ref q12, v13, v14, v15, v16])), (q1, .inl (c1, 16, .inl a1)), (q2, .inl (c2, 67200, .inl ur_17)), (q3, .inl (c3, 16, .inl (upd a3 r (nI (nz - 1))))), (q5, .inl (c5, 16, .inl a5)), (q6, .inl (c6, 16, .inl a6)), (q7, .inl (c7, 16, .inl (upd a7 r (a7 r + 1))))]) hP hD [11, 4, 12, 5, 0, 1, 2] [3, 6, 7, 8, 9, 10] rfl rfl (by decide) (by decide) hk1 hFc hP1 hD1
                    clear hk1 hz1 ht hPc hDc hKc hFc
                    generalize H1 = H at hP hS ⊢
                    replace hP : va_P (dC, dI) vwCl [(q12, .inl (c12, 16, .inl a12)), (q4, .inl (c4, 16, .inl a4)), (q8, .inl (c8, 16, .inl a8)), (q9, .inl (c9, 16, .inl a9)), (q10, .inl (c10, 16, .inl a10)), (q11, .inl (c11, 16, .inl a11)), (h0, .inr (8, [.int 0, .ref q1, .ref q2, .ref q3, .ref q4, .ref q5, .ref q6, .ref q7, .ref q8, .ref q9, .ref q10, .ref q11, .ref q12, v13, v14, v15, v16])), (q1, .inl (c1, 16, .inl a1)), (q2, .inl (c2, 67200, .inl ur_17)), (q3, .inl (c3, 16, .inl (upd a3 r (nI (nz - 1))))), (q5, .inl (c5, 16, .inl a5)), (q6, .inl (c6, 16, .inl a6)), (q7, .inl (c7, 16, .inl (upd a7 r (a7 r + 1))))] H := hP
                    replace hD : va_D A [(q12, .inl (c12, 16, .inl a12)), (q4, .inl (c4, 16, .inl a4)), (q8, .inl (c8, 16, .inl a8)), (q9, .inl (c9, 16, .inl a9)), (q10, .inl (c10, 16, .inl a10)), (q11, .inl (c11, 16, .inl a11)), (h0, .inr (8, [.int 0, .ref q1, .ref q2, .ref q3, .ref q4, .ref q5, .ref q6, .ref q7, .ref q8, .ref q9, .ref q10, .ref q11, .ref q12, v13, v14, v15, v16])), (q1, .inl (c1, 16, .inl a1)), (q2, .inl (c2, 67200, .inl ur_17)), (q3, .inl (c3, 16, .inl (upd a3 r (nI (nz - 1))))), (q5, .inl (c5, 16, .inl a5)), (q6, .inl (c6, 16, .inl a6)), (q7, .inl (c7, 16, .inl (upd a7 r (a7 r + 1))))] := hD
                    refine W.widen (k := 0) (n := 0) (Nat.le_of_ble_eq_true rfl) (Nat.le_of_ble_eq_true rfl) ?_
                    refine W.eq (g2 := F0 m 291 ls []) rfl ?_
                    have jg := jr_17
                    refine lv_aload_n hx hb dX8_move_291 rfl (lv_at hl 5 rfl) ?_
                    refine va_get (D := (dC, dI)) (ci := 8) (v := .ref q9) (C := RX8) (T := TX8) (N := 17) hx hb hts hi0_ hown hK hP 6 rfl rfl 9 (by decide) hw6_ (fun _ h9 => h9) rfl dX8_move_292 ?_
                    refine lv_iload_n hx hb dX8_move_295 rfl (lv_at hl 6 rfl) ?_
                    refine lv_dup2_11 hx hb dX8_move_296 rfl rfl ?_
                    refine va_iald (i := nI cc) hx hb hK hP 3 8 rfl rfl (vp_in_nI (by omega) (by omega)) dX8_move_297 ?_
                    refine W.eq (g2 := F0 m 298 ls [.int (a9 cc), .int (nI cc), .ref q9]) (by rw [nI_clamp (by omega)]) ?_
                    refine W.eq (g2 := F0 m 298 ls [.int (nI fr), .int (nI cc), .ref q9]) (by rw [hfr]) ?_
                    refine lv_iconst (v := 1) hx hb dX8_move_298 (by decide) ?_
                    refine lv_isub hx hb dX8_move_299 ?_
                    refine lv_topi (fun z_18 ez_18 => ?_)
                    obtain rfl : z_18 = nI (fr - 1) := ez_18.trans (by rw [show (1 : Int32) = nI 1 from rfl, pk_sub (by omega)])
                    refine va_iast (i := nI cc) hx hb hK hP hD hS 3 8 rfl rfl (vp_in_nI (by omega) (by omega)) dX8_move_300 (fun H locs hP hD hS => ?_)
                    rw [nI_clamp (by omega)] at hP hD
                    replace hP : va_P (dC, dI) vwCl [(q12, .inl (c12, 16, .inl a12)), (q4, .inl (c4, 16, .inl a4)), (q8, .inl (c8, 16, .inl a8)), (q9, .inl (c9, 16, .inl (upd a9 cc (nI (fr - 1))))), (q10, .inl (c10, 16, .inl a10)), (q11, .inl (c11, 16, .inl a11)), (h0, .inr (8, [.int 0, .ref q1, .ref q2, .ref q3, .ref q4, .ref q5, .ref q6, .ref q7, .ref q8, .ref q9, .ref q10, .ref q11, .ref q12, v13, v14, v15, v16])), (q1, .inl (c1, 16, .inl a1)), (q2, .inl (c2, 67200, .inl ur_17)), (q3, .inl (c3, 16, .inl (upd a3 r (nI (nz - 1))))), (q5, .inl (c5, 16, .inl a5)), (q6, .inl (c6, 16, .inl a6)), (q7, .inl (c7, 16, .inl (upd a7 r (a7 r + 1))))] H := hP
                    replace hD : va_D A [(q12, .inl (c12, 16, .inl a12)), (q4, .inl (c4, 16, .inl a4)), (q8, .inl (c8, 16, .inl a8)), (q9, .inl (c9, 16, .inl (upd a9 cc (nI (fr - 1))))), (q10, .inl (c10, 16, .inl a10)), (q11, .inl (c11, 16, .inl a11)), (h0, .inr (8, [.int 0, .ref q1, .ref q2, .ref q3, .ref q4, .ref q5, .ref q6, .ref q7, .ref q8, .ref q9, .ref q10, .ref q11, .ref q12, v13, v14, v15, v16])), (q1, .inl (c1, 16, .inl a1)), (q2, .inl (c2, 67200, .inl ur_17)), (q3, .inl (c3, 16, .inl (upd a3 r (nI (nz - 1))))), (q5, .inl (c5, 16, .inl a5)), (q6, .inl (c6, 16, .inl a6)), (q7, .inl (c7, 16, .inl (upd a7 r (a7 r + 1))))] := hD
                    refine lv_aload_n hx hb dX8_move_301 rfl (lv_at hl 5 rfl) ?_
                    refine va_get (D := (dC, dI)) (ci := 8) (v := .ref q10) (C := RX8) (T := TX8) (N := 17) hx hb hts hi0_ hown hK hP 6 rfl rfl 10 (by decide) hw5_ (fun _ h9 => h9) rfl dX8_move_302 ?_
                    refine lv_iload_n hx hb dX8_move_305 rfl (lv_at hl 6 rfl) ?_
                    refine lv_iconst (v := 0) hx hb dX8_move_306 (by decide) ?_
                    refine va_iast (i := nI cc) hx hb hK hP hD hS 4 9 rfl rfl (vp_in_nI (by omega) (by omega)) dX8_move_307 (fun H locs hP hD hS => ?_)
                    rw [nI_clamp (by omega)] at hP hD
                    replace hP : va_P (dC, dI) vwCl [(q12, .inl (c12, 16, .inl a12)), (q4, .inl (c4, 16, .inl a4)), (q8, .inl (c8, 16, .inl a8)), (q9, .inl (c9, 16, .inl (upd a9 cc (nI (fr - 1))))), (q10, .inl (c10, 16, .inl (upd a10 cc 0))), (q11, .inl (c11, 16, .inl a11)), (h0, .inr (8, [.int 0, .ref q1, .ref q2, .ref q3, .ref q4, .ref q5, .ref q6, .ref q7, .ref q8, .ref q9, .ref q10, .ref q11, .ref q12, v13, v14, v15, v16])), (q1, .inl (c1, 16, .inl a1)), (q2, .inl (c2, 67200, .inl ur_17)), (q3, .inl (c3, 16, .inl (upd a3 r (nI (nz - 1))))), (q5, .inl (c5, 16, .inl a5)), (q6, .inl (c6, 16, .inl a6)), (q7, .inl (c7, 16, .inl (upd a7 r (a7 r + 1))))] H := hP
                    replace hD : va_D A [(q12, .inl (c12, 16, .inl a12)), (q4, .inl (c4, 16, .inl a4)), (q8, .inl (c8, 16, .inl a8)), (q9, .inl (c9, 16, .inl (upd a9 cc (nI (fr - 1))))), (q10, .inl (c10, 16, .inl (upd a10 cc 0))), (q11, .inl (c11, 16, .inl a11)), (h0, .inr (8, [.int 0, .ref q1, .ref q2, .ref q3, .ref q4, .ref q5, .ref q6, .ref q7, .ref q8, .ref q9, .ref q10, .ref q11, .ref q12, v13, v14, v15, v16])), (q1, .inl (c1, 16, .inl a1)), (q2, .inl (c2, 67200, .inl ur_17)), (q3, .inl (c3, 16, .inl (upd a3 r (nI (nz - 1))))), (q5, .inl (c5, 16, .inl a5)), (q6, .inl (c6, 16, .inl a6)), (q7, .inl (c7, 16, .inl (upd a7 r (a7 r + 1))))] := hD
                    refine lv_aload_n hx hb dX8_move_308 rfl (lv_at hl 5 rfl) ?_
                    refine va_get (D := (dC, dI)) (ci := 8) (v := .ref q12) (C := RX8) (T := TX8) (N := 17) hx hb hts hi0_ hown hK hP 6 rfl rfl 12 (by decide) hw2_ (fun _ h9 => h9) rfl dX8_move_309 ?_
                    refine lv_iload_n hx hb dX8_move_312 rfl (lv_at hl 6 rfl) ?_
                    refine lv_aload_n hx hb dX8_move_313 rfl (lv_at hl 5 rfl) ?_
                    refine va_get (D := (dC, dI)) (ci := 8) (v := .ref q7) (C := RX8) (T := TX8) (N := 17) hx hb hts hi0_ hown hK hP 6 rfl rfl 7 (by decide) hw3_ (fun _ h9 => h9) rfl dX8_move_314 ?_
                    refine lv_iload hx hb dX8_move_317 (lv_at hl 3 rfl) ?_
                    refine va_iald (i := nI r) hx hb hK hP 12 6 rfl rfl (vp_in_nI (by omega) (by omega)) dX8_move_319 ?_
                    refine W.eq (g2 := F0 m 320 ls [.int ((upd a7 r (a7 r + 1)) r), .int (nI cc), .ref q12]) (by rw [nI_clamp (by omega)]) ?_
                    refine W.eq (g2 := F0 m 320 ls [.int (a7 r + 1), .int (nI cc), .ref q12]) (by rw [pk_us]) ?_
                    refine va_iast (i := nI cc) hx hb hK hP hD hS 0 11 rfl rfl (vp_in_nI (by omega) (by omega)) dX8_move_320 (fun H locs hP hD hS => ?_)
                    rw [nI_clamp (by omega)] at hP hD
                    replace hP : va_P (dC, dI) vwCl [(q12, .inl (c12, 16, .inl (upd a12 cc (a7 r + 1)))), (q4, .inl (c4, 16, .inl a4)), (q8, .inl (c8, 16, .inl a8)), (q9, .inl (c9, 16, .inl (upd a9 cc (nI (fr - 1))))), (q10, .inl (c10, 16, .inl (upd a10 cc 0))), (q11, .inl (c11, 16, .inl a11)), (h0, .inr (8, [.int 0, .ref q1, .ref q2, .ref q3, .ref q4, .ref q5, .ref q6, .ref q7, .ref q8, .ref q9, .ref q10, .ref q11, .ref q12, v13, v14, v15, v16])), (q1, .inl (c1, 16, .inl a1)), (q2, .inl (c2, 67200, .inl ur_17)), (q3, .inl (c3, 16, .inl (upd a3 r (nI (nz - 1))))), (q5, .inl (c5, 16, .inl a5)), (q6, .inl (c6, 16, .inl a6)), (q7, .inl (c7, 16, .inl (upd a7 r (a7 r + 1))))] H := hP
                    replace hD : va_D A [(q12, .inl (c12, 16, .inl (upd a12 cc (a7 r + 1)))), (q4, .inl (c4, 16, .inl a4)), (q8, .inl (c8, 16, .inl a8)), (q9, .inl (c9, 16, .inl (upd a9 cc (nI (fr - 1))))), (q10, .inl (c10, 16, .inl (upd a10 cc 0))), (q11, .inl (c11, 16, .inl a11)), (h0, .inr (8, [.int 0, .ref q1, .ref q2, .ref q3, .ref q4, .ref q5, .ref q6, .ref q7, .ref q8, .ref q9, .ref q10, .ref q11, .ref q12, v13, v14, v15, v16])), (q1, .inl (c1, 16, .inl a1)), (q2, .inl (c2, 67200, .inl ur_17)), (q3, .inl (c3, 16, .inl (upd a3 r (nI (nz - 1))))), (q5, .inl (c5, 16, .inl a5)), (q6, .inl (c6, 16, .inl a6)), (q7, .inl (c7, 16, .inl (upd a7 r (a7 r + 1))))] := hD
                    refine lv_iload hx hb dX8_move_321 (lv_at hl 0 rfl) ?_
                    refine lv_i2l (v := (a2 (4200 * r + k8)).toInt64) hx hb dX8_move_323 rfl ?_
                    have hb7 := hBa r hr9
                    have hb6 := tx_inc (x := a7 r) (by omega) (by omega)
                    have hcu : cuO a1 ur_17 (upd a3 r (nI (nz - 1))) a4 (upd a7 r (a7 r + 1)) a8 (upd a9 cc (nI (fr - 1))) (upd a10 cc 0) a11 (upd a12 cc (a7 r + 1)) cc := cu_mk ho9 ep8 hrt9 (by rw [pk_us, hb6]; omega) (by rw [pk_us, pk_us]; exact Int.le_refl _) (fun _ n e hn => ⟨fr - 1, 0, pk_us, pk_us.trans rfl, by omega, by rw [pk_us] at e; rw [cnt_cu hF9 ho9 ic5, ← (nI_eq (by omega) (by omega)).mp e]; have h9 := cnt_go (a1 := a1) (a4 := a4) (a8 := a8) (a9 := a9) (a10 := a10) (a11 := a11) hrt9 hz9 hk8 jg.2; rw [← hne] at h9; omega⟩)
                    have hP9 := hP.sub (ws' := [(h0, .inr (8, [.int 0, .ref q1, .ref q2, .ref q3, .ref q4, .ref q5, .ref q6, .ref q7, .ref q8, .ref q9, .ref q10, .ref q11, .ref q12, v13, v14, v15, v16])), (q1, .inl (c1, 16, .inl a1)), (q2, .inl (c2, 67200, .inl ur_17)), (q3, .inl (c3, 16, .inl (upd a3 r (nI (nz - 1))))), (q4, .inl (c4, 16, .inl a4)), (q5, .inl (c5, 16, .inl a5)), (q6, .inl (c6, 16, .inl a6)), (q7, .inl (c7, 16, .inl (upd a7 r (a7 r + 1)))), (q8, .inl (c8, 16, .inl a8)), (q9, .inl (c9, 16, .inl (upd a9 cc (nI (fr - 1))))), (q10, .inl (c10, 16, .inl (upd a10 cc 0))), (q11, .inl (c11, 16, .inl a11)), (q12, .inl (c12, 16, .inl (upd a12 cc (a7 r + 1))))]) [6, 7, 8, 9, 1, 10, 11, 12, 2, 3, 4, 5, 0] rfl
                    have hD9 := hD.sub (ws' := [(h0, .inr (8, [.int 0, .ref q1, .ref q2, .ref q3, .ref q4, .ref q5, .ref q6, .ref q7, .ref q8, .ref q9, .ref q10, .ref q11, .ref q12, v13, v14, v15, v16])), (q1, .inl (c1, 16, .inl a1)), (q2, .inl (c2, 67200, .inl ur_17)), (q3, .inl (c3, 16, .inl (upd a3 r (nI (nz - 1))))), (q4, .inl (c4, 16, .inl a4)), (q5, .inl (c5, 16, .inl a5)), (q6, .inl (c6, 16, .inl a6)), (q7, .inl (c7, 16, .inl (upd a7 r (a7 r + 1)))), (q8, .inl (c8, 16, .inl a8)), (q9, .inl (c9, 16, .inl (upd a9 cc (nI (fr - 1))))), (q10, .inl (c10, 16, .inl (upd a10 cc 0))), (q11, .inl (c11, 16, .inl a11)), (q12, .inl (c12, 16, .inl (upd a12 cc (a7 r + 1))))]) [6, 7, 8, 9, 1, 10, 11, 12, 2, 3, 4, 5, 0] (by decide) rfl
                    have hK9 := hK.sub (tys' := [(c1, .int), (c2, .int), (c3, .int), (c4, .int), (c5, .int), (c6, .int), (c7, .int), (c8, .int), (c9, .int), (c10, .int), (c11, .int), (c12, .int)]) [0, 1, 2, 3, 4, 5, 6, 7, 8, 9, 10, 11] rfl
                    refine W.widen (k := 0) (n := 0) (Nat.le_of_ble_eq_true rfl) (Nat.le_of_ble_eq_true rfl) ?_
                    exact W.lret (v := (a2 (4200 * r + k8)).toInt64) hx hb hr (fun t ht hW => ⟨⟨(a2 (4200 * r + k8)).toInt64, (0, ur_17, (upd a3 r (nI (nz - 1))), (upd a7 r (a7 r + 1)), (upd a9 cc (nI (fr - 1))), (upd a10 cc 0), (upd a12 cc (a7 r + 1))), rfl, Or.inr ⟨cc, r, 1, hcc, ic5, by omega, rs_1 jg.1 (fun _ _ => rfl), hr9, mo_us (hM8 _ (by omega)), fun q hq => ⟨pk_un hq, pk_un hq, pk_un hq⟩, hcu⟩, by rw [ht]; exact hP9, va_K.moved hW.alike hK9, hD9⟩, hS.F ht⟩) hS.2.2 dX8_move_324
                  ·
                    have ic_15 : p1.toInt = 3 := tx_eq rfl (by decide) c_15
                    refine lv_aload_n hx hb dX8_move_240 rfl (lv_at hl 4 rfl) ?_
                    refine lv_iload hx hb dX8_move_241 (lv_at hl 2 rfl) ?_
                    refine lv_iload hx hb dX8_move_243 (lv_at hl 0 rfl) ?_
                    have hPc := hP.sub (ws' := [(h0, .inr (8, [.int 0, .ref q1, .ref q2, .ref q3, .ref q4, .ref q5, .ref q6, .ref q7, .ref q8, .ref q9, .ref q10, .ref q11, .ref q12, v13, v14, v15, v16])), (q2, .inl (c2, 67200, .inl a2))]) [4, 6] rfl
                    have hDc := hD.sub (ws' := [(h0, .inr (8, [.int 0, .ref q1, .ref q2, .ref q3, .ref q4, .ref q5, .ref q6, .ref q7, .ref q8, .ref q9, .ref q10, .ref q11, .ref q12, v13, v14, v15, v16])), (q2, .inl (c2, 67200, .inl a2))]) [4, 6] (by decide) rfl
                    have hKc := hK.sub (tys' := [(c2, .int)]) [1] rfl
                    have hFc := va_free (wc := [(h0, .inr (8, [.int 0, .ref q1, .ref q2, .ref q3, .ref q4, .ref q5, .ref q6, .ref q7, .ref q8, .ref q9, .ref q10, .ref q11, .ref q12, v13, v14, v15, v16])), (q2, .inl (c2, 67200, .inl a2))]) hD hS hA [4, 6] rfl
                    refine va_calli (va_runV (As := [.int (nI r), .int (nI k8)]) (rest := []) ⟨hx, hb, hml, hown, hts⟩ (c_X8_value l  dC dI H.size h0 0 q2 c2 a2 (.ref q1) (.ref q3) (.ref q4) (.ref q5) (.ref q6) (.ref q7) (.ref q8) (.ref q9) (.ref q10) (.ref q11) (.ref q12) v13 v14 v15 v16 r k8 hr9 (by omega)) (cwV 2 hts gX8_move_X8_value rfl rfl rfl (by decide +kernel) ⟨(Nat.le_of_ble_eq_true rfl), (Nat.le_of_ble_eq_true rfl)⟩) ⟨pk_blind, va_recv hKc hPc (ci := 8) (q0 := 0) rfl rfl, pk_call hPc hKc hDc⟩ rfl rfl hl.1 rfl (lv_room (Nat.le_of_ble_eq_true rfl)) dX8_move_245 ⟨(Nat.le_of_ble_eq_true rfl), (Nat.le_of_ble_eq_true rfl)⟩) hS (fun q _ h => hFc q h) hFc (fun r_19 ur_19 t H1 locs ht hvm hw hB hz1 hk1 hS => ?_)
                    try dsimp only at hw
                    obtain ⟨hP1, hK1, hD1⟩ := hB
                    rw [ht] at hP1
                    have hK1 := va_K.moved hvm.symm hK1
                    obtain ⟨hP, hD⟩ := va_join (wr := [(q5, .inl (c5, 16, .inl a5)), (q6, .inl (c6, 16, .inl a6)), (q7, .inl (c7, 16, .inl a7)), (q12, .inl (c12, 16, .inl a12)), (q1, .inl (c1, 16, .inl a1)), (q3, .inl (c3, 16, .inl a3)), (q4, .inl (c4, 16, .inl a4)), (q8, .inl (c8, 16, .inl a8)), (q9, .inl (c9, 16, .inl a9)), (q10, .inl (c10, 16, .inl a10)), (q11, .inl (c11, 16, .inl a11))]) (w1 := [(h0, .inr (8, [.int 0, .ref q1, .ref q2, .ref q3, .ref q4, .ref q5, .ref q6, .ref q7, .ref q8, .ref q9, .ref q10, .ref q11, .ref q12, v13, v14, v15, v16])), (q2, .inl (c2, 67200, .inl a2))]) hP hD [4, 6] [0, 1, 2, 3, 5, 7, 8, 9, 10, 11, 12] rfl rfl (by decide) (by decide) hk1 hFc hP1 hD1
                    clear hk1 hz1 ht hPc hDc hKc hFc
                    generalize H1 = H at hP hS ⊢
                    replace hP : va_P (dC, dI) vwCl [(q5, .inl (c5, 16, .inl a5)), (q6, .inl (c6, 16, .inl a6)), (q7, .inl (c7, 16, .inl a7)), (q12, .inl (c12, 16, .inl a12)), (q1, .inl (c1, 16, .inl a1)), (q3, .inl (c3, 16, .inl a3)), (q4, .inl (c4, 16, .inl a4)), (q8, .inl (c8, 16, .inl a8)), (q9, .inl (c9, 16, .inl a9)), (q10, .inl (c10, 16, .inl a10)), (q11, .inl (c11, 16, .inl a11)), (h0, .inr (8, [.int 0, .ref q1, .ref q2, .ref q3, .ref q4, .ref q5, .ref q6, .ref q7, .ref q8, .ref q9, .ref q10, .ref q11, .ref q12, v13, v14, v15, v16])), (q2, .inl (c2, 67200, .inl a2))] H := hP
                    replace hD : va_D A [(q5, .inl (c5, 16, .inl a5)), (q6, .inl (c6, 16, .inl a6)), (q7, .inl (c7, 16, .inl a7)), (q12, .inl (c12, 16, .inl a12)), (q1, .inl (c1, 16, .inl a1)), (q3, .inl (c3, 16, .inl a3)), (q4, .inl (c4, 16, .inl a4)), (q8, .inl (c8, 16, .inl a8)), (q9, .inl (c9, 16, .inl a9)), (q10, .inl (c10, 16, .inl a10)), (q11, .inl (c11, 16, .inl a11)), (h0, .inr (8, [.int 0, .ref q1, .ref q2, .ref q3, .ref q4, .ref q5, .ref q6, .ref q7, .ref q8, .ref q9, .ref q10, .ref q11, .ref q12, v13, v14, v15, v16])), (q2, .inl (c2, 67200, .inl a2))] := hD
                    refine W.widen (k := 0) (n := 0) (Nat.le_of_ble_eq_true rfl) (Nat.le_of_ble_eq_true rfl) ?_
                    obtain rfl : r_19 = a2 (4200 * r + 1000 + k8) := hw
                    refine W.eq (g2 := F0 m 248 ls [.int (a2 (4200 * r + 1000 + k8))]) rfl ?_
                    refine lv_istore (lv' := [(8, .int (a2 (4200 * r + 1000 + k8))), (7, .int (nI k8)), (6, .int (nI ne)), (5, .int (nI r)), (4, .int (nI o)), (0, .ref h0), (1, .int (nI cc)), (2, .int p1), (3, .int p2)]) hx hb dX8_move_248 hl (by decide) rfl (fun ls hl => ?_)
                    refine lv_aload_n hx hb dX8_move_250 rfl (lv_at hl 5 rfl) ?_
                    refine va_get (D := (dC, dI)) (ci := 8) (v := .ref q2) (C := RX8) (T := TX8) (N := 17) hx hb hts hi0_ hown hK hP 11 rfl rfl 2 (by decide) hw7_ (fun _ h9 => h9) rfl dX8_move_251 ?_
                    refine lv_sipush (v := 4200) hx hb dX8_move_254 (by decide) ?_
                    refine lv_iload hx hb dX8_move_257 (lv_at hl 3 rfl) ?_
                    refine lv_imul hx hb dX8_move_259 ?_
                    refine lv_topi (fun z_20 ez_20 => ?_)
                    obtain rfl : z_20 = nI (4200 * r) := ez_20.trans (by rw [show (4200 : Int32) = nI 4200 from rfl, pk_mul])
                    refine lv_sipush (v := 1000) hx hb dX8_move_260 (by decide) ?_
                    refine lv_iadd hx hb dX8_move_263 ?_
                    refine lv_topi (fun z_21 ez_21 => ?_)
                    obtain rfl : z_21 = nI ((4200 * r) + 1000) := ez_21.trans (by rw [show (1000 : Int32) = nI 1000 from rfl, nI_add])
                    refine lv_iload hx hb dX8_move_264 (lv_at hl 1 rfl) ?_
                    refine lv_iadd hx hb dX8_move_266 ?_
                    refine lv_topi (fun z_22 ez_22 => ?_)
                    obtain rfl : z_22 = nI (((4200 * r) + 1000) + k8) := ez_22.trans (by rw [nI_add])
                    refine lv_iload_n hx hb dX8_move_267 rfl (lv_at hl 8 rfl) ?_
                    refine va_iast (i := nI (((4200 * r) + 1000) + k8)) hx hb hK hP hD hS 12 1 rfl rfl (vp_in_nI (by omega) (by omega)) dX8_move_268 (fun H locs hP hD hS => ?_)
                    rw [nI_clamp (by omega)] at hP hD
                    replace hP : va_P (dC, dI) vwCl [(q5, .inl (c5, 16, .inl a5)), (q6, .inl (c6, 16, .inl a6)), (q7, .inl (c7, 16, .inl a7)), (q12, .inl (c12, 16, .inl a12)), (q1, .inl (c1, 16, .inl a1)), (q3, .inl (c3, 16, .inl a3)), (q4, .inl (c4, 16, .inl a4)), (q8, .inl (c8, 16, .inl a8)), (q9, .inl (c9, 16, .inl a9)), (q10, .inl (c10, 16, .inl a10)), (q11, .inl (c11, 16, .inl a11)), (h0, .inr (8, [.int 0, .ref q1, .ref q2, .ref q3, .ref q4, .ref q5, .ref q6, .ref q7, .ref q8, .ref q9, .ref q10, .ref q11, .ref q12, v13, v14, v15, v16])), (q2, .inl (c2, 67200, .inl (upd a2 (((4200 * r) + 1000) + k8) p2)))] H := hP
                    replace hD : va_D A [(q5, .inl (c5, 16, .inl a5)), (q6, .inl (c6, 16, .inl a6)), (q7, .inl (c7, 16, .inl a7)), (q12, .inl (c12, 16, .inl a12)), (q1, .inl (c1, 16, .inl a1)), (q3, .inl (c3, 16, .inl a3)), (q4, .inl (c4, 16, .inl a4)), (q8, .inl (c8, 16, .inl a8)), (q9, .inl (c9, 16, .inl a9)), (q10, .inl (c10, 16, .inl a10)), (q11, .inl (c11, 16, .inl a11)), (h0, .inr (8, [.int 0, .ref q1, .ref q2, .ref q3, .ref q4, .ref q5, .ref q6, .ref q7, .ref q8, .ref q9, .ref q10, .ref q11, .ref q12, v13, v14, v15, v16])), (q2, .inl (c2, 67200, .inl (upd a2 (((4200 * r) + 1000) + k8) p2)))] := hD
                    refine lv_iload hx hb dX8_move_269 (lv_at hl 0 rfl) ?_
                    refine lv_i2l (v := (a2 (4200 * r + 1000 + k8)).toInt64) hx hb dX8_move_271 rfl ?_
                    have hcu : cuO a1 (upd a2 (((4200 * r) + 1000) + k8) p2) a3 a4 a7 a8 a9 a10 a11 a12 cc := cu_mk ho9 ep8 hrt9 hsn1 hsn2 (fun _ n e hn => ⟨fr, tt, hfr, htt, hle1, by rw [cnt_io hrt9 hn (fun i hi => pk_un (by omega)), ← (nI_eq (by omega) (by omega)).mp (hs9.symm.trans e), ← hne]; omega⟩)
                    have hP9 := hP.sub (ws' := [(h0, .inr (8, [.int 0, .ref q1, .ref q2, .ref q3, .ref q4, .ref q5, .ref q6, .ref q7, .ref q8, .ref q9, .ref q10, .ref q11, .ref q12, v13, v14, v15, v16])), (q1, .inl (c1, 16, .inl a1)), (q2, .inl (c2, 67200, .inl (upd a2 (((4200 * r) + 1000) + k8) p2))), (q3, .inl (c3, 16, .inl a3)), (q4, .inl (c4, 16, .inl a4)), (q5, .inl (c5, 16, .inl a5)), (q6, .inl (c6, 16, .inl a6)), (q7, .inl (c7, 16, .inl a7)), (q8, .inl (c8, 16, .inl a8)), (q9, .inl (c9, 16, .inl a9)), (q10, .inl (c10, 16, .inl a10)), (q11, .inl (c11, 16, .inl a11)), (q12, .inl (c12, 16, .inl a12))]) [11, 4, 12, 5, 6, 0, 1, 2, 7, 8, 9, 10, 3] rfl
                    have hD9 := hD.sub (ws' := [(h0, .inr (8, [.int 0, .ref q1, .ref q2, .ref q3, .ref q4, .ref q5, .ref q6, .ref q7, .ref q8, .ref q9, .ref q10, .ref q11, .ref q12, v13, v14, v15, v16])), (q1, .inl (c1, 16, .inl a1)), (q2, .inl (c2, 67200, .inl (upd a2 (((4200 * r) + 1000) + k8) p2))), (q3, .inl (c3, 16, .inl a3)), (q4, .inl (c4, 16, .inl a4)), (q5, .inl (c5, 16, .inl a5)), (q6, .inl (c6, 16, .inl a6)), (q7, .inl (c7, 16, .inl a7)), (q8, .inl (c8, 16, .inl a8)), (q9, .inl (c9, 16, .inl a9)), (q10, .inl (c10, 16, .inl a10)), (q11, .inl (c11, 16, .inl a11)), (q12, .inl (c12, 16, .inl a12))]) [11, 4, 12, 5, 6, 0, 1, 2, 7, 8, 9, 10, 3] (by decide) rfl
                    have hK9 := hK.sub (tys' := [(c1, .int), (c2, .int), (c3, .int), (c4, .int), (c5, .int), (c6, .int), (c7, .int), (c8, .int), (c9, .int), (c10, .int), (c11, .int), (c12, .int)]) [0, 1, 2, 3, 4, 5, 6, 7, 8, 9, 10, 11] rfl
                    refine W.widen (k := 0) (n := 0) (Nat.le_of_ble_eq_true rfl) (Nat.le_of_ble_eq_true rfl) ?_
                    exact W.lret (v := (a2 (4200 * r + 1000 + k8)).toInt64) hx hb hr (fun t ht hW => ⟨⟨(a2 (4200 * r + 1000 + k8)).toInt64, (0, (upd a2 (((4200 * r) + 1000) + k8) p2), a3, a7, a9, a10, a12), rfl, Or.inr ⟨cc, r, 0, hcc, ic5, by omega, rs_v rs_rf (m := 1000 + k8) (by omega) (by omega) (by omega), hr9, hM9, fun q hq => ⟨rfl, rfl, rfl⟩, hcu⟩, by rw [ht]; exact hP9, va_K.moved hW.alike hK9, hD9⟩, hS.F ht⟩) hS.2.2 dX8_move_272
                ·
                  have ic_14 : p1.toInt = 4 := tx_eq rfl (by decide) c_14
                  refine lv_aload_n hx hb dX8_move_225 rfl (lv_at hl 4 rfl) ?_
                  refine lv_iload hx hb dX8_move_226 (lv_at hl 2 rfl) ?_
                  refine lv_iload hx hb dX8_move_228 (lv_at hl 0 rfl) ?_
                  have hPc := hP.sub (ws' := [(h0, .inr (8, [.int 0, .ref q1, .ref q2, .ref q3, .ref q4, .ref q5, .ref q6, .ref q7, .ref q8, .ref q9, .ref q10, .ref q11, .ref q12, v13, v14, v15, v16])), (q2, .inl (c2, 67200, .inl a2))]) [4, 6] rfl
                  have hDc := hD.sub (ws' := [(h0, .inr (8, [.int 0, .ref q1, .ref q2, .ref q3, .ref q4, .ref q5, .ref q6, .ref q7, .ref q8, .ref q9, .ref q10, .ref q11, .ref q12, v13, v14, v15, v16])), (q2, .inl (c2, 67200, .inl a2))]) [4, 6] (by decide) rfl
                  have hKc := hK.sub (tys' := [(c2, .int)]) [1] rfl
                  have hFc := va_free (wc := [(h0, .inr (8, [.int 0, .ref q1, .ref q2, .ref q3, .ref q4, .ref q5, .ref q6, .ref q7, .ref q8, .ref q9, .ref q10, .ref q11, .ref q12, v13, v14, v15, v16])), (q2, .inl (c2, 67200, .inl a2))]) hD hS hA [4, 6] rfl
                  refine va_calli (va_runV (As := [.int (nI r), .int (nI k8)]) (rest := []) ⟨hx, hb, hml, hown, hts⟩ (c_X8_value l  dC dI H.size h0 0 q2 c2 a2 (.ref q1) (.ref q3) (.ref q4) (.ref q5) (.ref q6) (.ref q7) (.ref q8) (.ref q9) (.ref q10) (.ref q11) (.ref q12) v13 v14 v15 v16 r k8 hr9 (by omega)) (cwV 2 hts gX8_move_X8_value rfl rfl rfl (by decide +kernel) ⟨(Nat.le_of_ble_eq_true rfl), (Nat.le_of_ble_eq_true rfl)⟩) ⟨pk_blind, va_recv hKc hPc (ci := 8) (q0 := 0) rfl rfl, pk_call hPc hKc hDc⟩ rfl rfl hl.1 rfl (lv_room (Nat.le_of_ble_eq_true rfl)) dX8_move_230 ⟨(Nat.le_of_ble_eq_true rfl), (Nat.le_of_ble_eq_true rfl)⟩) hS (fun q _ h => hFc q h) hFc (fun r_23 ur_23 t H1 locs ht hvm hw hB hz1 hk1 hS => ?_)
                  try dsimp only at hw
                  obtain ⟨hP1, hK1, hD1⟩ := hB
                  rw [ht] at hP1
                  have hK1 := va_K.moved hvm.symm hK1
                  obtain ⟨hP, hD⟩ := va_join (wr := [(q5, .inl (c5, 16, .inl a5)), (q6, .inl (c6, 16, .inl a6)), (q7, .inl (c7, 16, .inl a7)), (q12, .inl (c12, 16, .inl a12)), (q1, .inl (c1, 16, .inl a1)), (q3, .inl (c3, 16, .inl a3)), (q4, .inl (c4, 16, .inl a4)), (q8, .inl (c8, 16, .inl a8)), (q9, .inl (c9, 16, .inl a9)), (q10, .inl (c10, 16, .inl a10)), (q11, .inl (c11, 16, .inl a11))]) (w1 := [(h0, .inr (8, [.int 0, .ref q1, .ref q2, .ref q3, .ref q4, .ref q5, .ref q6, .ref q7, .ref q8, .ref q9, .ref q10, .ref q11, .ref q12, v13, v14, v15, v16])), (q2, .inl (c2, 67200, .inl a2))]) hP hD [4, 6] [0, 1, 2, 3, 5, 7, 8, 9, 10, 11, 12] rfl rfl (by decide) (by decide) hk1 hFc hP1 hD1
                  clear hk1 hz1 ht hPc hDc hKc hFc
                  generalize H1 = H at hP hS ⊢
                  replace hP : va_P (dC, dI) vwCl [(q5, .inl (c5, 16, .inl a5)), (q6, .inl (c6, 16, .inl a6)), (q7, .inl (c7, 16, .inl a7)), (q12, .inl (c12, 16, .inl a12)), (q1, .inl (c1, 16, .inl a1)), (q3, .inl (c3, 16, .inl a3)), (q4, .inl (c4, 16, .inl a4)), (q8, .inl (c8, 16, .inl a8)), (q9, .inl (c9, 16, .inl a9)), (q10, .inl (c10, 16, .inl a10)), (q11, .inl (c11, 16, .inl a11)), (h0, .inr (8, [.int 0, .ref q1, .ref q2, .ref q3, .ref q4, .ref q5, .ref q6, .ref q7, .ref q8, .ref q9, .ref q10, .ref q11, .ref q12, v13, v14, v15, v16])), (q2, .inl (c2, 67200, .inl a2))] H := hP
                  replace hD : va_D A [(q5, .inl (c5, 16, .inl a5)), (q6, .inl (c6, 16, .inl a6)), (q7, .inl (c7, 16, .inl a7)), (q12, .inl (c12, 16, .inl a12)), (q1, .inl (c1, 16, .inl a1)), (q3, .inl (c3, 16, .inl a3)), (q4, .inl (c4, 16, .inl a4)), (q8, .inl (c8, 16, .inl a8)), (q9, .inl (c9, 16, .inl a9)), (q10, .inl (c10, 16, .inl a10)), (q11, .inl (c11, 16, .inl a11)), (h0, .inr (8, [.int 0, .ref q1, .ref q2, .ref q3, .ref q4, .ref q5, .ref q6, .ref q7, .ref q8, .ref q9, .ref q10, .ref q11, .ref q12, v13, v14, v15, v16])), (q2, .inl (c2, 67200, .inl a2))] := hD
                  refine W.widen (k := 0) (n := 0) (Nat.le_of_ble_eq_true rfl) (Nat.le_of_ble_eq_true rfl) ?_
                  obtain rfl : r_23 = a2 (4200 * r + 1000 + k8) := hw
                  refine W.eq (g2 := F0 m 233 ls [.int (a2 (4200 * r + 1000 + k8))]) rfl ?_
                  refine lv_i2l (v := (a2 (4200 * r + 1000 + k8)).toInt64) hx hb dX8_move_233 rfl ?_
                  have hP9 := hP.sub (ws' := [(h0, .inr (8, [.int 0, .ref q1, .ref q2, .ref q3, .ref q4, .ref q5, .ref q6, .ref q7, .ref q8, .ref q9, .ref q10, .ref q11, .ref q12, v13, v14, v15, v16])), (q1, .inl (c1, 16, .inl a1)), (q2, .inl (c2, 67200, .inl a2)), (q3, .inl (c3, 16, .inl a3)), (q4, .inl (c4, 16, .inl a4)), (q5, .inl (c5, 16, .inl a5)), (q6, .inl (c6, 16, .inl a6)), (q7, .inl (c7, 16, .inl a7)), (q8, .inl (c8, 16, .inl a8)), (q9, .inl (c9, 16, .inl a9)), (q10, .inl (c10, 16, .inl a10)), (q11, .inl (c11, 16, .inl a11)), (q12, .inl (c12, 16, .inl a12))]) [11, 4, 12, 5, 6, 0, 1, 2, 7, 8, 9, 10, 3] rfl
                  have hD9 := hD.sub (ws' := [(h0, .inr (8, [.int 0, .ref q1, .ref q2, .ref q3, .ref q4, .ref q5, .ref q6, .ref q7, .ref q8, .ref q9, .ref q10, .ref q11, .ref q12, v13, v14, v15, v16])), (q1, .inl (c1, 16, .inl a1)), (q2, .inl (c2, 67200, .inl a2)), (q3, .inl (c3, 16, .inl a3)), (q4, .inl (c4, 16, .inl a4)), (q5, .inl (c5, 16, .inl a5)), (q6, .inl (c6, 16, .inl a6)), (q7, .inl (c7, 16, .inl a7)), (q8, .inl (c8, 16, .inl a8)), (q9, .inl (c9, 16, .inl a9)), (q10, .inl (c10, 16, .inl a10)), (q11, .inl (c11, 16, .inl a11)), (q12, .inl (c12, 16, .inl a12))]) [11, 4, 12, 5, 6, 0, 1, 2, 7, 8, 9, 10, 3] (by decide) rfl
                  have hK9 := hK.sub (tys' := [(c1, .int), (c2, .int), (c3, .int), (c4, .int), (c5, .int), (c6, .int), (c7, .int), (c8, .int), (c9, .int), (c10, .int), (c11, .int), (c12, .int)]) [0, 1, 2, 3, 4, 5, 6, 7, 8, 9, 10, 11] rfl
                  refine W.widen (k := 0) (n := 0) (Nat.le_of_ble_eq_true rfl) (Nat.le_of_ble_eq_true rfl) ?_
                  exact W.lret (v := (a2 (4200 * r + 1000 + k8)).toInt64) hx hb hr (fun t ht hW => ⟨⟨(a2 (4200 * r + 1000 + k8)).toInt64, (0, a2, a3, a7, a9, a10, a12), rfl, Or.inl ⟨rfl, rfl, rfl, rfl, rfl, rfl⟩, by rw [ht]; exact hP9, va_K.moved hW.alike hK9, hD9⟩, hS.F ht⟩) hS.2.2 dX8_move_234
              ·
                have ic_11 : ((tt : Nat) : Int) = 0 := tx_eq (nI_toInt (by omega)) (by decide) c_11
                refine lv_aload_n hx hb dX8_move_197 rfl (lv_at hl 3 rfl) ?_
                refine lv_iconst (v := 4) hx hb dX8_move_198 (by decide) ?_
                have hPc := hP.sub (ws' := [(h0, .inr (8, [.int 0, .ref q1, .ref q2, .ref q3, .ref q4, .ref q5, .ref q6, .ref q7, .ref q8, .ref q9, .ref q10, .ref q11, .ref q12, v13, v14, v15, v16]))]) [4] rfl
                have hDc := hD.sub (ws' := [(h0, .inr (8, [.int 0, .ref q1, .ref q2, .ref q3, .ref q4, .ref q5, .ref q6, .ref q7, .ref q8, .ref q9, .ref q10, .ref q11, .ref q12, v13, v14, v15, v16]))]) [4] (by decide) rfl
                have hKc := hK.sub (tys' := []) [] rfl
                have hFc := va_free (wc := [(h0, .inr (8, [.int 0, .ref q1, .ref q2, .ref q3, .ref q4, .ref q5, .ref q6, .ref q7, .ref q8, .ref q9, .ref q10, .ref q11, .ref q12, v13, v14, v15, v16]))]) hD hS hA [4] rfl
                refine va_calli (va_runV (As := [.int 4]) (rest := []) ⟨hx, hb, hml, hown, hts⟩ (c_X8_refuse l  dC dI H.size h0 0 (.ref q1) (.ref q2) (.ref q3) (.ref q4) (.ref q5) (.ref q6) (.ref q7) (.ref q8) (.ref q9) (.ref q10) (.ref q11) (.ref q12) v13 v14 v15 v16 4) (cwV 1 hts gX8_move_X8_refuse rfl rfl rfl (by decide +kernel) ⟨(Nat.le_of_ble_eq_true rfl), (Nat.le_of_ble_eq_true rfl)⟩) ⟨pk_blind, va_recv hKc hPc (ci := 8) (q0 := 0) rfl rfl, pk_call hPc hKc hDc⟩ rfl rfl hl.1 rfl (lv_room (Nat.le_of_ble_eq_true rfl)) dX8_move_199 ⟨(Nat.le_of_ble_eq_true rfl), (Nat.le_of_ble_eq_true rfl)⟩) hS (fun q _ h => hFc q h) hFc (fun r_24 ur_24 t H1 locs ht hvm hw hB hz1 hk1 hS => ?_)
                try dsimp only at hw
                obtain ⟨hP1, hK1, hD1⟩ := hB
                rw [ht] at hP1
                have hK1 := va_K.moved hvm.symm hK1
                obtain ⟨hP, hD⟩ := va_join (wr := [(q5, .inl (c5, 16, .inl a5)), (q6, .inl (c6, 16, .inl a6)), (q7, .inl (c7, 16, .inl a7)), (q12, .inl (c12, 16, .inl a12)), (q1, .inl (c1, 16, .inl a1)), (q2, .inl (c2, 67200, .inl a2)), (q3, .inl (c3, 16, .inl a3)), (q4, .inl (c4, 16, .inl a4)), (q8, .inl (c8, 16, .inl a8)), (q9, .inl (c9, 16, .inl a9)), (q10, .inl (c10, 16, .inl a10)), (q11, .inl (c11, 16, .inl a11))]) (w1 := [(h0, .inr (8, [.int 4, .ref q1, .ref q2, .ref q3, .ref q4, .ref q5, .ref q6, .ref q7, .ref q8, .ref q9, .ref q10, .ref q11, .ref q12, v13, v14, v15, v16]))]) hP hD [4] [0, 1, 2, 3, 5, 6, 7, 8, 9, 10, 11, 12] rfl rfl (by decide) (by decide) hk1 hFc hP1 hD1
                clear hk1 hz1 ht hPc hDc hKc hFc
                generalize H1 = H at hP hS ⊢
                replace hP : va_P (dC, dI) vwCl [(q5, .inl (c5, 16, .inl a5)), (q6, .inl (c6, 16, .inl a6)), (q7, .inl (c7, 16, .inl a7)), (q12, .inl (c12, 16, .inl a12)), (q1, .inl (c1, 16, .inl a1)), (q2, .inl (c2, 67200, .inl a2)), (q3, .inl (c3, 16, .inl a3)), (q4, .inl (c4, 16, .inl a4)), (q8, .inl (c8, 16, .inl a8)), (q9, .inl (c9, 16, .inl a9)), (q10, .inl (c10, 16, .inl a10)), (q11, .inl (c11, 16, .inl a11)), (h0, .inr (8, [.int 4, .ref q1, .ref q2, .ref q3, .ref q4, .ref q5, .ref q6, .ref q7, .ref q8, .ref q9, .ref q10, .ref q11, .ref q12, v13, v14, v15, v16]))] H := hP
                replace hD : va_D A [(q5, .inl (c5, 16, .inl a5)), (q6, .inl (c6, 16, .inl a6)), (q7, .inl (c7, 16, .inl a7)), (q12, .inl (c12, 16, .inl a12)), (q1, .inl (c1, 16, .inl a1)), (q2, .inl (c2, 67200, .inl a2)), (q3, .inl (c3, 16, .inl a3)), (q4, .inl (c4, 16, .inl a4)), (q8, .inl (c8, 16, .inl a8)), (q9, .inl (c9, 16, .inl a9)), (q10, .inl (c10, 16, .inl a10)), (q11, .inl (c11, 16, .inl a11)), (h0, .inr (8, [.int 4, .ref q1, .ref q2, .ref q3, .ref q4, .ref q5, .ref q6, .ref q7, .ref q8, .ref q9, .ref q10, .ref q11, .ref q12, v13, v14, v15, v16]))] := hD
                refine W.widen (k := 0) (n := 0) (Nat.le_of_ble_eq_true rfl) (Nat.le_of_ble_eq_true rfl) ?_
                obtain rfl : r_24 = 0 := hw
                refine W.eq (g2 := F0 m 202 ls [.int 0]) rfl ?_
                refine lv_i2l (v := (0 : Int32).toInt64) hx hb dX8_move_202 rfl ?_
                have hP9 := hP.sub (ws' := [(h0, .inr (8, [.int 4, .ref q1, .ref q2, .ref q3, .ref q4, .ref q5, .ref q6, .ref q7, .ref q8, .ref q9, .ref q10, .ref q11, .ref q12, v13, v14, v15, v16])), (q1, .inl (c1, 16, .inl a1)), (q2, .inl (c2, 67200, .inl a2)), (q3, .inl (c3, 16, .inl a3)), (q4, .inl (c4, 16, .inl a4)), (q5, .inl (c5, 16, .inl a5)), (q6, .inl (c6, 16, .inl a6)), (q7, .inl (c7, 16, .inl a7)), (q8, .inl (c8, 16, .inl a8)), (q9, .inl (c9, 16, .inl a9)), (q10, .inl (c10, 16, .inl a10)), (q11, .inl (c11, 16, .inl a11)), (q12, .inl (c12, 16, .inl a12))]) [12, 4, 5, 6, 7, 0, 1, 2, 8, 9, 10, 11, 3] rfl
                have hD9 := hD.sub (ws' := [(h0, .inr (8, [.int 4, .ref q1, .ref q2, .ref q3, .ref q4, .ref q5, .ref q6, .ref q7, .ref q8, .ref q9, .ref q10, .ref q11, .ref q12, v13, v14, v15, v16])), (q1, .inl (c1, 16, .inl a1)), (q2, .inl (c2, 67200, .inl a2)), (q3, .inl (c3, 16, .inl a3)), (q4, .inl (c4, 16, .inl a4)), (q5, .inl (c5, 16, .inl a5)), (q6, .inl (c6, 16, .inl a6)), (q7, .inl (c7, 16, .inl a7)), (q8, .inl (c8, 16, .inl a8)), (q9, .inl (c9, 16, .inl a9)), (q10, .inl (c10, 16, .inl a10)), (q11, .inl (c11, 16, .inl a11)), (q12, .inl (c12, 16, .inl a12))]) [12, 4, 5, 6, 7, 0, 1, 2, 8, 9, 10, 11, 3] (by decide) rfl
                have hK9 := hK.sub (tys' := [(c1, .int), (c2, .int), (c3, .int), (c4, .int), (c5, .int), (c6, .int), (c7, .int), (c8, .int), (c9, .int), (c10, .int), (c11, .int), (c12, .int)]) [0, 1, 2, 3, 4, 5, 6, 7, 8, 9, 10, 11] rfl
                refine W.widen (k := 0) (n := 0) (Nat.le_of_ble_eq_true rfl) (Nat.le_of_ble_eq_true rfl) ?_
                exact W.lret (v := (0 : Int32).toInt64) hx hb hr (fun t ht hW => ⟨⟨(0 : Int32).toInt64, (4, a2, a3, a7, a9, a10, a12), rfl, Or.inl ⟨rfl, rfl, rfl, rfl, rfl, rfl⟩, by rw [ht]; exact hP9, va_K.moved hW.alike hK9, hD9⟩, hS.F ht⟩) hS.2.2 dX8_move_203
            ·
              have ic_10 : p1.toInt = 1 := tx_eq rfl (by decide) c_10
              refine lv_aload_n hx hb dX8_move_171 rfl (lv_at hl 3 rfl) ?_
              refine va_get (D := (dC, dI)) (ci := 8) (v := .ref q9) (C := RX8) (T := TX8) (N := 17) hx hb hts hi0_ hown hK hP 4 rfl rfl 9 (by decide) hw6_ (fun _ h9 => h9) rfl dX8_move_172 ?_
              refine lv_iload_n hx hb dX8_move_175 rfl (lv_at hl 4 rfl) ?_
              refine va_iald (i := nI cc) hx hb hK hP 10 8 rfl rfl (vp_in_nI (by omega) (by omega)) dX8_move_176 ?_
              refine W.eq (g2 := F0 m 177 ls [.int (a9 cc)]) (by rw [nI_clamp (by omega)]) ?_
              refine W.eq (g2 := F0 m 177 ls [.int (nI fr)]) (by rw [hfr]) ?_
              refine lv_iload hx hb dX8_move_177 (lv_at hl 0 rfl) ?_
              refine lv_icmp_ge (tgt := 186) hx hb dX8_move_179 (by decide) (fun c_25 => ?_) (fun c_25 => ?_)
              ·
                have ic_25 : ((ne : Nat) : Int) ≤ ((fr : Nat) : Int) := tx_le (nI_toInt (by omega)) (nI_toInt (by omega)) c_25
                refine lv_lconst (v := 0) hx hb dX8_move_186 (by decide) ?_
                have hP9 := hP.sub (ws' := [(h0, .inr (8, [.int 0, .ref q1, .ref q2, .ref q3, .ref q4, .ref q5, .ref q6, .ref q7, .ref q8, .ref q9, .ref q10, .ref q11, .ref q12, v13, v14, v15, v16])), (q1, .inl (c1, 16, .inl a1)), (q2, .inl (c2, 67200, .inl a2)), (q3, .inl (c3, 16, .inl a3)), (q4, .inl (c4, 16, .inl a4)), (q5, .inl (c5, 16, .inl a5)), (q6, .inl (c6, 16, .inl a6)), (q7, .inl (c7, 16, .inl a7)), (q8, .inl (c8, 16, .inl a8)), (q9, .inl (c9, 16, .inl a9)), (q10, .inl (c10, 16, .inl a10)), (q11, .inl (c11, 16, .inl a11)), (q12, .inl (c12, 16, .inl a12))]) [4, 5, 6, 7, 8, 0, 1, 2, 9, 10, 11, 12, 3] rfl
                have hD9 := hD.sub (ws' := [(h0, .inr (8, [.int 0, .ref q1, .ref q2, .ref q3, .ref q4, .ref q5, .ref q6, .ref q7, .ref q8, .ref q9, .ref q10, .ref q11, .ref q12, v13, v14, v15, v16])), (q1, .inl (c1, 16, .inl a1)), (q2, .inl (c2, 67200, .inl a2)), (q3, .inl (c3, 16, .inl a3)), (q4, .inl (c4, 16, .inl a4)), (q5, .inl (c5, 16, .inl a5)), (q6, .inl (c6, 16, .inl a6)), (q7, .inl (c7, 16, .inl a7)), (q8, .inl (c8, 16, .inl a8)), (q9, .inl (c9, 16, .inl a9)), (q10, .inl (c10, 16, .inl a10)), (q11, .inl (c11, 16, .inl a11)), (q12, .inl (c12, 16, .inl a12))]) [4, 5, 6, 7, 8, 0, 1, 2, 9, 10, 11, 12, 3] (by decide) rfl
                have hK9 := hK.sub (tys' := [(c1, .int), (c2, .int), (c3, .int), (c4, .int), (c5, .int), (c6, .int), (c7, .int), (c8, .int), (c9, .int), (c10, .int), (c11, .int), (c12, .int)]) [0, 1, 2, 3, 4, 5, 6, 7, 8, 9, 10, 11] rfl
                refine W.widen (k := 0) (n := 0) (Nat.le_of_ble_eq_true rfl) (Nat.le_of_ble_eq_true rfl) ?_
                exact W.lret (v := 0) hx hb hr (fun t ht hW => ⟨⟨0, (0, a2, a3, a7, a9, a10, a12), rfl, Or.inl ⟨rfl, rfl, rfl, rfl, rfl, rfl⟩, by rw [ht]; exact hP9, va_K.moved hW.alike hK9, hD9⟩, hS.F ht⟩) hS.2.2 dX8_move_187
              ·
                have ic_25 : ((fr : Nat) : Int) < ((ne : Nat) : Int) := tx_nle (nI_toInt (by omega)) (nI_toInt (by omega)) c_25
                refine lv_lconst (v := 1) hx hb dX8_move_182 (by decide) ?_
                refine lv_goto (tgt := 187) hx hb dX8_move_183 (by decide) ?_
                have hP9 := hP.sub (ws' := [(h0, .inr (8, [.int 0, .ref q1, .ref q2, .ref q3, .ref q4, .ref q5, .ref q6, .ref q7, .ref q8, .ref q9, .ref q10, .ref q11, .ref q12, v13, v14, v15, v16])), (q1, .inl (c1, 16, .inl a1)), (q2, .inl (c2, 67200, .inl a2)), (q3, .inl (c3, 16, .inl a3)), (q4, .inl (c4, 16, .inl a4)), (q5, .inl (c5, 16, .inl a5)), (q6, .inl (c6, 16, .inl a6)), (q7, .inl (c7, 16, .inl a7)), (q8, .inl (c8, 16, .inl a8)), (q9, .inl (c9, 16, .inl a9)), (q10, .inl (c10, 16, .inl a10)), (q11, .inl (c11, 16, .inl a11)), (q12, .inl (c12, 16, .inl a12))]) [4, 5, 6, 7, 8, 0, 1, 2, 9, 10, 11, 12, 3] rfl
                have hD9 := hD.sub (ws' := [(h0, .inr (8, [.int 0, .ref q1, .ref q2, .ref q3, .ref q4, .ref q5, .ref q6, .ref q7, .ref q8, .ref q9, .ref q10, .ref q11, .ref q12, v13, v14, v15, v16])), (q1, .inl (c1, 16, .inl a1)), (q2, .inl (c2, 67200, .inl a2)), (q3, .inl (c3, 16, .inl a3)), (q4, .inl (c4, 16, .inl a4)), (q5, .inl (c5, 16, .inl a5)), (q6, .inl (c6, 16, .inl a6)), (q7, .inl (c7, 16, .inl a7)), (q8, .inl (c8, 16, .inl a8)), (q9, .inl (c9, 16, .inl a9)), (q10, .inl (c10, 16, .inl a10)), (q11, .inl (c11, 16, .inl a11)), (q12, .inl (c12, 16, .inl a12))]) [4, 5, 6, 7, 8, 0, 1, 2, 9, 10, 11, 12, 3] (by decide) rfl
                have hK9 := hK.sub (tys' := [(c1, .int), (c2, .int), (c3, .int), (c4, .int), (c5, .int), (c6, .int), (c7, .int), (c8, .int), (c9, .int), (c10, .int), (c11, .int), (c12, .int)]) [0, 1, 2, 3, 4, 5, 6, 7, 8, 9, 10, 11] rfl
                refine W.widen (k := 0) (n := 0) (Nat.le_of_ble_eq_true rfl) (Nat.le_of_ble_eq_true rfl) ?_
                exact W.lret (v := 1) hx hb hr (fun t ht hW => ⟨⟨1, (0, a2, a3, a7, a9, a10, a12), rfl, Or.inl ⟨rfl, rfl, rfl, rfl, rfl, rfl⟩, by rw [ht]; exact hP9, va_K.moved hW.alike hK9, hD9⟩, hS.F ht⟩) hS.2.2 dX8_move_187
          ·
            have ic_9 : p1.toInt = 0 := tx_eq rfl (by decide) c_9
            refine lv_aload_n hx hb dX8_move_104 rfl (lv_at hl 3 rfl) ?_
            refine va_get (D := (dC, dI)) (ci := 8) (v := .ref q9) (C := RX8) (T := TX8) (N := 17) hx hb hts hi0_ hown hK hP 4 rfl rfl 9 (by decide) hw6_ (fun _ h9 => h9) rfl dX8_move_105 ?_
            refine lv_iload_n hx hb dX8_move_108 rfl (lv_at hl 4 rfl) ?_
            refine va_iald (i := nI cc) hx hb hK hP 10 8 rfl rfl (vp_in_nI (by omega) (by omega)) dX8_move_109 ?_
            refine W.eq (g2 := F0 m 110 ls [.int (a9 cc)]) (by rw [nI_clamp (by omega)]) ?_
            refine W.eq (g2 := F0 m 110 ls [.int (nI fr)]) (by rw [hfr]) ?_
            refine lv_iload hx hb dX8_move_110 (lv_at hl 0 rfl) ?_
            refine lv_icmp_ne (tgt := 122) hx hb dX8_move_112 (by decide) (fun c_26 => ?_) (fun c_26 => ?_)
            ·
              have ic_26 : ¬ ((fr : Nat) : Int) = ((ne : Nat) : Int) := tx_ne (nI_toInt (by omega)) (nI_toInt (by omega)) c_26
              refine lv_aload_n hx hb dX8_move_122 rfl (lv_at hl 3 rfl) ?_
              refine va_get (D := (dC, dI)) (ci := 8) (v := .ref q9) (C := RX8) (T := TX8) (N := 17) hx hb hts hi0_ hown hK hP 4 rfl rfl 9 (by decide) hw6_ (fun _ h9 => h9) rfl dX8_move_123 ?_
              refine lv_iload_n hx hb dX8_move_126 rfl (lv_at hl 4 rfl) ?_
              refine lv_dup2_11 hx hb dX8_move_127 rfl rfl ?_
              refine va_iald (i := nI cc) hx hb hK hP 10 8 rfl rfl (vp_in_nI (by omega) (by omega)) dX8_move_128 ?_
              refine W.eq (g2 := F0 m 129 ls [.int (a9 cc), .int (nI cc), .ref q9]) (by rw [nI_clamp (by omega)]) ?_
              refine W.eq (g2 := F0 m 129 ls [.int (nI fr), .int (nI cc), .ref q9]) (by rw [hfr]) ?_
              refine lv_iconst (v := 1) hx hb dX8_move_129 (by decide) ?_
              refine lv_iadd hx hb dX8_move_130 ?_
              refine lv_topi (fun z_27 ez_27 => ?_)
              obtain rfl : z_27 = nI (fr + 1) := ez_27.trans (by rw [show (1 : Int32) = nI 1 from rfl, nI_add])
              refine va_iast (i := nI cc) hx hb hK hP hD hS 10 8 rfl rfl (vp_in_nI (by omega) (by omega)) dX8_move_131 (fun H locs hP hD hS => ?_)
              rw [nI_clamp (by omega)] at hP hD
              replace hP : va_P (dC, dI) vwCl [(q5, .inl (c5, 16, .inl a5)), (q6, .inl (c6, 16, .inl a6)), (q7, .inl (c7, 16, .inl a7)), (q12, .inl (c12, 16, .inl a12)), (h0, .inr (8, [.int 0, .ref q1, .ref q2, .ref q3, .ref q4, .ref q5, .ref q6, .ref q7, .ref q8, .ref q9, .ref q10, .ref q11, .ref q12, v13, v14, v15, v16])), (q1, .inl (c1, 16, .inl a1)), (q2, .inl (c2, 67200, .inl a2)), (q3, .inl (c3, 16, .inl a3)), (q4, .inl (c4, 16, .inl a4)), (q8, .inl (c8, 16, .inl a8)), (q9, .inl (c9, 16, .inl (upd a9 cc (nI (fr + 1))))), (q10, .inl (c10, 16, .inl a10)), (q11, .inl (c11, 16, .inl a11))] H := hP
              replace hD : va_D A [(q5, .inl (c5, 16, .inl a5)), (q6, .inl (c6, 16, .inl a6)), (q7, .inl (c7, 16, .inl a7)), (q12, .inl (c12, 16, .inl a12)), (h0, .inr (8, [.int 0, .ref q1, .ref q2, .ref q3, .ref q4, .ref q5, .ref q6, .ref q7, .ref q8, .ref q9, .ref q10, .ref q11, .ref q12, v13, v14, v15, v16])), (q1, .inl (c1, 16, .inl a1)), (q2, .inl (c2, 67200, .inl a2)), (q3, .inl (c3, 16, .inl a3)), (q4, .inl (c4, 16, .inl a4)), (q8, .inl (c8, 16, .inl a8)), (q9, .inl (c9, 16, .inl (upd a9 cc (nI (fr + 1))))), (q10, .inl (c10, 16, .inl a10)), (q11, .inl (c11, 16, .inl a11))] := hD
              refine lv_aload_n hx hb dX8_move_132 rfl (lv_at hl 3 rfl) ?_
              refine va_get (D := (dC, dI)) (ci := 8) (v := .ref q10) (C := RX8) (T := TX8) (N := 17) hx hb hts hi0_ hown hK hP 4 rfl rfl 10 (by decide) hw5_ (fun _ h9 => h9) rfl dX8_move_133 ?_
              refine lv_iload_n hx hb dX8_move_136 rfl (lv_at hl 4 rfl) ?_
              refine lv_aload_n hx hb dX8_move_137 rfl (lv_at hl 3 rfl) ?_
              refine va_get (D := (dC, dI)) (ci := 8) (v := .ref q9) (C := RX8) (T := TX8) (N := 17) hx hb hts hi0_ hown hK hP 4 rfl rfl 9 (by decide) hw6_ (fun _ h9 => h9) rfl dX8_move_138 ?_
              refine lv_iload_n hx hb dX8_move_141 rfl (lv_at hl 4 rfl) ?_
              refine va_iald (i := nI cc) hx hb hK hP 10 8 rfl rfl (vp_in_nI (by omega) (by omega)) dX8_move_142 ?_
              refine W.eq (g2 := F0 m 143 ls [.int ((upd a9 cc (nI (fr + 1))) cc), .int (nI cc), .ref q10]) (by rw [nI_clamp (by omega)]) ?_
              refine W.eq (g2 := F0 m 143 ls [.int (nI (fr + 1)), .int (nI cc), .ref q10]) (by rw [pk_us]) ?_
              refine va_iast (i := nI cc) hx hb hK hP hD hS 11 9 rfl rfl (vp_in_nI (by omega) (by omega)) dX8_move_143 (fun H locs hP hD hS => ?_)
              rw [nI_clamp (by omega)] at hP hD
              replace hP : va_P (dC, dI) vwCl [(q5, .inl (c5, 16, .inl a5)), (q6, .inl (c6, 16, .inl a6)), (q7, .inl (c7, 16, .inl a7)), (q12, .inl (c12, 16, .inl a12)), (h0, .inr (8, [.int 0, .ref q1, .ref q2, .ref q3, .ref q4, .ref q5, .ref q6, .ref q7, .ref q8, .ref q9, .ref q10, .ref q11, .ref q12, v13, v14, v15, v16])), (q1, .inl (c1, 16, .inl a1)), (q2, .inl (c2, 67200, .inl a2)), (q3, .inl (c3, 16, .inl a3)), (q4, .inl (c4, 16, .inl a4)), (q8, .inl (c8, 16, .inl a8)), (q9, .inl (c9, 16, .inl (upd a9 cc (nI (fr + 1))))), (q10, .inl (c10, 16, .inl (upd a10 cc (nI (fr + 1))))), (q11, .inl (c11, 16, .inl a11))] H := hP
              replace hD : va_D A [(q5, .inl (c5, 16, .inl a5)), (q6, .inl (c6, 16, .inl a6)), (q7, .inl (c7, 16, .inl a7)), (q12, .inl (c12, 16, .inl a12)), (h0, .inr (8, [.int 0, .ref q1, .ref q2, .ref q3, .ref q4, .ref q5, .ref q6, .ref q7, .ref q8, .ref q9, .ref q10, .ref q11, .ref q12, v13, v14, v15, v16])), (q1, .inl (c1, 16, .inl a1)), (q2, .inl (c2, 67200, .inl a2)), (q3, .inl (c3, 16, .inl a3)), (q4, .inl (c4, 16, .inl a4)), (q8, .inl (c8, 16, .inl a8)), (q9, .inl (c9, 16, .inl (upd a9 cc (nI (fr + 1))))), (q10, .inl (c10, 16, .inl (upd a10 cc (nI (fr + 1))))), (q11, .inl (c11, 16, .inl a11))] := hD
              refine lv_aload_n hx hb dX8_move_144 rfl (lv_at hl 3 rfl) ?_
              refine lv_iload hx hb dX8_move_145 (lv_at hl 1 rfl) ?_
              refine lv_aload_n hx hb dX8_move_147 rfl (lv_at hl 3 rfl) ?_
              refine lv_iload hx hb dX8_move_148 (lv_at hl 2 rfl) ?_
              refine lv_aload_n hx hb dX8_move_150 rfl (lv_at hl 3 rfl) ?_
              refine va_get (D := (dC, dI)) (ci := 8) (v := .ref q9) (C := RX8) (T := TX8) (N := 17) hx hb hts hi0_ hown hK hP 4 rfl rfl 9 (by decide) hw6_ (fun _ h9 => h9) rfl dX8_move_151 ?_
              refine lv_iload_n hx hb dX8_move_154 rfl (lv_at hl 4 rfl) ?_
              refine va_iald (i := nI cc) hx hb hK hP 10 8 rfl rfl (vp_in_nI (by omega) (by omega)) dX8_move_155 ?_
              refine W.eq (g2 := F0 m 156 ls [.int ((upd a9 cc (nI (fr + 1))) cc), .int (nI o), .ref h0, .int (nI r), .ref h0]) (by rw [nI_clamp (by omega)]) ?_
              refine W.eq (g2 := F0 m 156 ls [.int (nI (fr + 1)), .int (nI o), .ref h0, .int (nI r), .ref h0]) (by rw [pk_us]) ?_
              refine lv_iconst (v := 1) hx hb dX8_move_156 (by decide) ?_
              refine lv_isub hx hb dX8_move_157 ?_
              refine lv_topi (fun z_28 ez_28 => ?_)
              obtain rfl : z_28 = nI ((fr + 1) - 1) := ez_28.trans (by rw [show (1 : Int32) = nI 1 from rfl, pk_sub (by omega)])
              have hPc := hP.sub (ws' := [(h0, .inr (8, [.int 0, .ref q1, .ref q2, .ref q3, .ref q4, .ref q5, .ref q6, .ref q7, .ref q8, .ref q9, .ref q10, .ref q11, .ref q12, v13, v14, v15, v16])), (q1, .inl (c1, 16, .inl a1)), (q2, .inl (c2, 67200, .inl a2)), (q3, .inl (c3, 16, .inl a3)), (q4, .inl (c4, 16, .inl a4)), (q8, .inl (c8, 16, .inl a8)), (q9, .inl (c9, 16, .inl (upd a9 cc (nI (fr + 1))))), (q10, .inl (c10, 16, .inl (upd a10 cc (nI (fr + 1))))), (q11, .inl (c11, 16, .inl a11))]) [4, 5, 6, 7, 8, 9, 10, 11, 12] rfl
              have hDc := hD.sub (ws' := [(h0, .inr (8, [.int 0, .ref q1, .ref q2, .ref q3, .ref q4, .ref q5, .ref q6, .ref q7, .ref q8, .ref q9, .ref q10, .ref q11, .ref q12, v13, v14, v15, v16])), (q1, .inl (c1, 16, .inl a1)), (q2, .inl (c2, 67200, .inl a2)), (q3, .inl (c3, 16, .inl a3)), (q4, .inl (c4, 16, .inl a4)), (q8, .inl (c8, 16, .inl a8)), (q9, .inl (c9, 16, .inl (upd a9 cc (nI (fr + 1))))), (q10, .inl (c10, 16, .inl (upd a10 cc (nI (fr + 1))))), (q11, .inl (c11, 16, .inl a11))]) [4, 5, 6, 7, 8, 9, 10, 11, 12] (by decide) rfl
              have hKc := hK.sub (tys' := [(c1, .int), (c2, .int), (c3, .int), (c4, .int), (c8, .int), (c9, .int), (c10, .int), (c11, .int)]) [0, 1, 2, 3, 7, 8, 9, 10] rfl
              have hFc := va_free (wc := [(h0, .inr (8, [.int 0, .ref q1, .ref q2, .ref q3, .ref q4, .ref q5, .ref q6, .ref q7, .ref q8, .ref q9, .ref q10, .ref q11, .ref q12, v13, v14, v15, v16])), (q1, .inl (c1, 16, .inl a1)), (q2, .inl (c2, 67200, .inl a2)), (q3, .inl (c3, 16, .inl a3)), (q4, .inl (c4, 16, .inl a4)), (q8, .inl (c8, 16, .inl a8)), (q9, .inl (c9, 16, .inl (upd a9 cc (nI (fr + 1))))), (q10, .inl (c10, 16, .inl (upd a10 cc (nI (fr + 1))))), (q11, .inl (c11, 16, .inl a11))]) hD hS hA [4, 5, 6, 7, 8, 9, 10, 11, 12] rfl
              refine va_calli (va_runV (As := [.int (nI o), .int (nI ((fr + 1) - 1))]) (rest := [.int (nI r), .ref h0]) ⟨hx, hb, hml, hown, hts⟩ (c_X8_nth l  dC dI H.size h0 0 q1 q2 q3 q4 q8 q9 q10 q11 c1 c2 c3 c4 c8 c9 c10 c11 a1 a2 a3 a4 a8 (upd a9 cc (nI (fr + 1))) (upd a10 cc (nI (fr + 1))) a11 (.ref q5) (.ref q6) (.ref q7) (.ref q12) v13 v14 v15 v16 o dep nz ((fr + 1) - 1) ho9 hF9 hd9 (by rw [hrt9]; exact hs9) hz9 (by rw [cnt_cu hF9 ho9 ic5, ← hne]; omega)) (cwV 2 hts gX8_move_X8_nth rfl rfl rfl (by decide +kernel) ⟨(Nat.le_of_ble_eq_true rfl), (Nat.le_of_ble_eq_true rfl)⟩) ⟨pk_blind, va_recv hKc hPc (ci := 8) (q0 := 0) rfl rfl, pk_call hPc hKc hDc⟩ rfl rfl hl.1 rfl (lv_room (Nat.le_of_ble_eq_true rfl)) dX8_move_158 ⟨(Nat.le_of_ble_eq_true rfl), (Nat.le_of_ble_eq_true rfl)⟩) hS (fun q _ h => hFc q h) hFc (fun r_29 ur_29 t H1 locs ht hvm hw hB hz1 hk1 hS => ?_)
              try dsimp only at hw
              have jr_29 := hw
              obtain ⟨hP1, hK1, hD1⟩ := hB
              rw [ht] at hP1
              have hK1 := va_K.moved hvm.symm hK1
              obtain ⟨hP, hD⟩ := va_join (wr := [(q5, .inl (c5, 16, .inl a5)), (q6, .inl (c6, 16, .inl a6)), (q7, .inl (c7, 16, .inl a7)), (q12, .inl (c12, 16, .inl a12))]) (w1 := [(h0, .inr (8, [.int 0, .ref q1, .ref q2, .ref q3, .ref q4, .ref q5, .ref q6, .ref q7, .ref q8, .ref q9, .ref q10, .ref q11, .ref q12, v13, v14, v15, v16])), (q1, .inl (c1, 16, .inl a1)), (q2, .inl (c2, 67200, .inl a2)), (q3, .inl (c3, 16, .inl a3)), (q4, .inl (c4, 16, .inl a4)), (q8, .inl (c8, 16, .inl a8)), (q9, .inl (c9, 16, .inl (upd a9 cc (nI (fr + 1))))), (q10, .inl (c10, 16, .inl (upd a10 cc (nI (fr + 1))))), (q11, .inl (c11, 16, .inl a11))]) hP hD [4, 5, 6, 7, 8, 9, 10, 11, 12] [0, 1, 2, 3] rfl rfl (by decide) (by decide) hk1 hFc hP1 hD1
              clear hk1 hz1 ht hPc hDc hKc hFc
              generalize H1 = H at hP hS ⊢
              replace hP : va_P (dC, dI) vwCl [(q5, .inl (c5, 16, .inl a5)), (q6, .inl (c6, 16, .inl a6)), (q7, .inl (c7, 16, .inl a7)), (q12, .inl (c12, 16, .inl a12)), (h0, .inr (8, [.int 0, .ref q1, .ref q2, .ref q3, .ref q4, .ref q5, .ref q6, .ref q7, .ref q8, .ref q9, .ref q10, .ref q11, .ref q12, v13, v14, v15, v16])), (q1, .inl (c1, 16, .inl a1)), (q2, .inl (c2, 67200, .inl a2)), (q3, .inl (c3, 16, .inl a3)), (q4, .inl (c4, 16, .inl a4)), (q8, .inl (c8, 16, .inl a8)), (q9, .inl (c9, 16, .inl (upd a9 cc (nI (fr + 1))))), (q10, .inl (c10, 16, .inl (upd a10 cc (nI (fr + 1))))), (q11, .inl (c11, 16, .inl a11))] H := hP
              replace hD : va_D A [(q5, .inl (c5, 16, .inl a5)), (q6, .inl (c6, 16, .inl a6)), (q7, .inl (c7, 16, .inl a7)), (q12, .inl (c12, 16, .inl a12)), (h0, .inr (8, [.int 0, .ref q1, .ref q2, .ref q3, .ref q4, .ref q5, .ref q6, .ref q7, .ref q8, .ref q9, .ref q10, .ref q11, .ref q12, v13, v14, v15, v16])), (q1, .inl (c1, 16, .inl a1)), (q2, .inl (c2, 67200, .inl a2)), (q3, .inl (c3, 16, .inl a3)), (q4, .inl (c4, 16, .inl a4)), (q8, .inl (c8, 16, .inl a8)), (q9, .inl (c9, 16, .inl (upd a9 cc (nI (fr + 1))))), (q10, .inl (c10, 16, .inl (upd a10 cc (nI (fr + 1))))), (q11, .inl (c11, 16, .inl a11))] := hD
              refine W.widen (k := 0) (n := 0) (Nat.le_of_ble_eq_true rfl) (Nat.le_of_ble_eq_true rfl) ?_
              obtain ⟨k8, hk8, rfl, hk8b⟩ := jr_29
              refine W.eq (g2 := F0 m 161 ls [.int (nI k8), .int (nI r), .ref h0]) rfl ?_
              have hPc := hP.sub (ws' := [(h0, .inr (8, [.int 0, .ref q1, .ref q2, .ref q3, .ref q4, .ref q5, .ref q6, .ref q7, .ref q8, .ref q9, .ref q10, .ref q11, .ref q12, v13, v14, v15, v16])), (q2, .inl (c2, 67200, .inl a2))]) [4, 6] rfl
              have hDc := hD.sub (ws' := [(h0, .inr (8, [.int 0, .ref q1, .ref q2, .ref q3, .ref q4, .ref q5, .ref q6, .ref q7, .ref q8, .ref q9, .ref q10, .ref q11, .ref q12, v13, v14, v15, v16])), (q2, .inl (c2, 67200, .inl a2))]) [4, 6] (by decide) rfl
              have hKc := hK.sub (tys' := [(c2, .int)]) [1] rfl
              have hFc := va_free (wc := [(h0, .inr (8, [.int 0, .ref q1, .ref q2, .ref q3, .ref q4, .ref q5, .ref q6, .ref q7, .ref q8, .ref q9, .ref q10, .ref q11, .ref q12, v13, v14, v15, v16])), (q2, .inl (c2, 67200, .inl a2))]) hD hS hA [4, 6] rfl
              refine va_calli (va_runV (As := [.int (nI r), .int (nI k8)]) (rest := []) ⟨hx, hb, hml, hown, hts⟩ (c_X8_key l  dC dI H.size h0 0 q2 c2 a2 (.ref q1) (.ref q3) (.ref q4) (.ref q5) (.ref q6) (.ref q7) (.ref q8) (.ref q9) (.ref q10) (.ref q11) (.ref q12) v13 v14 v15 v16 r k8 hr9 (by omega)) (cwV 2 hts gX8_move_X8_key rfl rfl rfl (by decide +kernel) ⟨(Nat.le_of_ble_eq_true rfl), (Nat.le_of_ble_eq_true rfl)⟩) ⟨pk_blind, va_recv hKc hPc (ci := 8) (q0 := 0) rfl rfl, pk_call hPc hKc hDc⟩ rfl rfl hl.1 rfl (lv_room (Nat.le_of_ble_eq_true rfl)) dX8_move_161 ⟨(Nat.le_of_ble_eq_true rfl), (Nat.le_of_ble_eq_true rfl)⟩) hS (fun q _ h => hFc q h) hFc (fun r_30 ur_30 t H1 locs ht hvm hw hB hz1 hk1 hS => ?_)
              try dsimp only at hw
              obtain ⟨hP1, hK1, hD1⟩ := hB
              rw [ht] at hP1
              have hK1 := va_K.moved hvm.symm hK1
              obtain ⟨hP, hD⟩ := va_join (wr := [(q5, .inl (c5, 16, .inl a5)), (q6, .inl (c6, 16, .inl a6)), (q7, .inl (c7, 16, .inl a7)), (q12, .inl (c12, 16, .inl a12)), (q1, .inl (c1, 16, .inl a1)), (q3, .inl (c3, 16, .inl a3)), (q4, .inl (c4, 16, .inl a4)), (q8, .inl (c8, 16, .inl a8)), (q9, .inl (c9, 16, .inl (upd a9 cc (nI (fr + 1))))), (q10, .inl (c10, 16, .inl (upd a10 cc (nI (fr + 1))))), (q11, .inl (c11, 16, .inl a11))]) (w1 := [(h0, .inr (8, [.int 0, .ref q1, .ref q2, .ref q3, .ref q4, .ref q5, .ref q6, .ref q7, .ref q8, .ref q9, .ref q10, .ref q11, .ref q12, v13, v14, v15, v16])), (q2, .inl (c2, 67200, .inl a2))]) hP hD [4, 6] [0, 1, 2, 3, 5, 7, 8, 9, 10, 11, 12] rfl rfl (by decide) (by decide) hk1 hFc hP1 hD1
              clear hk1 hz1 ht hPc hDc hKc hFc
              generalize H1 = H at hP hS ⊢
              replace hP : va_P (dC, dI) vwCl [(q5, .inl (c5, 16, .inl a5)), (q6, .inl (c6, 16, .inl a6)), (q7, .inl (c7, 16, .inl a7)), (q12, .inl (c12, 16, .inl a12)), (q1, .inl (c1, 16, .inl a1)), (q3, .inl (c3, 16, .inl a3)), (q4, .inl (c4, 16, .inl a4)), (q8, .inl (c8, 16, .inl a8)), (q9, .inl (c9, 16, .inl (upd a9 cc (nI (fr + 1))))), (q10, .inl (c10, 16, .inl (upd a10 cc (nI (fr + 1))))), (q11, .inl (c11, 16, .inl a11)), (h0, .inr (8, [.int 0, .ref q1, .ref q2, .ref q3, .ref q4, .ref q5, .ref q6, .ref q7, .ref q8, .ref q9, .ref q10, .ref q11, .ref q12, v13, v14, v15, v16])), (q2, .inl (c2, 67200, .inl a2))] H := hP
              replace hD : va_D A [(q5, .inl (c5, 16, .inl a5)), (q6, .inl (c6, 16, .inl a6)), (q7, .inl (c7, 16, .inl a7)), (q12, .inl (c12, 16, .inl a12)), (q1, .inl (c1, 16, .inl a1)), (q3, .inl (c3, 16, .inl a3)), (q4, .inl (c4, 16, .inl a4)), (q8, .inl (c8, 16, .inl a8)), (q9, .inl (c9, 16, .inl (upd a9 cc (nI (fr + 1))))), (q10, .inl (c10, 16, .inl (upd a10 cc (nI (fr + 1))))), (q11, .inl (c11, 16, .inl a11)), (h0, .inr (8, [.int 0, .ref q1, .ref q2, .ref q3, .ref q4, .ref q5, .ref q6, .ref q7, .ref q8, .ref q9, .ref q10, .ref q11, .ref q12, v13, v14, v15, v16])), (q2, .inl (c2, 67200, .inl a2))] := hD
              refine W.widen (k := 0) (n := 0) (Nat.le_of_ble_eq_true rfl) (Nat.le_of_ble_eq_true rfl) ?_
              obtain rfl : r_30 = a2 (4200 * r + k8) := hw
              refine W.eq (g2 := F0 m 164 ls [.int (a2 (4200 * r + k8))]) rfl ?_
              refine lv_i2l (v := (a2 (4200 * r + k8)).toInt64) hx hb dX8_move_164 rfl ?_
              have hcu : cuO a1 a2 a3 a4 a7 a8 (upd a9 cc (nI (fr + 1))) (upd a10 cc (nI (fr + 1))) a11 a12 cc := cu_mk ho9 ep8 hrt9 hsn1 hsn2 (fun _ n e hn => ⟨fr + 1, fr + 1, pk_us, pk_us, by omega, by rw [cnt_cu hF9 ho9 ic5, ← (nI_eq (by omega) (by omega)).mp (hs9.symm.trans e), ← hne]; omega⟩)
              have hP9 := hP.sub (ws' := [(h0, .inr (8, [.int 0, .ref q1, .ref q2, .ref q3, .ref q4, .ref q5, .ref q6, .ref q7, .ref q8, .ref q9, .ref q10, .ref q11, .ref q12, v13, v14, v15, v16])), (q1, .inl (c1, 16, .inl a1)), (q2, .inl (c2, 67200, .inl a2)), (q3, .inl (c3, 16, .inl a3)), (q4, .inl (c4, 16, .inl a4)), (q5, .inl (c5, 16, .inl a5)), (q6, .inl (c6, 16, .inl a6)), (q7, .inl (c7, 16, .inl a7)), (q8, .inl (c8, 16, .inl a8)), (q9, .inl (c9, 16, .inl (upd a9 cc (nI (fr + 1))))), (q10, .inl (c10, 16, .inl (upd a10 cc (nI (fr + 1))))), (q11, .inl (c11, 16, .inl a11)), (q12, .inl (c12, 16, .inl a12))]) [11, 4, 12, 5, 6, 0, 1, 2, 7, 8, 9, 10, 3] rfl
              have hD9 := hD.sub (ws' := [(h0, .inr (8, [.int 0, .ref q1, .ref q2, .ref q3, .ref q4, .ref q5, .ref q6, .ref q7, .ref q8, .ref q9, .ref q10, .ref q11, .ref q12, v13, v14, v15, v16])), (q1, .inl (c1, 16, .inl a1)), (q2, .inl (c2, 67200, .inl a2)), (q3, .inl (c3, 16, .inl a3)), (q4, .inl (c4, 16, .inl a4)), (q5, .inl (c5, 16, .inl a5)), (q6, .inl (c6, 16, .inl a6)), (q7, .inl (c7, 16, .inl a7)), (q8, .inl (c8, 16, .inl a8)), (q9, .inl (c9, 16, .inl (upd a9 cc (nI (fr + 1))))), (q10, .inl (c10, 16, .inl (upd a10 cc (nI (fr + 1))))), (q11, .inl (c11, 16, .inl a11)), (q12, .inl (c12, 16, .inl a12))]) [11, 4, 12, 5, 6, 0, 1, 2, 7, 8, 9, 10, 3] (by decide) rfl
              have hK9 := hK.sub (tys' := [(c1, .int), (c2, .int), (c3, .int), (c4, .int), (c5, .int), (c6, .int), (c7, .int), (c8, .int), (c9, .int), (c10, .int), (c11, .int), (c12, .int)]) [0, 1, 2, 3, 4, 5, 6, 7, 8, 9, 10, 11] rfl
              refine W.widen (k := 0) (n := 0) (Nat.le_of_ble_eq_true rfl) (Nat.le_of_ble_eq_true rfl) ?_
              exact W.lret (v := (a2 (4200 * r + k8)).toInt64) hx hb hr (fun t ht hW => ⟨⟨(a2 (4200 * r + k8)).toInt64, (0, a2, a3, a7, (upd a9 cc (nI (fr + 1))), (upd a10 cc (nI (fr + 1))), a12), rfl, Or.inr ⟨cc, r, 0, hcc, ic5, by omega, rs_rf, hr9, hM9, fun q hq => ⟨pk_un hq, pk_un hq, rfl⟩, hcu⟩, by rw [ht]; exact hP9, va_K.moved hW.alike hK9, hD9⟩, hS.F ht⟩) hS.2.2 dX8_move_165
            ·
              have ic_26 : ((fr : Nat) : Int) = ((ne : Nat) : Int) := tx_eq (nI_toInt (by omega)) (nI_toInt (by omega)) c_26
              refine lv_aload_n hx hb dX8_move_115 rfl (lv_at hl 3 rfl) ?_
              refine lv_iconst (v := 1) hx hb dX8_move_116 (by decide) ?_
              have hPc := hP.sub (ws' := [(h0, .inr (8, [.int 0, .ref q1, .ref q2, .ref q3, .ref q4, .ref q5, .ref q6, .ref q7, .ref q8, .ref q9, .ref q10, .ref q11, .ref q12, v13, v14, v15, v16]))]) [4] rfl
              have hDc := hD.sub (ws' := [(h0, .inr (8, [.int 0, .ref q1, .ref q2, .ref q3, .ref q4, .ref q5, .ref q6, .ref q7, .ref q8, .ref q9, .ref q10, .ref q11, .ref q12, v13, v14, v15, v16]))]) [4] (by decide) rfl
              have hKc := hK.sub (tys' := []) [] rfl
              have hFc := va_free (wc := [(h0, .inr (8, [.int 0, .ref q1, .ref q2, .ref q3, .ref q4, .ref q5, .ref q6, .ref q7, .ref q8, .ref q9, .ref q10, .ref q11, .ref q12, v13, v14, v15, v16]))]) hD hS hA [4] rfl
              refine va_calli (va_runV (As := [.int 1]) (rest := []) ⟨hx, hb, hml, hown, hts⟩ (c_X8_refuse l  dC dI H.size h0 0 (.ref q1) (.ref q2) (.ref q3) (.ref q4) (.ref q5) (.ref q6) (.ref q7) (.ref q8) (.ref q9) (.ref q10) (.ref q11) (.ref q12) v13 v14 v15 v16 1) (cwV 1 hts gX8_move_X8_refuse rfl rfl rfl (by decide +kernel) ⟨(Nat.le_of_ble_eq_true rfl), (Nat.le_of_ble_eq_true rfl)⟩) ⟨pk_blind, va_recv hKc hPc (ci := 8) (q0 := 0) rfl rfl, pk_call hPc hKc hDc⟩ rfl rfl hl.1 rfl (lv_room (Nat.le_of_ble_eq_true rfl)) dX8_move_117 ⟨(Nat.le_of_ble_eq_true rfl), (Nat.le_of_ble_eq_true rfl)⟩) hS (fun q _ h => hFc q h) hFc (fun r_31 ur_31 t H1 locs ht hvm hw hB hz1 hk1 hS => ?_)
              try dsimp only at hw
              obtain ⟨hP1, hK1, hD1⟩ := hB
              rw [ht] at hP1
              have hK1 := va_K.moved hvm.symm hK1
              obtain ⟨hP, hD⟩ := va_join (wr := [(q5, .inl (c5, 16, .inl a5)), (q6, .inl (c6, 16, .inl a6)), (q7, .inl (c7, 16, .inl a7)), (q12, .inl (c12, 16, .inl a12)), (q1, .inl (c1, 16, .inl a1)), (q2, .inl (c2, 67200, .inl a2)), (q3, .inl (c3, 16, .inl a3)), (q4, .inl (c4, 16, .inl a4)), (q8, .inl (c8, 16, .inl a8)), (q9, .inl (c9, 16, .inl a9)), (q10, .inl (c10, 16, .inl a10)), (q11, .inl (c11, 16, .inl a11))]) (w1 := [(h0, .inr (8, [.int 1, .ref q1, .ref q2, .ref q3, .ref q4, .ref q5, .ref q6, .ref q7, .ref q8, .ref q9, .ref q10, .ref q11, .ref q12, v13, v14, v15, v16]))]) hP hD [4] [0, 1, 2, 3, 5, 6, 7, 8, 9, 10, 11, 12] rfl rfl (by decide) (by decide) hk1 hFc hP1 hD1
              clear hk1 hz1 ht hPc hDc hKc hFc
              generalize H1 = H at hP hS ⊢
              replace hP : va_P (dC, dI) vwCl [(q5, .inl (c5, 16, .inl a5)), (q6, .inl (c6, 16, .inl a6)), (q7, .inl (c7, 16, .inl a7)), (q12, .inl (c12, 16, .inl a12)), (q1, .inl (c1, 16, .inl a1)), (q2, .inl (c2, 67200, .inl a2)), (q3, .inl (c3, 16, .inl a3)), (q4, .inl (c4, 16, .inl a4)), (q8, .inl (c8, 16, .inl a8)), (q9, .inl (c9, 16, .inl a9)), (q10, .inl (c10, 16, .inl a10)), (q11, .inl (c11, 16, .inl a11)), (h0, .inr (8, [.int 1, .ref q1, .ref q2, .ref q3, .ref q4, .ref q5, .ref q6, .ref q7, .ref q8, .ref q9, .ref q10, .ref q11, .ref q12, v13, v14, v15, v16]))] H := hP
              replace hD : va_D A [(q5, .inl (c5, 16, .inl a5)), (q6, .inl (c6, 16, .inl a6)), (q7, .inl (c7, 16, .inl a7)), (q12, .inl (c12, 16, .inl a12)), (q1, .inl (c1, 16, .inl a1)), (q2, .inl (c2, 67200, .inl a2)), (q3, .inl (c3, 16, .inl a3)), (q4, .inl (c4, 16, .inl a4)), (q8, .inl (c8, 16, .inl a8)), (q9, .inl (c9, 16, .inl a9)), (q10, .inl (c10, 16, .inl a10)), (q11, .inl (c11, 16, .inl a11)), (h0, .inr (8, [.int 1, .ref q1, .ref q2, .ref q3, .ref q4, .ref q5, .ref q6, .ref q7, .ref q8, .ref q9, .ref q10, .ref q11, .ref q12, v13, v14, v15, v16]))] := hD
              refine W.widen (k := 0) (n := 0) (Nat.le_of_ble_eq_true rfl) (Nat.le_of_ble_eq_true rfl) ?_
              obtain rfl : r_31 = 0 := hw
              refine W.eq (g2 := F0 m 120 ls [.int 0]) rfl ?_
              refine lv_i2l (v := (0 : Int32).toInt64) hx hb dX8_move_120 rfl ?_
              have hP9 := hP.sub (ws' := [(h0, .inr (8, [.int 1, .ref q1, .ref q2, .ref q3, .ref q4, .ref q5, .ref q6, .ref q7, .ref q8, .ref q9, .ref q10, .ref q11, .ref q12, v13, v14, v15, v16])), (q1, .inl (c1, 16, .inl a1)), (q2, .inl (c2, 67200, .inl a2)), (q3, .inl (c3, 16, .inl a3)), (q4, .inl (c4, 16, .inl a4)), (q5, .inl (c5, 16, .inl a5)), (q6, .inl (c6, 16, .inl a6)), (q7, .inl (c7, 16, .inl a7)), (q8, .inl (c8, 16, .inl a8)), (q9, .inl (c9, 16, .inl a9)), (q10, .inl (c10, 16, .inl a10)), (q11, .inl (c11, 16, .inl a11)), (q12, .inl (c12, 16, .inl a12))]) [12, 4, 5, 6, 7, 0, 1, 2, 8, 9, 10, 11, 3] rfl
              have hD9 := hD.sub (ws' := [(h0, .inr (8, [.int 1, .ref q1, .ref q2, .ref q3, .ref q4, .ref q5, .ref q6, .ref q7, .ref q8, .ref q9, .ref q10, .ref q11, .ref q12, v13, v14, v15, v16])), (q1, .inl (c1, 16, .inl a1)), (q2, .inl (c2, 67200, .inl a2)), (q3, .inl (c3, 16, .inl a3)), (q4, .inl (c4, 16, .inl a4)), (q5, .inl (c5, 16, .inl a5)), (q6, .inl (c6, 16, .inl a6)), (q7, .inl (c7, 16, .inl a7)), (q8, .inl (c8, 16, .inl a8)), (q9, .inl (c9, 16, .inl a9)), (q10, .inl (c10, 16, .inl a10)), (q11, .inl (c11, 16, .inl a11)), (q12, .inl (c12, 16, .inl a12))]) [12, 4, 5, 6, 7, 0, 1, 2, 8, 9, 10, 11, 3] (by decide) rfl
              have hK9 := hK.sub (tys' := [(c1, .int), (c2, .int), (c3, .int), (c4, .int), (c5, .int), (c6, .int), (c7, .int), (c8, .int), (c9, .int), (c10, .int), (c11, .int), (c12, .int)]) [0, 1, 2, 3, 4, 5, 6, 7, 8, 9, 10, 11] rfl
              refine W.widen (k := 0) (n := 0) (Nat.le_of_ble_eq_true rfl) (Nat.le_of_ble_eq_true rfl) ?_
              exact W.lret (v := (0 : Int32).toInt64) hx hb hr (fun t ht hW => ⟨⟨(0 : Int32).toInt64, (1, a2, a3, a7, a9, a10, a12), rfl, Or.inl ⟨rfl, rfl, rfl, rfl, rfl, rfl⟩, by rw [ht]; exact hP9, va_K.moved hW.alike hK9, hD9⟩, hS.F ht⟩) hS.2.2 dX8_move_121
        ·
          have ic_7 : ¬ (a12 cc).toInt = (a7 r).toInt := tx_ne rfl rfl c_7
          refine lv_aload_n hx hb dX8_move_80 rfl (lv_at hl 2 rfl) ?_
          refine lv_iconst (v := 4) hx hb dX8_move_81 (by decide) ?_
          have hPc := hP.sub (ws' := [(h0, .inr (8, [.int th, .ref q1, .ref q2, .ref q3, .ref q4, .ref q5, .ref q6, .ref q7, .ref q8, .ref q9, .ref q10, .ref q11, .ref q12, v13, v14, v15, v16]))]) [10] rfl
          have hDc := hD.sub (ws' := [(h0, .inr (8, [.int th, .ref q1, .ref q2, .ref q3, .ref q4, .ref q5, .ref q6, .ref q7, .ref q8, .ref q9, .ref q10, .ref q11, .ref q12, v13, v14, v15, v16]))]) [10] (by decide) rfl
          have hKc := hK.sub (tys' := []) [] rfl
          have hFc := va_free (wc := [(h0, .inr (8, [.int th, .ref q1, .ref q2, .ref q3, .ref q4, .ref q5, .ref q6, .ref q7, .ref q8, .ref q9, .ref q10, .ref q11, .ref q12, v13, v14, v15, v16]))]) hD hS hA [10] rfl
          refine va_calli (va_runV (As := [.int 4]) (rest := []) ⟨hx, hb, hml, hown, hts⟩ (c_X8_refuse l  dC dI H.size h0 th (.ref q1) (.ref q2) (.ref q3) (.ref q4) (.ref q5) (.ref q6) (.ref q7) (.ref q8) (.ref q9) (.ref q10) (.ref q11) (.ref q12) v13 v14 v15 v16 4) (cwV 1 hts gX8_move_X8_refuse rfl rfl rfl (by decide +kernel) ⟨(Nat.le_of_ble_eq_true rfl), (Nat.le_of_ble_eq_true rfl)⟩) ⟨pk_blind, va_recv hKc hPc (ci := 8) (q0 := 0) rfl rfl, pk_call hPc hKc hDc⟩ rfl rfl hl.1 rfl (lv_room (Nat.le_of_ble_eq_true rfl)) dX8_move_82 ⟨(Nat.le_of_ble_eq_true rfl), (Nat.le_of_ble_eq_true rfl)⟩) hS (fun q _ h => hFc q h) hFc (fun r_32 ur_32 t H1 locs ht hvm hw hB hz1 hk1 hS => ?_)
          try dsimp only at hw
          obtain ⟨hP1, hK1, hD1⟩ := hB
          rw [ht] at hP1
          have hK1 := va_K.moved hvm.symm hK1
          obtain ⟨hP, hD⟩ := va_join (wr := [(q2, .inl (c2, 67200, .inl a2)), (q3, .inl (c3, 16, .inl a3)), (q4, .inl (c4, 16, .inl a4)), (q5, .inl (c5, 16, .inl a5)), (q6, .inl (c6, 16, .inl a6)), (q7, .inl (c7, 16, .inl a7)), (q9, .inl (c9, 16, .inl a9)), (q10, .inl (c10, 16, .inl a10)), (q11, .inl (c11, 16, .inl a11)), (q12, .inl (c12, 16, .inl a12)), (q1, .inl (c1, 16, .inl a1)), (q8, .inl (c8, 16, .inl a8))]) (w1 := [(h0, .inr (8, [.int 4, .ref q1, .ref q2, .ref q3, .ref q4, .ref q5, .ref q6, .ref q7, .ref q8, .ref q9, .ref q10, .ref q11, .ref q12, v13, v14, v15, v16]))]) hP hD [10] [0, 1, 2, 3, 4, 5, 6, 7, 8, 9, 11, 12] rfl rfl (by decide) (by decide) hk1 hFc hP1 hD1
          clear hk1 hz1 ht hPc hDc hKc hFc
          generalize H1 = H at hP hS ⊢
          replace hP : va_P (dC, dI) vwCl [(q2, .inl (c2, 67200, .inl a2)), (q3, .inl (c3, 16, .inl a3)), (q4, .inl (c4, 16, .inl a4)), (q5, .inl (c5, 16, .inl a5)), (q6, .inl (c6, 16, .inl a6)), (q7, .inl (c7, 16, .inl a7)), (q9, .inl (c9, 16, .inl a9)), (q10, .inl (c10, 16, .inl a10)), (q11, .inl (c11, 16, .inl a11)), (q12, .inl (c12, 16, .inl a12)), (q1, .inl (c1, 16, .inl a1)), (q8, .inl (c8, 16, .inl a8)), (h0, .inr (8, [.int 4, .ref q1, .ref q2, .ref q3, .ref q4, .ref q5, .ref q6, .ref q7, .ref q8, .ref q9, .ref q10, .ref q11, .ref q12, v13, v14, v15, v16]))] H := hP
          replace hD : va_D A [(q2, .inl (c2, 67200, .inl a2)), (q3, .inl (c3, 16, .inl a3)), (q4, .inl (c4, 16, .inl a4)), (q5, .inl (c5, 16, .inl a5)), (q6, .inl (c6, 16, .inl a6)), (q7, .inl (c7, 16, .inl a7)), (q9, .inl (c9, 16, .inl a9)), (q10, .inl (c10, 16, .inl a10)), (q11, .inl (c11, 16, .inl a11)), (q12, .inl (c12, 16, .inl a12)), (q1, .inl (c1, 16, .inl a1)), (q8, .inl (c8, 16, .inl a8)), (h0, .inr (8, [.int 4, .ref q1, .ref q2, .ref q3, .ref q4, .ref q5, .ref q6, .ref q7, .ref q8, .ref q9, .ref q10, .ref q11, .ref q12, v13, v14, v15, v16]))] := hD
          refine W.widen (k := 0) (n := 0) (Nat.le_of_ble_eq_true rfl) (Nat.le_of_ble_eq_true rfl) ?_
          obtain rfl : r_32 = 0 := hw
          refine W.eq (g2 := F0 m 85 ls [.int 0]) rfl ?_
          refine lv_i2l (v := (0 : Int32).toInt64) hx hb dX8_move_85 rfl ?_
          have hP9 := hP.sub (ws' := [(h0, .inr (8, [.int 4, .ref q1, .ref q2, .ref q3, .ref q4, .ref q5, .ref q6, .ref q7, .ref q8, .ref q9, .ref q10, .ref q11, .ref q12, v13, v14, v15, v16])), (q1, .inl (c1, 16, .inl a1)), (q2, .inl (c2, 67200, .inl a2)), (q3, .inl (c3, 16, .inl a3)), (q4, .inl (c4, 16, .inl a4)), (q5, .inl (c5, 16, .inl a5)), (q6, .inl (c6, 16, .inl a6)), (q7, .inl (c7, 16, .inl a7)), (q8, .inl (c8, 16, .inl a8)), (q9, .inl (c9, 16, .inl a9)), (q10, .inl (c10, 16, .inl a10)), (q11, .inl (c11, 16, .inl a11)), (q12, .inl (c12, 16, .inl a12))]) [12, 10, 0, 1, 2, 3, 4, 5, 11, 6, 7, 8, 9] rfl
          have hD9 := hD.sub (ws' := [(h0, .inr (8, [.int 4, .ref q1, .ref q2, .ref q3, .ref q4, .ref q5, .ref q6, .ref q7, .ref q8, .ref q9, .ref q10, .ref q11, .ref q12, v13, v14, v15, v16])), (q1, .inl (c1, 16, .inl a1)), (q2, .inl (c2, 67200, .inl a2)), (q3, .inl (c3, 16, .inl a3)), (q4, .inl (c4, 16, .inl a4)), (q5, .inl (c5, 16, .inl a5)), (q6, .inl (c6, 16, .inl a6)), (q7, .inl (c7, 16, .inl a7)), (q8, .inl (c8, 16, .inl a8)), (q9, .inl (c9, 16, .inl a9)), (q10, .inl (c10, 16, .inl a10)), (q11, .inl (c11, 16, .inl a11)), (q12, .inl (c12, 16, .inl a12))]) [12, 10, 0, 1, 2, 3, 4, 5, 11, 6, 7, 8, 9] (by decide) rfl
          have hK9 := hK.sub (tys' := [(c1, .int), (c2, .int), (c3, .int), (c4, .int), (c5, .int), (c6, .int), (c7, .int), (c8, .int), (c9, .int), (c10, .int), (c11, .int), (c12, .int)]) [0, 1, 2, 3, 4, 5, 6, 7, 8, 9, 10, 11] rfl
          refine W.widen (k := 0) (n := 0) (Nat.le_of_ble_eq_true rfl) (Nat.le_of_ble_eq_true rfl) ?_
          exact W.lret (v := (0 : Int32).toInt64) hx hb hr (fun t ht hW => ⟨⟨(0 : Int32).toInt64, (4, a2, a3, a7, a9, a10, a12), rfl, Or.inl ⟨rfl, rfl, rfl, rfl, rfl, rfl⟩, by rw [ht]; exact hP9, va_K.moved hW.alike hK9, hD9⟩, hS.F ht⟩) hS.2.2 dX8_move_86
      ·
        have ic_5 : r_4.toInt = 0 := tx_eq rfl (by decide) c_5
        refine lv_aload_n hx hb dX8_move_41 rfl (lv_at hl 0 rfl) ?_
        refine lv_iconst (v := 3) hx hb dX8_move_42 (by decide) ?_
        have hPc := hP.sub (ws' := [(h0, .inr (8, [.int th, .ref q1, .ref q2, .ref q3, .ref q4, .ref q5, .ref q6, .ref q7, .ref q8, .ref q9, .ref q10, .ref q11, .ref q12, v13, v14, v15, v16]))]) [11] rfl
        have hDc := hD.sub (ws' := [(h0, .inr (8, [.int th, .ref q1, .ref q2, .ref q3, .ref q4, .ref q5, .ref q6, .ref q7, .ref q8, .ref q9, .ref q10, .ref q11, .ref q12, v13, v14, v15, v16]))]) [11] (by decide) rfl
        have hKc := hK.sub (tys' := []) [] rfl
        have hFc := va_free (wc := [(h0, .inr (8, [.int th, .ref q1, .ref q2, .ref q3, .ref q4, .ref q5, .ref q6, .ref q7, .ref q8, .ref q9, .ref q10, .ref q11, .ref q12, v13, v14, v15, v16]))]) hD hS hA [11] rfl
        refine va_calli (va_runV (As := [.int 3]) (rest := []) ⟨hx, hb, hml, hown, hts⟩ (c_X8_refuse l  dC dI H.size h0 th (.ref q1) (.ref q2) (.ref q3) (.ref q4) (.ref q5) (.ref q6) (.ref q7) (.ref q8) (.ref q9) (.ref q10) (.ref q11) (.ref q12) v13 v14 v15 v16 3) (cwV 1 hts gX8_move_X8_refuse rfl rfl rfl (by decide +kernel) ⟨(Nat.le_of_ble_eq_true rfl), (Nat.le_of_ble_eq_true rfl)⟩) ⟨pk_blind, va_recv hKc hPc (ci := 8) (q0 := 0) rfl rfl, pk_call hPc hKc hDc⟩ rfl rfl hl.1 rfl (lv_room (Nat.le_of_ble_eq_true rfl)) dX8_move_43 ⟨(Nat.le_of_ble_eq_true rfl), (Nat.le_of_ble_eq_true rfl)⟩) hS (fun q _ h => hFc q h) hFc (fun r_33 ur_33 t H1 locs ht hvm hw hB hz1 hk1 hS => ?_)
        try dsimp only at hw
        obtain ⟨hP1, hK1, hD1⟩ := hB
        rw [ht] at hP1
        have hK1 := va_K.moved hvm.symm hK1
        obtain ⟨hP, hD⟩ := va_join (wr := [(q2, .inl (c2, 67200, .inl a2)), (q3, .inl (c3, 16, .inl a3)), (q4, .inl (c4, 16, .inl a4)), (q5, .inl (c5, 16, .inl a5)), (q6, .inl (c6, 16, .inl a6)), (q7, .inl (c7, 16, .inl a7)), (q8, .inl (c8, 16, .inl a8)), (q9, .inl (c9, 16, .inl a9)), (q10, .inl (c10, 16, .inl a10)), (q11, .inl (c11, 16, .inl a11)), (q12, .inl (c12, 16, .inl a12)), (q1, .inl (c1, 16, .inl a1))]) (w1 := [(h0, .inr (8, [.int 3, .ref q1, .ref q2, .ref q3, .ref q4, .ref q5, .ref q6, .ref q7, .ref q8, .ref q9, .ref q10, .ref q11, .ref q12, v13, v14, v15, v16]))]) hP hD [11] [0, 1, 2, 3, 4, 5, 6, 7, 8, 9, 10, 12] rfl rfl (by decide) (by decide) hk1 hFc hP1 hD1
        clear hk1 hz1 ht hPc hDc hKc hFc
        generalize H1 = H at hP hS ⊢
        replace hP : va_P (dC, dI) vwCl [(q2, .inl (c2, 67200, .inl a2)), (q3, .inl (c3, 16, .inl a3)), (q4, .inl (c4, 16, .inl a4)), (q5, .inl (c5, 16, .inl a5)), (q6, .inl (c6, 16, .inl a6)), (q7, .inl (c7, 16, .inl a7)), (q8, .inl (c8, 16, .inl a8)), (q9, .inl (c9, 16, .inl a9)), (q10, .inl (c10, 16, .inl a10)), (q11, .inl (c11, 16, .inl a11)), (q12, .inl (c12, 16, .inl a12)), (q1, .inl (c1, 16, .inl a1)), (h0, .inr (8, [.int 3, .ref q1, .ref q2, .ref q3, .ref q4, .ref q5, .ref q6, .ref q7, .ref q8, .ref q9, .ref q10, .ref q11, .ref q12, v13, v14, v15, v16]))] H := hP
        replace hD : va_D A [(q2, .inl (c2, 67200, .inl a2)), (q3, .inl (c3, 16, .inl a3)), (q4, .inl (c4, 16, .inl a4)), (q5, .inl (c5, 16, .inl a5)), (q6, .inl (c6, 16, .inl a6)), (q7, .inl (c7, 16, .inl a7)), (q8, .inl (c8, 16, .inl a8)), (q9, .inl (c9, 16, .inl a9)), (q10, .inl (c10, 16, .inl a10)), (q11, .inl (c11, 16, .inl a11)), (q12, .inl (c12, 16, .inl a12)), (q1, .inl (c1, 16, .inl a1)), (h0, .inr (8, [.int 3, .ref q1, .ref q2, .ref q3, .ref q4, .ref q5, .ref q6, .ref q7, .ref q8, .ref q9, .ref q10, .ref q11, .ref q12, v13, v14, v15, v16]))] := hD
        refine W.widen (k := 0) (n := 0) (Nat.le_of_ble_eq_true rfl) (Nat.le_of_ble_eq_true rfl) ?_
        obtain rfl : r_33 = 0 := hw
        refine W.eq (g2 := F0 m 46 ls [.int 0]) rfl ?_
        refine lv_i2l (v := (0 : Int32).toInt64) hx hb dX8_move_46 rfl ?_
        have hP9 := hP.sub (ws' := [(h0, .inr (8, [.int 3, .ref q1, .ref q2, .ref q3, .ref q4, .ref q5, .ref q6, .ref q7, .ref q8, .ref q9, .ref q10, .ref q11, .ref q12, v13, v14, v15, v16])), (q1, .inl (c1, 16, .inl a1)), (q2, .inl (c2, 67200, .inl a2)), (q3, .inl (c3, 16, .inl a3)), (q4, .inl (c4, 16, .inl a4)), (q5, .inl (c5, 16, .inl a5)), (q6, .inl (c6, 16, .inl a6)), (q7, .inl (c7, 16, .inl a7)), (q8, .inl (c8, 16, .inl a8)), (q9, .inl (c9, 16, .inl a9)), (q10, .inl (c10, 16, .inl a10)), (q11, .inl (c11, 16, .inl a11)), (q12, .inl (c12, 16, .inl a12))]) [12, 11, 0, 1, 2, 3, 4, 5, 6, 7, 8, 9, 10] rfl
        have hD9 := hD.sub (ws' := [(h0, .inr (8, [.int 3, .ref q1, .ref q2, .ref q3, .ref q4, .ref q5, .ref q6, .ref q7, .ref q8, .ref q9, .ref q10, .ref q11, .ref q12, v13, v14, v15, v16])), (q1, .inl (c1, 16, .inl a1)), (q2, .inl (c2, 67200, .inl a2)), (q3, .inl (c3, 16, .inl a3)), (q4, .inl (c4, 16, .inl a4)), (q5, .inl (c5, 16, .inl a5)), (q6, .inl (c6, 16, .inl a6)), (q7, .inl (c7, 16, .inl a7)), (q8, .inl (c8, 16, .inl a8)), (q9, .inl (c9, 16, .inl a9)), (q10, .inl (c10, 16, .inl a10)), (q11, .inl (c11, 16, .inl a11)), (q12, .inl (c12, 16, .inl a12))]) [12, 11, 0, 1, 2, 3, 4, 5, 6, 7, 8, 9, 10] (by decide) rfl
        have hK9 := hK.sub (tys' := [(c1, .int), (c2, .int), (c3, .int), (c4, .int), (c5, .int), (c6, .int), (c7, .int), (c8, .int), (c9, .int), (c10, .int), (c11, .int), (c12, .int)]) [0, 1, 2, 3, 4, 5, 6, 7, 8, 9, 10, 11] rfl
        refine W.widen (k := 0) (n := 0) (Nat.le_of_ble_eq_true rfl) (Nat.le_of_ble_eq_true rfl) ?_
        exact W.lret (v := (0 : Int32).toInt64) hx hb hr (fun t ht hW => ⟨⟨(0 : Int32).toInt64, (3, a2, a3, a7, a9, a10, a12), rfl, Or.inl ⟨rfl, rfl, rfl, rfl, rfl, rfl⟩, by rw [ht]; exact hP9, va_K.moved hW.alike hK9, hD9⟩, hS.F ht⟩) hS.2.2 dX8_move_47
    ·
      have ic_3 : ¬ (a1 cc).toInt = 5 := tx_ne rfl (by decide) c_3
      refine lv_aload_n hx hb dX8_move_25 rfl (lv_at hl 0 rfl) ?_
      refine lv_iconst (v := 2) hx hb dX8_move_26 (by decide) ?_
      have hPc := hP.sub (ws' := [(h0, .inr (8, [.int th, .ref q1, .ref q2, .ref q3, .ref q4, .ref q5, .ref q6, .ref q7, .ref q8, .ref q9, .ref q10, .ref q11, .ref q12, v13, v14, v15, v16]))]) [11] rfl
      have hDc := hD.sub (ws' := [(h0, .inr (8, [.int th, .ref q1, .ref q2, .ref q3, .ref q4, .ref q5, .ref q6, .ref q7, .ref q8, .ref q9, .ref q10, .ref q11, .ref q12, v13, v14, v15, v16]))]) [11] (by decide) rfl
      have hKc := hK.sub (tys' := []) [] rfl
      have hFc := va_free (wc := [(h0, .inr (8, [.int th, .ref q1, .ref q2, .ref q3, .ref q4, .ref q5, .ref q6, .ref q7, .ref q8, .ref q9, .ref q10, .ref q11, .ref q12, v13, v14, v15, v16]))]) hD hS hA [11] rfl
      refine va_calli (va_runV (As := [.int 2]) (rest := []) ⟨hx, hb, hml, hown, hts⟩ (c_X8_refuse l  dC dI H.size h0 th (.ref q1) (.ref q2) (.ref q3) (.ref q4) (.ref q5) (.ref q6) (.ref q7) (.ref q8) (.ref q9) (.ref q10) (.ref q11) (.ref q12) v13 v14 v15 v16 2) (cwV 1 hts gX8_move_X8_refuse rfl rfl rfl (by decide +kernel) ⟨(Nat.le_of_ble_eq_true rfl), (Nat.le_of_ble_eq_true rfl)⟩) ⟨pk_blind, va_recv hKc hPc (ci := 8) (q0 := 0) rfl rfl, pk_call hPc hKc hDc⟩ rfl rfl hl.1 rfl (lv_room (Nat.le_of_ble_eq_true rfl)) dX8_move_27 ⟨(Nat.le_of_ble_eq_true rfl), (Nat.le_of_ble_eq_true rfl)⟩) hS (fun q _ h => hFc q h) hFc (fun r_34 ur_34 t H1 locs ht hvm hw hB hz1 hk1 hS => ?_)
      try dsimp only at hw
      obtain ⟨hP1, hK1, hD1⟩ := hB
      rw [ht] at hP1
      have hK1 := va_K.moved hvm.symm hK1
      obtain ⟨hP, hD⟩ := va_join (wr := [(q2, .inl (c2, 67200, .inl a2)), (q3, .inl (c3, 16, .inl a3)), (q4, .inl (c4, 16, .inl a4)), (q5, .inl (c5, 16, .inl a5)), (q6, .inl (c6, 16, .inl a6)), (q7, .inl (c7, 16, .inl a7)), (q8, .inl (c8, 16, .inl a8)), (q9, .inl (c9, 16, .inl a9)), (q10, .inl (c10, 16, .inl a10)), (q11, .inl (c11, 16, .inl a11)), (q12, .inl (c12, 16, .inl a12)), (q1, .inl (c1, 16, .inl a1))]) (w1 := [(h0, .inr (8, [.int 2, .ref q1, .ref q2, .ref q3, .ref q4, .ref q5, .ref q6, .ref q7, .ref q8, .ref q9, .ref q10, .ref q11, .ref q12, v13, v14, v15, v16]))]) hP hD [11] [0, 1, 2, 3, 4, 5, 6, 7, 8, 9, 10, 12] rfl rfl (by decide) (by decide) hk1 hFc hP1 hD1
      clear hk1 hz1 ht hPc hDc hKc hFc
      generalize H1 = H at hP hS ⊢
      replace hP : va_P (dC, dI) vwCl [(q2, .inl (c2, 67200, .inl a2)), (q3, .inl (c3, 16, .inl a3)), (q4, .inl (c4, 16, .inl a4)), (q5, .inl (c5, 16, .inl a5)), (q6, .inl (c6, 16, .inl a6)), (q7, .inl (c7, 16, .inl a7)), (q8, .inl (c8, 16, .inl a8)), (q9, .inl (c9, 16, .inl a9)), (q10, .inl (c10, 16, .inl a10)), (q11, .inl (c11, 16, .inl a11)), (q12, .inl (c12, 16, .inl a12)), (q1, .inl (c1, 16, .inl a1)), (h0, .inr (8, [.int 2, .ref q1, .ref q2, .ref q3, .ref q4, .ref q5, .ref q6, .ref q7, .ref q8, .ref q9, .ref q10, .ref q11, .ref q12, v13, v14, v15, v16]))] H := hP
      replace hD : va_D A [(q2, .inl (c2, 67200, .inl a2)), (q3, .inl (c3, 16, .inl a3)), (q4, .inl (c4, 16, .inl a4)), (q5, .inl (c5, 16, .inl a5)), (q6, .inl (c6, 16, .inl a6)), (q7, .inl (c7, 16, .inl a7)), (q8, .inl (c8, 16, .inl a8)), (q9, .inl (c9, 16, .inl a9)), (q10, .inl (c10, 16, .inl a10)), (q11, .inl (c11, 16, .inl a11)), (q12, .inl (c12, 16, .inl a12)), (q1, .inl (c1, 16, .inl a1)), (h0, .inr (8, [.int 2, .ref q1, .ref q2, .ref q3, .ref q4, .ref q5, .ref q6, .ref q7, .ref q8, .ref q9, .ref q10, .ref q11, .ref q12, v13, v14, v15, v16]))] := hD
      refine W.widen (k := 0) (n := 0) (Nat.le_of_ble_eq_true rfl) (Nat.le_of_ble_eq_true rfl) ?_
      obtain rfl : r_34 = 0 := hw
      refine W.eq (g2 := F0 m 30 ls [.int 0]) rfl ?_
      refine lv_i2l (v := (0 : Int32).toInt64) hx hb dX8_move_30 rfl ?_
      have hP9 := hP.sub (ws' := [(h0, .inr (8, [.int 2, .ref q1, .ref q2, .ref q3, .ref q4, .ref q5, .ref q6, .ref q7, .ref q8, .ref q9, .ref q10, .ref q11, .ref q12, v13, v14, v15, v16])), (q1, .inl (c1, 16, .inl a1)), (q2, .inl (c2, 67200, .inl a2)), (q3, .inl (c3, 16, .inl a3)), (q4, .inl (c4, 16, .inl a4)), (q5, .inl (c5, 16, .inl a5)), (q6, .inl (c6, 16, .inl a6)), (q7, .inl (c7, 16, .inl a7)), (q8, .inl (c8, 16, .inl a8)), (q9, .inl (c9, 16, .inl a9)), (q10, .inl (c10, 16, .inl a10)), (q11, .inl (c11, 16, .inl a11)), (q12, .inl (c12, 16, .inl a12))]) [12, 11, 0, 1, 2, 3, 4, 5, 6, 7, 8, 9, 10] rfl
      have hD9 := hD.sub (ws' := [(h0, .inr (8, [.int 2, .ref q1, .ref q2, .ref q3, .ref q4, .ref q5, .ref q6, .ref q7, .ref q8, .ref q9, .ref q10, .ref q11, .ref q12, v13, v14, v15, v16])), (q1, .inl (c1, 16, .inl a1)), (q2, .inl (c2, 67200, .inl a2)), (q3, .inl (c3, 16, .inl a3)), (q4, .inl (c4, 16, .inl a4)), (q5, .inl (c5, 16, .inl a5)), (q6, .inl (c6, 16, .inl a6)), (q7, .inl (c7, 16, .inl a7)), (q8, .inl (c8, 16, .inl a8)), (q9, .inl (c9, 16, .inl a9)), (q10, .inl (c10, 16, .inl a10)), (q11, .inl (c11, 16, .inl a11)), (q12, .inl (c12, 16, .inl a12))]) [12, 11, 0, 1, 2, 3, 4, 5, 6, 7, 8, 9, 10] (by decide) rfl
      have hK9 := hK.sub (tys' := [(c1, .int), (c2, .int), (c3, .int), (c4, .int), (c5, .int), (c6, .int), (c7, .int), (c8, .int), (c9, .int), (c10, .int), (c11, .int), (c12, .int)]) [0, 1, 2, 3, 4, 5, 6, 7, 8, 9, 10, 11] rfl
      refine W.widen (k := 0) (n := 0) (Nat.le_of_ble_eq_true rfl) (Nat.le_of_ble_eq_true rfl) ?_
      exact W.lret (v := (0 : Int32).toInt64) hx hb hr (fun t ht hW => ⟨⟨(0 : Int32).toInt64, (2, a2, a3, a7, a9, a10, a12), rfl, Or.inl ⟨rfl, rfl, rfl, rfl, rfl, rfl⟩, by rw [ht]; exact hP9, va_K.moved hW.alike hK9, hD9⟩, hS.F ht⟩) hS.2.2 dX8_move_31
  ·
    have ic_2 : r_1.toInt = 0 := tx_eq rfl (by decide) c_2
    refine lv_aload_n hx hb dX8_move_8 rfl (lv_at hl 0 rfl) ?_
    refine lv_iconst (v := 1) hx hb dX8_move_9 (by decide) ?_
    have hPc := hP.sub (ws' := [(h0, .inr (8, [.int th, .ref q1, .ref q2, .ref q3, .ref q4, .ref q5, .ref q6, .ref q7, .ref q8, .ref q9, .ref q10, .ref q11, .ref q12, v13, v14, v15, v16]))]) [11] rfl
    have hDc := hD.sub (ws' := [(h0, .inr (8, [.int th, .ref q1, .ref q2, .ref q3, .ref q4, .ref q5, .ref q6, .ref q7, .ref q8, .ref q9, .ref q10, .ref q11, .ref q12, v13, v14, v15, v16]))]) [11] (by decide) rfl
    have hKc := hK.sub (tys' := []) [] rfl
    have hFc := va_free (wc := [(h0, .inr (8, [.int th, .ref q1, .ref q2, .ref q3, .ref q4, .ref q5, .ref q6, .ref q7, .ref q8, .ref q9, .ref q10, .ref q11, .ref q12, v13, v14, v15, v16]))]) hD hS hA [11] rfl
    refine va_calli (va_runV (As := [.int 1]) (rest := []) ⟨hx, hb, hml, hown, hts⟩ (c_X8_refuse l  dC dI H.size h0 th (.ref q1) (.ref q2) (.ref q3) (.ref q4) (.ref q5) (.ref q6) (.ref q7) (.ref q8) (.ref q9) (.ref q10) (.ref q11) (.ref q12) v13 v14 v15 v16 1) (cwV 1 hts gX8_move_X8_refuse rfl rfl rfl (by decide +kernel) ⟨(Nat.le_of_ble_eq_true rfl), (Nat.le_of_ble_eq_true rfl)⟩) ⟨pk_blind, va_recv hKc hPc (ci := 8) (q0 := 0) rfl rfl, pk_call hPc hKc hDc⟩ rfl rfl hl.1 rfl (lv_room (Nat.le_of_ble_eq_true rfl)) dX8_move_10 ⟨(Nat.le_of_ble_eq_true rfl), (Nat.le_of_ble_eq_true rfl)⟩) hS (fun q _ h => hFc q h) hFc (fun r_35 ur_35 t H1 locs ht hvm hw hB hz1 hk1 hS => ?_)
    try dsimp only at hw
    obtain ⟨hP1, hK1, hD1⟩ := hB
    rw [ht] at hP1
    have hK1 := va_K.moved hvm.symm hK1
    obtain ⟨hP, hD⟩ := va_join (wr := [(q2, .inl (c2, 67200, .inl a2)), (q3, .inl (c3, 16, .inl a3)), (q4, .inl (c4, 16, .inl a4)), (q5, .inl (c5, 16, .inl a5)), (q6, .inl (c6, 16, .inl a6)), (q7, .inl (c7, 16, .inl a7)), (q8, .inl (c8, 16, .inl a8)), (q9, .inl (c9, 16, .inl a9)), (q10, .inl (c10, 16, .inl a10)), (q11, .inl (c11, 16, .inl a11)), (q12, .inl (c12, 16, .inl a12)), (q1, .inl (c1, 16, .inl a1))]) (w1 := [(h0, .inr (8, [.int 1, .ref q1, .ref q2, .ref q3, .ref q4, .ref q5, .ref q6, .ref q7, .ref q8, .ref q9, .ref q10, .ref q11, .ref q12, v13, v14, v15, v16]))]) hP hD [11] [0, 1, 2, 3, 4, 5, 6, 7, 8, 9, 10, 12] rfl rfl (by decide) (by decide) hk1 hFc hP1 hD1
    clear hk1 hz1 ht hPc hDc hKc hFc
    generalize H1 = H at hP hS ⊢
    replace hP : va_P (dC, dI) vwCl [(q2, .inl (c2, 67200, .inl a2)), (q3, .inl (c3, 16, .inl a3)), (q4, .inl (c4, 16, .inl a4)), (q5, .inl (c5, 16, .inl a5)), (q6, .inl (c6, 16, .inl a6)), (q7, .inl (c7, 16, .inl a7)), (q8, .inl (c8, 16, .inl a8)), (q9, .inl (c9, 16, .inl a9)), (q10, .inl (c10, 16, .inl a10)), (q11, .inl (c11, 16, .inl a11)), (q12, .inl (c12, 16, .inl a12)), (q1, .inl (c1, 16, .inl a1)), (h0, .inr (8, [.int 1, .ref q1, .ref q2, .ref q3, .ref q4, .ref q5, .ref q6, .ref q7, .ref q8, .ref q9, .ref q10, .ref q11, .ref q12, v13, v14, v15, v16]))] H := hP
    replace hD : va_D A [(q2, .inl (c2, 67200, .inl a2)), (q3, .inl (c3, 16, .inl a3)), (q4, .inl (c4, 16, .inl a4)), (q5, .inl (c5, 16, .inl a5)), (q6, .inl (c6, 16, .inl a6)), (q7, .inl (c7, 16, .inl a7)), (q8, .inl (c8, 16, .inl a8)), (q9, .inl (c9, 16, .inl a9)), (q10, .inl (c10, 16, .inl a10)), (q11, .inl (c11, 16, .inl a11)), (q12, .inl (c12, 16, .inl a12)), (q1, .inl (c1, 16, .inl a1)), (h0, .inr (8, [.int 1, .ref q1, .ref q2, .ref q3, .ref q4, .ref q5, .ref q6, .ref q7, .ref q8, .ref q9, .ref q10, .ref q11, .ref q12, v13, v14, v15, v16]))] := hD
    refine W.widen (k := 0) (n := 0) (Nat.le_of_ble_eq_true rfl) (Nat.le_of_ble_eq_true rfl) ?_
    obtain rfl : r_35 = 0 := hw
    refine W.eq (g2 := F0 m 13 ls [.int 0]) rfl ?_
    refine lv_i2l (v := (0 : Int32).toInt64) hx hb dX8_move_13 rfl ?_
    have hP9 := hP.sub (ws' := [(h0, .inr (8, [.int 1, .ref q1, .ref q2, .ref q3, .ref q4, .ref q5, .ref q6, .ref q7, .ref q8, .ref q9, .ref q10, .ref q11, .ref q12, v13, v14, v15, v16])), (q1, .inl (c1, 16, .inl a1)), (q2, .inl (c2, 67200, .inl a2)), (q3, .inl (c3, 16, .inl a3)), (q4, .inl (c4, 16, .inl a4)), (q5, .inl (c5, 16, .inl a5)), (q6, .inl (c6, 16, .inl a6)), (q7, .inl (c7, 16, .inl a7)), (q8, .inl (c8, 16, .inl a8)), (q9, .inl (c9, 16, .inl a9)), (q10, .inl (c10, 16, .inl a10)), (q11, .inl (c11, 16, .inl a11)), (q12, .inl (c12, 16, .inl a12))]) [12, 11, 0, 1, 2, 3, 4, 5, 6, 7, 8, 9, 10] rfl
    have hD9 := hD.sub (ws' := [(h0, .inr (8, [.int 1, .ref q1, .ref q2, .ref q3, .ref q4, .ref q5, .ref q6, .ref q7, .ref q8, .ref q9, .ref q10, .ref q11, .ref q12, v13, v14, v15, v16])), (q1, .inl (c1, 16, .inl a1)), (q2, .inl (c2, 67200, .inl a2)), (q3, .inl (c3, 16, .inl a3)), (q4, .inl (c4, 16, .inl a4)), (q5, .inl (c5, 16, .inl a5)), (q6, .inl (c6, 16, .inl a6)), (q7, .inl (c7, 16, .inl a7)), (q8, .inl (c8, 16, .inl a8)), (q9, .inl (c9, 16, .inl a9)), (q10, .inl (c10, 16, .inl a10)), (q11, .inl (c11, 16, .inl a11)), (q12, .inl (c12, 16, .inl a12))]) [12, 11, 0, 1, 2, 3, 4, 5, 6, 7, 8, 9, 10] (by decide) rfl
    have hK9 := hK.sub (tys' := [(c1, .int), (c2, .int), (c3, .int), (c4, .int), (c5, .int), (c6, .int), (c7, .int), (c8, .int), (c9, .int), (c10, .int), (c11, .int), (c12, .int)]) [0, 1, 2, 3, 4, 5, 6, 7, 8, 9, 10, 11] rfl
    refine W.widen (k := 0) (n := 0) (Nat.le_of_ble_eq_true rfl) (Nat.le_of_ble_eq_true rfl) ?_
    exact W.lret (v := (0 : Int32).toInt64) hx hb hr (fun t ht hW => ⟨⟨(0 : Int32).toInt64, (1, a2, a3, a7, a9, a10, a12), rfl, Or.inl ⟨rfl, rfl, rfl, rfl, rfl, rfl⟩, by rw [ht]; exact hP9, va_K.moved hW.alike hK9, hD9⟩, hS.F ht⟩) hS.2.2 dX8_move_14
