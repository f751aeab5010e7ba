theorem dL_law_84 : decode cL_law 84 = .ok (.aload_n 1, 1) := by decide +kernel
theorem dL_law_85 : decode cL_law 85 = .ok (.aload_n 0, 1) := by decide +kernel
theorem dL_law_86 : decode cL_law 86 = .ok (.iload 4, 2) := by decide +kernel
theorem dL_law_88 : decode cL_law 88 = .ok (.iconst 1, 1) := by decide +kernel
theorem dL_law_89 : decode cL_law 89 = .ok (.iadd, 1) := by decide +kernel
theorem dL_law_90 : decode cL_law 90 = .ok (.iaload, 1) := by decide +kernel
theorem dL_law_91 : decode cL_law 91 = .ok (.aload_n 0, 1) := by decide +kernel
theorem dL_law_92 : decode cL_law 92 = .ok (.iload 4, 2) := by decide +kernel
theorem dL_law_94 : decode cL_law 94 = .ok (.iconst 2, 1) := by decide +kernel
theorem dL_law_95 : decode cL_law 95 = .ok (.iadd, 1) := by decide +kernel
theorem dL_law_96 : decode cL_law 96 = .ok (.iaload, 1) := by decide +kernel
theorem dL_law_97 : decode cL_law 97 = .ok (.aload_n 0, 1) := by decide +kernel
theorem dL_law_98 : decode cL_law 98 = .ok (.iload 4, 2) := by decide +kernel
theorem dL_law_100 : decode cL_law 100 = .ok (.iconst 3, 1) := by decide +kernel
theorem dL_law_101 : decode cL_law 101 = .ok (.iadd, 1) := by decide +kernel
theorem dL_law_102 : decode cL_law 102 = .ok (.iaload, 1) := by decide +kernel
theorem dL_law_103 : decode cL_law 103 = .ok (.aload_n 3, 1) := by decide +kernel
theorem dL_law_104 : decode cL_law 104 = .ok (.invokestatic 56, 3) := by decide +kernel
theorem dL_law_107 : decode cL_law 107 = .ok (.istore 5, 2) := by decide +kernel
theorem dL_law_109 : decode cL_law 109 = .ok (.aload_n 2, 1) := by decide +kernel
theorem dL_law_110 : decode cL_law 110 = .ok (.aload_n 0, 1) := by decide +kernel
theorem dL_law_111 : decode cL_law 111 = .ok (.iload 4, 2) := by decide +kernel
theorem dL_law_113 : decode cL_law 113 = .ok (.iconst 1, 1) := by decide +kernel
theorem dL_law_114 : decode cL_law 114 = .ok (.iadd, 1) := by decide +kernel
theorem dL_law_115 : decode cL_law 115 = .ok (.iaload, 1) := by decide +kernel
theorem dL_law_116 : decode cL_law 116 = .ok (.aload_n 0, 1) := by decide +kernel
theorem dL_law_117 : decode cL_law 117 = .ok (.iload 4, 2) := by decide +kernel
theorem dL_law_119 : decode cL_law 119 = .ok (.iconst 2, 1) := by decide +kernel
theorem dL_law_120 : decode cL_law 120 = .ok (.iadd, 1) := by decide +kernel
theorem dL_law_121 : decode cL_law 121 = .ok (.iaload, 1) := by decide +kernel
theorem dL_law_122 : decode cL_law 122 = .ok (.aload_n 0, 1) := by decide +kernel
theorem dL_law_123 : decode cL_law 123 = .ok (.iload 4, 2) := by decide +kernel
theorem dL_law_125 : decode cL_law 125 = .ok (.iconst 3, 1) := by decide +kernel
theorem dL_law_126 : decode cL_law 126 = .ok (.iadd, 1) := by decide +kernel
theorem dL_law_127 : decode cL_law 127 = .ok (.iaload, 1) := by decide +kernel
theorem dL_law_128 : decode cL_law 128 = .ok (.invokevirtual 61, 3) := by decide +kernel
theorem dL_law_131 : decode cL_law 131 = .ok (.istore 6, 2) := by decide +kernel
theorem dL_law_133 : decode cL_law 133 = .ok (.goto 347, 3) := by decide +kernel
theorem dL_law_136 : decode cL_law 136 = .ok (.aload_n 1, 1) := by decide +kernel
theorem dL_law_137 : decode cL_law 137 = .ok (.aload_n 0, 1) := by decide +kernel
theorem dL_law_138 : decode cL_law 138 = .ok (.iload 4, 2) := by decide +kernel
theorem dL_law_140 : decode cL_law 140 = .ok (.iconst 1, 1) := by decide +kernel
theorem dL_law_141 : decode cL_law 141 = .ok (.iadd, 1) := by decide +kernel
theorem dL_law_142 : decode cL_law 142 = .ok (.iaload, 1) := by decide +kernel
theorem dL_law_143 : decode cL_law 143 = .ok (.aload_n 3, 1) := by decide +kernel
theorem dL_law_144 : decode cL_law 144 = .ok (.invokestatic 62, 3) := by decide +kernel
theorem dL_law_147 : decode cL_law 147 = .ok (.istore 5, 2) := by decide +kernel
theorem dL_law_149 : decode cL_law 149 = .ok (.aload_n 2, 1) := by decide +kernel
theorem dL_law_150 : decode cL_law 150 = .ok (.aload_n 0, 1) := by decide +kernel
theorem dL_law_151 : decode cL_law 151 = .ok (.iload 4, 2) := by decide +kernel
theorem dL_law_153 : decode cL_law 153 = .ok (.iconst 1, 1) := by decide +kernel
theorem dL_law_154 : decode cL_law 154 = .ok (.iadd, 1) := by decide +kernel
theorem dL_law_155 : decode cL_law 155 = .ok (.iaload, 1) := by decide +kernel
theorem dL_law_156 : decode cL_law 156 = .ok (.invokevirtual 65, 3) := by decide +kernel
theorem dL_law_159 : decode cL_law 159 = .ok (.istore 6, 2) := by decide +kernel
theorem dL_law_161 : decode cL_law 161 = .ok (.goto 319, 3) := by decide +kernel
theorem dL_law_164 : decode cL_law 164 = .ok (.aload_n 1, 1) := by decide +kernel
theorem dL_law_165 : decode cL_law 165 = .ok (.aload_n 0, 1) := by decide +kernel
theorem dL_law_166 : decode cL_law 166 = .ok (.iload 4, 2) := by decide +kernel
theorem dL_law_168 : decode cL_law 168 = .ok (.iconst 1, 1) := by decide +kernel
theorem dL_law_169 : decode cL_law 169 = .ok (.iadd, 1) := by decide +kernel
theorem dL_law_170 : decode cL_law 170 = .ok (.iaload, 1) := by decide +kernel
theorem dL_law_171 : decode cL_law 171 = .ok (.aload_n 0, 1) := by decide +kernel
theorem dL_law_172 : decode cL_law 172 = .ok (.iload 4, 2) := by decide +kernel
theorem dL_law_174 : decode cL_law 174 = .ok (.iconst 2, 1) := by decide +kernel
theorem dL_law_175 : decode cL_law 175 = .ok (.iadd, 1) := by decide +kernel
theorem dL_law_176 : decode cL_law 176 = .ok (.iaload, 1) := by decide +kernel
theorem dL_law_177 : decode cL_law 177 = .ok (.aload_n 0, 1) := by decide +kernel
theorem dL_law_178 : decode cL_law 178 = .ok (.iload 4, 2) := by decide +kernel
theorem dL_law_180 : decode cL_law 180 = .ok (.iconst 3, 1) := by decide +kernel
theorem dL_law_181 : decode cL_law 181 = .ok (.iadd, 1) := by decide +kernel
theorem dL_law_182 : decode cL_law 182 = .ok (.iaload, 1) := by decide +kernel
theorem dL_law_183 : decode cL_law 183 = .ok (.aload_n 0, 1) := by decide +kernel
theorem dL_law_184 : decode cL_law 184 = .ok (.iload 4, 2) := by decide +kernel
theorem dL_law_186 : decode cL_law 186 = .ok (.iconst 4, 1) := by decide +kernel
theorem dL_law_187 : decode cL_law 187 = .ok (.iadd, 1) := by decide +kernel
theorem dL_law_188 : decode cL_law 188 = .ok (.iaload, 1) := by decide +kernel
theorem dL_law_189 : decode cL_law 189 = .ok (.aload_n 3, 1) := by decide +kernel
theorem dL_law_190 : decode cL_law 190 = .ok (.invokestatic 66, 3) := by decide +kernel
theorem dL_law_193 : decode cL_law 193 = .ok (.istore 5, 2) := by decide +kernel
theorem dL_law_195 : decode cL_law 195 = .ok (.aload_n 2, 1) := by decide +kernel
theorem dL_law_196 : decode cL_law 196 = .ok (.aload_n 0, 1) := by decide +kernel
theorem dL_law_197 : decode cL_law 197 = .ok (.iload 4, 2) := by decide +kernel
theorem dL_law_199 : decode cL_law 199 = .ok (.iconst 1, 1) := by decide +kernel
theorem dL_law_200 : decode cL_law 200 = .ok (.iadd, 1) := by decide +kernel
theorem dL_law_201 : decode cL_law 201 = .ok (.iaload, 1) := by decide +kernel
theorem dL_law_202 : decode cL_law 202 = .ok (.aload_n 0, 1) := by decide +kernel
theorem dL_law_203 : decode cL_law 203 = .ok (.iload 4, 2) := by decide +kernel
theorem dL_law_205 : decode cL_law 205 = .ok (.iconst 2, 1) := by decide +kernel
theorem dL_law_206 : decode cL_law 206 = .ok (.iadd, 1) := by decide +kernel
theorem dL_law_207 : decode cL_law 207 = .ok (.iaload, 1) := by decide +kernel
theorem dL_law_208 : decode cL_law 208 = .ok (.aload_n 0, 1) := by decide +kernel
theorem dL_law_209 : decode cL_law 209 = .ok (.iload 4, 2) := by decide +kernel
theorem dL_law_211 : decode cL_law 211 = .ok (.iconst 3, 1) := by decide +kernel
theorem dL_law_212 : decode cL_law 212 = .ok (.iadd, 1) := by decide +kernel
theorem dL_law_213 : decode cL_law 213 = .ok (.iaload, 1) := by decide +kernel
theorem dL_law_214 : decode cL_law 214 = .ok (.aload_n 0, 1) := by decide +kernel
theorem dL_law_215 : decode cL_law 215 = .ok (.iload 4, 2) := by decide +kernel
theorem dL_law_217 : decode cL_law 217 = .ok (.iconst 4, 1) := by decide +kernel
theorem dL_law_218 : decode cL_law 218 = .ok (.iadd, 1) := by decide +kernel
theorem dL_law_219 : decode cL_law 219 = .ok (.iaload, 1) := by decide +kernel
theorem dL_law_220 : decode cL_law 220 = .ok (.invokevirtual 69, 3) := by decide +kernel
theorem dL_law_223 : decode cL_law 223 = .ok (.lstore 6, 2) := by decide +kernel
theorem dL_law_225 : decode cL_law 225 = .ok (.goto 255, 3) := by decide +kernel
theorem dL_law_228 : decode cL_law 228 = .ok (.aload_n 1, 1) := by decide +kernel
theorem dL_law_229 : decode cL_law 229 = .ok (.aload_n 0, 1) := by decide +kernel
theorem dL_law_230 : decode cL_law 230 = .ok (.iload 4, 2) := by decide +kernel
theorem dL_law_232 : decode cL_law 232 = .ok (.iconst 1, 1) := by decide +kernel
theorem dL_law_233 : decode cL_law 233 = .ok (.iadd, 1) := by decide +kernel
theorem dL_law_234 : decode cL_law 234 = .ok (.iaload, 1) := by decide +kernel
theorem dL_law_235 : decode cL_law 235 = .ok (.aload_n 0, 1) := by decide +kernel
theorem dL_law_236 : decode cL_law 236 = .ok (.iload 4, 2) := by decide +kernel
theorem dL_law_238 : decode cL_law 238 = .ok (.iconst 2, 1) := by decide +kernel
theorem dL_law_239 : decode cL_law 239 = .ok (.iadd, 1) := by decide +kernel
theorem dL_law_240 : decode cL_law 240 = .ok (.iaload, 1) := by decide +kernel
theorem dL_law_241 : decode cL_law 241 = .ok (.aload_n 0, 1) := by decide +kernel
theorem dL_law_242 : decode cL_law 242 = .ok (.iload 4, 2) := by decide +kernel
theorem dL_law_244 : decode cL_law 244 = .ok (.iconst 3, 1) := by decide +kernel
theorem dL_law_245 : decode cL_law 245 = .ok (.iadd, 1) := by decide +kernel
theorem dL_law_246 : decode cL_law 246 = .ok (.iaload, 1) := by decide +kernel
theorem dL_law_247 : decode cL_law 247 = .ok (.aload_n 0, 1) := by decide +kernel
theorem dL_law_248 : decode cL_law 248 = .ok (.iload 4, 2) := by decide +kernel
theorem dL_law_250 : decode cL_law 250 = .ok (.iconst 4, 1) := by decide +kernel
theorem dL_law_251 : decode cL_law 251 = .ok (.iadd, 1) := by decide +kernel
theorem dL_law_252 : decode cL_law 252 = .ok (.iaload, 1) := by decide +kernel
theorem dL_law_253 : decode cL_law 253 = .ok (.aload_n 3, 1) := by decide +kernel
theorem dL_law_254 : decode cL_law 254 = .ok (.invokestatic 70, 3) := by decide +kernel
theorem dL_law_257 : decode cL_law 257 = .ok (.istore 5, 2) := by decide +kernel
theorem dL_law_259 : decode cL_law 259 = .ok (.aload_n 2, 1) := by decide +kernel
theorem dL_law_260 : decode cL_law 260 = .ok (.aload_n 0, 1) := by decide +kernel
theorem dL_law_261 : decode cL_law 261 = .ok (.iload 4, 2) := by decide +kernel
theorem dL_law_263 : decode cL_law 263 = .ok (.iconst 1, 1) := by decide +kernel
theorem dL_law_264 : decode cL_law 264 = .ok (.iadd, 1) := by decide +kernel
theorem dL_law_265 : decode cL_law 265 = .ok (.iaload, 1) := by decide +kernel
theorem dL_law_266 : decode cL_law 266 = .ok (.aload_n 0, 1) := by decide +kernel
theorem dL_law_267 : decode cL_law 267 = .ok (.iload 4, 2) := by decide +kernel
theorem dL_law_269 : decode cL_law 269 = .ok (.iconst 2, 1) := by decide +kernel
theorem dL_law_270 : decode cL_law 270 = .ok (.iadd, 1) := by decide +kernel
theorem dL_law_271 : decode cL_law 271 = .ok (.iaload, 1) := by decide +kernel
theorem dL_law_272 : decode cL_law 272 = .ok (.aload_n 0, 1) := by decide +kernel
theorem dL_law_273 : decode cL_law 273 = .ok (.iload 4, 2) := by decide +kernel
theorem dL_law_275 : decode cL_law 275 = .ok (.iconst 3, 1) := by decide +kernel
theorem dL_law_276 : decode cL_law 276 = .ok (.iadd, 1) := by decide +kernel
theorem dL_law_277 : decode cL_law 277 = .ok (.iaload, 1) := by decide +kernel
theorem dL_law_278 : decode cL_law 278 = .ok (.aload_n 0, 1) := by decide +kernel
theorem dL_law_279 : decode cL_law 279 = .ok (.iload 4, 2) := by decide +kernel
theorem dL_law_281 : decode cL_law 281 = .ok (.iconst 4, 1) := by decide +kernel
theorem dL_law_282 : decode cL_law 282 = .ok (.iadd, 1) := by decide +kernel
theorem dL_law_283 : decode cL_law 283 = .ok (.iaload, 1) := by decide +kernel
theorem dL_law_284 : decode cL_law 284 = .ok (.invokevirtual 72, 3) := by decide +kernel
theorem dL_law_287 : decode cL_law 287 = .ok (.istore 6, 2) := by decide +kernel
theorem dL_law_289 : decode cL_law 289 = .ok (.goto 191, 3) := by decide +kernel
theorem dL_law_292 : decode cL_law 292 = .ok (.aload_n 1, 1) := by decide +kernel
theorem dL_law_293 : decode cL_law 293 = .ok (.aload_n 0, 1) := by decide +kernel
theorem dL_law_294 : decode cL_law 294 = .ok (.iload 4, 2) := by decide +kernel
theorem dL_law_296 : decode cL_law 296 = .ok (.iconst 1, 1) := by decide +kernel
theorem dL_law_297 : decode cL_law 297 = .ok (.iadd, 1) := by decide +kernel
theorem dL_law_298 : decode cL_law 298 = .ok (.iaload, 1) := by decide +kernel
theorem dL_law_299 : decode cL_law 299 = .ok (.aload_n 3, 1) := by decide +kernel
theorem dL_law_300 : decode cL_law 300 = .ok (.invokestatic 73, 3) := by decide +kernel
theorem dL_law_303 : decode cL_law 303 = .ok (.istore 5, 2) := by decide +kernel
theorem dL_law_305 : decode cL_law 305 = .ok (.aload_n 2, 1) := by decide +kernel
theorem dL_law_306 : decode cL_law 306 = .ok (.aload_n 0, 1) := by decide +kernel
theorem dL_law_307 : decode cL_law 307 = .ok (.iload 4, 2) := by decide +kernel
theorem dL_law_309 : decode cL_law 309 = .ok (.iconst 1, 1) := by decide +kernel
theorem dL_law_310 : decode cL_law 310 = .ok (.iadd, 1) := by decide +kernel
theorem dL_law_311 : decode cL_law 311 = .ok (.iaload, 1) := by decide +kernel
theorem dL_law_312 : decode cL_law 312 = .ok (.invokevirtual 75, 3) := by decide +kernel
theorem dL_law_315 : decode cL_law 315 = .ok (.istore 6, 2) := by decide +kernel
theorem dL_law_317 : decode cL_law 317 = .ok (.aload_n 2, 1) := by decide +kernel
theorem dL_law_318 : decode cL_law 318 = .ok (.invokevirtual 76, 3) := by decide +kernel
theorem dL_law_321 : decode cL_law 321 = .ok (.iload 5, 2) := by decide +kernel
theorem dL_law_323 : decode cL_law 323 = .ok (.if_icmp .eq 5, 3) := by decide +kernel
theorem dL_law_328 : decode cL_law 328 = .ok (.iload 5, 2) := by decide +kernel
theorem dL_law_330 : decode cL_law 330 = .ok (.ifCond .ne 15, 3) := by decide +kernel
theorem dL_law_345 : decode cL_law 345 = .ok (.goto 135, 3) := by decide +kernel
theorem dL_law_333 : decode cL_law 333 = .ok (.aload_n 3, 1) := by decide +kernel
theorem dL_law_334 : decode cL_law 334 = .ok (.iconst 0, 1) := by decide +kernel
theorem dL_law_335 : decode cL_law 335 = .ok (.laload, 1) := by decide +kernel
theorem dL_law_336 : decode cL_law 336 = .ok (.iload 6, 2) := by decide +kernel
theorem dL_law_338 : decode cL_law 338 = .ok (.i2l, 1) := by decide +kernel
theorem dL_law_339 : decode cL_law 339 = .ok (.lcmp, 1) := by decide +kernel
theorem dL_law_340 : decode cL_law 340 = .ok (.ifCond .eq 5, 3) := by decide +kernel
theorem dL_law_348 : decode cL_law 348 = .ok (.aload_n 1, 1) := by decide +kernel
theorem dL_law_349 : decode cL_law 349 = .ok (.aload_n 0, 1) := by decide +kernel
theorem dL_law_350 : decode cL_law 350 = .ok (.iload 4, 2) := by decide +kernel
theorem dL_law_352 : decode cL_law 352 = .ok (.iconst 1, 1) := by decide +kernel
theorem dL_law_353 : decode cL_law 353 = .ok (.iadd, 1) := by decide +kernel
theorem dL_law_354 : decode cL_law 354 = .ok (.iaload, 1) := by decide +kernel
theorem dL_law_355 : decode cL_law 355 = .ok (.aload_n 0, 1) := by decide +kernel
theorem dL_law_356 : decode cL_law 356 = .ok (.iload 4, 2) := by decide +kernel
theorem dL_law_358 : decode cL_law 358 = .ok (.iconst 2, 1) := by decide +kernel
theorem dL_law_359 : decode cL_law 359 = .ok (.iadd, 1) := by decide +kernel
theorem dL_law_360 : decode cL_law 360 = .ok (.iaload, 1) := by decide +kernel
theorem dL_law_361 : decode cL_law 361 = .ok (.aload_n 0, 1) := by decide +kernel
theorem dL_law_362 : decode cL_law 362 = .ok (.iload 4, 2) := by decide +kernel
theorem dL_law_364 : decode cL_law 364 = .ok (.iconst 3, 1) := by decide +kernel
theorem dL_law_365 : decode cL_law 365 = .ok (.iadd, 1) := by decide +kernel
theorem dL_law_366 : decode cL_law 366 = .ok (.iaload, 1) := by decide +kernel
theorem dL_law_367 : decode cL_law 367 = .ok (.aload_n 3, 1) := by decide +kernel
theorem dL_law_368 : decode cL_law 368 = .ok (.invokestatic 80, 3) := by decide +kernel
theorem dL_law_371 : decode cL_law 371 = .ok (.istore 5, 2) := by decide +kernel
theorem dL_law_373 : decode cL_law 373 = .ok (.aload_n 2, 1) := by decide +kernel
theorem dL_law_374 : decode cL_law 374 = .ok (.aload_n 0, 1) := by decide +kernel
theorem dL_law_375 : decode cL_law 375 = .ok (.iload 4, 2) := by decide +kernel
theorem dL_law_377 : decode cL_law 377 = .ok (.iconst 1, 1) := by decide +kernel
theorem dL_law_378 : decode cL_law 378 = .ok (.iadd, 1) := by decide +kernel
theorem dL_law_379 : decode cL_law 379 = .ok (.iaload, 1) := by decide +kernel
theorem dL_law_380 : decode cL_law 380 = .ok (.aload_n 0, 1) := by decide +kernel
theorem dL_law_381 : decode cL_law 381 = .ok (.iload 4, 2) := by decide +kernel
theorem dL_law_383 : decode cL_law 383 = .ok (.iconst 2, 1) := by decide +kernel
theorem dL_law_384 : decode cL_law 384 = .ok (.iadd, 1) := by decide +kernel
theorem dL_law_385 : decode cL_law 385 = .ok (.iaload, 1) := by decide +kernel
theorem dL_law_386 : decode cL_law 386 = .ok (.aload_n 0, 1) := by decide +kernel
theorem dL_law_387 : decode cL_law 387 = .ok (.iload 4, 2) := by decide +kernel
theorem dL_law_389 : decode cL_law 389 = .ok (.iconst 3, 1) := by decide +kernel
theorem dL_law_390 : decode cL_law 390 = .ok (.iadd, 1) := by decide +kernel
theorem dL_law_391 : decode cL_law 391 = .ok (.iaload, 1) := by decide +kernel
theorem dL_law_392 : decode cL_law 392 = .ok (.invokevirtual 82, 3) := by decide +kernel
theorem dL_law_395 : decode cL_law 395 = .ok (.lstore 6, 2) := by decide +kernel
theorem dL_law_397 : decode cL_law 397 = .ok (.goto 83, 3) := by decide +kernel
theorem dL_law_400 : decode cL_law 400 = .ok (.aload_n 1, 1) := by decide +kernel
theorem dL_law_401 : decode cL_law 401 = .ok (.aload_n 0, 1) := by decide +kernel
theorem dL_law_402 : decode cL_law 402 = .ok (.iload 4, 2) := by decide +kernel
theorem dL_law_404 : decode cL_law 404 = .ok (.iconst 1, 1) := by decide +kernel
theorem dL_law_405 : decode cL_law 405 = .ok (.iadd, 1) := by decide +kernel
theorem dL_law_406 : decode cL_law 406 = .ok (.iaload, 1) := by decide +kernel
theorem dL_law_407 : decode cL_law 407 = .ok (.aload_n 0, 1) := by decide +kernel
theorem dL_law_408 : decode cL_law 408 = .ok (.iload 4, 2) := by decide +kernel
theorem dL_law_410 : decode cL_law 410 = .ok (.iconst 2, 1) := by decide +kernel
theorem dL_law_411 : decode cL_law 411 = .ok (.iadd, 1) := by decide +kernel
theorem dL_law_412 : decode cL_law 412 = .ok (.iaload, 1) := by decide +kernel
theorem dL_law_413 : decode cL_law 413 = .ok (.aload_n 0, 1) := by decide +kernel
theorem dL_law_414 : decode cL_law 414 = .ok (.iload 4, 2) := by decide +kernel
theorem dL_law_416 : decode cL_law 416 = .ok (.iconst 3, 1) := by decide +kernel
theorem dL_law_417 : decode cL_law 417 = .ok (.iadd, 1) := by decide +kernel
theorem dL_law_418 : decode cL_law 418 = .ok (.iaload, 1) := by decide +kernel
theorem dL_law_419 : decode cL_law 419 = .ok (.aload_n 3, 1) := by decide +kernel
theorem dL_law_420 : decode cL_law 420 = .ok (.invokestatic 83, 3) := by decide +kernel
theorem dL_law_423 : decode cL_law 423 = .ok (.istore 5, 2) := by decide +kernel
theorem dL_law_425 : decode cL_law 425 = .ok (.aload_n 2, 1) := by decide +kernel
theorem dL_law_426 : decode cL_law 426 = .ok (.aload_n 0, 1) := by decide +kernel
theorem dL_law_427 : decode cL_law 427 = .ok (.iload 4, 2) := by decide +kernel
theorem dL_law_429 : decode cL_law 429 = .ok (.iconst 1, 1) := by decide +kernel
theorem dL_law_430 : decode cL_law 430 = .ok (.iadd, 1) := by decide +kernel
theorem dL_law_431 : decode cL_law 431 = .ok (.iaload, 1) := by decide +kernel
theorem dL_law_432 : decode cL_law 432 = .ok (.aload_n 0, 1) := by decide +kernel
theorem dL_law_433 : decode cL_law 433 = .ok (.iload 4, 2) := by decide +kernel
theorem dL_law_435 : decode cL_law 435 = .ok (.iconst 2, 1) := by decide +kernel
theorem dL_law_436 : decode cL_law 436 = .ok (.iadd, 1) := by decide +kernel
theorem dL_law_437 : decode cL_law 437 = .ok (.iaload, 1) := by decide +kernel
theorem dL_law_438 : decode cL_law 438 = .ok (.aload_n 0, 1) := by decide +kernel
theorem dL_law_439 : decode cL_law 439 = .ok (.iload 4, 2) := by decide +kernel
theorem dL_law_441 : decode cL_law 441 = .ok (.iconst 3, 1) := by decide +kernel
theorem dL_law_442 : decode cL_law 442 = .ok (.iadd, 1) := by decide +kernel
theorem dL_law_443 : decode cL_law 443 = .ok (.iaload, 1) := by decide +kernel
theorem dL_law_444 : decode cL_law 444 = .ok (.invokevirtual 85, 3) := by decide +kernel
theorem dL_law_447 : decode cL_law 447 = .ok (.lstore 6, 2) := by decide +kernel
theorem dL_law_449 : decode cL_law 449 = .ok (.goto 31, 3) := by decide +kernel
theorem dL_law_452 : decode cL_law 452 = .ok (.aload_n 1, 1) := by decide +kernel
theorem dL_law_453 : decode cL_law 453 = .ok (.aload_n 0, 1) := by decide +kernel
theorem dL_law_454 : decode cL_law 454 = .ok (.iload 4, 2) := by decide +kernel
theorem dL_law_456 : decode cL_law 456 = .ok (.iconst 1, 1) := by decide +kernel
theorem dL_law_457 : decode cL_law 457 = .ok (.iadd, 1) := by decide +kernel
theorem dL_law_458 : decode cL_law 458 = .ok (.iaload, 1) := by decide +kernel
theorem dL_law_459 : decode cL_law 459 = .ok (.aload_n 3, 1) := by decide +kernel
theorem dL_law_460 : decode cL_law 460 = .ok (.invokestatic 86, 3) := by decide +kernel
theorem dL_law_463 : decode cL_law 463 = .ok (.istore 5, 2) := by decide +kernel
theorem dL_law_465 : decode cL_law 465 = .ok (.aload_n 2, 1) := by decide +kernel
theorem dL_law_466 : decode cL_law 466 = .ok (.aload_n 0, 1) := by decide +kernel
theorem dL_law_467 : decode cL_law 467 = .ok (.iload 4, 2) := by decide +kernel
theorem dL_law_469 : decode cL_law 469 = .ok (.iconst 1, 1) := by decide +kernel
theorem dL_law_470 : decode cL_law 470 = .ok (.iadd, 1) := by decide +kernel
theorem dL_law_471 : decode cL_law 471 = .ok (.iaload, 1) := by decide +kernel
theorem dL_law_472 : decode cL_law 472 = .ok (.invokevirtual 88, 3) := by decide +kernel
theorem dL_law_475 : decode cL_law 475 = .ok (.istore 6, 2) := by decide +kernel
theorem dL_law_477 : decode cL_law 477 = .ok (.goto 3, 3) := by decide +kernel
set_option maxHeartbeats 4000000 in
set_option maxRecDepth 100000 in
/-- the law: a call of make -/
theorem law_make {p : Program} {e : Env} {s : State} {m : MethodId} {below : List Frame} {meth : Method} {c : Code} (l : Launch) (hlt : l.stackTraces = false) {b L : Nat} {xs : Nat → Int32} (hL : L ≤ 2560) (C0 : lw_At p s m meth c b L xs) (dC : Nat → ClassId) (dI : Nat → Nat → Nat) (hN : p_N s) (hM : p_M s) (A : Nat → Prop) (hAe : A = (fun q : Nat => s.heap.size ≤ q)) (hZ : p_Z A s s.heap) {x h0 qo k : Nat} {H : Heap} {locs : List Loc} {ls : Array Slot} (hk : 5 * k + 5 ≤ L) (J : lawI (dC, dI) s A x h0 qo k H) (hS : va_S A s.heap H locs) (hl : lv_has ls 8 [(0, .ref b), (1, .ref x), (2, .ref h0), (3, .ref qo), (4, .int (nI (5 * k)))]) (hnext : ∀ (H1 : Heap) (locs1 : List Loc) (ls1 : Array Slot), lawI (dC, dI) s A x h0 qo (k + 1) H1 → va_S A s.heap H1 locs1 → lv_has ls1 8 [(0, .ref b), (1, .ref x), (2, .ref h0), (3, .ref qo), (4, .int (nI (5 * k)))] → W p l e room_1 s m #[Value.ref b] below meth c H1 locs1 (2000 + 150 * (k + 1)) (100000 + 12700 * (k + 1)) (lw_Z below #[Value.ref b] s) (F0 m 480 ls1 [])) : W p l e room_1 s m #[Value.ref b] below meth c H locs (2000 + 150 * k) (100000 + 12700 * k) (lw_Z below #[Value.ref b] s) (F0 m 84 ls []) := by
  obtain ⟨hx, hb, hr, hml, hown, hts, hX, hbl, hlocks, hgv⟩ := id C0
  have hown : s.vm.findClass RL = some m.cls := hown
  have hts := lwx_hts hts
  have hA : ∀ q : Nat, s.heap.size ≤ q → A q := fun q h => by rw [hAe]; exact h
  have hbA : ¬ A b := by rw [hAe]; exact Nat.not_le.mpr hbl
  obtain ⟨qb, cq, bq, ow, rx, cr, co, f0, th, q1, q2, q3, q4, q5, q6, q7, q8, q9, q10, q11, q12, q13, q14, q15, q16, c1, c2, c3, c4, c5, c6, c7, c8, c9, c10, c11, c12, c13, c14, c15, c16, a1, a2, a3, a4, a5, a6, a7, a8, a9, a10, a11, a12, a13, a14, a15, a16, hP, hK, hD, hPo, hKo, hAo, hoq, hI, hoz, hlo, hR, hTb, hSz⟩ := J
  obtain ⟨⟨dep, hF9, hda⟩, hr2, hMa, hB7, hCa⟩ := id hR
  refine lv_aload_n hx hb dL_law_84 rfl (lv_at hl 1 rfl) ?_
  refine lv_aload_n hx hb dL_law_85 rfl (lv_at hl 0 rfl) ?_
  refine lv_iload hx hb dL_law_86 (lv_at hl 4 rfl) ?_
  refine lv_iconst (v := 1) hx hb dL_law_88 (by decide) ?_
  refine lv_iadd hx hb dL_law_89 ?_
  refine lv_topi (fun z_1 ez_1 => ?_)
  obtain rfl : z_1 = nI ((5 * k) + 1) := ez_1.trans (by rw [show (1 : Int32) = nI 1 from rfl, nI_add])
  refine va_sld (i := nI ((5 * k) + 1)) hx hb hX hbl hbA hS (vp_in_nI (by omega) (by omega)) dL_law_90 ?_
  refine W.eq (g2 := F0 m 91 ls [.int (xs ((5 * k) + 1)), .ref x]) (by rw [nI_clamp (by omega)]) ?_
  refine lv_aload_n hx hb dL_law_91 rfl (lv_at hl 0 rfl) ?_
  refine lv_iload hx hb dL_law_92 (lv_at hl 4 rfl) ?_
  refine lv_iconst (v := 2) hx hb dL_law_94 (by decide) ?_
  refine lv_iadd hx hb dL_law_95 ?_
  refine lv_topi (fun z_2 ez_2 => ?_)
  obtain rfl : z_2 = nI ((5 * k) + 2) := ez_2.trans (by rw [show (2 : Int32) = nI 2 from rfl, nI_add])
  refine va_sld (i := nI ((5 * k) + 2)) hx hb hX hbl hbA hS (vp_in_nI (by omega) (by omega)) dL_law_96 ?_
  refine W.eq (g2 := F0 m 97 ls [.int (xs ((5 * k) + 2)), .int (xs ((5 * k) + 1)), .ref x]) (by rw [nI_clamp (by omega)]) ?_
  refine lv_aload_n hx hb dL_law_97 rfl (lv_at hl 0 rfl) ?_
  refine lv_iload hx hb dL_law_98 (lv_at hl 4 rfl) ?_
  refine lv_iconst (v := 3) hx hb dL_law_100 (by decide) ?_
  refine lv_iadd hx hb dL_law_101 ?_
  refine lv_topi (fun z_3 ez_3 => ?_)
  obtain rfl : z_3 = nI ((5 * k) + 3) := ez_3.trans (by rw [show (3 : Int32) = nI 3 from rfl, nI_add])
  refine va_sld (i := nI ((5 * k) + 3)) hx hb hX hbl hbA hS (vp_in_nI (by omega) (by omega)) dL_law_102 ?_
  refine W.eq (g2 := F0 m 103 ls [.int (xs ((5 * k) + 3)), .int (xs ((5 * k) + 2)), .int (xs ((5 * k) + 1)), .ref x]) (by rw [nI_clamp (by omega)]) ?_
  refine lv_aload_n hx hb dL_law_103 rfl (lv_at hl 3 rfl) ?_
  have hAl := lA_A hAe hlo hS.1 hAo
  have hS0 := hS.1
  refine va_calli (vx_runSW (As := [.ref x, .int (xs ((5 * k) + 1)), .int (xs ((5 * k) + 2)), .int (xs ((5 * k) + 3)), .ref qo]) (rest := []) ⟨hx, hb, hml, hown, hts⟩ (c_L_make l hlt dC dI H.size (hT H) ⟨dep, hF9, hda⟩ qo co f0 (xs ((5 * k) + 1)) (xs ((5 * k) + 2)) (xs ((5 * k) + 3))) (vx_cwSW 5 hts gP_law_L_make rfl rfl rfl (by decide +kernel) ⟨(Nat.le_of_ble_eq_true rfl), (Nat.le_of_ble_eq_true rfl)⟩) ⟨lPre_blind, lPre_call hI hN hM (hZ.kept hS.2.1) hAl hPo hKo hoq⟩ rfl rfl hl.1 rfl (lv_room (Nat.le_of_ble_eq_true rfl)) dL_law_104 ⟨(show 2000 + 150 * k + 6 ≤ 601024 by omega), (show 100000 + 12700 * k + 49 ≤ 7293034 by omega)⟩) hS (fun q _ z => hAl q z) hAl (fun kc u9 t H1 locs ht hvm hw hB hz1 hk1 hS => ?_)
  obtain ⟨f1, bq1, ow1, rx1, cr1, b1, b4, b8, b11⟩ := u9
  obtain ⟨⟨hI, hpos, hc1, hc2⟩, hPo, hKo, hoq⟩ := hB
  dsimp only at hw hI hpos hc1 hc2 hPo hKo hoq
  rw [ht] at hI hc1 hc2 hPo
  have hI : aI (dC, dI) s H1 x qb cq bq1 ow1 rx1 cr1 b1 b4 b8 b11 := aI_moved hvm.symm hI
  have hKo := va_K.moved hvm.symm hKo
  have hwc := hw
  have hoz1 : ∀ q ∈ [h0, q1, q2, q3, q4, q5, q6, q7, q8, q9, q10, q11, q12, q13, q14, q15, q16], ow1 q = 0 ∧ q ≠ qo := oz_call hoz (P_lt hP rfl) hpos
  have hP : va_P (dC, dI) vwCl [(h0, .inr (8, [.int th, .ref q1, .ref q2, .ref q3, .ref q4, .ref q5, .ref q6, .ref q7, .ref q8, .ref q9, .ref q10, .ref q11, .ref q12, .ref q13, .ref q14, .ref q15, .ref q16])), (q1, .inl (c1, 16, .inl a1)), (q2, .inl (c2, 67200, .inl a2)), (q3, .inl (c3, 16, .inl a3)), (q4, .inl (c4, 16, .inl a4)), (q5, .inl (c5, 16, .inl a5)), (q6, .inl (c6, 16, .inl a6)), (q7, .inl (c7, 16, .inl a7)), (q8, .inl (c8, 16, .inl a8)), (q9, .inl (c9, 16, .inl a9)), (q10, .inl (c10, 16, .inl a10)), (q11, .inl (c11, 16, .inl a11)), (q12, .inl (c12, 16, .inl a12)), (q13, .inl (c13, 1000, .inl a13)), (q14, .inl (c14, 1000, .inl a14)), (q15, .inl (c15, 4096, .inl a15)), (q16, .inl (c16, 16, .inl a16))] H1 := P_law hP rfl hoz hk1
  have hlo : ∀ q : Nat, 0 < ow1 q → s.heap.size ≤ q := fun q z => (hpos q z).elim (hlo q) (fun z => Nat.le_trans hS0 z)
  replace hoz := hoz1
  refine W.book2 (fun hz8 hn8 hz7 hn7 => ?_)
  obtain ⟨kw, ekw⟩ : ∃ z : Nat, z = H1.size - s.heap.size := ⟨_, rfl⟩
  obtain ⟨nw, enw⟩ : ∃ z : Nat, z = hT H1 - hT s.heap := ⟨_, rfl⟩
  have hkw : kw ≤ 2000 + 150 * (k + 1) := by omega
  have hnw : nw + sumN cr1 16 ≤ 100000 + 12700 * (k + 1) := by omega
  refine W.tight (k := kw) (n := nw) (by omega) (by omega) ?_
  clear ekw enw hz8 hn8 hz7 hn7 hc1 hc2 hk1 hz1 ht hw hAl hS0 hTb hSz
  generalize H1 = H at hP hPo hI hS ⊢
  refine W.eq (g2 := F0 m 107 ls [.int kc]) rfl ?_
  refine lv_istore (lv' := [(5, .int kc), (0, .ref b), (1, .ref x), (2, .ref h0), (3, .ref qo), (4, .int (nI (5 * k)))]) hx hb dL_law_107 hl (by decide) rfl (fun ls hl => ?_)
  refine lv_aload_n hx hb dL_law_109 rfl (lv_at hl 3 rfl) ?_
  refine lv_aload_n hx hb dL_law_110 rfl (lv_at hl 1 rfl) ?_
  refine lv_iload hx hb dL_law_111 (lv_at hl 5 rfl) ?_
  refine lv_iconst (v := 1) hx hb dL_law_113 (by decide) ?_
  refine lv_iadd hx hb dL_law_114 ?_
  refine lv_topi (fun z_4 ez_4 => ?_)
  obtain rfl : z_4 = nI ((5 * k) + 1) := ez_4.trans (by rw [show (1 : Int32) = nI 1 from rfl, nI_add])
  refine va_sld (i := nI ((5 * k) + 1)) hx hb hX hbl hbA hS (vp_in_nI (by omega) (by omega)) dL_law_115 ?_
  refine W.eq (g2 := F0 m 116 ls [.int (xs ((5 * k) + 1)), .ref h0]) (by rw [nI_clamp (by omega)]) ?_
  refine lv_aload_n hx hb dL_law_116 rfl (lv_at hl 1 rfl) ?_
  refine lv_iload hx hb dL_law_117 (lv_at hl 5 rfl) ?_
  refine lv_iconst (v := 2) hx hb dL_law_119 (by decide) ?_
  refine lv_iadd hx hb dL_law_120 ?_
  refine lv_topi (fun z_5 ez_5 => ?_)
  obtain rfl : z_5 = nI ((5 * k) + 2) := ez_5.trans (by rw [show (2 : Int32) = nI 2 from rfl, nI_add])
  refine va_sld (i := nI ((5 * k) + 2)) hx hb hX hbl hbA hS (vp_in_nI (by omega) (by omega)) dL_law_121 ?_
  refine W.eq (g2 := F0 m 122 ls [.int (xs ((5 * k) + 2)), .int (xs ((5 * k) + 1)), .ref h0]) (by rw [nI_clamp (by omega)]) ?_
  refine lv_aload_n hx hb dL_law_122 rfl (lv_at hl 1 rfl) ?_
  refine lv_iload hx hb dL_law_123 (lv_at hl 5 rfl) ?_
  refine lv_iconst (v := 3) hx hb dL_law_125 (by decide) ?_
  refine lv_iadd hx hb dL_law_126 ?_
  refine lv_topi (fun z_6 ez_6 => ?_)
  obtain rfl : z_6 = nI ((5 * k) + 3) := ez_6.trans (by rw [show (3 : Int32) = nI 3 from rfl, nI_add])
  refine va_sld (i := nI ((5 * k) + 3)) hx hb hX hbl hbA hS (vp_in_nI (by omega) (by omega)) dL_law_127 ?_
  refine W.eq (g2 := F0 m 128 ls [.int (xs ((5 * k) + 3)), .int (xs ((5 * k) + 2)), .int (xs ((5 * k) + 1)), .ref h0]) (by rw [nI_clamp (by omega)]) ?_
  have hPc := hP.sub (ws' := [(h0, .inr (8, [.int th, .ref q1, .ref q2, .ref q3, .ref q4, .ref q5, .ref q6, .ref q7, .ref q8, .ref q9, .ref q10, .ref q11, .ref q12, .ref q13, .ref q14, .ref q15, .ref q16])), (q1, .inl (c1, 16, .inl a1)), (q3, .inl (c3, 16, .inl a3)), (q4, .inl (c4, 16, .inl a4)), (q5, .inl (c5, 16, .inl a5)), (q6, .inl (c6, 16, .inl a6)), (q7, .inl (c7, 16, .inl a7)), (q8, .inl (c8, 16, .inl a8))]) [0, 1, 3, 4, 5, 6, 7, 8] rfl
  have hDc := hD.sub (ws' := [(h0, .inr (8, [.int th, .ref q1, .ref q2, .ref q3, .ref q4, .ref q5, .ref q6, .ref q7, .ref q8, .ref q9, .ref q10, .ref q11, .ref q12, .ref q13, .ref q14, .ref q15, .ref q16])), (q1, .inl (c1, 16, .inl a1)), (q3, .inl (c3, 16, .inl a3)), (q4, .inl (c4, 16, .inl a4)), (q5, .inl (c5, 16, .inl a5)), (q6, .inl (c6, 16, .inl a6)), (q7, .inl (c7, 16, .inl a7)), (q8, .inl (c8, 16, .inl a8))]) [0, 1, 3, 4, 5, 6, 7, 8] (by decide) rfl
  have hKc := hK.sub (tys' := [(c1, .int), (c3, .int), (c4, .int), (c5, .int), (c6, .int), (c7, .int), (c8, .int)]) [0, 2, 3, 4, 5, 6, 7] rfl
  have hFc := va_free (wc := [(h0, .inr (8, [.int th, .ref q1, .ref q2, .ref q3, .ref q4, .ref q5, .ref q6, .ref q7, .ref q8, .ref q9, .ref q10, .ref q11, .ref q12, .ref q13, .ref q14, .ref q15, .ref q16])), (q1, .inl (c1, 16, .inl a1)), (q3, .inl (c3, 16, .inl a3)), (q4, .inl (c4, 16, .inl a4)), (q5, .inl (c5, 16, .inl a5)), (q6, .inl (c6, 16, .inl a6)), (q7, .inl (c7, 16, .inl a7)), (q8, .inl (c8, 16, .inl a8))]) hD hS hA [0, 1, 3, 4, 5, 6, 7, 8] rfl
  refine va_calli (va_runV (As := [.int (xs ((5 * k) + 1)), .int (xs ((5 * k) + 2)), .int (xs ((5 * k) + 3))]) (rest := []) ⟨hx, hb, hml, hown, hts⟩ (c_X8_make l  dC dI H.size h0 th q1 q3 q4 q5 q6 q7 q8 c1 c3 c4 c5 c6 c7 c8 a1 a3 a4 a5 a6 a7 a8 (.ref q2) (.ref q9) (.ref q10) (.ref q11) (.ref q12) (.ref q13) (.ref q14) (.ref q15) (.ref q16) (xs ((5 * k) + 1)) (xs ((5 * k) + 2)) (xs ((5 * k) + 3))) (cwV 3 hts gP_law_X8_make rfl rfl rfl (by decide +kernel) ⟨(Nat.le_of_ble_eq_true rfl), (Nat.le_of_ble_eq_true rfl)⟩) ⟨pk_blind, va_recv hKc hPc (ci := 8) (q0 := 0) rfl rfl, pk_call hPc hKc hDc⟩ rfl rfl hl.1 rfl (lv_room (Nat.le_of_ble_eq_true rfl)) dL_law_128 ⟨(show kw + 0 ≤ 601024 by omega), (show nw + 0 ≤ 7293034 by omega)⟩) hS (fun q _ h => hFc q h) hFc (fun r_7 ur_7 t H1 locs ht hvm hw hB hz1 hk1 hS => ?_)
  try dsimp only at hw
  have jr_7 := hw
  have hI := aI_kept hI (fun q z1 z2 => hk1 q z1 (na2 (oz_sub (ws := [(h0, .inr (8, [.int th, .ref q1, .ref q2, .ref q3, .ref q4, .ref q5, .ref q6, .ref q7, .ref q8, .ref q9, .ref q10, .ref q11, .ref q12, .ref q13, .ref q14, .ref q15, .ref q16])), (q1, .inl (c1, 16, .inl a1)), (q3, .inl (c3, 16, .inl a3)), (q4, .inl (c4, 16, .inl a4)), (q5, .inl (c5, 16, .inl a5)), (q6, .inl (c6, 16, .inl a6)), (q7, .inl (c7, 16, .inl a7)), (q8, .inl (c8, 16, .inl a8))]) hoz [0, 1, 3, 4, 5, 6, 7, 8] rfl) z1 (Or.inl z2)))
  have hPo : va_P (dC, dI) vwCl [(qo, .inl (co, 1, .inr (.inl f1)))] H1 := P_kept hPo (List.forall_mem_cons.mpr ⟨(fun (z : qo < _) => hk1 qo z (na2 (oz_sub (ws := [(h0, .inr (8, [.int th, .ref q1, .ref q2, .ref q3, .ref q4, .ref q5, .ref q6, .ref q7, .ref q8, .ref q9, .ref q10, .ref q11, .ref q12, .ref q13, .ref q14, .ref q15, .ref q16])), (q1, .inl (c1, 16, .inl a1)), (q3, .inl (c3, 16, .inl a3)), (q4, .inl (c4, 16, .inl a4)), (q5, .inl (c5, 16, .inl a5)), (q6, .inl (c6, 16, .inl a6)), (q7, .inl (c7, 16, .inl a7)), (q8, .inl (c8, 16, .inl a8))]) hoz [0, 1, 3, 4, 5, 6, 7, 8] rfl) z (Or.inr rfl))), fun _ h => absurd h List.not_mem_nil⟩)
  obtain ⟨hP1, hK1, hD1⟩ := hB
  rw [ht] at hP1
  have hK1 := va_K.moved hvm.symm hK1
  obtain ⟨hP, hD⟩ := va_join (wr := [(q2, .inl (c2, 67200, .inl a2)), (q9, .inl (c9, 16, .inl a9)), (q10, .inl (c10, 16, .inl a10)), (q11, .inl (c11, 16, .inl a11)), (q12, .inl (c12, 16, .inl a12)), (q13, .inl (c13, 1000, .inl a13)), (q14, .inl (c14, 1000, .inl a14)), (q15, .inl (c15, 4096, .inl a15)), (q16, .inl (c16, 16, .inl a16))]) (w1 := [(h0, .inr (8, [.int ur_7.1, .ref q1, .ref q2, .ref q3, .ref q4, .ref q5, .ref q6, .ref q7, .ref q8, .ref q9, .ref q10, .ref q11, .ref q12, .ref q13, .ref q14, .ref q15, .ref q16])), (q1, .inl (c1, 16, .inl ur_7.2.1)), (q3, .inl (c3, 16, .inl ur_7.2.2.1)), (q4, .inl (c4, 16, .inl ur_7.2.2.2.1)), (q5, .inl (c5, 16, .inl ur_7.2.2.2.2.1)), (q6, .inl (c6, 16, .inl ur_7.2.2.2.2.2.1)), (q7, .inl (c7, 16, .inl ur_7.2.2.2.2.2.2.1)), (q8, .inl (c8, 16, .inl ur_7.2.2.2.2.2.2.2))]) hP hD [0, 1, 3, 4, 5, 6, 7, 8] [2, 9, 10, 11, 12, 13, 14, 15, 16] rfl rfl (by decide) (by decide) hk1 hFc hP1 hD1
  clear hk1 hz1 ht hPc hDc hKc hFc
  generalize H1 = H at hP hS hI hPo ⊢
  replace hP : va_P (dC, dI) vwCl [(q2, .inl (c2, 67200, .inl a2)), (q9, .inl (c9, 16, .inl a9)), (q10, .inl (c10, 16, .inl a10)), (q11, .inl (c11, 16, .inl a11)), (q12, .inl (c12, 16, .inl a12)), (q13, .inl (c13, 1000, .inl a13)), (q14, .inl (c14, 1000, .inl a14)), (q15, .inl (c15, 4096, .inl a15)), (q16, .inl (c16, 16, .inl a16)), (h0, .inr (8, [.int ur_7.1, .ref q1, .ref q2, .ref q3, .ref q4, .ref q5, .ref q6, .ref q7, .ref q8, .ref q9, .ref q10, .ref q11, .ref q12, .ref q13, .ref q14, .ref q15, .ref q16])), (q1, .inl (c1, 16, .inl ur_7.2.1)), (q3, .inl (c3, 16, .inl ur_7.2.2.1)), (q4, .inl (c4, 16, .inl ur_7.2.2.2.1)), (q5, .inl (c5, 16, .inl ur_7.2.2.2.2.1)), (q6, .inl (c6, 16, .inl ur_7.2.2.2.2.2.1)), (q7, .inl (c7, 16, .inl ur_7.2.2.2.2.2.2.1)), (q8, .inl (c8, 16, .inl ur_7.2.2.2.2.2.2.2))] H := hP
  replace hD : va_D A [(q2, .inl (c2, 67200, .inl a2)), (q9, .inl (c9, 16, .inl a9)), (q10, .inl (c10, 16, .inl a10)), (q11, .inl (c11, 16, .inl a11)), (q12, .inl (c12, 16, .inl a12)), (q13, .inl (c13, 1000, .inl a13)), (q14, .inl (c14, 1000, .inl a14)), (q15, .inl (c15, 4096, .inl a15)), (q16, .inl (c16, 16, .inl a16)), (h0, .inr (8, [.int ur_7.1, .ref q1, .ref q2, .ref q3, .ref q4, .ref q5, .ref q6, .ref q7, .ref q8, .ref q9, .ref q10, .ref q11, .ref q12, .ref q13, .ref q14, .ref q15, .ref q16])), (q1, .inl (c1, 16, .inl ur_7.2.1)), (q3, .inl (c3, 16, .inl ur_7.2.2.1)), (q4, .inl (c4, 16, .inl ur_7.2.2.2.1)), (q5, .inl (c5, 16, .inl ur_7.2.2.2.2.1)), (q6, .inl (c6, 16, .inl ur_7.2.2.2.2.2.1)), (q7, .inl (c7, 16, .inl ur_7.2.2.2.2.2.2.1)), (q8, .inl (c8, 16, .inl ur_7.2.2.2.2.2.2.2))] := hD
  refine W.widen (k := kw) (n := nw) (by omega) (by omega) ?_
  refine W.eq (g2 := F0 m 131 ls [.int r_7]) rfl ?_
  obtain ⟨eth, efo, e1, e4, e8, e11, hR⟩ := fin_make hR (by omega) hwc jr_7
  refine lv_istore (lv' := [(6, .int r_7), (5, .int kc), (0, .ref b), (1, .ref x), (2, .ref h0), (3, .ref qo), (4, .int (nI (5 * k)))]) hx hb dL_law_131 hl (by decide) rfl (fun ls hl => ?_)
  refine lv_goto (tgt := 480) hx hb dL_law_133 (by decide) ?_
  rw [e1, e4, e8, e11] at hI
  refine W.book (fun hz9 hn9 => ?_)
  refine W.widen (k := (2000 + 150 * (k + 1))) (n := (100000 + 12700 * (k + 1))) (by omega) (by omega) ?_
  have hR9 : RInv (2000 * (k + 1)) ur_7.2.1 a2 ur_7.2.2.1 ur_7.2.2.2.1 ur_7.2.2.2.2.2.1 ur_7.2.2.2.2.2.2.1 ur_7.2.2.2.2.2.2.2 a9 a10 a11 a12 := hR
  exact hnext H locs ls ⟨qb, cq, bq1, ow1, rx1, cr1, co, f1, ur_7.1, q1, q2, q3, q4, q5, q6, q7, q8, q9, q10, q11, q12, q13, q14, q15, q16, c1, c2, c3, c4, c5, c6, c7, c8, c9, c10, c11, c12, c13, c14, c15, c16, ur_7.2.1, a2, ur_7.2.2.1, ur_7.2.2.2.1, ur_7.2.2.2.2.1, ur_7.2.2.2.2.2.1, ur_7.2.2.2.2.2.2.1, ur_7.2.2.2.2.2.2.2, a9, a10, a11, a12, a13, a14, a15, a16, hP.sub (ws' := [(h0, .inr (8, [.int ur_7.1, .ref q1, .ref q2, .ref q3, .ref q4, .ref q5, .ref q6, .ref q7, .ref q8, .ref q9, .ref q10, .ref q11, .ref q12, .ref q13, .ref q14, .ref q15, .ref q16])), (q1, .inl (c1, 16, .inl ur_7.2.1)), (q2, .inl (c2, 67200, .inl a2)), (q3, .inl (c3, 16, .inl ur_7.2.2.1)), (q4, .inl (c4, 16, .inl ur_7.2.2.2.1)), (q5, .inl (c5, 16, .inl ur_7.2.2.2.2.1)), (q6, .inl (c6, 16, .inl ur_7.2.2.2.2.2.1)), (q7, .inl (c7, 16, .inl ur_7.2.2.2.2.2.2.1)), (q8, .inl (c8, 16, .inl ur_7.2.2.2.2.2.2.2)), (q9, .inl (c9, 16, .inl a9)), (q10, .inl (c10, 16, .inl a10)), (q11, .inl (c11, 16, .inl a11)), (q12, .inl (c12, 16, .inl a12)), (q13, .inl (c13, 1000, .inl a13)), (q14, .inl (c14, 1000, .inl a14)), (q15, .inl (c15, 4096, .inl a15)), (q16, .inl (c16, 16, .inl a16))]) [9, 10, 0, 11, 12, 13, 14, 15, 16, 1, 2, 3, 4, 5, 6, 7, 8] rfl, hK.sub (tys' := [(c1, .int), (c2, .int), (c3, .int), (c4, .int), (c5, .int), (c6, .int), (c7, .int), (c8, .int), (c9, .int), (c10, .int), (c11, .int), (c12, .int), (c13, .int), (c14, .int), (c15, .boolean), (c16, .boolean)]) [0, 1, 2, 3, 4, 5, 6, 7, 8, 9, 10, 11, 12, 13, 14, 15] rfl, hD.sub (ws' := [(h0, .inr (8, [.int ur_7.1, .ref q1, .ref q2, .ref q3, .ref q4, .ref q5, .ref q6, .ref q7, .ref q8, .ref q9, .ref q10, .ref q11, .ref q12, .ref q13, .ref q14, .ref q15, .ref q16])), (q1, .inl (c1, 16, .inl ur_7.2.1)), (q2, .inl (c2, 67200, .inl a2)), (q3, .inl (c3, 16, .inl ur_7.2.2.1)), (q4, .inl (c4, 16, .inl ur_7.2.2.2.1)), (q5, .inl (c5, 16, .inl ur_7.2.2.2.2.1)), (q6, .inl (c6, 16, .inl ur_7.2.2.2.2.2.1)), (q7, .inl (c7, 16, .inl ur_7.2.2.2.2.2.2.1)), (q8, .inl (c8, 16, .inl ur_7.2.2.2.2.2.2.2)), (q9, .inl (c9, 16, .inl a9)), (q10, .inl (c10, 16, .inl a10)), (q11, .inl (c11, 16, .inl a11)), (q12, .inl (c12, 16, .inl a12)), (q13, .inl (c13, 1000, .inl a13)), (q14, .inl (c14, 1000, .inl a14)), (q15, .inl (c15, 4096, .inl a15)), (q16, .inl (c16, 16, .inl a16))]) [9, 10, 0, 11, 12, 13, 14, 15, 16, 1, 2, 3, 4, 5, 6, 7, 8] (by decide) rfl, hPo, hKo, hAo, hoq, hI, hoz, hlo, hR9, by omega, by omega⟩ hS (lv_sub hl [2, 3, 4, 5, 6] rfl)
set_option maxHeartbeats 4000000 in
set_option maxRecDepth 100000 in
/-- the law: a call of drop -/
theorem law_drop {p : Program} {e : Env} {s : State} {m : MethodId} {below : List Frame} {meth : Method} {c : Code} (l : Launch) (hlt : l.stackTraces = false) {b L : Nat} {xs : Nat → Int32} (hL : L ≤ 2560) (C0 : lw_At p s m meth c b L xs) (dC : Nat → ClassId) (dI : Nat → Nat → Nat) (hN : p_N s) (hM : p_M s) (A : Nat → Prop) (hAe : A = (fun q : Nat => s.heap.size ≤ q)) (hZ : p_Z A s s.heap) {x h0 qo k : Nat} {H : Heap} {locs : List Loc} {ls : Array Slot} (hk : 5 * k + 5 ≤ L) (J : lawI (dC, dI) s A x h0 qo k H) (hS : va_S A s.heap H locs) (hl : lv_has ls 8 [(0, .ref b), (1, .ref x), (2, .ref h0), (3, .ref qo), (4, .int (nI (5 * k)))]) (hnext : ∀ (H1 : Heap) (locs1 : List Loc) (ls1 : Array Slot), lawI (dC, dI) s A x h0 qo (k + 1) H1 → va_S A s.heap H1 locs1 → lv_has ls1 8 [(0, .ref b), (1, .ref x), (2, .ref h0), (3, .ref qo), (4, .int (nI (5 * k)))] → W p l e room_1 s m #[Value.ref b] below meth c H1 locs1 (2000 + 150 * (k + 1)) (100000 + 12700 * (k + 1)) (lw_Z below #[Value.ref b] s) (F0 m 480 ls1 [])) : W p l e room_1 s m #[Value.ref b] below meth c H locs (2000 + 150 * k) (100000 + 12700 * k) (lw_Z below #[Value.ref b] s) (F0 m 136 ls []) := by
  obtain ⟨hx, hb, hr, hml, hown, hts, hX, hbl, hlocks, hgv⟩ := id C0
  have hown : s.vm.findClass RL = some m.cls := hown
  have hts := lwx_hts hts
  have hA : ∀ q : Nat, s.heap.size ≤ q → A q := fun q h => by rw [hAe]; exact h
  have hbA : ¬ A b := by rw [hAe]; exact Nat.not_le.mpr hbl
  obtain ⟨qb, cq, bq, ow, rx, cr, co, f0, th, q1, q2, q3, q4, q5, q6, q7, q8, q9, q10, q11, q12, q13, q14, q15, q16, c1, c2, c3, c4, c5, c6, c7, c8, c9, c10, c11, c12, c13, c14, c15, c16, a1, a2, a3, a4, a5, a6, a7, a8, a9, a10, a11, a12, a13, a14, a15, a16, hP, hK, hD, hPo, hKo, hAo, hoq, hI, hoz, hlo, hR, hTb, hSz⟩ := J
  obtain ⟨⟨dep, hF9, hda⟩, hr2, hMa, hB7, hCa⟩ := id hR
  refine lv_aload_n hx hb dL_law_136 rfl (lv_at hl 1 rfl) ?_
  refine lv_aload_n hx hb dL_law_137 rfl (lv_at hl 0 rfl) ?_
  refine lv_iload hx hb dL_law_138 (lv_at hl 4 rfl) ?_
  refine lv_iconst (v := 1) hx hb dL_law_140 (by decide) ?_
  refine lv_iadd hx hb dL_law_141 ?_
  refine lv_topi (fun z_1 ez_1 => ?_)
  obtain rfl : z_1 = nI ((5 * k) + 1) := ez_1.trans (by rw [show (1 : Int32) = nI 1 from rfl, nI_add])
  refine va_sld (i := nI ((5 * k) + 1)) hx hb hX hbl hbA hS (vp_in_nI (by omega) (by omega)) dL_law_142 ?_
  refine W.eq (g2 := F0 m 143 ls [.int (xs ((5 * k) + 1)), .ref x]) (by rw [nI_clamp (by omega)]) ?_
  refine lv_aload_n hx hb dL_law_143 rfl (lv_at hl 3 rfl) ?_
  have hAl := lA_A hAe hlo hS.1 hAo
  have hS0 := hS.1
  refine va_calli (vx_runSW (As := [.ref x, .int (xs ((5 * k) + 1)), .ref qo]) (rest := []) ⟨hx, hb, hml, hown, hts⟩ (c_L_drop l hlt dC dI H.size (hT H) ⟨dep, hF9, hda⟩ qo co f0 (xs ((5 * k) + 1))) (vx_cwSW 3 hts gP_law_L_drop rfl rfl rfl (by decide +kernel) ⟨(Nat.le_of_ble_eq_true rfl), (Nat.le_of_ble_eq_true rfl)⟩) ⟨lPre_blind, lPre_call hI hN hM (hZ.kept hS.2.1) hAl hPo hKo hoq⟩ rfl rfl hl.1 rfl (lv_room (Nat.le_of_ble_eq_true rfl)) dL_law_144 ⟨(show 2000 + 150 * k + 2 ≤ 601024 by omega), (show 100000 + 12700 * k + 22 ≤ 7293034 by omega)⟩) hS (fun q _ z => hAl q z) hAl (fun kc u9 t H1 locs ht hvm hw hB hz1 hk1 hS => ?_)
  obtain ⟨f1, bq1, ow1, rx1, cr1, b1, b4, b8, b11⟩ := u9
  obtain ⟨hI, hpos, hc1, hc2, hPo, hKo, hoq⟩ := hB
  dsimp only at hw hI hpos hc1 hc2 hPo hKo hoq
  rw [ht] at hI hc1 hc2 hPo
  have hI : ∀ b : Nat → Int32, dq a1 a8 (xs ((5 * k) + 1)) b → aI (dC, dI) s H1 x qb cq bq1 ow1 rx1 cr1 b a4 a8 a11 := fun bb hbb => aI_moved hvm.symm (hI bb hbb)
  have hKo := va_K.moved hvm.symm hKo
  have hwc := hw
  have hoz1 : ∀ q ∈ [h0, q1, q2, q3, q4, q5, q6, q7, q8, q9, q10, q11, q12, q13, q14, q15, q16], ow1 q = 0 ∧ q ≠ qo := oz_call hoz (P_lt hP rfl) hpos
  have hP : va_P (dC, dI) vwCl [(h0, .inr (8, [.int th, .ref q1, .ref q2, .ref q3, .ref q4, .ref q5, .ref q6, .ref q7, .ref q8, .ref q9, .ref q10, .ref q11, .ref q12, .ref q13, .ref q14, .ref q15, .ref q16])), (q1, .inl (c1, 16, .inl a1)), (q2, .inl (c2, 67200, .inl a2)), (q3, .inl (c3, 16, .inl a3)), (q4, .inl (c4, 16, .inl a4)), (q5, .inl (c5, 16, .inl a5)), (q6, .inl (c6, 16, .inl a6)), (q7, .inl (c7, 16, .inl a7)), (q8, .inl (c8, 16, .inl a8)), (q9, .inl (c9, 16, .inl a9)), (q10, .inl (c10, 16, .inl a10)), (q11, .inl (c11, 16, .inl a11)), (q12, .inl (c12, 16, .inl a12)), (q13, .inl (c13, 1000, .inl a13)), (q14, .inl (c14, 1000, .inl a14)), (q15, .inl (c15, 4096, .inl a15)), (q16, .inl (c16, 16, .inl a16))] H1 := P_law hP rfl hoz hk1
  have hlo : ∀ q : Nat, 0 < ow1 q → s.heap.size ≤ q := fun q z => (hpos q z).elim (hlo q) (fun z => Nat.le_trans hS0 z)
  replace hoz := hoz1
  refine W.book2 (fun hz8 hn8 hz7 hn7 => ?_)
  obtain ⟨kw, ekw⟩ : ∃ z : Nat, z = H1.size - s.heap.size := ⟨_, rfl⟩
  obtain ⟨nw, enw⟩ : ∃ z : Nat, z = hT H1 - hT s.heap := ⟨_, rfl⟩
  have hkw : kw ≤ 2000 + 150 * (k + 1) := by omega
  have hnw : nw + sumN cr1 16 ≤ 100000 + 12700 * (k + 1) := by omega
  refine W.tight (k := kw) (n := nw) (by omega) (by omega) ?_
  clear ekw enw hz8 hn8 hz7 hn7 hc1 hc2 hk1 hz1 ht hw hAl hS0 hTb hSz
  generalize H1 = H at hP hPo hI hS ⊢
  refine W.eq (g2 := F0 m 147 ls [.int kc]) rfl ?_
  refine lv_istore (lv' := [(5, .int kc), (0, .ref b), (1, .ref x), (2, .ref h0), (3, .ref qo), (4, .int (nI (5 * k)))]) hx hb dL_law_147 hl (by decide) rfl (fun ls hl => ?_)
  refine lv_aload_n hx hb dL_law_149 rfl (lv_at hl 3 rfl) ?_
  refine lv_aload_n hx hb dL_law_150 rfl (lv_at hl 1 rfl) ?_
  refine lv_iload hx hb dL_law_151 (lv_at hl 5 rfl) ?_
  refine lv_iconst (v := 1) hx hb dL_law_153 (by decide) ?_
  refine lv_iadd hx hb dL_law_154 ?_
  refine lv_topi (fun z_2 ez_2 => ?_)
  obtain rfl : z_2 = nI ((5 * k) + 1) := ez_2.trans (by rw [show (1 : Int32) = nI 1 from rfl, nI_add])
  refine va_sld (i := nI ((5 * k) + 1)) hx hb hX hbl hbA hS (vp_in_nI (by omega) (by omega)) dL_law_155 ?_
  refine W.eq (g2 := F0 m 156 ls [.int (xs ((5 * k) + 1)), .ref h0]) (by rw [nI_clamp (by omega)]) ?_
  have hPc := hP.sub (ws' := [(h0, .inr (8, [.int th, .ref q1, .ref q2, .ref q3, .ref q4, .ref q5, .ref q6, .ref q7, .ref q8, .ref q9, .ref q10, .ref q11, .ref q12, .ref q13, .ref q14, .ref q15, .ref q16])), (q1, .inl (c1, 16, .inl a1)), (q8, .inl (c8, 16, .inl a8)), (q16, .inl (c16, 16, .inl a16))]) [0, 1, 8, 16] rfl
  have hDc := hD.sub (ws' := [(h0, .inr (8, [.int th, .ref q1, .ref q2, .ref q3, .ref q4, .ref q5, .ref q6, .ref q7, .ref q8, .ref q9, .ref q10, .ref q11, .ref q12, .ref q13, .ref q14, .ref q15, .ref q16])), (q1, .inl (c1, 16, .inl a1)), (q8, .inl (c8, 16, .inl a8)), (q16, .inl (c16, 16, .inl a16))]) [0, 1, 8, 16] (by decide) rfl
  have hKc := hK.sub (tys' := [(c1, .int), (c8, .int), (c16, .boolean)]) [0, 7, 15] rfl
  have hFc := va_free (wc := [(h0, .inr (8, [.int th, .ref q1, .ref q2, .ref q3, .ref q4, .ref q5, .ref q6, .ref q7, .ref q8, .ref q9, .ref q10, .ref q11, .ref q12, .ref q13, .ref q14, .ref q15, .ref q16])), (q1, .inl (c1, 16, .inl a1)), (q8, .inl (c8, 16, .inl a8)), (q16, .inl (c16, 16, .inl a16))]) hD hS hA [0, 1, 8, 16] rfl
  refine va_calli (va_runV (As := [.int (xs ((5 * k) + 1))]) (rest := []) ⟨hx, hb, hml, hown, hts⟩ (c_X8_drop l  dC dI H.size h0 th q1 q8 q16 c1 c8 c16 a1 a8 a16 (.ref q2) (.ref q3) (.ref q4) (.ref q5) (.ref q6) (.ref q7) (.ref q9) (.ref q10) (.ref q11) (.ref q12) (.ref q13) (.ref q14) (.ref q15) dep (xs ((5 * k) + 1)) hF9 hda) (cwV 1 hts gP_law_X8_drop rfl rfl rfl (by decide +kernel) ⟨(Nat.le_of_ble_eq_true rfl), (Nat.le_of_ble_eq_true rfl)⟩) ⟨pk_blind, va_recv hKc hPc (ci := 8) (q0 := 0) rfl rfl, pk_call hPc hKc hDc⟩ rfl rfl hl.1 rfl (lv_room (Nat.le_of_ble_eq_true rfl)) dL_law_156 ⟨(show kw + 0 ≤ 601024 by omega), (show nw + 0 ≤ 7293034 by omega)⟩) hS (fun q _ h => hFc q h) hFc (fun r_3 ur_3 t H1 locs ht hvm hw hB hz1 hk1 hS => ?_)
  try dsimp only at hw
  have jr_3 := hw
  have hI : ∀ b : Nat → Int32, dq a1 a8 (xs ((5 * k) + 1)) b → aI (dC, dI) s H1 x qb cq bq1 ow1 rx1 cr1 b a4 a8 a11 := fun bb hbb => aI_kept (hI bb hbb) (fun q z1 z2 => hk1 q z1 (na2 (oz_sub (ws := [(h0, .inr (8, [.int th, .ref q1, .ref q2, .ref q3, .ref q4, .ref q5, .ref q6, .ref q7, .ref q8, .ref q9, .ref q10, .ref q11, .ref q12, .ref q13, .ref q14, .ref q15, .ref q16])), (q1, .inl (c1, 16, .inl a1)), (q8, .inl (c8, 16, .inl a8)), (q16, .inl (c16, 16, .inl a16))]) hoz [0, 1, 8, 16] rfl) z1 (Or.inl z2)))
  have hPo : va_P (dC, dI) vwCl [(qo, .inl (co, 1, .inr (.inl f1)))] H1 := P_kept hPo (List.forall_mem_cons.mpr ⟨(fun (z : qo < _) => hk1 qo z (na2 (oz_sub (ws := [(h0, .inr (8, [.int th, .ref q1, .ref q2, .ref q3, .ref q4, .ref q5, .ref q6, .ref q7, .ref q8, .ref q9, .ref q10, .ref q11, .ref q12, .ref q13, .ref q14, .ref q15, .ref q16])), (q1, .inl (c1, 16, .inl a1)), (q8, .inl (c8, 16, .inl a8)), (q16, .inl (c16, 16, .inl a16))]) hoz [0, 1, 8, 16] rfl) z (Or.inr rfl))), fun _ h => absurd h List.not_mem_nil⟩)
  obtain ⟨hP1, hK1, hD1⟩ := hB
  rw [ht] at hP1
  have hK1 := va_K.moved hvm.symm hK1
  obtain ⟨hP, hD⟩ := va_join (wr := [(q2, .inl (c2, 67200, .inl a2)), (q3, .inl (c3, 16, .inl a3)), (q4, .inl (c4, 16, .inl a4)), (q5, .inl (c5, 16, .inl a5)), (q6, .inl (c6, 16, .inl a6)), (q7, .inl (c7, 16, .inl a7)), (q9, .inl (c9, 16, .inl a9)), (q10, .inl (c10, 16, .inl a10)), (q11, .inl (c11, 16, .inl a11)), (q12, .inl (c12, 16, .inl a12)), (q13, .inl (c13, 1000, .inl a13)), (q14, .inl (c14, 1000, .inl a14)), (q15, .inl (c15, 4096, .inl a15))]) (w1 := [(h0, .inr (8, [.int ur_3.1, .ref q1, .ref q2, .ref q3, .ref q4, .ref q5, .ref q6, .ref q7, .ref q8, .ref q9, .ref q10, .ref q11, .ref q12, .ref q13, .ref q14, .ref q15, .ref q16])), (q1, .inl (c1, 16, .inl ur_3.2.1)), (q8, .inl (c8, 16, .inl a8)), (q16, .inl (c16, 16, .inl ur_3.2.2))]) hP hD [0, 1, 8, 16] [2, 3, 4, 5, 6, 7, 9, 10, 11, 12, 13, 14, 15] rfl rfl (by decide) (by decide) hk1 hFc hP1 hD1
  clear hk1 hz1 ht hPc hDc hKc hFc
  generalize H1 = H at hP hS hI hPo ⊢
  replace hP : va_P (dC, dI) vwCl [(q2, .inl (c2, 67200, .inl a2)), (q3, .inl (c3, 16, .inl a3)), (q4, .inl (c4, 16, .inl a4)), (q5, .inl (c5, 16, .inl a5)), (q6, .inl (c6, 16, .inl a6)), (q7, .inl (c7, 16, .inl a7)), (q9, .inl (c9, 16, .inl a9)), (q10, .inl (c10, 16, .inl a10)), (q11, .inl (c11, 16, .inl a11)), (q12, .inl (c12, 16, .inl a12)), (q13, .inl (c13, 1000, .inl a13)), (q14, .inl (c14, 1000, .inl a14)), (q15, .inl (c15, 4096, .inl a15)), (h0, .inr (8, [.int ur_3.1, .ref q1, .ref q2, .ref q3, .ref q4, .ref q5, .ref q6, .ref q7, .ref q8, .ref q9, .ref q10, .ref q11, .ref q12, .ref q13, .ref q14, .ref q15, .ref q16])), (q1, .inl (c1, 16, .inl ur_3.2.1)), (q8, .inl (c8, 16, .inl a8)), (q16, .inl (c16, 16, .inl ur_3.2.2))] H := hP
  replace hD : va_D A [(q2, .inl (c2, 67200, .inl a2)), (q3, .inl (c3, 16, .inl a3)), (q4, .inl (c4, 16, .inl a4)), (q5, .inl (c5, 16, .inl a5)), (q6, .inl (c6, 16, .inl a6)), (q7, .inl (c7, 16, .inl a7)), (q9, .inl (c9, 16, .inl a9)), (q10, .inl (c10, 16, .inl a10)), (q11, .inl (c11, 16, .inl a11)), (q12, .inl (c12, 16, .inl a12)), (q13, .inl (c13, 1000, .inl a13)), (q14, .inl (c14, 1000, .inl a14)), (q15, .inl (c15, 4096, .inl a15)), (h0, .inr (8, [.int ur_3.1, .ref q1, .ref q2, .ref q3, .ref q4, .ref q5, .ref q6, .ref q7, .ref q8, .ref q9, .ref q10, .ref q11, .ref q12, .ref q13, .ref q14, .ref q15, .ref q16])), (q1, .inl (c1, 16, .inl ur_3.2.1)), (q8, .inl (c8, 16, .inl a8)), (q16, .inl (c16, 16, .inl ur_3.2.2))] := hD
  refine W.widen (k := kw) (n := nw) (by omega) (by omega) ?_
  refine W.eq (g2 := F0 m 159 ls [.int r_3]) rfl ?_
  obtain ⟨eth, efo, hd9, hR⟩ := fin_drop hR hwc jr_3
  refine lv_istore (lv' := [(6, .int r_3), (5, .int kc), (0, .ref b), (1, .ref x), (2, .ref h0), (3, .ref qo), (4, .int (nI (5 * k)))]) hx hb dL_law_159 hl (by decide) rfl (fun ls hl => ?_)
  refine lv_goto (tgt := 480) hx hb dL_law_161 (by decide) ?_
  have hI := hI _ hd9
  refine W.book (fun hz9 hn9 => ?_)
  refine W.widen (k := (2000 + 150 * (k + 1))) (n := (100000 + 12700 * (k + 1))) (by omega) (by omega) ?_
  have hR9 : RInv (2000 * (k + 1)) ur_3.2.1 a2 a3 a4 a6 a7 a8 a9 a10 a11 a12 := hR
  exact hnext H locs ls ⟨qb, cq, bq1, ow1, rx1, cr1, co, f1, ur_3.1, q1, q2, q3, q4, q5, q6, q7, q8, q9, q10, q11, q12, q13, q14, q15, q16, c1, c2, c3, c4, c5, c6, c7, c8, c9, c10, c11, c12, c13, c14, c15, c16, ur_3.2.1, a2, a3, a4, a5, a6, a7, a8, a9, a10, a11, a12, a13, a14, a15, ur_3.2.2, hP.sub (ws' := [(h0, .inr (8, [.int ur_3.1, .ref q1, .ref q2, .ref q3, .ref q4, .ref q5, .ref q6, .ref q7, .ref q8, .ref q9, .ref q10, .ref q11, .ref q12, .ref q13, .ref q14, .ref q15, .ref q16])), (q1, .inl (c1, 16, .inl ur_3.2.1)), (q2, .inl (c2, 67200, .inl a2)), (q3, .inl (c3, 16, .inl a3)), (q4, .inl (c4, 16, .inl a4)), (q5, .inl (c5, 16, .inl a5)), (q6, .inl (c6, 16, .inl a6)), (q7, .inl (c7, 16, .inl a7)), (q8, .inl (c8, 16, .inl a8)), (q9, .inl (c9, 16, .inl a9)), (q10, .inl (c10, 16, .inl a10)), (q11, .inl (c11, 16, .inl a11)), (q12, .inl (c12, 16, .inl a12)), (q13, .inl (c13, 1000, .inl a13)), (q14, .inl (c14, 1000, .inl a14)), (q15, .inl (c15, 4096, .inl a15)), (q16, .inl (c16, 16, .inl ur_3.2.2))]) [13, 14, 0, 1, 2, 3, 4, 5, 15, 6, 7, 8, 9, 10, 11, 12, 16] rfl, hK.sub (tys' := [(c1, .int), (c2, .int), (c3, .int), (c4, .int), (c5, .int), (c6, .int), (c7, .int), (c8, .int), (c9, .int), (c10, .int), (c11, .int), (c12, .int), (c13, .int), (c14, .int), (c15, .boolean), (c16, .boolean)]) [0, 1, 2, 3, 4, 5, 6, 7, 8, 9, 10, 11, 12, 13, 14, 15] rfl, hD.sub (ws' := [(h0, .inr (8, [.int ur_3.1, .ref q1, .ref q2, .ref q3, .ref q4, .ref q5, .ref q6, .ref q7, .ref q8, .ref q9, .ref q10, .ref q11, .ref q12, .ref q13, .ref q14, .ref q15, .ref q16])), (q1, .inl (c1, 16, .inl ur_3.2.1)), (q2, .inl (c2, 67200, .inl a2)), (q3, .inl (c3, 16, .inl a3)), (q4, .inl (c4, 16, .inl a4)), (q5, .inl (c5, 16, .inl a5)), (q6, .inl (c6, 16, .inl a6)), (q7, .inl (c7, 16, .inl a7)), (q8, .inl (c8, 16, .inl a8)), (q9, .inl (c9, 16, .inl a9)), (q10, .inl (c10, 16, .inl a10)), (q11, .inl (c11, 16, .inl a11)), (q12, .inl (c12, 16, .inl a12)), (q13, .inl (c13, 1000, .inl a13)), (q14, .inl (c14, 1000, .inl a14)), (q15, .inl (c15, 4096, .inl a15)), (q16, .inl (c16, 16, .inl ur_3.2.2))]) [13, 14, 0, 1, 2, 3, 4, 5, 15, 6, 7, 8, 9, 10, 11, 12, 16] (by decide) rfl, hPo, hKo, hAo, hoq, hI, hoz, hlo, hR9, by omega, by omega⟩ hS (lv_sub hl [2, 3, 4, 5, 6] rfl)
set_option maxHeartbeats 4000000 in
set_option maxRecDepth 100000 in
/-- the law: a call of map -/
theorem law_map {p : Program} {e : Env} {s : State} {m : MethodId} {below : List Frame} {meth : Method} {c : Code} (l : Launch) (hlt : l.stackTraces = false) {b L : Nat} {xs : Nat → Int32} (hL : L ≤ 2560) (C0 : lw_At p s m meth c b L xs) (dC : Nat → ClassId) (dI : Nat → Nat → Nat) (hN : p_N s) (hM : p_M s) (A : Nat → Prop) (hAe : A = (fun q : Nat => s.heap.size ≤ q)) (hZ : p_Z A s s.heap) {x h0 qo k : Nat} {H : Heap} {locs : List Loc} {ls : Array Slot} (hk : 5 * k + 5 ≤ L) (J : lawI (dC, dI) s A x h0 qo k H) (hS : va_S A s.heap H locs) (hl : lv_has ls 8 [(0, .ref b), (1, .ref x), (2, .ref h0), (3, .ref qo), (4, .int (nI (5 * k)))]) (hnext : ∀ (H1 : Heap) (locs1 : List Loc) (ls1 : Array Slot), lawI (dC, dI) s A x h0 qo (k + 1) H1 → va_S A s.heap H1 locs1 → lv_has ls1 8 [(0, .ref b), (1, .ref x), (2, .ref h0), (3, .ref qo), (4, .int (nI (5 * k)))] → W p l e room_1 s m #[Value.ref b] below meth c H1 locs1 (2000 + 150 * (k + 1)) (100000 + 12700 * (k + 1)) (lw_Z below #[Value.ref b] s) (F0 m 480 ls1 [])) : W p l e room_1 s m #[Value.ref b] below meth c H locs (2000 + 150 * k) (100000 + 12700 * k) (lw_Z below #[Value.ref b] s) (F0 m 164 ls []) := by
  obtain ⟨hx, hb, hr, hml, hown, hts, hX, hbl, hlocks, hgv⟩ := id C0
  have hown : s.vm.findClass RL = some m.cls := hown
  have hts := lwx_hts hts
  have hA : ∀ q : Nat, s.heap.size ≤ q → A q := fun q h => by rw [hAe]; exact h
  have hbA : ¬ A b := by rw [hAe]; exact Nat.not_le.mpr hbl
  obtain ⟨qb, cq, bq, ow, rx, cr, co, f0, th, q1, q2, q3, q4, q5, q6, q7, q8, q9, q10, q11, q12, q13, q14, q15, q16, c1, c2, c3, c4, c5, c6, c7, c8, c9, c10, c11, c12, c13, c14, c15, c16, a1, a2, a3, a4, a5, a6, a7, a8, a9, a10, a11, a12, a13, a14, a15, a16, hP, hK, hD, hPo, hKo, hAo, hoq, hI, hoz, hlo, hR, hTb, hSz⟩ := J
  obtain ⟨⟨dep, hF9, hda⟩, hr2, hMa, hB7, hCa⟩ := id hR
  refine lv_aload_n hx hb dL_law_164 rfl (lv_at hl 1 rfl) ?_
  refine lv_aload_n hx hb dL_law_165 rfl (lv_at hl 0 rfl) ?_
  refine lv_iload hx hb dL_law_166 (lv_at hl 4 rfl) ?_
  refine lv_iconst (v := 1) hx hb dL_law_168 (by decide) ?_
  refine lv_iadd hx hb dL_law_169 ?_
  refine lv_topi (fun z_1 ez_1 => ?_)
  obtain rfl : z_1 = nI ((5 * k) + 1) := ez_1.trans (by rw [show (1 : Int32) = nI 1 from rfl, nI_add])
  refine va_sld (i := nI ((5 * k) + 1)) hx hb hX hbl hbA hS (vp_in_nI (by omega) (by omega)) dL_law_170 ?_
  refine W.eq (g2 := F0 m 171 ls [.int (xs ((5 * k) + 1)), .ref x]) (by rw [nI_clamp (by omega)]) ?_
  refine lv_aload_n hx hb dL_law_171 rfl (lv_at hl 0 rfl) ?_
  refine lv_iload hx hb dL_law_172 (lv_at hl 4 rfl) ?_
  refine lv_iconst (v := 2) hx hb dL_law_174 (by decide) ?_
  refine lv_iadd hx hb dL_law_175 ?_
  refine lv_topi (fun z_2 ez_2 => ?_)
  obtain rfl : z_2 = nI ((5 * k) + 2) := ez_2.trans (by rw [show (2 : Int32) = nI 2 from rfl, nI_add])
  refine va_sld (i := nI ((5 * k) + 2)) hx hb hX hbl hbA hS (vp_in_nI (by omega) (by omega)) dL_law_176 ?_
  refine W.eq (g2 := F0 m 177 ls [.int (xs ((5 * k) + 2)), .int (xs ((5 * k) + 1)), .ref x]) (by rw [nI_clamp (by omega)]) ?_
  refine lv_aload_n hx hb dL_law_177 rfl (lv_at hl 0 rfl) ?_
  refine lv_iload hx hb dL_law_178 (lv_at hl 4 rfl) ?_
  refine lv_iconst (v := 3) hx hb dL_law_180 (by decide) ?_
  refine lv_iadd hx hb dL_law_181 ?_
  refine lv_topi (fun z_3 ez_3 => ?_)
  obtain rfl : z_3 = nI ((5 * k) + 3) := ez_3.trans (by rw [show (3 : Int32) = nI 3 from rfl, nI_add])
  refine va_sld (i := nI ((5 * k) + 3)) hx hb hX hbl hbA hS (vp_in_nI (by omega) (by omega)) dL_law_182 ?_
  refine W.eq (g2 := F0 m 183 ls [.int (xs ((5 * k) + 3)), .int (xs ((5 * k) + 2)), .int (xs ((5 * k) + 1)), .ref x]) (by rw [nI_clamp (by omega)]) ?_
  refine lv_aload_n hx hb dL_law_183 rfl (lv_at hl 0 rfl) ?_
  refine lv_iload hx hb dL_law_184 (lv_at hl 4 rfl) ?_
  refine lv_iconst (v := 4) hx hb dL_law_186 (by decide) ?_
  refine lv_iadd hx hb dL_law_187 ?_
  refine lv_topi (fun z_4 ez_4 => ?_)
  obtain rfl : z_4 = nI ((5 * k) + 4) := ez_4.trans (by rw [show (4 : Int32) = nI 4 from rfl, nI_add])
  refine va_sld (i := nI ((5 * k) + 4)) hx hb hX hbl hbA hS (vp_in_nI (by omega) (by omega)) dL_law_188 ?_
  refine W.eq (g2 := F0 m 189 ls [.int (xs ((5 * k) + 4)), .int (xs ((5 * k) + 3)), .int (xs ((5 * k) + 2)), .int (xs ((5 * k) + 1)), .ref x]) (by rw [nI_clamp (by omega)]) ?_
  refine lv_aload_n hx hb dL_law_189 rfl (lv_at hl 3 rfl) ?_
  have hAl := lA_A hAe hlo hS.1 hAo
  have hS0 := hS.1
  refine va_calli (vx_runSW (As := [.ref x, .int (xs ((5 * k) + 1)), .int (xs ((5 * k) + 2)), .int (xs ((5 * k) + 3)), .int (xs ((5 * k) + 4)), .ref qo]) (rest := []) ⟨hx, hb, hml, hown, hts⟩ (c_L_map l hlt dC dI H.size (hT H) ⟨dep, hF9, hda⟩ qo co f0 (xs ((5 * k) + 1)) (xs ((5 * k) + 2)) (xs ((5 * k) + 3)) (xs ((5 * k) + 4))) (vx_cwSW 6 hts gP_law_L_map rfl rfl rfl (by decide +kernel) ⟨(Nat.le_of_ble_eq_true rfl), (Nat.le_of_ble_eq_true rfl)⟩) ⟨lPre_blind, lPre_call hI hN hM (hZ.kept hS.2.1) hAl hPo hKo hoq⟩ rfl rfl hl.1 rfl (lv_room (Nat.le_of_ble_eq_true rfl)) dL_law_190 ⟨(show 2000 + 150 * k + 130 ≤ 601024 by omega), (show 100000 + 12700 * k + 53000 ≤ 7293034 by omega)⟩) hS (fun q _ z => hAl q z) hAl (fun kc u9 t H1 locs ht hvm hw hB hz1 hk1 hS => ?_)
  obtain ⟨f1, bq1, ow1, rx1, cr1, b1, b4, b8, b11⟩ := u9
  obtain ⟨⟨hI, hpos, hc1, hc2⟩, hPo, hKo, hoq⟩ := hB
  dsimp only at hw hI hpos hc1 hc2 hPo hKo hoq
  rw [ht] at hI hc1 hc2 hPo
  have hI : aI (dC, dI) s H1 x qb cq bq1 ow1 rx1 cr1 b1 b4 b8 b11 := aI_moved hvm.symm hI
  have hKo := va_K.moved hvm.symm hKo
  have hwc := hw
  have hoz1 : ∀ q ∈ [h0, q1, q2, q3, q4, q5, q6, q7, q8, q9, q10, q11, q12, q13, q14, q15, q16], ow1 q = 0 ∧ q ≠ qo := oz_call hoz (P_lt hP rfl) hpos
  have hP : va_P (dC, dI) vwCl [(h0, .inr (8, [.int th, .ref q1, .ref q2, .ref q3, .ref q4, .ref q5, .ref q6, .ref q7, .ref q8, .ref q9, .ref q10, .ref q11, .ref q12, .ref q13, .ref q14, .ref q15, .ref q16])), (q1, .inl (c1, 16, .inl a1)), (q2, .inl (c2, 67200, .inl a2)), (q3, .inl (c3, 16, .inl a3)), (q4, .inl (c4, 16, .inl a4)), (q5, .inl (c5, 16, .inl a5)), (q6, .inl (c6, 16, .inl a6)), (q7, .inl (c7, 16, .inl a7)), (q8, .inl (c8, 16, .inl a8)), (q9, .inl (c9, 16, .inl a9)), (q10, .inl (c10, 16, .inl a10)), (q11, .inl (c11, 16, .inl a11)), (q12, .inl (c12, 16, .inl a12)), (q13, .inl (c13, 1000, .inl a13)), (q14, .inl (c14, 1000, .inl a14)), (q15, .inl (c15, 4096, .inl a15)), (q16, .inl (c16, 16, .inl a16))] H1 := P_law hP rfl hoz hk1
  have hlo : ∀ q : Nat, 0 < ow1 q → s.heap.size ≤ q := fun q z => (hpos q z).elim (hlo q) (fun z => Nat.le_trans hS0 z)
  replace hoz := hoz1
  refine W.book2 (fun hz8 hn8 hz7 hn7 => ?_)
  obtain ⟨kw, ekw⟩ : ∃ z : Nat, z = H1.size - s.heap.size := ⟨_, rfl⟩
  obtain ⟨nw, enw⟩ : ∃ z : Nat, z = hT H1 - hT s.heap := ⟨_, rfl⟩
  have hkw : kw ≤ 2000 + 150 * (k + 1) := by omega
  have hnw : nw + sumN cr1 16 ≤ 100000 + 12700 * (k + 1) := by omega
  refine W.tight (k := kw) (n := nw) (by omega) (by omega) ?_
  clear ekw enw hz8 hn8 hz7 hn7 hc1 hc2 hk1 hz1 ht hw hAl hS0 hTb hSz
  generalize H1 = H at hP hPo hI hS ⊢
  refine W.eq (g2 := F0 m 193 ls [.int kc]) rfl ?_
  refine lv_istore (lv' := [(5, .int kc), (0, .ref b), (1, .ref x), (2, .ref h0), (3, .ref qo), (4, .int (nI (5 * k)))]) hx hb dL_law_193 hl (by decide) rfl (fun ls hl => ?_)
  refine lv_aload_n hx hb dL_law_195 rfl (lv_at hl 3 rfl) ?_
  refine lv_aload_n hx hb dL_law_196 rfl (lv_at hl 1 rfl) ?_
  refine lv_iload hx hb dL_law_197 (lv_at hl 5 rfl) ?_
  refine lv_iconst (v := 1) hx hb dL_law_199 (by decide) ?_
  refine lv_iadd hx hb dL_law_200 ?_
  refine lv_topi (fun z_5 ez_5 => ?_)
  obtain rfl : z_5 = nI ((5 * k) + 1) := ez_5.trans (by rw [show (1 : Int32) = nI 1 from rfl, nI_add])
  refine va_sld (i := nI ((5 * k) + 1)) hx hb hX hbl hbA hS (vp_in_nI (by omega) (by omega)) dL_law_201 ?_
  refine W.eq (g2 := F0 m 202 ls [.int (xs ((5 * k) + 1)), .ref h0]) (by rw [nI_clamp (by omega)]) ?_
  refine lv_aload_n hx hb dL_law_202 rfl (lv_at hl 1 rfl) ?_
  refine lv_iload hx hb dL_law_203 (lv_at hl 5 rfl) ?_
  refine lv_iconst (v := 2) hx hb dL_law_205 (by decide) ?_
  refine lv_iadd hx hb dL_law_206 ?_
  refine lv_topi (fun z_6 ez_6 => ?_)
  obtain rfl : z_6 = nI ((5 * k) + 2) := ez_6.trans (by rw [show (2 : Int32) = nI 2 from rfl, nI_add])
  refine va_sld (i := nI ((5 * k) + 2)) hx hb hX hbl hbA hS (vp_in_nI (by omega) (by omega)) dL_law_207 ?_
  refine W.eq (g2 := F0 m 208 ls [.int (xs ((5 * k) + 2)), .int (xs ((5 * k) + 1)), .ref h0]) (by rw [nI_clamp (by omega)]) ?_
  refine lv_aload_n hx hb dL_law_208 rfl (lv_at hl 1 rfl) ?_
  refine lv_iload hx hb dL_law_209 (lv_at hl 5 rfl) ?_
  refine lv_iconst (v := 3) hx hb dL_law_211 (by decide) ?_
  refine lv_iadd hx hb dL_law_212 ?_
  refine lv_topi (fun z_7 ez_7 => ?_)
  obtain rfl : z_7 = nI ((5 * k) + 3) := ez_7.trans (by rw [show (3 : Int32) = nI 3 from rfl, nI_add])
  refine va_sld (i := nI ((5 * k) + 3)) hx hb hX hbl hbA hS (vp_in_nI (by omega) (by omega)) dL_law_213 ?_
  refine W.eq (g2 := F0 m 214 ls [.int (xs ((5 * k) + 3)), .int (xs ((5 * k) + 2)), .int (xs ((5 * k) + 1)), .ref h0]) (by rw [nI_clamp (by omega)]) ?_
  refine lv_aload_n hx hb dL_law_214 rfl (lv_at hl 1 rfl) ?_
  refine lv_iload hx hb dL_law_215 (lv_at hl 5 rfl) ?_
  refine lv_iconst (v := 4) hx hb dL_law_217 (by decide) ?_
  refine lv_iadd hx hb dL_law_218 ?_
  refine lv_topi (fun z_8 ez_8 => ?_)
  obtain rfl : z_8 = nI ((5 * k) + 4) := ez_8.trans (by rw [show (4 : Int32) = nI 4 from rfl, nI_add])
  refine va_sld (i := nI ((5 * k) + 4)) hx hb hX hbl hbA hS (vp_in_nI (by omega) (by omega)) dL_law_219 ?_
  refine W.eq (g2 := F0 m 220 ls [.int (xs ((5 * k) + 4)), .int (xs ((5 * k) + 3)), .int (xs ((5 * k) + 2)), .int (xs ((5 * k) + 1)), .ref h0]) (by rw [nI_clamp (by omega)]) ?_
  have hPc := hP.sub (ws' := [(h0, .inr (8, [.int th, .ref q1, .ref q2, .ref q3, .ref q4, .ref q5, .ref q6, .ref q7, .ref q8, .ref q9, .ref q10, .ref q11, .ref q12, .ref q13, .ref q14, .ref q15, .ref q16])), (q1, .inl (c1, 16, .inl a1)), (q2, .inl (c2, 67200, .inl a2)), (q3, .inl (c3, 16, .inl a3)), (q4, .inl (c4, 16, .inl a4)), (q5, .inl (c5, 16, .inl a5)), (q6, .inl (c6, 16, .inl a6)), (q7, .inl (c7, 16, .inl a7)), (q8, .inl (c8, 16, .inl a8)), (q9, .inl (c9, 16, .inl a9)), (q10, .inl (c10, 16, .inl a10)), (q11, .inl (c11, 16, .inl a11)), (q13, .inl (c13, 1000, .inl a13)), (q14, .inl (c14, 1000, .inl a14)), (q15, .inl (c15, 4096, .inl a15))]) [0, 1, 2, 3, 4, 5, 6, 7, 8, 9, 10, 11, 13, 14, 15] rfl
  have hDc := hD.sub (ws' := [(h0, .inr (8, [.int th, .ref q1, .ref q2, .ref q3, .ref q4, .ref q5, .ref q6, .ref q7, .ref q8, .ref q9, .ref q10, .ref q11, .ref q12, .ref q13, .ref q14, .ref q15, .ref q16])), (q1, .inl (c1, 16, .inl a1)), (q2, .inl (c2, 67200, .inl a2)), (q3, .inl (c3, 16, .inl a3)), (q4, .inl (c4, 16, .inl a4)), (q5, .inl (c5, 16, .inl a5)), (q6, .inl (c6, 16, .inl a6)), (q7, .inl (c7, 16, .inl a7)), (q8, .inl (c8, 16, .inl a8)), (q9, .inl (c9, 16, .inl a9)), (q10, .inl (c10, 16, .inl a10)), (q11, .inl (c11, 16, .inl a11)), (q13, .inl (c13, 1000, .inl a13)), (q14, .inl (c14, 1000, .inl a14)), (q15, .inl (c15, 4096, .inl a15))]) [0, 1, 2, 3, 4, 5, 6, 7, 8, 9, 10, 11, 13, 14, 15] (by decide) rfl
  have hKc := hK.sub (tys' := [(c1, .int), (c2, .int), (c3, .int), (c4, .int), (c5, .int), (c6, .int), (c7, .int), (c8, .int), (c9, .int), (c10, .int), (c11, .int), (c13, .int), (c14, .int), (c15, .boolean)]) [0, 1, 2, 3, 4, 5, 6, 7, 8, 9, 10, 12, 13, 14] rfl
  have hFc := va_free (wc := [(h0, .inr (8, [.int th, .ref q1, .ref q2, .ref q3, .ref q4, .ref q5, .ref q6, .ref q7, .ref q8, .ref q9, .ref q10, .ref q11, .ref q12, .ref q13, .ref q14, .ref q15, .ref q16])), (q1, .inl (c1, 16, .inl a1)), (q2, .inl (c2, 67200, .inl a2)), (q3, .inl (c3, 16, .inl a3)), (q4, .inl (c4, 16, .inl a4)), (q5, .inl (c5, 16, .inl a5)), (q6, .inl (c6, 16, .inl a6)), (q7, .inl (c7, 16, .inl a7)), (q8, .inl (c8, 16, .inl a8)), (q9, .inl (c9, 16, .inl a9)), (q10, .inl (c10, 16, .inl a10)), (q11, .inl (c11, 16, .inl a11)), (q13, .inl (c13, 1000, .inl a13)), (q14, .inl (c14, 1000, .inl a14)), (q15, .inl (c15, 4096, .inl a15))]) hD hS hA [0, 1, 2, 3, 4, 5, 6, 7, 8, 9, 10, 11, 13, 14, 15] rfl
  refine va_calll (va_runV (As := [.int (xs ((5 * k) + 1)), .int (xs ((5 * k) + 2)), .int (xs ((5 * k) + 3)), .int (xs ((5 * k) + 4))]) (rest := []) ⟨hx, hb, hml, hown, hts⟩ (c_X8_map l  dC dI H.size h0 th q1 q2 q3 q4 q5 q6 q7 q8 q9 q10 q11 q13 q14 q15 c1 c2 c3 c4 c5 c6 c7 c8 c9 c10 c11 c13 c14 c15 a1 a2 a3 a4 a5 a6 a7 a8 a9 a10 a11 a13 a14 a15 (.ref q12) (.ref q16) dep (xs ((5 * k) + 1)) (xs ((5 * k) + 2)) (xs ((5 * k) + 3)) (xs ((5 * k) + 4)) hF9 hda hMa) (cwV 4 hts gP_law_X8_map rfl rfl rfl (by decide +kernel) ⟨(Nat.le_of_ble_eq_true rfl), (Nat.le_of_ble_eq_true rfl)⟩) ⟨pk_blind, va_recv hKc hPc (ci := 8) (q0 := 0) rfl rfl, pk_call hPc hKc hDc⟩ rfl rfl hl.1 rfl (lv_room (Nat.le_of_ble_eq_true rfl)) dL_law_220 ⟨(show kw + 0 ≤ 601024 by omega), (show nw + 0 ≤ 7293034 by omega)⟩) hS (fun q _ h => hFc q h) hFc (fun r_9 ur_9 t H1 locs ht hvm hw hB hz1 hk1 hS => ?_)
  try dsimp only at hw
  have jr_9 := hw
  have hI := aI_kept hI (fun q z1 z2 => hk1 q z1 (na2 (oz_sub (ws := [(h0, .inr (8, [.int th, .ref q1, .ref q2, .ref q3, .ref q4, .ref q5, .ref q6, .ref q7, .ref q8, .ref q9, .ref q10, .ref q11, .ref q12, .ref q13, .ref q14, .ref q15, .ref q16])), (q1, .inl (c1, 16, .inl a1)), (q2, .inl (c2, 67200, .inl a2)), (q3, .inl (c3, 16, .inl a3)), (q4, .inl (c4, 16, .inl a4)), (q5, .inl (c5, 16, .inl a5)), (q6, .inl (c6, 16, .inl a6)), (q7, .inl (c7, 16, .inl a7)), (q8, .inl (c8, 16, .inl a8)), (q9, .inl (c9, 16, .inl a9)), (q10, .inl (c10, 16, .inl a10)), (q11, .inl (c11, 16, .inl a11)), (q13, .inl (c13, 1000, .inl a13)), (q14, .inl (c14, 1000, .inl a14)), (q15, .inl (c15, 4096, .inl a15))]) hoz [0, 1, 2, 3, 4, 5, 6, 7, 8, 9, 10, 11, 13, 14, 15] rfl) z1 (Or.inl z2)))
  have hPo : va_P (dC, dI) vwCl [(qo, .inl (co, 1, .inr (.inl f1)))] H1 := P_kept hPo (List.forall_mem_cons.mpr ⟨(fun (z : qo < _) => hk1 qo z (na2 (oz_sub (ws := [(h0, .inr (8, [.int th, .ref q1, .ref q2, .ref q3, .ref q4, .ref q5, .ref q6, .ref q7, .ref q8, .ref q9, .ref q10, .ref q11, .ref q12, .ref q13, .ref q14, .ref q15, .ref q16])), (q1, .inl (c1, 16, .inl a1)), (q2, .inl (c2, 67200, .inl a2)), (q3, .inl (c3, 16, .inl a3)), (q4, .inl (c4, 16, .inl a4)), (q5, .inl (c5, 16, .inl a5)), (q6, .inl (c6, 16, .inl a6)), (q7, .inl (c7, 16, .inl a7)), (q8, .inl (c8, 16, .inl a8)), (q9, .inl (c9, 16, .inl a9)), (q10, .inl (c10, 16, .inl a10)), (q11, .inl (c11, 16, .inl a11)), (q13, .inl (c13, 1000, .inl a13)), (q14, .inl (c14, 1000, .inl a14)), (q15, .inl (c15, 4096, .inl a15))]) hoz [0, 1, 2, 3, 4, 5, 6, 7, 8, 9, 10, 11, 13, 14, 15] rfl) z (Or.inr rfl))), fun _ h => absurd h List.not_mem_nil⟩)
  obtain ⟨hP1, hK1, hD1⟩ := hB
  rw [ht] at hP1
  have hK1 := va_K.moved hvm.symm hK1
  obtain ⟨hP, hD⟩ := va_join (wr := [(q12, .inl (c12, 16, .inl a12)), (q16, .inl (c16, 16, .inl a16))]) (w1 := [(h0, .inr (8, [.int ur_9.1, .ref q1, .ref q2, .ref q3, .ref q4, .ref q5, .ref q6, .ref q7, .ref q8, .ref q9, .ref q10, .ref q11, .ref q12, .ref q13, .ref q14, .ref q15, .ref q16])), (q1, .inl (c1, 16, .inl a1)), (q2, .inl (c2, 67200, .inl ur_9.2.1)), (q3, .inl (c3, 16, .inl ur_9.2.2.1)), (q4, .inl (c4, 16, .inl a4)), (q5, .inl (c5, 16, .inl a5)), (q6, .inl (c6, 16, .inl ur_9.2.2.2.1)), (q7, .inl (c7, 16, .inl ur_9.2.2.2.2.1)), (q8, .inl (c8, 16, .inl a8)), (q9, .inl (c9, 16, .inl a9)), (q10, .inl (c10, 16, .inl a10)), (q11, .inl (c11, 16, .inl a11)), (q13, .inl (c13, 1000, .inl ur_9.2.2.2.2.2.1)), (q14, .inl (c14, 1000, .inl ur_9.2.2.2.2.2.2.1)), (q15, .inl (c15, 4096, .inl ur_9.2.2.2.2.2.2.2))]) hP hD [0, 1, 2, 3, 4, 5, 6, 7, 8, 9, 10, 11, 13, 14, 15] [12, 16] rfl rfl (by decide) (by decide) hk1 hFc hP1 hD1
  clear hk1 hz1 ht hPc hDc hKc hFc
  generalize H1 = H at hP hS hI hPo ⊢
  replace hP : va_P (dC, dI) vwCl [(q12, .inl (c12, 16, .inl a12)), (q16, .inl (c16, 16, .inl a16)), (h0, .inr (8, [.int ur_9.1, .ref q1, .ref q2, .ref q3, .ref q4, .ref q5, .ref q6, .ref q7, .ref q8, .ref q9, .ref q10, .ref q11, .ref q12, .ref q13, .ref q14, .ref q15, .ref q16])), (q1, .inl (c1, 16, .inl a1)), (q2, .inl (c2, 67200, .inl ur_9.2.1)), (q3, .inl (c3, 16, .inl ur_9.2.2.1)), (q4, .inl (c4, 16, .inl a4)), (q5, .inl (c5, 16, .inl a5)), (q6, .inl (c6, 16, .inl ur_9.2.2.2.1)), (q7, .inl (c7, 16, .inl ur_9.2.2.2.2.1)), (q8, .inl (c8, 16, .inl a8)), (q9, .inl (c9, 16, .inl a9)), (q10, .inl (c10, 16, .inl a10)), (q11, .inl (c11, 16, .inl a11)), (q13, .inl (c13, 1000, .inl ur_9.2.2.2.2.2.1)), (q14, .inl (c14, 1000, .inl ur_9.2.2.2.2.2.2.1)), (q15, .inl (c15, 4096, .inl ur_9.2.2.2.2.2.2.2))] H := hP
  replace hD : va_D A [(q12, .inl (c12, 16, .inl a12)), (q16, .inl (c16, 16, .inl a16)), (h0, .inr (8, [.int ur_9.1, .ref q1, .ref q2, .ref q3, .ref q4, .ref q5, .ref q6, .ref q7, .ref q8, .ref q9, .ref q10, .ref q11, .ref q12, .ref q13, .ref q14, .ref q15, .ref q16])), (q1, .inl (c1, 16, .inl a1)), (q2, .inl (c2, 67200, .inl ur_9.2.1)), (q3, .inl (c3, 16, .inl ur_9.2.2.1)), (q4, .inl (c4, 16, .inl a4)), (q5, .inl (c5, 16, .inl a5)), (q6, .inl (c6, 16, .inl ur_9.2.2.2.1)), (q7, .inl (c7, 16, .inl ur_9.2.2.2.2.1)), (q8, .inl (c8, 16, .inl a8)), (q9, .inl (c9, 16, .inl a9)), (q10, .inl (c10, 16, .inl a10)), (q11, .inl (c11, 16, .inl a11)), (q13, .inl (c13, 1000, .inl ur_9.2.2.2.2.2.1)), (q14, .inl (c14, 1000, .inl ur_9.2.2.2.2.2.2.1)), (q15, .inl (c15, 4096, .inl ur_9.2.2.2.2.2.2.2))] := hD
  refine W.widen (k := kw) (n := nw) (by omega) (by omega) ?_
  refine W.eq (g2 := F0 m 223 ls [.long r_9]) rfl ?_
  refine lv_lstore (lv' := [(6, .long r_9), (5, .int kc), (0, .ref b), (1, .ref x), (2, .ref h0), (3, .ref qo), (4, .int (nI (5 * k)))]) hx hb dL_law_223 hl (by decide) rfl (fun ls hl => ?_)
  refine lv_goto (tgt := 480) hx hb dL_law_225 (by decide) ?_
  obtain ⟨e1, e4, e8, e11, hR⟩ := fin_map hR (by omega) hwc jr_9
  rw [e1, e4, e8, e11] at hI
  refine W.book (fun hz9 hn9 => ?_)
  refine W.widen (k := (2000 + 150 * (k + 1))) (n := (100000 + 12700 * (k + 1))) (by omega) (by omega) ?_
  have hR9 : RInv (2000 * (k + 1)) a1 ur_9.2.1 ur_9.2.2.1 a4 ur_9.2.2.2.1 ur_9.2.2.2.2.1 a8 a9 a10 a11 a12 := hR
  exact hnext H locs ls ⟨qb, cq, bq1, ow1, rx1, cr1, co, f1, ur_9.1, q1, q2, q3, q4, q5, q6, q7, q8, q9, q10, q11, q12, q13, q14, q15, q16, c1, c2, c3, c4, c5, c6, c7, c8, c9, c10, c11, c12, c13, c14, c15, c16, a1, ur_9.2.1, ur_9.2.2.1, a4, a5, ur_9.2.2.2.1, ur_9.2.2.2.2.1, a8, a9, a10, a11, a12, ur_9.2.2.2.2.2.1, ur_9.2.2.2.2.2.2.1, ur_9.2.2.2.2.2.2.2, a16, hP.sub (ws' := [(h0, .inr (8, [.int ur_9.1, .ref q1, .ref q2, .ref q3, .ref q4, .ref q5, .ref q6, .ref q7, .ref q8, .ref q9, .ref q10, .ref q11, .ref q12, .ref q13, .ref q14, .ref q15, .ref q16])), (q1, .inl (c1, 16, .inl a1)), (q2, .inl (c2, 67200, .inl ur_9.2.1)), (q3, .inl (c3, 16, .inl ur_9.2.2.1)), (q4, .inl (c4, 16, .inl a4)), (q5, .inl (c5, 16, .inl a5)), (q6, .inl (c6, 16, .inl ur_9.2.2.2.1)), (q7, .inl (c7, 16, .inl ur_9.2.2.2.2.1)), (q8, .inl (c8, 16, .inl a8)), (q9, .inl (c9, 16, .inl a9)), (q10, .inl (c10, 16, .inl a10)), (q11, .inl (c11, 16, .inl a11)), (q12, .inl (c12, 16, .inl a12)), (q13, .inl (c13, 1000, .inl ur_9.2.2.2.2.2.1)), (q14, .inl (c14, 1000, .inl ur_9.2.2.2.2.2.2.1)), (q15, .inl (c15, 4096, .inl ur_9.2.2.2.2.2.2.2)), (q16, .inl (c16, 16, .inl a16))]) [2, 3, 4, 5, 6, 7, 8, 9, 10, 11, 12, 13, 0, 14, 15, 16, 1] rfl, hK.sub (tys' := [(c1, .int), (c2, .int), (c3, .int), (c4, .int), (c5, .int), (c6, .int), (c7, .int), (c8, .int), (c9, .int), (c10, .int), (c11, .int), (c12, .int), (c13, .int), (c14, .int), (c15, .boolean), (c16, .boolean)]) [0, 1, 2, 3, 4, 5, 6, 7, 8, 9, 10, 11, 12, 13, 14, 15] rfl, hD.sub (ws' := [(h0, .inr (8, [.int ur_9.1, .ref q1, .ref q2, .ref q3, .ref q4, .ref q5, .ref q6, .ref q7, .ref q8, .ref q9, .ref q10, .ref q11, .ref q12, .ref q13, .ref q14, .ref q15, .ref q16])), (q1, .inl (c1, 16, .inl a1)), (q2, .inl (c2, 67200, .inl ur_9.2.1)), (q3, .inl (c3, 16, .inl ur_9.2.2.1)), (q4, .inl (c4, 16, .inl a4)), (q5, .inl (c5, 16, .inl a5)), (q6, .inl (c6, 16, .inl ur_9.2.2.2.1)), (q7, .inl (c7, 16, .inl ur_9.2.2.2.2.1)), (q8, .inl (c8, 16, .inl a8)), (q9, .inl (c9, 16, .inl a9)), (q10, .inl (c10, 16, .inl a10)), (q11, .inl (c11, 16, .inl a11)), (q12, .inl (c12, 16, .inl a12)), (q13, .inl (c13, 1000, .inl ur_9.2.2.2.2.2.1)), (q14, .inl (c14, 1000, .inl ur_9.2.2.2.2.2.2.1)), (q15, .inl (c15, 4096, .inl ur_9.2.2.2.2.2.2.2)), (q16, .inl (c16, 16, .inl a16))]) [2, 3, 4, 5, 6, 7, 8, 9, 10, 11, 12, 13, 0, 14, 15, 16, 1] (by decide) rfl, hPo, hKo, hAo, hoq, hI, hoz, hlo, hR9, by omega, by omega⟩ hS (lv_sub hl [2, 3, 4, 5, 6] rfl)
set_option maxHeartbeats 4000000 in
set_option maxRecDepth 100000 in
/-- the law: a call of view -/
theorem law_view {p : Program} {e : Env} {s : State} {m : MethodId} {below : List Frame} {meth : Method} {c : Code} (l : Launch) (hlt : l.stackTraces = false) {b L : Nat} {xs : Nat → Int32} (hL : L ≤ 2560) (C0 : lw_At p s m meth c b L xs) (dC : Nat → ClassId) (dI : Nat → Nat → Nat) (hN : p_N s) (hM : p_M s) (A : Nat → Prop) (hAe : A = (fun q : Nat => s.heap.size ≤ q)) (hZ : p_Z A s s.heap) {x h0 qo k : Nat} {H : Heap} {locs : List Loc} {ls : Array Slot} (hk : 5 * k + 5 ≤ L) (J : lawI (dC, dI) s A x h0 qo k H) (hS : va_S A s.heap H locs) (hl : lv_has ls 8 [(0, .ref b), (1, .ref x), (2, .ref h0), (3, .ref qo), (4, .int (nI (5 * k)))]) (hnext : ∀ (H1 : Heap) (locs1 : List Loc) (ls1 : Array Slot), lawI (dC, dI) s A x h0 qo (k + 1) H1 → va_S A s.heap H1 locs1 → lv_has ls1 8 [(0, .ref b), (1, .ref x), (2, .ref h0), (3, .ref qo), (4, .int (nI (5 * k)))] → W p l e room_1 s m #[Value.ref b] below meth c H1 locs1 (2000 + 150 * (k + 1)) (100000 + 12700 * (k + 1)) (lw_Z below #[Value.ref b] s) (F0 m 480 ls1 [])) : W p l e room_1 s m #[Value.ref b] below meth c H locs (2000 + 150 * k) (100000 + 12700 * k) (lw_Z below #[Value.ref b] s) (F0 m 228 ls []) := by
  obtain ⟨hx, hb, hr, hml, hown, hts, hX, hbl, hlocks, hgv⟩ := id C0
  have hown : s.vm.findClass RL = some m.cls := hown
  have hts := lwx_hts hts
  have hA : ∀ q : Nat, s.heap.size ≤ q → A q := fun q h => by rw [hAe]; exact h
  have hbA : ¬ A b := by rw [hAe]; exact Nat.not_le.mpr hbl
  obtain ⟨qb, cq, bq, ow, rx, cr, co, f0, th, q1, q2, q3, q4, q5, q6, q7, q8, q9, q10, q11, q12, q13, q14, q15, q16, c1, c2, c3, c4, c5, c6, c7, c8, c9, c10, c11, c12, c13, c14, c15, c16, a1, a2, a3, a4, a5, a6, a7, a8, a9, a10, a11, a12, a13, a14, a15, a16, hP, hK, hD, hPo, hKo, hAo, hoq, hI, hoz, hlo, hR, hTb, hSz⟩ := J
  obtain ⟨⟨dep, hF9, hda⟩, hr2, hMa, hB7, hCa⟩ := id hR
  refine lv_aload_n hx hb dL_law_228 rfl (lv_at hl 1 rfl) ?_
  refine lv_aload_n hx hb dL_law_229 rfl (lv_at hl 0 rfl) ?_
  refine lv_iload hx hb dL_law_230 (lv_at hl 4 rfl) ?_
  refine lv_iconst (v := 1) hx hb dL_law_232 (by decide) ?_
  refine lv_iadd hx hb dL_law_233 ?_
  refine lv_topi (fun z_1 ez_1 => ?_)
  obtain rfl : z_1 = nI ((5 * k) + 1) := ez_1.trans (by rw [show (1 : Int32) = nI 1 from rfl, nI_add])
  refine va_sld (i := nI ((5 * k) + 1)) hx hb hX hbl hbA hS (vp_in_nI (by omega) (by omega)) dL_law_234 ?_
  refine W.eq (g2 := F0 m 235 ls [.int (xs ((5 * k) + 1)), .ref x]) (by rw [nI_clamp (by omega)]) ?_
  refine lv_aload_n hx hb dL_law_235 rfl (lv_at hl 0 rfl) ?_
  refine lv_iload hx hb dL_law_236 (lv_at hl 4 rfl) ?_
  refine lv_iconst (v := 2) hx hb dL_law_238 (by decide) ?_
  refine lv_iadd hx hb dL_law_239 ?_
  refine lv_topi (fun z_2 ez_2 => ?_)
  obtain rfl : z_2 = nI ((5 * k) + 2) := ez_2.trans (by rw [show (2 : Int32) = nI 2 from rfl, nI_add])
  refine va_sld (i := nI ((5 * k) + 2)) hx hb hX hbl hbA hS (vp_in_nI (by omega) (by omega)) dL_law_240 ?_
  refine W.eq (g2 := F0 m 241 ls [.int (xs ((5 * k) + 2)), .int (xs ((5 * k) + 1)), .ref x]) (by rw [nI_clamp (by omega)]) ?_
  refine lv_aload_n hx hb dL_law_241 rfl (lv_at hl 0 rfl) ?_
  refine lv_iload hx hb dL_law_242 (lv_at hl 4 rfl) ?_
  refine lv_iconst (v := 3) hx hb dL_law_244 (by decide) ?_
  refine lv_iadd hx hb dL_law_245 ?_
  refine lv_topi (fun z_3 ez_3 => ?_)
  obtain rfl : z_3 = nI ((5 * k) + 3) := ez_3.trans (by rw [show (3 : Int32) = nI 3 from rfl, nI_add])
  refine va_sld (i := nI ((5 * k) + 3)) hx hb hX hbl hbA hS (vp_in_nI (by omega) (by omega)) dL_law_246 ?_
  refine W.eq (g2 := F0 m 247 ls [.int (xs ((5 * k) + 3)), .int (xs ((5 * k) + 2)), .int (xs ((5 * k) + 1)), .ref x]) (by rw [nI_clamp (by omega)]) ?_
  refine lv_aload_n hx hb dL_law_247 rfl (lv_at hl 0 rfl) ?_
  refine lv_iload hx hb dL_law_248 (lv_at hl 4 rfl) ?_
  refine lv_iconst (v := 4) hx hb dL_law_250 (by decide) ?_
  refine lv_iadd hx hb dL_law_251 ?_
  refine lv_topi (fun z_4 ez_4 => ?_)
  obtain rfl : z_4 = nI ((5 * k) + 4) := ez_4.trans (by rw [show (4 : Int32) = nI 4 from rfl, nI_add])
  refine va_sld (i := nI ((5 * k) + 4)) hx hb hX hbl hbA hS (vp_in_nI (by omega) (by omega)) dL_law_252 ?_
  refine W.eq (g2 := F0 m 253 ls [.int (xs ((5 * k) + 4)), .int (xs ((5 * k) + 3)), .int (xs ((5 * k) + 2)), .int (xs ((5 * k) + 1)), .ref x]) (by rw [nI_clamp (by omega)]) ?_
  refine lv_aload_n hx hb dL_law_253 rfl (lv_at hl 3 rfl) ?_
  have hAl := lA_A hAe hlo hS.1 hAo
  have hS0 := hS.1
  refine va_calli (vx_runSW (As := [.ref x, .int (xs ((5 * k) + 1)), .int (xs ((5 * k) + 2)), .int (xs ((5 * k) + 3)), .int (xs ((5 * k) + 4)), .ref qo]) (rest := []) ⟨hx, hb, hml, hown, hts⟩ (c_L_view l hlt dC dI H.size (hT H) ⟨dep, hF9, hda⟩ qo co f0 (xs ((5 * k) + 1)) (xs ((5 * k) + 2)) (xs ((5 * k) + 3)) (xs ((5 * k) + 4))) (vx_cwSW 6 hts gP_law_L_view rfl rfl rfl (by decide +kernel) ⟨(Nat.le_of_ble_eq_true rfl), (Nat.le_of_ble_eq_true rfl)⟩) ⟨lPre_blind, lPre_call hI hN hM (hZ.kept hS.2.1) hAl hPo hKo hoq⟩ rfl rfl hl.1 rfl (lv_room (Nat.le_of_ble_eq_true rfl)) dL_law_254 ⟨(show 2000 + 150 * k + 4 ≤ 601024 by omega), (show 100000 + 12700 * k + 26 ≤ 7293034 by omega)⟩) hS (fun q _ z => hAl q z) hAl (fun kc u9 t H1 locs ht hvm hw hB hz1 hk1 hS => ?_)
  obtain ⟨f1, bq1, ow1, rx1, cr1, b1, b4, b8, b11⟩ := u9
  obtain ⟨⟨hI, hpos, hc1, hc2⟩, hPo, hKo, hoq⟩ := hB
  dsimp only at hw hI hpos hc1 hc2 hPo hKo hoq
  rw [ht] at hI hc1 hc2 hPo
  have hI : aI (dC, dI) s H1 x qb cq bq1 ow1 rx1 cr1 b1 b4 b8 b11 := aI_moved hvm.symm hI
  have hKo := va_K.moved hvm.symm hKo
  have hwc := hw
  have hoz1 : ∀ q ∈ [h0, q1, q2, q3, q4, q5, q6, q7, q8, q9, q10, q11, q12, q13, q14, q15, q16], ow1 q = 0 ∧ q ≠ qo := oz_call hoz (P_lt hP rfl) hpos
  have hP : va_P (dC, dI) vwCl [(h0, .inr (8, [.int th, .ref q1, .ref q2, .ref q3, .ref q4, .ref q5, .ref q6, .ref q7, .ref q8, .ref q9, .ref q10, .ref q11, .ref q12, .ref q13, .ref q14, .ref q15, .ref q16])), (q1, .inl (c1, 16, .inl a1)), (q2, .inl (c2, 67200, .inl a2)), (q3, .inl (c3, 16, .inl a3)), (q4, .inl (c4, 16, .inl a4)), (q5, .inl (c5, 16, .inl a5)), (q6, .inl (c6, 16, .inl a6)), (q7, .inl (c7, 16, .inl a7)), (q8, .inl (c8, 16, .inl a8)), (q9, .inl (c9, 16, .inl a9)), (q10, .inl (c10, 16, .inl a10)), (q11, .inl (c11, 16, .inl a11)), (q12, .inl (c12, 16, .inl a12)), (q13, .inl (c13, 1000, .inl a13)), (q14, .inl (c14, 1000, .inl a14)), (q15, .inl (c15, 4096, .inl a15)), (q16, .inl (c16, 16, .inl a16))] H1 := P_law hP rfl hoz hk1
  have hlo : ∀ q : Nat, 0 < ow1 q → s.heap.size ≤ q := fun q z => (hpos q z).elim (hlo q) (fun z => Nat.le_trans hS0 z)
  replace hoz := hoz1
  refine W.book2 (fun hz8 hn8 hz7 hn7 => ?_)
  obtain ⟨kw, ekw⟩ : ∃ z : Nat, z = H1.size - s.heap.size := ⟨_, rfl⟩
  obtain ⟨nw, enw⟩ : ∃ z : Nat, z = hT H1 - hT s.heap := ⟨_, rfl⟩
  have hkw : kw ≤ 2000 + 150 * (k + 1) := by omega
  have hnw : nw + sumN cr1 16 ≤ 100000 + 12700 * (k + 1) := by omega
  refine W.tight (k := kw) (n := nw) (by omega) (by omega) ?_
  clear ekw enw hz8 hn8 hz7 hn7 hc1 hc2 hk1 hz1 ht hw hAl hS0 hTb hSz
  generalize H1 = H at hP hPo hI hS ⊢
  refine W.eq (g2 := F0 m 257 ls [.int kc]) rfl ?_
  refine lv_istore (lv' := [(5, .int kc), (0, .ref b), (1, .ref x), (2, .ref h0), (3, .ref qo), (4, .int (nI (5 * k)))]) hx hb dL_law_257 hl (by decide) rfl (fun ls hl => ?_)
  refine lv_aload_n hx hb dL_law_259 rfl (lv_at hl 3 rfl) ?_
  refine lv_aload_n hx hb dL_law_260 rfl (lv_at hl 1 rfl) ?_
  refine lv_iload hx hb dL_law_261 (lv_at hl 5 rfl) ?_
  refine lv_iconst (v := 1) hx hb dL_law_263 (by decide) ?_
  refine lv_iadd hx hb dL_law_264 ?_
  refine lv_topi (fun z_5 ez_5 => ?_)
  obtain rfl : z_5 = nI ((5 * k) + 1) := ez_5.trans (by rw [show (1 : Int32) = nI 1 from rfl, nI_add])
  refine va_sld (i := nI ((5 * k) + 1)) hx hb hX hbl hbA hS (vp_in_nI (by omega) (by omega)) dL_law_265 ?_
  refine W.eq (g2 := F0 m 266 ls [.int (xs ((5 * k) + 1)), .ref h0]) (by rw [nI_clamp (by omega)]) ?_
  refine lv_aload_n hx hb dL_law_266 rfl (lv_at hl 1 rfl) ?_
  refine lv_iload hx hb dL_law_267 (lv_at hl 5 rfl) ?_
  refine lv_iconst (v := 2) hx hb dL_law_269 (by decide) ?_
  refine lv_iadd hx hb dL_law_270 ?_
  refine lv_topi (fun z_6 ez_6 => ?_)
  obtain rfl : z_6 = nI ((5 * k) + 2) := ez_6.trans (by rw [show (2 : Int32) = nI 2 from rfl, nI_add])
  refine va_sld (i := nI ((5 * k) + 2)) hx hb hX hbl hbA hS (vp_in_nI (by omega) (by omega)) dL_law_271 ?_
  refine W.eq (g2 := F0 m 272 ls [.int (xs ((5 * k) + 2)), .int (xs ((5 * k) + 1)), .ref h0]) (by rw [nI_clamp (by omega)]) ?_
  refine lv_aload_n hx hb dL_law_272 rfl (lv_at hl 1 rfl) ?_
  refine lv_iload hx hb dL_law_273 (lv_at hl 5 rfl) ?_
  refine lv_iconst (v := 3) hx hb dL_law_275 (by decide) ?_
  refine lv_iadd hx hb dL_law_276 ?_
  refine lv_topi (fun z_7 ez_7 => ?_)
  obtain rfl : z_7 = nI ((5 * k) + 3) := ez_7.trans (by rw [show (3 : Int32) = nI 3 from rfl, nI_add])
  refine va_sld (i := nI ((5 * k) + 3)) hx hb hX hbl hbA hS (vp_in_nI (by omega) (by omega)) dL_law_277 ?_
  refine W.eq (g2 := F0 m 278 ls [.int (xs ((5 * k) + 3)), .int (xs ((5 * k) + 2)), .int (xs ((5 * k) + 1)), .ref h0]) (by rw [nI_clamp (by omega)]) ?_
  refine lv_aload_n hx hb dL_law_278 rfl (lv_at hl 1 rfl) ?_
  refine lv_iload hx hb dL_law_279 (lv_at hl 5 rfl) ?_
  refine lv_iconst (v := 4) hx hb dL_law_281 (by decide) ?_
  refine lv_iadd hx hb dL_law_282 ?_
  refine lv_topi (fun z_8 ez_8 => ?_)
  obtain rfl : z_8 = nI ((5 * k) + 4) := ez_8.trans (by rw [show (4 : Int32) = nI 4 from rfl, nI_add])
  refine va_sld (i := nI ((5 * k) + 4)) hx hb hX hbl hbA hS (vp_in_nI (by omega) (by omega)) dL_law_283 ?_
  refine W.eq (g2 := F0 m 284 ls [.int (xs ((5 * k) + 4)), .int (xs ((5 * k) + 3)), .int (xs ((5 * k) + 2)), .int (xs ((5 * k) + 1)), .ref h0]) (by rw [nI_clamp (by omega)]) ?_
  have hPc := hP.sub (ws' := [(h0, .inr (8, [.int th, .ref q1, .ref q2, .ref q3, .ref q4, .ref q5, .ref q6, .ref q7, .ref q8, .ref q9, .ref q10, .ref q11, .ref q12, .ref q13, .ref q14, .ref q15, .ref q16])), (q1, .inl (c1, 16, .inl a1)), (q3, .inl (c3, 16, .inl a3)), (q4, .inl (c4, 16, .inl a4)), (q6, .inl (c6, 16, .inl a6)), (q7, .inl (c7, 16, .inl a7)), (q8, .inl (c8, 16, .inl a8)), (q9, .inl (c9, 16, .inl a9)), (q10, .inl (c10, 16, .inl a10)), (q11, .inl (c11, 16, .inl a11))]) [0, 1, 3, 4, 6, 7, 8, 9, 10, 11] rfl
  have hDc := hD.sub (ws' := [(h0, .inr (8, [.int th, .ref q1, .ref q2, .ref q3, .ref q4, .ref q5, .ref q6, .ref q7, .ref q8, .ref q9, .ref q10, .ref q11, .ref q12, .ref q13, .ref q14, .ref q15, .ref q16])), (q1, .inl (c1, 16, .inl a1)), (q3, .inl (c3, 16, .inl a3)), (q4, .inl (c4, 16, .inl a4)), (q6, .inl (c6, 16, .inl a6)), (q7, .inl (c7, 16, .inl a7)), (q8, .inl (c8, 16, .inl a8)), (q9, .inl (c9, 16, .inl a9)), (q10, .inl (c10, 16, .inl a10)), (q11, .inl (c11, 16, .inl a11))]) [0, 1, 3, 4, 6, 7, 8, 9, 10, 11] (by decide) rfl
  have hKc := hK.sub (tys' := [(c1, .int), (c3, .int), (c4, .int), (c6, .int), (c7, .int), (c8, .int), (c9, .int), (c10, .int), (c11, .int)]) [0, 2, 3, 5, 6, 7, 8, 9, 10] rfl
  have hFc := va_free (wc := [(h0, .inr (8, [.int th, .ref q1, .ref q2, .ref q3, .ref q4, .ref q5, .ref q6, .ref q7, .ref q8, .ref q9, .ref q10, .ref q11, .ref q12, .ref q13, .ref q14, .ref q15, .ref q16])), (q1, .inl (c1, 16, .inl a1)), (q3, .inl (c3, 16, .inl a3)), (q4, .inl (c4, 16, .inl a4)), (q6, .inl (c6, 16, .inl a6)), (q7, .inl (c7, 16, .inl a7)), (q8, .inl (c8, 16, .inl a8)), (q9, .inl (c9, 16, .inl a9)), (q10, .inl (c10, 16, .inl a10)), (q11, .inl (c11, 16, .inl a11))]) hD hS hA [0, 1, 3, 4, 6, 7, 8, 9, 10, 11] rfl
  refine va_calli (va_runV (As := [.int (xs ((5 * k) + 1)), .int (xs ((5 * k) + 2)), .int (xs ((5 * k) + 3)), .int (xs ((5 * k) + 4))]) (rest := []) ⟨hx, hb, hml, hown, hts⟩ (c_X8_view l  dC dI H.size h0 th q1 q3 q4 q6 q7 q8 q9 q10 q11 c1 c3 c4 c6 c7 c8 c9 c10 c11 a1 a3 a4 a6 a7 a8 a9 a10 a11 (.ref q2) (.ref q5) (.ref q12) (.ref q13) (.ref q14) (.ref q15) (.ref q16) dep (xs ((5 * k) + 1)) (xs ((5 * k) + 2)) (xs ((5 * k) + 3)) (xs ((5 * k) + 4)) hF9 hda) (cwV 4 hts gP_law_X8_view rfl rfl rfl (by decide +kernel) ⟨(Nat.le_of_ble_eq_true rfl), (Nat.le_of_ble_eq_true rfl)⟩) ⟨pk_blind, va_recv hKc hPc (ci := 8) (q0 := 0) rfl rfl, pk_call hPc hKc hDc⟩ rfl rfl hl.1 rfl (lv_room (Nat.le_of_ble_eq_true rfl)) dL_law_284 ⟨(show kw + 0 ≤ 601024 by omega), (show nw + 0 ≤ 7293034 by omega)⟩) hS (fun q _ h => hFc q h) hFc (fun r_9 ur_9 t H1 locs ht hvm hw hB hz1 hk1 hS => ?_)
  try dsimp only at hw
  have jr_9 := hw
  have hI := aI_kept hI (fun q z1 z2 => hk1 q z1 (na2 (oz_sub (ws := [(h0, .inr (8, [.int th, .ref q1, .ref q2, .ref q3, .ref q4, .ref q5, .ref q6, .ref q7, .ref q8, .ref q9, .ref q10, .ref q11, .ref q12, .ref q13, .ref q14, .ref q15, .ref q16])), (q1, .inl (c1, 16, .inl a1)), (q3, .inl (c3, 16, .inl a3)), (q4, .inl (c4, 16, .inl a4)), (q6, .inl (c6, 16, .inl a6)), (q7, .inl (c7, 16, .inl a7)), (q8, .inl (c8, 16, .inl a8)), (q9, .inl (c9, 16, .inl a9)), (q10, .inl (c10, 16, .inl a10)), (q11, .inl (c11, 16, .inl a11))]) hoz [0, 1, 3, 4, 6, 7, 8, 9, 10, 11] rfl) z1 (Or.inl z2)))
  have hPo : va_P (dC, dI) vwCl [(qo, .inl (co, 1, .inr (.inl f1)))] H1 := P_kept hPo (List.forall_mem_cons.mpr ⟨(fun (z : qo < _) => hk1 qo z (na2 (oz_sub (ws := [(h0, .inr (8, [.int th, .ref q1, .ref q2, .ref q3, .ref q4, .ref q5, .ref q6, .ref q7, .ref q8, .ref q9, .ref q10, .ref q11, .ref q12, .ref q13, .ref q14, .ref q15, .ref q16])), (q1, .inl (c1, 16, .inl a1)), (q3, .inl (c3, 16, .inl a3)), (q4, .inl (c4, 16, .inl a4)), (q6, .inl (c6, 16, .inl a6)), (q7, .inl (c7, 16, .inl a7)), (q8, .inl (c8, 16, .inl a8)), (q9, .inl (c9, 16, .inl a9)), (q10, .inl (c10, 16, .inl a10)), (q11, .inl (c11, 16, .inl a11))]) hoz [0, 1, 3, 4, 6, 7, 8, 9, 10, 11] rfl) z (Or.inr rfl))), fun _ h => absurd h List.not_mem_nil⟩)
  obtain ⟨hP1, hK1, hD1⟩ := hB
  rw [ht] at hP1
  have hK1 := va_K.moved hvm.symm hK1
  obtain ⟨hP, hD⟩ := va_join (wr := [(q2, .inl (c2, 67200, .inl a2)), (q5, .inl (c5, 16, .inl a5)), (q12, .inl (c12, 16, .inl a12)), (q13, .inl (c13, 1000, .inl a13)), (q14, .inl (c14, 1000, .inl a14)), (q15, .inl (c15, 4096, .inl a15)), (q16, .inl (c16, 16, .inl a16))]) (w1 := [(h0, .inr (8, [.int ur_9.1, .ref q1, .ref q2, .ref q3, .ref q4, .ref q5, .ref q6, .ref q7, .ref q8, .ref q9, .ref q10, .ref q11, .ref q12, .ref q13, .ref q14, .ref q15, .ref q16])), (q1, .inl (c1, 16, .inl ur_9.2.1)), (q3, .inl (c3, 16, .inl ur_9.2.2.1)), (q4, .inl (c4, 16, .inl a4)), (q6, .inl (c6, 16, .inl ur_9.2.2.2.1)), (q7, .inl (c7, 16, .inl ur_9.2.2.2.2.1)), (q8, .inl (c8, 16, .inl ur_9.2.2.2.2.2.1)), (q9, .inl (c9, 16, .inl ur_9.2.2.2.2.2.2.1)), (q10, .inl (c10, 16, .inl ur_9.2.2.2.2.2.2.2.1)), (q11, .inl (c11, 16, .inl ur_9.2.2.2.2.2.2.2.2))]) hP hD [0, 1, 3, 4, 6, 7, 8, 9, 10, 11] [2, 5, 12, 13, 14, 15, 16] rfl rfl (by decide) (by decide) hk1 hFc hP1 hD1
  clear hk1 hz1 ht hPc hDc hKc hFc
  generalize H1 = H at hP hS hI hPo ⊢
  replace hP : va_P (dC, dI) vwCl [(q2, .inl (c2, 67200, .inl a2)), (q5, .inl (c5, 16, .inl a5)), (q12, .inl (c12, 16, .inl a12)), (q13, .inl (c13, 1000, .inl a13)), (q14, .inl (c14, 1000, .inl a14)), (q15, .inl (c15, 4096, .inl a15)), (q16, .inl (c16, 16, .inl a16)), (h0, .inr (8, [.int ur_9.1, .ref q1, .ref q2, .ref q3, .ref q4, .ref q5, .ref q6, .ref q7, .ref q8, .ref q9, .ref q10, .ref q11, .ref q12, .ref q13, .ref q14, .ref q15, .ref q16])), (q1, .inl (c1, 16, .inl ur_9.2.1)), (q3, .inl (c3, 16, .inl ur_9.2.2.1)), (q4, .inl (c4, 16, .inl a4)), (q6, .inl (c6, 16, .inl ur_9.2.2.2.1)), (q7, .inl (c7, 16, .inl ur_9.2.2.2.2.1)), (q8, .inl (c8, 16, .inl ur_9.2.2.2.2.2.1)), (q9, .inl (c9, 16, .inl ur_9.2.2.2.2.2.2.1)), (q10, .inl (c10, 16, .inl ur_9.2.2.2.2.2.2.2.1)), (q11, .inl (c11, 16, .inl ur_9.2.2.2.2.2.2.2.2))] H := hP
  replace hD : va_D A [(q2, .inl (c2, 67200, .inl a2)), (q5, .inl (c5, 16, .inl a5)), (q12, .inl (c12, 16, .inl a12)), (q13, .inl (c13, 1000, .inl a13)), (q14, .inl (c14, 1000, .inl a14)), (q15, .inl (c15, 4096, .inl a15)), (q16, .inl (c16, 16, .inl a16)), (h0, .inr (8, [.int ur_9.1, .ref q1, .ref q2, .ref q3, .ref q4, .ref q5, .ref q6, .ref q7, .ref q8, .ref q9, .ref q10, .ref q11, .ref q12, .ref q13, .ref q14, .ref q15, .ref q16])), (q1, .inl (c1, 16, .inl ur_9.2.1)), (q3, .inl (c3, 16, .inl ur_9.2.2.1)), (q4, .inl (c4, 16, .inl a4)), (q6, .inl (c6, 16, .inl ur_9.2.2.2.1)), (q7, .inl (c7, 16, .inl ur_9.2.2.2.2.1)), (q8, .inl (c8, 16, .inl ur_9.2.2.2.2.2.1)), (q9, .inl (c9, 16, .inl ur_9.2.2.2.2.2.2.1)), (q10, .inl (c10, 16, .inl ur_9.2.2.2.2.2.2.2.1)), (q11, .inl (c11, 16, .inl ur_9.2.2.2.2.2.2.2.2))] := hD
  refine W.widen (k := kw) (n := nw) (by omega) (by omega) ?_
  refine W.eq (g2 := F0 m 287 ls [.int r_9]) rfl ?_
  obtain ⟨eth, efo, e1, e4, e8, e11, hR⟩ := fin_view hR (by omega) hwc jr_9
  refine lv_istore (lv' := [(6, .int r_9), (5, .int kc), (0, .ref b), (1, .ref x), (2, .ref h0), (3, .ref qo), (4, .int (nI (5 * k)))]) hx hb dL_law_287 hl (by decide) rfl (fun ls hl => ?_)
  refine lv_goto (tgt := 480) hx hb dL_law_289 (by decide) ?_
  rw [e1, e4, e8, e11] at hI
  refine W.book (fun hz9 hn9 => ?_)
  refine W.widen (k := (2000 + 150 * (k + 1))) (n := (100000 + 12700 * (k + 1))) (by omega) (by omega) ?_
  have hR9 : RInv (2000 * (k + 1)) ur_9.2.1 a2 ur_9.2.2.1 a4 ur_9.2.2.2.1 ur_9.2.2.2.2.1 ur_9.2.2.2.2.2.1 ur_9.2.2.2.2.2.2.1 ur_9.2.2.2.2.2.2.2.1 ur_9.2.2.2.2.2.2.2.2 a12 := hR
  exact hnext H locs ls ⟨qb, cq, bq1, ow1, rx1, cr1, co, f1, ur_9.1, q1, q2, q3, q4, q5, q6, q7, q8, q9, q10, q11, q12, q13, q14, q15, q16, c1, c2, c3, c4, c5, c6, c7, c8, c9, c10, c11, c12, c13, c14, c15, c16, ur_9.2.1, a2, ur_9.2.2.1, a4, a5, ur_9.2.2.2.1, ur_9.2.2.2.2.1, ur_9.2.2.2.2.2.1, ur_9.2.2.2.2.2.2.1, ur_9.2.2.2.2.2.2.2.1, ur_9.2.2.2.2.2.2.2.2, a12, a13, a14, a15, a16, hP.sub (ws' := [(h0, .inr (8, [.int ur_9.1, .ref q1, .ref q2, .ref q3, .ref q4, .ref q5, .ref q6, .ref q7, .ref q8, .ref q9, .ref q10, .ref q11, .ref q12, .ref q13, .ref q14, .ref q15, .ref q16])), (q1, .inl (c1, 16, .inl ur_9.2.1)), (q2, .inl (c2, 67200, .inl a2)), (q3, .inl (c3, 16, .inl ur_9.2.2.1)), (q4, .inl (c4, 16, .inl a4)), (q5, .inl (c5, 16, .inl a5)), (q6, .inl (c6, 16, .inl ur_9.2.2.2.1)), (q7, .inl (c7, 16, .inl ur_9.2.2.2.2.1)), (q8, .inl (c8, 16, .inl ur_9.2.2.2.2.2.1)), (q9, .inl (c9, 16, .inl ur_9.2.2.2.2.2.2.1)), (q10, .inl (c10, 16, .inl ur_9.2.2.2.2.2.2.2.1)), (q11, .inl (c11, 16, .inl ur_9.2.2.2.2.2.2.2.2)), (q12, .inl (c12, 16, .inl a12)), (q13, .inl (c13, 1000, .inl a13)), (q14, .inl (c14, 1000, .inl a14)), (q15, .inl (c15, 4096, .inl a15)), (q16, .inl (c16, 16, .inl a16))]) [7, 8, 0, 9, 10, 1, 11, 12, 13, 14, 15, 16, 2, 3, 4, 5, 6] rfl, hK.sub (tys' := [(c1, .int), (c2, .int), (c3, .int), (c4, .int), (c5, .int), (c6, .int), (c7, .int), (c8, .int), (c9, .int), (c10, .int), (c11, .int), (c12, .int), (c13, .int), (c14, .int), (c15, .boolean), (c16, .boolean)]) [0, 1, 2, 3, 4, 5, 6, 7, 8, 9, 10, 11, 12, 13, 14, 15] rfl, hD.sub (ws' := [(h0, .inr (8, [.int ur_9.1, .ref q1, .ref q2, .ref q3, .ref q4, .ref q5, .ref q6, .ref q7, .ref q8, .ref q9, .ref q10, .ref q11, .ref q12, .ref q13, .ref q14, .ref q15, .ref q16])), (q1, .inl (c1, 16, .inl ur_9.2.1)), (q2, .inl (c2, 67200, .inl a2)), (q3, .inl (c3, 16, .inl ur_9.2.2.1)), (q4, .inl (c4, 16, .inl a4)), (q5, .inl (c5, 16, .inl a5)), (q6, .inl (c6, 16, .inl ur_9.2.2.2.1)), (q7, .inl (c7, 16, .inl ur_9.2.2.2.2.1)), (q8, .inl (c8, 16, .inl ur_9.2.2.2.2.2.1)), (q9, .inl (c9, 16, .inl ur_9.2.2.2.2.2.2.1)), (q10, .inl (c10, 16, .inl ur_9.2.2.2.2.2.2.2.1)), (q11, .inl (c11, 16, .inl ur_9.2.2.2.2.2.2.2.2)), (q12, .inl (c12, 16, .inl a12)), (q13, .inl (c13, 1000, .inl a13)), (q14, .inl (c14, 1000, .inl a14)), (q15, .inl (c15, 4096, .inl a15)), (q16, .inl (c16, 16, .inl a16))]) [7, 8, 0, 9, 10, 1, 11, 12, 13, 14, 15, 16, 2, 3, 4, 5, 6] (by decide) rfl, hPo, hKo, hAo, hoq, hI, hoz, hlo, hR9, by omega, by omega⟩ hS (lv_sub hl [2, 3, 4, 5, 6] rfl)
set_option maxHeartbeats 4000000 in
set_option maxRecDepth 100000 in
/-- the law: a call of cursor -/
theorem law_cursor {p : Program} {e : Env} {s : State} {m : MethodId} {below : List Frame} {meth : Method} {c : Code} (l : Launch) (hlt : l.stackTraces = false) {b L : Nat} {xs : Nat → Int32} (hL : L ≤ 2560) (C0 : lw_At p s m meth c b L xs) (dC : Nat → ClassId) (dI : Nat → Nat → Nat) (hN : p_N s) (hM : p_M s) (A : Nat → Prop) (hAe : A = (fun q : Nat => s.heap.size ≤ q)) (hZ : p_Z A s s.heap) {x h0 qo k : Nat} {H : Heap} {locs : List Loc} {ls : Array Slot} (hk : 5 * k + 5 ≤ L) (J : lawI (dC, dI) s A x h0 qo k H) (hS : va_S A s.heap H locs) (hl : lv_has ls 8 [(0, .ref b), (1, .ref x), (2, .ref h0), (3, .ref qo), (4, .int (nI (5 * k)))]) (hnext : ∀ (H1 : Heap) (locs1 : List Loc) (ls1 : Array Slot), lawI (dC, dI) s A x h0 qo (k + 1) H1 → va_S A s.heap H1 locs1 → lv_has ls1 8 [(0, .ref b), (1, .ref x), (2, .ref h0), (3, .ref qo), (4, .int (nI (5 * k)))] → W p l e room_1 s m #[Value.ref b] below meth c H1 locs1 (2000 + 150 * (k + 1)) (100000 + 12700 * (k + 1)) (lw_Z below #[Value.ref b] s) (F0 m 480 ls1 [])) : W p l e room_1 s m #[Value.ref b] below meth c H locs (2000 + 150 * k) (100000 + 12700 * k) (lw_Z below #[Value.ref b] s) (F0 m 292 ls []) := by
  obtain ⟨hx, hb, hr, hml, hown, hts, hX, hbl, hlocks, hgv⟩ := id C0
  have hown : s.vm.findClass RL = some m.cls := hown
  have hts := lwx_hts hts
  have hA : ∀ q : Nat, s.heap.size ≤ q → A q := fun q h => by rw [hAe]; exact h
  have hbA : ¬ A b := by rw [hAe]; exact Nat.not_le.mpr hbl
  obtain ⟨qb, cq, bq, ow, rx, cr, co, f0, th, q1, q2, q3, q4, q5, q6, q7, q8, q9, q10, q11, q12, q13, q14, q15, q16, c1, c2, c3, c4, c5, c6, c7, c8, c9, c10, c11, c12, c13, c14, c15, c16, a1, a2, a3, a4, a5, a6, a7, a8, a9, a10, a11, a12, a13, a14, a15, a16, hP, hK, hD, hPo, hKo, hAo, hoq, hI, hoz, hlo, hR, hTb, hSz⟩ := J
  obtain ⟨⟨dep, hF9, hda⟩, hr2, hMa, hB7, hCa⟩ := id hR
  refine lv_aload_n hx hb dL_law_292 rfl (lv_at hl 1 rfl) ?_
  refine lv_aload_n hx hb dL_law_293 rfl (lv_at hl 0 rfl) ?_
  refine lv_iload hx hb dL_law_294 (lv_at hl 4 rfl) ?_
  refine lv_iconst (v := 1) hx hb dL_law_296 (by decide) ?_
  refine lv_iadd hx hb dL_law_297 ?_
  refine lv_topi (fun z_1 ez_1 => ?_)
  obtain rfl : z_1 = nI ((5 * k) + 1) := ez_1.trans (by rw [show (1 : Int32) = nI 1 from rfl, nI_add])
  refine va_sld (i := nI ((5 * k) + 1)) hx hb hX hbl hbA hS (vp_in_nI (by omega) (by omega)) dL_law_298 ?_
  refine W.eq (g2 := F0 m 299 ls [.int (xs ((5 * k) + 1)), .ref x]) (by rw [nI_clamp (by omega)]) ?_
  refine lv_aload_n hx hb dL_law_299 rfl (lv_at hl 3 rfl) ?_
  have hAl := lA_A hAe hlo hS.1 hAo
  have hS0 := hS.1
  refine va_calli (vx_runSW (As := [.ref x, .int (xs ((5 * k) + 1)), .ref qo]) (rest := []) ⟨hx, hb, hml, hown, hts⟩ (c_L_cursor l hlt dC dI H.size (hT H) ⟨dep, hF9, hda⟩ qo co f0 (xs ((5 * k) + 1))) (vx_cwSW 3 hts gP_law_L_cursor rfl rfl rfl (by decide +kernel) ⟨(Nat.le_of_ble_eq_true rfl), (Nat.le_of_ble_eq_true rfl)⟩) ⟨lPre_blind, lPre_call hI hN hM (hZ.kept hS.2.1) hAl hPo hKo hoq⟩ rfl rfl hl.1 rfl (lv_room (Nat.le_of_ble_eq_true rfl)) dL_law_300 ⟨(show 2000 + 150 * k + 4 ≤ 601024 by omega), (show 100000 + 12700 * k + 26 ≤ 7293034 by omega)⟩) hS (fun q _ z => hAl q z) hAl (fun kc u9 t H1 locs ht hvm hw hB hz1 hk1 hS => ?_)
  obtain ⟨f1, bq1, ow1, rx1, cr1, b1, b4, b8, b11⟩ := u9
  obtain ⟨⟨hI, hpos, hc1, hc2⟩, hPo, hKo, hoq⟩ := hB
  dsimp only at hw hI hpos hc1 hc2 hPo hKo hoq
  rw [ht] at hI hc1 hc2 hPo
  have hI : aI (dC, dI) s H1 x qb cq bq1 ow1 rx1 cr1 b1 b4 b8 b11 := aI_moved hvm.symm hI
  have hKo := va_K.moved hvm.symm hKo
  have hwc := hw
  have hoz1 : ∀ q ∈ [h0, q1, q2, q3, q4, q5, q6, q7, q8, q9, q10, q11, q12, q13, q14, q15, q16], ow1 q = 0 ∧ q ≠ qo := oz_call hoz (P_lt hP rfl) hpos
  have hP : va_P (dC, dI) vwCl [(h0, .inr (8, [.int th, .ref q1, .ref q2, .ref q3, .ref q4, .ref q5, .ref q6, .ref q7, .ref q8, .ref q9, .ref q10, .ref q11, .ref q12, .ref q13, .ref q14, .ref q15, .ref q16])), (q1, .inl (c1, 16, .inl a1)), (q2, .inl (c2, 67200, .inl a2)), (q3, .inl (c3, 16, .inl a3)), (q4, .inl (c4, 16, .inl a4)), (q5, .inl (c5, 16, .inl a5)), (q6, .inl (c6, 16, .inl a6)), (q7, .inl (c7, 16, .inl a7)), (q8, .inl (c8, 16, .inl a8)), (q9, .inl (c9, 16, .inl a9)), (q10, .inl (c10, 16, .inl a10)), (q11, .inl (c11, 16, .inl a11)), (q12, .inl (c12, 16, .inl a12)), (q13, .inl (c13, 1000, .inl a13)), (q14, .inl (c14, 1000, .inl a14)), (q15, .inl (c15, 4096, .inl a15)), (q16, .inl (c16, 16, .inl a16))] H1 := P_law hP rfl hoz hk1
  have hlo : ∀ q : Nat, 0 < ow1 q → s.heap.size ≤ q := fun q z => (hpos q z).elim (hlo q) (fun z => Nat.le_trans hS0 z)
  replace hoz := hoz1
  refine W.book2 (fun hz8 hn8 hz7 hn7 => ?_)
  obtain ⟨kw, ekw⟩ : ∃ z : Nat, z = H1.size - s.heap.size := ⟨_, rfl⟩
  obtain ⟨nw, enw⟩ : ∃ z : Nat, z = hT H1 - hT s.heap := ⟨_, rfl⟩
  have hkw : kw ≤ 2000 + 150 * (k + 1) := by omega
  have hnw : nw + sumN cr1 16 ≤ 100000 + 12700 * (k + 1) := by omega
  refine W.tight (k := kw) (n := nw) (by omega) (by omega) ?_
  clear ekw enw hz8 hn8 hz7 hn7 hc1 hc2 hk1 hz1 ht hw hAl hS0 hTb hSz
  generalize H1 = H at hP hPo hI hS ⊢
  refine W.eq (g2 := F0 m 303 ls [.int kc]) rfl ?_
  refine lv_istore (lv' := [(5, .int kc), (0, .ref b), (1, .ref x), (2, .ref h0), (3, .ref qo), (4, .int (nI (5 * k)))]) hx hb dL_law_303 hl (by decide) rfl (fun ls hl => ?_)
  refine lv_aload_n hx hb dL_law_305 rfl (lv_at hl 3 rfl) ?_
  refine lv_aload_n hx hb dL_law_306 rfl (lv_at hl 1 rfl) ?_
  refine lv_iload hx hb dL_law_307 (lv_at hl 5 rfl) ?_
  refine lv_iconst (v := 1) hx hb dL_law_309 (by decide) ?_
  refine lv_iadd hx hb dL_law_310 ?_
  refine lv_topi (fun z_2 ez_2 => ?_)
  obtain rfl : z_2 = nI ((5 * k) + 1) := ez_2.trans (by rw [show (1 : Int32) = nI 1 from rfl, nI_add])
  refine va_sld (i := nI ((5 * k) + 1)) hx hb hX hbl hbA hS (vp_in_nI (by omega) (by omega)) dL_law_311 ?_
  refine W.eq (g2 := F0 m 312 ls [.int (xs ((5 * k) + 1)), .ref h0]) (by rw [nI_clamp (by omega)]) ?_
  have hPc := hP.sub (ws' := [(h0, .inr (8, [.int th, .ref q1, .ref q2, .ref q3, .ref q4, .ref q5, .ref q6, .ref q7, .ref q8, .ref q9, .ref q10, .ref q11, .ref q12, .ref q13, .ref q14, .ref q15, .ref q16])), (q1, .inl (c1, 16, .inl a1)), (q3, .inl (c3, 16, .inl a3)), (q6, .inl (c6, 16, .inl a6)), (q7, .inl (c7, 16, .inl a7)), (q8, .inl (c8, 16, .inl a8)), (q9, .inl (c9, 16, .inl a9)), (q10, .inl (c10, 16, .inl a10)), (q12, .inl (c12, 16, .inl a12))]) [0, 1, 3, 6, 7, 8, 9, 10, 12] rfl
  have hDc := hD.sub (ws' := [(h0, .inr (8, [.int th, .ref q1, .ref q2, .ref q3, .ref q4, .ref q5, .ref q6, .ref q7, .ref q8, .ref q9, .ref q10, .ref q11, .ref q12, .ref q13, .ref q14, .ref q15, .ref q16])), (q1, .inl (c1, 16, .inl a1)), (q3, .inl (c3, 16, .inl a3)), (q6, .inl (c6, 16, .inl a6)), (q7, .inl (c7, 16, .inl a7)), (q8, .inl (c8, 16, .inl a8)), (q9, .inl (c9, 16, .inl a9)), (q10, .inl (c10, 16, .inl a10)), (q12, .inl (c12, 16, .inl a12))]) [0, 1, 3, 6, 7, 8, 9, 10, 12] (by decide) rfl
  have hKc := hK.sub (tys' := [(c1, .int), (c3, .int), (c6, .int), (c7, .int), (c8, .int), (c9, .int), (c10, .int), (c12, .int)]) [0, 2, 5, 6, 7, 8, 9, 11] rfl
  have hFc := va_free (wc := [(h0, .inr (8, [.int th, .ref q1, .ref q2, .ref q3, .ref q4, .ref q5, .ref q6, .ref q7, .ref q8, .ref q9, .ref q10, .ref q11, .ref q12, .ref q13, .ref q14, .ref q15, .ref q16])), (q1, .inl (c1, 16, .inl a1)), (q3, .inl (c3, 16, .inl a3)), (q6, .inl (c6, 16, .inl a6)), (q7, .inl (c7, 16, .inl a7)), (q8, .inl (c8, 16, .inl a8)), (q9, .inl (c9, 16, .inl a9)), (q10, .inl (c10, 16, .inl a10)), (q12, .inl (c12, 16, .inl a12))]) hD hS hA [0, 1, 3, 6, 7, 8, 9, 10, 12] rfl
  refine va_calli (va_runV (As := [.int (xs ((5 * k) + 1))]) (rest := []) ⟨hx, hb, hml, hown, hts⟩ (c_X8_cursor l  dC dI H.size h0 th q1 q3 q6 q7 q8 q9 q10 q12 c1 c3 c6 c7 c8 c9 c10 c12 a1 a3 a6 a7 a8 a9 a10 a12 (.ref q2) (.ref q4) (.ref q5) (.ref q11) (.ref q13) (.ref q14) (.ref q15) (.ref q16) dep (xs ((5 * k) + 1)) hF9 hda) (cwV 1 hts gP_law_X8_cursor rfl rfl rfl (by decide +kernel) ⟨(Nat.le_of_ble_eq_true rfl), (Nat.le_of_ble_eq_true rfl)⟩) ⟨pk_blind, va_recv hKc hPc (ci := 8) (q0 := 0) rfl rfl, pk_call hPc hKc hDc⟩ rfl rfl hl.1 rfl (lv_room (Nat.le_of_ble_eq_true rfl)) dL_law_312 ⟨(show kw + 0 ≤ 601024 by omega), (show nw + 0 ≤ 7293034 by omega)⟩) hS (fun q _ h => hFc q h) hFc (fun r_3 ur_3 t H1 locs ht hvm hw hB hz1 hk1 hS => ?_)
  try dsimp only at hw
  have jr_3 := hw
  have hI := aI_kept hI (fun q z1 z2 => hk1 q z1 (na2 (oz_sub (ws := [(h0, .inr (8, [.int th, .ref q1, .ref q2, .ref q3, .ref q4, .ref q5, .ref q6, .ref q7, .ref q8, .ref q9, .ref q10, .ref q11, .ref q12, .ref q13, .ref q14, .ref q15, .ref q16])), (q1, .inl (c1, 16, .inl a1)), (q3, .inl (c3, 16, .inl a3)), (q6, .inl (c6, 16, .inl a6)), (q7, .inl (c7, 16, .inl a7)), (q8, .inl (c8, 16, .inl a8)), (q9, .inl (c9, 16, .inl a9)), (q10, .inl (c10, 16, .inl a10)), (q12, .inl (c12, 16, .inl a12))]) hoz [0, 1, 3, 6, 7, 8, 9, 10, 12] rfl) z1 (Or.inl z2)))
  have hPo : va_P (dC, dI) vwCl [(qo, .inl (co, 1, .inr (.inl f1)))] H1 := P_kept hPo (List.forall_mem_cons.mpr ⟨(fun (z : qo < _) => hk1 qo z (na2 (oz_sub (ws := [(h0, .inr (8, [.int th, .ref q1, .ref q2, .ref q3, .ref q4, .ref q5, .ref q6, .ref q7, .ref q8, .ref q9, .ref q10, .ref q11, .ref q12, .ref q13, .ref q14, .ref q15, .ref q16])), (q1, .inl (c1, 16, .inl a1)), (q3, .inl (c3, 16, .inl a3)), (q6, .inl (c6, 16, .inl a6)), (q7, .inl (c7, 16, .inl a7)), (q8, .inl (c8, 16, .inl a8)), (q9, .inl (c9, 16, .inl a9)), (q10, .inl (c10, 16, .inl a10)), (q12, .inl (c12, 16, .inl a12))]) hoz [0, 1, 3, 6, 7, 8, 9, 10, 12] rfl) z (Or.inr rfl))), fun _ h => absurd h List.not_mem_nil⟩)
  obtain ⟨hP1, hK1, hD1⟩ := hB
  rw [ht] at hP1
  have hK1 := va_K.moved hvm.symm hK1
  obtain ⟨hP, hD⟩ := va_join (wr := [(q2, .inl (c2, 67200, .inl a2)), (q4, .inl (c4, 16, .inl a4)), (q5, .inl (c5, 16, .inl a5)), (q11, .inl (c11, 16, .inl a11)), (q13, .inl (c13, 1000, .inl a13)), (q14, .inl (c14, 1000, .inl a14)), (q15, .inl (c15, 4096, .inl a15)), (q16, .inl (c16, 16, .inl a16))]) (w1 := [(h0, .inr (8, [.int ur_3.1, .ref q1, .ref q2, .ref q3, .ref q4, .ref q5, .ref q6, .ref q7, .ref q8, .ref q9, .ref q10, .ref q11, .ref q12, .ref q13, .ref q14, .ref q15, .ref q16])), (q1, .inl (c1, 16, .inl ur_3.2.1)), (q3, .inl (c3, 16, .inl ur_3.2.2.1)), (q6, .inl (c6, 16, .inl ur_3.2.2.2.1)), (q7, .inl (c7, 16, .inl ur_3.2.2.2.2.1)), (q8, .inl (c8, 16, .inl ur_3.2.2.2.2.2.1)), (q9, .inl (c9, 16, .inl ur_3.2.2.2.2.2.2.1)), (q10, .inl (c10, 16, .inl ur_3.2.2.2.2.2.2.2.1)), (q12, .inl (c12, 16, .inl ur_3.2.2.2.2.2.2.2.2))]) hP hD [0, 1, 3, 6, 7, 8, 9, 10, 12] [2, 4, 5, 11, 13, 14, 15, 16] rfl rfl (by decide) (by decide) hk1 hFc hP1 hD1
  clear hk1 hz1 ht hPc hDc hKc hFc
  generalize H1 = H at hP hS hI hPo ⊢
  replace hP : va_P (dC, dI) vwCl [(q2, .inl (c2, 67200, .inl a2)), (q4, .inl (c4, 16, .inl a4)), (q5, .inl (c5, 16, .inl a5)), (q11, .inl (c11, 16, .inl a11)), (q13, .inl (c13, 1000, .inl a13)), (q14, .inl (c14, 1000, .inl a14)), (q15, .inl (c15, 4096, .inl a15)), (q16, .inl (c16, 16, .inl a16)), (h0, .inr (8, [.int ur_3.1, .ref q1, .ref q2, .ref q3, .ref q4, .ref q5, .ref q6, .ref q7, .ref q8, .ref q9, .ref q10, .ref q11, .ref q12, .ref q13, .ref q14, .ref q15, .ref q16])), (q1, .inl (c1, 16, .inl ur_3.2.1)), (q3, .inl (c3, 16, .inl ur_3.2.2.1)), (q6, .inl (c6, 16, .inl ur_3.2.2.2.1)), (q7, .inl (c7, 16, .inl ur_3.2.2.2.2.1)), (q8, .inl (c8, 16, .inl ur_3.2.2.2.2.2.1)), (q9, .inl (c9, 16, .inl ur_3.2.2.2.2.2.2.1)), (q10, .inl (c10, 16, .inl ur_3.2.2.2.2.2.2.2.1)), (q12, .inl (c12, 16, .inl ur_3.2.2.2.2.2.2.2.2))] H := hP
  replace hD : va_D A [(q2, .inl (c2, 67200, .inl a2)), (q4, .inl (c4, 16, .inl a4)), (q5, .inl (c5, 16, .inl a5)), (q11, .inl (c11, 16, .inl a11)), (q13, .inl (c13, 1000, .inl a13)), (q14, .inl (c14, 1000, .inl a14)), (q15, .inl (c15, 4096, .inl a15)), (q16, .inl (c16, 16, .inl a16)), (h0, .inr (8, [.int ur_3.1, .ref q1, .ref q2, .ref q3, .ref q4, .ref q5, .ref q6, .ref q7, .ref q8, .ref q9, .ref q10, .ref q11, .ref q12, .ref q13, .ref q14, .ref q15, .ref q16])), (q1, .inl (c1, 16, .inl ur_3.2.1)), (q3, .inl (c3, 16, .inl ur_3.2.2.1)), (q6, .inl (c6, 16, .inl ur_3.2.2.2.1)), (q7, .inl (c7, 16, .inl ur_3.2.2.2.2.1)), (q8, .inl (c8, 16, .inl ur_3.2.2.2.2.2.1)), (q9, .inl (c9, 16, .inl ur_3.2.2.2.2.2.2.1)), (q10, .inl (c10, 16, .inl ur_3.2.2.2.2.2.2.2.1)), (q12, .inl (c12, 16, .inl ur_3.2.2.2.2.2.2.2.2))] := hD
  refine W.widen (k := kw) (n := nw) (by omega) (by omega) ?_
  refine W.eq (g2 := F0 m 315 ls [.int r_3]) rfl ?_
  obtain ⟨eth, efo, e1, e4, e8, e11, hR⟩ := fin_cursor hR (by omega) hwc jr_3
  refine lv_istore (lv' := [(6, .int r_3), (5, .int kc), (0, .ref b), (1, .ref x), (2, .ref h0), (3, .ref qo), (4, .int (nI (5 * k)))]) hx hb dL_law_315 hl (by decide) rfl (fun ls hl => ?_)
  refine lv_aload_n hx hb dL_law_317 rfl (lv_at hl 4 rfl) ?_
  have hPc := hP.sub (ws' := [(h0, .inr (8, [.int ur_3.1, .ref q1, .ref q2, .ref q3, .ref q4, .ref q5, .ref q6, .ref q7, .ref q8, .ref q9, .ref q10, .ref q11, .ref q12, .ref q13, .ref q14, .ref q15, .ref q16]))]) [8] rfl
  have hDc := hD.sub (ws' := [(h0, .inr (8, [.int ur_3.1, .ref q1, .ref q2, .ref q3, .ref q4, .ref q5, .ref q6, .ref q7, .ref q8, .ref q9, .ref q10, .ref q11, .ref q12, .ref q13, .ref q14, .ref q15, .ref q16]))]) [8] (by decide) rfl
  have hKc := hK.sub (tys' := []) [] rfl
  have hFc := va_free (wc := [(h0, .inr (8, [.int ur_3.1, .ref q1, .ref q2, .ref q3, .ref q4, .ref q5, .ref q6, .ref q7, .ref q8, .ref q9, .ref q10, .ref q11, .ref q12, .ref q13, .ref q14, .ref q15, .ref q16]))]) hD hS hA [8] rfl
  refine va_calli (va_runV (As := []) (rest := []) ⟨hx, hb, hml, hown, hts⟩ (c_X8_thrown l  dC dI H.size h0 ur_3.1 (.ref q1) (.ref q2) (.ref q3) (.ref q4) (.ref q5) (.ref q6) (.ref q7) (.ref q8) (.ref q9) (.ref q10) (.ref q11) (.ref q12) (.ref q13) (.ref q14) (.ref q15) (.ref q16)) (cwV 0 hts gP_law_X8_thrown rfl rfl rfl (by decide +kernel) ⟨(Nat.le_of_ble_eq_true rfl), (Nat.le_of_ble_eq_true rfl)⟩) ⟨pk_blind, va_recv hKc hPc (ci := 8) (q0 := 0) rfl rfl, pk_call hPc hKc hDc⟩ rfl rfl hl.1 rfl (lv_room (Nat.le_of_ble_eq_true rfl)) dL_law_318 ⟨(show kw + 0 ≤ 601024 by omega), (show nw + 0 ≤ 7293034 by omega)⟩) hS (fun q _ h => hFc q h) hFc (fun r_4 ur_4 t H1 locs ht hvm hw hB hz1 hk1 hS => ?_)
  try dsimp only at hw
  have jr_4 := hw
  have hI := aI_kept hI (fun q z1 z2 => hk1 q z1 (na2 (oz_sub (ws := [(h0, .inr (8, [.int ur_3.1, .ref q1, .ref q2, .ref q3, .ref q4, .ref q5, .ref q6, .ref q7, .ref q8, .ref q9, .ref q10, .ref q11, .ref q12, .ref q13, .ref q14, .ref q15, .ref q16]))]) hoz [0] rfl) z1 (Or.inl z2)))
  have hPo : va_P (dC, dI) vwCl [(qo, .inl (co, 1, .inr (.inl f1)))] H1 := P_kept hPo (List.forall_mem_cons.mpr ⟨(fun (z : qo < _) => hk1 qo z (na2 (oz_sub (ws := [(h0, .inr (8, [.int ur_3.1, .ref q1, .ref q2, .ref q3, .ref q4, .ref q5, .ref q6, .ref q7, .ref q8, .ref q9, .ref q10, .ref q11, .ref q12, .ref q13, .ref q14, .ref q15, .ref q16]))]) hoz [0] rfl) z (Or.inr rfl))), fun _ h => absurd h List.not_mem_nil⟩)
  obtain ⟨hP1, hK1, hD1⟩ := hB
  rw [ht] at hP1
  have hK1 := va_K.moved hvm.symm hK1
  obtain ⟨hP, hD⟩ := va_join (wr := [(q2, .inl (c2, 67200, .inl a2)), (q4, .inl (c4, 16, .inl a4)), (q5, .inl (c5, 16, .inl a5)), (q11, .inl (c11, 16, .inl a11)), (q13, .inl (c13, 1000, .inl a13)), (q14, .inl (c14, 1000, .inl a14)), (q15, .inl (c15, 4096, .inl a15)), (q16, .inl (c16, 16, .inl a16)), (q1, .inl (c1, 16, .inl ur_3.2.1)), (q3, .inl (c3, 16, .inl ur_3.2.2.1)), (q6, .inl (c6, 16, .inl ur_3.2.2.2.1)), (q7, .inl (c7, 16, .inl ur_3.2.2.2.2.1)), (q8, .inl (c8, 16, .inl ur_3.2.2.2.2.2.1)), (q9, .inl (c9, 16, .inl ur_3.2.2.2.2.2.2.1)), (q10, .inl (c10, 16, .inl ur_3.2.2.2.2.2.2.2.1)), (q12, .inl (c12, 16, .inl ur_3.2.2.2.2.2.2.2.2))]) (w1 := [(h0, .inr (8, [.int ur_3.1, .ref q1, .ref q2, .ref q3, .ref q4, .ref q5, .ref q6, .ref q7, .ref q8, .ref q9, .ref q10, .ref q11, .ref q12, .ref q13, .ref q14, .ref q15, .ref q16]))]) hP hD [8] [0, 1, 2, 3, 4, 5, 6, 7, 9, 10, 11, 12, 13, 14, 15, 16] rfl rfl (by decide) (by decide) hk1 hFc hP1 hD1
  clear hk1 hz1 ht hPc hDc hKc hFc
  generalize H1 = H at hP hS hI hPo ⊢
  replace hP : va_P (dC, dI) vwCl [(q2, .inl (c2, 67200, .inl a2)), (q4, .inl (c4, 16, .inl a4)), (q5, .inl (c5, 16, .inl a5)), (q11, .inl (c11, 16, .inl a11)), (q13, .inl (c13, 1000, .inl a13)), (q14, .inl (c14, 1000, .inl a14)), (q15, .inl (c15, 4096, .inl a15)), (q16, .inl (c16, 16, .inl a16)), (q1, .inl (c1, 16, .inl ur_3.2.1)), (q3, .inl (c3, 16, .inl ur_3.2.2.1)), (q6, .inl (c6, 16, .inl ur_3.2.2.2.1)), (q7, .inl (c7, 16, .inl ur_3.2.2.2.2.1)), (q8, .inl (c8, 16, .inl ur_3.2.2.2.2.2.1)), (q9, .inl (c9, 16, .inl ur_3.2.2.2.2.2.2.1)), (q10, .inl (c10, 16, .inl ur_3.2.2.2.2.2.2.2.1)), (q12, .inl (c12, 16, .inl ur_3.2.2.2.2.2.2.2.2)), (h0, .inr (8, [.int ur_3.1, .ref q1, .ref q2, .ref q3, .ref q4, .ref q5, .ref q6, .ref q7, .ref q8, .ref q9, .ref q10, .ref q11, .ref q12, .ref q13, .ref q14, .ref q15, .ref q16]))] H := hP
  replace hD : va_D A [(q2, .inl (c2, 67200, .inl a2)), (q4, .inl (c4, 16, .inl a4)), (q5, .inl (c5, 16, .inl a5)), (q11, .inl (c11, 16, .inl a11)), (q13, .inl (c13, 1000, .inl a13)), (q14, .inl (c14, 1000, .inl a14)), (q15, .inl (c15, 4096, .inl a15)), (q16, .inl (c16, 16, .inl a16)), (q1, .inl (c1, 16, .inl ur_3.2.1)), (q3, .inl (c3, 16, .inl ur_3.2.2.1)), (q6, .inl (c6, 16, .inl ur_3.2.2.2.1)), (q7, .inl (c7, 16, .inl ur_3.2.2.2.2.1)), (q8, .inl (c8, 16, .inl ur_3.2.2.2.2.2.1)), (q9, .inl (c9, 16, .inl ur_3.2.2.2.2.2.2.1)), (q10, .inl (c10, 16, .inl ur_3.2.2.2.2.2.2.2.1)), (q12, .inl (c12, 16, .inl ur_3.2.2.2.2.2.2.2.2)), (h0, .inr (8, [.int ur_3.1, .ref q1, .ref q2, .ref q3, .ref q4, .ref q5, .ref q6, .ref q7, .ref q8, .ref q9, .ref q10, .ref q11, .ref q12, .ref q13, .ref q14, .ref q15, .ref q16]))] := hD
  refine W.widen (k := kw) (n := nw) (by omega) (by omega) ?_
  refine W.eq (g2 := F0 m 321 ls [.int r_4]) rfl ?_
  refine lv_iload hx hb dL_law_321 (lv_at hl 1 rfl) ?_
  refine lv_icmp_eq (tgt := 328) hx hb dL_law_323 (by decide) (fun c_5 => ?_) (fun c_5 => absurd (jr_4.trans eth) c_5)
  refine lv_iload hx hb dL_law_328 (lv_at hl 1 rfl) ?_
  refine lv_if_ne (tgt := 345) hx hb dL_law_330 (by decide) (fun c_6 => ?_) (fun c_6 => ?_)
  ·
    have ic_6 : ¬ kc.toInt = 0 := tx_ne rfl (by decide) c_6
    refine lv_goto (tgt := 480) hx hb dL_law_345 (by decide) ?_
    rw [e1, e4, e8, e11] at hI
    refine W.book (fun hz9 hn9 => ?_)
    refine W.widen (k := (2000 + 150 * (k + 1))) (n := (100000 + 12700 * (k + 1))) (by omega) (by omega) ?_
    have hR9 : RInv (2000 * (k + 1)) ur_3.2.1 a2 ur_3.2.2.1 a4 ur_3.2.2.2.1 ur_3.2.2.2.2.1 ur_3.2.2.2.2.2.1 ur_3.2.2.2.2.2.2.1 ur_3.2.2.2.2.2.2.2.1 a11 ur_3.2.2.2.2.2.2.2.2 := hR
    exact hnext H locs ls ⟨qb, cq, bq1, ow1, rx1, cr1, co, f1, ur_3.1, q1, q2, q3, q4, q5, q6, q7, q8, q9, q10, q11, q12, q13, q14, q15, q16, c1, c2, c3, c4, c5, c6, c7, c8, c9, c10, c11, c12, c13, c14, c15, c16, ur_3.2.1, a2, ur_3.2.2.1, a4, a5, ur_3.2.2.2.1, ur_3.2.2.2.2.1, ur_3.2.2.2.2.2.1, ur_3.2.2.2.2.2.2.1, ur_3.2.2.2.2.2.2.2.1, a11, ur_3.2.2.2.2.2.2.2.2, a13, a14, a15, a16, hP.sub (ws' := [(h0, .inr (8, [.int ur_3.1, .ref q1, .ref q2, .ref q3, .ref q4, .ref q5, .ref q6, .ref q7, .ref q8, .ref q9, .ref q10, .ref q11, .ref q12, .ref q13, .ref q14, .ref q15, .ref q16])), (q1, .inl (c1, 16, .inl ur_3.2.1)), (q2, .inl (c2, 67200, .inl a2)), (q3, .inl (c3, 16, .inl ur_3.2.2.1)), (q4, .inl (c4, 16, .inl a4)), (q5, .inl (c5, 16, .inl a5)), (q6, .inl (c6, 16, .inl ur_3.2.2.2.1)), (q7, .inl (c7, 16, .inl ur_3.2.2.2.2.1)), (q8, .inl (c8, 16, .inl ur_3.2.2.2.2.2.1)), (q9, .inl (c9, 16, .inl ur_3.2.2.2.2.2.2.1)), (q10, .inl (c10, 16, .inl ur_3.2.2.2.2.2.2.2.1)), (q11, .inl (c11, 16, .inl a11)), (q12, .inl (c12, 16, .inl ur_3.2.2.2.2.2.2.2.2)), (q13, .inl (c13, 1000, .inl a13)), (q14, .inl (c14, 1000, .inl a14)), (q15, .inl (c15, 4096, .inl a15)), (q16, .inl (c16, 16, .inl a16))]) [16, 8, 0, 9, 1, 2, 10, 11, 12, 13, 14, 3, 15, 4, 5, 6, 7] rfl, hK.sub (tys' := [(c1, .int), (c2, .int), (c3, .int), (c4, .int), (c5, .int), (c6, .int), (c7, .int), (c8, .int), (c9, .int), (c10, .int), (c11, .int), (c12, .int), (c13, .int), (c14, .int), (c15, .boolean), (c16, .boolean)]) [0, 1, 2, 3, 4, 5, 6, 7, 8, 9, 10, 11, 12, 13, 14, 15] rfl, hD.sub (ws' := [(h0, .inr (8, [.int ur_3.1, .ref q1, .ref q2, .ref q3, .ref q4, .ref q5, .ref q6, .ref q7, .ref q8, .ref q9, .ref q10, .ref q11, .ref q12, .ref q13, .ref q14, .ref q15, .ref q16])), (q1, .inl (c1, 16, .inl ur_3.2.1)), (q2, .inl (c2, 67200, .inl a2)), (q3, .inl (c3, 16, .inl ur_3.2.2.1)), (q4, .inl (c4, 16, .inl a4)), (q5, .inl (c5, 16, .inl a5)), (q6, .inl (c6, 16, .inl ur_3.2.2.2.1)), (q7, .inl (c7, 16, .inl ur_3.2.2.2.2.1)), (q8, .inl (c8, 16, .inl ur_3.2.2.2.2.2.1)), (q9, .inl (c9, 16, .inl ur_3.2.2.2.2.2.2.1)), (q10, .inl (c10, 16, .inl ur_3.2.2.2.2.2.2.2.1)), (q11, .inl (c11, 16, .inl a11)), (q12, .inl (c12, 16, .inl ur_3.2.2.2.2.2.2.2.2)), (q13, .inl (c13, 1000, .inl a13)), (q14, .inl (c14, 1000, .inl a14)), (q15, .inl (c15, 4096, .inl a15)), (q16, .inl (c16, 16, .inl a16))]) [16, 8, 0, 9, 1, 2, 10, 11, 12, 13, 14, 3, 15, 4, 5, 6, 7] (by decide) rfl, hPo, hKo, hAo, hoq, hI, hoz, hlo, hR9, by omega, by omega⟩ hS (lv_sub hl [2, 3, 4, 5, 6] rfl)
  ·
    have ic_6 : kc.toInt = 0 := tx_eq rfl (by decide) c_6
    refine lv_aload_n hx hb dL_law_333 rfl (lv_at hl 5 rfl) ?_
    refine lv_iconst (v := 0) hx hb dL_law_334 (by decide) ?_
    refine va_lald (i := 0) hx hb hKo hPo 0 0 rfl rfl (by unfold vp_in; decide) dL_law_335 ?_
    refine W.eq (g2 := F0 m 336 ls [.long (f1 0)]) rfl ?_
    refine lv_iload hx hb dL_law_336 (lv_at hl 0 rfl) ?_
    refine lv_i2l (v := r_3.toInt64) hx hb dL_law_338 rfl ?_
    refine W.lcmp hx hb dL_law_339 ?_
    refine lv_if_eq (tgt := 345) hx hb dL_law_340 (by decide) (fun c_7 => ?_) (fun c_7 => absurd (by rw [efo (Int32.toInt_inj.mp ic_6)]; exact tx_cmp _) c_7)
    refine lv_goto (tgt := 480) hx hb dL_law_345 (by decide) ?_
    rw [e1, e4, e8, e11] at hI
    refine W.book (fun hz9 hn9 => ?_)
    refine W.widen (k := (2000 + 150 * (k + 1))) (n := (100000 + 12700 * (k + 1))) (by omega) (by omega) ?_
    have hR9 : RInv (2000 * (k + 1)) ur_3.2.1 a2 ur_3.2.2.1 a4 ur_3.2.2.2.1 ur_3.2.2.2.2.1 ur_3.2.2.2.2.2.1 ur_3.2.2.2.2.2.2.1 ur_3.2.2.2.2.2.2.2.1 a11 ur_3.2.2.2.2.2.2.2.2 := hR
    exact hnext H locs ls ⟨qb, cq, bq1, ow1, rx1, cr1, co, f1, ur_3.1, q1, q2, q3, q4, q5, q6, q7, q8, q9, q10, q11, q12, q13, q14, q15, q16, c1, c2, c3, c4, c5, c6, c7, c8, c9, c10, c11, c12, c13, c14, c15, c16, ur_3.2.1, a2, ur_3.2.2.1, a4, a5, ur_3.2.2.2.1, ur_3.2.2.2.2.1, ur_3.2.2.2.2.2.1, ur_3.2.2.2.2.2.2.1, ur_3.2.2.2.2.2.2.2.1, a11, ur_3.2.2.2.2.2.2.2.2, a13, a14, a15, a16, hP.sub (ws' := [(h0, .inr (8, [.int ur_3.1, .ref q1, .ref q2, .ref q3, .ref q4, .ref q5, .ref q6, .ref q7, .ref q8, .ref q9, .ref q10, .ref q11, .ref q12, .ref q13, .ref q14, .ref q15, .ref q16])), (q1, .inl (c1, 16, .inl ur_3.2.1)), (q2, .inl (c2, 67200, .inl a2)), (q3, .inl (c3, 16, .inl ur_3.2.2.1)), (q4, .inl (c4, 16, .inl a4)), (q5, .inl (c5, 16, .inl a5)), (q6, .inl (c6, 16, .inl ur_3.2.2.2.1)), (q7, .inl (c7, 16, .inl ur_3.2.2.2.2.1)), (q8, .inl (c8, 16, .inl ur_3.2.2.2.2.2.1)), (q9, .inl (c9, 16, .inl ur_3.2.2.2.2.2.2.1)), (q10, .inl (c10, 16, .inl ur_3.2.2.2.2.2.2.2.1)), (q11, .inl (c11, 16, .inl a11)), (q12, .inl (c12, 16, .inl ur_3.2.2.2.2.2.2.2.2)), (q13, .inl (c13, 1000, .inl a13)), (q14, .inl (c14, 1000, .inl a14)), (q15, .inl (c15, 4096, .inl a15)), (q16, .inl (c16, 16, .inl a16))]) [16, 8, 0, 9, 1, 2, 10, 11, 12, 13, 14, 3, 15, 4, 5, 6, 7] rfl, hK.sub (tys' := [(c1, .int), (c2, .int), (c3, .int), (c4, .int), (c5, .int), (c6, .int), (c7, .int), (c8, .int), (c9, .int), (c10, .int), (c11, .int), (c12, .int), (c13, .int), (c14, .int), (c15, .boolean), (c16, .boolean)]) [0, 1, 2, 3, 4, 5, 6, 7, 8, 9, 10, 11, 12, 13, 14, 15] rfl, hD.sub (ws' := [(h0, .inr (8, [.int ur_3.1, .ref q1, .ref q2, .ref q3, .ref q4, .ref q5, .ref q6, .ref q7, .ref q8, .ref q9, .ref q10, .ref q11, .ref q12, .ref q13, .ref q14, .ref q15, .ref q16])), (q1, .inl (c1, 16, .inl ur_3.2.1)), (q2, .inl (c2, 67200, .inl a2)), (q3, .inl (c3, 16, .inl ur_3.2.2.1)), (q4, .inl (c4, 16, .inl a4)), (q5, .inl (c5, 16, .inl a5)), (q6, .inl (c6, 16, .inl ur_3.2.2.2.1)), (q7, .inl (c7, 16, .inl ur_3.2.2.2.2.1)), (q8, .inl (c8, 16, .inl ur_3.2.2.2.2.2.1)), (q9, .inl (c9, 16, .inl ur_3.2.2.2.2.2.2.1)), (q10, .inl (c10, 16, .inl ur_3.2.2.2.2.2.2.2.1)), (q11, .inl (c11, 16, .inl a11)), (q12, .inl (c12, 16, .inl ur_3.2.2.2.2.2.2.2.2)), (q13, .inl (c13, 1000, .inl a13)), (q14, .inl (c14, 1000, .inl a14)), (q15, .inl (c15, 4096, .inl a15)), (q16, .inl (c16, 16, .inl a16))]) [16, 8, 0, 9, 1, 2, 10, 11, 12, 13, 14, 3, 15, 4, 5, 6, 7] (by decide) rfl, hPo, hKo, hAo, hoq, hI, hoz, hlo, hR9, by omega, by omega⟩ hS (lv_sub hl [2, 3, 4, 5, 6] rfl)
set_option maxHeartbeats 4000000 in
set_option maxRecDepth 100000 in
/-- the law: a call of move -/
theorem law_move {p : Program} {e : Env} {s : State} {m : MethodId} {below : List Frame} {meth : Method} {c : Code} (l : Launch) (hlt : l.stackTraces = false) {b L : Nat} {xs : Nat → Int32} (hL : L ≤ 2560) (C0 : lw_At p s m meth c b L xs) (dC : Nat → ClassId) (dI : Nat → Nat → Nat) (hN : p_N s) (hM : p_M s) (A : Nat → Prop) (hAe : A = (fun q : Nat => s.heap.size ≤ q)) (hZ : p_Z A s s.heap) {x h0 qo k : Nat} {H : Heap} {locs : List Loc} {ls : Array Slot} (hk : 5 * k + 5 ≤ L) (J : lawI (dC, dI) s A x h0 qo k H) (hS : va_S A s.heap H locs) (hl : lv_has ls 8 [(0, .ref b), (1, .ref x), (2, .ref h0), (3, .ref qo), (4, .int (nI (5 * k)))]) (hnext : ∀ (H1 : Heap) (locs1 : List Loc) (ls1 : Array Slot), lawI (dC, dI) s A x h0 qo (k + 1) H1 → va_S A s.heap H1 locs1 → lv_has ls1 8 [(0, .ref b), (1, .ref x), (2, .ref h0), (3, .ref qo), (4, .int (nI (5 * k)))] → W p l e room_1 s m #[Value.ref b] below meth c H1 locs1 (2000 + 150 * (k + 1)) (100000 + 12700 * (k + 1)) (lw_Z below #[Value.ref b] s) (F0 m 480 ls1 [])) : W p l e room_1 s m #[Value.ref b] below meth c H locs (2000 + 150 * k) (100000 + 12700 * k) (lw_Z below #[Value.ref b] s) (F0 m 348 ls []) := by
  obtain ⟨hx, hb, hr, hml, hown, hts, hX, hbl, hlocks, hgv⟩ := id C0
  have hown : s.vm.findClass RL = some m.cls := hown
  have hts := lwx_hts hts
  have hA : ∀ q : Nat, s.heap.size ≤ q → A q := fun q h => by rw [hAe]; exact h
  have hbA : ¬ A b := by rw [hAe]; exact Nat.not_le.mpr hbl
  obtain ⟨qb, cq, bq, ow, rx, cr, co, f0, th, q1, q2, q3, q4, q5, q6, q7, q8, q9, q10, q11, q12, q13, q14, q15, q16, c1, c2, c3, c4, c5, c6, c7, c8, c9, c10, c11, c12, c13, c14, c15, c16, a1, a2, a3, a4, a5, a6, a7, a8, a9, a10, a11, a12, a13, a14, a15, a16, hP, hK, hD, hPo, hKo, hAo, hoq, hI, hoz, hlo, hR, hTb, hSz⟩ := J
  obtain ⟨⟨dep, hF9, hda⟩, hr2, hMa, hB7, hCa⟩ := id hR
  refine lv_aload_n hx hb dL_law_348 rfl (lv_at hl 1 rfl) ?_
  refine lv_aload_n hx hb dL_law_349 rfl (lv_at hl 0 rfl) ?_
  refine lv_iload hx hb dL_law_350 (lv_at hl 4 rfl) ?_
  refine lv_iconst (v := 1) hx hb dL_law_352 (by decide) ?_
  refine lv_iadd hx hb dL_law_353 ?_
  refine lv_topi (fun z_1 ez_1 => ?_)
  obtain rfl : z_1 = nI ((5 * k) + 1) := ez_1.trans (by rw [show (1 : Int32) = nI 1 from rfl, nI_add])
  refine va_sld (i := nI ((5 * k) + 1)) hx hb hX hbl hbA hS (vp_in_nI (by omega) (by omega)) dL_law_354 ?_
  refine W.eq (g2 := F0 m 355 ls [.int (xs ((5 * k) + 1)), .ref x]) (by rw [nI_clamp (by omega)]) ?_
  refine lv_aload_n hx hb dL_law_355 rfl (lv_at hl 0 rfl) ?_
  refine lv_iload hx hb dL_law_356 (lv_at hl 4 rfl) ?_
  refine lv_iconst (v := 2) hx hb dL_law_358 (by decide) ?_
  refine lv_iadd hx hb dL_law_359 ?_
  refine lv_topi (fun z_2 ez_2 => ?_)
  obtain rfl : z_2 = nI ((5 * k) + 2) := ez_2.trans (by rw [show (2 : Int32) = nI 2 from rfl, nI_add])
  refine va_sld (i := nI ((5 * k) + 2)) hx hb hX hbl hbA hS (vp_in_nI (by omega) (by omega)) dL_law_360 ?_
  refine W.eq (g2 := F0 m 361 ls [.int (xs ((5 * k) + 2)), .int (xs ((5 * k) + 1)), .ref x]) (by rw [nI_clamp (by omega)]) ?_
  refine lv_aload_n hx hb dL_law_361 rfl (lv_at hl 0 rfl) ?_
  refine lv_iload hx hb dL_law_362 (lv_at hl 4 rfl) ?_
  refine lv_iconst (v := 3) hx hb dL_law_364 (by decide) ?_
  refine lv_iadd hx hb dL_law_365 ?_
  refine lv_topi (fun z_3 ez_3 => ?_)
  obtain rfl : z_3 = nI ((5 * k) + 3) := ez_3.trans (by rw [show (3 : Int32) = nI 3 from rfl, nI_add])
  refine va_sld (i := nI ((5 * k) + 3)) hx hb hX hbl hbA hS (vp_in_nI (by omega) (by omega)) dL_law_366 ?_
  refine W.eq (g2 := F0 m 367 ls [.int (xs ((5 * k) + 3)), .int (xs ((5 * k) + 2)), .int (xs ((5 * k) + 1)), .ref x]) (by rw [nI_clamp (by omega)]) ?_
  refine lv_aload_n hx hb dL_law_367 rfl (lv_at hl 3 rfl) ?_
  have hAl := lA_A hAe hlo hS.1 hAo
  have hS0 := hS.1
  refine va_calli (vx_runSW (As := [.ref x, .int (xs ((5 * k) + 1)), .int (xs ((5 * k) + 2)), .int (xs ((5 * k) + 3)), .ref qo]) (rest := []) ⟨hx, hb, hml, hown, hts⟩ (c_L_move l hlt dC dI H.size (hT H) ⟨dep, hF9, hda⟩ qo co f0 (xs ((5 * k) + 1)) (xs ((5 * k) + 2)) (xs ((5 * k) + 3))) (vx_cwSW 5 hts gP_law_L_move rfl rfl rfl (by decide +kernel) ⟨(Nat.le_of_ble_eq_true rfl), (Nat.le_of_ble_eq_true rfl)⟩) ⟨lPre_blind, lPre_call hI hN hM (hZ.kept hS.2.1) hAl hPo hKo hoq⟩ rfl rfl hl.1 rfl (lv_room (Nat.le_of_ble_eq_true rfl)) dL_law_368 ⟨(show 2000 + 150 * k + 2 ≤ 601024 by omega), (show 100000 + 12700 * k + 12 ≤ 7293034 by omega)⟩) hS (fun q _ z => hAl q z) hAl (fun kc u9 t H1 locs ht hvm hw hB hz1 hk1 hS => ?_)
  obtain ⟨f1, bq1, ow1, rx1, cr1, b1, b4, b8, b11⟩ := u9
  obtain ⟨⟨hI, hpos, hc1, hc2⟩, hPo, hKo, hoq⟩ := hB
  dsimp only at hw hI hpos hc1 hc2 hPo hKo hoq
  rw [ht] at hI hc1 hc2 hPo
  have hI : aI (dC, dI) s H1 x qb cq bq1 ow1 rx1 cr1 b1 b4 b8 b11 := aI_moved hvm.symm hI
  have hKo := va_K.moved hvm.symm hKo
  have hwc := hw
  have hoz1 : ∀ q ∈ [h0, q1, q2, q3, q4, q5, q6, q7, q8, q9, q10, q11, q12, q13, q14, q15, q16], ow1 q = 0 ∧ q ≠ qo := oz_call hoz (P_lt hP rfl) hpos
  have hP : va_P (dC, dI) vwCl [(h0, .inr (8, [.int th, .ref q1, .ref q2, .ref q3, .ref q4, .ref q5, .ref q6, .ref q7, .ref q8, .ref q9, .ref q10, .ref q11, .ref q12, .ref q13, .ref q14, .ref q15, .ref q16])), (q1, .inl (c1, 16, .inl a1)), (q2, .inl (c2, 67200, .inl a2)), (q3, .inl (c3, 16, .inl a3)), (q4, .inl (c4, 16, .inl a4)), (q5, .inl (c5, 16, .inl a5)), (q6, .inl (c6, 16, .inl a6)), (q7, .inl (c7, 16, .inl a7)), (q8, .inl (c8, 16, .inl a8)), (q9, .inl (c9, 16, .inl a9)), (q10, .inl (c10, 16, .inl a10)), (q11, .inl (c11, 16, .inl a11)), (q12, .inl (c12, 16, .inl a12)), (q13, .inl (c13, 1000, .inl a13)), (q14, .inl (c14, 1000, .inl a14)), (q15, .inl (c15, 4096, .inl a15)), (q16, .inl (c16, 16, .inl a16))] H1 := P_law hP rfl hoz hk1
  have hlo : ∀ q : Nat, 0 < ow1 q → s.heap.size ≤ q := fun q z => (hpos q z).elim (hlo q) (fun z => Nat.le_trans hS0 z)
  replace hoz := hoz1
  refine W.book2 (fun hz8 hn8 hz7 hn7 => ?_)
  obtain ⟨kw, ekw⟩ : ∃ z : Nat, z = H1.size - s.heap.size := ⟨_, rfl⟩
  obtain ⟨nw, enw⟩ : ∃ z : Nat, z = hT H1 - hT s.heap := ⟨_, rfl⟩
  have hkw : kw ≤ 2000 + 150 * (k + 1) := by omega
  have hnw : nw + sumN cr1 16 ≤ 100000 + 12700 * (k + 1) := by omega
  refine W.tight (k := kw) (n := nw) (by omega) (by omega) ?_
  clear ekw enw hz8 hn8 hz7 hn7 hc1 hc2 hk1 hz1 ht hw hAl hS0 hTb hSz
  generalize H1 = H at hP hPo hI hS ⊢
  refine W.eq (g2 := F0 m 371 ls [.int kc]) rfl ?_
  refine lv_istore (lv' := [(5, .int kc), (0, .ref b), (1, .ref x), (2, .ref h0), (3, .ref qo), (4, .int (nI (5 * k)))]) hx hb dL_law_371 hl (by decide) rfl (fun ls hl => ?_)
  refine lv_aload_n hx hb dL_law_373 rfl (lv_at hl 3 rfl) ?_
  refine lv_aload_n hx hb dL_law_374 rfl (lv_at hl 1 rfl) ?_
  refine lv_iload hx hb dL_law_375 (lv_at hl 5 rfl) ?_
  refine lv_iconst (v := 1) hx hb dL_law_377 (by decide) ?_
  refine lv_iadd hx hb dL_law_378 ?_
  refine lv_topi (fun z_4 ez_4 => ?_)
  obtain rfl : z_4 = nI ((5 * k) + 1) := ez_4.trans (by rw [show (1 : Int32) = nI 1 from rfl, nI_add])
  refine va_sld (i := nI ((5 * k) + 1)) hx hb hX hbl hbA hS (vp_in_nI (by omega) (by omega)) dL_law_379 ?_
  refine W.eq (g2 := F0 m 380 ls [.int (xs ((5 * k) + 1)), .ref h0]) (by rw [nI_clamp (by omega)]) ?_
  refine lv_aload_n hx hb dL_law_380 rfl (lv_at hl 1 rfl) ?_
  refine lv_iload hx hb dL_law_381 (lv_at hl 5 rfl) ?_
  refine lv_iconst (v := 2) hx hb dL_law_383 (by decide) ?_
  refine lv_iadd hx hb dL_law_384 ?_
  refine lv_topi (fun z_5 ez_5 => ?_)
  obtain rfl : z_5 = nI ((5 * k) + 2) := ez_5.trans (by rw [show (2 : Int32) = nI 2 from rfl, nI_add])
  refine va_sld (i := nI ((5 * k) + 2)) hx hb hX hbl hbA hS (vp_in_nI (by omega) (by omega)) dL_law_385 ?_
  refine W.eq (g2 := F0 m 386 ls [.int (xs ((5 * k) + 2)), .int (xs ((5 * k) + 1)), .ref h0]) (by rw [nI_clamp (by omega)]) ?_
  refine lv_aload_n hx hb dL_law_386 rfl (lv_at hl 1 rfl) ?_
  refine lv_iload hx hb dL_law_387 (lv_at hl 5 rfl) ?_
  refine lv_iconst (v := 3) hx hb dL_law_389 (by decide) ?_
  refine lv_iadd hx hb dL_law_390 ?_
  refine lv_topi (fun z_6 ez_6 => ?_)
  obtain rfl : z_6 = nI ((5 * k) + 3) := ez_6.trans (by rw [show (3 : Int32) = nI 3 from rfl, nI_add])
  refine va_sld (i := nI ((5 * k) + 3)) hx hb hX hbl hbA hS (vp_in_nI (by omega) (by omega)) dL_law_391 ?_
  refine W.eq (g2 := F0 m 392 ls [.int (xs ((5 * k) + 3)), .int (xs ((5 * k) + 2)), .int (xs ((5 * k) + 1)), .ref h0]) (by rw [nI_clamp (by omega)]) ?_
  have hPc := hP.sub (ws' := [(h0, .inr (8, [.int th, .ref q1, .ref q2, .ref q3, .ref q4, .ref q5, .ref q6, .ref q7, .ref q8, .ref q9, .ref q10, .ref q11, .ref q12, .ref q13, .ref q14, .ref q15, .ref q16])), (q1, .inl (c1, 16, .inl a1)), (q2, .inl (c2, 67200, .inl a2)), (q3, .inl (c3, 16, .inl a3)), (q4, .inl (c4, 16, .inl a4)), (q5, .inl (c5, 16, .inl a5)), (q6, .inl (c6, 16, .inl a6)), (q7, .inl (c7, 16, .inl a7)), (q8, .inl (c8, 16, .inl a8)), (q9, .inl (c9, 16, .inl a9)), (q10, .inl (c10, 16, .inl a10)), (q11, .inl (c11, 16, .inl a11)), (q12, .inl (c12, 16, .inl a12))]) [0, 1, 2, 3, 4, 5, 6, 7, 8, 9, 10, 11, 12] rfl
  have hDc := hD.sub (ws' := [(h0, .inr (8, [.int th, .ref q1, .ref q2, .ref q3, .ref q4, .ref q5, .ref q6, .ref q7, .ref q8, .ref q9, .ref q10, .ref q11, .ref q12, .ref q13, .ref q14, .ref q15, .ref q16])), (q1, .inl (c1, 16, .inl a1)), (q2, .inl (c2, 67200, .inl a2)), (q3, .inl (c3, 16, .inl a3)), (q4, .inl (c4, 16, .inl a4)), (q5, .inl (c5, 16, .inl a5)), (q6, .inl (c6, 16, .inl a6)), (q7, .inl (c7, 16, .inl a7)), (q8, .inl (c8, 16, .inl a8)), (q9, .inl (c9, 16, .inl a9)), (q10, .inl (c10, 16, .inl a10)), (q11, .inl (c11, 16, .inl a11)), (q12, .inl (c12, 16, .inl a12))]) [0, 1, 2, 3, 4, 5, 6, 7, 8, 9, 10, 11, 12] (by decide) rfl
  have hKc := hK.sub (tys' := [(c1, .int), (c2, .int), (c3, .int), (c4, .int), (c5, .int), (c6, .int), (c7, .int), (c8, .int), (c9, .int), (c10, .int), (c11, .int), (c12, .int)]) [0, 1, 2, 3, 4, 5, 6, 7, 8, 9, 10, 11] rfl
  have hFc := va_free (wc := [(h0, .inr (8, [.int th, .ref q1, .ref q2, .ref q3, .ref q4, .ref q5, .ref q6, .ref q7, .ref q8, .ref q9, .ref q10, .ref q11, .ref q12, .ref q13, .ref q14, .ref q15, .ref q16])), (q1, .inl (c1, 16, .inl a1)), (q2, .inl (c2, 67200, .inl a2)), (q3, .inl (c3, 16, .inl a3)), (q4, .inl (c4, 16, .inl a4)), (q5, .inl (c5, 16, .inl a5)), (q6, .inl (c6, 16, .inl a6)), (q7, .inl (c7, 16, .inl a7)), (q8, .inl (c8, 16, .inl a8)), (q9, .inl (c9, 16, .inl a9)), (q10, .inl (c10, 16, .inl a10)), (q11, .inl (c11, 16, .inl a11)), (q12, .inl (c12, 16, .inl a12))]) hD hS hA [0, 1, 2, 3, 4, 5, 6, 7, 8, 9, 10, 11, 12] rfl
  refine va_calll (va_runV (As := [.int (xs ((5 * k) + 1)), .int (xs ((5 * k) + 2)), .int (xs ((5 * k) + 3))]) (rest := []) ⟨hx, hb, hml, hown, hts⟩ (c_X8_move l  dC dI H.size h0 th q1 q2 q3 q4 q5 q6 q7 q8 q9 q10 q11 q12 c1 c2 c3 c4 c5 c6 c7 c8 c9 c10 c11 c12 a1 a2 a3 a4 a5 a6 a7 a8 a9 a10 a11 a12 (.ref q13) (.ref q14) (.ref q15) (.ref q16) dep (xs ((5 * k) + 1)) (xs ((5 * k) + 2)) (xs ((5 * k) + 3)) hF9 hda hMa (fun r hr => ⟨(hB7 r hr).1, by have h9 := (hB7 r hr).2; omega⟩) hCa) (cwV 3 hts gP_law_X8_move rfl rfl rfl (by decide +kernel) ⟨(Nat.le_of_ble_eq_true rfl), (Nat.le_of_ble_eq_true rfl)⟩) ⟨pk_blind, va_recv hKc hPc (ci := 8) (q0 := 0) rfl rfl, pk_call hPc hKc hDc⟩ rfl rfl hl.1 rfl (lv_room (Nat.le_of_ble_eq_true rfl)) dL_law_392 ⟨(show kw + 0 ≤ 601024 by omega), (show nw + 0 ≤ 7293034 by omega)⟩) hS (fun q _ h => hFc q h) hFc (fun r_7 ur_7 t H1 locs ht hvm hw hB hz1 hk1 hS => ?_)
  try dsimp only at hw
  have jr_7 := hw
  have hI := aI_kept hI (fun q z1 z2 => hk1 q z1 (na2 (oz_sub (ws := [(h0, .inr (8, [.int th, .ref q1, .ref q2, .ref q3, .ref q4, .ref q5, .ref q6, .ref q7, .ref q8, .ref q9, .ref q10, .ref q11, .ref q12, .ref q13, .ref q14, .ref q15, .ref q16])), (q1, .inl (c1, 16, .inl a1)), (q2, .inl (c2, 67200, .inl a2)), (q3, .inl (c3, 16, .inl a3)), (q4, .inl (c4, 16, .inl a4)), (q5, .inl (c5, 16, .inl a5)), (q6, .inl (c6, 16, .inl a6)), (q7, .inl (c7, 16, .inl a7)), (q8, .inl (c8, 16, .inl a8)), (q9, .inl (c9, 16, .inl a9)), (q10, .inl (c10, 16, .inl a10)), (q11, .inl (c11, 16, .inl a11)), (q12, .inl (c12, 16, .inl a12))]) hoz [0, 1, 2, 3, 4, 5, 6, 7, 8, 9, 10, 11, 12] rfl) z1 (Or.inl z2)))
  have hPo : va_P (dC, dI) vwCl [(qo, .inl (co, 1, .inr (.inl f1)))] H1 := P_kept hPo (List.forall_mem_cons.mpr ⟨(fun (z : qo < _) => hk1 qo z (na2 (oz_sub (ws := [(h0, .inr (8, [.int th, .ref q1, .ref q2, .ref q3, .ref q4, .ref q5, .ref q6, .ref q7, .ref q8, .ref q9, .ref q10, .ref q11, .ref q12, .ref q13, .ref q14, .ref q15, .ref q16])), (q1, .inl (c1, 16, .inl a1)), (q2, .inl (c2, 67200, .inl a2)), (q3, .inl (c3, 16, .inl a3)), (q4, .inl (c4, 16, .inl a4)), (q5, .inl (c5, 16, .inl a5)), (q6, .inl (c6, 16, .inl a6)), (q7, .inl (c7, 16, .inl a7)), (q8, .inl (c8, 16, .inl a8)), (q9, .inl (c9, 16, .inl a9)), (q10, .inl (c10, 16, .inl a10)), (q11, .inl (c11, 16, .inl a11)), (q12, .inl (c12, 16, .inl a12))]) hoz [0, 1, 2, 3, 4, 5, 6, 7, 8, 9, 10, 11, 12] rfl) z (Or.inr rfl))), fun _ h => absurd h List.not_mem_nil⟩)
  obtain ⟨hP1, hK1, hD1⟩ := hB
  rw [ht] at hP1
  have hK1 := va_K.moved hvm.symm hK1
  obtain ⟨hP, hD⟩ := va_join (wr := [(q13, .inl (c13, 1000, .inl a13)), (q14, .inl (c14, 1000, .inl a14)), (q15, .inl (c15, 4096, .inl a15)), (q16, .inl (c16, 16, .inl a16))]) (w1 := [(h0, .inr (8, [.int ur_7.1, .ref q1, .ref q2, .ref q3, .ref q4, .ref q5, .ref q6, .ref q7, .ref q8, .ref q9, .ref q10, .ref q11, .ref q12, .ref q13, .ref q14, .ref q15, .ref q16])), (q1, .inl (c1, 16, .inl a1)), (q2, .inl (c2, 67200, .inl ur_7.2.1)), (q3, .inl (c3, 16, .inl ur_7.2.2.1)), (q4, .inl (c4, 16, .inl a4)), (q5, .inl (c5, 16, .inl a5)), (q6, .inl (c6, 16, .inl a6)), (q7, .inl (c7, 16, .inl ur_7.2.2.2.1)), (q8, .inl (c8, 16, .inl a8)), (q9, .inl (c9, 16, .inl ur_7.2.2.2.2.1)), (q10, .inl (c10, 16, .inl ur_7.2.2.2.2.2.1)), (q11, .inl (c11, 16, .inl a11)), (q12, .inl (c12, 16, .inl ur_7.2.2.2.2.2.2))]) hP hD [0, 1, 2, 3, 4, 5, 6, 7, 8, 9, 10, 11, 12] [13, 14, 15, 16] rfl rfl (by decide) (by decide) hk1 hFc hP1 hD1
  clear hk1 hz1 ht hPc hDc hKc hFc
  generalize H1 = H at hP hS hI hPo ⊢
  replace hP : va_P (dC, dI) vwCl [(q13, .inl (c13, 1000, .inl a13)), (q14, .inl (c14, 1000, .inl a14)), (q15, .inl (c15, 4096, .inl a15)), (q16, .inl (c16, 16, .inl a16)), (h0, .inr (8, [.int ur_7.1, .ref q1, .ref q2, .ref q3, .ref q4, .ref q5, .ref q6, .ref q7, .ref q8, .ref q9, .ref q10, .ref q11, .ref q12, .ref q13, .ref q14, .ref q15, .ref q16])), (q1, .inl (c1, 16, .inl a1)), (q2, .inl (c2, 67200, .inl ur_7.2.1)), (q3, .inl (c3, 16, .inl ur_7.2.2.1)), (q4, .inl (c4, 16, .inl a4)), (q5, .inl (c5, 16, .inl a5)), (q6, .inl (c6, 16, .inl a6)), (q7, .inl (c7, 16, .inl ur_7.2.2.2.1)), (q8, .inl (c8, 16, .inl a8)), (q9, .inl (c9, 16, .inl ur_7.2.2.2.2.1)), (q10, .inl (c10, 16, .inl ur_7.2.2.2.2.2.1)), (q11, .inl (c11, 16, .inl a11)), (q12, .inl (c12, 16, .inl ur_7.2.2.2.2.2.2))] H := hP
  replace hD : va_D A [(q13, .inl (c13, 1000, .inl a13)), (q14, .inl (c14, 1000, .inl a14)), (q15, .inl (c15, 4096, .inl a15)), (q16, .inl (c16, 16, .inl a16)), (h0, .inr (8, [.int ur_7.1, .ref q1, .ref q2, .ref q3, .ref q4, .ref q5, .ref q6, .ref q7, .ref q8, .ref q9, .ref q10, .ref q11, .ref q12, .ref q13, .ref q14, .ref q15, .ref q16])), (q1, .inl (c1, 16, .inl a1)), (q2, .inl (c2, 67200, .inl ur_7.2.1)), (q3, .inl (c3, 16, .inl ur_7.2.2.1)), (q4, .inl (c4, 16, .inl a4)), (q5, .inl (c5, 16, .inl a5)), (q6, .inl (c6, 16, .inl a6)), (q7, .inl (c7, 16, .inl ur_7.2.2.2.1)), (q8, .inl (c8, 16, .inl a8)), (q9, .inl (c9, 16, .inl ur_7.2.2.2.2.1)), (q10, .inl (c10, 16, .inl ur_7.2.2.2.2.2.1)), (q11, .inl (c11, 16, .inl a11)), (q12, .inl (c12, 16, .inl ur_7.2.2.2.2.2.2))] := hD
  refine W.widen (k := kw) (n := nw) (by omega) (by omega) ?_
  refine W.eq (g2 := F0 m 395 ls [.long r_7]) rfl ?_
  refine lv_lstore (lv' := [(6, .long r_7), (5, .int kc), (0, .ref b), (1, .ref x), (2, .ref h0), (3, .ref qo), (4, .int (nI (5 * k)))]) hx hb dL_law_395 hl (by decide) rfl (fun ls hl => ?_)
  refine lv_goto (tgt := 480) hx hb dL_law_397 (by decide) ?_
  obtain ⟨e1, e4, e8, e11, hR⟩ := fin_move hR (by omega) hwc jr_7
  rw [e1, e4, e8, e11] at hI
  refine W.book (fun hz9 hn9 => ?_)
  refine W.widen (k := (2000 + 150 * (k + 1))) (n := (100000 + 12700 * (k + 1))) (by omega) (by omega) ?_
  have hR9 : RInv (2000 * (k + 1)) a1 ur_7.2.1 ur_7.2.2.1 a4 a6 ur_7.2.2.2.1 a8 ur_7.2.2.2.2.1 ur_7.2.2.2.2.2.1 a11 ur_7.2.2.2.2.2.2 := hR
  exact hnext H locs ls ⟨qb, cq, bq1, ow1, rx1, cr1, co, f1, ur_7.1, q1, q2, q3, q4, q5, q6, q7, q8, q9, q10, q11, q12, q13, q14, q15, q16, c1, c2, c3, c4, c5, c6, c7, c8, c9, c10, c11, c12, c13, c14, c15, c16, a1, ur_7.2.1, ur_7.2.2.1, a4, a5, a6, ur_7.2.2.2.1, a8, ur_7.2.2.2.2.1, ur_7.2.2.2.2.2.1, a11, ur_7.2.2.2.2.2.2, a13, a14, a15, a16, hP.sub (ws' := [(h0, .inr (8, [.int ur_7.1, .ref q1, .ref q2, .ref q3, .ref q4, .ref q5, .ref q6, .ref q7, .ref q8, .ref q9, .ref q10, .ref q11, .ref q12, .ref q13, .ref q14, .ref q15, .ref q16])), (q1, .inl (c1, 16, .inl a1)), (q2, .inl (c2, 67200, .inl ur_7.2.1)), (q3, .inl (c3, 16, .inl ur_7.2.2.1)), (q4, .inl (c4, 16, .inl a4)), (q5, .inl (c5, 16, .inl a5)), (q6, .inl (c6, 16, .inl a6)), (q7, .inl (c7, 16, .inl ur_7.2.2.2.1)), (q8, .inl (c8, 16, .inl a8)), (q9, .inl (c9, 16, .inl ur_7.2.2.2.2.1)), (q10, .inl (c10, 16, .inl ur_7.2.2.2.2.2.1)), (q11, .inl (c11, 16, .inl a11)), (q12, .inl (c12, 16, .inl ur_7.2.2.2.2.2.2)), (q13, .inl (c13, 1000, .inl a13)), (q14, .inl (c14, 1000, .inl a14)), (q15, .inl (c15, 4096, .inl a15)), (q16, .inl (c16, 16, .inl a16))]) [4, 5, 6, 7, 8, 9, 10, 11, 12, 13, 14, 15, 16, 0, 1, 2, 3] rfl, hK.sub (tys' := [(c1, .int), (c2, .int), (c3, .int), (c4, .int), (c5, .int), (c6, .int), (c7, .int), (c8, .int), (c9, .int), (c10, .int), (c11, .int), (c12, .int), (c13, .int), (c14, .int), (c15, .boolean), (c16, .boolean)]) [0, 1, 2, 3, 4, 5, 6, 7, 8, 9, 10, 11, 12, 13, 14, 15] rfl, hD.sub (ws' := [(h0, .inr (8, [.int ur_7.1, .ref q1, .ref q2, .ref q3, .ref q4, .ref q5, .ref q6, .ref q7, .ref q8, .ref q9, .ref q10, .ref q11, .ref q12, .ref q13, .ref q14, .ref q15, .ref q16])), (q1, .inl (c1, 16, .inl a1)), (q2, .inl (c2, 67200, .inl ur_7.2.1)), (q3, .inl (c3, 16, .inl ur_7.2.2.1)), (q4, .inl (c4, 16, .inl a4)), (q5, .inl (c5, 16, .inl a5)), (q6, .inl (c6, 16, .inl a6)), (q7, .inl (c7, 16, .inl ur_7.2.2.2.1)), (q8, .inl (c8, 16, .inl a8)), (q9, .inl (c9, 16, .inl ur_7.2.2.2.2.1)), (q10, .inl (c10, 16, .inl ur_7.2.2.2.2.2.1)), (q11, .inl (c11, 16, .inl a11)), (q12, .inl (c12, 16, .inl ur_7.2.2.2.2.2.2)), (q13, .inl (c13, 1000, .inl a13)), (q14, .inl (c14, 1000, .inl a14)), (q15, .inl (c15, 4096, .inl a15)), (q16, .inl (c16, 16, .inl a16))]) [4, 5, 6, 7, 8, 9, 10, 11, 12, 13, 14, 15, 16, 0, 1, 2, 3] (by decide) rfl, hPo, hKo, hAo, hoq, hI, hoz, hlo, hR9, by omega, by omega⟩ hS (lv_sub hl [2, 3, 4, 5, 6] rfl)
set_option maxHeartbeats 4000000 in
set_option maxRecDepth 100000 in
/-- the law: a call of item -/
theorem law_item {p : Program} {e : Env} {s : State} {m : MethodId} {below : List Frame} {meth : Method} {c : Code} (l : Launch) (hlt : l.stackTraces = false) {b L : Nat} {xs : Nat → Int32} (hL : L ≤ 2560) (C0 : lw_At p s m meth c b L xs) (dC : Nat → ClassId) (dI : Nat → Nat → Nat) (hN : p_N s) (hM : p_M s) (A : Nat → Prop) (hAe : A = (fun q : Nat => s.heap.size ≤ q)) (hZ : p_Z A s s.heap) {x h0 qo k : Nat} {H : Heap} {locs : List Loc} {ls : Array Slot} (hk : 5 * k + 5 ≤ L) (J : lawI (dC, dI) s A x h0 qo k H) (hS : va_S A s.heap H locs) (hl : lv_has ls 8 [(0, .ref b), (1, .ref x), (2, .ref h0), (3, .ref qo), (4, .int (nI (5 * k)))]) (hnext : ∀ (H1 : Heap) (locs1 : List Loc) (ls1 : Array Slot), lawI (dC, dI) s A x h0 qo (k + 1) H1 → va_S A s.heap H1 locs1 → lv_has ls1 8 [(0, .ref b), (1, .ref x), (2, .ref h0), (3, .ref qo), (4, .int (nI (5 * k)))] → W p l e room_1 s m #[Value.ref b] below meth c H1 locs1 (2000 + 150 * (k + 1)) (100000 + 12700 * (k + 1)) (lw_Z below #[Value.ref b] s) (F0 m 480 ls1 [])) : W p l e room_1 s m #[Value.ref b] below meth c H locs (2000 + 150 * k) (100000 + 12700 * k) (lw_Z below #[Value.ref b] s) (F0 m 400 ls []) := by
  obtain ⟨hx, hb, hr, hml, hown, hts, hX, hbl, hlocks, hgv⟩ := id C0
  have hown : s.vm.findClass RL = some m.cls := hown
  have hts := lwx_hts hts
  have hA : ∀ q : Nat, s.heap.size ≤ q → A q := fun q h => by rw [hAe]; exact h
  have hbA : ¬ A b := by rw [hAe]; exact Nat.not_le.mpr hbl
  obtain ⟨qb, cq, bq, ow, rx, cr, co, f0, th, q1, q2, q3, q4, q5, q6, q7, q8, q9, q10, q11, q12, q13, q14, q15, q16, c1, c2, c3, c4, c5, c6, c7, c8, c9, c10, c11, c12, c13, c14, c15, c16, a1, a2, a3, a4, a5, a6, a7, a8, a9, a10, a11, a12, a13, a14, a15, a16, hP, hK, hD, hPo, hKo, hAo, hoq, hI, hoz, hlo, hR, hTb, hSz⟩ := J
  obtain ⟨⟨dep, hF9, hda⟩, hr2, hMa, hB7, hCa⟩ := id hR
  refine lv_aload_n hx hb dL_law_400 rfl (lv_at hl 1 rfl) ?_
  refine lv_aload_n hx hb dL_law_401 rfl (lv_at hl 0 rfl) ?_
  refine lv_iload hx hb dL_law_402 (lv_at hl 4 rfl) ?_
  refine lv_iconst (v := 1) hx hb dL_law_404 (by decide) ?_
  refine lv_iadd hx hb dL_law_405 ?_
  refine lv_topi (fun z_1 ez_1 => ?_)
  obtain rfl : z_1 = nI ((5 * k) + 1) := ez_1.trans (by rw [show (1 : Int32) = nI 1 from rfl, nI_add])
  refine va_sld (i := nI ((5 * k) + 1)) hx hb hX hbl hbA hS (vp_in_nI (by omega) (by omega)) dL_law_406 ?_
  refine W.eq (g2 := F0 m 407 ls [.int (xs ((5 * k) + 1)), .ref x]) (by rw [nI_clamp (by omega)]) ?_
  refine lv_aload_n hx hb dL_law_407 rfl (lv_at hl 0 rfl) ?_
  refine lv_iload hx hb dL_law_408 (lv_at hl 4 rfl) ?_
  refine lv_iconst (v := 2) hx hb dL_law_410 (by decide) ?_
  refine lv_iadd hx hb dL_law_411 ?_
  refine lv_topi (fun z_2 ez_2 => ?_)
  obtain rfl : z_2 = nI ((5 * k) + 2) := ez_2.trans (by rw [show (2 : Int32) = nI 2 from rfl, nI_add])
  refine va_sld (i := nI ((5 * k) + 2)) hx hb hX hbl hbA hS (vp_in_nI (by omega) (by omega)) dL_law_412 ?_
  refine W.eq (g2 := F0 m 413 ls [.int (xs ((5 * k) + 2)), .int (xs ((5 * k) + 1)), .ref x]) (by rw [nI_clamp (by omega)]) ?_
  refine lv_aload_n hx hb dL_law_413 rfl (lv_at hl 0 rfl) ?_
  refine lv_iload hx hb dL_law_414 (lv_at hl 4 rfl) ?_
  refine lv_iconst (v := 3) hx hb dL_law_416 (by decide) ?_
  refine lv_iadd hx hb dL_law_417 ?_
  refine lv_topi (fun z_3 ez_3 => ?_)
  obtain rfl : z_3 = nI ((5 * k) + 3) := ez_3.trans (by rw [show (3 : Int32) = nI 3 from rfl, nI_add])
  refine va_sld (i := nI ((5 * k) + 3)) hx hb hX hbl hbA hS (vp_in_nI (by omega) (by omega)) dL_law_418 ?_
  refine W.eq (g2 := F0 m 419 ls [.int (xs ((5 * k) + 3)), .int (xs ((5 * k) + 2)), .int (xs ((5 * k) + 1)), .ref x]) (by rw [nI_clamp (by omega)]) ?_
  refine lv_aload_n hx hb dL_law_419 rfl (lv_at hl 3 rfl) ?_
  have hAl := lA_A hAe hlo hS.1 hAo
  have hS0 := hS.1
  refine va_calli (vx_runSW (As := [.ref x, .int (xs ((5 * k) + 1)), .int (xs ((5 * k) + 2)), .int (xs ((5 * k) + 3)), .ref qo]) (rest := []) ⟨hx, hb, hml, hown, hts⟩ (c_L_item l hlt dC dI H.size (hT H) ⟨dep, hF9, hda⟩ qo co f0 (xs ((5 * k) + 1)) (xs ((5 * k) + 2)) (xs ((5 * k) + 3))) (vx_cwSW 5 hts gP_law_L_item rfl rfl rfl (by decide +kernel) ⟨(Nat.le_of_ble_eq_true rfl), (Nat.le_of_ble_eq_true rfl)⟩) ⟨lPre_blind, lPre_call hI hN hM (hZ.kept hS.2.1) hAl hPo hKo hoq⟩ rfl rfl hl.1 rfl (lv_room (Nat.le_of_ble_eq_true rfl)) dL_law_420 ⟨(show 2000 + 150 * k + 2 ≤ 601024 by omega), (show 100000 + 12700 * k + 12 ≤ 7293034 by omega)⟩) hS (fun q _ z => hAl q z) hAl (fun kc u9 t H1 locs ht hvm hw hB hz1 hk1 hS => ?_)
  obtain ⟨f1, bq1, ow1, rx1, cr1, b1, b4, b8, b11⟩ := u9
  obtain ⟨⟨hI, hpos, hc1, hc2⟩, hPo, hKo, hoq⟩ := hB
  dsimp only at hw hI hpos hc1 hc2 hPo hKo hoq
  rw [ht] at hI hc1 hc2 hPo
  have hI : aI (dC, dI) s H1 x qb cq bq1 ow1 rx1 cr1 b1 b4 b8 b11 := aI_moved hvm.symm hI
  have hKo := va_K.moved hvm.symm hKo
  have hwc := hw
  have hoz1 : ∀ q ∈ [h0, q1, q2, q3, q4, q5, q6, q7, q8, q9, q10, q11, q12, q13, q14, q15, q16], ow1 q = 0 ∧ q ≠ qo := oz_call hoz (P_lt hP rfl) hpos
  have hP : va_P (dC, dI) vwCl [(h0, .inr (8, [.int th, .ref q1, .ref q2, .ref q3, .ref q4, .ref q5, .ref q6, .ref q7, .ref q8, .ref q9, .ref q10, .ref q11, .ref q12, .ref q13, .ref q14, .ref q15, .ref q16])), (q1, .inl (c1, 16, .inl a1)), (q2, .inl (c2, 67200, .inl a2)), (q3, .inl (c3, 16, .inl a3)), (q4, .inl (c4, 16, .inl a4)), (q5, .inl (c5, 16, .inl a5)), (q6, .inl (c6, 16, .inl a6)), (q7, .inl (c7, 16, .inl a7)), (q8, .inl (c8, 16, .inl a8)), (q9, .inl (c9, 16, .inl a9)), (q10, .inl (c10, 16, .inl a10)), (q11, .inl (c11, 16, .inl a11)), (q12, .inl (c12, 16, .inl a12)), (q13, .inl (c13, 1000, .inl a13)), (q14, .inl (c14, 1000, .inl a14)), (q15, .inl (c15, 4096, .inl a15)), (q16, .inl (c16, 16, .inl a16))] H1 := P_law hP rfl hoz hk1
  have hlo : ∀ q : Nat, 0 < ow1 q → s.heap.size ≤ q := fun q z => (hpos q z).elim (hlo q) (fun z => Nat.le_trans hS0 z)
  replace hoz := hoz1
  refine W.book2 (fun hz8 hn8 hz7 hn7 => ?_)
  obtain ⟨kw, ekw⟩ : ∃ z : Nat, z = H1.size - s.heap.size := ⟨_, rfl⟩
  obtain ⟨nw, enw⟩ : ∃ z : Nat, z = hT H1 - hT s.heap := ⟨_, rfl⟩
  have hkw : kw ≤ 2000 + 150 * (k + 1) := by omega
  have hnw : nw + sumN cr1 16 ≤ 100000 + 12700 * (k + 1) := by omega
  refine W.tight (k := kw) (n := nw) (by omega) (by omega) ?_
  clear ekw enw hz8 hn8 hz7 hn7 hc1 hc2 hk1 hz1 ht hw hAl hS0 hTb hSz
  generalize H1 = H at hP hPo hI hS ⊢
  refine W.eq (g2 := F0 m 423 ls [.int kc]) rfl ?_
  refine lv_istore (lv' := [(5, .int kc), (0, .ref b), (1, .ref x), (2, .ref h0), (3, .ref qo), (4, .int (nI (5 * k)))]) hx hb dL_law_423 hl (by decide) rfl (fun ls hl => ?_)
  refine lv_aload_n hx hb dL_law_425 rfl (lv_at hl 3 rfl) ?_
  refine lv_aload_n hx hb dL_law_426 rfl (lv_at hl 1 rfl) ?_
  refine lv_iload hx hb dL_law_427 (lv_at hl 5 rfl) ?_
  refine lv_iconst (v := 1) hx hb dL_law_429 (by decide) ?_
  refine lv_iadd hx hb dL_law_430 ?_
  refine lv_topi (fun z_4 ez_4 => ?_)
  obtain rfl : z_4 = nI ((5 * k) + 1) := ez_4.trans (by rw [show (1 : Int32) = nI 1 from rfl, nI_add])
  refine va_sld (i := nI ((5 * k) + 1)) hx hb hX hbl hbA hS (vp_in_nI (by omega) (by omega)) dL_law_431 ?_
  refine W.eq (g2 := F0 m 432 ls [.int (xs ((5 * k) + 1)), .ref h0]) (by rw [nI_clamp (by omega)]) ?_
  refine lv_aload_n hx hb dL_law_432 rfl (lv_at hl 1 rfl) ?_
  refine lv_iload hx hb dL_law_433 (lv_at hl 5 rfl) ?_
  refine lv_iconst (v := 2) hx hb dL_law_435 (by decide) ?_
  refine lv_iadd hx hb dL_law_436 ?_
  refine lv_topi (fun z_5 ez_5 => ?_)
  obtain rfl : z_5 = nI ((5 * k) + 2) := ez_5.trans (by rw [show (2 : Int32) = nI 2 from rfl, nI_add])
  refine va_sld (i := nI ((5 * k) + 2)) hx hb hX hbl hbA hS (vp_in_nI (by omega) (by omega)) dL_law_437 ?_
  refine W.eq (g2 := F0 m 438 ls [.int (xs ((5 * k) + 2)), .int (xs ((5 * k) + 1)), .ref h0]) (by rw [nI_clamp (by omega)]) ?_
  refine lv_aload_n hx hb dL_law_438 rfl (lv_at hl 1 rfl) ?_
  refine lv_iload hx hb dL_law_439 (lv_at hl 5 rfl) ?_
  refine lv_iconst (v := 3) hx hb dL_law_441 (by decide) ?_
  refine lv_iadd hx hb dL_law_442 ?_
  refine lv_topi (fun z_6 ez_6 => ?_)
  obtain rfl : z_6 = nI ((5 * k) + 3) := ez_6.trans (by rw [show (3 : Int32) = nI 3 from rfl, nI_add])
  refine va_sld (i := nI ((5 * k) + 3)) hx hb hX hbl hbA hS (vp_in_nI (by omega) (by omega)) dL_law_443 ?_
  refine W.eq (g2 := F0 m 444 ls [.int (xs ((5 * k) + 3)), .int (xs ((5 * k) + 2)), .int (xs ((5 * k) + 1)), .ref h0]) (by rw [nI_clamp (by omega)]) ?_
  have hPc := hP.sub (ws' := [(h0, .inr (8, [.int th, .ref q1, .ref q2, .ref q3, .ref q4, .ref q5, .ref q6, .ref q7, .ref q8, .ref q9, .ref q10, .ref q11, .ref q12, .ref q13, .ref q14, .ref q15, .ref q16])), (q1, .inl (c1, 16, .inl a1)), (q2, .inl (c2, 67200, .inl a2)), (q3, .inl (c3, 16, .inl a3)), (q4, .inl (c4, 16, .inl a4)), (q8, .inl (c8, 16, .inl a8)), (q9, .inl (c9, 16, .inl a9)), (q10, .inl (c10, 16, .inl a10)), (q11, .inl (c11, 16, .inl a11))]) [0, 1, 2, 3, 4, 8, 9, 10, 11] rfl
  have hDc := hD.sub (ws' := [(h0, .inr (8, [.int th, .ref q1, .ref q2, .ref q3, .ref q4, .ref q5, .ref q6, .ref q7, .ref q8, .ref q9, .ref q10, .ref q11, .ref q12, .ref q13, .ref q14, .ref q15, .ref q16])), (q1, .inl (c1, 16, .inl a1)), (q2, .inl (c2, 67200, .inl a2)), (q3, .inl (c3, 16, .inl a3)), (q4, .inl (c4, 16, .inl a4)), (q8, .inl (c8, 16, .inl a8)), (q9, .inl (c9, 16, .inl a9)), (q10, .inl (c10, 16, .inl a10)), (q11, .inl (c11, 16, .inl a11))]) [0, 1, 2, 3, 4, 8, 9, 10, 11] (by decide) rfl
  have hKc := hK.sub (tys' := [(c1, .int), (c2, .int), (c3, .int), (c4, .int), (c8, .int), (c9, .int), (c10, .int), (c11, .int)]) [0, 1, 2, 3, 7, 8, 9, 10] rfl
  have hFc := va_free (wc := [(h0, .inr (8, [.int th, .ref q1, .ref q2, .ref q3, .ref q4, .ref q5, .ref q6, .ref q7, .ref q8, .ref q9, .ref q10, .ref q11, .ref q12, .ref q13, .ref q14, .ref q15, .ref q16])), (q1, .inl (c1, 16, .inl a1)), (q2, .inl (c2, 67200, .inl a2)), (q3, .inl (c3, 16, .inl a3)), (q4, .inl (c4, 16, .inl a4)), (q8, .inl (c8, 16, .inl a8)), (q9, .inl (c9, 16, .inl a9)), (q10, .inl (c10, 16, .inl a10)), (q11, .inl (c11, 16, .inl a11))]) hD hS hA [0, 1, 2, 3, 4, 8, 9, 10, 11] rfl
  refine va_calll (va_runV (As := [.int (xs ((5 * k) + 1)), .int (xs ((5 * k) + 2)), .int (xs ((5 * k) + 3))]) (rest := []) ⟨hx, hb, hml, hown, hts⟩ (c_X8_item l  dC dI H.size h0 th q1 q2 q3 q4 q8 q9 q10 q11 c1 c2 c3 c4 c8 c9 c10 c11 a1 a2 a3 a4 a8 a9 a10 a11 (.ref q5) (.ref q6) (.ref q7) (.ref q12) (.ref q13) (.ref q14) (.ref q15) (.ref q16) dep (xs ((5 * k) + 1)) (xs ((5 * k) + 2)) (xs ((5 * k) + 3)) hF9 hda (fun r hr h1 h2 => by obtain ⟨nz, tb, fi, e1, e2, e3, -⟩ := hMa r hr h1 h2; exact ⟨nz, e1, e3⟩)) (cwV 3 hts gP_law_X8_item rfl rfl rfl (by decide +kernel) ⟨(Nat.le_of_ble_eq_true rfl), (Nat.le_of_ble_eq_true rfl)⟩) ⟨pk_blind, va_recv hKc hPc (ci := 8) (q0 := 0) rfl rfl, pk_call hPc hKc hDc⟩ rfl rfl hl.1 rfl (lv_room (Nat.le_of_ble_eq_true rfl)) dL_law_444 ⟨(show kw + 0 ≤ 601024 by omega), (show nw + 0 ≤ 7293034 by omega)⟩) hS (fun q _ h => hFc q h) hFc (fun r_7 ur_7 t H1 locs ht hvm hw hB hz1 hk1 hS => ?_)
  try dsimp only at hw
  have jr_7 := hw
  have hI := aI_kept hI (fun q z1 z2 => hk1 q z1 (na2 (oz_sub (ws := [(h0, .inr (8, [.int th, .ref q1, .ref q2, .ref q3, .ref q4, .ref q5, .ref q6, .ref q7, .ref q8, .ref q9, .ref q10, .ref q11, .ref q12, .ref q13, .ref q14, .ref q15, .ref q16])), (q1, .inl (c1, 16, .inl a1)), (q2, .inl (c2, 67200, .inl a2)), (q3, .inl (c3, 16, .inl a3)), (q4, .inl (c4, 16, .inl a4)), (q8, .inl (c8, 16, .inl a8)), (q9, .inl (c9, 16, .inl a9)), (q10, .inl (c10, 16, .inl a10)), (q11, .inl (c11, 16, .inl a11))]) hoz [0, 1, 2, 3, 4, 8, 9, 10, 11] rfl) z1 (Or.inl z2)))
  have hPo : va_P (dC, dI) vwCl [(qo, .inl (co, 1, .inr (.inl f1)))] H1 := P_kept hPo (List.forall_mem_cons.mpr ⟨(fun (z : qo < _) => hk1 qo z (na2 (oz_sub (ws := [(h0, .inr (8, [.int th, .ref q1, .ref q2, .ref q3, .ref q4, .ref q5, .ref q6, .ref q7, .ref q8, .ref q9, .ref q10, .ref q11, .ref q12, .ref q13, .ref q14, .ref q15, .ref q16])), (q1, .inl (c1, 16, .inl a1)), (q2, .inl (c2, 67200, .inl a2)), (q3, .inl (c3, 16, .inl a3)), (q4, .inl (c4, 16, .inl a4)), (q8, .inl (c8, 16, .inl a8)), (q9, .inl (c9, 16, .inl a9)), (q10, .inl (c10, 16, .inl a10)), (q11, .inl (c11, 16, .inl a11))]) hoz [0, 1, 2, 3, 4, 8, 9, 10, 11] rfl) z (Or.inr rfl))), fun _ h => absurd h List.not_mem_nil⟩)
  obtain ⟨hP1, hK1, hD1⟩ := hB
  rw [ht] at hP1
  have hK1 := va_K.moved hvm.symm hK1
  obtain ⟨hP, hD⟩ := va_join (wr := [(q5, .inl (c5, 16, .inl a5)), (q6, .inl (c6, 16, .inl a6)), (q7, .inl (c7, 16, .inl a7)), (q12, .inl (c12, 16, .inl a12)), (q13, .inl (c13, 1000, .inl a13)), (q14, .inl (c14, 1000, .inl a14)), (q15, .inl (c15, 4096, .inl a15)), (q16, .inl (c16, 16, .inl a16))]) (w1 := [(h0, .inr (8, [.int ur_7, .ref q1, .ref q2, .ref q3, .ref q4, .ref q5, .ref q6, .ref q7, .ref q8, .ref q9, .ref q10, .ref q11, .ref q12, .ref q13, .ref q14, .ref q15, .ref q16])), (q1, .inl (c1, 16, .inl a1)), (q2, .inl (c2, 67200, .inl a2)), (q3, .inl (c3, 16, .inl a3)), (q4, .inl (c4, 16, .inl a4)), (q8, .inl (c8, 16, .inl a8)), (q9, .inl (c9, 16, .inl a9)), (q10, .inl (c10, 16, .inl a10)), (q11, .inl (c11, 16, .inl a11))]) hP hD [0, 1, 2, 3, 4, 8, 9, 10, 11] [5, 6, 7, 12, 13, 14, 15, 16] rfl rfl (by decide) (by decide) hk1 hFc hP1 hD1
  clear hk1 hz1 ht hPc hDc hKc hFc
  generalize H1 = H at hP hS hI hPo ⊢
  replace hP : va_P (dC, dI) vwCl [(q5, .inl (c5, 16, .inl a5)), (q6, .inl (c6, 16, .inl a6)), (q7, .inl (c7, 16, .inl a7)), (q12, .inl (c12, 16, .inl a12)), (q13, .inl (c13, 1000, .inl a13)), (q14, .inl (c14, 1000, .inl a14)), (q15, .inl (c15, 4096, .inl a15)), (q16, .inl (c16, 16, .inl a16)), (h0, .inr (8, [.int ur_7, .ref q1, .ref q2, .ref q3, .ref q4, .ref q5, .ref q6, .ref q7, .ref q8, .ref q9, .ref q10, .ref q11, .ref q12, .ref q13, .ref q14, .ref q15, .ref q16])), (q1, .inl (c1, 16, .inl a1)), (q2, .inl (c2, 67200, .inl a2)), (q3, .inl (c3, 16, .inl a3)), (q4, .inl (c4, 16, .inl a4)), (q8, .inl (c8, 16, .inl a8)), (q9, .inl (c9, 16, .inl a9)), (q10, .inl (c10, 16, .inl a10)), (q11, .inl (c11, 16, .inl a11))] H := hP
  replace hD : va_D A [(q5, .inl (c5, 16, .inl a5)), (q6, .inl (c6, 16, .inl a6)), (q7, .inl (c7, 16, .inl a7)), (q12, .inl (c12, 16, .inl a12)), (q13, .inl (c13, 1000, .inl a13)), (q14, .inl (c14, 1000, .inl a14)), (q15, .inl (c15, 4096, .inl a15)), (q16, .inl (c16, 16, .inl a16)), (h0, .inr (8, [.int ur_7, .ref q1, .ref q2, .ref q3, .ref q4, .ref q5, .ref q6, .ref q7, .ref q8, .ref q9, .ref q10, .ref q11, .ref q12, .ref q13, .ref q14, .ref q15, .ref q16])), (q1, .inl (c1, 16, .inl a1)), (q2, .inl (c2, 67200, .inl a2)), (q3, .inl (c3, 16, .inl a3)), (q4, .inl (c4, 16, .inl a4)), (q8, .inl (c8, 16, .inl a8)), (q9, .inl (c9, 16, .inl a9)), (q10, .inl (c10, 16, .inl a10)), (q11, .inl (c11, 16, .inl a11))] := hD
  refine W.widen (k := kw) (n := nw) (by omega) (by omega) ?_
  refine W.eq (g2 := F0 m 447 ls [.long r_7]) rfl ?_
  refine lv_lstore (lv' := [(6, .long r_7), (5, .int kc), (0, .ref b), (1, .ref x), (2, .ref h0), (3, .ref qo), (4, .int (nI (5 * k)))]) hx hb dL_law_447 hl (by decide) rfl (fun ls hl => ?_)
  refine lv_goto (tgt := 480) hx hb dL_law_449 (by decide) ?_
  obtain ⟨e1, e4, e8, e11, hR⟩ := fin_item hR (by omega) hwc jr_7
  rw [e1, e4, e8, e11] at hI
  refine W.book (fun hz9 hn9 => ?_)
  refine W.widen (k := (2000 + 150 * (k + 1))) (n := (100000 + 12700 * (k + 1))) (by omega) (by omega) ?_
  have hR9 : RInv (2000 * (k + 1)) a1 a2 a3 a4 a6 a7 a8 a9 a10 a11 a12 := hR
  exact hnext H locs ls ⟨qb, cq, bq1, ow1, rx1, cr1, co, f1, ur_7, q1, q2, q3, q4, q5, q6, q7, q8, q9, q10, q11, q12, q13, q14, q15, q16, c1, c2, c3, c4, c5, c6, c7, c8, c9, c10, c11, c12, c13, c14, c15, c16, a1, a2, a3, a4, a5, a6, a7, a8, a9, a10, a11, a12, a13, a14, a15, a16, hP.sub (ws' := [(h0, .inr (8, [.int ur_7, .ref q1, .ref q2, .ref q3, .ref q4, .ref q5, .ref q6, .ref q7, .ref q8, .ref q9, .ref q10, .ref q11, .ref q12, .ref q13, .ref q14, .ref q15, .ref q16])), (q1, .inl (c1, 16, .inl a1)), (q2, .inl (c2, 67200, .inl a2)), (q3, .inl (c3, 16, .inl a3)), (q4, .inl (c4, 16, .inl a4)), (q5, .inl (c5, 16, .inl a5)), (q6, .inl (c6, 16, .inl a6)), (q7, .inl (c7, 16, .inl a7)), (q8, .inl (c8, 16, .inl a8)), (q9, .inl (c9, 16, .inl a9)), (q10, .inl (c10, 16, .inl a10)), (q11, .inl (c11, 16, .inl a11)), (q12, .inl (c12, 16, .inl a12)), (q13, .inl (c13, 1000, .inl a13)), (q14, .inl (c14, 1000, .inl a14)), (q15, .inl (c15, 4096, .inl a15)), (q16, .inl (c16, 16, .inl a16))]) [8, 9, 10, 11, 12, 0, 1, 2, 13, 14, 15, 16, 3, 4, 5, 6, 7] rfl, hK.sub (tys' := [(c1, .int), (c2, .int), (c3, .int), (c4, .int), (c5, .int), (c6, .int), (c7, .int), (c8, .int), (c9, .int), (c10, .int), (c11, .int), (c12, .int), (c13, .int), (c14, .int), (c15, .boolean), (c16, .boolean)]) [0, 1, 2, 3, 4, 5, 6, 7, 8, 9, 10, 11, 12, 13, 14, 15] rfl, hD.sub (ws' := [(h0, .inr (8, [.int ur_7, .ref q1, .ref q2, .ref q3, .ref q4, .ref q5, .ref q6, .ref q7, .ref q8, .ref q9, .ref q10, .ref q11, .ref q12, .ref q13, .ref q14, .ref q15, .ref q16])), (q1, .inl (c1, 16, .inl a1)), (q2, .inl (c2, 67200, .inl a2)), (q3, .inl (c3, 16, .inl a3)), (q4, .inl (c4, 16, .inl a4)), (q5, .inl (c5, 16, .inl a5)), (q6, .inl (c6, 16, .inl a6)), (q7, .inl (c7, 16, .inl a7)), (q8, .inl (c8, 16, .inl a8)), (q9, .inl (c9, 16, .inl a9)), (q10, .inl (c10, 16, .inl a10)), (q11, .inl (c11, 16, .inl a11)), (q12, .inl (c12, 16, .inl a12)), (q13, .inl (c13, 1000, .inl a13)), (q14, .inl (c14, 1000, .inl a14)), (q15, .inl (c15, 4096, .inl a15)), (q16, .inl (c16, 16, .inl a16))]) [8, 9, 10, 11, 12, 0, 1, 2, 13, 14, 15, 16, 3, 4, 5, 6, 7] (by decide) rfl, hPo, hKo, hAo, hoq, hI, hoz, hlo, hR9, by omega, by omega⟩ hS (lv_sub hl [2, 3, 4, 5, 6] rfl)
set_option maxHeartbeats 4000000 in
set_option maxRecDepth 100000 in
/-- the law: a call of count -/
theorem law_count {p : Program} {e : Env} {s : State} {m : MethodId} {below : List Frame} {meth : Method} {c : Code} (l : Launch) (hlt : l.stackTraces = false) {b L : Nat} {xs : Nat → Int32} (hL : L ≤ 2560) (C0 : lw_At p s m meth c b L xs) (dC : Nat → ClassId) (dI : Nat → Nat → Nat) (hN : p_N s) (hM : p_M s) (A : Nat → Prop) (hAe : A = (fun q : Nat => s.heap.size ≤ q)) (hZ : p_Z A s s.heap) {x h0 qo k : Nat} {H : Heap} {locs : List Loc} {ls : Array Slot} (hk : 5 * k + 5 ≤ L) (J : lawI (dC, dI) s A x h0 qo k H) (hS : va_S A s.heap H locs) (hl : lv_has ls 8 [(0, .ref b), (1, .ref x), (2, .ref h0), (3, .ref qo), (4, .int (nI (5 * k)))]) (hnext : ∀ (H1 : Heap) (locs1 : List Loc) (ls1 : Array Slot), lawI (dC, dI) s A x h0 qo (k + 1) H1 → va_S A s.heap H1 locs1 → lv_has ls1 8 [(0, .ref b), (1, .ref x), (2, .ref h0), (3, .ref qo), (4, .int (nI (5 * k)))] → W p l e room_1 s m #[Value.ref b] below meth c H1 locs1 (2000 + 150 * (k + 1)) (100000 + 12700 * (k + 1)) (lw_Z below #[Value.ref b] s) (F0 m 480 ls1 [])) : W p l e room_1 s m #[Value.ref b] below meth c H locs (2000 + 150 * k) (100000 + 12700 * k) (lw_Z below #[Value.ref b] s) (F0 m 452 ls []) := by
  obtain ⟨hx, hb, hr, hml, hown, hts, hX, hbl, hlocks, hgv⟩ := id C0
  have hown : s.vm.findClass RL = some m.cls := hown
  have hts := lwx_hts hts
  have hA : ∀ q : Nat, s.heap.size ≤ q → A q := fun q h => by rw [hAe]; exact h
  have hbA : ¬ A b := by rw [hAe]; exact Nat.not_le.mpr hbl
  obtain ⟨qb, cq, bq, ow, rx, cr, co, f0, th, q1, q2, q3, q4, q5, q6, q7, q8, q9, q10, q11, q12, q13, q14, q15, q16, c1, c2, c3, c4, c5, c6, c7, c8, c9, c10, c11, c12, c13, c14, c15, c16, a1, a2, a3, a4, a5, a6, a7, a8, a9, a10, a11, a12, a13, a14, a15, a16, hP, hK, hD, hPo, hKo, hAo, hoq, hI, hoz, hlo, hR, hTb, hSz⟩ := J
  obtain ⟨⟨dep, hF9, hda⟩, hr2, hMa, hB7, hCa⟩ := id hR
  refine lv_aload_n hx hb dL_law_452 rfl (lv_at hl 1 rfl) ?_
  refine lv_aload_n hx hb dL_law_453 rfl (lv_at hl 0 rfl) ?_
  refine lv_iload hx hb dL_law_454 (lv_at hl 4 rfl) ?_
  refine lv_iconst (v := 1) hx hb dL_law_456 (by decide) ?_
  refine lv_iadd hx hb dL_law_457 ?_
  refine lv_topi (fun z_1 ez_1 => ?_)
  obtain rfl : z_1 = nI ((5 * k) + 1) := ez_1.trans (by rw [show (1 : Int32) = nI 1 from rfl, nI_add])
  refine va_sld (i := nI ((5 * k) + 1)) hx hb hX hbl hbA hS (vp_in_nI (by omega) (by omega)) dL_law_458 ?_
  refine W.eq (g2 := F0 m 459 ls [.int (xs ((5 * k) + 1)), .ref x]) (by rw [nI_clamp (by omega)]) ?_
  refine lv_aload_n hx hb dL_law_459 rfl (lv_at hl 3 rfl) ?_
  have hAl := lA_A hAe hlo hS.1 hAo
  have hS0 := hS.1
  refine va_calli (vx_runSW (As := [.ref x, .int (xs ((5 * k) + 1)), .ref qo]) (rest := []) ⟨hx, hb, hml, hown, hts⟩ (c_L_count l hlt dC dI H.size (hT H) ⟨dep, hF9, hda⟩ qo co f0 (xs ((5 * k) + 1))) (vx_cwSW 3 hts gP_law_L_count rfl rfl rfl (by decide +kernel) ⟨(Nat.le_of_ble_eq_true rfl), (Nat.le_of_ble_eq_true rfl)⟩) ⟨lPre_blind, lPre_call hI hN hM (hZ.kept hS.2.1) hAl hPo hKo hoq⟩ rfl rfl hl.1 rfl (lv_room (Nat.le_of_ble_eq_true rfl)) dL_law_460 ⟨(show 2000 + 150 * k + 1 ≤ 601024 by omega), (show 100000 + 12700 * k + 6 ≤ 7293034 by omega)⟩) hS (fun q _ z => hAl q z) hAl (fun kc u9 t H1 locs ht hvm hw hB hz1 hk1 hS => ?_)
  obtain ⟨f1, bq1, ow1, rx1, cr1, b1, b4, b8, b11⟩ := u9
  obtain ⟨⟨hI, hpos, hc1, hc2⟩, hPo, hKo, hoq⟩ := hB
  dsimp only at hw hI hpos hc1 hc2 hPo hKo hoq
  rw [ht] at hI hc1 hc2 hPo
  have hI : aI (dC, dI) s H1 x qb cq bq1 ow1 rx1 cr1 b1 b4 b8 b11 := aI_moved hvm.symm hI
  have hKo := va_K.moved hvm.symm hKo
  have hwc := hw
  have hoz1 : ∀ q ∈ [h0, q1, q2, q3, q4, q5, q6, q7, q8, q9, q10, q11, q12, q13, q14, q15, q16], ow1 q = 0 ∧ q ≠ qo := oz_call hoz (P_lt hP rfl) hpos
  have hP : va_P (dC, dI) vwCl [(h0, .inr (8, [.int th, .ref q1, .ref q2, .ref q3, .ref q4, .ref q5, .ref q6, .ref q7, .ref q8, .ref q9, .ref q10, .ref q11, .ref q12, .ref q13, .ref q14, .ref q15, .ref q16])), (q1, .inl (c1, 16, .inl a1)), (q2, .inl (c2, 67200, .inl a2)), (q3, .inl (c3, 16, .inl a3)), (q4, .inl (c4, 16, .inl a4)), (q5, .inl (c5, 16, .inl a5)), (q6, .inl (c6, 16, .inl a6)), (q7, .inl (c7, 16, .inl a7)), (q8, .inl (c8, 16, .inl a8)), (q9, .inl (c9, 16, .inl a9)), (q10, .inl (c10, 16, .inl a10)), (q11, .inl (c11, 16, .inl a11)), (q12, .inl (c12, 16, .inl a12)), (q13, .inl (c13, 1000, .inl a13)), (q14, .inl (c14, 1000, .inl a14)), (q15, .inl (c15, 4096, .inl a15)), (q16, .inl (c16, 16, .inl a16))] H1 := P_law hP rfl hoz hk1
  have hlo : ∀ q : Nat, 0 < ow1 q → s.heap.size ≤ q := fun q z => (hpos q z).elim (hlo q) (fun z => Nat.le_trans hS0 z)
  replace hoz := hoz1
  refine W.book2 (fun hz8 hn8 hz7 hn7 => ?_)
  obtain ⟨kw, ekw⟩ : ∃ z : Nat, z = H1.size - s.heap.size := ⟨_, rfl⟩
  obtain ⟨nw, enw⟩ : ∃ z : Nat, z = hT H1 - hT s.heap := ⟨_, rfl⟩
  have hkw : kw ≤ 2000 + 150 * (k + 1) := by omega
  have hnw : nw + sumN cr1 16 ≤ 100000 + 12700 * (k + 1) := by omega
  refine W.tight (k := kw) (n := nw) (by omega) (by omega) ?_
  clear ekw enw hz8 hn8 hz7 hn7 hc1 hc2 hk1 hz1 ht hw hAl hS0 hTb hSz
  generalize H1 = H at hP hPo hI hS ⊢
  refine W.eq (g2 := F0 m 463 ls [.int kc]) rfl ?_
  refine lv_istore (lv' := [(5, .int kc), (0, .ref b), (1, .ref x), (2, .ref h0), (3, .ref qo), (4, .int (nI (5 * k)))]) hx hb dL_law_463 hl (by decide) rfl (fun ls hl => ?_)
  refine lv_aload_n hx hb dL_law_465 rfl (lv_at hl 3 rfl) ?_
  refine lv_aload_n hx hb dL_law_466 rfl (lv_at hl 1 rfl) ?_
  refine lv_iload hx hb dL_law_467 (lv_at hl 5 rfl) ?_
  refine lv_iconst (v := 1) hx hb dL_law_469 (by decide) ?_
  refine lv_iadd hx hb dL_law_470 ?_
  refine lv_topi (fun z_2 ez_2 => ?_)
  obtain rfl : z_2 = nI ((5 * k) + 1) := ez_2.trans (by rw [show (1 : Int32) = nI 1 from rfl, nI_add])
  refine va_sld (i := nI ((5 * k) + 1)) hx hb hX hbl hbA hS (vp_in_nI (by omega) (by omega)) dL_law_471 ?_
  refine W.eq (g2 := F0 m 472 ls [.int (xs ((5 * k) + 1)), .ref h0]) (by rw [nI_clamp (by omega)]) ?_
  have hPc := hP.sub (ws' := [(h0, .inr (8, [.int th, .ref q1, .ref q2, .ref q3, .ref q4, .ref q5, .ref q6, .ref q7, .ref q8, .ref q9, .ref q10, .ref q11, .ref q12, .ref q13, .ref q14, .ref q15, .ref q16])), (q1, .inl (c1, 16, .inl a1)), (q2, .inl (c2, 67200, .inl a2)), (q3, .inl (c3, 16, .inl a3)), (q4, .inl (c4, 16, .inl a4)), (q8, .inl (c8, 16, .inl a8)), (q9, .inl (c9, 16, .inl a9)), (q10, .inl (c10, 16, .inl a10)), (q11, .inl (c11, 16, .inl a11))]) [0, 1, 2, 3, 4, 8, 9, 10, 11] rfl
  have hDc := hD.sub (ws' := [(h0, .inr (8, [.int th, .ref q1, .ref q2, .ref q3, .ref q4, .ref q5, .ref q6, .ref q7, .ref q8, .ref q9, .ref q10, .ref q11, .ref q12, .ref q13, .ref q14, .ref q15, .ref q16])), (q1, .inl (c1, 16, .inl a1)), (q2, .inl (c2, 67200, .inl a2)), (q3, .inl (c3, 16, .inl a3)), (q4, .inl (c4, 16, .inl a4)), (q8, .inl (c8, 16, .inl a8)), (q9, .inl (c9, 16, .inl a9)), (q10, .inl (c10, 16, .inl a10)), (q11, .inl (c11, 16, .inl a11))]) [0, 1, 2, 3, 4, 8, 9, 10, 11] (by decide) rfl
  have hKc := hK.sub (tys' := [(c1, .int), (c2, .int), (c3, .int), (c4, .int), (c8, .int), (c9, .int), (c10, .int), (c11, .int)]) [0, 1, 2, 3, 7, 8, 9, 10] rfl
  have hFc := va_free (wc := [(h0, .inr (8, [.int th, .ref q1, .ref q2, .ref q3, .ref q4, .ref q5, .ref q6, .ref q7, .ref q8, .ref q9, .ref q10, .ref q11, .ref q12, .ref q13, .ref q14, .ref q15, .ref q16])), (q1, .inl (c1, 16, .inl a1)), (q2, .inl (c2, 67200, .inl a2)), (q3, .inl (c3, 16, .inl a3)), (q4, .inl (c4, 16, .inl a4)), (q8, .inl (c8, 16, .inl a8)), (q9, .inl (c9, 16, .inl a9)), (q10, .inl (c10, 16, .inl a10)), (q11, .inl (c11, 16, .inl a11))]) hD hS hA [0, 1, 2, 3, 4, 8, 9, 10, 11] rfl
  refine va_calli (va_runV (As := [.int (xs ((5 * k) + 1))]) (rest := []) ⟨hx, hb, hml, hown, hts⟩ (c_X8_count l  dC dI H.size h0 th q1 q2 q3 q4 q8 q9 q10 q11 c1 c2 c3 c4 c8 c9 c10 c11 a1 a2 a3 a4 a8 a9 a10 a11 (.ref q5) (.ref q6) (.ref q7) (.ref q12) (.ref q13) (.ref q14) (.ref q15) (.ref q16) dep (xs ((5 * k) + 1)) hF9 hda (fun r hr h1 h2 => by obtain ⟨nz, tb, fi, e1, e2, e3, -⟩ := hMa r hr h1 h2; exact ⟨nz, e1, e3⟩)) (cwV 1 hts gP_law_X8_count rfl rfl rfl (by decide +kernel) ⟨(Nat.le_of_ble_eq_true rfl), (Nat.le_of_ble_eq_true rfl)⟩) ⟨pk_blind, va_recv hKc hPc (ci := 8) (q0 := 0) rfl rfl, pk_call hPc hKc hDc⟩ rfl rfl hl.1 rfl (lv_room (Nat.le_of_ble_eq_true rfl)) dL_law_472 ⟨(show kw + 0 ≤ 601024 by omega), (show nw + 0 ≤ 7293034 by omega)⟩) hS (fun q _ h => hFc q h) hFc (fun r_3 ur_3 t H1 locs ht hvm hw hB hz1 hk1 hS => ?_)
  try dsimp only at hw
  have jr_3 := hw
  have hI := aI_kept hI (fun q z1 z2 => hk1 q z1 (na2 (oz_sub (ws := [(h0, .inr (8, [.int th, .ref q1, .ref q2, .ref q3, .ref q4, .ref q5, .ref q6, .ref q7, .ref q8, .ref q9, .ref q10, .ref q11, .ref q12, .ref q13, .ref q14, .ref q15, .ref q16])), (q1, .inl (c1, 16, .inl a1)), (q2, .inl (c2, 67200, .inl a2)), (q3, .inl (c3, 16, .inl a3)), (q4, .inl (c4, 16, .inl a4)), (q8, .inl (c8, 16, .inl a8)), (q9, .inl (c9, 16, .inl a9)), (q10, .inl (c10, 16, .inl a10)), (q11, .inl (c11, 16, .inl a11))]) hoz [0, 1, 2, 3, 4, 8, 9, 10, 11] rfl) z1 (Or.inl z2)))
  have hPo : va_P (dC, dI) vwCl [(qo, .inl (co, 1, .inr (.inl f1)))] H1 := P_kept hPo (List.forall_mem_cons.mpr ⟨(fun (z : qo < _) => hk1 qo z (na2 (oz_sub (ws := [(h0, .inr (8, [.int th, .ref q1, .ref q2, .ref q3, .ref q4, .ref q5, .ref q6, .ref q7, .ref q8, .ref q9, .ref q10, .ref q11, .ref q12, .ref q13, .ref q14, .ref q15, .ref q16])), (q1, .inl (c1, 16, .inl a1)), (q2, .inl (c2, 67200, .inl a2)), (q3, .inl (c3, 16, .inl a3)), (q4, .inl (c4, 16, .inl a4)), (q8, .inl (c8, 16, .inl a8)), (q9, .inl (c9, 16, .inl a9)), (q10, .inl (c10, 16, .inl a10)), (q11, .inl (c11, 16, .inl a11))]) hoz [0, 1, 2, 3, 4, 8, 9, 10, 11] rfl) z (Or.inr rfl))), fun _ h => absurd h List.not_mem_nil⟩)
  obtain ⟨hP1, hK1, hD1⟩ := hB
  rw [ht] at hP1
  have hK1 := va_K.moved hvm.symm hK1
  obtain ⟨hP, hD⟩ := va_join (wr := [(q5, .inl (c5, 16, .inl a5)), (q6, .inl (c6, 16, .inl a6)), (q7, .inl (c7, 16, .inl a7)), (q12, .inl (c12, 16, .inl a12)), (q13, .inl (c13, 1000, .inl a13)), (q14, .inl (c14, 1000, .inl a14)), (q15, .inl (c15, 4096, .inl a15)), (q16, .inl (c16, 16, .inl a16))]) (w1 := [(h0, .inr (8, [.int ur_3, .ref q1, .ref q2, .ref q3, .ref q4, .ref q5, .ref q6, .ref q7, .ref q8, .ref q9, .ref q10, .ref q11, .ref q12, .ref q13, .ref q14, .ref q15, .ref q16])), (q1, .inl (c1, 16, .inl a1)), (q2, .inl (c2, 67200, .inl a2)), (q3, .inl (c3, 16, .inl a3)), (q4, .inl (c4, 16, .inl a4)), (q8, .inl (c8, 16, .inl a8)), (q9, .inl (c9, 16, .inl a9)), (q10, .inl (c10, 16, .inl a10)), (q11, .inl (c11, 16, .inl a11))]) hP hD [0, 1, 2, 3, 4, 8, 9, 10, 11] [5, 6, 7, 12, 13, 14, 15, 16] rfl rfl (by decide) (by decide) hk1 hFc hP1 hD1
  clear hk1 hz1 ht hPc hDc hKc hFc
  generalize H1 = H at hP hS hI hPo ⊢
  replace hP : va_P (dC, dI) vwCl [(q5, .inl (c5, 16, .inl a5)), (q6, .inl (c6, 16, .inl a6)), (q7, .inl (c7, 16, .inl a7)), (q12, .inl (c12, 16, .inl a12)), (q13, .inl (c13, 1000, .inl a13)), (q14, .inl (c14, 1000, .inl a14)), (q15, .inl (c15, 4096, .inl a15)), (q16, .inl (c16, 16, .inl a16)), (h0, .inr (8, [.int ur_3, .ref q1, .ref q2, .ref q3, .ref q4, .ref q5, .ref q6, .ref q7, .ref q8, .ref q9, .ref q10, .ref q11, .ref q12, .ref q13, .ref q14, .ref q15, .ref q16])), (q1, .inl (c1, 16, .inl a1)), (q2, .inl (c2, 67200, .inl a2)), (q3, .inl (c3, 16, .inl a3)), (q4, .inl (c4, 16, .inl a4)), (q8, .inl (c8, 16, .inl a8)), (q9, .inl (c9, 16, .inl a9)), (q10, .inl (c10, 16, .inl a10)), (q11, .inl (c11, 16, .inl a11))] H := hP
  replace hD : va_D A [(q5, .inl (c5, 16, .inl a5)), (q6, .inl (c6, 16, .inl a6)), (q7, .inl (c7, 16, .inl a7)), (q12, .inl (c12, 16, .inl a12)), (q13, .inl (c13, 1000, .inl a13)), (q14, .inl (c14, 1000, .inl a14)), (q15, .inl (c15, 4096, .inl a15)), (q16, .inl (c16, 16, .inl a16)), (h0, .inr (8, [.int ur_3, .ref q1, .ref q2, .ref q3, .ref q4, .ref q5, .ref q6, .ref q7, .ref q8, .ref q9, .ref q10, .ref q11, .ref q12, .ref q13, .ref q14, .ref q15, .ref q16])), (q1, .inl (c1, 16, .inl a1)), (q2, .inl (c2, 67200, .inl a2)), (q3, .inl (c3, 16, .inl a3)), (q4, .inl (c4, 16, .inl a4)), (q8, .inl (c8, 16, .inl a8)), (q9, .inl (c9, 16, .inl a9)), (q10, .inl (c10, 16, .inl a10)), (q11, .inl (c11, 16, .inl a11))] := hD
  refine W.widen (k := kw) (n := nw) (by omega) (by omega) ?_
  refine W.eq (g2 := F0 m 475 ls [.int r_3]) rfl ?_
  refine lv_istore (lv' := [(6, .int r_3), (5, .int kc), (0, .ref b), (1, .ref x), (2, .ref h0), (3, .ref qo), (4, .int (nI (5 * k)))]) hx hb dL_law_475 hl (by decide) rfl (fun ls hl => ?_)
  refine lv_goto (tgt := 480) hx hb dL_law_477 (by decide) ?_
  obtain ⟨e1, e4, e8, e11, hR⟩ := fin_item hR (by omega) hwc jr_3
  rw [e1, e4, e8, e11] at hI
  refine W.book (fun hz9 hn9 => ?_)
  refine W.widen (k := (2000 + 150 * (k + 1))) (n := (100000 + 12700 * (k + 1))) (by omega) (by omega) ?_
  have hR9 : RInv (2000 * (k + 1)) a1 a2 a3 a4 a6 a7 a8 a9 a10 a11 a12 := hR
  exact hnext H locs ls ⟨qb, cq, bq1, ow1, rx1, cr1, co, f1, ur_3, q1, q2, q3, q4, q5, q6, q7, q8, q9, q10, q11, q12, q13, q14, q15, q16, c1, c2, c3, c4, c5, c6, c7, c8, c9, c10, c11, c12, c13, c14, c15, c16, a1, a2, a3, a4, a5, a6, a7, a8, a9, a10, a11, a12, a13, a14, a15, a16, hP.sub (ws' := [(h0, .inr (8, [.int ur_3, .ref q1, .ref q2, .ref q3, .ref q4, .ref q5, .ref q6, .ref q7, .ref q8, .ref q9, .ref q10, .ref q11, .ref q12, .ref q13, .ref q14, .ref q15, .ref q16])), (q1, .inl (c1, 16, .inl a1)), (q2, .inl (c2, 67200, .inl a2)), (q3, .inl (c3, 16, .inl a3)), (q4, .inl (c4, 16, .inl a4)), (q5, .inl (c5, 16, .inl a5)), (q6, .inl (c6, 16, .inl a6)), (q7, .inl (c7, 16, .inl a7)), (q8, .inl (c8, 16, .inl a8)), (q9, .inl (c9, 16, .inl a9)), (q10, .inl (c10, 16, .inl a10)), (q11, .inl (c11, 16, .inl a11)), (q12, .inl (c12, 16, .inl a12)), (q13, .inl (c13, 1000, .inl a13)), (q14, .inl (c14, 1000, .inl a14)), (q15, .inl (c15, 4096, .inl a15)), (q16, .inl (c16, 16, .inl a16))]) [8, 9, 10, 11, 12, 0, 1, 2, 13, 14, 15, 16, 3, 4, 5, 6, 7] rfl, hK.sub (tys' := [(c1, .int), (c2, .int), (c3, .int), (c4, .int), (c5, .int), (c6, .int), (c7, .int), (c8, .int), (c9, .int), (c10, .int), (c11, .int), (c12, .int), (c13, .int), (c14, .int), (c15, .boolean), (c16, .boolean)]) [0, 1, 2, 3, 4, 5, 6, 7, 8, 9, 10, 11, 12, 13, 14, 15] rfl, hD.sub (ws' := [(h0, .inr (8, [.int ur_3, .ref q1, .ref q2, .ref q3, .ref q4, .ref q5, .ref q6, .ref q7, .ref q8, .ref q9, .ref q10, .ref q11, .ref q12, .ref q13, .ref q14, .ref q15, .ref q16])), (q1, .inl (c1, 16, .inl a1)), (q2, .inl (c2, 67200, .inl a2)), (q3, .inl (c3, 16, .inl a3)), (q4, .inl (c4, 16, .inl a4)), (q5, .inl (c5, 16, .inl a5)), (q6, .inl (c6, 16, .inl a6)), (q7, .inl (c7, 16, .inl a7)), (q8, .inl (c8, 16, .inl a8)), (q9, .inl (c9, 16, .inl a9)), (q10, .inl (c10, 16, .inl a10)), (q11, .inl (c11, 16, .inl a11)), (q12, .inl (c12, 16, .inl a12)), (q13, .inl (c13, 1000, .inl a13)), (q14, .inl (c14, 1000, .inl a14)), (q15, .inl (c15, 4096, .inl a15)), (q16, .inl (c16, 16, .inl a16))]) [8, 9, 10, 11, 12, 0, 1, 2, 13, 14, 15, 16, 3, 4, 5, 6, 7] (by decide) rfl, hPo, hKo, hAo, hoq, hI, hoz, hlo, hR9, by omega, by omega⟩ hS (lv_sub hl [2, 3, 4, 5, 6] rfl)
