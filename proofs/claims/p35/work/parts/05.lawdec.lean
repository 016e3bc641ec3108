theorem dL_law_0 : decode cL_law 0 = .ok (.new 56, 3) := by decide +kernel
theorem dL_law_3 : decode cL_law 3 = .ok (.dup, 1) := by decide +kernel
theorem dL_law_4 : decode cL_law 4 = .ok (.invokespecial 132, 3) := by decide +kernel
theorem dL_law_7 : decode cL_law 7 = .ok (.astore_n 1, 1) := by decide +kernel
theorem dL_law_8 : decode cL_law 8 = .ok (.bipush 10, 2) := by decide +kernel
theorem dL_law_10 : decode cL_law 10 = .ok (.newarray .int, 2) := by decide +kernel
theorem dL_law_12 : decode cL_law 12 = .ok (.astore_n 2, 1) := by decide +kernel
theorem dL_law_13 : decode cL_law 13 = .ok (.bipush 8, 2) := by decide +kernel
theorem dL_law_15 : decode cL_law 15 = .ok (.newarray .int, 2) := by decide +kernel
theorem dL_law_17 : decode cL_law 17 = .ok (.astore_n 3, 1) := by decide +kernel
theorem dL_law_18 : decode cL_law 18 = .ok (.bipush 8, 2) := by decide +kernel
theorem dL_law_20 : decode cL_law 20 = .ok (.newarray .int, 2) := by decide +kernel
theorem dL_law_22 : decode cL_law 22 = .ok (.astore 4, 2) := by decide +kernel
theorem dL_law_24 : decode cL_law 24 = .ok (.bipush 16, 2) := by decide +kernel
theorem dL_law_26 : decode cL_law 26 = .ok (.newarray .int, 2) := by decide +kernel
theorem dL_law_28 : decode cL_law 28 = .ok (.astore 5, 2) := by decide +kernel
theorem dL_law_30 : decode cL_law 30 = .ok (.bipush 9, 2) := by decide +kernel
theorem dL_law_32 : decode cL_law 32 = .ok (.newarray .int, 2) := by decide +kernel
theorem dL_law_34 : decode cL_law 34 = .ok (.astore 6, 2) := by decide +kernel
theorem dL_law_36 : decode cL_law 36 = .ok (.bipush 24, 2) := by decide +kernel
theorem dL_law_38 : decode cL_law 38 = .ok (.newarray .int, 2) := by decide +kernel
theorem dL_law_40 : decode cL_law 40 = .ok (.astore 7, 2) := by decide +kernel
theorem dL_law_42 : decode cL_law 42 = .ok (.bipush 24, 2) := by decide +kernel
theorem dL_law_44 : decode cL_law 44 = .ok (.newarray .int, 2) := by decide +kernel
theorem dL_law_46 : decode cL_law 46 = .ok (.astore 8, 2) := by decide +kernel
theorem dL_law_48 : decode cL_law 48 = .ok (.bipush 24, 2) := by decide +kernel
theorem dL_law_50 : decode cL_law 50 = .ok (.newarray .int, 2) := by decide +kernel
theorem dL_law_52 : decode cL_law 52 = .ok (.astore 9, 2) := by decide +kernel
theorem dL_law_54 : decode cL_law 54 = .ok (.bipush 24, 2) := by decide +kernel
theorem dL_law_56 : decode cL_law 56 = .ok (.newarray .int, 2) := by decide +kernel
theorem dL_law_58 : decode cL_law 58 = .ok (.astore 10, 2) := by decide +kernel
theorem dL_law_60 : decode cL_law 60 = .ok (.bipush 16, 2) := by decide +kernel
theorem dL_law_62 : decode cL_law 62 = .ok (.newarray .int, 2) := by decide +kernel
theorem dL_law_64 : decode cL_law 64 = .ok (.astore 11, 2) := by decide +kernel
theorem dL_law_66 : decode cL_law 66 = .ok (.bipush 6, 2) := by decide +kernel
theorem dL_law_68 : decode cL_law 68 = .ok (.newarray .int, 2) := by decide +kernel
theorem dL_law_70 : decode cL_law 70 = .ok (.astore 12, 2) := by decide +kernel
theorem dL_law_72 : decode cL_law 72 = .ok (.bipush 24, 2) := by decide +kernel
theorem dL_law_74 : decode cL_law 74 = .ok (.newarray .int, 2) := by decide +kernel
theorem dL_law_76 : decode cL_law 76 = .ok (.astore 13, 2) := by decide +kernel
theorem dL_law_78 : decode cL_law 78 = .ok (.bipush 24, 2) := by decide +kernel
theorem dL_law_80 : decode cL_law 80 = .ok (.newarray .int, 2) := by decide +kernel
theorem dL_law_82 : decode cL_law 82 = .ok (.astore 14, 2) := by decide +kernel
theorem dL_law_84 : decode cL_law 84 = .ok (.iconst 1, 1) := by decide +kernel
theorem dL_law_85 : decode cL_law 85 = .ok (.istore 15, 2) := by decide +kernel
theorem dL_law_87 : decode cL_law 87 = .ok (.iconst 0, 1) := by decide +kernel
theorem dL_law_88 : decode cL_law 88 = .ok (.istore 16, 2) := by decide +kernel
theorem dL_law_90 : decode cL_law 90 = .ok (.iload 16, 2) := by decide +kernel
theorem dL_law_92 : decode cL_law 92 = .ok (.bipush 10, 2) := by decide +kernel
theorem dL_law_94 : decode cL_law 94 = .ok (.if_icmp .ge 16, 3) := by decide +kernel
theorem dL_law_97 : decode cL_law 97 = .ok (.aload_n 2, 1) := by decide +kernel
theorem dL_law_98 : decode cL_law 98 = .ok (.iload 16, 2) := by decide +kernel
theorem dL_law_100 : decode cL_law 100 = .ok (.sipush 1000, 3) := by decide +kernel
theorem dL_law_103 : decode cL_law 103 = .ok (.iastore, 1) := by decide +kernel
theorem dL_law_104 : decode cL_law 104 = .ok (.iinc 16 1, 3) := by decide +kernel
theorem dL_law_107 : decode cL_law 107 = .ok (.goto (-17), 3) := by decide +kernel
theorem dL_law_110 : decode cL_law 110 = .ok (.iconst 0, 1) := by decide +kernel
theorem dL_law_111 : decode cL_law 111 = .ok (.istore 16, 2) := by decide +kernel
theorem dL_law_113 : decode cL_law 113 = .ok (.iload 16, 2) := by decide +kernel
theorem dL_law_115 : decode cL_law 115 = .ok (.bipush 110, 2) := by decide +kernel
theorem dL_law_117 : decode cL_law 117 = .ok (.if_icmp .ge 2085, 3) := by decide +kernel
theorem dL_law_120 : decode cL_law 120 = .ok (.iload 15, 2) := by decide +kernel
theorem dL_law_122 : decode cL_law 122 = .ok (.ifCond .eq 2080, 3) := by decide +kernel
theorem dL_law_125 : decode cL_law 125 = .ok (.iload 16, 2) := by decide +kernel
theorem dL_law_127 : decode cL_law 127 = .ok (.aload_n 0, 1) := by decide +kernel
theorem dL_law_128 : decode cL_law 128 = .ok (.arraylength, 1) := by decide +kernel
theorem dL_law_129 : decode cL_law 129 = .ok (.if_icmp .ge 13, 3) := by decide +kernel
theorem dL_law_132 : decode cL_law 132 = .ok (.aload_n 0, 1) := by decide +kernel
theorem dL_law_133 : decode cL_law 133 = .ok (.iload 16, 2) := by decide +kernel
theorem dL_law_135 : decode cL_law 135 = .ok (.iaload, 1) := by decide +kernel
theorem dL_law_136 : decode cL_law 136 = .ok (.ldc 133, 2) := by decide +kernel
theorem dL_law_138 : decode cL_law 138 = .ok (.iand, 1) := by decide +kernel
theorem dL_law_139 : decode cL_law 139 = .ok (.goto 24, 3) := by decide +kernel
theorem dL_law_142 : decode cL_law 142 = .ok (.ldc 134, 2) := by decide +kernel
theorem dL_law_144 : decode cL_law 144 = .ok (.iload 16, 2) := by decide +kernel
theorem dL_law_146 : decode cL_law 146 = .ok (.imul, 1) := by decide +kernel
theorem dL_law_147 : decode cL_law 147 = .ok (.iload 16, 2) := by decide +kernel
theorem dL_law_149 : decode cL_law 149 = .ok (.imul, 1) := by decide +kernel
theorem dL_law_150 : decode cL_law 150 = .ok (.sipush 9127, 3) := by decide +kernel
theorem dL_law_153 : decode cL_law 153 = .ok (.iload 16, 2) := by decide +kernel
theorem dL_law_155 : decode cL_law 155 = .ok (.imul, 1) := by decide +kernel
theorem dL_law_156 : decode cL_law 156 = .ok (.iadd, 1) := by decide +kernel
theorem dL_law_157 : decode cL_law 157 = .ok (.bipush 51, 2) := by decide +kernel
theorem dL_law_159 : decode cL_law 159 = .ok (.iadd, 1) := by decide +kernel
theorem dL_law_160 : decode cL_law 160 = .ok (.ldc 133, 2) := by decide +kernel
theorem dL_law_162 : decode cL_law 162 = .ok (.iand, 1) := by decide +kernel
theorem dL_law_163 : decode cL_law 163 = .ok (.istore 17, 2) := by decide +kernel
theorem dL_law_165 : decode cL_law 165 = .ok (.iload 16, 2) := by decide +kernel
theorem dL_law_167 : decode cL_law 167 = .ok (.iconst 2, 1) := by decide +kernel
theorem dL_law_168 : decode cL_law 168 = .ok (.if_icmp .ge 7, 3) := by decide +kernel
theorem dL_law_171 : decode cL_law 171 = .ok (.iconst 0, 1) := by decide +kernel
theorem dL_law_172 : decode cL_law 172 = .ok (.goto 29, 3) := by decide +kernel
theorem dL_law_175 : decode cL_law 175 = .ok (.iload 16, 2) := by decide +kernel
theorem dL_law_177 : decode cL_law 177 = .ok (.iconst 4, 1) := by decide +kernel
theorem dL_law_178 : decode cL_law 178 = .ok (.if_icmp .ge 7, 3) := by decide +kernel
theorem dL_law_181 : decode cL_law 181 = .ok (.iconst 1, 1) := by decide +kernel
theorem dL_law_182 : decode cL_law 182 = .ok (.goto 19, 3) := by decide +kernel
theorem dL_law_185 : decode cL_law 185 = .ok (.iload 16, 2) := by decide +kernel
theorem dL_law_187 : decode cL_law 187 = .ok (.bipush 6, 2) := by decide +kernel
theorem dL_law_189 : decode cL_law 189 = .ok (.if_icmp .ge 7, 3) := by decide +kernel
theorem dL_law_192 : decode cL_law 192 = .ok (.iconst 2, 1) := by decide +kernel
theorem dL_law_193 : decode cL_law 193 = .ok (.goto 8, 3) := by decide +kernel
theorem dL_law_196 : decode cL_law 196 = .ok (.iload 17, 2) := by decide +kernel
theorem dL_law_198 : decode cL_law 198 = .ok (.bipush 29, 2) := by decide +kernel
theorem dL_law_200 : decode cL_law 200 = .ok (.irem, 1) := by decide +kernel
theorem dL_law_201 : decode cL_law 201 = .ok (.istore 18, 2) := by decide +kernel
theorem dL_law_203 : decode cL_law 203 = .ok (.iload 17, 2) := by decide +kernel
theorem dL_law_205 : decode cL_law 205 = .ok (.bipush 29, 2) := by decide +kernel
theorem dL_law_207 : decode cL_law 207 = .ok (.idiv, 1) := by decide +kernel
theorem dL_law_208 : decode cL_law 208 = .ok (.istore 19, 2) := by decide +kernel
theorem dL_law_210 : decode cL_law 210 = .ok (.aload 12, 2) := by decide +kernel
theorem dL_law_212 : decode cL_law 212 = .ok (.iconst 0, 1) := by decide +kernel
theorem dL_law_213 : decode cL_law 213 = .ok (.iaload, 1) := by decide +kernel
theorem dL_law_214 : decode cL_law 214 = .ok (.ifCond .ne 7, 3) := by decide +kernel
theorem dL_law_217 : decode cL_law 217 = .ok (.iconst 0, 1) := by decide +kernel
theorem dL_law_218 : decode cL_law 218 = .ok (.goto 10, 3) := by decide +kernel
theorem dL_law_221 : decode cL_law 221 = .ok (.iload 19, 2) := by decide +kernel
theorem dL_law_223 : decode cL_law 223 = .ok (.aload 12, 2) := by decide +kernel
theorem dL_law_225 : decode cL_law 225 = .ok (.iconst 0, 1) := by decide +kernel
theorem dL_law_226 : decode cL_law 226 = .ok (.iaload, 1) := by decide +kernel
theorem dL_law_227 : decode cL_law 227 = .ok (.irem, 1) := by decide +kernel
theorem dL_law_228 : decode cL_law 228 = .ok (.istore 20, 2) := by decide +kernel
theorem dL_law_230 : decode cL_law 230 = .ok (.iload 18, 2) := by decide +kernel
theorem dL_law_232 : decode cL_law 232 = .ok (.ifCond .ne 78, 3) := by decide +kernel
theorem dL_law_235 : decode cL_law 235 = .ok (.aload 12, 2) := by decide +kernel
theorem dL_law_237 : decode cL_law 237 = .ok (.iconst 0, 1) := by decide +kernel
theorem dL_law_238 : decode cL_law 238 = .ok (.iaload, 1) := by decide +kernel
theorem dL_law_239 : decode cL_law 239 = .ok (.iconst 4, 1) := by decide +kernel
theorem dL_law_240 : decode cL_law 240 = .ok (.if_icmp .ge 70, 3) := by decide +kernel
theorem dL_law_243 : decode cL_law 243 = .ok (.aload 5, 2) := by decide +kernel
theorem dL_law_245 : decode cL_law 245 = .ok (.iconst 4, 1) := by decide +kernel
theorem dL_law_246 : decode cL_law 246 = .ok (.aload 12, 2) := by decide +kernel
theorem dL_law_248 : decode cL_law 248 = .ok (.iconst 0, 1) := by decide +kernel
theorem dL_law_249 : decode cL_law 249 = .ok (.iaload, 1) := by decide +kernel
theorem dL_law_250 : decode cL_law 250 = .ok (.imul, 1) := by decide +kernel
theorem dL_law_251 : decode cL_law 251 = .ok (.iload 19, 2) := by decide +kernel
theorem dL_law_253 : decode cL_law 253 = .ok (.sipush 364, 3) := by decide +kernel
theorem dL_law_256 : decode cL_law 256 = .ok (.irem, 1) := by decide +kernel
theorem dL_law_257 : decode cL_law 257 = .ok (.iastore, 1) := by decide +kernel
theorem dL_law_258 : decode cL_law 258 = .ok (.aload 5, 2) := by decide +kernel
theorem dL_law_260 : decode cL_law 260 = .ok (.iconst 4, 1) := by decide +kernel
theorem dL_law_261 : decode cL_law 261 = .ok (.aload 12, 2) := by decide +kernel
theorem dL_law_263 : decode cL_law 263 = .ok (.iconst 0, 1) := by decide +kernel
theorem dL_law_264 : decode cL_law 264 = .ok (.iaload, 1) := by decide +kernel
theorem dL_law_265 : decode cL_law 265 = .ok (.imul, 1) := by decide +kernel
theorem dL_law_266 : decode cL_law 266 = .ok (.iconst 1, 1) := by decide +kernel
theorem dL_law_267 : decode cL_law 267 = .ok (.iadd, 1) := by decide +kernel
theorem dL_law_268 : decode cL_law 268 = .ok (.iconst 1, 1) := by decide +kernel
theorem dL_law_269 : decode cL_law 269 = .ok (.aload 12, 2) := by decide +kernel
theorem dL_law_271 : decode cL_law 271 = .ok (.iconst 0, 1) := by decide +kernel
theorem dL_law_272 : decode cL_law 272 = .ok (.iaload, 1) := by decide +kernel
theorem dL_law_273 : decode cL_law 273 = .ok (.ishl, 1) := by decide +kernel
theorem dL_law_274 : decode cL_law 274 = .ok (.iastore, 1) := by decide +kernel
theorem dL_law_275 : decode cL_law 275 = .ok (.aload_n 1, 1) := by decide +kernel
theorem dL_law_276 : decode cL_law 276 = .ok (.iload 19, 2) := by decide +kernel
theorem dL_law_278 : decode cL_law 278 = .ok (.sipush 364, 3) := by decide +kernel
theorem dL_law_281 : decode cL_law 281 = .ok (.irem, 1) := by decide +kernel
theorem dL_law_282 : decode cL_law 282 = .ok (.invokevirtual 135, 3) := by decide +kernel
theorem dL_law_285 : decode cL_law 285 = .ok (.aload 12, 2) := by decide +kernel
theorem dL_law_287 : decode cL_law 287 = .ok (.iconst 0, 1) := by decide +kernel
theorem dL_law_288 : decode cL_law 288 = .ok (.iaload, 1) := by decide +kernel
theorem dL_law_289 : decode cL_law 289 = .ok (.if_icmp .ne 7, 3) := by decide +kernel
theorem dL_law_292 : decode cL_law 292 = .ok (.iconst 1, 1) := by decide +kernel
theorem dL_law_293 : decode cL_law 293 = .ok (.goto 4, 3) := by decide +kernel
theorem dL_law_296 : decode cL_law 296 = .ok (.iconst 0, 1) := by decide +kernel
theorem dL_law_297 : decode cL_law 297 = .ok (.istore 15, 2) := by decide +kernel
theorem dL_law_299 : decode cL_law 299 = .ok (.aload 12, 2) := by decide +kernel
theorem dL_law_301 : decode cL_law 301 = .ok (.iconst 0, 1) := by decide +kernel
theorem dL_law_302 : decode cL_law 302 = .ok (.dup2, 1) := by decide +kernel
theorem dL_law_303 : decode cL_law 303 = .ok (.iaload, 1) := by decide +kernel
theorem dL_law_304 : decode cL_law 304 = .ok (.iconst 1, 1) := by decide +kernel
theorem dL_law_305 : decode cL_law 305 = .ok (.iadd, 1) := by decide +kernel
theorem dL_law_306 : decode cL_law 306 = .ok (.iastore, 1) := by decide +kernel
theorem dL_law_307 : decode cL_law 307 = .ok (.goto 1754, 3) := by decide +kernel
theorem dL_law_310 : decode cL_law 310 = .ok (.iload 18, 2) := by decide +kernel
theorem dL_law_312 : decode cL_law 312 = .ok (.iconst 1, 1) := by decide +kernel
theorem dL_law_313 : decode cL_law 313 = .ok (.if_icmp .ne 56, 3) := by decide +kernel
theorem dL_law_316 : decode cL_law 316 = .ok (.iload 19, 2) := by decide +kernel
theorem dL_law_318 : decode cL_law 318 = .ok (.bipush 10, 2) := by decide +kernel
theorem dL_law_320 : decode cL_law 320 = .ok (.irem, 1) := by decide +kernel
theorem dL_law_321 : decode cL_law 321 = .ok (.istore 21, 2) := by decide +kernel
theorem dL_law_323 : decode cL_law 323 = .ok (.iload 19, 2) := by decide +kernel
theorem dL_law_325 : decode cL_law 325 = .ok (.bipush 10, 2) := by decide +kernel
theorem dL_law_327 : decode cL_law 327 = .ok (.idiv, 1) := by decide +kernel
theorem dL_law_328 : decode cL_law 328 = .ok (.sipush 2201, 3) := by decide +kernel
theorem dL_law_331 : decode cL_law 331 = .ok (.irem, 1) := by decide +kernel
theorem dL_law_332 : decode cL_law 332 = .ok (.sipush 200, 3) := by decide +kernel
theorem dL_law_335 : decode cL_law 335 = .ok (.isub, 1) := by decide +kernel
theorem dL_law_336 : decode cL_law 336 = .ok (.istore 22, 2) := by decide +kernel
theorem dL_law_338 : decode cL_law 338 = .ok (.aload_n 1, 1) := by decide +kernel
theorem dL_law_339 : decode cL_law 339 = .ok (.iload 21, 2) := by decide +kernel
theorem dL_law_341 : decode cL_law 341 = .ok (.iload 22, 2) := by decide +kernel
theorem dL_law_343 : decode cL_law 343 = .ok (.invokevirtual 138, 3) := by decide +kernel
theorem dL_law_346 : decode cL_law 346 = .ok (.aload_n 2, 1) := by decide +kernel
theorem dL_law_347 : decode cL_law 347 = .ok (.iload 21, 2) := by decide +kernel
theorem dL_law_349 : decode cL_law 349 = .ok (.iaload, 1) := by decide +kernel
theorem dL_law_350 : decode cL_law 350 = .ok (.if_icmp .ne 7, 3) := by decide +kernel
theorem dL_law_353 : decode cL_law 353 = .ok (.iconst 1, 1) := by decide +kernel
theorem dL_law_354 : decode cL_law 354 = .ok (.goto 4, 3) := by decide +kernel
theorem dL_law_357 : decode cL_law 357 = .ok (.iconst 0, 1) := by decide +kernel
theorem dL_law_358 : decode cL_law 358 = .ok (.istore 15, 2) := by decide +kernel
theorem dL_law_360 : decode cL_law 360 = .ok (.aload_n 2, 1) := by decide +kernel
theorem dL_law_361 : decode cL_law 361 = .ok (.iload 21, 2) := by decide +kernel
theorem dL_law_363 : decode cL_law 363 = .ok (.iload 22, 2) := by decide +kernel
theorem dL_law_365 : decode cL_law 365 = .ok (.iastore, 1) := by decide +kernel
theorem dL_law_366 : decode cL_law 366 = .ok (.goto 1695, 3) := by decide +kernel
theorem dL_law_369 : decode cL_law 369 = .ok (.iload 18, 2) := by decide +kernel
theorem dL_law_371 : decode cL_law 371 = .ok (.iconst 2, 1) := by decide +kernel
theorem dL_law_372 : decode cL_law 372 = .ok (.if_icmp .ne 141, 3) := by decide +kernel
theorem dL_law_375 : decode cL_law 375 = .ok (.aload 12, 2) := by decide +kernel
theorem dL_law_377 : decode cL_law 377 = .ok (.iconst 1, 1) := by decide +kernel
theorem dL_law_378 : decode cL_law 378 = .ok (.iaload, 1) := by decide +kernel
theorem dL_law_379 : decode cL_law 379 = .ok (.iconst 3, 1) := by decide +kernel
theorem dL_law_380 : decode cL_law 380 = .ok (.if_icmp .ge 133, 3) := by decide +kernel
theorem dL_law_383 : decode cL_law 383 = .ok (.aload 6, 2) := by decide +kernel
theorem dL_law_385 : decode cL_law 385 = .ok (.iconst 3, 1) := by decide +kernel
theorem dL_law_386 : decode cL_law 386 = .ok (.aload 12, 2) := by decide +kernel
theorem dL_law_388 : decode cL_law 388 = .ok (.iconst 1, 1) := by decide +kernel
theorem dL_law_389 : decode cL_law 389 = .ok (.iaload, 1) := by decide +kernel
theorem dL_law_390 : decode cL_law 390 = .ok (.imul, 1) := by decide +kernel
theorem dL_law_391 : decode cL_law 391 = .ok (.iload 19, 2) := by decide +kernel
theorem dL_law_393 : decode cL_law 393 = .ok (.iload 19, 2) := by decide +kernel
theorem dL_law_395 : decode cL_law 395 = .ok (.iconst 3, 1) := by decide +kernel
theorem dL_law_396 : decode cL_law 396 = .ok (.irem, 1) := by decide +kernel
theorem dL_law_397 : decode cL_law 397 = .ok (.ifCond .ne 8, 3) := by decide +kernel
theorem dL_law_400 : decode cL_law 400 = .ok (.ldc 141, 2) := by decide +kernel
theorem dL_law_402 : decode cL_law 402 = .ok (.goto 6, 3) := by decide +kernel
theorem dL_law_405 : decode cL_law 405 = .ok (.sipush 3000, 3) := by decide +kernel
theorem dL_law_408 : decode cL_law 408 = .ok (.irem, 1) := by decide +kernel
theorem dL_law_409 : decode cL_law 409 = .ok (.iastore, 1) := by decide +kernel
theorem dL_law_410 : decode cL_law 410 = .ok (.aload 6, 2) := by decide +kernel
theorem dL_law_412 : decode cL_law 412 = .ok (.iconst 3, 1) := by decide +kernel
theorem dL_law_413 : decode cL_law 413 = .ok (.aload 12, 2) := by decide +kernel
theorem dL_law_415 : decode cL_law 415 = .ok (.iconst 1, 1) := by decide +kernel
theorem dL_law_416 : decode cL_law 416 = .ok (.iaload, 1) := by decide +kernel
theorem dL_law_417 : decode cL_law 417 = .ok (.imul, 1) := by decide +kernel
theorem dL_law_418 : decode cL_law 418 = .ok (.iconst 1, 1) := by decide +kernel
theorem dL_law_419 : decode cL_law 419 = .ok (.iadd, 1) := by decide +kernel
theorem dL_law_420 : decode cL_law 420 = .ok (.iload 19, 2) := by decide +kernel
theorem dL_law_422 : decode cL_law 422 = .ok (.iconst 3, 1) := by decide +kernel
theorem dL_law_423 : decode cL_law 423 = .ok (.idiv, 1) := by decide +kernel
theorem dL_law_424 : decode cL_law 424 = .ok (.sipush 3501, 3) := by decide +kernel
theorem dL_law_427 : decode cL_law 427 = .ok (.irem, 1) := by decide +kernel
theorem dL_law_428 : decode cL_law 428 = .ok (.sipush 500, 3) := by decide +kernel
theorem dL_law_431 : decode cL_law 431 = .ok (.isub, 1) := by decide +kernel
theorem dL_law_432 : decode cL_law 432 = .ok (.iastore, 1) := by decide +kernel
theorem dL_law_433 : decode cL_law 433 = .ok (.aload 6, 2) := by decide +kernel
theorem dL_law_435 : decode cL_law 435 = .ok (.iconst 3, 1) := by decide +kernel
theorem dL_law_436 : decode cL_law 436 = .ok (.aload 12, 2) := by decide +kernel
theorem dL_law_438 : decode cL_law 438 = .ok (.iconst 1, 1) := by decide +kernel
theorem dL_law_439 : decode cL_law 439 = .ok (.iaload, 1) := by decide +kernel
theorem dL_law_440 : decode cL_law 440 = .ok (.imul, 1) := by decide +kernel
theorem dL_law_441 : decode cL_law 441 = .ok (.iconst 2, 1) := by decide +kernel
theorem dL_law_442 : decode cL_law 442 = .ok (.iadd, 1) := by decide +kernel
theorem dL_law_443 : decode cL_law 443 = .ok (.iconst 1, 1) := by decide +kernel
theorem dL_law_444 : decode cL_law 444 = .ok (.iload 19, 2) := by decide +kernel
theorem dL_law_446 : decode cL_law 446 = .ok (.iconst 5, 1) := by decide +kernel
theorem dL_law_447 : decode cL_law 447 = .ok (.idiv, 1) := by decide +kernel
theorem dL_law_448 : decode cL_law 448 = .ok (.bipush 20, 2) := by decide +kernel
theorem dL_law_450 : decode cL_law 450 = .ok (.irem, 1) := by decide +kernel
theorem dL_law_451 : decode cL_law 451 = .ok (.iadd, 1) := by decide +kernel
theorem dL_law_452 : decode cL_law 452 = .ok (.iastore, 1) := by decide +kernel
theorem dL_law_453 : decode cL_law 453 = .ok (.aload_n 1, 1) := by decide +kernel
theorem dL_law_454 : decode cL_law 454 = .ok (.aload 6, 2) := by decide +kernel
theorem dL_law_456 : decode cL_law 456 = .ok (.iconst 3, 1) := by decide +kernel
theorem dL_law_457 : decode cL_law 457 = .ok (.aload 12, 2) := by decide +kernel
theorem dL_law_459 : decode cL_law 459 = .ok (.iconst 1, 1) := by decide +kernel
theorem dL_law_460 : decode cL_law 460 = .ok (.iaload, 1) := by decide +kernel
theorem dL_law_461 : decode cL_law 461 = .ok (.imul, 1) := by decide +kernel
theorem dL_law_462 : decode cL_law 462 = .ok (.iaload, 1) := by decide +kernel
theorem dL_law_463 : decode cL_law 463 = .ok (.aload 6, 2) := by decide +kernel
theorem dL_law_465 : decode cL_law 465 = .ok (.iconst 3, 1) := by decide +kernel
theorem dL_law_466 : decode cL_law 466 = .ok (.aload 12, 2) := by decide +kernel
theorem dL_law_468 : decode cL_law 468 = .ok (.iconst 1, 1) := by decide +kernel
theorem dL_law_469 : decode cL_law 469 = .ok (.iaload, 1) := by decide +kernel
theorem dL_law_470 : decode cL_law 470 = .ok (.imul, 1) := by decide +kernel
theorem dL_law_471 : decode cL_law 471 = .ok (.iconst 1, 1) := by decide +kernel
theorem dL_law_472 : decode cL_law 472 = .ok (.iadd, 1) := by decide +kernel
theorem dL_law_473 : decode cL_law 473 = .ok (.iaload, 1) := by decide +kernel
theorem dL_law_474 : decode cL_law 474 = .ok (.aload 6, 2) := by decide +kernel
theorem dL_law_476 : decode cL_law 476 = .ok (.iconst 3, 1) := by decide +kernel
theorem dL_law_477 : decode cL_law 477 = .ok (.aload 12, 2) := by decide +kernel
theorem dL_law_479 : decode cL_law 479 = .ok (.iconst 1, 1) := by decide +kernel
theorem dL_law_480 : decode cL_law 480 = .ok (.iaload, 1) := by decide +kernel
theorem dL_law_481 : decode cL_law 481 = .ok (.imul, 1) := by decide +kernel
theorem dL_law_482 : decode cL_law 482 = .ok (.iconst 2, 1) := by decide +kernel
theorem dL_law_483 : decode cL_law 483 = .ok (.iadd, 1) := by decide +kernel
theorem dL_law_484 : decode cL_law 484 = .ok (.iaload, 1) := by decide +kernel
theorem dL_law_485 : decode cL_law 485 = .ok (.invokevirtual 142, 3) := by decide +kernel
theorem dL_law_488 : decode cL_law 488 = .ok (.aload 12, 2) := by decide +kernel
theorem dL_law_490 : decode cL_law 490 = .ok (.iconst 1, 1) := by decide +kernel
theorem dL_law_491 : decode cL_law 491 = .ok (.iaload, 1) := by decide +kernel
theorem dL_law_492 : decode cL_law 492 = .ok (.if_icmp .ne 7, 3) := by decide +kernel
theorem dL_law_495 : decode cL_law 495 = .ok (.iconst 1, 1) := by decide +kernel
theorem dL_law_496 : decode cL_law 496 = .ok (.goto 4, 3) := by decide +kernel
theorem dL_law_499 : decode cL_law 499 = .ok (.iconst 0, 1) := by decide +kernel
theorem dL_law_500 : decode cL_law 500 = .ok (.istore 15, 2) := by decide +kernel
theorem dL_law_502 : decode cL_law 502 = .ok (.aload 12, 2) := by decide +kernel
theorem dL_law_504 : decode cL_law 504 = .ok (.iconst 1, 1) := by decide +kernel
theorem dL_law_505 : decode cL_law 505 = .ok (.dup2, 1) := by decide +kernel
theorem dL_law_506 : decode cL_law 506 = .ok (.iaload, 1) := by decide +kernel
theorem dL_law_507 : decode cL_law 507 = .ok (.iconst 1, 1) := by decide +kernel
theorem dL_law_508 : decode cL_law 508 = .ok (.iadd, 1) := by decide +kernel
theorem dL_law_509 : decode cL_law 509 = .ok (.iastore, 1) := by decide +kernel
theorem dL_law_510 : decode cL_law 510 = .ok (.goto 1551, 3) := by decide +kernel
theorem dL_law_513 : decode cL_law 513 = .ok (.iload 18, 2) := by decide +kernel
theorem dL_law_515 : decode cL_law 515 = .ok (.iconst 3, 1) := by decide +kernel
theorem dL_law_516 : decode cL_law 516 = .ok (.if_icmp .ne 56, 3) := by decide +kernel
theorem dL_law_519 : decode cL_law 519 = .ok (.iload 19, 2) := by decide +kernel
theorem dL_law_521 : decode cL_law 521 = .ok (.iconst 3, 1) := by decide +kernel
theorem dL_law_522 : decode cL_law 522 = .ok (.idiv, 1) := by decide +kernel
theorem dL_law_523 : decode cL_law 523 = .ok (.sipush 199, 3) := by decide +kernel
theorem dL_law_526 : decode cL_law 526 = .ok (.irem, 1) := by decide +kernel
theorem dL_law_527 : decode cL_law 527 = .ok (.bipush 99, 2) := by decide +kernel
theorem dL_law_529 : decode cL_law 529 = .ok (.isub, 1) := by decide +kernel
theorem dL_law_530 : decode cL_law 530 = .ok (.istore 21, 2) := by decide +kernel
theorem dL_law_532 : decode cL_law 532 = .ok (.aload_n 1, 1) := by decide +kernel
theorem dL_law_533 : decode cL_law 533 = .ok (.iload 19, 2) := by decide +kernel
theorem dL_law_535 : decode cL_law 535 = .ok (.bipush 8, 2) := by decide +kernel
theorem dL_law_537 : decode cL_law 537 = .ok (.irem, 1) := by decide +kernel
theorem dL_law_538 : decode cL_law 538 = .ok (.iload 21, 2) := by decide +kernel
theorem dL_law_540 : decode cL_law 540 = .ok (.invokevirtual 145, 3) := by decide +kernel
theorem dL_law_543 : decode cL_law 543 = .ok (.aload_n 3, 1) := by decide +kernel
theorem dL_law_544 : decode cL_law 544 = .ok (.iload 19, 2) := by decide +kernel
theorem dL_law_546 : decode cL_law 546 = .ok (.bipush 8, 2) := by decide +kernel
theorem dL_law_548 : decode cL_law 548 = .ok (.irem, 1) := by decide +kernel
theorem dL_law_549 : decode cL_law 549 = .ok (.iaload, 1) := by decide +kernel
theorem dL_law_550 : decode cL_law 550 = .ok (.if_icmp .ne 7, 3) := by decide +kernel
theorem dL_law_553 : decode cL_law 553 = .ok (.iconst 1, 1) := by decide +kernel
theorem dL_law_554 : decode cL_law 554 = .ok (.goto 4, 3) := by decide +kernel
theorem dL_law_557 : decode cL_law 557 = .ok (.iconst 0, 1) := by decide +kernel
theorem dL_law_558 : decode cL_law 558 = .ok (.istore 15, 2) := by decide +kernel
theorem dL_law_560 : decode cL_law 560 = .ok (.aload_n 3, 1) := by decide +kernel
theorem dL_law_561 : decode cL_law 561 = .ok (.iload 19, 2) := by decide +kernel
theorem dL_law_563 : decode cL_law 563 = .ok (.bipush 8, 2) := by decide +kernel
theorem dL_law_565 : decode cL_law 565 = .ok (.irem, 1) := by decide +kernel
theorem dL_law_566 : decode cL_law 566 = .ok (.iload 21, 2) := by decide +kernel
theorem dL_law_568 : decode cL_law 568 = .ok (.iastore, 1) := by decide +kernel
theorem dL_law_569 : decode cL_law 569 = .ok (.goto 1492, 3) := by decide +kernel
theorem dL_law_572 : decode cL_law 572 = .ok (.iload 18, 2) := by decide +kernel
theorem dL_law_574 : decode cL_law 574 = .ok (.iconst 4, 1) := by decide +kernel
theorem dL_law_575 : decode cL_law 575 = .ok (.if_icmp .ne 59, 3) := by decide +kernel
theorem dL_law_578 : decode cL_law 578 = .ok (.iload 19, 2) := by decide +kernel
theorem dL_law_580 : decode cL_law 580 = .ok (.iconst 3, 1) := by decide +kernel
theorem dL_law_581 : decode cL_law 581 = .ok (.idiv, 1) := by decide +kernel
theorem dL_law_582 : decode cL_law 582 = .ok (.sipush 2881, 3) := by decide +kernel
theorem dL_law_585 : decode cL_law 585 = .ok (.irem, 1) := by decide +kernel
theorem dL_law_586 : decode cL_law 586 = .ok (.sipush 1440, 3) := by decide +kernel
theorem dL_law_589 : decode cL_law 589 = .ok (.isub, 1) := by decide +kernel
theorem dL_law_590 : decode cL_law 590 = .ok (.istore 21, 2) := by decide +kernel
theorem dL_law_592 : decode cL_law 592 = .ok (.aload_n 1, 1) := by decide +kernel
theorem dL_law_593 : decode cL_law 593 = .ok (.iload 19, 2) := by decide +kernel
theorem dL_law_595 : decode cL_law 595 = .ok (.bipush 8, 2) := by decide +kernel
theorem dL_law_597 : decode cL_law 597 = .ok (.irem, 1) := by decide +kernel
theorem dL_law_598 : decode cL_law 598 = .ok (.iload 21, 2) := by decide +kernel
theorem dL_law_600 : decode cL_law 600 = .ok (.invokevirtual 148, 3) := by decide +kernel
theorem dL_law_603 : decode cL_law 603 = .ok (.aload 4, 2) := by decide +kernel
theorem dL_law_605 : decode cL_law 605 = .ok (.iload 19, 2) := by decide +kernel
theorem dL_law_607 : decode cL_law 607 = .ok (.bipush 8, 2) := by decide +kernel
theorem dL_law_609 : decode cL_law 609 = .ok (.irem, 1) := by decide +kernel
theorem dL_law_610 : decode cL_law 610 = .ok (.iaload, 1) := by decide +kernel
theorem dL_law_611 : decode cL_law 611 = .ok (.if_icmp .ne 7, 3) := by decide +kernel
theorem dL_law_614 : decode cL_law 614 = .ok (.iconst 1, 1) := by decide +kernel
theorem dL_law_615 : decode cL_law 615 = .ok (.goto 4, 3) := by decide +kernel
theorem dL_law_618 : decode cL_law 618 = .ok (.iconst 0, 1) := by decide +kernel
theorem dL_law_619 : decode cL_law 619 = .ok (.istore 15, 2) := by decide +kernel
theorem dL_law_621 : decode cL_law 621 = .ok (.aload 4, 2) := by decide +kernel
theorem dL_law_623 : decode cL_law 623 = .ok (.iload 19, 2) := by decide +kernel
theorem dL_law_625 : decode cL_law 625 = .ok (.bipush 8, 2) := by decide +kernel
theorem dL_law_627 : decode cL_law 627 = .ok (.irem, 1) := by decide +kernel
theorem dL_law_628 : decode cL_law 628 = .ok (.iload 21, 2) := by decide +kernel
theorem dL_law_630 : decode cL_law 630 = .ok (.iastore, 1) := by decide +kernel
theorem dL_law_631 : decode cL_law 631 = .ok (.goto 1430, 3) := by decide +kernel
theorem dL_law_634 : decode cL_law 634 = .ok (.iload 18, 2) := by decide +kernel
theorem dL_law_636 : decode cL_law 636 = .ok (.iconst 5, 1) := by decide +kernel
theorem dL_law_637 : decode cL_law 637 = .ok (.if_icmp .ne 80, 3) := by decide +kernel
theorem dL_law_640 : decode cL_law 640 = .ok (.aload 12, 2) := by decide +kernel
theorem dL_law_642 : decode cL_law 642 = .ok (.iconst 1, 1) := by decide +kernel
theorem dL_law_643 : decode cL_law 643 = .ok (.iaload, 1) := by decide +kernel
theorem dL_law_644 : decode cL_law 644 = .ok (.ifCond .le 73, 3) := by decide +kernel
theorem dL_law_647 : decode cL_law 647 = .ok (.iload 19, 2) := by decide +kernel
theorem dL_law_649 : decode cL_law 649 = .ok (.iconst 3, 1) := by decide +kernel
theorem dL_law_650 : decode cL_law 650 = .ok (.idiv, 1) := by decide +kernel
theorem dL_law_651 : decode cL_law 651 = .ok (.sipush 3501, 3) := by decide +kernel
theorem dL_law_654 : decode cL_law 654 = .ok (.irem, 1) := by decide +kernel
theorem dL_law_655 : decode cL_law 655 = .ok (.sipush 500, 3) := by decide +kernel
theorem dL_law_658 : decode cL_law 658 = .ok (.isub, 1) := by decide +kernel
theorem dL_law_659 : decode cL_law 659 = .ok (.istore 21, 2) := by decide +kernel
theorem dL_law_661 : decode cL_law 661 = .ok (.aload_n 1, 1) := by decide +kernel
theorem dL_law_662 : decode cL_law 662 = .ok (.iload 19, 2) := by decide +kernel
theorem dL_law_664 : decode cL_law 664 = .ok (.aload 12, 2) := by decide +kernel
theorem dL_law_666 : decode cL_law 666 = .ok (.iconst 1, 1) := by decide +kernel
theorem dL_law_667 : decode cL_law 667 = .ok (.iaload, 1) := by decide +kernel
theorem dL_law_668 : decode cL_law 668 = .ok (.irem, 1) := by decide +kernel
theorem dL_law_669 : decode cL_law 669 = .ok (.iload 21, 2) := by decide +kernel
theorem dL_law_671 : decode cL_law 671 = .ok (.invokevirtual 151, 3) := by decide +kernel
theorem dL_law_674 : decode cL_law 674 = .ok (.aload 6, 2) := by decide +kernel
theorem dL_law_676 : decode cL_law 676 = .ok (.iconst 3, 1) := by decide +kernel
theorem dL_law_677 : decode cL_law 677 = .ok (.iload 19, 2) := by decide +kernel
theorem dL_law_679 : decode cL_law 679 = .ok (.aload 12, 2) := by decide +kernel
theorem dL_law_681 : decode cL_law 681 = .ok (.iconst 1, 1) := by decide +kernel
theorem dL_law_682 : decode cL_law 682 = .ok (.iaload, 1) := by decide +kernel
theorem dL_law_683 : decode cL_law 683 = .ok (.irem, 1) := by decide +kernel
theorem dL_law_684 : decode cL_law 684 = .ok (.imul, 1) := by decide +kernel
theorem dL_law_685 : decode cL_law 685 = .ok (.iconst 1, 1) := by decide +kernel
theorem dL_law_686 : decode cL_law 686 = .ok (.iadd, 1) := by decide +kernel
theorem dL_law_687 : decode cL_law 687 = .ok (.iaload, 1) := by decide +kernel
theorem dL_law_688 : decode cL_law 688 = .ok (.if_icmp .ne 7, 3) := by decide +kernel
theorem dL_law_691 : decode cL_law 691 = .ok (.iconst 1, 1) := by decide +kernel
theorem dL_law_692 : decode cL_law 692 = .ok (.goto 4, 3) := by decide +kernel
theorem dL_law_695 : decode cL_law 695 = .ok (.iconst 0, 1) := by decide +kernel
theorem dL_law_696 : decode cL_law 696 = .ok (.istore 15, 2) := by decide +kernel
theorem dL_law_698 : decode cL_law 698 = .ok (.aload 6, 2) := by decide +kernel
theorem dL_law_700 : decode cL_law 700 = .ok (.iconst 3, 1) := by decide +kernel
theorem dL_law_701 : decode cL_law 701 = .ok (.iload 19, 2) := by decide +kernel
theorem dL_law_703 : decode cL_law 703 = .ok (.aload 12, 2) := by decide +kernel
theorem dL_law_705 : decode cL_law 705 = .ok (.iconst 1, 1) := by decide +kernel
theorem dL_law_706 : decode cL_law 706 = .ok (.iaload, 1) := by decide +kernel
theorem dL_law_707 : decode cL_law 707 = .ok (.irem, 1) := by decide +kernel
theorem dL_law_708 : decode cL_law 708 = .ok (.imul, 1) := by decide +kernel
theorem dL_law_709 : decode cL_law 709 = .ok (.iconst 1, 1) := by decide +kernel
theorem dL_law_710 : decode cL_law 710 = .ok (.iadd, 1) := by decide +kernel
theorem dL_law_711 : decode cL_law 711 = .ok (.iload 21, 2) := by decide +kernel
theorem dL_law_713 : decode cL_law 713 = .ok (.iastore, 1) := by decide +kernel
theorem dL_law_714 : decode cL_law 714 = .ok (.goto 1347, 3) := by decide +kernel
theorem dL_law_717 : decode cL_law 717 = .ok (.iload 18, 2) := by decide +kernel
theorem dL_law_719 : decode cL_law 719 = .ok (.bipush 11, 2) := by decide +kernel
theorem dL_law_721 : decode cL_law 721 = .ok (.if_icmp .ge 206, 3) := by decide +kernel
theorem dL_law_724 : decode cL_law 724 = .ok (.aload 12, 2) := by decide +kernel
theorem dL_law_726 : decode cL_law 726 = .ok (.iconst 2, 1) := by decide +kernel
theorem dL_law_727 : decode cL_law 727 = .ok (.iaload, 1) := by decide +kernel
theorem dL_law_728 : decode cL_law 728 = .ok (.bipush 24, 2) := by decide +kernel
theorem dL_law_730 : decode cL_law 730 = .ok (.if_icmp .ge 197, 3) := by decide +kernel
theorem dL_law_733 : decode cL_law 733 = .ok (.iload 19, 2) := by decide +kernel
theorem dL_law_735 : decode cL_law 735 = .ok (.iconst 4, 1) := by decide +kernel
theorem dL_law_736 : decode cL_law 736 = .ok (.idiv, 1) := by decide +kernel
theorem dL_law_737 : decode cL_law 737 = .ok (.bipush 10, 2) := by decide +kernel
theorem dL_law_739 : decode cL_law 739 = .ok (.irem, 1) := by decide +kernel
theorem dL_law_740 : decode cL_law 740 = .ok (.istore 21, 2) := by decide +kernel
theorem dL_law_742 : decode cL_law 742 = .ok (.iload 21, 2) := by decide +kernel
theorem dL_law_744 : decode cL_law 744 = .ok (.ifCond .ne 16, 3) := by decide +kernel
theorem dL_law_747 : decode cL_law 747 = .ok (.iconst 1, 1) := by decide +kernel
theorem dL_law_748 : decode cL_law 748 = .ok (.iload 19, 2) := by decide +kernel
theorem dL_law_750 : decode cL_law 750 = .ok (.bipush 40, 2) := by decide +kernel
theorem dL_law_752 : decode cL_law 752 = .ok (.idiv, 1) := by decide +kernel
theorem dL_law_753 : decode cL_law 753 = .ok (.bipush 9, 2) := by decide +kernel
theorem dL_law_755 : decode cL_law 755 = .ok (.irem, 1) := by decide +kernel
theorem dL_law_756 : decode cL_law 756 = .ok (.iadd, 1) := by decide +kernel
theorem dL_law_757 : decode cL_law 757 = .ok (.goto 11, 3) := by decide +kernel
theorem dL_law_760 : decode cL_law 760 = .ok (.iload 19, 2) := by decide +kernel
theorem dL_law_762 : decode cL_law 762 = .ok (.bipush 40, 2) := by decide +kernel
theorem dL_law_764 : decode cL_law 764 = .ok (.idiv, 1) := by decide +kernel
theorem dL_law_765 : decode cL_law 765 = .ok (.bipush 10, 2) := by decide +kernel
theorem dL_law_767 : decode cL_law 767 = .ok (.irem, 1) := by decide +kernel
theorem dL_law_768 : decode cL_law 768 = .ok (.istore 22, 2) := by decide +kernel
theorem dL_law_770 : decode cL_law 770 = .ok (.iload 19, 2) := by decide +kernel
theorem dL_law_772 : decode cL_law 772 = .ok (.bipush 11, 2) := by decide +kernel
theorem dL_law_774 : decode cL_law 774 = .ok (.idiv, 1) := by decide +kernel
theorem dL_law_775 : decode cL_law 775 = .ok (.bipush 10, 2) := by decide +kernel
theorem dL_law_777 : decode cL_law 777 = .ok (.irem, 1) := by decide +kernel
theorem dL_law_778 : decode cL_law 778 = .ok (.istore 23, 2) := by decide +kernel
theorem dL_law_780 : decode cL_law 780 = .ok (.iload 23, 2) := by decide +kernel
theorem dL_law_782 : decode cL_law 782 = .ok (.iconst 1, 1) := by decide +kernel
theorem dL_law_783 : decode cL_law 783 = .ok (.iadd, 1) := by decide +kernel
theorem dL_law_784 : decode cL_law 784 = .ok (.iload 19, 2) := by decide +kernel
theorem dL_law_786 : decode cL_law 786 = .ok (.bipush 13, 2) := by decide +kernel
theorem dL_law_788 : decode cL_law 788 = .ok (.idiv, 1) := by decide +kernel
theorem dL_law_789 : decode cL_law 789 = .ok (.bipush 9, 2) := by decide +kernel
theorem dL_law_791 : decode cL_law 791 = .ok (.irem, 1) := by decide +kernel
theorem dL_law_792 : decode cL_law 792 = .ok (.iadd, 1) := by decide +kernel
theorem dL_law_793 : decode cL_law 793 = .ok (.bipush 10, 2) := by decide +kernel
theorem dL_law_795 : decode cL_law 795 = .ok (.irem, 1) := by decide +kernel
theorem dL_law_796 : decode cL_law 796 = .ok (.istore 24, 2) := by decide +kernel
theorem dL_law_798 : decode cL_law 798 = .ok (.iload 19, 2) := by decide +kernel
theorem dL_law_800 : decode cL_law 800 = .ok (.iload 19, 2) := by decide +kernel
theorem dL_law_802 : decode cL_law 802 = .ok (.iconst 5, 1) := by decide +kernel
theorem dL_law_803 : decode cL_law 803 = .ok (.irem, 1) := by decide +kernel
theorem dL_law_804 : decode cL_law 804 = .ok (.ifCond .ne 8, 3) := by decide +kernel
theorem dL_law_807 : decode cL_law 807 = .ok (.ldc 141, 2) := by decide +kernel
theorem dL_law_809 : decode cL_law 809 = .ok (.goto 6, 3) := by decide +kernel
theorem dL_law_812 : decode cL_law 812 = .ok (.sipush 4000, 3) := by decide +kernel
theorem dL_law_815 : decode cL_law 815 = .ok (.irem, 1) := by decide +kernel
theorem dL_law_816 : decode cL_law 816 = .ok (.istore 25, 2) := by decide +kernel
theorem dL_law_818 : decode cL_law 818 = .ok (.aload 7, 2) := by decide +kernel
theorem dL_law_820 : decode cL_law 820 = .ok (.aload 12, 2) := by decide +kernel
theorem dL_law_822 : decode cL_law 822 = .ok (.iconst 2, 1) := by decide +kernel
theorem dL_law_823 : decode cL_law 823 = .ok (.iaload, 1) := by decide +kernel
theorem dL_law_824 : decode cL_law 824 = .ok (.iconst 2, 1) := by decide +kernel
theorem dL_law_825 : decode cL_law 825 = .ok (.iload 20, 2) := by decide +kernel
theorem dL_law_827 : decode cL_law 827 = .ok (.imul, 1) := by decide +kernel
theorem dL_law_828 : decode cL_law 828 = .ok (.bipush 8, 2) := by decide +kernel
theorem dL_law_830 : decode cL_law 830 = .ok (.iload 19, 2) := by decide +kernel
theorem dL_law_832 : decode cL_law 832 = .ok (.bipush 17, 2) := by decide +kernel
theorem dL_law_834 : decode cL_law 834 = .ok (.idiv, 1) := by decide +kernel
theorem dL_law_835 : decode cL_law 835 = .ok (.bipush 8, 2) := by decide +kernel
theorem dL_law_837 : decode cL_law 837 = .ok (.irem, 1) := by decide +kernel
theorem dL_law_838 : decode cL_law 838 = .ok (.imul, 1) := by decide +kernel
theorem dL_law_839 : decode cL_law 839 = .ok (.iadd, 1) := by decide +kernel
theorem dL_law_840 : decode cL_law 840 = .ok (.iastore, 1) := by decide +kernel
theorem dL_law_841 : decode cL_law 841 = .ok (.aload 8, 2) := by decide +kernel
theorem dL_law_843 : decode cL_law 843 = .ok (.aload 12, 2) := by decide +kernel
theorem dL_law_845 : decode cL_law 845 = .ok (.iconst 2, 1) := by decide +kernel
theorem dL_law_846 : decode cL_law 846 = .ok (.iaload, 1) := by decide +kernel
theorem dL_law_847 : decode cL_law 847 = .ok (.iload 25, 2) := by decide +kernel
theorem dL_law_849 : decode cL_law 849 = .ok (.iastore, 1) := by decide +kernel
theorem dL_law_850 : decode cL_law 850 = .ok (.aload 9, 2) := by decide +kernel
theorem dL_law_852 : decode cL_law 852 = .ok (.aload 12, 2) := by decide +kernel
theorem dL_law_854 : decode cL_law 854 = .ok (.iconst 2, 1) := by decide +kernel
theorem dL_law_855 : decode cL_law 855 = .ok (.iaload, 1) := by decide +kernel
theorem dL_law_856 : decode cL_law 856 = .ok (.iload 23, 2) := by decide +kernel
theorem dL_law_858 : decode cL_law 858 = .ok (.bipush 10, 2) := by decide +kernel
theorem dL_law_860 : decode cL_law 860 = .ok (.iload 21, 2) := by decide +kernel
theorem dL_law_862 : decode cL_law 862 = .ok (.imul, 1) := by decide +kernel
theorem dL_law_863 : decode cL_law 863 = .ok (.iadd, 1) := by decide +kernel
theorem dL_law_864 : decode cL_law 864 = .ok (.bipush 100, 2) := by decide +kernel
theorem dL_law_866 : decode cL_law 866 = .ok (.iload 22, 2) := by decide +kernel
theorem dL_law_868 : decode cL_law 868 = .ok (.imul, 1) := by decide +kernel
theorem dL_law_869 : decode cL_law 869 = .ok (.iadd, 1) := by decide +kernel
theorem dL_law_870 : decode cL_law 870 = .ok (.sipush 1000, 3) := by decide +kernel
theorem dL_law_873 : decode cL_law 873 = .ok (.iload 24, 2) := by decide +kernel
theorem dL_law_875 : decode cL_law 875 = .ok (.imul, 1) := by decide +kernel
theorem dL_law_876 : decode cL_law 876 = .ok (.iadd, 1) := by decide +kernel
theorem dL_law_877 : decode cL_law 877 = .ok (.iastore, 1) := by decide +kernel
theorem dL_law_878 : decode cL_law 878 = .ok (.aload_n 1, 1) := by decide +kernel
theorem dL_law_879 : decode cL_law 879 = .ok (.iload 20, 2) := by decide +kernel
theorem dL_law_881 : decode cL_law 881 = .ok (.iload 19, 2) := by decide +kernel
theorem dL_law_883 : decode cL_law 883 = .ok (.bipush 17, 2) := by decide +kernel
theorem dL_law_885 : decode cL_law 885 = .ok (.idiv, 1) := by decide +kernel
theorem dL_law_886 : decode cL_law 886 = .ok (.bipush 8, 2) := by decide +kernel
theorem dL_law_888 : decode cL_law 888 = .ok (.irem, 1) := by decide +kernel
theorem dL_law_889 : decode cL_law 889 = .ok (.iload 25, 2) := by decide +kernel
theorem dL_law_891 : decode cL_law 891 = .ok (.iload 23, 2) := by decide +kernel
theorem dL_law_893 : decode cL_law 893 = .ok (.iload 21, 2) := by decide +kernel
theorem dL_law_895 : decode cL_law 895 = .ok (.iload 22, 2) := by decide +kernel
theorem dL_law_897 : decode cL_law 897 = .ok (.iload 24, 2) := by decide +kernel
theorem dL_law_899 : decode cL_law 899 = .ok (.invokevirtual 154, 3) := by decide +kernel
theorem dL_law_902 : decode cL_law 902 = .ok (.aload 12, 2) := by decide +kernel
theorem dL_law_904 : decode cL_law 904 = .ok (.iconst 2, 1) := by decide +kernel
theorem dL_law_905 : decode cL_law 905 = .ok (.iaload, 1) := by decide +kernel
theorem dL_law_906 : decode cL_law 906 = .ok (.if_icmp .ne 7, 3) := by decide +kernel
theorem dL_law_909 : decode cL_law 909 = .ok (.iconst 1, 1) := by decide +kernel
theorem dL_law_910 : decode cL_law 910 = .ok (.goto 4, 3) := by decide +kernel
theorem dL_law_913 : decode cL_law 913 = .ok (.iconst 0, 1) := by decide +kernel
theorem dL_law_914 : decode cL_law 914 = .ok (.istore 15, 2) := by decide +kernel
theorem dL_law_916 : decode cL_law 916 = .ok (.aload 12, 2) := by decide +kernel
theorem dL_law_918 : decode cL_law 918 = .ok (.iconst 2, 1) := by decide +kernel
theorem dL_law_919 : decode cL_law 919 = .ok (.dup2, 1) := by decide +kernel
theorem dL_law_920 : decode cL_law 920 = .ok (.iaload, 1) := by decide +kernel
theorem dL_law_921 : decode cL_law 921 = .ok (.iconst 1, 1) := by decide +kernel
theorem dL_law_922 : decode cL_law 922 = .ok (.iadd, 1) := by decide +kernel
theorem dL_law_923 : decode cL_law 923 = .ok (.iastore, 1) := by decide +kernel
theorem dL_law_924 : decode cL_law 924 = .ok (.goto 1137, 3) := by decide +kernel
theorem dL_law_927 : decode cL_law 927 = .ok (.iload 18, 2) := by decide +kernel
theorem dL_law_929 : decode cL_law 929 = .ok (.bipush 14, 2) := by decide +kernel
theorem dL_law_931 : decode cL_law 931 = .ok (.if_icmp .ge 108, 3) := by decide +kernel
theorem dL_law_934 : decode cL_law 934 = .ok (.aload 12, 2) := by decide +kernel
theorem dL_law_936 : decode cL_law 936 = .ok (.iconst 2, 1) := by decide +kernel
theorem dL_law_937 : decode cL_law 937 = .ok (.iaload, 1) := by decide +kernel
theorem dL_law_938 : decode cL_law 938 = .ok (.bipush 24, 2) := by decide +kernel
theorem dL_law_940 : decode cL_law 940 = .ok (.if_icmp .ge 99, 3) := by decide +kernel
theorem dL_law_943 : decode cL_law 943 = .ok (.aload 12, 2) := by decide +kernel
theorem dL_law_945 : decode cL_law 945 = .ok (.iconst 1, 1) := by decide +kernel
theorem dL_law_946 : decode cL_law 946 = .ok (.iaload, 1) := by decide +kernel
theorem dL_law_947 : decode cL_law 947 = .ok (.ifCond .le 92, 3) := by decide +kernel
theorem dL_law_950 : decode cL_law 950 = .ok (.aload 7, 2) := by decide +kernel
theorem dL_law_952 : decode cL_law 952 = .ok (.aload 12, 2) := by decide +kernel
theorem dL_law_954 : decode cL_law 954 = .ok (.iconst 2, 1) := by decide +kernel
theorem dL_law_955 : decode cL_law 955 = .ok (.iaload, 1) := by decide +kernel
theorem dL_law_956 : decode cL_law 956 = .ok (.iconst 1, 1) := by decide +kernel
theorem dL_law_957 : decode cL_law 957 = .ok (.iconst 2, 1) := by decide +kernel
theorem dL_law_958 : decode cL_law 958 = .ok (.iload 20, 2) := by decide +kernel
theorem dL_law_960 : decode cL_law 960 = .ok (.imul, 1) := by decide +kernel
theorem dL_law_961 : decode cL_law 961 = .ok (.iadd, 1) := by decide +kernel
theorem dL_law_962 : decode cL_law 962 = .ok (.bipush 8, 2) := by decide +kernel
theorem dL_law_964 : decode cL_law 964 = .ok (.iload 19, 2) := by decide +kernel
theorem dL_law_966 : decode cL_law 966 = .ok (.iconst 4, 1) := by decide +kernel
theorem dL_law_967 : decode cL_law 967 = .ok (.idiv, 1) := by decide +kernel
theorem dL_law_968 : decode cL_law 968 = .ok (.aload 12, 2) := by decide +kernel
theorem dL_law_970 : decode cL_law 970 = .ok (.iconst 1, 1) := by decide +kernel
theorem dL_law_971 : decode cL_law 971 = .ok (.iaload, 1) := by decide +kernel
theorem dL_law_972 : decode cL_law 972 = .ok (.irem, 1) := by decide +kernel
theorem dL_law_973 : decode cL_law 973 = .ok (.imul, 1) := by decide +kernel
theorem dL_law_974 : decode cL_law 974 = .ok (.iadd, 1) := by decide +kernel
theorem dL_law_975 : decode cL_law 975 = .ok (.iastore, 1) := by decide +kernel
theorem dL_law_976 : decode cL_law 976 = .ok (.aload 8, 2) := by decide +kernel
theorem dL_law_978 : decode cL_law 978 = .ok (.aload 12, 2) := by decide +kernel
theorem dL_law_980 : decode cL_law 980 = .ok (.iconst 2, 1) := by decide +kernel
theorem dL_law_981 : decode cL_law 981 = .ok (.iaload, 1) := by decide +kernel
theorem dL_law_982 : decode cL_law 982 = .ok (.iload 19, 2) := by decide +kernel
theorem dL_law_984 : decode cL_law 984 = .ok (.bipush 12, 2) := by decide +kernel
theorem dL_law_986 : decode cL_law 986 = .ok (.idiv, 1) := by decide +kernel
theorem dL_law_987 : decode cL_law 987 = .ok (.sipush 256, 3) := by decide +kernel
theorem dL_law_990 : decode cL_law 990 = .ok (.irem, 1) := by decide +kernel
theorem dL_law_991 : decode cL_law 991 = .ok (.iastore, 1) := by decide +kernel
theorem dL_law_992 : decode cL_law 992 = .ok (.aload_n 1, 1) := by decide +kernel
theorem dL_law_993 : decode cL_law 993 = .ok (.iload 20, 2) := by decide +kernel
theorem dL_law_995 : decode cL_law 995 = .ok (.iload 19, 2) := by decide +kernel
theorem dL_law_997 : decode cL_law 997 = .ok (.iconst 4, 1) := by decide +kernel
theorem dL_law_998 : decode cL_law 998 = .ok (.idiv, 1) := by decide +kernel
theorem dL_law_999 : decode cL_law 999 = .ok (.aload 12, 2) := by decide +kernel
theorem dL_law_1001 : decode cL_law 1001 = .ok (.iconst 1, 1) := by decide +kernel
theorem dL_law_1002 : decode cL_law 1002 = .ok (.iaload, 1) := by decide +kernel
theorem dL_law_1003 : decode cL_law 1003 = .ok (.irem, 1) := by decide +kernel
theorem dL_law_1004 : decode cL_law 1004 = .ok (.aload 8, 2) := by decide +kernel
theorem dL_law_1006 : decode cL_law 1006 = .ok (.aload 12, 2) := by decide +kernel
theorem dL_law_1008 : decode cL_law 1008 = .ok (.iconst 2, 1) := by decide +kernel
theorem dL_law_1009 : decode cL_law 1009 = .ok (.iaload, 1) := by decide +kernel
theorem dL_law_1010 : decode cL_law 1010 = .ok (.iaload, 1) := by decide +kernel
theorem dL_law_1011 : decode cL_law 1011 = .ok (.invokevirtual 158, 3) := by decide +kernel
theorem dL_law_1014 : decode cL_law 1014 = .ok (.aload 12, 2) := by decide +kernel
theorem dL_law_1016 : decode cL_law 1016 = .ok (.iconst 2, 1) := by decide +kernel
theorem dL_law_1017 : decode cL_law 1017 = .ok (.iaload, 1) := by decide +kernel
theorem dL_law_1018 : decode cL_law 1018 = .ok (.if_icmp .ne 7, 3) := by decide +kernel
theorem dL_law_1021 : decode cL_law 1021 = .ok (.iconst 1, 1) := by decide +kernel
theorem dL_law_1022 : decode cL_law 1022 = .ok (.goto 4, 3) := by decide +kernel
theorem dL_law_1025 : decode cL_law 1025 = .ok (.iconst 0, 1) := by decide +kernel
theorem dL_law_1026 : decode cL_law 1026 = .ok (.istore 15, 2) := by decide +kernel
theorem dL_law_1028 : decode cL_law 1028 = .ok (.aload 12, 2) := by decide +kernel
theorem dL_law_1030 : decode cL_law 1030 = .ok (.iconst 2, 1) := by decide +kernel
theorem dL_law_1031 : decode cL_law 1031 = .ok (.dup2, 1) := by decide +kernel
theorem dL_law_1032 : decode cL_law 1032 = .ok (.iaload, 1) := by decide +kernel
theorem dL_law_1033 : decode cL_law 1033 = .ok (.iconst 1, 1) := by decide +kernel
theorem dL_law_1034 : decode cL_law 1034 = .ok (.iadd, 1) := by decide +kernel
theorem dL_law_1035 : decode cL_law 1035 = .ok (.iastore, 1) := by decide +kernel
theorem dL_law_1036 : decode cL_law 1036 = .ok (.goto 1025, 3) := by decide +kernel
theorem dL_law_1039 : decode cL_law 1039 = .ok (.iload 18, 2) := by decide +kernel
theorem dL_law_1041 : decode cL_law 1041 = .ok (.bipush 14, 2) := by decide +kernel
theorem dL_law_1043 : decode cL_law 1043 = .ok (.if_icmp .ne 97, 3) := by decide +kernel
theorem dL_law_1046 : decode cL_law 1046 = .ok (.aload 12, 2) := by decide +kernel
theorem dL_law_1048 : decode cL_law 1048 = .ok (.iconst 2, 1) := by decide +kernel
theorem dL_law_1049 : decode cL_law 1049 = .ok (.iaload, 1) := by decide +kernel
theorem dL_law_1050 : decode cL_law 1050 = .ok (.ifCond .le 90, 3) := by decide +kernel
theorem dL_law_1053 : decode cL_law 1053 = .ok (.iload 19, 2) := by decide +kernel
theorem dL_law_1055 : decode cL_law 1055 = .ok (.aload 12, 2) := by decide +kernel
theorem dL_law_1057 : decode cL_law 1057 = .ok (.iconst 2, 1) := by decide +kernel
theorem dL_law_1058 : decode cL_law 1058 = .ok (.iaload, 1) := by decide +kernel
theorem dL_law_1059 : decode cL_law 1059 = .ok (.irem, 1) := by decide +kernel
theorem dL_law_1060 : decode cL_law 1060 = .ok (.istore 21, 2) := by decide +kernel
theorem dL_law_1062 : decode cL_law 1062 = .ok (.iload 19, 2) := by decide +kernel
theorem dL_law_1064 : decode cL_law 1064 = .ok (.bipush 24, 2) := by decide +kernel
theorem dL_law_1066 : decode cL_law 1066 = .ok (.idiv, 1) := by decide +kernel
theorem dL_law_1067 : decode cL_law 1067 = .ok (.iconst 2, 1) := by decide +kernel
theorem dL_law_1068 : decode cL_law 1068 = .ok (.irem, 1) := by decide +kernel
theorem dL_law_1069 : decode cL_law 1069 = .ok (.ifCond .ne 7, 3) := by decide +kernel
theorem dL_law_1072 : decode cL_law 1072 = .ok (.iconst 1, 1) := by decide +kernel
theorem dL_law_1073 : decode cL_law 1073 = .ok (.goto 4, 3) := by decide +kernel
theorem dL_law_1076 : decode cL_law 1076 = .ok (.iconst 0, 1) := by decide +kernel
theorem dL_law_1077 : decode cL_law 1077 = .ok (.istore 22, 2) := by decide +kernel
theorem dL_law_1079 : decode cL_law 1079 = .ok (.aload_n 1, 1) := by decide +kernel
theorem dL_law_1080 : decode cL_law 1080 = .ok (.iload 21, 2) := by decide +kernel
theorem dL_law_1082 : decode cL_law 1082 = .ok (.iload 22, 2) := by decide +kernel
theorem dL_law_1084 : decode cL_law 1084 = .ok (.invokevirtual 161, 3) := by decide +kernel
theorem dL_law_1087 : decode cL_law 1087 = .ok (.aload 7, 2) := by decide +kernel
theorem dL_law_1089 : decode cL_law 1089 = .ok (.iload 21, 2) := by decide +kernel
theorem dL_law_1091 : decode cL_law 1091 = .ok (.iaload, 1) := by decide +kernel
theorem dL_law_1092 : decode cL_law 1092 = .ok (.bipush 63, 2) := by decide +kernel
theorem dL_law_1094 : decode cL_law 1094 = .ok (.if_icmp .le 7, 3) := by decide +kernel
theorem dL_law_1097 : decode cL_law 1097 = .ok (.iconst 1, 1) := by decide +kernel
theorem dL_law_1098 : decode cL_law 1098 = .ok (.goto 4, 3) := by decide +kernel
theorem dL_law_1101 : decode cL_law 1101 = .ok (.iconst 0, 1) := by decide +kernel
theorem dL_law_1102 : decode cL_law 1102 = .ok (.if_icmp .ne 7, 3) := by decide +kernel
theorem dL_law_1105 : decode cL_law 1105 = .ok (.iconst 1, 1) := by decide +kernel
theorem dL_law_1106 : decode cL_law 1106 = .ok (.goto 4, 3) := by decide +kernel
theorem dL_law_1109 : decode cL_law 1109 = .ok (.iconst 0, 1) := by decide +kernel
theorem dL_law_1110 : decode cL_law 1110 = .ok (.istore 15, 2) := by decide +kernel
theorem dL_law_1112 : decode cL_law 1112 = .ok (.aload 7, 2) := by decide +kernel
theorem dL_law_1114 : decode cL_law 1114 = .ok (.iload 21, 2) := by decide +kernel
theorem dL_law_1116 : decode cL_law 1116 = .ok (.aload 7, 2) := by decide +kernel
theorem dL_law_1118 : decode cL_law 1118 = .ok (.iload 21, 2) := by decide +kernel
theorem dL_law_1120 : decode cL_law 1120 = .ok (.iaload, 1) := by decide +kernel
theorem dL_law_1121 : decode cL_law 1121 = .ok (.bipush 64, 2) := by decide +kernel
theorem dL_law_1123 : decode cL_law 1123 = .ok (.irem, 1) := by decide +kernel
theorem dL_law_1124 : decode cL_law 1124 = .ok (.iload 22, 2) := by decide +kernel
theorem dL_law_1126 : decode cL_law 1126 = .ok (.ifCond .eq 8, 3) := by decide +kernel
theorem dL_law_1129 : decode cL_law 1129 = .ok (.bipush 64, 2) := by decide +kernel
theorem dL_law_1131 : decode cL_law 1131 = .ok (.goto 4, 3) := by decide +kernel
theorem dL_law_1134 : decode cL_law 1134 = .ok (.iconst 0, 1) := by decide +kernel
theorem dL_law_1135 : decode cL_law 1135 = .ok (.iadd, 1) := by decide +kernel
theorem dL_law_1136 : decode cL_law 1136 = .ok (.iastore, 1) := by decide +kernel
theorem dL_law_1137 : decode cL_law 1137 = .ok (.goto 924, 3) := by decide +kernel
theorem dL_law_1140 : decode cL_law 1140 = .ok (.iload 18, 2) := by decide +kernel
theorem dL_law_1142 : decode cL_law 1142 = .ok (.bipush 17, 2) := by decide +kernel
theorem dL_law_1144 : decode cL_law 1144 = .ok (.if_icmp .ge 96, 3) := by decide +kernel
theorem dL_law_1147 : decode cL_law 1147 = .ok (.aload 12, 2) := by decide +kernel
theorem dL_law_1149 : decode cL_law 1149 = .ok (.iconst 4, 1) := by decide +kernel
theorem dL_law_1150 : decode cL_law 1150 = .ok (.iaload, 1) := by decide +kernel
theorem dL_law_1151 : decode cL_law 1151 = .ok (.bipush 8, 2) := by decide +kernel
theorem dL_law_1153 : decode cL_law 1153 = .ok (.if_icmp .ge 87, 3) := by decide +kernel
theorem dL_law_1156 : decode cL_law 1156 = .ok (.aload 11, 2) := by decide +kernel
theorem dL_law_1158 : decode cL_law 1158 = .ok (.iconst 2, 1) := by decide +kernel
theorem dL_law_1159 : decode cL_law 1159 = .ok (.aload 12, 2) := by decide +kernel
theorem dL_law_1161 : decode cL_law 1161 = .ok (.iconst 4, 1) := by decide +kernel
theorem dL_law_1162 : decode cL_law 1162 = .ok (.iaload, 1) := by decide +kernel
theorem dL_law_1163 : decode cL_law 1163 = .ok (.imul, 1) := by decide +kernel
theorem dL_law_1164 : decode cL_law 1164 = .ok (.iload 20, 2) := by decide +kernel
theorem dL_law_1166 : decode cL_law 1166 = .ok (.iastore, 1) := by decide +kernel
theorem dL_law_1167 : decode cL_law 1167 = .ok (.aload 11, 2) := by decide +kernel
theorem dL_law_1169 : decode cL_law 1169 = .ok (.iconst 2, 1) := by decide +kernel
theorem dL_law_1170 : decode cL_law 1170 = .ok (.aload 12, 2) := by decide +kernel
theorem dL_law_1172 : decode cL_law 1172 = .ok (.iconst 4, 1) := by decide +kernel
theorem dL_law_1173 : decode cL_law 1173 = .ok (.iaload, 1) := by decide +kernel
theorem dL_law_1174 : decode cL_law 1174 = .ok (.imul, 1) := by decide +kernel
theorem dL_law_1175 : decode cL_law 1175 = .ok (.iconst 1, 1) := by decide +kernel
theorem dL_law_1176 : decode cL_law 1176 = .ok (.iadd, 1) := by decide +kernel
theorem dL_law_1177 : decode cL_law 1177 = .ok (.iload 19, 2) := by decide +kernel
theorem dL_law_1179 : decode cL_law 1179 = .ok (.iconst 4, 1) := by decide +kernel
theorem dL_law_1180 : decode cL_law 1180 = .ok (.idiv, 1) := by decide +kernel
theorem dL_law_1181 : decode cL_law 1181 = .ok (.iload 19, 2) := by decide +kernel
theorem dL_law_1183 : decode cL_law 1183 = .ok (.iconst 3, 1) := by decide +kernel
theorem dL_law_1184 : decode cL_law 1184 = .ok (.irem, 1) := by decide +kernel
theorem dL_law_1185 : decode cL_law 1185 = .ok (.ifCond .ne 8, 3) := by decide +kernel
theorem dL_law_1188 : decode cL_law 1188 = .ok (.ldc 141, 2) := by decide +kernel
theorem dL_law_1190 : decode cL_law 1190 = .ok (.goto 6, 3) := by decide +kernel
theorem dL_law_1193 : decode cL_law 1193 = .ok (.sipush 20000, 3) := by decide +kernel
theorem dL_law_1196 : decode cL_law 1196 = .ok (.irem, 1) := by decide +kernel
theorem dL_law_1197 : decode cL_law 1197 = .ok (.iastore, 1) := by decide +kernel
theorem dL_law_1198 : decode cL_law 1198 = .ok (.aload_n 1, 1) := by decide +kernel
theorem dL_law_1199 : decode cL_law 1199 = .ok (.iload 20, 2) := by decide +kernel
theorem dL_law_1201 : decode cL_law 1201 = .ok (.aload 11, 2) := by decide +kernel
theorem dL_law_1203 : decode cL_law 1203 = .ok (.iconst 2, 1) := by decide +kernel
theorem dL_law_1204 : decode cL_law 1204 = .ok (.aload 12, 2) := by decide +kernel
theorem dL_law_1206 : decode cL_law 1206 = .ok (.iconst 4, 1) := by decide +kernel
theorem dL_law_1207 : decode cL_law 1207 = .ok (.iaload, 1) := by decide +kernel
theorem dL_law_1208 : decode cL_law 1208 = .ok (.imul, 1) := by decide +kernel
theorem dL_law_1209 : decode cL_law 1209 = .ok (.iconst 1, 1) := by decide +kernel
theorem dL_law_1210 : decode cL_law 1210 = .ok (.iadd, 1) := by decide +kernel
theorem dL_law_1211 : decode cL_law 1211 = .ok (.iaload, 1) := by decide +kernel
theorem dL_law_1212 : decode cL_law 1212 = .ok (.invokevirtual 165, 3) := by decide +kernel
theorem dL_law_1215 : decode cL_law 1215 = .ok (.aload 12, 2) := by decide +kernel
theorem dL_law_1217 : decode cL_law 1217 = .ok (.iconst 4, 1) := by decide +kernel
theorem dL_law_1218 : decode cL_law 1218 = .ok (.iaload, 1) := by decide +kernel
theorem dL_law_1219 : decode cL_law 1219 = .ok (.if_icmp .ne 7, 3) := by decide +kernel
theorem dL_law_1222 : decode cL_law 1222 = .ok (.iconst 1, 1) := by decide +kernel
theorem dL_law_1223 : decode cL_law 1223 = .ok (.goto 4, 3) := by decide +kernel
theorem dL_law_1226 : decode cL_law 1226 = .ok (.iconst 0, 1) := by decide +kernel
theorem dL_law_1227 : decode cL_law 1227 = .ok (.istore 15, 2) := by decide +kernel
theorem dL_law_1229 : decode cL_law 1229 = .ok (.aload 12, 2) := by decide +kernel
theorem dL_law_1231 : decode cL_law 1231 = .ok (.iconst 4, 1) := by decide +kernel
theorem dL_law_1232 : decode cL_law 1232 = .ok (.dup2, 1) := by decide +kernel
theorem dL_law_1233 : decode cL_law 1233 = .ok (.iaload, 1) := by decide +kernel
theorem dL_law_1234 : decode cL_law 1234 = .ok (.iconst 1, 1) := by decide +kernel
theorem dL_law_1235 : decode cL_law 1235 = .ok (.iadd, 1) := by decide +kernel
theorem dL_law_1236 : decode cL_law 1236 = .ok (.iastore, 1) := by decide +kernel
theorem dL_law_1237 : decode cL_law 1237 = .ok (.goto 824, 3) := by decide +kernel
theorem dL_law_1240 : decode cL_law 1240 = .ok (.iload 18, 2) := by decide +kernel
theorem dL_law_1242 : decode cL_law 1242 = .ok (.bipush 17, 2) := by decide +kernel
theorem dL_law_1244 : decode cL_law 1244 = .ok (.if_icmp .ne 152, 3) := by decide +kernel
theorem dL_law_1247 : decode cL_law 1247 = .ok (.iload 19, 2) := by decide +kernel
theorem dL_law_1249 : decode cL_law 1249 = .ok (.iconst 4, 1) := by decide +kernel
theorem dL_law_1250 : decode cL_law 1250 = .ok (.idiv, 1) := by decide +kernel
theorem dL_law_1251 : decode cL_law 1251 = .ok (.aload 12, 2) := by decide +kernel
theorem dL_law_1253 : decode cL_law 1253 = .ok (.iconst 0, 1) := by decide +kernel
theorem dL_law_1254 : decode cL_law 1254 = .ok (.iaload, 1) := by decide +kernel
theorem dL_law_1255 : decode cL_law 1255 = .ok (.irem, 1) := by decide +kernel
theorem dL_law_1256 : decode cL_law 1256 = .ok (.istore 21, 2) := by decide +kernel
theorem dL_law_1258 : decode cL_law 1258 = .ok (.aload 5, 2) := by decide +kernel
theorem dL_law_1260 : decode cL_law 1260 = .ok (.iconst 4, 1) := by decide +kernel
theorem dL_law_1261 : decode cL_law 1261 = .ok (.iload 20, 2) := by decide +kernel
theorem dL_law_1263 : decode cL_law 1263 = .ok (.imul, 1) := by decide +kernel
theorem dL_law_1264 : decode cL_law 1264 = .ok (.iconst 1, 1) := by decide +kernel
theorem dL_law_1265 : decode cL_law 1265 = .ok (.iadd, 1) := by decide +kernel
theorem dL_law_1266 : decode cL_law 1266 = .ok (.iaload, 1) := by decide +kernel
theorem dL_law_1267 : decode cL_law 1267 = .ok (.aload 5, 2) := by decide +kernel
theorem dL_law_1269 : decode cL_law 1269 = .ok (.iconst 4, 1) := by decide +kernel
theorem dL_law_1270 : decode cL_law 1270 = .ok (.iload 21, 2) := by decide +kernel
theorem dL_law_1272 : decode cL_law 1272 = .ok (.imul, 1) := by decide +kernel
theorem dL_law_1273 : decode cL_law 1273 = .ok (.iconst 1, 1) := by decide +kernel
theorem dL_law_1274 : decode cL_law 1274 = .ok (.iadd, 1) := by decide +kernel
theorem dL_law_1275 : decode cL_law 1275 = .ok (.iaload, 1) := by decide +kernel
theorem dL_law_1276 : decode cL_law 1276 = .ok (.ior, 1) := by decide +kernel
theorem dL_law_1277 : decode cL_law 1277 = .ok (.istore 22, 2) := by decide +kernel
theorem dL_law_1279 : decode cL_law 1279 = .ok (.aload 5, 2) := by decide +kernel
theorem dL_law_1281 : decode cL_law 1281 = .ok (.iconst 4, 1) := by decide +kernel
theorem dL_law_1282 : decode cL_law 1282 = .ok (.iload 20, 2) := by decide +kernel
theorem dL_law_1284 : decode cL_law 1284 = .ok (.imul, 1) := by decide +kernel
theorem dL_law_1285 : decode cL_law 1285 = .ok (.iconst 1, 1) := by decide +kernel
theorem dL_law_1286 : decode cL_law 1286 = .ok (.iadd, 1) := by decide +kernel
theorem dL_law_1287 : decode cL_law 1287 = .ok (.iaload, 1) := by decide +kernel
theorem dL_law_1288 : decode cL_law 1288 = .ok (.aload 5, 2) := by decide +kernel
theorem dL_law_1290 : decode cL_law 1290 = .ok (.iconst 4, 1) := by decide +kernel
theorem dL_law_1291 : decode cL_law 1291 = .ok (.iload 21, 2) := by decide +kernel
theorem dL_law_1293 : decode cL_law 1293 = .ok (.imul, 1) := by decide +kernel
theorem dL_law_1294 : decode cL_law 1294 = .ok (.iconst 1, 1) := by decide +kernel
theorem dL_law_1295 : decode cL_law 1295 = .ok (.iadd, 1) := by decide +kernel
theorem dL_law_1296 : decode cL_law 1296 = .ok (.iaload, 1) := by decide +kernel
theorem dL_law_1297 : decode cL_law 1297 = .ok (.if_icmp .eq 7, 3) := by decide +kernel
theorem dL_law_1300 : decode cL_law 1300 = .ok (.iconst 1, 1) := by decide +kernel
theorem dL_law_1301 : decode cL_law 1301 = .ok (.goto 4, 3) := by decide +kernel
theorem dL_law_1304 : decode cL_law 1304 = .ok (.iconst 0, 1) := by decide +kernel
theorem dL_law_1305 : decode cL_law 1305 = .ok (.istore 23, 2) := by decide +kernel
theorem dL_law_1307 : decode cL_law 1307 = .ok (.aload_n 1, 1) := by decide +kernel
theorem dL_law_1308 : decode cL_law 1308 = .ok (.iconst 0, 1) := by decide +kernel
theorem dL_law_1309 : decode cL_law 1309 = .ok (.iload 20, 2) := by decide +kernel
theorem dL_law_1311 : decode cL_law 1311 = .ok (.iload 21, 2) := by decide +kernel
theorem dL_law_1313 : decode cL_law 1313 = .ok (.iconst 0, 1) := by decide +kernel
theorem dL_law_1314 : decode cL_law 1314 = .ok (.iconst 0, 1) := by decide +kernel
theorem dL_law_1315 : decode cL_law 1315 = .ok (.iconst 0, 1) := by decide +kernel
theorem dL_law_1316 : decode cL_law 1316 = .ok (.invokestatic 110, 3) := by decide +kernel
theorem dL_law_1319 : decode cL_law 1319 = .ok (.iload 23, 2) := by decide +kernel
theorem dL_law_1321 : decode cL_law 1321 = .ok (.ifCond .eq 11, 3) := by decide +kernel
theorem dL_law_1324 : decode cL_law 1324 = .ok (.iload 22, 2) := by decide +kernel
theorem dL_law_1326 : decode cL_law 1326 = .ok (.invokestatic 51, 3) := by decide +kernel
theorem dL_law_1329 : decode cL_law 1329 = .ok (.goto 5, 3) := by decide +kernel
theorem dL_law_1332 : decode cL_law 1332 = .ok (.ldc 96, 2) := by decide +kernel
theorem dL_law_1334 : decode cL_law 1334 = .ok (.if_icmp .ne 7, 3) := by decide +kernel
theorem dL_law_1337 : decode cL_law 1337 = .ok (.iconst 1, 1) := by decide +kernel
theorem dL_law_1338 : decode cL_law 1338 = .ok (.goto 4, 3) := by decide +kernel
theorem dL_law_1341 : decode cL_law 1341 = .ok (.iconst 0, 1) := by decide +kernel
theorem dL_law_1342 : decode cL_law 1342 = .ok (.istore 15, 2) := by decide +kernel
theorem dL_law_1344 : decode cL_law 1344 = .ok (.iconst 0, 1) := by decide +kernel
theorem dL_law_1345 : decode cL_law 1345 = .ok (.istore 24, 2) := by decide +kernel
theorem dL_law_1347 : decode cL_law 1347 = .ok (.iload 24, 2) := by decide +kernel
theorem dL_law_1349 : decode cL_law 1349 = .ok (.iconst 4, 1) := by decide +kernel
theorem dL_law_1350 : decode cL_law 1350 = .ok (.if_icmp .ge 43, 3) := by decide +kernel
theorem dL_law_1353 : decode cL_law 1353 = .ok (.aload 5, 2) := by decide +kernel
theorem dL_law_1355 : decode cL_law 1355 = .ok (.iconst 4, 1) := by decide +kernel
theorem dL_law_1356 : decode cL_law 1356 = .ok (.iload 24, 2) := by decide +kernel
theorem dL_law_1358 : decode cL_law 1358 = .ok (.imul, 1) := by decide +kernel
theorem dL_law_1359 : decode cL_law 1359 = .ok (.iconst 1, 1) := by decide +kernel
theorem dL_law_1360 : decode cL_law 1360 = .ok (.iadd, 1) := by decide +kernel
theorem dL_law_1361 : decode cL_law 1361 = .ok (.iload 22, 2) := by decide +kernel
theorem dL_law_1363 : decode cL_law 1363 = .ok (.iload 24, 2) := by decide +kernel
theorem dL_law_1365 : decode cL_law 1365 = .ok (.ishr, 1) := by decide +kernel
theorem dL_law_1366 : decode cL_law 1366 = .ok (.iconst 1, 1) := by decide +kernel
theorem dL_law_1367 : decode cL_law 1367 = .ok (.iand, 1) := by decide +kernel
theorem dL_law_1368 : decode cL_law 1368 = .ok (.iconst 1, 1) := by decide +kernel
theorem dL_law_1369 : decode cL_law 1369 = .ok (.if_icmp .ne 8, 3) := by decide +kernel
theorem dL_law_1372 : decode cL_law 1372 = .ok (.iload 22, 2) := by decide +kernel
theorem dL_law_1374 : decode cL_law 1374 = .ok (.goto 12, 3) := by decide +kernel
theorem dL_law_1377 : decode cL_law 1377 = .ok (.aload 5, 2) := by decide +kernel
theorem dL_law_1379 : decode cL_law 1379 = .ok (.iconst 4, 1) := by decide +kernel
theorem dL_law_1380 : decode cL_law 1380 = .ok (.iload 24, 2) := by decide +kernel
theorem dL_law_1382 : decode cL_law 1382 = .ok (.imul, 1) := by decide +kernel
theorem dL_law_1383 : decode cL_law 1383 = .ok (.iconst 1, 1) := by decide +kernel
theorem dL_law_1384 : decode cL_law 1384 = .ok (.iadd, 1) := by decide +kernel
theorem dL_law_1385 : decode cL_law 1385 = .ok (.iaload, 1) := by decide +kernel
theorem dL_law_1386 : decode cL_law 1386 = .ok (.iastore, 1) := by decide +kernel
theorem dL_law_1387 : decode cL_law 1387 = .ok (.iinc 24 1, 3) := by decide +kernel
theorem dL_law_1390 : decode cL_law 1390 = .ok (.goto (-43), 3) := by decide +kernel
theorem dL_law_1393 : decode cL_law 1393 = .ok (.goto 668, 3) := by decide +kernel
theorem dL_law_1396 : decode cL_law 1396 = .ok (.iload 18, 2) := by decide +kernel
theorem dL_law_1398 : decode cL_law 1398 = .ok (.bipush 18, 2) := by decide +kernel
theorem dL_law_1400 : decode cL_law 1400 = .ok (.if_icmp .ne 130, 3) := by decide +kernel
theorem dL_law_1403 : decode cL_law 1403 = .ok (.iload 19, 2) := by decide +kernel
theorem dL_law_1405 : decode cL_law 1405 = .ok (.iconst 4, 1) := by decide +kernel
theorem dL_law_1406 : decode cL_law 1406 = .ok (.idiv, 1) := by decide +kernel
theorem dL_law_1407 : decode cL_law 1407 = .ok (.iconst 3, 1) := by decide +kernel
theorem dL_law_1408 : decode cL_law 1408 = .ok (.irem, 1) := by decide +kernel
theorem dL_law_1409 : decode cL_law 1409 = .ok (.ifCond .ne 121, 3) := by decide +kernel
theorem dL_law_1412 : decode cL_law 1412 = .ok (.aload 5, 2) := by decide +kernel
theorem dL_law_1414 : decode cL_law 1414 = .ok (.iconst 4, 1) := by decide +kernel
theorem dL_law_1415 : decode cL_law 1415 = .ok (.iload 20, 2) := by decide +kernel
theorem dL_law_1417 : decode cL_law 1417 = .ok (.imul, 1) := by decide +kernel
theorem dL_law_1418 : decode cL_law 1418 = .ok (.iconst 1, 1) := by decide +kernel
theorem dL_law_1419 : decode cL_law 1419 = .ok (.iadd, 1) := by decide +kernel
theorem dL_law_1420 : decode cL_law 1420 = .ok (.iaload, 1) := by decide +kernel
theorem dL_law_1421 : decode cL_law 1421 = .ok (.iconst 1, 1) := by decide +kernel
theorem dL_law_1422 : decode cL_law 1422 = .ok (.iload 20, 2) := by decide +kernel
theorem dL_law_1424 : decode cL_law 1424 = .ok (.ishl, 1) := by decide +kernel
theorem dL_law_1425 : decode cL_law 1425 = .ok (.isub, 1) := by decide +kernel
theorem dL_law_1426 : decode cL_law 1426 = .ok (.istore 21, 2) := by decide +kernel
theorem dL_law_1428 : decode cL_law 1428 = .ok (.aload_n 1, 1) := by decide +kernel
theorem dL_law_1429 : decode cL_law 1429 = .ok (.iconst 1, 1) := by decide +kernel
theorem dL_law_1430 : decode cL_law 1430 = .ok (.iload 20, 2) := by decide +kernel
theorem dL_law_1432 : decode cL_law 1432 = .ok (.iconst 0, 1) := by decide +kernel
theorem dL_law_1433 : decode cL_law 1433 = .ok (.iconst 0, 1) := by decide +kernel
theorem dL_law_1434 : decode cL_law 1434 = .ok (.iconst 0, 1) := by decide +kernel
theorem dL_law_1435 : decode cL_law 1435 = .ok (.iconst 0, 1) := by decide +kernel
theorem dL_law_1436 : decode cL_law 1436 = .ok (.invokestatic 110, 3) := by decide +kernel
theorem dL_law_1439 : decode cL_law 1439 = .ok (.iload 21, 2) := by decide +kernel
theorem dL_law_1441 : decode cL_law 1441 = .ok (.ifCond .ne 8, 3) := by decide +kernel
theorem dL_law_1444 : decode cL_law 1444 = .ok (.ldc 96, 2) := by decide +kernel
theorem dL_law_1446 : decode cL_law 1446 = .ok (.goto 8, 3) := by decide +kernel
theorem dL_law_1449 : decode cL_law 1449 = .ok (.iload 21, 2) := by decide +kernel
theorem dL_law_1451 : decode cL_law 1451 = .ok (.invokestatic 51, 3) := by decide +kernel
theorem dL_law_1454 : decode cL_law 1454 = .ok (.if_icmp .ne 7, 3) := by decide +kernel
theorem dL_law_1457 : decode cL_law 1457 = .ok (.iconst 1, 1) := by decide +kernel
theorem dL_law_1458 : decode cL_law 1458 = .ok (.goto 4, 3) := by decide +kernel
theorem dL_law_1461 : decode cL_law 1461 = .ok (.iconst 0, 1) := by decide +kernel
theorem dL_law_1462 : decode cL_law 1462 = .ok (.istore 15, 2) := by decide +kernel
theorem dL_law_1464 : decode cL_law 1464 = .ok (.iconst 0, 1) := by decide +kernel
theorem dL_law_1465 : decode cL_law 1465 = .ok (.istore 22, 2) := by decide +kernel
theorem dL_law_1467 : decode cL_law 1467 = .ok (.iload 22, 2) := by decide +kernel
theorem dL_law_1469 : decode cL_law 1469 = .ok (.iconst 4, 1) := by decide +kernel
theorem dL_law_1470 : decode cL_law 1470 = .ok (.if_icmp .ge 57, 3) := by decide +kernel
theorem dL_law_1473 : decode cL_law 1473 = .ok (.aload 5, 2) := by decide +kernel
theorem dL_law_1475 : decode cL_law 1475 = .ok (.iconst 4, 1) := by decide +kernel
theorem dL_law_1476 : decode cL_law 1476 = .ok (.iload 22, 2) := by decide +kernel
theorem dL_law_1478 : decode cL_law 1478 = .ok (.imul, 1) := by decide +kernel
theorem dL_law_1479 : decode cL_law 1479 = .ok (.iconst 1, 1) := by decide +kernel
theorem dL_law_1480 : decode cL_law 1480 = .ok (.iadd, 1) := by decide +kernel
theorem dL_law_1481 : decode cL_law 1481 = .ok (.iload 21, 2) := by decide +kernel
theorem dL_law_1483 : decode cL_law 1483 = .ok (.iload 22, 2) := by decide +kernel
theorem dL_law_1485 : decode cL_law 1485 = .ok (.ishr, 1) := by decide +kernel
theorem dL_law_1486 : decode cL_law 1486 = .ok (.iconst 1, 1) := by decide +kernel
theorem dL_law_1487 : decode cL_law 1487 = .ok (.iand, 1) := by decide +kernel
theorem dL_law_1488 : decode cL_law 1488 = .ok (.iconst 1, 1) := by decide +kernel
theorem dL_law_1489 : decode cL_law 1489 = .ok (.if_icmp .ne 8, 3) := by decide +kernel
theorem dL_law_1492 : decode cL_law 1492 = .ok (.iload 21, 2) := by decide +kernel
theorem dL_law_1494 : decode cL_law 1494 = .ok (.goto 26, 3) := by decide +kernel
theorem dL_law_1497 : decode cL_law 1497 = .ok (.iload 22, 2) := by decide +kernel
theorem dL_law_1499 : decode cL_law 1499 = .ok (.iload 20, 2) := by decide +kernel
theorem dL_law_1501 : decode cL_law 1501 = .ok (.if_icmp .ne 10, 3) := by decide +kernel
theorem dL_law_1504 : decode cL_law 1504 = .ok (.iconst 1, 1) := by decide +kernel
theorem dL_law_1505 : decode cL_law 1505 = .ok (.iload 20, 2) := by decide +kernel
theorem dL_law_1507 : decode cL_law 1507 = .ok (.ishl, 1) := by decide +kernel
theorem dL_law_1508 : decode cL_law 1508 = .ok (.goto 12, 3) := by decide +kernel
theorem dL_law_1511 : decode cL_law 1511 = .ok (.aload 5, 2) := by decide +kernel
theorem dL_law_1513 : decode cL_law 1513 = .ok (.iconst 4, 1) := by decide +kernel
theorem dL_law_1514 : decode cL_law 1514 = .ok (.iload 22, 2) := by decide +kernel
theorem dL_law_1516 : decode cL_law 1516 = .ok (.imul, 1) := by decide +kernel
theorem dL_law_1517 : decode cL_law 1517 = .ok (.iconst 1, 1) := by decide +kernel
theorem dL_law_1518 : decode cL_law 1518 = .ok (.iadd, 1) := by decide +kernel
theorem dL_law_1519 : decode cL_law 1519 = .ok (.iaload, 1) := by decide +kernel
theorem dL_law_1520 : decode cL_law 1520 = .ok (.iastore, 1) := by decide +kernel
theorem dL_law_1521 : decode cL_law 1521 = .ok (.iinc 22 1, 3) := by decide +kernel
theorem dL_law_1524 : decode cL_law 1524 = .ok (.goto (-57), 3) := by decide +kernel
theorem dL_law_1527 : decode cL_law 1527 = .ok (.goto 534, 3) := by decide +kernel
theorem dL_law_1530 : decode cL_law 1530 = .ok (.iload 18, 2) := by decide +kernel
theorem dL_law_1532 : decode cL_law 1532 = .ok (.bipush 21, 2) := by decide +kernel
theorem dL_law_1534 : decode cL_law 1534 = .ok (.if_icmp .ge 84, 3) := by decide +kernel
theorem dL_law_1537 : decode cL_law 1537 = .ok (.iload 19, 2) := by decide +kernel
theorem dL_law_1539 : decode cL_law 1539 = .ok (.iconst 4, 1) := by decide +kernel
theorem dL_law_1540 : decode cL_law 1540 = .ok (.idiv, 1) := by decide +kernel
theorem dL_law_1541 : decode cL_law 1541 = .ok (.bipush 6, 2) := by decide +kernel
theorem dL_law_1543 : decode cL_law 1543 = .ok (.irem, 1) := by decide +kernel
theorem dL_law_1544 : decode cL_law 1544 = .ok (.ifCond .ne 7, 3) := by decide +kernel
theorem dL_law_1547 : decode cL_law 1547 = .ok (.iconst 0, 1) := by decide +kernel
theorem dL_law_1548 : decode cL_law 1548 = .ok (.goto 27, 3) := by decide +kernel
theorem dL_law_1551 : decode cL_law 1551 = .ok (.bipush 30, 2) := by decide +kernel
theorem dL_law_1553 : decode cL_law 1553 = .ok (.iload 19, 2) := by decide +kernel
theorem dL_law_1555 : decode cL_law 1555 = .ok (.bipush 24, 2) := by decide +kernel
theorem dL_law_1557 : decode cL_law 1557 = .ok (.idiv, 1) := by decide +kernel
theorem dL_law_1558 : decode cL_law 1558 = .ok (.iload 19, 2) := by decide +kernel
theorem dL_law_1560 : decode cL_law 1560 = .ok (.iconst 2, 1) := by decide +kernel
theorem dL_law_1561 : decode cL_law 1561 = .ok (.irem, 1) := by decide +kernel
theorem dL_law_1562 : decode cL_law 1562 = .ok (.ifCond .ne 8, 3) := by decide +kernel
theorem dL_law_1565 : decode cL_law 1565 = .ok (.ldc 168, 2) := by decide +kernel
theorem dL_law_1567 : decode cL_law 1567 = .ok (.goto 6, 3) := by decide +kernel
theorem dL_law_1570 : decode cL_law 1570 = .ok (.sipush 3000, 3) := by decide +kernel
theorem dL_law_1573 : decode cL_law 1573 = .ok (.irem, 1) := by decide +kernel
theorem dL_law_1574 : decode cL_law 1574 = .ok (.iadd, 1) := by decide +kernel
theorem dL_law_1575 : decode cL_law 1575 = .ok (.istore 21, 2) := by decide +kernel
theorem dL_law_1577 : decode cL_law 1577 = .ok (.aload_n 1, 1) := by decide +kernel
theorem dL_law_1578 : decode cL_law 1578 = .ok (.iload 20, 2) := by decide +kernel
theorem dL_law_1580 : decode cL_law 1580 = .ok (.iload 21, 2) := by decide +kernel
theorem dL_law_1582 : decode cL_law 1582 = .ok (.invokevirtual 169, 3) := by decide +kernel
theorem dL_law_1585 : decode cL_law 1585 = .ok (.aload 5, 2) := by decide +kernel
theorem dL_law_1587 : decode cL_law 1587 = .ok (.iconst 4, 1) := by decide +kernel
theorem dL_law_1588 : decode cL_law 1588 = .ok (.iload 20, 2) := by decide +kernel
theorem dL_law_1590 : decode cL_law 1590 = .ok (.imul, 1) := by decide +kernel
theorem dL_law_1591 : decode cL_law 1591 = .ok (.iconst 2, 1) := by decide +kernel
theorem dL_law_1592 : decode cL_law 1592 = .ok (.iadd, 1) := by decide +kernel
theorem dL_law_1593 : decode cL_law 1593 = .ok (.iaload, 1) := by decide +kernel
theorem dL_law_1594 : decode cL_law 1594 = .ok (.if_icmp .ne 7, 3) := by decide +kernel
theorem dL_law_1597 : decode cL_law 1597 = .ok (.iconst 1, 1) := by decide +kernel
theorem dL_law_1598 : decode cL_law 1598 = .ok (.goto 4, 3) := by decide +kernel
theorem dL_law_1601 : decode cL_law 1601 = .ok (.iconst 0, 1) := by decide +kernel
theorem dL_law_1602 : decode cL_law 1602 = .ok (.istore 15, 2) := by decide +kernel
theorem dL_law_1604 : decode cL_law 1604 = .ok (.aload 5, 2) := by decide +kernel
theorem dL_law_1606 : decode cL_law 1606 = .ok (.iconst 4, 1) := by decide +kernel
theorem dL_law_1607 : decode cL_law 1607 = .ok (.iload 20, 2) := by decide +kernel
theorem dL_law_1609 : decode cL_law 1609 = .ok (.imul, 1) := by decide +kernel
theorem dL_law_1610 : decode cL_law 1610 = .ok (.iconst 2, 1) := by decide +kernel
theorem dL_law_1611 : decode cL_law 1611 = .ok (.iadd, 1) := by decide +kernel
theorem dL_law_1612 : decode cL_law 1612 = .ok (.iload 21, 2) := by decide +kernel
theorem dL_law_1614 : decode cL_law 1614 = .ok (.iastore, 1) := by decide +kernel
theorem dL_law_1615 : decode cL_law 1615 = .ok (.goto 446, 3) := by decide +kernel
theorem dL_law_1618 : decode cL_law 1618 = .ok (.iload 18, 2) := by decide +kernel
theorem dL_law_1620 : decode cL_law 1620 = .ok (.bipush 23, 2) := by decide +kernel
theorem dL_law_1622 : decode cL_law 1622 = .ok (.if_icmp .ge 187, 3) := by decide +kernel
theorem dL_law_1625 : decode cL_law 1625 = .ok (.aload 12, 2) := by decide +kernel
theorem dL_law_1627 : decode cL_law 1627 = .ok (.iconst 3, 1) := by decide +kernel
theorem dL_law_1628 : decode cL_law 1628 = .ok (.iaload, 1) := by decide +kernel
theorem dL_law_1629 : decode cL_law 1629 = .ok (.iconst 4, 1) := by decide +kernel
theorem dL_law_1630 : decode cL_law 1630 = .ok (.if_icmp .ge 179, 3) := by decide +kernel
theorem dL_law_1633 : decode cL_law 1633 = .ok (.bipush 6, 2) := by decide +kernel
theorem dL_law_1635 : decode cL_law 1635 = .ok (.aload 12, 2) := by decide +kernel
theorem dL_law_1637 : decode cL_law 1637 = .ok (.iconst 3, 1) := by decide +kernel
theorem dL_law_1638 : decode cL_law 1638 = .ok (.iaload, 1) := by decide +kernel
theorem dL_law_1639 : decode cL_law 1639 = .ok (.imul, 1) := by decide +kernel
theorem dL_law_1640 : decode cL_law 1640 = .ok (.istore 21, 2) := by decide +kernel
theorem dL_law_1642 : decode cL_law 1642 = .ok (.aload 10, 2) := by decide +kernel
theorem dL_law_1644 : decode cL_law 1644 = .ok (.iload 21, 2) := by decide +kernel
theorem dL_law_1646 : decode cL_law 1646 = .ok (.iload 19, 2) := by decide +kernel
theorem dL_law_1648 : decode cL_law 1648 = .ok (.iconst 5, 1) := by decide +kernel
theorem dL_law_1649 : decode cL_law 1649 = .ok (.irem, 1) := by decide +kernel
theorem dL_law_1650 : decode cL_law 1650 = .ok (.iastore, 1) := by decide +kernel
theorem dL_law_1651 : decode cL_law 1651 = .ok (.aload 10, 2) := by decide +kernel
theorem dL_law_1653 : decode cL_law 1653 = .ok (.iload 21, 2) := by decide +kernel
theorem dL_law_1655 : decode cL_law 1655 = .ok (.iconst 1, 1) := by decide +kernel
theorem dL_law_1656 : decode cL_law 1656 = .ok (.iadd, 1) := by decide +kernel
theorem dL_law_1657 : decode cL_law 1657 = .ok (.iload 19, 2) := by decide +kernel
theorem dL_law_1659 : decode cL_law 1659 = .ok (.iconst 5, 1) := by decide +kernel
theorem dL_law_1660 : decode cL_law 1660 = .ok (.idiv, 1) := by decide +kernel
theorem dL_law_1661 : decode cL_law 1661 = .ok (.iconst 3, 1) := by decide +kernel
theorem dL_law_1662 : decode cL_law 1662 = .ok (.irem, 1) := by decide +kernel
theorem dL_law_1663 : decode cL_law 1663 = .ok (.iastore, 1) := by decide +kernel
theorem dL_law_1664 : decode cL_law 1664 = .ok (.aload 10, 2) := by decide +kernel
theorem dL_law_1666 : decode cL_law 1666 = .ok (.iload 21, 2) := by decide +kernel
theorem dL_law_1668 : decode cL_law 1668 = .ok (.iconst 2, 1) := by decide +kernel
theorem dL_law_1669 : decode cL_law 1669 = .ok (.iadd, 1) := by decide +kernel
theorem dL_law_1670 : decode cL_law 1670 = .ok (.iload 19, 2) := by decide +kernel
theorem dL_law_1672 : decode cL_law 1672 = .ok (.bipush 15, 2) := by decide +kernel
theorem dL_law_1674 : decode cL_law 1674 = .ok (.idiv, 1) := by decide +kernel
theorem dL_law_1675 : decode cL_law 1675 = .ok (.sipush 200, 3) := by decide +kernel
theorem dL_law_1678 : decode cL_law 1678 = .ok (.irem, 1) := by decide +kernel
theorem dL_law_1679 : decode cL_law 1679 = .ok (.iastore, 1) := by decide +kernel
theorem dL_law_1680 : decode cL_law 1680 = .ok (.aload 10, 2) := by decide +kernel
theorem dL_law_1682 : decode cL_law 1682 = .ok (.iload 21, 2) := by decide +kernel
theorem dL_law_1684 : decode cL_law 1684 = .ok (.iconst 3, 1) := by decide +kernel
theorem dL_law_1685 : decode cL_law 1685 = .ok (.iadd, 1) := by decide +kernel
theorem dL_law_1686 : decode cL_law 1686 = .ok (.aload 10, 2) := by decide +kernel
theorem dL_law_1688 : decode cL_law 1688 = .ok (.iload 21, 2) := by decide +kernel
theorem dL_law_1690 : decode cL_law 1690 = .ok (.iconst 2, 1) := by decide +kernel
theorem dL_law_1691 : decode cL_law 1691 = .ok (.iadd, 1) := by decide +kernel
theorem dL_law_1692 : decode cL_law 1692 = .ok (.iaload, 1) := by decide +kernel
theorem dL_law_1693 : decode cL_law 1693 = .ok (.iload 19, 2) := by decide +kernel
theorem dL_law_1695 : decode cL_law 1695 = .ok (.bipush 7, 2) := by decide +kernel
theorem dL_law_1697 : decode cL_law 1697 = .ok (.idiv, 1) := by decide +kernel
theorem dL_law_1698 : decode cL_law 1698 = .ok (.sipush 2000, 3) := by decide +kernel
theorem dL_law_1701 : decode cL_law 1701 = .ok (.irem, 1) := by decide +kernel
theorem dL_law_1702 : decode cL_law 1702 = .ok (.iadd, 1) := by decide +kernel
theorem dL_law_1703 : decode cL_law 1703 = .ok (.iastore, 1) := by decide +kernel
theorem dL_law_1704 : decode cL_law 1704 = .ok (.aload 10, 2) := by decide +kernel
theorem dL_law_1706 : decode cL_law 1706 = .ok (.iload 21, 2) := by decide +kernel
theorem dL_law_1708 : decode cL_law 1708 = .ok (.iconst 4, 1) := by decide +kernel
theorem dL_law_1709 : decode cL_law 1709 = .ok (.iadd, 1) := by decide +kernel
theorem dL_law_1710 : decode cL_law 1710 = .ok (.iload 19, 2) := by decide +kernel
theorem dL_law_1712 : decode cL_law 1712 = .ok (.bipush 19, 2) := by decide +kernel
theorem dL_law_1714 : decode cL_law 1714 = .ok (.idiv, 1) := by decide +kernel
theorem dL_law_1715 : decode cL_law 1715 = .ok (.bipush 9, 2) := by decide +kernel
theorem dL_law_1717 : decode cL_law 1717 = .ok (.irem, 1) := by decide +kernel
theorem dL_law_1718 : decode cL_law 1718 = .ok (.iconst 4, 1) := by decide +kernel
theorem dL_law_1719 : decode cL_law 1719 = .ok (.isub, 1) := by decide +kernel
theorem dL_law_1720 : decode cL_law 1720 = .ok (.ifCond .le 16, 3) := by decide +kernel
theorem dL_law_1723 : decode cL_law 1723 = .ok (.iload 19, 2) := by decide +kernel
theorem dL_law_1725 : decode cL_law 1725 = .ok (.bipush 19, 2) := by decide +kernel
theorem dL_law_1727 : decode cL_law 1727 = .ok (.idiv, 1) := by decide +kernel
theorem dL_law_1728 : decode cL_law 1728 = .ok (.bipush 9, 2) := by decide +kernel
theorem dL_law_1730 : decode cL_law 1730 = .ok (.irem, 1) := by decide +kernel
theorem dL_law_1731 : decode cL_law 1731 = .ok (.iconst 4, 1) := by decide +kernel
theorem dL_law_1732 : decode cL_law 1732 = .ok (.isub, 1) := by decide +kernel
theorem dL_law_1733 : decode cL_law 1733 = .ok (.goto 13, 3) := by decide +kernel
theorem dL_law_1736 : decode cL_law 1736 = .ok (.iload 19, 2) := by decide +kernel
theorem dL_law_1738 : decode cL_law 1738 = .ok (.bipush 19, 2) := by decide +kernel
theorem dL_law_1740 : decode cL_law 1740 = .ok (.idiv, 1) := by decide +kernel
theorem dL_law_1741 : decode cL_law 1741 = .ok (.bipush 9, 2) := by decide +kernel
theorem dL_law_1743 : decode cL_law 1743 = .ok (.irem, 1) := by decide +kernel
theorem dL_law_1744 : decode cL_law 1744 = .ok (.iconst 5, 1) := by decide +kernel
theorem dL_law_1745 : decode cL_law 1745 = .ok (.isub, 1) := by decide +kernel
theorem dL_law_1746 : decode cL_law 1746 = .ok (.iastore, 1) := by decide +kernel
theorem dL_law_1747 : decode cL_law 1747 = .ok (.aload_n 1, 1) := by decide +kernel
theorem dL_law_1748 : decode cL_law 1748 = .ok (.aload 10, 2) := by decide +kernel
theorem dL_law_1750 : decode cL_law 1750 = .ok (.iload 21, 2) := by decide +kernel
theorem dL_law_1752 : decode cL_law 1752 = .ok (.iaload, 1) := by decide +kernel
theorem dL_law_1753 : decode cL_law 1753 = .ok (.aload 10, 2) := by decide +kernel
theorem dL_law_1755 : decode cL_law 1755 = .ok (.iload 21, 2) := by decide +kernel
theorem dL_law_1757 : decode cL_law 1757 = .ok (.iconst 1, 1) := by decide +kernel
theorem dL_law_1758 : decode cL_law 1758 = .ok (.iadd, 1) := by decide +kernel
theorem dL_law_1759 : decode cL_law 1759 = .ok (.iaload, 1) := by decide +kernel
theorem dL_law_1760 : decode cL_law 1760 = .ok (.aload 10, 2) := by decide +kernel
theorem dL_law_1762 : decode cL_law 1762 = .ok (.iload 21, 2) := by decide +kernel
theorem dL_law_1764 : decode cL_law 1764 = .ok (.iconst 2, 1) := by decide +kernel
theorem dL_law_1765 : decode cL_law 1765 = .ok (.iadd, 1) := by decide +kernel
theorem dL_law_1766 : decode cL_law 1766 = .ok (.iaload, 1) := by decide +kernel
theorem dL_law_1767 : decode cL_law 1767 = .ok (.aload 10, 2) := by decide +kernel
theorem dL_law_1769 : decode cL_law 1769 = .ok (.iload 21, 2) := by decide +kernel
theorem dL_law_1771 : decode cL_law 1771 = .ok (.iconst 3, 1) := by decide +kernel
theorem dL_law_1772 : decode cL_law 1772 = .ok (.iadd, 1) := by decide +kernel
theorem dL_law_1773 : decode cL_law 1773 = .ok (.iaload, 1) := by decide +kernel
theorem dL_law_1774 : decode cL_law 1774 = .ok (.aload 10, 2) := by decide +kernel
theorem dL_law_1776 : decode cL_law 1776 = .ok (.iload 21, 2) := by decide +kernel
theorem dL_law_1778 : decode cL_law 1778 = .ok (.iconst 4, 1) := by decide +kernel
theorem dL_law_1779 : decode cL_law 1779 = .ok (.iadd, 1) := by decide +kernel
theorem dL_law_1780 : decode cL_law 1780 = .ok (.iaload, 1) := by decide +kernel
theorem dL_law_1781 : decode cL_law 1781 = .ok (.invokevirtual 171, 3) := by decide +kernel
theorem dL_law_1784 : decode cL_law 1784 = .ok (.aload 12, 2) := by decide +kernel
theorem dL_law_1786 : decode cL_law 1786 = .ok (.iconst 3, 1) := by decide +kernel
theorem dL_law_1787 : decode cL_law 1787 = .ok (.iaload, 1) := by decide +kernel
theorem dL_law_1788 : decode cL_law 1788 = .ok (.if_icmp .ne 7, 3) := by decide +kernel
theorem dL_law_1791 : decode cL_law 1791 = .ok (.iconst 1, 1) := by decide +kernel
theorem dL_law_1792 : decode cL_law 1792 = .ok (.goto 4, 3) := by decide +kernel
theorem dL_law_1795 : decode cL_law 1795 = .ok (.iconst 0, 1) := by decide +kernel
theorem dL_law_1796 : decode cL_law 1796 = .ok (.istore 15, 2) := by decide +kernel
theorem dL_law_1798 : decode cL_law 1798 = .ok (.aload 12, 2) := by decide +kernel
theorem dL_law_1800 : decode cL_law 1800 = .ok (.iconst 3, 1) := by decide +kernel
theorem dL_law_1801 : decode cL_law 1801 = .ok (.dup2, 1) := by decide +kernel
theorem dL_law_1802 : decode cL_law 1802 = .ok (.iaload, 1) := by decide +kernel
theorem dL_law_1803 : decode cL_law 1803 = .ok (.iconst 1, 1) := by decide +kernel
theorem dL_law_1804 : decode cL_law 1804 = .ok (.iadd, 1) := by decide +kernel
theorem dL_law_1805 : decode cL_law 1805 = .ok (.iastore, 1) := by decide +kernel
theorem dL_law_1806 : decode cL_law 1806 = .ok (.goto 255, 3) := by decide +kernel
theorem dL_law_1809 : decode cL_law 1809 = .ok (.iload 18, 2) := by decide +kernel
theorem dL_law_1811 : decode cL_law 1811 = .ok (.bipush 23, 2) := by decide +kernel
theorem dL_law_1813 : decode cL_law 1813 = .ok (.if_icmp .ne 95, 3) := by decide +kernel
theorem dL_law_1816 : decode cL_law 1816 = .ok (.aload 12, 2) := by decide +kernel
theorem dL_law_1818 : decode cL_law 1818 = .ok (.iconst 3, 1) := by decide +kernel
theorem dL_law_1819 : decode cL_law 1819 = .ok (.iaload, 1) := by decide +kernel
theorem dL_law_1820 : decode cL_law 1820 = .ok (.ifCond .le 88, 3) := by decide +kernel
theorem dL_law_1823 : decode cL_law 1823 = .ok (.bipush 6, 2) := by decide +kernel
theorem dL_law_1825 : decode cL_law 1825 = .ok (.iload 19, 2) := by decide +kernel
theorem dL_law_1827 : decode cL_law 1827 = .ok (.aload 12, 2) := by decide +kernel
theorem dL_law_1829 : decode cL_law 1829 = .ok (.iconst 3, 1) := by decide +kernel
theorem dL_law_1830 : decode cL_law 1830 = .ok (.iaload, 1) := by decide +kernel
theorem dL_law_1831 : decode cL_law 1831 = .ok (.irem, 1) := by decide +kernel
theorem dL_law_1832 : decode cL_law 1832 = .ok (.imul, 1) := by decide +kernel
theorem dL_law_1833 : decode cL_law 1833 = .ok (.iconst 5, 1) := by decide +kernel
theorem dL_law_1834 : decode cL_law 1834 = .ok (.iadd, 1) := by decide +kernel
theorem dL_law_1835 : decode cL_law 1835 = .ok (.istore 21, 2) := by decide +kernel
theorem dL_law_1837 : decode cL_law 1837 = .ok (.iload 19, 2) := by decide +kernel
theorem dL_law_1839 : decode cL_law 1839 = .ok (.iconst 5, 1) := by decide +kernel
theorem dL_law_1840 : decode cL_law 1840 = .ok (.idiv, 1) := by decide +kernel
theorem dL_law_1841 : decode cL_law 1841 = .ok (.iconst 2, 1) := by decide +kernel
theorem dL_law_1842 : decode cL_law 1842 = .ok (.irem, 1) := by decide +kernel
theorem dL_law_1843 : decode cL_law 1843 = .ok (.ifCond .ne 7, 3) := by decide +kernel
theorem dL_law_1846 : decode cL_law 1846 = .ok (.iconst 1, 1) := by decide +kernel
theorem dL_law_1847 : decode cL_law 1847 = .ok (.goto 4, 3) := by decide +kernel
theorem dL_law_1850 : decode cL_law 1850 = .ok (.iconst 0, 1) := by decide +kernel
theorem dL_law_1851 : decode cL_law 1851 = .ok (.istore 22, 2) := by decide +kernel
theorem dL_law_1853 : decode cL_law 1853 = .ok (.aload_n 1, 1) := by decide +kernel
theorem dL_law_1854 : decode cL_law 1854 = .ok (.iload 19, 2) := by decide +kernel
theorem dL_law_1856 : decode cL_law 1856 = .ok (.aload 12, 2) := by decide +kernel
theorem dL_law_1858 : decode cL_law 1858 = .ok (.iconst 3, 1) := by decide +kernel
theorem dL_law_1859 : decode cL_law 1859 = .ok (.iaload, 1) := by decide +kernel
theorem dL_law_1860 : decode cL_law 1860 = .ok (.irem, 1) := by decide +kernel
theorem dL_law_1861 : decode cL_law 1861 = .ok (.iload 22, 2) := by decide +kernel
theorem dL_law_1863 : decode cL_law 1863 = .ok (.invokevirtual 174, 3) := by decide +kernel
theorem dL_law_1866 : decode cL_law 1866 = .ok (.aload 10, 2) := by decide +kernel
theorem dL_law_1868 : decode cL_law 1868 = .ok (.iload 21, 2) := by decide +kernel
theorem dL_law_1870 : decode cL_law 1870 = .ok (.iaload, 1) := by decide +kernel
theorem dL_law_1871 : decode cL_law 1871 = .ok (.iconst 1, 1) := by decide +kernel
theorem dL_law_1872 : decode cL_law 1872 = .ok (.if_icmp .ne 7, 3) := by decide +kernel
theorem dL_law_1875 : decode cL_law 1875 = .ok (.iconst 1, 1) := by decide +kernel
theorem dL_law_1876 : decode cL_law 1876 = .ok (.goto 4, 3) := by decide +kernel
theorem dL_law_1879 : decode cL_law 1879 = .ok (.iconst 0, 1) := by decide +kernel
theorem dL_law_1880 : decode cL_law 1880 = .ok (.if_icmp .ne 7, 3) := by decide +kernel
theorem dL_law_1883 : decode cL_law 1883 = .ok (.iconst 1, 1) := by decide +kernel
theorem dL_law_1884 : decode cL_law 1884 = .ok (.goto 4, 3) := by decide +kernel
theorem dL_law_1887 : decode cL_law 1887 = .ok (.iconst 0, 1) := by decide +kernel
theorem dL_law_1888 : decode cL_law 1888 = .ok (.istore 15, 2) := by decide +kernel
theorem dL_law_1890 : decode cL_law 1890 = .ok (.aload 10, 2) := by decide +kernel
theorem dL_law_1892 : decode cL_law 1892 = .ok (.iload 21, 2) := by decide +kernel
theorem dL_law_1894 : decode cL_law 1894 = .ok (.iload 22, 2) := by decide +kernel
theorem dL_law_1896 : decode cL_law 1896 = .ok (.ifCond .eq 7, 3) := by decide +kernel
theorem dL_law_1899 : decode cL_law 1899 = .ok (.iconst 1, 1) := by decide +kernel
theorem dL_law_1900 : decode cL_law 1900 = .ok (.goto 4, 3) := by decide +kernel
theorem dL_law_1903 : decode cL_law 1903 = .ok (.iconst 0, 1) := by decide +kernel
theorem dL_law_1904 : decode cL_law 1904 = .ok (.iastore, 1) := by decide +kernel
theorem dL_law_1905 : decode cL_law 1905 = .ok (.goto 156, 3) := by decide +kernel
theorem dL_law_1908 : decode cL_law 1908 = .ok (.iload 18, 2) := by decide +kernel
theorem dL_law_1910 : decode cL_law 1910 = .ok (.bipush 24, 2) := by decide +kernel
theorem dL_law_1912 : decode cL_law 1912 = .ok (.if_icmp .ne 56, 3) := by decide +kernel
theorem dL_law_1915 : decode cL_law 1915 = .ok (.aload_n 1, 1) := by decide +kernel
theorem dL_law_1916 : decode cL_law 1916 = .ok (.iload 20, 2) := by decide +kernel
theorem dL_law_1918 : decode cL_law 1918 = .ok (.iload 19, 2) := by decide +kernel
theorem dL_law_1920 : decode cL_law 1920 = .ok (.iconst 4, 1) := by decide +kernel
theorem dL_law_1921 : decode cL_law 1921 = .ok (.idiv, 1) := by decide +kernel
theorem dL_law_1922 : decode cL_law 1922 = .ok (.sipush 501, 3) := by decide +kernel
theorem dL_law_1925 : decode cL_law 1925 = .ok (.irem, 1) := by decide +kernel
theorem dL_law_1926 : decode cL_law 1926 = .ok (.invokevirtual 177, 3) := by decide +kernel
theorem dL_law_1929 : decode cL_law 1929 = .ok (.aload 5, 2) := by decide +kernel
theorem dL_law_1931 : decode cL_law 1931 = .ok (.iconst 4, 1) := by decide +kernel
theorem dL_law_1932 : decode cL_law 1932 = .ok (.iload 20, 2) := by decide +kernel
theorem dL_law_1934 : decode cL_law 1934 = .ok (.imul, 1) := by decide +kernel
theorem dL_law_1935 : decode cL_law 1935 = .ok (.iconst 3, 1) := by decide +kernel
theorem dL_law_1936 : decode cL_law 1936 = .ok (.iadd, 1) := by decide +kernel
theorem dL_law_1937 : decode cL_law 1937 = .ok (.iaload, 1) := by decide +kernel
theorem dL_law_1938 : decode cL_law 1938 = .ok (.if_icmp .ne 7, 3) := by decide +kernel
theorem dL_law_1941 : decode cL_law 1941 = .ok (.iconst 1, 1) := by decide +kernel
theorem dL_law_1942 : decode cL_law 1942 = .ok (.goto 4, 3) := by decide +kernel
theorem dL_law_1945 : decode cL_law 1945 = .ok (.iconst 0, 1) := by decide +kernel
theorem dL_law_1946 : decode cL_law 1946 = .ok (.istore 15, 2) := by decide +kernel
theorem dL_law_1948 : decode cL_law 1948 = .ok (.aload 5, 2) := by decide +kernel
theorem dL_law_1950 : decode cL_law 1950 = .ok (.iconst 4, 1) := by decide +kernel
theorem dL_law_1951 : decode cL_law 1951 = .ok (.iload 20, 2) := by decide +kernel
theorem dL_law_1953 : decode cL_law 1953 = .ok (.imul, 1) := by decide +kernel
theorem dL_law_1954 : decode cL_law 1954 = .ok (.iconst 3, 1) := by decide +kernel
theorem dL_law_1955 : decode cL_law 1955 = .ok (.iadd, 1) := by decide +kernel
theorem dL_law_1956 : decode cL_law 1956 = .ok (.iload 19, 2) := by decide +kernel
theorem dL_law_1958 : decode cL_law 1958 = .ok (.iconst 4, 1) := by decide +kernel
theorem dL_law_1959 : decode cL_law 1959 = .ok (.idiv, 1) := by decide +kernel
theorem dL_law_1960 : decode cL_law 1960 = .ok (.sipush 501, 3) := by decide +kernel
theorem dL_law_1963 : decode cL_law 1963 = .ok (.irem, 1) := by decide +kernel
theorem dL_law_1964 : decode cL_law 1964 = .ok (.iastore, 1) := by decide +kernel
theorem dL_law_1965 : decode cL_law 1965 = .ok (.goto 96, 3) := by decide +kernel
theorem dL_law_1968 : decode cL_law 1968 = .ok (.iload 18, 2) := by decide +kernel
theorem dL_law_1970 : decode cL_law 1970 = .ok (.bipush 25, 2) := by decide +kernel
theorem dL_law_1972 : decode cL_law 1972 = .ok (.if_icmp .ne 48, 3) := by decide +kernel
theorem dL_law_1975 : decode cL_law 1975 = .ok (.aload_n 1, 1) := by decide +kernel
theorem dL_law_1976 : decode cL_law 1976 = .ok (.iload 19, 2) := by decide +kernel
theorem dL_law_1978 : decode cL_law 1978 = .ok (.sipush 2001, 3) := by decide +kernel
theorem dL_law_1981 : decode cL_law 1981 = .ok (.irem, 1) := by decide +kernel
theorem dL_law_1982 : decode cL_law 1982 = .ok (.sipush 1000, 3) := by decide +kernel
theorem dL_law_1985 : decode cL_law 1985 = .ok (.isub, 1) := by decide +kernel
theorem dL_law_1986 : decode cL_law 1986 = .ok (.invokevirtual 180, 3) := by decide +kernel
theorem dL_law_1989 : decode cL_law 1989 = .ok (.aload 12, 2) := by decide +kernel
theorem dL_law_1991 : decode cL_law 1991 = .ok (.iconst 5, 1) := by decide +kernel
theorem dL_law_1992 : decode cL_law 1992 = .ok (.iaload, 1) := by decide +kernel
theorem dL_law_1993 : decode cL_law 1993 = .ok (.if_icmp .ne 7, 3) := by decide +kernel
theorem dL_law_1996 : decode cL_law 1996 = .ok (.iconst 1, 1) := by decide +kernel
theorem dL_law_1997 : decode cL_law 1997 = .ok (.goto 4, 3) := by decide +kernel
theorem dL_law_2000 : decode cL_law 2000 = .ok (.iconst 0, 1) := by decide +kernel
theorem dL_law_2001 : decode cL_law 2001 = .ok (.istore 15, 2) := by decide +kernel
theorem dL_law_2003 : decode cL_law 2003 = .ok (.aload 12, 2) := by decide +kernel
theorem dL_law_2005 : decode cL_law 2005 = .ok (.iconst 5, 1) := by decide +kernel
theorem dL_law_2006 : decode cL_law 2006 = .ok (.iload 19, 2) := by decide +kernel
theorem dL_law_2008 : decode cL_law 2008 = .ok (.sipush 2001, 3) := by decide +kernel
theorem dL_law_2011 : decode cL_law 2011 = .ok (.irem, 1) := by decide +kernel
theorem dL_law_2012 : decode cL_law 2012 = .ok (.sipush 1000, 3) := by decide +kernel
theorem dL_law_2015 : decode cL_law 2015 = .ok (.isub, 1) := by decide +kernel
theorem dL_law_2016 : decode cL_law 2016 = .ok (.iastore, 1) := by decide +kernel
theorem dL_law_2017 : decode cL_law 2017 = .ok (.goto 44, 3) := by decide +kernel
theorem dL_law_2020 : decode cL_law 2020 = .ok (.aload_n 2, 1) := by decide +kernel
theorem dL_law_2021 : decode cL_law 2021 = .ok (.aload_n 3, 1) := by decide +kernel
theorem dL_law_2022 : decode cL_law 2022 = .ok (.aload 4, 2) := by decide +kernel
theorem dL_law_2024 : decode cL_law 2024 = .ok (.aload 5, 2) := by decide +kernel
theorem dL_law_2026 : decode cL_law 2026 = .ok (.aload 6, 2) := by decide +kernel
theorem dL_law_2028 : decode cL_law 2028 = .ok (.aload 7, 2) := by decide +kernel
theorem dL_law_2030 : decode cL_law 2030 = .ok (.aload 8, 2) := by decide +kernel
theorem dL_law_2032 : decode cL_law 2032 = .ok (.aload 9, 2) := by decide +kernel
theorem dL_law_2034 : decode cL_law 2034 = .ok (.aload 12, 2) := by decide +kernel
theorem dL_law_2036 : decode cL_law 2036 = .ok (.aload 13, 2) := by decide +kernel
theorem dL_law_2038 : decode cL_law 2038 = .ok (.aload 14, 2) := by decide +kernel
theorem dL_law_2040 : decode cL_law 2040 = .ok (.invokestatic 183, 3) := by decide +kernel
theorem dL_law_2043 : decode cL_law 2043 = .ok (.aload_n 1, 1) := by decide +kernel
theorem dL_law_2044 : decode cL_law 2044 = .ok (.aload 5, 2) := by decide +kernel
theorem dL_law_2046 : decode cL_law 2046 = .ok (.aload 7, 2) := by decide +kernel
theorem dL_law_2048 : decode cL_law 2048 = .ok (.aload 12, 2) := by decide +kernel
theorem dL_law_2050 : decode cL_law 2050 = .ok (.aload 13, 2) := by decide +kernel
theorem dL_law_2052 : decode cL_law 2052 = .ok (.aload 14, 2) := by decide +kernel
theorem dL_law_2054 : decode cL_law 2054 = .ok (.iload 19, 2) := by decide +kernel
theorem dL_law_2056 : decode cL_law 2056 = .ok (.invokestatic 187, 3) := by decide +kernel
theorem dL_law_2059 : decode cL_law 2059 = .ok (.istore 15, 2) := by decide +kernel
theorem dL_law_2061 : decode cL_law 2061 = .ok (.iload 15, 2) := by decide +kernel
theorem dL_law_2063 : decode cL_law 2063 = .ok (.ifCond .eq 133, 3) := by decide +kernel
theorem dL_law_2066 : decode cL_law 2066 = .ok (.iload 16, 2) := by decide +kernel
theorem dL_law_2068 : decode cL_law 2068 = .ok (.iconst 5, 1) := by decide +kernel
theorem dL_law_2069 : decode cL_law 2069 = .ok (.irem, 1) := by decide +kernel
theorem dL_law_2070 : decode cL_law 2070 = .ok (.iconst 4, 1) := by decide +kernel
theorem dL_law_2071 : decode cL_law 2071 = .ok (.if_icmp .ne 125, 3) := by decide +kernel
theorem dL_law_2074 : decode cL_law 2074 = .ok (.aload_n 2, 1) := by decide +kernel
theorem dL_law_2075 : decode cL_law 2075 = .ok (.aload_n 3, 1) := by decide +kernel
theorem dL_law_2076 : decode cL_law 2076 = .ok (.aload 4, 2) := by decide +kernel
theorem dL_law_2078 : decode cL_law 2078 = .ok (.aload 5, 2) := by decide +kernel
theorem dL_law_2080 : decode cL_law 2080 = .ok (.aload 6, 2) := by decide +kernel
theorem dL_law_2082 : decode cL_law 2082 = .ok (.aload 7, 2) := by decide +kernel
theorem dL_law_2084 : decode cL_law 2084 = .ok (.aload 8, 2) := by decide +kernel
theorem dL_law_2086 : decode cL_law 2086 = .ok (.aload 9, 2) := by decide +kernel
theorem dL_law_2088 : decode cL_law 2088 = .ok (.aload 12, 2) := by decide +kernel
theorem dL_law_2090 : decode cL_law 2090 = .ok (.aload 13, 2) := by decide +kernel
theorem dL_law_2092 : decode cL_law 2092 = .ok (.aload 14, 2) := by decide +kernel
theorem dL_law_2094 : decode cL_law 2094 = .ok (.invokestatic 183, 3) := by decide +kernel
theorem dL_law_2097 : decode cL_law 2097 = .ok (.aload_n 1, 1) := by decide +kernel
theorem dL_law_2098 : decode cL_law 2098 = .ok (.aload_n 2, 1) := by decide +kernel
theorem dL_law_2099 : decode cL_law 2099 = .ok (.aload 6, 2) := by decide +kernel
theorem dL_law_2101 : decode cL_law 2101 = .ok (.aload 7, 2) := by decide +kernel
theorem dL_law_2103 : decode cL_law 2103 = .ok (.aload 8, 2) := by decide +kernel
theorem dL_law_2105 : decode cL_law 2105 = .ok (.aload 9, 2) := by decide +kernel
theorem dL_law_2107 : decode cL_law 2107 = .ok (.aload 12, 2) := by decide +kernel
theorem dL_law_2109 : decode cL_law 2109 = .ok (.aload 13, 2) := by decide +kernel
theorem dL_law_2111 : decode cL_law 2111 = .ok (.aload 14, 2) := by decide +kernel
theorem dL_law_2113 : decode cL_law 2113 = .ok (.invokestatic 191, 3) := by decide +kernel
theorem dL_law_2116 : decode cL_law 2116 = .ok (.ifCond .eq 77, 3) := by decide +kernel
theorem dL_law_2119 : decode cL_law 2119 = .ok (.iload 16, 2) := by decide +kernel
theorem dL_law_2121 : decode cL_law 2121 = .ok (.bipush 10, 2) := by decide +kernel
theorem dL_law_2123 : decode cL_law 2123 = .ok (.irem, 1) := by decide +kernel
theorem dL_law_2124 : decode cL_law 2124 = .ok (.iconst 4, 1) := by decide +kernel
theorem dL_law_2125 : decode cL_law 2125 = .ok (.if_icmp .ne 24, 3) := by decide +kernel
theorem dL_law_2128 : decode cL_law 2128 = .ok (.aload_n 1, 1) := by decide +kernel
theorem dL_law_2129 : decode cL_law 2129 = .ok (.aload 5, 2) := by decide +kernel
theorem dL_law_2131 : decode cL_law 2131 = .ok (.aload 7, 2) := by decide +kernel
theorem dL_law_2133 : decode cL_law 2133 = .ok (.aload 10, 2) := by decide +kernel
theorem dL_law_2135 : decode cL_law 2135 = .ok (.aload 12, 2) := by decide +kernel
theorem dL_law_2137 : decode cL_law 2137 = .ok (.aload 13, 2) := by decide +kernel
theorem dL_law_2139 : decode cL_law 2139 = .ok (.aload 14, 2) := by decide +kernel
theorem dL_law_2141 : decode cL_law 2141 = .ok (.iload 19, 2) := by decide +kernel
theorem dL_law_2143 : decode cL_law 2143 = .ok (.invokestatic 195, 3) := by decide +kernel
theorem dL_law_2146 : decode cL_law 2146 = .ok (.ifCond .eq 47, 3) := by decide +kernel
theorem dL_law_2149 : decode cL_law 2149 = .ok (.iload 16, 2) := by decide +kernel
theorem dL_law_2151 : decode cL_law 2151 = .ok (.bipush 10, 2) := by decide +kernel
theorem dL_law_2153 : decode cL_law 2153 = .ok (.irem, 1) := by decide +kernel
theorem dL_law_2154 : decode cL_law 2154 = .ok (.bipush 9, 2) := by decide +kernel
theorem dL_law_2156 : decode cL_law 2156 = .ok (.if_icmp .ne 33, 3) := by decide +kernel
theorem dL_law_2159 : decode cL_law 2159 = .ok (.aload_n 1, 1) := by decide +kernel
theorem dL_law_2160 : decode cL_law 2160 = .ok (.aload 5, 2) := by decide +kernel
theorem dL_law_2162 : decode cL_law 2162 = .ok (.aload 11, 2) := by decide +kernel
theorem dL_law_2164 : decode cL_law 2164 = .ok (.aload 12, 2) := by decide +kernel
theorem dL_law_2166 : decode cL_law 2166 = .ok (.iload 19, 2) := by decide +kernel
theorem dL_law_2168 : decode cL_law 2168 = .ok (.invokestatic 199, 3) := by decide +kernel
theorem dL_law_2171 : decode cL_law 2171 = .ok (.ifCond .eq 22, 3) := by decide +kernel
theorem dL_law_2174 : decode cL_law 2174 = .ok (.aload_n 1, 1) := by decide +kernel
theorem dL_law_2175 : decode cL_law 2175 = .ok (.aload 5, 2) := by decide +kernel
theorem dL_law_2177 : decode cL_law 2177 = .ok (.aload 7, 2) := by decide +kernel
theorem dL_law_2179 : decode cL_law 2179 = .ok (.aload 12, 2) := by decide +kernel
theorem dL_law_2181 : decode cL_law 2181 = .ok (.aload 13, 2) := by decide +kernel
theorem dL_law_2183 : decode cL_law 2183 = .ok (.invokestatic 203, 3) := by decide +kernel
theorem dL_law_2186 : decode cL_law 2186 = .ok (.ifCond .eq 7, 3) := by decide +kernel
theorem dL_law_2189 : decode cL_law 2189 = .ok (.iconst 1, 1) := by decide +kernel
theorem dL_law_2190 : decode cL_law 2190 = .ok (.goto 4, 3) := by decide +kernel
theorem dL_law_2193 : decode cL_law 2193 = .ok (.iconst 0, 1) := by decide +kernel
theorem dL_law_2194 : decode cL_law 2194 = .ok (.istore 15, 2) := by decide +kernel
theorem dL_law_2196 : decode cL_law 2196 = .ok (.iinc 16 1, 3) := by decide +kernel
theorem dL_law_2199 : decode cL_law 2199 = .ok (.goto (-2086), 3) := by decide +kernel
theorem dL_law_2202 : decode cL_law 2202 = .ok (.aload_n 2, 1) := by decide +kernel
theorem dL_law_2203 : decode cL_law 2203 = .ok (.aload_n 3, 1) := by decide +kernel
theorem dL_law_2204 : decode cL_law 2204 = .ok (.aload 4, 2) := by decide +kernel
theorem dL_law_2206 : decode cL_law 2206 = .ok (.aload 5, 2) := by decide +kernel
theorem dL_law_2208 : decode cL_law 2208 = .ok (.aload 6, 2) := by decide +kernel
theorem dL_law_2210 : decode cL_law 2210 = .ok (.aload 7, 2) := by decide +kernel
theorem dL_law_2212 : decode cL_law 2212 = .ok (.aload 8, 2) := by decide +kernel
theorem dL_law_2214 : decode cL_law 2214 = .ok (.aload 9, 2) := by decide +kernel
theorem dL_law_2216 : decode cL_law 2216 = .ok (.aload 12, 2) := by decide +kernel
theorem dL_law_2218 : decode cL_law 2218 = .ok (.aload 13, 2) := by decide +kernel
theorem dL_law_2220 : decode cL_law 2220 = .ok (.aload 14, 2) := by decide +kernel
theorem dL_law_2222 : decode cL_law 2222 = .ok (.invokestatic 183, 3) := by decide +kernel
theorem dL_law_2225 : decode cL_law 2225 = .ok (.iload 15, 2) := by decide +kernel
theorem dL_law_2227 : decode cL_law 2227 = .ok (.ifCond .eq 78, 3) := by decide +kernel
theorem dL_law_2230 : decode cL_law 2230 = .ok (.aload_n 1, 1) := by decide +kernel
theorem dL_law_2231 : decode cL_law 2231 = .ok (.aload 5, 2) := by decide +kernel
theorem dL_law_2233 : decode cL_law 2233 = .ok (.aload 7, 2) := by decide +kernel
theorem dL_law_2235 : decode cL_law 2235 = .ok (.aload 10, 2) := by decide +kernel
theorem dL_law_2237 : decode cL_law 2237 = .ok (.aload 12, 2) := by decide +kernel
theorem dL_law_2239 : decode cL_law 2239 = .ok (.aload 13, 2) := by decide +kernel
theorem dL_law_2241 : decode cL_law 2241 = .ok (.aload 14, 2) := by decide +kernel
theorem dL_law_2243 : decode cL_law 2243 = .ok (.bipush 77, 2) := by decide +kernel
theorem dL_law_2245 : decode cL_law 2245 = .ok (.invokestatic 195, 3) := by decide +kernel
theorem dL_law_2248 : decode cL_law 2248 = .ok (.ifCond .eq 57, 3) := by decide +kernel
theorem dL_law_2251 : decode cL_law 2251 = .ok (.aload_n 1, 1) := by decide +kernel
theorem dL_law_2252 : decode cL_law 2252 = .ok (.aload 5, 2) := by decide +kernel
theorem dL_law_2254 : decode cL_law 2254 = .ok (.aload 7, 2) := by decide +kernel
theorem dL_law_2256 : decode cL_law 2256 = .ok (.aload 12, 2) := by decide +kernel
theorem dL_law_2258 : decode cL_law 2258 = .ok (.aload 13, 2) := by decide +kernel
theorem dL_law_2260 : decode cL_law 2260 = .ok (.aload 14, 2) := by decide +kernel
theorem dL_law_2262 : decode cL_law 2262 = .ok (.sipush 1234, 3) := by decide +kernel
theorem dL_law_2265 : decode cL_law 2265 = .ok (.invokestatic 187, 3) := by decide +kernel
theorem dL_law_2268 : decode cL_law 2268 = .ok (.ifCond .eq 37, 3) := by decide +kernel
theorem dL_law_2271 : decode cL_law 2271 = .ok (.aload_n 1, 1) := by decide +kernel
theorem dL_law_2272 : decode cL_law 2272 = .ok (.aload 5, 2) := by decide +kernel
theorem dL_law_2274 : decode cL_law 2274 = .ok (.aload 11, 2) := by decide +kernel
theorem dL_law_2276 : decode cL_law 2276 = .ok (.aload 12, 2) := by decide +kernel
theorem dL_law_2278 : decode cL_law 2278 = .ok (.bipush 99, 2) := by decide +kernel
theorem dL_law_2280 : decode cL_law 2280 = .ok (.invokestatic 199, 3) := by decide +kernel
theorem dL_law_2283 : decode cL_law 2283 = .ok (.ifCond .eq 22, 3) := by decide +kernel
theorem dL_law_2286 : decode cL_law 2286 = .ok (.aload_n 1, 1) := by decide +kernel
theorem dL_law_2287 : decode cL_law 2287 = .ok (.aload 5, 2) := by decide +kernel
theorem dL_law_2289 : decode cL_law 2289 = .ok (.aload 7, 2) := by decide +kernel
theorem dL_law_2291 : decode cL_law 2291 = .ok (.aload 12, 2) := by decide +kernel
theorem dL_law_2293 : decode cL_law 2293 = .ok (.aload 13, 2) := by decide +kernel
theorem dL_law_2295 : decode cL_law 2295 = .ok (.invokestatic 203, 3) := by decide +kernel
theorem dL_law_2298 : decode cL_law 2298 = .ok (.ifCond .eq 7, 3) := by decide +kernel
theorem dL_law_2301 : decode cL_law 2301 = .ok (.iconst 1, 1) := by decide +kernel
theorem dL_law_2302 : decode cL_law 2302 = .ok (.goto 4, 3) := by decide +kernel
theorem dL_law_2305 : decode cL_law 2305 = .ok (.iconst 0, 1) := by decide +kernel
theorem dL_law_2306 : decode cL_law 2306 = .ok (.ireturn, 1) := by decide +kernel
