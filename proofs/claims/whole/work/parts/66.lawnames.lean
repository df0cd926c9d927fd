/-! The law's code, printed. -/
abbrev cc_law : ByteArray := code
theorem d_law_0 : decode cc_law 0 = .ok (.new 8, 3) := by decide +kernel
theorem d_law_3 : decode cc_law 3 = .ok (.dup, 1) := by decide +kernel
theorem d_law_4 : decode cc_law 4 = .ok (.invokespecial 53, 3) := by decide +kernel
theorem d_law_7 : decode cc_law 7 = .ok (.astore_n 1, 1) := by decide +kernel
theorem d_law_8 : decode cc_law 8 = .ok (.new 54, 3) := by decide +kernel
theorem d_law_11 : decode cc_law 11 = .ok (.dup, 1) := by decide +kernel
theorem d_law_12 : decode cc_law 12 = .ok (.invokespecial 56, 3) := by decide +kernel
theorem d_law_15 : decode cc_law 15 = .ok (.astore_n 2, 1) := by decide +kernel
theorem d_law_16 : decode cc_law 16 = .ok (.iconst 1, 1) := by decide +kernel
theorem d_law_17 : decode cc_law 17 = .ok (.newarray .long, 2) := by decide +kernel
theorem d_law_19 : decode cc_law 19 = .ok (.astore_n 3, 1) := by decide +kernel
theorem d_law_20 : decode cc_law 20 = .ok (.iconst 0, 1) := by decide +kernel
theorem d_law_21 : decode cc_law 21 = .ok (.istore 4, 2) := by decide +kernel
theorem d_law_23 : decode cc_law 23 = .ok (.iload 4, 2) := by decide +kernel
theorem d_law_25 : decode cc_law 25 = .ok (.aload_n 0, 1) := by decide +kernel
theorem d_law_26 : decode cc_law 26 = .ok (.arraylength, 1) := by decide +kernel
theorem d_law_27 : decode cc_law 27 = .ok (.iconst 4, 1) := by decide +kernel
theorem d_law_28 : decode cc_law 28 = .ok (.isub, 1) := by decide +kernel
theorem d_law_29 : decode cc_law 29 = .ok (.if_icmp .gt 884, 3) := by decide +kernel
theorem d_law_32 : decode cc_law 32 = .ok (.aload_n 0, 1) := by decide +kernel
theorem d_law_33 : decode cc_law 33 = .ok (.iload 4, 2) := by decide +kernel
theorem d_law_35 : decode cc_law 35 = .ok (.iaload, 1) := by decide +kernel
theorem d_law_36 : decode cc_law 36 = .ok (.bipush 15, 2) := by decide +kernel
theorem d_law_38 : decode cc_law 38 = .ok (.iand, 1) := by decide +kernel
theorem d_law_39 : decode cc_law 39 = .ok (.tableswitch 868 0 13 #[69, 149, 217, 230, 298, 366, 434, 490, 558, 638, 718, 774, 787, 855], 69) := by decide +kernel
theorem d_law_108 : decode cc_law 108 = .ok (.aload_n 1, 1) := by decide +kernel
theorem d_law_109 : decode cc_law 109 = .ok (.aload_n 0, 1) := by decide +kernel
theorem d_law_110 : decode cc_law 110 = .ok (.iload 4, 2) := by decide +kernel
theorem d_law_112 : decode cc_law 112 = .ok (.iconst 1, 1) := by decide +kernel
theorem d_law_113 : decode cc_law 113 = .ok (.iadd, 1) := by decide +kernel
theorem d_law_114 : decode cc_law 114 = .ok (.iaload, 1) := by decide +kernel
theorem d_law_115 : decode cc_law 115 = .ok (.aload_n 0, 1) := by decide +kernel
theorem d_law_116 : decode cc_law 116 = .ok (.iload 4, 2) := by decide +kernel
theorem d_law_118 : decode cc_law 118 = .ok (.iconst 2, 1) := by decide +kernel
theorem d_law_119 : decode cc_law 119 = .ok (.iadd, 1) := by decide +kernel
theorem d_law_120 : decode cc_law 120 = .ok (.iaload, 1) := by decide +kernel
theorem d_law_121 : decode cc_law 121 = .ok (.aload_n 0, 1) := by decide +kernel
theorem d_law_122 : decode cc_law 122 = .ok (.iload 4, 2) := by decide +kernel
theorem d_law_124 : decode cc_law 124 = .ok (.iconst 3, 1) := by decide +kernel
theorem d_law_125 : decode cc_law 125 = .ok (.iadd, 1) := by decide +kernel
theorem d_law_126 : decode cc_law 126 = .ok (.iaload, 1) := by decide +kernel
theorem d_law_127 : decode cc_law 127 = .ok (.aload_n 3, 1) := by decide +kernel
theorem d_law_128 : decode cc_law 128 = .ok (.invokestatic 57, 3) := by decide +kernel
theorem d_law_131 : decode cc_law 131 = .ok (.istore 5, 2) := by decide +kernel
theorem d_law_133 : decode cc_law 133 = .ok (.aload_n 2, 1) := by decide +kernel
theorem d_law_134 : decode cc_law 134 = .ok (.aload_n 0, 1) := by decide +kernel
theorem d_law_135 : decode cc_law 135 = .ok (.iload 4, 2) := by decide +kernel
theorem d_law_137 : decode cc_law 137 = .ok (.iconst 1, 1) := by decide +kernel
theorem d_law_138 : decode cc_law 138 = .ok (.iadd, 1) := by decide +kernel
theorem d_law_139 : decode cc_law 139 = .ok (.iaload, 1) := by decide +kernel
theorem d_law_140 : decode cc_law 140 = .ok (.aload_n 0, 1) := by decide +kernel
theorem d_law_141 : decode cc_law 141 = .ok (.iload 4, 2) := by decide +kernel
theorem d_law_143 : decode cc_law 143 = .ok (.iconst 2, 1) := by decide +kernel
theorem d_law_144 : decode cc_law 144 = .ok (.iadd, 1) := by decide +kernel
theorem d_law_145 : decode cc_law 145 = .ok (.iaload, 1) := by decide +kernel
theorem d_law_146 : decode cc_law 146 = .ok (.aload_n 0, 1) := by decide +kernel
theorem d_law_147 : decode cc_law 147 = .ok (.iload 4, 2) := by decide +kernel
theorem d_law_149 : decode cc_law 149 = .ok (.iconst 3, 1) := by decide +kernel
theorem d_law_150 : decode cc_law 150 = .ok (.iadd, 1) := by decide +kernel
theorem d_law_151 : decode cc_law 151 = .ok (.iaload, 1) := by decide +kernel
theorem d_law_152 : decode cc_law 152 = .ok (.invokevirtual 62, 3) := by decide +kernel
theorem d_law_155 : decode cc_law 155 = .ok (.istore 6, 2) := by decide +kernel
theorem d_law_157 : decode cc_law 157 = .ok (.aload_n 2, 1) := by decide +kernel
theorem d_law_158 : decode cc_law 158 = .ok (.invokevirtual 63, 3) := by decide +kernel
theorem d_law_161 : decode cc_law 161 = .ok (.iload 5, 2) := by decide +kernel
theorem d_law_163 : decode cc_law 163 = .ok (.if_icmp .eq 5, 3) := by decide +kernel
theorem d_law_166 : decode cc_law 166 = .ok (.iconst 0, 1) := by decide +kernel
theorem d_law_167 : decode cc_law 167 = .ok (.ireturn, 1) := by decide +kernel
theorem d_law_168 : decode cc_law 168 = .ok (.iload 5, 2) := by decide +kernel
theorem d_law_170 : decode cc_law 170 = .ok (.ifCond .ne 15, 3) := by decide +kernel
theorem d_law_173 : decode cc_law 173 = .ok (.aload_n 3, 1) := by decide +kernel
theorem d_law_174 : decode cc_law 174 = .ok (.iconst 0, 1) := by decide +kernel
theorem d_law_175 : decode cc_law 175 = .ok (.laload, 1) := by decide +kernel
theorem d_law_176 : decode cc_law 176 = .ok (.iload 6, 2) := by decide +kernel
theorem d_law_178 : decode cc_law 178 = .ok (.i2l, 1) := by decide +kernel
theorem d_law_179 : decode cc_law 179 = .ok (.lcmp, 1) := by decide +kernel
theorem d_law_180 : decode cc_law 180 = .ok (.ifCond .eq 5, 3) := by decide +kernel
theorem d_law_183 : decode cc_law 183 = .ok (.iconst 0, 1) := by decide +kernel
theorem d_law_184 : decode cc_law 184 = .ok (.ireturn, 1) := by decide +kernel
theorem d_law_185 : decode cc_law 185 = .ok (.goto 722, 3) := by decide +kernel
theorem d_law_188 : decode cc_law 188 = .ok (.aload_n 1, 1) := by decide +kernel
theorem d_law_189 : decode cc_law 189 = .ok (.aload_n 0, 1) := by decide +kernel
theorem d_law_190 : decode cc_law 190 = .ok (.iload 4, 2) := by decide +kernel
theorem d_law_192 : decode cc_law 192 = .ok (.iconst 1, 1) := by decide +kernel
theorem d_law_193 : decode cc_law 193 = .ok (.iadd, 1) := by decide +kernel
theorem d_law_194 : decode cc_law 194 = .ok (.iaload, 1) := by decide +kernel
theorem d_law_195 : decode cc_law 195 = .ok (.aload_n 0, 1) := by decide +kernel
theorem d_law_196 : decode cc_law 196 = .ok (.iload 4, 2) := by decide +kernel
theorem d_law_198 : decode cc_law 198 = .ok (.iconst 2, 1) := by decide +kernel
theorem d_law_199 : decode cc_law 199 = .ok (.iadd, 1) := by decide +kernel
theorem d_law_200 : decode cc_law 200 = .ok (.iaload, 1) := by decide +kernel
theorem d_law_201 : decode cc_law 201 = .ok (.aload_n 3, 1) := by decide +kernel
theorem d_law_202 : decode cc_law 202 = .ok (.invokestatic 67, 3) := by decide +kernel
theorem d_law_205 : decode cc_law 205 = .ok (.istore 5, 2) := by decide +kernel
theorem d_law_207 : decode cc_law 207 = .ok (.aload_n 2, 1) := by decide +kernel
theorem d_law_208 : decode cc_law 208 = .ok (.aload_n 0, 1) := by decide +kernel
theorem d_law_209 : decode cc_law 209 = .ok (.iload 4, 2) := by decide +kernel
theorem d_law_211 : decode cc_law 211 = .ok (.iconst 1, 1) := by decide +kernel
theorem d_law_212 : decode cc_law 212 = .ok (.iadd, 1) := by decide +kernel
theorem d_law_213 : decode cc_law 213 = .ok (.iaload, 1) := by decide +kernel
theorem d_law_214 : decode cc_law 214 = .ok (.aload_n 0, 1) := by decide +kernel
theorem d_law_215 : decode cc_law 215 = .ok (.iload 4, 2) := by decide +kernel
theorem d_law_217 : decode cc_law 217 = .ok (.iconst 2, 1) := by decide +kernel
theorem d_law_218 : decode cc_law 218 = .ok (.iadd, 1) := by decide +kernel
theorem d_law_219 : decode cc_law 219 = .ok (.iaload, 1) := by decide +kernel
theorem d_law_220 : decode cc_law 220 = .ok (.invokevirtual 70, 3) := by decide +kernel
theorem d_law_223 : decode cc_law 223 = .ok (.istore 6, 2) := by decide +kernel
theorem d_law_225 : decode cc_law 225 = .ok (.aload_n 2, 1) := by decide +kernel
theorem d_law_226 : decode cc_law 226 = .ok (.invokevirtual 63, 3) := by decide +kernel
theorem d_law_229 : decode cc_law 229 = .ok (.iload 5, 2) := by decide +kernel
theorem d_law_231 : decode cc_law 231 = .ok (.if_icmp .eq 5, 3) := by decide +kernel
theorem d_law_234 : decode cc_law 234 = .ok (.iconst 0, 1) := by decide +kernel
theorem d_law_235 : decode cc_law 235 = .ok (.ireturn, 1) := by decide +kernel
theorem d_law_236 : decode cc_law 236 = .ok (.iload 5, 2) := by decide +kernel
theorem d_law_238 : decode cc_law 238 = .ok (.ifCond .ne 15, 3) := by decide +kernel
theorem d_law_241 : decode cc_law 241 = .ok (.aload_n 3, 1) := by decide +kernel
theorem d_law_242 : decode cc_law 242 = .ok (.iconst 0, 1) := by decide +kernel
theorem d_law_243 : decode cc_law 243 = .ok (.laload, 1) := by decide +kernel
theorem d_law_244 : decode cc_law 244 = .ok (.iload 6, 2) := by decide +kernel
theorem d_law_246 : decode cc_law 246 = .ok (.i2l, 1) := by decide +kernel
theorem d_law_247 : decode cc_law 247 = .ok (.lcmp, 1) := by decide +kernel
theorem d_law_248 : decode cc_law 248 = .ok (.ifCond .eq 5, 3) := by decide +kernel
theorem d_law_251 : decode cc_law 251 = .ok (.iconst 0, 1) := by decide +kernel
theorem d_law_252 : decode cc_law 252 = .ok (.ireturn, 1) := by decide +kernel
theorem d_law_253 : decode cc_law 253 = .ok (.goto 654, 3) := by decide +kernel
theorem d_law_256 : decode cc_law 256 = .ok (.aload_n 1, 1) := by decide +kernel
theorem d_law_257 : decode cc_law 257 = .ok (.invokevirtual 71, 3) := by decide +kernel
theorem d_law_260 : decode cc_law 260 = .ok (.aload_n 2, 1) := by decide +kernel
theorem d_law_261 : decode cc_law 261 = .ok (.invokevirtual 74, 3) := by decide +kernel
theorem d_law_264 : decode cc_law 264 = .ok (.if_icmp .eq 643, 3) := by decide +kernel
theorem d_law_267 : decode cc_law 267 = .ok (.iconst 0, 1) := by decide +kernel
theorem d_law_268 : decode cc_law 268 = .ok (.ireturn, 1) := by decide +kernel
theorem d_law_269 : decode cc_law 269 = .ok (.aload_n 1, 1) := by decide +kernel
theorem d_law_270 : decode cc_law 270 = .ok (.aload_n 0, 1) := by decide +kernel
theorem d_law_271 : decode cc_law 271 = .ok (.iload 4, 2) := by decide +kernel
theorem d_law_273 : decode cc_law 273 = .ok (.iconst 1, 1) := by decide +kernel
theorem d_law_274 : decode cc_law 274 = .ok (.iadd, 1) := by decide +kernel
theorem d_law_275 : decode cc_law 275 = .ok (.iaload, 1) := by decide +kernel
theorem d_law_276 : decode cc_law 276 = .ok (.aload_n 0, 1) := by decide +kernel
theorem d_law_277 : decode cc_law 277 = .ok (.iload 4, 2) := by decide +kernel
theorem d_law_279 : decode cc_law 279 = .ok (.iconst 2, 1) := by decide +kernel
theorem d_law_280 : decode cc_law 280 = .ok (.iadd, 1) := by decide +kernel
theorem d_law_281 : decode cc_law 281 = .ok (.iaload, 1) := by decide +kernel
theorem d_law_282 : decode cc_law 282 = .ok (.aload_n 3, 1) := by decide +kernel
theorem d_law_283 : decode cc_law 283 = .ok (.invokestatic 75, 3) := by decide +kernel
theorem d_law_286 : decode cc_law 286 = .ok (.istore 5, 2) := by decide +kernel
theorem d_law_288 : decode cc_law 288 = .ok (.aload_n 2, 1) := by decide +kernel
theorem d_law_289 : decode cc_law 289 = .ok (.aload_n 0, 1) := by decide +kernel
theorem d_law_290 : decode cc_law 290 = .ok (.iload 4, 2) := by decide +kernel
theorem d_law_292 : decode cc_law 292 = .ok (.iconst 1, 1) := by decide +kernel
theorem d_law_293 : decode cc_law 293 = .ok (.iadd, 1) := by decide +kernel
theorem d_law_294 : decode cc_law 294 = .ok (.iaload, 1) := by decide +kernel
theorem d_law_295 : decode cc_law 295 = .ok (.aload_n 0, 1) := by decide +kernel
theorem d_law_296 : decode cc_law 296 = .ok (.iload 4, 2) := by decide +kernel
theorem d_law_298 : decode cc_law 298 = .ok (.iconst 2, 1) := by decide +kernel
theorem d_law_299 : decode cc_law 299 = .ok (.iadd, 1) := by decide +kernel
theorem d_law_300 : decode cc_law 300 = .ok (.iaload, 1) := by decide +kernel
theorem d_law_301 : decode cc_law 301 = .ok (.invokevirtual 77, 3) := by decide +kernel
theorem d_law_304 : decode cc_law 304 = .ok (.istore 6, 2) := by decide +kernel
theorem d_law_306 : decode cc_law 306 = .ok (.aload_n 2, 1) := by decide +kernel
theorem d_law_307 : decode cc_law 307 = .ok (.invokevirtual 63, 3) := by decide +kernel
theorem d_law_310 : decode cc_law 310 = .ok (.iload 5, 2) := by decide +kernel
theorem d_law_312 : decode cc_law 312 = .ok (.if_icmp .eq 5, 3) := by decide +kernel
theorem d_law_315 : decode cc_law 315 = .ok (.iconst 0, 1) := by decide +kernel
theorem d_law_316 : decode cc_law 316 = .ok (.ireturn, 1) := by decide +kernel
theorem d_law_317 : decode cc_law 317 = .ok (.iload 5, 2) := by decide +kernel
theorem d_law_319 : decode cc_law 319 = .ok (.ifCond .ne 15, 3) := by decide +kernel
theorem d_law_322 : decode cc_law 322 = .ok (.aload_n 3, 1) := by decide +kernel
theorem d_law_323 : decode cc_law 323 = .ok (.iconst 0, 1) := by decide +kernel
theorem d_law_324 : decode cc_law 324 = .ok (.laload, 1) := by decide +kernel
theorem d_law_325 : decode cc_law 325 = .ok (.iload 6, 2) := by decide +kernel
theorem d_law_327 : decode cc_law 327 = .ok (.i2l, 1) := by decide +kernel
theorem d_law_328 : decode cc_law 328 = .ok (.lcmp, 1) := by decide +kernel
theorem d_law_329 : decode cc_law 329 = .ok (.ifCond .eq 5, 3) := by decide +kernel
theorem d_law_332 : decode cc_law 332 = .ok (.iconst 0, 1) := by decide +kernel
theorem d_law_333 : decode cc_law 333 = .ok (.ireturn, 1) := by decide +kernel
theorem d_law_334 : decode cc_law 334 = .ok (.goto 573, 3) := by decide +kernel
theorem d_law_337 : decode cc_law 337 = .ok (.aload_n 1, 1) := by decide +kernel
theorem d_law_338 : decode cc_law 338 = .ok (.aload_n 0, 1) := by decide +kernel
theorem d_law_339 : decode cc_law 339 = .ok (.iload 4, 2) := by decide +kernel
theorem d_law_341 : decode cc_law 341 = .ok (.iconst 1, 1) := by decide +kernel
theorem d_law_342 : decode cc_law 342 = .ok (.iadd, 1) := by decide +kernel
theorem d_law_343 : decode cc_law 343 = .ok (.iaload, 1) := by decide +kernel
theorem d_law_344 : decode cc_law 344 = .ok (.aload_n 0, 1) := by decide +kernel
theorem d_law_345 : decode cc_law 345 = .ok (.iload 4, 2) := by decide +kernel
theorem d_law_347 : decode cc_law 347 = .ok (.iconst 2, 1) := by decide +kernel
theorem d_law_348 : decode cc_law 348 = .ok (.iadd, 1) := by decide +kernel
theorem d_law_349 : decode cc_law 349 = .ok (.iaload, 1) := by decide +kernel
theorem d_law_350 : decode cc_law 350 = .ok (.aload_n 3, 1) := by decide +kernel
theorem d_law_351 : decode cc_law 351 = .ok (.invokestatic 78, 3) := by decide +kernel
theorem d_law_354 : decode cc_law 354 = .ok (.istore 5, 2) := by decide +kernel
theorem d_law_356 : decode cc_law 356 = .ok (.aload_n 2, 1) := by decide +kernel
theorem d_law_357 : decode cc_law 357 = .ok (.aload_n 0, 1) := by decide +kernel
theorem d_law_358 : decode cc_law 358 = .ok (.iload 4, 2) := by decide +kernel
theorem d_law_360 : decode cc_law 360 = .ok (.iconst 1, 1) := by decide +kernel
theorem d_law_361 : decode cc_law 361 = .ok (.iadd, 1) := by decide +kernel
theorem d_law_362 : decode cc_law 362 = .ok (.iaload, 1) := by decide +kernel
theorem d_law_363 : decode cc_law 363 = .ok (.aload_n 0, 1) := by decide +kernel
theorem d_law_364 : decode cc_law 364 = .ok (.iload 4, 2) := by decide +kernel
theorem d_law_366 : decode cc_law 366 = .ok (.iconst 2, 1) := by decide +kernel
theorem d_law_367 : decode cc_law 367 = .ok (.iadd, 1) := by decide +kernel
theorem d_law_368 : decode cc_law 368 = .ok (.iaload, 1) := by decide +kernel
theorem d_law_369 : decode cc_law 369 = .ok (.invokevirtual 80, 3) := by decide +kernel
theorem d_law_372 : decode cc_law 372 = .ok (.istore 6, 2) := by decide +kernel
theorem d_law_374 : decode cc_law 374 = .ok (.aload_n 2, 1) := by decide +kernel
theorem d_law_375 : decode cc_law 375 = .ok (.invokevirtual 63, 3) := by decide +kernel
theorem d_law_378 : decode cc_law 378 = .ok (.iload 5, 2) := by decide +kernel
theorem d_law_380 : decode cc_law 380 = .ok (.if_icmp .eq 5, 3) := by decide +kernel
theorem d_law_383 : decode cc_law 383 = .ok (.iconst 0, 1) := by decide +kernel
theorem d_law_384 : decode cc_law 384 = .ok (.ireturn, 1) := by decide +kernel
theorem d_law_385 : decode cc_law 385 = .ok (.iload 5, 2) := by decide +kernel
theorem d_law_387 : decode cc_law 387 = .ok (.ifCond .ne 15, 3) := by decide +kernel
theorem d_law_390 : decode cc_law 390 = .ok (.aload_n 3, 1) := by decide +kernel
theorem d_law_391 : decode cc_law 391 = .ok (.iconst 0, 1) := by decide +kernel
theorem d_law_392 : decode cc_law 392 = .ok (.laload, 1) := by decide +kernel
theorem d_law_393 : decode cc_law 393 = .ok (.iload 6, 2) := by decide +kernel
theorem d_law_395 : decode cc_law 395 = .ok (.i2l, 1) := by decide +kernel
theorem d_law_396 : decode cc_law 396 = .ok (.lcmp, 1) := by decide +kernel
theorem d_law_397 : decode cc_law 397 = .ok (.ifCond .eq 5, 3) := by decide +kernel
theorem d_law_400 : decode cc_law 400 = .ok (.iconst 0, 1) := by decide +kernel
theorem d_law_401 : decode cc_law 401 = .ok (.ireturn, 1) := by decide +kernel
theorem d_law_402 : decode cc_law 402 = .ok (.goto 505, 3) := by decide +kernel
theorem d_law_405 : decode cc_law 405 = .ok (.aload_n 1, 1) := by decide +kernel
theorem d_law_406 : decode cc_law 406 = .ok (.aload_n 0, 1) := by decide +kernel
theorem d_law_407 : decode cc_law 407 = .ok (.iload 4, 2) := by decide +kernel
theorem d_law_409 : decode cc_law 409 = .ok (.iconst 1, 1) := by decide +kernel
theorem d_law_410 : decode cc_law 410 = .ok (.iadd, 1) := by decide +kernel
theorem d_law_411 : decode cc_law 411 = .ok (.iaload, 1) := by decide +kernel
theorem d_law_412 : decode cc_law 412 = .ok (.aload_n 0, 1) := by decide +kernel
theorem d_law_413 : decode cc_law 413 = .ok (.iload 4, 2) := by decide +kernel
theorem d_law_415 : decode cc_law 415 = .ok (.iconst 2, 1) := by decide +kernel
theorem d_law_416 : decode cc_law 416 = .ok (.iadd, 1) := by decide +kernel
theorem d_law_417 : decode cc_law 417 = .ok (.iaload, 1) := by decide +kernel
theorem d_law_418 : decode cc_law 418 = .ok (.aload_n 3, 1) := by decide +kernel
theorem d_law_419 : decode cc_law 419 = .ok (.invokestatic 81, 3) := by decide +kernel
theorem d_law_422 : decode cc_law 422 = .ok (.istore 5, 2) := by decide +kernel
theorem d_law_424 : decode cc_law 424 = .ok (.aload_n 2, 1) := by decide +kernel
theorem d_law_425 : decode cc_law 425 = .ok (.aload_n 0, 1) := by decide +kernel
theorem d_law_426 : decode cc_law 426 = .ok (.iload 4, 2) := by decide +kernel
theorem d_law_428 : decode cc_law 428 = .ok (.iconst 1, 1) := by decide +kernel
theorem d_law_429 : decode cc_law 429 = .ok (.iadd, 1) := by decide +kernel
theorem d_law_430 : decode cc_law 430 = .ok (.iaload, 1) := by decide +kernel
theorem d_law_431 : decode cc_law 431 = .ok (.aload_n 0, 1) := by decide +kernel
theorem d_law_432 : decode cc_law 432 = .ok (.iload 4, 2) := by decide +kernel
theorem d_law_434 : decode cc_law 434 = .ok (.iconst 2, 1) := by decide +kernel
theorem d_law_435 : decode cc_law 435 = .ok (.iadd, 1) := by decide +kernel
theorem d_law_436 : decode cc_law 436 = .ok (.iaload, 1) := by decide +kernel
theorem d_law_437 : decode cc_law 437 = .ok (.invokevirtual 83, 3) := by decide +kernel
theorem d_law_440 : decode cc_law 440 = .ok (.istore 6, 2) := by decide +kernel
theorem d_law_442 : decode cc_law 442 = .ok (.aload_n 2, 1) := by decide +kernel
theorem d_law_443 : decode cc_law 443 = .ok (.invokevirtual 63, 3) := by decide +kernel
theorem d_law_446 : decode cc_law 446 = .ok (.iload 5, 2) := by decide +kernel
theorem d_law_448 : decode cc_law 448 = .ok (.if_icmp .eq 5, 3) := by decide +kernel
theorem d_law_451 : decode cc_law 451 = .ok (.iconst 0, 1) := by decide +kernel
theorem d_law_452 : decode cc_law 452 = .ok (.ireturn, 1) := by decide +kernel
theorem d_law_453 : decode cc_law 453 = .ok (.iload 5, 2) := by decide +kernel
theorem d_law_455 : decode cc_law 455 = .ok (.ifCond .ne 15, 3) := by decide +kernel
theorem d_law_458 : decode cc_law 458 = .ok (.aload_n 3, 1) := by decide +kernel
theorem d_law_459 : decode cc_law 459 = .ok (.iconst 0, 1) := by decide +kernel
theorem d_law_460 : decode cc_law 460 = .ok (.laload, 1) := by decide +kernel
theorem d_law_461 : decode cc_law 461 = .ok (.iload 6, 2) := by decide +kernel
theorem d_law_463 : decode cc_law 463 = .ok (.i2l, 1) := by decide +kernel
theorem d_law_464 : decode cc_law 464 = .ok (.lcmp, 1) := by decide +kernel
theorem d_law_465 : decode cc_law 465 = .ok (.ifCond .eq 5, 3) := by decide +kernel
theorem d_law_468 : decode cc_law 468 = .ok (.iconst 0, 1) := by decide +kernel
theorem d_law_469 : decode cc_law 469 = .ok (.ireturn, 1) := by decide +kernel
theorem d_law_470 : decode cc_law 470 = .ok (.goto 437, 3) := by decide +kernel
theorem d_law_473 : decode cc_law 473 = .ok (.aload_n 1, 1) := by decide +kernel
theorem d_law_474 : decode cc_law 474 = .ok (.aload_n 0, 1) := by decide +kernel
theorem d_law_475 : decode cc_law 475 = .ok (.iload 4, 2) := by decide +kernel
theorem d_law_477 : decode cc_law 477 = .ok (.iconst 1, 1) := by decide +kernel
theorem d_law_478 : decode cc_law 478 = .ok (.iadd, 1) := by decide +kernel
theorem d_law_479 : decode cc_law 479 = .ok (.iaload, 1) := by decide +kernel
theorem d_law_480 : decode cc_law 480 = .ok (.aload_n 3, 1) := by decide +kernel
theorem d_law_481 : decode cc_law 481 = .ok (.invokestatic 84, 3) := by decide +kernel
theorem d_law_484 : decode cc_law 484 = .ok (.istore 5, 2) := by decide +kernel
theorem d_law_486 : decode cc_law 486 = .ok (.aload_n 2, 1) := by decide +kernel
theorem d_law_487 : decode cc_law 487 = .ok (.aload_n 0, 1) := by decide +kernel
theorem d_law_488 : decode cc_law 488 = .ok (.iload 4, 2) := by decide +kernel
theorem d_law_490 : decode cc_law 490 = .ok (.iconst 1, 1) := by decide +kernel
theorem d_law_491 : decode cc_law 491 = .ok (.iadd, 1) := by decide +kernel
theorem d_law_492 : decode cc_law 492 = .ok (.iaload, 1) := by decide +kernel
theorem d_law_493 : decode cc_law 493 = .ok (.invokevirtual 87, 3) := by decide +kernel
theorem d_law_496 : decode cc_law 496 = .ok (.istore 6, 2) := by decide +kernel
theorem d_law_498 : decode cc_law 498 = .ok (.aload_n 2, 1) := by decide +kernel
theorem d_law_499 : decode cc_law 499 = .ok (.invokevirtual 63, 3) := by decide +kernel
theorem d_law_502 : decode cc_law 502 = .ok (.iload 5, 2) := by decide +kernel
theorem d_law_504 : decode cc_law 504 = .ok (.if_icmp .eq 5, 3) := by decide +kernel
theorem d_law_507 : decode cc_law 507 = .ok (.iconst 0, 1) := by decide +kernel
theorem d_law_508 : decode cc_law 508 = .ok (.ireturn, 1) := by decide +kernel
theorem d_law_509 : decode cc_law 509 = .ok (.iload 5, 2) := by decide +kernel
theorem d_law_511 : decode cc_law 511 = .ok (.ifCond .ne 15, 3) := by decide +kernel
theorem d_law_514 : decode cc_law 514 = .ok (.aload_n 3, 1) := by decide +kernel
theorem d_law_515 : decode cc_law 515 = .ok (.iconst 0, 1) := by decide +kernel
theorem d_law_516 : decode cc_law 516 = .ok (.laload, 1) := by decide +kernel
theorem d_law_517 : decode cc_law 517 = .ok (.iload 6, 2) := by decide +kernel
theorem d_law_519 : decode cc_law 519 = .ok (.i2l, 1) := by decide +kernel
theorem d_law_520 : decode cc_law 520 = .ok (.lcmp, 1) := by decide +kernel
theorem d_law_521 : decode cc_law 521 = .ok (.ifCond .eq 5, 3) := by decide +kernel
theorem d_law_524 : decode cc_law 524 = .ok (.iconst 0, 1) := by decide +kernel
theorem d_law_525 : decode cc_law 525 = .ok (.ireturn, 1) := by decide +kernel
theorem d_law_526 : decode cc_law 526 = .ok (.goto 381, 3) := by decide +kernel
theorem d_law_529 : decode cc_law 529 = .ok (.aload_n 1, 1) := by decide +kernel
theorem d_law_530 : decode cc_law 530 = .ok (.aload_n 0, 1) := by decide +kernel
theorem d_law_531 : decode cc_law 531 = .ok (.iload 4, 2) := by decide +kernel
theorem d_law_533 : decode cc_law 533 = .ok (.iconst 1, 1) := by decide +kernel
theorem d_law_534 : decode cc_law 534 = .ok (.iadd, 1) := by decide +kernel
theorem d_law_535 : decode cc_law 535 = .ok (.iaload, 1) := by decide +kernel
theorem d_law_536 : decode cc_law 536 = .ok (.aload_n 0, 1) := by decide +kernel
theorem d_law_537 : decode cc_law 537 = .ok (.iload 4, 2) := by decide +kernel
theorem d_law_539 : decode cc_law 539 = .ok (.iconst 2, 1) := by decide +kernel
theorem d_law_540 : decode cc_law 540 = .ok (.iadd, 1) := by decide +kernel
theorem d_law_541 : decode cc_law 541 = .ok (.iaload, 1) := by decide +kernel
theorem d_law_542 : decode cc_law 542 = .ok (.aload_n 3, 1) := by decide +kernel
theorem d_law_543 : decode cc_law 543 = .ok (.invokestatic 88, 3) := by decide +kernel
theorem d_law_546 : decode cc_law 546 = .ok (.istore 5, 2) := by decide +kernel
theorem d_law_548 : decode cc_law 548 = .ok (.aload_n 2, 1) := by decide +kernel
theorem d_law_549 : decode cc_law 549 = .ok (.aload_n 0, 1) := by decide +kernel
theorem d_law_550 : decode cc_law 550 = .ok (.iload 4, 2) := by decide +kernel
theorem d_law_552 : decode cc_law 552 = .ok (.iconst 1, 1) := by decide +kernel
theorem d_law_553 : decode cc_law 553 = .ok (.iadd, 1) := by decide +kernel
theorem d_law_554 : decode cc_law 554 = .ok (.iaload, 1) := by decide +kernel
theorem d_law_555 : decode cc_law 555 = .ok (.aload_n 0, 1) := by decide +kernel
theorem d_law_556 : decode cc_law 556 = .ok (.iload 4, 2) := by decide +kernel
theorem d_law_558 : decode cc_law 558 = .ok (.iconst 2, 1) := by decide +kernel
theorem d_law_559 : decode cc_law 559 = .ok (.iadd, 1) := by decide +kernel
theorem d_law_560 : decode cc_law 560 = .ok (.iaload, 1) := by decide +kernel
theorem d_law_561 : decode cc_law 561 = .ok (.invokevirtual 90, 3) := by decide +kernel
theorem d_law_564 : decode cc_law 564 = .ok (.istore 6, 2) := by decide +kernel
theorem d_law_566 : decode cc_law 566 = .ok (.aload_n 2, 1) := by decide +kernel
theorem d_law_567 : decode cc_law 567 = .ok (.invokevirtual 63, 3) := by decide +kernel
theorem d_law_570 : decode cc_law 570 = .ok (.iload 5, 2) := by decide +kernel
theorem d_law_572 : decode cc_law 572 = .ok (.if_icmp .eq 5, 3) := by decide +kernel
theorem d_law_575 : decode cc_law 575 = .ok (.iconst 0, 1) := by decide +kernel
theorem d_law_576 : decode cc_law 576 = .ok (.ireturn, 1) := by decide +kernel
theorem d_law_577 : decode cc_law 577 = .ok (.iload 5, 2) := by decide +kernel
theorem d_law_579 : decode cc_law 579 = .ok (.ifCond .ne 15, 3) := by decide +kernel
theorem d_law_582 : decode cc_law 582 = .ok (.aload_n 3, 1) := by decide +kernel
theorem d_law_583 : decode cc_law 583 = .ok (.iconst 0, 1) := by decide +kernel
theorem d_law_584 : decode cc_law 584 = .ok (.laload, 1) := by decide +kernel
theorem d_law_585 : decode cc_law 585 = .ok (.iload 6, 2) := by decide +kernel
theorem d_law_587 : decode cc_law 587 = .ok (.i2l, 1) := by decide +kernel
theorem d_law_588 : decode cc_law 588 = .ok (.lcmp, 1) := by decide +kernel
theorem d_law_589 : decode cc_law 589 = .ok (.ifCond .eq 5, 3) := by decide +kernel
theorem d_law_592 : decode cc_law 592 = .ok (.iconst 0, 1) := by decide +kernel
theorem d_law_593 : decode cc_law 593 = .ok (.ireturn, 1) := by decide +kernel
theorem d_law_594 : decode cc_law 594 = .ok (.goto 313, 3) := by decide +kernel
theorem d_law_597 : decode cc_law 597 = .ok (.aload_n 1, 1) := by decide +kernel
theorem d_law_598 : decode cc_law 598 = .ok (.aload_n 0, 1) := by decide +kernel
theorem d_law_599 : decode cc_law 599 = .ok (.iload 4, 2) := by decide +kernel
theorem d_law_601 : decode cc_law 601 = .ok (.iconst 1, 1) := by decide +kernel
theorem d_law_602 : decode cc_law 602 = .ok (.iadd, 1) := by decide +kernel
theorem d_law_603 : decode cc_law 603 = .ok (.iaload, 1) := by decide +kernel
theorem d_law_604 : decode cc_law 604 = .ok (.aload_n 0, 1) := by decide +kernel
theorem d_law_605 : decode cc_law 605 = .ok (.iload 4, 2) := by decide +kernel
theorem d_law_607 : decode cc_law 607 = .ok (.iconst 2, 1) := by decide +kernel
theorem d_law_608 : decode cc_law 608 = .ok (.iadd, 1) := by decide +kernel
theorem d_law_609 : decode cc_law 609 = .ok (.iaload, 1) := by decide +kernel
theorem d_law_610 : decode cc_law 610 = .ok (.aload_n 0, 1) := by decide +kernel
theorem d_law_611 : decode cc_law 611 = .ok (.iload 4, 2) := by decide +kernel
theorem d_law_613 : decode cc_law 613 = .ok (.iconst 3, 1) := by decide +kernel
theorem d_law_614 : decode cc_law 614 = .ok (.iadd, 1) := by decide +kernel
theorem d_law_615 : decode cc_law 615 = .ok (.iaload, 1) := by decide +kernel
theorem d_law_616 : decode cc_law 616 = .ok (.aload_n 3, 1) := by decide +kernel
theorem d_law_617 : decode cc_law 617 = .ok (.invokestatic 91, 3) := by decide +kernel
theorem d_law_620 : decode cc_law 620 = .ok (.istore 5, 2) := by decide +kernel
theorem d_law_622 : decode cc_law 622 = .ok (.aload_n 2, 1) := by decide +kernel
theorem d_law_623 : decode cc_law 623 = .ok (.aload_n 0, 1) := by decide +kernel
theorem d_law_624 : decode cc_law 624 = .ok (.iload 4, 2) := by decide +kernel
theorem d_law_626 : decode cc_law 626 = .ok (.iconst 1, 1) := by decide +kernel
theorem d_law_627 : decode cc_law 627 = .ok (.iadd, 1) := by decide +kernel
theorem d_law_628 : decode cc_law 628 = .ok (.iaload, 1) := by decide +kernel
theorem d_law_629 : decode cc_law 629 = .ok (.aload_n 0, 1) := by decide +kernel
theorem d_law_630 : decode cc_law 630 = .ok (.iload 4, 2) := by decide +kernel
theorem d_law_632 : decode cc_law 632 = .ok (.iconst 2, 1) := by decide +kernel
theorem d_law_633 : decode cc_law 633 = .ok (.iadd, 1) := by decide +kernel
theorem d_law_634 : decode cc_law 634 = .ok (.iaload, 1) := by decide +kernel
theorem d_law_635 : decode cc_law 635 = .ok (.aload_n 0, 1) := by decide +kernel
theorem d_law_636 : decode cc_law 636 = .ok (.iload 4, 2) := by decide +kernel
theorem d_law_638 : decode cc_law 638 = .ok (.iconst 3, 1) := by decide +kernel
theorem d_law_639 : decode cc_law 639 = .ok (.iadd, 1) := by decide +kernel
theorem d_law_640 : decode cc_law 640 = .ok (.iaload, 1) := by decide +kernel
theorem d_law_641 : decode cc_law 641 = .ok (.invokevirtual 93, 3) := by decide +kernel
theorem d_law_644 : decode cc_law 644 = .ok (.istore 6, 2) := by decide +kernel
theorem d_law_646 : decode cc_law 646 = .ok (.aload_n 2, 1) := by decide +kernel
theorem d_law_647 : decode cc_law 647 = .ok (.invokevirtual 63, 3) := by decide +kernel
theorem d_law_650 : decode cc_law 650 = .ok (.iload 5, 2) := by decide +kernel
theorem d_law_652 : decode cc_law 652 = .ok (.if_icmp .eq 5, 3) := by decide +kernel
theorem d_law_655 : decode cc_law 655 = .ok (.iconst 0, 1) := by decide +kernel
theorem d_law_656 : decode cc_law 656 = .ok (.ireturn, 1) := by decide +kernel
theorem d_law_657 : decode cc_law 657 = .ok (.iload 5, 2) := by decide +kernel
theorem d_law_659 : decode cc_law 659 = .ok (.ifCond .ne 15, 3) := by decide +kernel
theorem d_law_662 : decode cc_law 662 = .ok (.aload_n 3, 1) := by decide +kernel
theorem d_law_663 : decode cc_law 663 = .ok (.iconst 0, 1) := by decide +kernel
theorem d_law_664 : decode cc_law 664 = .ok (.laload, 1) := by decide +kernel
theorem d_law_665 : decode cc_law 665 = .ok (.iload 6, 2) := by decide +kernel
theorem d_law_667 : decode cc_law 667 = .ok (.i2l, 1) := by decide +kernel
theorem d_law_668 : decode cc_law 668 = .ok (.lcmp, 1) := by decide +kernel
theorem d_law_669 : decode cc_law 669 = .ok (.ifCond .eq 5, 3) := by decide +kernel
theorem d_law_672 : decode cc_law 672 = .ok (.iconst 0, 1) := by decide +kernel
theorem d_law_673 : decode cc_law 673 = .ok (.ireturn, 1) := by decide +kernel
theorem d_law_674 : decode cc_law 674 = .ok (.goto 233, 3) := by decide +kernel
theorem d_law_677 : decode cc_law 677 = .ok (.aload_n 1, 1) := by decide +kernel
theorem d_law_678 : decode cc_law 678 = .ok (.aload_n 0, 1) := by decide +kernel
theorem d_law_679 : decode cc_law 679 = .ok (.iload 4, 2) := by decide +kernel
theorem d_law_681 : decode cc_law 681 = .ok (.iconst 1, 1) := by decide +kernel
theorem d_law_682 : decode cc_law 682 = .ok (.iadd, 1) := by decide +kernel
theorem d_law_683 : decode cc_law 683 = .ok (.iaload, 1) := by decide +kernel
theorem d_law_684 : decode cc_law 684 = .ok (.aload_n 0, 1) := by decide +kernel
theorem d_law_685 : decode cc_law 685 = .ok (.iload 4, 2) := by decide +kernel
theorem d_law_687 : decode cc_law 687 = .ok (.iconst 2, 1) := by decide +kernel
theorem d_law_688 : decode cc_law 688 = .ok (.iadd, 1) := by decide +kernel
theorem d_law_689 : decode cc_law 689 = .ok (.iaload, 1) := by decide +kernel
theorem d_law_690 : decode cc_law 690 = .ok (.aload_n 0, 1) := by decide +kernel
theorem d_law_691 : decode cc_law 691 = .ok (.iload 4, 2) := by decide +kernel
theorem d_law_693 : decode cc_law 693 = .ok (.iconst 3, 1) := by decide +kernel
theorem d_law_694 : decode cc_law 694 = .ok (.iadd, 1) := by decide +kernel
theorem d_law_695 : decode cc_law 695 = .ok (.iaload, 1) := by decide +kernel
theorem d_law_696 : decode cc_law 696 = .ok (.aload_n 3, 1) := by decide +kernel
theorem d_law_697 : decode cc_law 697 = .ok (.invokestatic 94, 3) := by decide +kernel
theorem d_law_700 : decode cc_law 700 = .ok (.istore 5, 2) := by decide +kernel
theorem d_law_702 : decode cc_law 702 = .ok (.aload_n 2, 1) := by decide +kernel
theorem d_law_703 : decode cc_law 703 = .ok (.aload_n 0, 1) := by decide +kernel
theorem d_law_704 : decode cc_law 704 = .ok (.iload 4, 2) := by decide +kernel
theorem d_law_706 : decode cc_law 706 = .ok (.iconst 1, 1) := by decide +kernel
theorem d_law_707 : decode cc_law 707 = .ok (.iadd, 1) := by decide +kernel
theorem d_law_708 : decode cc_law 708 = .ok (.iaload, 1) := by decide +kernel
theorem d_law_709 : decode cc_law 709 = .ok (.aload_n 0, 1) := by decide +kernel
theorem d_law_710 : decode cc_law 710 = .ok (.iload 4, 2) := by decide +kernel
theorem d_law_712 : decode cc_law 712 = .ok (.iconst 2, 1) := by decide +kernel
theorem d_law_713 : decode cc_law 713 = .ok (.iadd, 1) := by decide +kernel
theorem d_law_714 : decode cc_law 714 = .ok (.iaload, 1) := by decide +kernel
theorem d_law_715 : decode cc_law 715 = .ok (.aload_n 0, 1) := by decide +kernel
theorem d_law_716 : decode cc_law 716 = .ok (.iload 4, 2) := by decide +kernel
theorem d_law_718 : decode cc_law 718 = .ok (.iconst 3, 1) := by decide +kernel
theorem d_law_719 : decode cc_law 719 = .ok (.iadd, 1) := by decide +kernel
theorem d_law_720 : decode cc_law 720 = .ok (.iaload, 1) := by decide +kernel
theorem d_law_721 : decode cc_law 721 = .ok (.invokevirtual 96, 3) := by decide +kernel
theorem d_law_724 : decode cc_law 724 = .ok (.istore 6, 2) := by decide +kernel
theorem d_law_726 : decode cc_law 726 = .ok (.aload_n 2, 1) := by decide +kernel
theorem d_law_727 : decode cc_law 727 = .ok (.invokevirtual 63, 3) := by decide +kernel
theorem d_law_730 : decode cc_law 730 = .ok (.iload 5, 2) := by decide +kernel
theorem d_law_732 : decode cc_law 732 = .ok (.if_icmp .eq 5, 3) := by decide +kernel
theorem d_law_735 : decode cc_law 735 = .ok (.iconst 0, 1) := by decide +kernel
theorem d_law_736 : decode cc_law 736 = .ok (.ireturn, 1) := by decide +kernel
theorem d_law_737 : decode cc_law 737 = .ok (.iload 5, 2) := by decide +kernel
theorem d_law_739 : decode cc_law 739 = .ok (.ifCond .ne 15, 3) := by decide +kernel
theorem d_law_742 : decode cc_law 742 = .ok (.aload_n 3, 1) := by decide +kernel
theorem d_law_743 : decode cc_law 743 = .ok (.iconst 0, 1) := by decide +kernel
theorem d_law_744 : decode cc_law 744 = .ok (.laload, 1) := by decide +kernel
theorem d_law_745 : decode cc_law 745 = .ok (.iload 6, 2) := by decide +kernel
theorem d_law_747 : decode cc_law 747 = .ok (.i2l, 1) := by decide +kernel
theorem d_law_748 : decode cc_law 748 = .ok (.lcmp, 1) := by decide +kernel
theorem d_law_749 : decode cc_law 749 = .ok (.ifCond .eq 5, 3) := by decide +kernel
theorem d_law_752 : decode cc_law 752 = .ok (.iconst 0, 1) := by decide +kernel
theorem d_law_753 : decode cc_law 753 = .ok (.ireturn, 1) := by decide +kernel
theorem d_law_754 : decode cc_law 754 = .ok (.goto 153, 3) := by decide +kernel
theorem d_law_757 : decode cc_law 757 = .ok (.aload_n 1, 1) := by decide +kernel
theorem d_law_758 : decode cc_law 758 = .ok (.aload_n 0, 1) := by decide +kernel
theorem d_law_759 : decode cc_law 759 = .ok (.iload 4, 2) := by decide +kernel
theorem d_law_761 : decode cc_law 761 = .ok (.iconst 1, 1) := by decide +kernel
theorem d_law_762 : decode cc_law 762 = .ok (.iadd, 1) := by decide +kernel
theorem d_law_763 : decode cc_law 763 = .ok (.iaload, 1) := by decide +kernel
theorem d_law_764 : decode cc_law 764 = .ok (.aload_n 3, 1) := by decide +kernel
theorem d_law_765 : decode cc_law 765 = .ok (.invokestatic 97, 3) := by decide +kernel
theorem d_law_768 : decode cc_law 768 = .ok (.istore 5, 2) := by decide +kernel
theorem d_law_770 : decode cc_law 770 = .ok (.aload_n 2, 1) := by decide +kernel
theorem d_law_771 : decode cc_law 771 = .ok (.aload_n 0, 1) := by decide +kernel
theorem d_law_772 : decode cc_law 772 = .ok (.iload 4, 2) := by decide +kernel
theorem d_law_774 : decode cc_law 774 = .ok (.iconst 1, 1) := by decide +kernel
theorem d_law_775 : decode cc_law 775 = .ok (.iadd, 1) := by decide +kernel
theorem d_law_776 : decode cc_law 776 = .ok (.iaload, 1) := by decide +kernel
theorem d_law_777 : decode cc_law 777 = .ok (.invokevirtual 99, 3) := by decide +kernel
theorem d_law_780 : decode cc_law 780 = .ok (.istore 6, 2) := by decide +kernel
theorem d_law_782 : decode cc_law 782 = .ok (.aload_n 2, 1) := by decide +kernel
theorem d_law_783 : decode cc_law 783 = .ok (.invokevirtual 63, 3) := by decide +kernel
theorem d_law_786 : decode cc_law 786 = .ok (.iload 5, 2) := by decide +kernel
theorem d_law_788 : decode cc_law 788 = .ok (.if_icmp .eq 5, 3) := by decide +kernel
theorem d_law_791 : decode cc_law 791 = .ok (.iconst 0, 1) := by decide +kernel
theorem d_law_792 : decode cc_law 792 = .ok (.ireturn, 1) := by decide +kernel
theorem d_law_793 : decode cc_law 793 = .ok (.iload 5, 2) := by decide +kernel
theorem d_law_795 : decode cc_law 795 = .ok (.ifCond .ne 15, 3) := by decide +kernel
theorem d_law_798 : decode cc_law 798 = .ok (.aload_n 3, 1) := by decide +kernel
theorem d_law_799 : decode cc_law 799 = .ok (.iconst 0, 1) := by decide +kernel
theorem d_law_800 : decode cc_law 800 = .ok (.laload, 1) := by decide +kernel
theorem d_law_801 : decode cc_law 801 = .ok (.iload 6, 2) := by decide +kernel
theorem d_law_803 : decode cc_law 803 = .ok (.i2l, 1) := by decide +kernel
theorem d_law_804 : decode cc_law 804 = .ok (.lcmp, 1) := by decide +kernel
theorem d_law_805 : decode cc_law 805 = .ok (.ifCond .eq 5, 3) := by decide +kernel
theorem d_law_808 : decode cc_law 808 = .ok (.iconst 0, 1) := by decide +kernel
theorem d_law_809 : decode cc_law 809 = .ok (.ireturn, 1) := by decide +kernel
theorem d_law_810 : decode cc_law 810 = .ok (.goto 97, 3) := by decide +kernel
theorem d_law_813 : decode cc_law 813 = .ok (.aload_n 1, 1) := by decide +kernel
theorem d_law_814 : decode cc_law 814 = .ok (.invokevirtual 100, 3) := by decide +kernel
theorem d_law_817 : decode cc_law 817 = .ok (.aload_n 2, 1) := by decide +kernel
theorem d_law_818 : decode cc_law 818 = .ok (.invokevirtual 103, 3) := by decide +kernel
theorem d_law_821 : decode cc_law 821 = .ok (.if_icmp .eq 86, 3) := by decide +kernel
theorem d_law_824 : decode cc_law 824 = .ok (.iconst 0, 1) := by decide +kernel
theorem d_law_825 : decode cc_law 825 = .ok (.ireturn, 1) := by decide +kernel
theorem d_law_826 : decode cc_law 826 = .ok (.aload_n 1, 1) := by decide +kernel
theorem d_law_827 : decode cc_law 827 = .ok (.aload_n 0, 1) := by decide +kernel
theorem d_law_828 : decode cc_law 828 = .ok (.iload 4, 2) := by decide +kernel
theorem d_law_830 : decode cc_law 830 = .ok (.iconst 1, 1) := by decide +kernel
theorem d_law_831 : decode cc_law 831 = .ok (.iadd, 1) := by decide +kernel
theorem d_law_832 : decode cc_law 832 = .ok (.iaload, 1) := by decide +kernel
theorem d_law_833 : decode cc_law 833 = .ok (.aload_n 0, 1) := by decide +kernel
theorem d_law_834 : decode cc_law 834 = .ok (.iload 4, 2) := by decide +kernel
theorem d_law_836 : decode cc_law 836 = .ok (.iconst 2, 1) := by decide +kernel
theorem d_law_837 : decode cc_law 837 = .ok (.iadd, 1) := by decide +kernel
theorem d_law_838 : decode cc_law 838 = .ok (.iaload, 1) := by decide +kernel
theorem d_law_839 : decode cc_law 839 = .ok (.aload_n 3, 1) := by decide +kernel
theorem d_law_840 : decode cc_law 840 = .ok (.invokestatic 104, 3) := by decide +kernel
theorem d_law_843 : decode cc_law 843 = .ok (.istore 5, 2) := by decide +kernel
theorem d_law_845 : decode cc_law 845 = .ok (.aload_n 2, 1) := by decide +kernel
theorem d_law_846 : decode cc_law 846 = .ok (.aload_n 0, 1) := by decide +kernel
theorem d_law_847 : decode cc_law 847 = .ok (.iload 4, 2) := by decide +kernel
theorem d_law_849 : decode cc_law 849 = .ok (.iconst 1, 1) := by decide +kernel
theorem d_law_850 : decode cc_law 850 = .ok (.iadd, 1) := by decide +kernel
theorem d_law_851 : decode cc_law 851 = .ok (.iaload, 1) := by decide +kernel
theorem d_law_852 : decode cc_law 852 = .ok (.aload_n 0, 1) := by decide +kernel
theorem d_law_853 : decode cc_law 853 = .ok (.iload 4, 2) := by decide +kernel
theorem d_law_855 : decode cc_law 855 = .ok (.iconst 2, 1) := by decide +kernel
theorem d_law_856 : decode cc_law 856 = .ok (.iadd, 1) := by decide +kernel
theorem d_law_857 : decode cc_law 857 = .ok (.iaload, 1) := by decide +kernel
theorem d_law_858 : decode cc_law 858 = .ok (.invokevirtual 106, 3) := by decide +kernel
theorem d_law_861 : decode cc_law 861 = .ok (.istore 6, 2) := by decide +kernel
theorem d_law_863 : decode cc_law 863 = .ok (.aload_n 2, 1) := by decide +kernel
theorem d_law_864 : decode cc_law 864 = .ok (.invokevirtual 63, 3) := by decide +kernel
theorem d_law_867 : decode cc_law 867 = .ok (.iload 5, 2) := by decide +kernel
theorem d_law_869 : decode cc_law 869 = .ok (.if_icmp .eq 5, 3) := by decide +kernel
theorem d_law_872 : decode cc_law 872 = .ok (.iconst 0, 1) := by decide +kernel
theorem d_law_873 : decode cc_law 873 = .ok (.ireturn, 1) := by decide +kernel
theorem d_law_874 : decode cc_law 874 = .ok (.iload 5, 2) := by decide +kernel
theorem d_law_876 : decode cc_law 876 = .ok (.ifCond .ne 15, 3) := by decide +kernel
theorem d_law_879 : decode cc_law 879 = .ok (.aload_n 3, 1) := by decide +kernel
theorem d_law_880 : decode cc_law 880 = .ok (.iconst 0, 1) := by decide +kernel
theorem d_law_881 : decode cc_law 881 = .ok (.laload, 1) := by decide +kernel
theorem d_law_882 : decode cc_law 882 = .ok (.iload 6, 2) := by decide +kernel
theorem d_law_884 : decode cc_law 884 = .ok (.i2l, 1) := by decide +kernel
theorem d_law_885 : decode cc_law 885 = .ok (.lcmp, 1) := by decide +kernel
theorem d_law_886 : decode cc_law 886 = .ok (.ifCond .eq 5, 3) := by decide +kernel
theorem d_law_889 : decode cc_law 889 = .ok (.iconst 0, 1) := by decide +kernel
theorem d_law_890 : decode cc_law 890 = .ok (.ireturn, 1) := by decide +kernel
theorem d_law_891 : decode cc_law 891 = .ok (.goto 16, 3) := by decide +kernel
theorem d_law_894 : decode cc_law 894 = .ok (.aload_n 1, 1) := by decide +kernel
theorem d_law_895 : decode cc_law 895 = .ok (.invokevirtual 107, 3) := by decide +kernel
theorem d_law_898 : decode cc_law 898 = .ok (.aload_n 2, 1) := by decide +kernel
theorem d_law_899 : decode cc_law 899 = .ok (.invokevirtual 110, 3) := by decide +kernel
theorem d_law_902 : decode cc_law 902 = .ok (.if_icmp .eq 5, 3) := by decide +kernel
theorem d_law_905 : decode cc_law 905 = .ok (.iconst 0, 1) := by decide +kernel
theorem d_law_906 : decode cc_law 906 = .ok (.ireturn, 1) := by decide +kernel
theorem d_law_907 : decode cc_law 907 = .ok (.iinc 4 4, 3) := by decide +kernel
theorem d_law_910 : decode cc_law 910 = .ok (.goto (-887), 3) := by decide +kernel
theorem d_law_913 : decode cc_law 913 = .ok (.iconst 1, 1) := by decide +kernel
theorem d_law_914 : decode cc_law 914 = .ok (.ireturn, 1) := by decide +kernel
