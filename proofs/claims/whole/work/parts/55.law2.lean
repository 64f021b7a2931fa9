/-! ### the law: its arms -/
theorem d_LW_law_0 : decode code 0 = .ok (.new 8, 3) := by decide +kernel
theorem d_LW_law_3 : decode code 3 = .ok (.dup, 1) := by decide +kernel
theorem d_LW_law_4 : decode code 4 = .ok (.invokespecial 62, 3) := by decide +kernel
theorem d_LW_law_7 : decode code 7 = .ok (.astore_n 1, 1) := by decide +kernel
theorem d_LW_law_8 : decode code 8 = .ok (.new 63, 3) := by decide +kernel
theorem d_LW_law_11 : decode code 11 = .ok (.dup, 1) := by decide +kernel
theorem d_LW_law_12 : decode code 12 = .ok (.invokespecial 65, 3) := by decide +kernel
theorem d_LW_law_15 : decode code 15 = .ok (.astore_n 2, 1) := by decide +kernel
theorem d_LW_law_16 : decode code 16 = .ok (.iconst 1, 1) := by decide +kernel
theorem d_LW_law_17 : decode code 17 = .ok (.newarray .long, 2) := by decide +kernel
theorem d_LW_law_19 : decode code 19 = .ok (.astore_n 3, 1) := by decide +kernel
theorem d_LW_law_20 : decode code 20 = .ok (.iconst 0, 1) := by decide +kernel
theorem d_LW_law_21 : decode code 21 = .ok (.istore 4, 2) := by decide +kernel
theorem d_LW_law_23 : decode code 23 = .ok (.iload 4, 2) := by decide +kernel
theorem d_LW_law_25 : decode code 25 = .ok (.aload_n 0, 1) := by decide +kernel
theorem d_LW_law_26 : decode code 26 = .ok (.arraylength, 1) := by decide +kernel
theorem d_LW_law_27 : decode code 27 = .ok (.iconst 5, 1) := by decide +kernel
theorem d_LW_law_28 : decode code 28 = .ok (.isub, 1) := by decide +kernel
theorem d_LW_law_29 : decode code 29 = .ok (.if_icmp .gt 1069, 3) := by decide +kernel
theorem d_LW_law_32 : decode code 32 = .ok (.aload_n 0, 1) := by decide +kernel
theorem d_LW_law_33 : decode code 33 = .ok (.iload 4, 2) := by decide +kernel
theorem d_LW_law_35 : decode code 35 = .ok (.iaload, 1) := by decide +kernel
theorem d_LW_law_36 : decode code 36 = .ok (.bipush 15, 2) := by decide +kernel
theorem d_LW_law_38 : decode code 38 = .ok (.iand, 1) := by decide +kernel
theorem d_LW_law_39 : decode code 39 = .ok (.tableswitch 1053 0 14 #[73, 165, 178, 234, 290, 345, 425, 492, 584, 652, 744, 812, 892, 960, 1040], 73) := by decide +kernel
theorem d_LW_law_112 : decode code 112 = .ok (.aload_n 1, 1) := by decide +kernel
theorem d_LW_law_113 : decode code 113 = .ok (.aload_n 0, 1) := by decide +kernel
theorem d_LW_law_114 : decode code 114 = .ok (.iload 4, 2) := by decide +kernel
theorem d_LW_law_116 : decode code 116 = .ok (.iconst 1, 1) := by decide +kernel
theorem d_LW_law_117 : decode code 117 = .ok (.iadd, 1) := by decide +kernel
theorem d_LW_law_118 : decode code 118 = .ok (.iaload, 1) := by decide +kernel
theorem d_LW_law_119 : decode code 119 = .ok (.aload_n 0, 1) := by decide +kernel
theorem d_LW_law_120 : decode code 120 = .ok (.iload 4, 2) := by decide +kernel
theorem d_LW_law_122 : decode code 122 = .ok (.iconst 2, 1) := by decide +kernel
theorem d_LW_law_123 : decode code 123 = .ok (.iadd, 1) := by decide +kernel
theorem d_LW_law_124 : decode code 124 = .ok (.iaload, 1) := by decide +kernel
theorem d_LW_law_125 : decode code 125 = .ok (.aload_n 0, 1) := by decide +kernel
theorem d_LW_law_126 : decode code 126 = .ok (.iload 4, 2) := by decide +kernel
theorem d_LW_law_128 : decode code 128 = .ok (.iconst 3, 1) := by decide +kernel
theorem d_LW_law_129 : decode code 129 = .ok (.iadd, 1) := by decide +kernel
theorem d_LW_law_130 : decode code 130 = .ok (.iaload, 1) := by decide +kernel
theorem d_LW_law_131 : decode code 131 = .ok (.aload_n 0, 1) := by decide +kernel
theorem d_LW_law_132 : decode code 132 = .ok (.iload 4, 2) := by decide +kernel
theorem d_LW_law_134 : decode code 134 = .ok (.iconst 4, 1) := by decide +kernel
theorem d_LW_law_135 : decode code 135 = .ok (.iadd, 1) := by decide +kernel
theorem d_LW_law_136 : decode code 136 = .ok (.iaload, 1) := by decide +kernel
theorem d_LW_law_137 : decode code 137 = .ok (.aload_n 3, 1) := by decide +kernel
theorem d_LW_law_138 : decode code 138 = .ok (.invokestatic 66, 3) := by decide +kernel
theorem d_LW_law_141 : decode code 141 = .ok (.istore 5, 2) := by decide +kernel
theorem d_LW_law_143 : decode code 143 = .ok (.aload_n 2, 1) := by decide +kernel
theorem d_LW_law_144 : decode code 144 = .ok (.aload_n 0, 1) := by decide +kernel
theorem d_LW_law_145 : decode code 145 = .ok (.iload 4, 2) := by decide +kernel
theorem d_LW_law_147 : decode code 147 = .ok (.iconst 1, 1) := by decide +kernel
theorem d_LW_law_148 : decode code 148 = .ok (.iadd, 1) := by decide +kernel
theorem d_LW_law_149 : decode code 149 = .ok (.iaload, 1) := by decide +kernel
theorem d_LW_law_150 : decode code 150 = .ok (.aload_n 0, 1) := by decide +kernel
theorem d_LW_law_151 : decode code 151 = .ok (.iload 4, 2) := by decide +kernel
theorem d_LW_law_153 : decode code 153 = .ok (.iconst 2, 1) := by decide +kernel
theorem d_LW_law_154 : decode code 154 = .ok (.iadd, 1) := by decide +kernel
theorem d_LW_law_155 : decode code 155 = .ok (.iaload, 1) := by decide +kernel
theorem d_LW_law_156 : decode code 156 = .ok (.aload_n 0, 1) := by decide +kernel
theorem d_LW_law_157 : decode code 157 = .ok (.iload 4, 2) := by decide +kernel
theorem d_LW_law_159 : decode code 159 = .ok (.iconst 3, 1) := by decide +kernel
theorem d_LW_law_160 : decode code 160 = .ok (.iadd, 1) := by decide +kernel
theorem d_LW_law_161 : decode code 161 = .ok (.iaload, 1) := by decide +kernel
theorem d_LW_law_162 : decode code 162 = .ok (.aload_n 0, 1) := by decide +kernel
theorem d_LW_law_163 : decode code 163 = .ok (.iload 4, 2) := by decide +kernel
theorem d_LW_law_165 : decode code 165 = .ok (.iconst 4, 1) := by decide +kernel
theorem d_LW_law_166 : decode code 166 = .ok (.iadd, 1) := by decide +kernel
theorem d_LW_law_167 : decode code 167 = .ok (.iaload, 1) := by decide +kernel
theorem d_LW_law_168 : decode code 168 = .ok (.invokevirtual 71, 3) := by decide +kernel
theorem d_LW_law_171 : decode code 171 = .ok (.istore 6, 2) := by decide +kernel
theorem d_LW_law_173 : decode code 173 = .ok (.aload_n 2, 1) := by decide +kernel
theorem d_LW_law_174 : decode code 174 = .ok (.invokevirtual 72, 3) := by decide +kernel
theorem d_LW_law_177 : decode code 177 = .ok (.iload 5, 2) := by decide +kernel
theorem d_LW_law_179 : decode code 179 = .ok (.if_icmp .eq 5, 3) := by decide +kernel
theorem d_LW_law_182 : decode code 182 = .ok (.iconst 0, 1) := by decide +kernel
theorem d_LW_law_183 : decode code 183 = .ok (.ireturn, 1) := by decide +kernel
theorem d_LW_law_184 : decode code 184 = .ok (.iload 5, 2) := by decide +kernel
theorem d_LW_law_186 : decode code 186 = .ok (.ifCond .ne 15, 3) := by decide +kernel
theorem d_LW_law_189 : decode code 189 = .ok (.aload_n 3, 1) := by decide +kernel
theorem d_LW_law_190 : decode code 190 = .ok (.iconst 0, 1) := by decide +kernel
theorem d_LW_law_191 : decode code 191 = .ok (.laload, 1) := by decide +kernel
theorem d_LW_law_192 : decode code 192 = .ok (.iload 6, 2) := by decide +kernel
theorem d_LW_law_194 : decode code 194 = .ok (.i2l, 1) := by decide +kernel
theorem d_LW_law_195 : decode code 195 = .ok (.lcmp, 1) := by decide +kernel
theorem d_LW_law_196 : decode code 196 = .ok (.ifCond .eq 5, 3) := by decide +kernel
theorem d_LW_law_199 : decode code 199 = .ok (.iconst 0, 1) := by decide +kernel
theorem d_LW_law_200 : decode code 200 = .ok (.ireturn, 1) := by decide +kernel
theorem d_LW_law_201 : decode code 201 = .ok (.goto 891, 3) := by decide +kernel
theorem d_LW_law_204 : decode code 204 = .ok (.aload_n 1, 1) := by decide +kernel
theorem d_LW_law_205 : decode code 205 = .ok (.invokevirtual 76, 3) := by decide +kernel
theorem d_LW_law_208 : decode code 208 = .ok (.aload_n 2, 1) := by decide +kernel
theorem d_LW_law_209 : decode code 209 = .ok (.invokevirtual 79, 3) := by decide +kernel
theorem d_LW_law_212 : decode code 212 = .ok (.if_icmp .eq 880, 3) := by decide +kernel
theorem d_LW_law_215 : decode code 215 = .ok (.iconst 0, 1) := by decide +kernel
theorem d_LW_law_216 : decode code 216 = .ok (.ireturn, 1) := by decide +kernel
theorem d_LW_law_217 : decode code 217 = .ok (.aload_n 1, 1) := by decide +kernel
theorem d_LW_law_218 : decode code 218 = .ok (.aload_n 0, 1) := by decide +kernel
theorem d_LW_law_219 : decode code 219 = .ok (.iload 4, 2) := by decide +kernel
theorem d_LW_law_221 : decode code 221 = .ok (.iconst 1, 1) := by decide +kernel
theorem d_LW_law_222 : decode code 222 = .ok (.iadd, 1) := by decide +kernel
theorem d_LW_law_223 : decode code 223 = .ok (.iaload, 1) := by decide +kernel
theorem d_LW_law_224 : decode code 224 = .ok (.aload_n 3, 1) := by decide +kernel
theorem d_LW_law_225 : decode code 225 = .ok (.invokestatic 80, 3) := by decide +kernel
theorem d_LW_law_228 : decode code 228 = .ok (.istore 5, 2) := by decide +kernel
theorem d_LW_law_230 : decode code 230 = .ok (.aload_n 2, 1) := by decide +kernel
theorem d_LW_law_231 : decode code 231 = .ok (.aload_n 0, 1) := by decide +kernel
theorem d_LW_law_232 : decode code 232 = .ok (.iload 4, 2) := by decide +kernel
theorem d_LW_law_234 : decode code 234 = .ok (.iconst 1, 1) := by decide +kernel
theorem d_LW_law_235 : decode code 235 = .ok (.iadd, 1) := by decide +kernel
theorem d_LW_law_236 : decode code 236 = .ok (.iaload, 1) := by decide +kernel
theorem d_LW_law_237 : decode code 237 = .ok (.invokevirtual 83, 3) := by decide +kernel
theorem d_LW_law_240 : decode code 240 = .ok (.istore 6, 2) := by decide +kernel
theorem d_LW_law_242 : decode code 242 = .ok (.aload_n 2, 1) := by decide +kernel
theorem d_LW_law_243 : decode code 243 = .ok (.invokevirtual 72, 3) := by decide +kernel
theorem d_LW_law_246 : decode code 246 = .ok (.iload 5, 2) := by decide +kernel
theorem d_LW_law_248 : decode code 248 = .ok (.if_icmp .eq 5, 3) := by decide +kernel
theorem d_LW_law_251 : decode code 251 = .ok (.iconst 0, 1) := by decide +kernel
theorem d_LW_law_252 : decode code 252 = .ok (.ireturn, 1) := by decide +kernel
theorem d_LW_law_253 : decode code 253 = .ok (.iload 5, 2) := by decide +kernel
theorem d_LW_law_255 : decode code 255 = .ok (.ifCond .ne 15, 3) := by decide +kernel
theorem d_LW_law_258 : decode code 258 = .ok (.aload_n 3, 1) := by decide +kernel
theorem d_LW_law_259 : decode code 259 = .ok (.iconst 0, 1) := by decide +kernel
theorem d_LW_law_260 : decode code 260 = .ok (.laload, 1) := by decide +kernel
theorem d_LW_law_261 : decode code 261 = .ok (.iload 6, 2) := by decide +kernel
theorem d_LW_law_263 : decode code 263 = .ok (.i2l, 1) := by decide +kernel
theorem d_LW_law_264 : decode code 264 = .ok (.lcmp, 1) := by decide +kernel
theorem d_LW_law_265 : decode code 265 = .ok (.ifCond .eq 5, 3) := by decide +kernel
theorem d_LW_law_268 : decode code 268 = .ok (.iconst 0, 1) := by decide +kernel
theorem d_LW_law_269 : decode code 269 = .ok (.ireturn, 1) := by decide +kernel
theorem d_LW_law_270 : decode code 270 = .ok (.goto 822, 3) := by decide +kernel
theorem d_LW_law_273 : decode code 273 = .ok (.aload_n 1, 1) := by decide +kernel
theorem d_LW_law_274 : decode code 274 = .ok (.aload_n 0, 1) := by decide +kernel
theorem d_LW_law_275 : decode code 275 = .ok (.iload 4, 2) := by decide +kernel
theorem d_LW_law_277 : decode code 277 = .ok (.iconst 1, 1) := by decide +kernel
theorem d_LW_law_278 : decode code 278 = .ok (.iadd, 1) := by decide +kernel
theorem d_LW_law_279 : decode code 279 = .ok (.iaload, 1) := by decide +kernel
theorem d_LW_law_280 : decode code 280 = .ok (.aload_n 3, 1) := by decide +kernel
theorem d_LW_law_281 : decode code 281 = .ok (.invokestatic 84, 3) := by decide +kernel
theorem d_LW_law_284 : decode code 284 = .ok (.istore 5, 2) := by decide +kernel
theorem d_LW_law_286 : decode code 286 = .ok (.aload_n 2, 1) := by decide +kernel
theorem d_LW_law_287 : decode code 287 = .ok (.aload_n 0, 1) := by decide +kernel
theorem d_LW_law_288 : decode code 288 = .ok (.iload 4, 2) := by decide +kernel
theorem d_LW_law_290 : decode code 290 = .ok (.iconst 1, 1) := by decide +kernel
theorem d_LW_law_291 : decode code 291 = .ok (.iadd, 1) := by decide +kernel
theorem d_LW_law_292 : decode code 292 = .ok (.iaload, 1) := by decide +kernel
theorem d_LW_law_293 : decode code 293 = .ok (.invokevirtual 86, 3) := by decide +kernel
theorem d_LW_law_296 : decode code 296 = .ok (.istore 6, 2) := by decide +kernel
theorem d_LW_law_298 : decode code 298 = .ok (.aload_n 2, 1) := by decide +kernel
theorem d_LW_law_299 : decode code 299 = .ok (.invokevirtual 72, 3) := by decide +kernel
theorem d_LW_law_302 : decode code 302 = .ok (.iload 5, 2) := by decide +kernel
theorem d_LW_law_304 : decode code 304 = .ok (.if_icmp .eq 5, 3) := by decide +kernel
theorem d_LW_law_307 : decode code 307 = .ok (.iconst 0, 1) := by decide +kernel
theorem d_LW_law_308 : decode code 308 = .ok (.ireturn, 1) := by decide +kernel
theorem d_LW_law_309 : decode code 309 = .ok (.iload 5, 2) := by decide +kernel
theorem d_LW_law_311 : decode code 311 = .ok (.ifCond .ne 15, 3) := by decide +kernel
theorem d_LW_law_314 : decode code 314 = .ok (.aload_n 3, 1) := by decide +kernel
theorem d_LW_law_315 : decode code 315 = .ok (.iconst 0, 1) := by decide +kernel
theorem d_LW_law_316 : decode code 316 = .ok (.laload, 1) := by decide +kernel
theorem d_LW_law_317 : decode code 317 = .ok (.iload 6, 2) := by decide +kernel
theorem d_LW_law_319 : decode code 319 = .ok (.i2l, 1) := by decide +kernel
theorem d_LW_law_320 : decode code 320 = .ok (.lcmp, 1) := by decide +kernel
theorem d_LW_law_321 : decode code 321 = .ok (.ifCond .eq 5, 3) := by decide +kernel
theorem d_LW_law_324 : decode code 324 = .ok (.iconst 0, 1) := by decide +kernel
theorem d_LW_law_325 : decode code 325 = .ok (.ireturn, 1) := by decide +kernel
theorem d_LW_law_326 : decode code 326 = .ok (.goto 766, 3) := by decide +kernel
theorem d_LW_law_329 : decode code 329 = .ok (.aload_n 1, 1) := by decide +kernel
theorem d_LW_law_330 : decode code 330 = .ok (.aload_n 0, 1) := by decide +kernel
theorem d_LW_law_331 : decode code 331 = .ok (.iload 4, 2) := by decide +kernel
theorem d_LW_law_333 : decode code 333 = .ok (.iconst 1, 1) := by decide +kernel
theorem d_LW_law_334 : decode code 334 = .ok (.iadd, 1) := by decide +kernel
theorem d_LW_law_335 : decode code 335 = .ok (.iaload, 1) := by decide +kernel
theorem d_LW_law_336 : decode code 336 = .ok (.aload_n 3, 1) := by decide +kernel
theorem d_LW_law_337 : decode code 337 = .ok (.invokestatic 87, 3) := by decide +kernel
theorem d_LW_law_340 : decode code 340 = .ok (.istore 5, 2) := by decide +kernel
theorem d_LW_law_342 : decode code 342 = .ok (.aload_n 2, 1) := by decide +kernel
theorem d_LW_law_343 : decode code 343 = .ok (.aload_n 0, 1) := by decide +kernel
theorem d_LW_law_344 : decode code 344 = .ok (.iload 4, 2) := by decide +kernel
theorem d_LW_law_346 : decode code 346 = .ok (.iconst 1, 1) := by decide +kernel
theorem d_LW_law_347 : decode code 347 = .ok (.iadd, 1) := by decide +kernel
theorem d_LW_law_348 : decode code 348 = .ok (.iaload, 1) := by decide +kernel
theorem d_LW_law_349 : decode code 349 = .ok (.invokevirtual 89, 3) := by decide +kernel
theorem d_LW_law_352 : decode code 352 = .ok (.lstore 6, 2) := by decide +kernel
theorem d_LW_law_354 : decode code 354 = .ok (.aload_n 2, 1) := by decide +kernel
theorem d_LW_law_355 : decode code 355 = .ok (.invokevirtual 72, 3) := by decide +kernel
theorem d_LW_law_358 : decode code 358 = .ok (.iload 5, 2) := by decide +kernel
theorem d_LW_law_360 : decode code 360 = .ok (.if_icmp .eq 5, 3) := by decide +kernel
theorem d_LW_law_363 : decode code 363 = .ok (.iconst 0, 1) := by decide +kernel
theorem d_LW_law_364 : decode code 364 = .ok (.ireturn, 1) := by decide +kernel
theorem d_LW_law_365 : decode code 365 = .ok (.iload 5, 2) := by decide +kernel
theorem d_LW_law_367 : decode code 367 = .ok (.ifCond .ne 14, 3) := by decide +kernel
theorem d_LW_law_370 : decode code 370 = .ok (.aload_n 3, 1) := by decide +kernel
theorem d_LW_law_371 : decode code 371 = .ok (.iconst 0, 1) := by decide +kernel
theorem d_LW_law_372 : decode code 372 = .ok (.laload, 1) := by decide +kernel
theorem d_LW_law_373 : decode code 373 = .ok (.lload 6, 2) := by decide +kernel
theorem d_LW_law_375 : decode code 375 = .ok (.lcmp, 1) := by decide +kernel
theorem d_LW_law_376 : decode code 376 = .ok (.ifCond .eq 5, 3) := by decide +kernel
theorem d_LW_law_379 : decode code 379 = .ok (.iconst 0, 1) := by decide +kernel
theorem d_LW_law_380 : decode code 380 = .ok (.ireturn, 1) := by decide +kernel
theorem d_LW_law_381 : decode code 381 = .ok (.goto 711, 3) := by decide +kernel
theorem d_LW_law_384 : decode code 384 = .ok (.aload_n 1, 1) := by decide +kernel
theorem d_LW_law_385 : decode code 385 = .ok (.aload_n 0, 1) := by decide +kernel
theorem d_LW_law_386 : decode code 386 = .ok (.iload 4, 2) := by decide +kernel
theorem d_LW_law_388 : decode code 388 = .ok (.iconst 1, 1) := by decide +kernel
theorem d_LW_law_389 : decode code 389 = .ok (.iadd, 1) := by decide +kernel
theorem d_LW_law_390 : decode code 390 = .ok (.iaload, 1) := by decide +kernel
theorem d_LW_law_391 : decode code 391 = .ok (.aload_n 0, 1) := by decide +kernel
theorem d_LW_law_392 : decode code 392 = .ok (.iload 4, 2) := by decide +kernel
theorem d_LW_law_394 : decode code 394 = .ok (.iconst 2, 1) := by decide +kernel
theorem d_LW_law_395 : decode code 395 = .ok (.iadd, 1) := by decide +kernel
theorem d_LW_law_396 : decode code 396 = .ok (.iaload, 1) := by decide +kernel
theorem d_LW_law_397 : decode code 397 = .ok (.i2l, 1) := by decide +kernel
theorem d_LW_law_398 : decode code 398 = .ok (.bipush 32, 2) := by decide +kernel
theorem d_LW_law_400 : decode code 400 = .ok (.lshl, 1) := by decide +kernel
theorem d_LW_law_401 : decode code 401 = .ok (.aload_n 0, 1) := by decide +kernel
theorem d_LW_law_402 : decode code 402 = .ok (.iload 4, 2) := by decide +kernel
theorem d_LW_law_404 : decode code 404 = .ok (.iconst 3, 1) := by decide +kernel
theorem d_LW_law_405 : decode code 405 = .ok (.iadd, 1) := by decide +kernel
theorem d_LW_law_406 : decode code 406 = .ok (.iaload, 1) := by decide +kernel
theorem d_LW_law_407 : decode code 407 = .ok (.i2l, 1) := by decide +kernel
theorem d_LW_law_408 : decode code 408 = .ok (.ldc2_w 90, 3) := by decide +kernel
theorem d_LW_law_411 : decode code 411 = .ok (.land, 1) := by decide +kernel
theorem d_LW_law_412 : decode code 412 = .ok (.lor, 1) := by decide +kernel
theorem d_LW_law_413 : decode code 413 = .ok (.invokestatic 92, 3) := by decide +kernel
theorem d_LW_law_416 : decode code 416 = .ok (.istore 5, 2) := by decide +kernel
theorem d_LW_law_418 : decode code 418 = .ok (.aload_n 2, 1) := by decide +kernel
theorem d_LW_law_419 : decode code 419 = .ok (.aload_n 0, 1) := by decide +kernel
theorem d_LW_law_420 : decode code 420 = .ok (.iload 4, 2) := by decide +kernel
theorem d_LW_law_422 : decode code 422 = .ok (.iconst 1, 1) := by decide +kernel
theorem d_LW_law_423 : decode code 423 = .ok (.iadd, 1) := by decide +kernel
theorem d_LW_law_424 : decode code 424 = .ok (.iaload, 1) := by decide +kernel
theorem d_LW_law_425 : decode code 425 = .ok (.aload_n 0, 1) := by decide +kernel
theorem d_LW_law_426 : decode code 426 = .ok (.iload 4, 2) := by decide +kernel
theorem d_LW_law_428 : decode code 428 = .ok (.iconst 2, 1) := by decide +kernel
theorem d_LW_law_429 : decode code 429 = .ok (.iadd, 1) := by decide +kernel
theorem d_LW_law_430 : decode code 430 = .ok (.iaload, 1) := by decide +kernel
theorem d_LW_law_431 : decode code 431 = .ok (.i2l, 1) := by decide +kernel
theorem d_LW_law_432 : decode code 432 = .ok (.bipush 32, 2) := by decide +kernel
theorem d_LW_law_434 : decode code 434 = .ok (.lshl, 1) := by decide +kernel
theorem d_LW_law_435 : decode code 435 = .ok (.aload_n 0, 1) := by decide +kernel
theorem d_LW_law_436 : decode code 436 = .ok (.iload 4, 2) := by decide +kernel
theorem d_LW_law_438 : decode code 438 = .ok (.iconst 3, 1) := by decide +kernel
theorem d_LW_law_439 : decode code 439 = .ok (.iadd, 1) := by decide +kernel
theorem d_LW_law_440 : decode code 440 = .ok (.iaload, 1) := by decide +kernel
theorem d_LW_law_441 : decode code 441 = .ok (.i2l, 1) := by decide +kernel
theorem d_LW_law_442 : decode code 442 = .ok (.ldc2_w 90, 3) := by decide +kernel
theorem d_LW_law_445 : decode code 445 = .ok (.land, 1) := by decide +kernel
theorem d_LW_law_446 : decode code 446 = .ok (.lor, 1) := by decide +kernel
theorem d_LW_law_447 : decode code 447 = .ok (.invokevirtual 95, 3) := by decide +kernel
theorem d_LW_law_450 : decode code 450 = .ok (.aload_n 2, 1) := by decide +kernel
theorem d_LW_law_451 : decode code 451 = .ok (.invokevirtual 72, 3) := by decide +kernel
theorem d_LW_law_454 : decode code 454 = .ok (.iload 5, 2) := by decide +kernel
theorem d_LW_law_456 : decode code 456 = .ok (.if_icmp .eq 5, 3) := by decide +kernel
theorem d_LW_law_459 : decode code 459 = .ok (.iconst 0, 1) := by decide +kernel
theorem d_LW_law_460 : decode code 460 = .ok (.ireturn, 1) := by decide +kernel
theorem d_LW_law_461 : decode code 461 = .ok (.goto 631, 3) := by decide +kernel
theorem d_LW_law_464 : decode code 464 = .ok (.aload_n 1, 1) := by decide +kernel
theorem d_LW_law_465 : decode code 465 = .ok (.aload_n 0, 1) := by decide +kernel
theorem d_LW_law_466 : decode code 466 = .ok (.iload 4, 2) := by decide +kernel
theorem d_LW_law_468 : decode code 468 = .ok (.iconst 1, 1) := by decide +kernel
theorem d_LW_law_469 : decode code 469 = .ok (.iadd, 1) := by decide +kernel
theorem d_LW_law_470 : decode code 470 = .ok (.iaload, 1) := by decide +kernel
theorem d_LW_law_471 : decode code 471 = .ok (.aload_n 0, 1) := by decide +kernel
theorem d_LW_law_472 : decode code 472 = .ok (.iload 4, 2) := by decide +kernel
theorem d_LW_law_474 : decode code 474 = .ok (.iconst 2, 1) := by decide +kernel
theorem d_LW_law_475 : decode code 475 = .ok (.iadd, 1) := by decide +kernel
theorem d_LW_law_476 : decode code 476 = .ok (.iaload, 1) := by decide +kernel
theorem d_LW_law_477 : decode code 477 = .ok (.aload_n 3, 1) := by decide +kernel
theorem d_LW_law_478 : decode code 478 = .ok (.invokestatic 96, 3) := by decide +kernel
theorem d_LW_law_481 : decode code 481 = .ok (.istore 5, 2) := by decide +kernel
theorem d_LW_law_483 : decode code 483 = .ok (.aload_n 2, 1) := by decide +kernel
theorem d_LW_law_484 : decode code 484 = .ok (.aload_n 0, 1) := by decide +kernel
theorem d_LW_law_485 : decode code 485 = .ok (.iload 4, 2) := by decide +kernel
theorem d_LW_law_487 : decode code 487 = .ok (.iconst 1, 1) := by decide +kernel
theorem d_LW_law_488 : decode code 488 = .ok (.iadd, 1) := by decide +kernel
theorem d_LW_law_489 : decode code 489 = .ok (.iaload, 1) := by decide +kernel
theorem d_LW_law_490 : decode code 490 = .ok (.aload_n 0, 1) := by decide +kernel
theorem d_LW_law_491 : decode code 491 = .ok (.iload 4, 2) := by decide +kernel
theorem d_LW_law_493 : decode code 493 = .ok (.iconst 2, 1) := by decide +kernel
theorem d_LW_law_494 : decode code 494 = .ok (.iadd, 1) := by decide +kernel
theorem d_LW_law_495 : decode code 495 = .ok (.iaload, 1) := by decide +kernel
theorem d_LW_law_496 : decode code 496 = .ok (.invokevirtual 99, 3) := by decide +kernel
theorem d_LW_law_499 : decode code 499 = .ok (.lstore 6, 2) := by decide +kernel
theorem d_LW_law_501 : decode code 501 = .ok (.aload_n 2, 1) := by decide +kernel
theorem d_LW_law_502 : decode code 502 = .ok (.invokevirtual 72, 3) := by decide +kernel
theorem d_LW_law_505 : decode code 505 = .ok (.iload 5, 2) := by decide +kernel
theorem d_LW_law_507 : decode code 507 = .ok (.if_icmp .eq 5, 3) := by decide +kernel
theorem d_LW_law_510 : decode code 510 = .ok (.iconst 0, 1) := by decide +kernel
theorem d_LW_law_511 : decode code 511 = .ok (.ireturn, 1) := by decide +kernel
theorem d_LW_law_512 : decode code 512 = .ok (.iload 5, 2) := by decide +kernel
theorem d_LW_law_514 : decode code 514 = .ok (.ifCond .ne 14, 3) := by decide +kernel
theorem d_LW_law_517 : decode code 517 = .ok (.aload_n 3, 1) := by decide +kernel
theorem d_LW_law_518 : decode code 518 = .ok (.iconst 0, 1) := by decide +kernel
theorem d_LW_law_519 : decode code 519 = .ok (.laload, 1) := by decide +kernel
theorem d_LW_law_520 : decode code 520 = .ok (.lload 6, 2) := by decide +kernel
theorem d_LW_law_522 : decode code 522 = .ok (.lcmp, 1) := by decide +kernel
theorem d_LW_law_523 : decode code 523 = .ok (.ifCond .eq 5, 3) := by decide +kernel
theorem d_LW_law_526 : decode code 526 = .ok (.iconst 0, 1) := by decide +kernel
theorem d_LW_law_527 : decode code 527 = .ok (.ireturn, 1) := by decide +kernel
theorem d_LW_law_528 : decode code 528 = .ok (.goto 564, 3) := by decide +kernel
theorem d_LW_law_531 : decode code 531 = .ok (.aload_n 1, 1) := by decide +kernel
theorem d_LW_law_532 : decode code 532 = .ok (.aload_n 0, 1) := by decide +kernel
theorem d_LW_law_533 : decode code 533 = .ok (.iload 4, 2) := by decide +kernel
theorem d_LW_law_535 : decode code 535 = .ok (.iconst 1, 1) := by decide +kernel
theorem d_LW_law_536 : decode code 536 = .ok (.iadd, 1) := by decide +kernel
theorem d_LW_law_537 : decode code 537 = .ok (.iaload, 1) := by decide +kernel
theorem d_LW_law_538 : decode code 538 = .ok (.aload_n 0, 1) := by decide +kernel
theorem d_LW_law_539 : decode code 539 = .ok (.iload 4, 2) := by decide +kernel
theorem d_LW_law_541 : decode code 541 = .ok (.iconst 2, 1) := by decide +kernel
theorem d_LW_law_542 : decode code 542 = .ok (.iadd, 1) := by decide +kernel
theorem d_LW_law_543 : decode code 543 = .ok (.iaload, 1) := by decide +kernel
theorem d_LW_law_544 : decode code 544 = .ok (.aload_n 0, 1) := by decide +kernel
theorem d_LW_law_545 : decode code 545 = .ok (.iload 4, 2) := by decide +kernel
theorem d_LW_law_547 : decode code 547 = .ok (.iconst 3, 1) := by decide +kernel
theorem d_LW_law_548 : decode code 548 = .ok (.iadd, 1) := by decide +kernel
theorem d_LW_law_549 : decode code 549 = .ok (.iaload, 1) := by decide +kernel
theorem d_LW_law_550 : decode code 550 = .ok (.i2l, 1) := by decide +kernel
theorem d_LW_law_551 : decode code 551 = .ok (.bipush 32, 2) := by decide +kernel
theorem d_LW_law_553 : decode code 553 = .ok (.lshl, 1) := by decide +kernel
theorem d_LW_law_554 : decode code 554 = .ok (.aload_n 0, 1) := by decide +kernel
theorem d_LW_law_555 : decode code 555 = .ok (.iload 4, 2) := by decide +kernel
theorem d_LW_law_557 : decode code 557 = .ok (.iconst 4, 1) := by decide +kernel
theorem d_LW_law_558 : decode code 558 = .ok (.iadd, 1) := by decide +kernel
theorem d_LW_law_559 : decode code 559 = .ok (.iaload, 1) := by decide +kernel
theorem d_LW_law_560 : decode code 560 = .ok (.i2l, 1) := by decide +kernel
theorem d_LW_law_561 : decode code 561 = .ok (.ldc2_w 90, 3) := by decide +kernel
theorem d_LW_law_564 : decode code 564 = .ok (.land, 1) := by decide +kernel
theorem d_LW_law_565 : decode code 565 = .ok (.lor, 1) := by decide +kernel
theorem d_LW_law_566 : decode code 566 = .ok (.invokestatic 100, 3) := by decide +kernel
theorem d_LW_law_569 : decode code 569 = .ok (.istore 5, 2) := by decide +kernel
theorem d_LW_law_571 : decode code 571 = .ok (.aload_n 2, 1) := by decide +kernel
theorem d_LW_law_572 : decode code 572 = .ok (.aload_n 0, 1) := by decide +kernel
theorem d_LW_law_573 : decode code 573 = .ok (.iload 4, 2) := by decide +kernel
theorem d_LW_law_575 : decode code 575 = .ok (.iconst 1, 1) := by decide +kernel
theorem d_LW_law_576 : decode code 576 = .ok (.iadd, 1) := by decide +kernel
theorem d_LW_law_577 : decode code 577 = .ok (.iaload, 1) := by decide +kernel
theorem d_LW_law_578 : decode code 578 = .ok (.aload_n 0, 1) := by decide +kernel
theorem d_LW_law_579 : decode code 579 = .ok (.iload 4, 2) := by decide +kernel
theorem d_LW_law_581 : decode code 581 = .ok (.iconst 2, 1) := by decide +kernel
theorem d_LW_law_582 : decode code 582 = .ok (.iadd, 1) := by decide +kernel
theorem d_LW_law_583 : decode code 583 = .ok (.iaload, 1) := by decide +kernel
theorem d_LW_law_584 : decode code 584 = .ok (.aload_n 0, 1) := by decide +kernel
theorem d_LW_law_585 : decode code 585 = .ok (.iload 4, 2) := by decide +kernel
theorem d_LW_law_587 : decode code 587 = .ok (.iconst 3, 1) := by decide +kernel
theorem d_LW_law_588 : decode code 588 = .ok (.iadd, 1) := by decide +kernel
theorem d_LW_law_589 : decode code 589 = .ok (.iaload, 1) := by decide +kernel
theorem d_LW_law_590 : decode code 590 = .ok (.i2l, 1) := by decide +kernel
theorem d_LW_law_591 : decode code 591 = .ok (.bipush 32, 2) := by decide +kernel
theorem d_LW_law_593 : decode code 593 = .ok (.lshl, 1) := by decide +kernel
theorem d_LW_law_594 : decode code 594 = .ok (.aload_n 0, 1) := by decide +kernel
theorem d_LW_law_595 : decode code 595 = .ok (.iload 4, 2) := by decide +kernel
theorem d_LW_law_597 : decode code 597 = .ok (.iconst 4, 1) := by decide +kernel
theorem d_LW_law_598 : decode code 598 = .ok (.iadd, 1) := by decide +kernel
theorem d_LW_law_599 : decode code 599 = .ok (.iaload, 1) := by decide +kernel
theorem d_LW_law_600 : decode code 600 = .ok (.i2l, 1) := by decide +kernel
theorem d_LW_law_601 : decode code 601 = .ok (.ldc2_w 90, 3) := by decide +kernel
theorem d_LW_law_604 : decode code 604 = .ok (.land, 1) := by decide +kernel
theorem d_LW_law_605 : decode code 605 = .ok (.lor, 1) := by decide +kernel
theorem d_LW_law_606 : decode code 606 = .ok (.invokevirtual 103, 3) := by decide +kernel
theorem d_LW_law_609 : decode code 609 = .ok (.aload_n 2, 1) := by decide +kernel
theorem d_LW_law_610 : decode code 610 = .ok (.invokevirtual 72, 3) := by decide +kernel
theorem d_LW_law_613 : decode code 613 = .ok (.iload 5, 2) := by decide +kernel
theorem d_LW_law_615 : decode code 615 = .ok (.if_icmp .eq 5, 3) := by decide +kernel
theorem d_LW_law_618 : decode code 618 = .ok (.iconst 0, 1) := by decide +kernel
theorem d_LW_law_619 : decode code 619 = .ok (.ireturn, 1) := by decide +kernel
theorem d_LW_law_620 : decode code 620 = .ok (.goto 472, 3) := by decide +kernel
theorem d_LW_law_623 : decode code 623 = .ok (.aload_n 1, 1) := by decide +kernel
theorem d_LW_law_624 : decode code 624 = .ok (.aload_n 0, 1) := by decide +kernel
theorem d_LW_law_625 : decode code 625 = .ok (.iload 4, 2) := by decide +kernel
theorem d_LW_law_627 : decode code 627 = .ok (.iconst 1, 1) := by decide +kernel
theorem d_LW_law_628 : decode code 628 = .ok (.iadd, 1) := by decide +kernel
theorem d_LW_law_629 : decode code 629 = .ok (.iaload, 1) := by decide +kernel
theorem d_LW_law_630 : decode code 630 = .ok (.aload_n 0, 1) := by decide +kernel
theorem d_LW_law_631 : decode code 631 = .ok (.iload 4, 2) := by decide +kernel
theorem d_LW_law_633 : decode code 633 = .ok (.iconst 2, 1) := by decide +kernel
theorem d_LW_law_634 : decode code 634 = .ok (.iadd, 1) := by decide +kernel
theorem d_LW_law_635 : decode code 635 = .ok (.iaload, 1) := by decide +kernel
theorem d_LW_law_636 : decode code 636 = .ok (.aload_n 3, 1) := by decide +kernel
theorem d_LW_law_637 : decode code 637 = .ok (.invokestatic 104, 3) := by decide +kernel
theorem d_LW_law_640 : decode code 640 = .ok (.istore 5, 2) := by decide +kernel
theorem d_LW_law_642 : decode code 642 = .ok (.aload_n 2, 1) := by decide +kernel
theorem d_LW_law_643 : decode code 643 = .ok (.aload_n 0, 1) := by decide +kernel
theorem d_LW_law_644 : decode code 644 = .ok (.iload 4, 2) := by decide +kernel
theorem d_LW_law_646 : decode code 646 = .ok (.iconst 1, 1) := by decide +kernel
theorem d_LW_law_647 : decode code 647 = .ok (.iadd, 1) := by decide +kernel
theorem d_LW_law_648 : decode code 648 = .ok (.iaload, 1) := by decide +kernel
theorem d_LW_law_649 : decode code 649 = .ok (.aload_n 0, 1) := by decide +kernel
theorem d_LW_law_650 : decode code 650 = .ok (.iload 4, 2) := by decide +kernel
theorem d_LW_law_652 : decode code 652 = .ok (.iconst 2, 1) := by decide +kernel
theorem d_LW_law_653 : decode code 653 = .ok (.iadd, 1) := by decide +kernel
theorem d_LW_law_654 : decode code 654 = .ok (.iaload, 1) := by decide +kernel
theorem d_LW_law_655 : decode code 655 = .ok (.invokevirtual 106, 3) := by decide +kernel
theorem d_LW_law_658 : decode code 658 = .ok (.istore 6, 2) := by decide +kernel
theorem d_LW_law_660 : decode code 660 = .ok (.aload_n 2, 1) := by decide +kernel
theorem d_LW_law_661 : decode code 661 = .ok (.invokevirtual 72, 3) := by decide +kernel
theorem d_LW_law_664 : decode code 664 = .ok (.iload 5, 2) := by decide +kernel
theorem d_LW_law_666 : decode code 666 = .ok (.if_icmp .eq 5, 3) := by decide +kernel
theorem d_LW_law_669 : decode code 669 = .ok (.iconst 0, 1) := by decide +kernel
theorem d_LW_law_670 : decode code 670 = .ok (.ireturn, 1) := by decide +kernel
theorem d_LW_law_671 : decode code 671 = .ok (.iload 5, 2) := by decide +kernel
theorem d_LW_law_673 : decode code 673 = .ok (.ifCond .ne 15, 3) := by decide +kernel
theorem d_LW_law_676 : decode code 676 = .ok (.aload_n 3, 1) := by decide +kernel
theorem d_LW_law_677 : decode code 677 = .ok (.iconst 0, 1) := by decide +kernel
theorem d_LW_law_678 : decode code 678 = .ok (.laload, 1) := by decide +kernel
theorem d_LW_law_679 : decode code 679 = .ok (.iload 6, 2) := by decide +kernel
theorem d_LW_law_681 : decode code 681 = .ok (.i2l, 1) := by decide +kernel
theorem d_LW_law_682 : decode code 682 = .ok (.lcmp, 1) := by decide +kernel
theorem d_LW_law_683 : decode code 683 = .ok (.ifCond .eq 5, 3) := by decide +kernel
theorem d_LW_law_686 : decode code 686 = .ok (.iconst 0, 1) := by decide +kernel
theorem d_LW_law_687 : decode code 687 = .ok (.ireturn, 1) := by decide +kernel
theorem d_LW_law_688 : decode code 688 = .ok (.goto 404, 3) := by decide +kernel
theorem d_LW_law_691 : decode code 691 = .ok (.aload_n 1, 1) := by decide +kernel
theorem d_LW_law_692 : decode code 692 = .ok (.aload_n 0, 1) := by decide +kernel
theorem d_LW_law_693 : decode code 693 = .ok (.iload 4, 2) := by decide +kernel
theorem d_LW_law_695 : decode code 695 = .ok (.iconst 1, 1) := by decide +kernel
theorem d_LW_law_696 : decode code 696 = .ok (.iadd, 1) := by decide +kernel
theorem d_LW_law_697 : decode code 697 = .ok (.iaload, 1) := by decide +kernel
theorem d_LW_law_698 : decode code 698 = .ok (.aload_n 0, 1) := by decide +kernel
theorem d_LW_law_699 : decode code 699 = .ok (.iload 4, 2) := by decide +kernel
theorem d_LW_law_701 : decode code 701 = .ok (.iconst 2, 1) := by decide +kernel
theorem d_LW_law_702 : decode code 702 = .ok (.iadd, 1) := by decide +kernel
theorem d_LW_law_703 : decode code 703 = .ok (.iaload, 1) := by decide +kernel
theorem d_LW_law_704 : decode code 704 = .ok (.aload_n 0, 1) := by decide +kernel
theorem d_LW_law_705 : decode code 705 = .ok (.iload 4, 2) := by decide +kernel
theorem d_LW_law_707 : decode code 707 = .ok (.iconst 3, 1) := by decide +kernel
theorem d_LW_law_708 : decode code 708 = .ok (.iadd, 1) := by decide +kernel
theorem d_LW_law_709 : decode code 709 = .ok (.iaload, 1) := by decide +kernel
theorem d_LW_law_710 : decode code 710 = .ok (.aload_n 0, 1) := by decide +kernel
theorem d_LW_law_711 : decode code 711 = .ok (.iload 4, 2) := by decide +kernel
theorem d_LW_law_713 : decode code 713 = .ok (.iconst 4, 1) := by decide +kernel
theorem d_LW_law_714 : decode code 714 = .ok (.iadd, 1) := by decide +kernel
theorem d_LW_law_715 : decode code 715 = .ok (.iaload, 1) := by decide +kernel
theorem d_LW_law_716 : decode code 716 = .ok (.aload_n 3, 1) := by decide +kernel
theorem d_LW_law_717 : decode code 717 = .ok (.invokestatic 107, 3) := by decide +kernel
theorem d_LW_law_720 : decode code 720 = .ok (.istore 5, 2) := by decide +kernel
theorem d_LW_law_722 : decode code 722 = .ok (.aload_n 2, 1) := by decide +kernel
theorem d_LW_law_723 : decode code 723 = .ok (.aload_n 0, 1) := by decide +kernel
theorem d_LW_law_724 : decode code 724 = .ok (.iload 4, 2) := by decide +kernel
theorem d_LW_law_726 : decode code 726 = .ok (.iconst 1, 1) := by decide +kernel
theorem d_LW_law_727 : decode code 727 = .ok (.iadd, 1) := by decide +kernel
theorem d_LW_law_728 : decode code 728 = .ok (.iaload, 1) := by decide +kernel
theorem d_LW_law_729 : decode code 729 = .ok (.aload_n 0, 1) := by decide +kernel
theorem d_LW_law_730 : decode code 730 = .ok (.iload 4, 2) := by decide +kernel
theorem d_LW_law_732 : decode code 732 = .ok (.iconst 2, 1) := by decide +kernel
theorem d_LW_law_733 : decode code 733 = .ok (.iadd, 1) := by decide +kernel
theorem d_LW_law_734 : decode code 734 = .ok (.iaload, 1) := by decide +kernel
theorem d_LW_law_735 : decode code 735 = .ok (.aload_n 0, 1) := by decide +kernel
theorem d_LW_law_736 : decode code 736 = .ok (.iload 4, 2) := by decide +kernel
theorem d_LW_law_738 : decode code 738 = .ok (.iconst 3, 1) := by decide +kernel
theorem d_LW_law_739 : decode code 739 = .ok (.iadd, 1) := by decide +kernel
theorem d_LW_law_740 : decode code 740 = .ok (.iaload, 1) := by decide +kernel
theorem d_LW_law_741 : decode code 741 = .ok (.aload_n 0, 1) := by decide +kernel
theorem d_LW_law_742 : decode code 742 = .ok (.iload 4, 2) := by decide +kernel
theorem d_LW_law_744 : decode code 744 = .ok (.iconst 4, 1) := by decide +kernel
theorem d_LW_law_745 : decode code 745 = .ok (.iadd, 1) := by decide +kernel
theorem d_LW_law_746 : decode code 746 = .ok (.iaload, 1) := by decide +kernel
theorem d_LW_law_747 : decode code 747 = .ok (.invokevirtual 109, 3) := by decide +kernel
theorem d_LW_law_750 : decode code 750 = .ok (.istore 6, 2) := by decide +kernel
theorem d_LW_law_752 : decode code 752 = .ok (.aload_n 2, 1) := by decide +kernel
theorem d_LW_law_753 : decode code 753 = .ok (.invokevirtual 72, 3) := by decide +kernel
theorem d_LW_law_756 : decode code 756 = .ok (.iload 5, 2) := by decide +kernel
theorem d_LW_law_758 : decode code 758 = .ok (.if_icmp .eq 5, 3) := by decide +kernel
theorem d_LW_law_761 : decode code 761 = .ok (.iconst 0, 1) := by decide +kernel
theorem d_LW_law_762 : decode code 762 = .ok (.ireturn, 1) := by decide +kernel
theorem d_LW_law_763 : decode code 763 = .ok (.iload 5, 2) := by decide +kernel
theorem d_LW_law_765 : decode code 765 = .ok (.ifCond .ne 15, 3) := by decide +kernel
theorem d_LW_law_768 : decode code 768 = .ok (.aload_n 3, 1) := by decide +kernel
theorem d_LW_law_769 : decode code 769 = .ok (.iconst 0, 1) := by decide +kernel
theorem d_LW_law_770 : decode code 770 = .ok (.laload, 1) := by decide +kernel
theorem d_LW_law_771 : decode code 771 = .ok (.iload 6, 2) := by decide +kernel
theorem d_LW_law_773 : decode code 773 = .ok (.i2l, 1) := by decide +kernel
theorem d_LW_law_774 : decode code 774 = .ok (.lcmp, 1) := by decide +kernel
theorem d_LW_law_775 : decode code 775 = .ok (.ifCond .eq 5, 3) := by decide +kernel
theorem d_LW_law_778 : decode code 778 = .ok (.iconst 0, 1) := by decide +kernel
theorem d_LW_law_779 : decode code 779 = .ok (.ireturn, 1) := by decide +kernel
theorem d_LW_law_780 : decode code 780 = .ok (.goto 312, 3) := by decide +kernel
theorem d_LW_law_783 : decode code 783 = .ok (.aload_n 1, 1) := by decide +kernel
theorem d_LW_law_784 : decode code 784 = .ok (.aload_n 0, 1) := by decide +kernel
theorem d_LW_law_785 : decode code 785 = .ok (.iload 4, 2) := by decide +kernel
theorem d_LW_law_787 : decode code 787 = .ok (.iconst 1, 1) := by decide +kernel
theorem d_LW_law_788 : decode code 788 = .ok (.iadd, 1) := by decide +kernel
theorem d_LW_law_789 : decode code 789 = .ok (.iaload, 1) := by decide +kernel
theorem d_LW_law_790 : decode code 790 = .ok (.aload_n 0, 1) := by decide +kernel
theorem d_LW_law_791 : decode code 791 = .ok (.iload 4, 2) := by decide +kernel
theorem d_LW_law_793 : decode code 793 = .ok (.iconst 2, 1) := by decide +kernel
theorem d_LW_law_794 : decode code 794 = .ok (.iadd, 1) := by decide +kernel
theorem d_LW_law_795 : decode code 795 = .ok (.iaload, 1) := by decide +kernel
theorem d_LW_law_796 : decode code 796 = .ok (.aload_n 3, 1) := by decide +kernel
theorem d_LW_law_797 : decode code 797 = .ok (.invokestatic 110, 3) := by decide +kernel
theorem d_LW_law_800 : decode code 800 = .ok (.istore 5, 2) := by decide +kernel
theorem d_LW_law_802 : decode code 802 = .ok (.aload_n 2, 1) := by decide +kernel
theorem d_LW_law_803 : decode code 803 = .ok (.aload_n 0, 1) := by decide +kernel
theorem d_LW_law_804 : decode code 804 = .ok (.iload 4, 2) := by decide +kernel
theorem d_LW_law_806 : decode code 806 = .ok (.iconst 1, 1) := by decide +kernel
theorem d_LW_law_807 : decode code 807 = .ok (.iadd, 1) := by decide +kernel
theorem d_LW_law_808 : decode code 808 = .ok (.iaload, 1) := by decide +kernel
theorem d_LW_law_809 : decode code 809 = .ok (.aload_n 0, 1) := by decide +kernel
theorem d_LW_law_810 : decode code 810 = .ok (.iload 4, 2) := by decide +kernel
theorem d_LW_law_812 : decode code 812 = .ok (.iconst 2, 1) := by decide +kernel
theorem d_LW_law_813 : decode code 813 = .ok (.iadd, 1) := by decide +kernel
theorem d_LW_law_814 : decode code 814 = .ok (.iaload, 1) := by decide +kernel
theorem d_LW_law_815 : decode code 815 = .ok (.invokevirtual 112, 3) := by decide +kernel
theorem d_LW_law_818 : decode code 818 = .ok (.istore 6, 2) := by decide +kernel
theorem d_LW_law_820 : decode code 820 = .ok (.aload_n 2, 1) := by decide +kernel
theorem d_LW_law_821 : decode code 821 = .ok (.invokevirtual 72, 3) := by decide +kernel
theorem d_LW_law_824 : decode code 824 = .ok (.iload 5, 2) := by decide +kernel
theorem d_LW_law_826 : decode code 826 = .ok (.if_icmp .eq 5, 3) := by decide +kernel
theorem d_LW_law_829 : decode code 829 = .ok (.iconst 0, 1) := by decide +kernel
theorem d_LW_law_830 : decode code 830 = .ok (.ireturn, 1) := by decide +kernel
theorem d_LW_law_831 : decode code 831 = .ok (.iload 5, 2) := by decide +kernel
theorem d_LW_law_833 : decode code 833 = .ok (.ifCond .ne 15, 3) := by decide +kernel
theorem d_LW_law_836 : decode code 836 = .ok (.aload_n 3, 1) := by decide +kernel
theorem d_LW_law_837 : decode code 837 = .ok (.iconst 0, 1) := by decide +kernel
theorem d_LW_law_838 : decode code 838 = .ok (.laload, 1) := by decide +kernel
theorem d_LW_law_839 : decode code 839 = .ok (.iload 6, 2) := by decide +kernel
theorem d_LW_law_841 : decode code 841 = .ok (.i2l, 1) := by decide +kernel
theorem d_LW_law_842 : decode code 842 = .ok (.lcmp, 1) := by decide +kernel
theorem d_LW_law_843 : decode code 843 = .ok (.ifCond .eq 5, 3) := by decide +kernel
theorem d_LW_law_846 : decode code 846 = .ok (.iconst 0, 1) := by decide +kernel
theorem d_LW_law_847 : decode code 847 = .ok (.ireturn, 1) := by decide +kernel
theorem d_LW_law_848 : decode code 848 = .ok (.goto 244, 3) := by decide +kernel
theorem d_LW_law_851 : decode code 851 = .ok (.aload_n 1, 1) := by decide +kernel
theorem d_LW_law_852 : decode code 852 = .ok (.aload_n 0, 1) := by decide +kernel
theorem d_LW_law_853 : decode code 853 = .ok (.iload 4, 2) := by decide +kernel
theorem d_LW_law_855 : decode code 855 = .ok (.iconst 1, 1) := by decide +kernel
theorem d_LW_law_856 : decode code 856 = .ok (.iadd, 1) := by decide +kernel
theorem d_LW_law_857 : decode code 857 = .ok (.iaload, 1) := by decide +kernel
theorem d_LW_law_858 : decode code 858 = .ok (.aload_n 0, 1) := by decide +kernel
theorem d_LW_law_859 : decode code 859 = .ok (.iload 4, 2) := by decide +kernel
theorem d_LW_law_861 : decode code 861 = .ok (.iconst 2, 1) := by decide +kernel
theorem d_LW_law_862 : decode code 862 = .ok (.iadd, 1) := by decide +kernel
theorem d_LW_law_863 : decode code 863 = .ok (.iaload, 1) := by decide +kernel
theorem d_LW_law_864 : decode code 864 = .ok (.aload_n 0, 1) := by decide +kernel
theorem d_LW_law_865 : decode code 865 = .ok (.iload 4, 2) := by decide +kernel
theorem d_LW_law_867 : decode code 867 = .ok (.iconst 3, 1) := by decide +kernel
theorem d_LW_law_868 : decode code 868 = .ok (.iadd, 1) := by decide +kernel
theorem d_LW_law_869 : decode code 869 = .ok (.iaload, 1) := by decide +kernel
theorem d_LW_law_870 : decode code 870 = .ok (.aload_n 3, 1) := by decide +kernel
theorem d_LW_law_871 : decode code 871 = .ok (.invokestatic 113, 3) := by decide +kernel
theorem d_LW_law_874 : decode code 874 = .ok (.istore 5, 2) := by decide +kernel
theorem d_LW_law_876 : decode code 876 = .ok (.aload_n 2, 1) := by decide +kernel
theorem d_LW_law_877 : decode code 877 = .ok (.aload_n 0, 1) := by decide +kernel
theorem d_LW_law_878 : decode code 878 = .ok (.iload 4, 2) := by decide +kernel
theorem d_LW_law_880 : decode code 880 = .ok (.iconst 1, 1) := by decide +kernel
theorem d_LW_law_881 : decode code 881 = .ok (.iadd, 1) := by decide +kernel
theorem d_LW_law_882 : decode code 882 = .ok (.iaload, 1) := by decide +kernel
theorem d_LW_law_883 : decode code 883 = .ok (.aload_n 0, 1) := by decide +kernel
theorem d_LW_law_884 : decode code 884 = .ok (.iload 4, 2) := by decide +kernel
theorem d_LW_law_886 : decode code 886 = .ok (.iconst 2, 1) := by decide +kernel
theorem d_LW_law_887 : decode code 887 = .ok (.iadd, 1) := by decide +kernel
theorem d_LW_law_888 : decode code 888 = .ok (.iaload, 1) := by decide +kernel
theorem d_LW_law_889 : decode code 889 = .ok (.aload_n 0, 1) := by decide +kernel
theorem d_LW_law_890 : decode code 890 = .ok (.iload 4, 2) := by decide +kernel
theorem d_LW_law_892 : decode code 892 = .ok (.iconst 3, 1) := by decide +kernel
theorem d_LW_law_893 : decode code 893 = .ok (.iadd, 1) := by decide +kernel
theorem d_LW_law_894 : decode code 894 = .ok (.iaload, 1) := by decide +kernel
theorem d_LW_law_895 : decode code 895 = .ok (.invokevirtual 116, 3) := by decide +kernel
theorem d_LW_law_898 : decode code 898 = .ok (.istore 6, 2) := by decide +kernel
theorem d_LW_law_900 : decode code 900 = .ok (.aload_n 2, 1) := by decide +kernel
theorem d_LW_law_901 : decode code 901 = .ok (.invokevirtual 72, 3) := by decide +kernel
theorem d_LW_law_904 : decode code 904 = .ok (.iload 5, 2) := by decide +kernel
theorem d_LW_law_906 : decode code 906 = .ok (.if_icmp .eq 5, 3) := by decide +kernel
theorem d_LW_law_909 : decode code 909 = .ok (.iconst 0, 1) := by decide +kernel
theorem d_LW_law_910 : decode code 910 = .ok (.ireturn, 1) := by decide +kernel
theorem d_LW_law_911 : decode code 911 = .ok (.iload 5, 2) := by decide +kernel
theorem d_LW_law_913 : decode code 913 = .ok (.ifCond .ne 15, 3) := by decide +kernel
theorem d_LW_law_916 : decode code 916 = .ok (.aload_n 3, 1) := by decide +kernel
theorem d_LW_law_917 : decode code 917 = .ok (.iconst 0, 1) := by decide +kernel
theorem d_LW_law_918 : decode code 918 = .ok (.laload, 1) := by decide +kernel
theorem d_LW_law_919 : decode code 919 = .ok (.iload 6, 2) := by decide +kernel
theorem d_LW_law_921 : decode code 921 = .ok (.i2l, 1) := by decide +kernel
theorem d_LW_law_922 : decode code 922 = .ok (.lcmp, 1) := by decide +kernel
theorem d_LW_law_923 : decode code 923 = .ok (.ifCond .eq 5, 3) := by decide +kernel
theorem d_LW_law_926 : decode code 926 = .ok (.iconst 0, 1) := by decide +kernel
theorem d_LW_law_927 : decode code 927 = .ok (.ireturn, 1) := by decide +kernel
theorem d_LW_law_928 : decode code 928 = .ok (.goto 164, 3) := by decide +kernel
theorem d_LW_law_931 : decode code 931 = .ok (.aload_n 1, 1) := by decide +kernel
theorem d_LW_law_932 : decode code 932 = .ok (.aload_n 0, 1) := by decide +kernel
theorem d_LW_law_933 : decode code 933 = .ok (.iload 4, 2) := by decide +kernel
theorem d_LW_law_935 : decode code 935 = .ok (.iconst 1, 1) := by decide +kernel
theorem d_LW_law_936 : decode code 936 = .ok (.iadd, 1) := by decide +kernel
theorem d_LW_law_937 : decode code 937 = .ok (.iaload, 1) := by decide +kernel
theorem d_LW_law_938 : decode code 938 = .ok (.aload_n 0, 1) := by decide +kernel
theorem d_LW_law_939 : decode code 939 = .ok (.iload 4, 2) := by decide +kernel
theorem d_LW_law_941 : decode code 941 = .ok (.iconst 2, 1) := by decide +kernel
theorem d_LW_law_942 : decode code 942 = .ok (.iadd, 1) := by decide +kernel
theorem d_LW_law_943 : decode code 943 = .ok (.iaload, 1) := by decide +kernel
theorem d_LW_law_944 : decode code 944 = .ok (.aload_n 3, 1) := by decide +kernel
theorem d_LW_law_945 : decode code 945 = .ok (.invokestatic 117, 3) := by decide +kernel
theorem d_LW_law_948 : decode code 948 = .ok (.istore 5, 2) := by decide +kernel
theorem d_LW_law_950 : decode code 950 = .ok (.aload_n 2, 1) := by decide +kernel
theorem d_LW_law_951 : decode code 951 = .ok (.aload_n 0, 1) := by decide +kernel
theorem d_LW_law_952 : decode code 952 = .ok (.iload 4, 2) := by decide +kernel
theorem d_LW_law_954 : decode code 954 = .ok (.iconst 1, 1) := by decide +kernel
theorem d_LW_law_955 : decode code 955 = .ok (.iadd, 1) := by decide +kernel
theorem d_LW_law_956 : decode code 956 = .ok (.iaload, 1) := by decide +kernel
theorem d_LW_law_957 : decode code 957 = .ok (.aload_n 0, 1) := by decide +kernel
theorem d_LW_law_958 : decode code 958 = .ok (.iload 4, 2) := by decide +kernel
theorem d_LW_law_960 : decode code 960 = .ok (.iconst 2, 1) := by decide +kernel
theorem d_LW_law_961 : decode code 961 = .ok (.iadd, 1) := by decide +kernel
theorem d_LW_law_962 : decode code 962 = .ok (.iaload, 1) := by decide +kernel
theorem d_LW_law_963 : decode code 963 = .ok (.invokevirtual 119, 3) := by decide +kernel
theorem d_LW_law_966 : decode code 966 = .ok (.istore 6, 2) := by decide +kernel
theorem d_LW_law_968 : decode code 968 = .ok (.aload_n 2, 1) := by decide +kernel
theorem d_LW_law_969 : decode code 969 = .ok (.invokevirtual 72, 3) := by decide +kernel
theorem d_LW_law_972 : decode code 972 = .ok (.iload 5, 2) := by decide +kernel
theorem d_LW_law_974 : decode code 974 = .ok (.if_icmp .eq 5, 3) := by decide +kernel
theorem d_LW_law_977 : decode code 977 = .ok (.iconst 0, 1) := by decide +kernel
theorem d_LW_law_978 : decode code 978 = .ok (.ireturn, 1) := by decide +kernel
theorem d_LW_law_979 : decode code 979 = .ok (.iload 5, 2) := by decide +kernel
theorem d_LW_law_981 : decode code 981 = .ok (.ifCond .ne 15, 3) := by decide +kernel
theorem d_LW_law_984 : decode code 984 = .ok (.aload_n 3, 1) := by decide +kernel
theorem d_LW_law_985 : decode code 985 = .ok (.iconst 0, 1) := by decide +kernel
theorem d_LW_law_986 : decode code 986 = .ok (.laload, 1) := by decide +kernel
theorem d_LW_law_987 : decode code 987 = .ok (.iload 6, 2) := by decide +kernel
theorem d_LW_law_989 : decode code 989 = .ok (.i2l, 1) := by decide +kernel
theorem d_LW_law_990 : decode code 990 = .ok (.lcmp, 1) := by decide +kernel
theorem d_LW_law_991 : decode code 991 = .ok (.ifCond .eq 5, 3) := by decide +kernel
theorem d_LW_law_994 : decode code 994 = .ok (.iconst 0, 1) := by decide +kernel
theorem d_LW_law_995 : decode code 995 = .ok (.ireturn, 1) := by decide +kernel
theorem d_LW_law_996 : decode code 996 = .ok (.goto 96, 3) := by decide +kernel
theorem d_LW_law_999 : decode code 999 = .ok (.aload_n 1, 1) := by decide +kernel
theorem d_LW_law_1000 : decode code 1000 = .ok (.aload_n 0, 1) := by decide +kernel
theorem d_LW_law_1001 : decode code 1001 = .ok (.iload 4, 2) := by decide +kernel
theorem d_LW_law_1003 : decode code 1003 = .ok (.iconst 1, 1) := by decide +kernel
theorem d_LW_law_1004 : decode code 1004 = .ok (.iadd, 1) := by decide +kernel
theorem d_LW_law_1005 : decode code 1005 = .ok (.iaload, 1) := by decide +kernel
theorem d_LW_law_1006 : decode code 1006 = .ok (.aload_n 0, 1) := by decide +kernel
theorem d_LW_law_1007 : decode code 1007 = .ok (.iload 4, 2) := by decide +kernel
theorem d_LW_law_1009 : decode code 1009 = .ok (.iconst 2, 1) := by decide +kernel
theorem d_LW_law_1010 : decode code 1010 = .ok (.iadd, 1) := by decide +kernel
theorem d_LW_law_1011 : decode code 1011 = .ok (.iaload, 1) := by decide +kernel
theorem d_LW_law_1012 : decode code 1012 = .ok (.aload_n 0, 1) := by decide +kernel
theorem d_LW_law_1013 : decode code 1013 = .ok (.iload 4, 2) := by decide +kernel
theorem d_LW_law_1015 : decode code 1015 = .ok (.iconst 3, 1) := by decide +kernel
theorem d_LW_law_1016 : decode code 1016 = .ok (.iadd, 1) := by decide +kernel
theorem d_LW_law_1017 : decode code 1017 = .ok (.iaload, 1) := by decide +kernel
theorem d_LW_law_1018 : decode code 1018 = .ok (.aload_n 3, 1) := by decide +kernel
theorem d_LW_law_1019 : decode code 1019 = .ok (.invokestatic 120, 3) := by decide +kernel
theorem d_LW_law_1022 : decode code 1022 = .ok (.istore 5, 2) := by decide +kernel
theorem d_LW_law_1024 : decode code 1024 = .ok (.aload_n 2, 1) := by decide +kernel
theorem d_LW_law_1025 : decode code 1025 = .ok (.aload_n 0, 1) := by decide +kernel
theorem d_LW_law_1026 : decode code 1026 = .ok (.iload 4, 2) := by decide +kernel
theorem d_LW_law_1028 : decode code 1028 = .ok (.iconst 1, 1) := by decide +kernel
theorem d_LW_law_1029 : decode code 1029 = .ok (.iadd, 1) := by decide +kernel
theorem d_LW_law_1030 : decode code 1030 = .ok (.iaload, 1) := by decide +kernel
theorem d_LW_law_1031 : decode code 1031 = .ok (.aload_n 0, 1) := by decide +kernel
theorem d_LW_law_1032 : decode code 1032 = .ok (.iload 4, 2) := by decide +kernel
theorem d_LW_law_1034 : decode code 1034 = .ok (.iconst 2, 1) := by decide +kernel
theorem d_LW_law_1035 : decode code 1035 = .ok (.iadd, 1) := by decide +kernel
theorem d_LW_law_1036 : decode code 1036 = .ok (.iaload, 1) := by decide +kernel
theorem d_LW_law_1037 : decode code 1037 = .ok (.aload_n 0, 1) := by decide +kernel
theorem d_LW_law_1038 : decode code 1038 = .ok (.iload 4, 2) := by decide +kernel
theorem d_LW_law_1040 : decode code 1040 = .ok (.iconst 3, 1) := by decide +kernel
theorem d_LW_law_1041 : decode code 1041 = .ok (.iadd, 1) := by decide +kernel
theorem d_LW_law_1042 : decode code 1042 = .ok (.iaload, 1) := by decide +kernel
theorem d_LW_law_1043 : decode code 1043 = .ok (.invokevirtual 122, 3) := by decide +kernel
theorem d_LW_law_1046 : decode code 1046 = .ok (.istore 6, 2) := by decide +kernel
theorem d_LW_law_1048 : decode code 1048 = .ok (.aload_n 2, 1) := by decide +kernel
theorem d_LW_law_1049 : decode code 1049 = .ok (.invokevirtual 72, 3) := by decide +kernel
theorem d_LW_law_1052 : decode code 1052 = .ok (.iload 5, 2) := by decide +kernel
theorem d_LW_law_1054 : decode code 1054 = .ok (.if_icmp .eq 5, 3) := by decide +kernel
theorem d_LW_law_1057 : decode code 1057 = .ok (.iconst 0, 1) := by decide +kernel
theorem d_LW_law_1058 : decode code 1058 = .ok (.ireturn, 1) := by decide +kernel
theorem d_LW_law_1059 : decode code 1059 = .ok (.iload 5, 2) := by decide +kernel
theorem d_LW_law_1061 : decode code 1061 = .ok (.ifCond .ne 15, 3) := by decide +kernel
theorem d_LW_law_1064 : decode code 1064 = .ok (.aload_n 3, 1) := by decide +kernel
theorem d_LW_law_1065 : decode code 1065 = .ok (.iconst 0, 1) := by decide +kernel
theorem d_LW_law_1066 : decode code 1066 = .ok (.laload, 1) := by decide +kernel
theorem d_LW_law_1067 : decode code 1067 = .ok (.iload 6, 2) := by decide +kernel
theorem d_LW_law_1069 : decode code 1069 = .ok (.i2l, 1) := by decide +kernel
theorem d_LW_law_1070 : decode code 1070 = .ok (.lcmp, 1) := by decide +kernel
theorem d_LW_law_1071 : decode code 1071 = .ok (.ifCond .eq 5, 3) := by decide +kernel
theorem d_LW_law_1074 : decode code 1074 = .ok (.iconst 0, 1) := by decide +kernel
theorem d_LW_law_1075 : decode code 1075 = .ok (.ireturn, 1) := by decide +kernel
theorem d_LW_law_1076 : decode code 1076 = .ok (.goto 16, 3) := by decide +kernel
theorem d_LW_law_1079 : decode code 1079 = .ok (.aload_n 1, 1) := by decide +kernel
theorem d_LW_law_1080 : decode code 1080 = .ok (.invokevirtual 123, 3) := by decide +kernel
theorem d_LW_law_1083 : decode code 1083 = .ok (.aload_n 2, 1) := by decide +kernel
theorem d_LW_law_1084 : decode code 1084 = .ok (.invokevirtual 126, 3) := by decide +kernel
theorem d_LW_law_1087 : decode code 1087 = .ok (.if_icmp .eq 5, 3) := by decide +kernel
theorem d_LW_law_1090 : decode code 1090 = .ok (.iconst 0, 1) := by decide +kernel
theorem d_LW_law_1091 : decode code 1091 = .ok (.ireturn, 1) := by decide +kernel
theorem d_LW_law_1092 : decode code 1092 = .ok (.iinc 4 5, 3) := by decide +kernel
theorem d_LW_law_1095 : decode code 1095 = .ok (.goto (-1072), 3) := by decide +kernel
theorem d_LW_law_1098 : decode code 1098 = .ok (.iconst 1, 1) := by decide +kernel
theorem d_LW_law_1099 : decode code 1099 = .ok (.ireturn, 1) := by decide +kernel
/-- both sides hold one state; the law's cells -/
def LWJ (dA : Nat → ClassId) (w : mw_W) (x y o t : Nat) : Prop := ∃ (own : as_W) (S : as_S) (cd : Int32) (fo : Nat → Int64), RepC dA w own x S ∧ RepM dA w own y cd S ∧ wf_S t S ∧ own o = (40, 0, 0) ∧ w o = some (.inl (dA tJ, 1, .inr (.inl fo)))
theorem kO_ne (k : Nat) : nI (kO k) ≠ nI 0 := by unfold kO; split <;> decide
theorem kM_ne (k : Nat) : nI (kM k) ≠ nI 0 := by unfold kM; split <;> decide
abbrev LWR : Room := { frames := 12, cells := 601024, slots := 7293033, locals := 444 }
section LawArms
variable {l : Launch} {D : va_G} {dA : Nat → ClassId} {p : Program} {e : Env} {s : State} {m : MethodId} {args : Array Value} {below : List Frame} {meth : Method} {c : Code} {Q : State → Prop} {w0 w : mw_W} {H : Heap} {locs : List Loc} {sc x y o n t i cells slots : Nat} {f : Nat → Int32} {ls : Array Slot}
def LWX (l : Launch) (D : va_G) (dA : Nat → ClassId) (p : Program) (e : Env) (s : State) (m : MethodId) (args : Array Value) (below : List Frame) (meth : Method) (c : Code) (Q : State → Prop) (w0 : mw_W) (sc x y o t i cells slots : Nat) : Prop := ∀ (w' : mw_W) (H' : Heap) (locs' : List Loc), mw_I D mk_cl w0 s.heap w' H' locs' → LWJ dA w' x y o t → ∀ ls' : Array Slot, lv_has ls' 8 [(0, .ref sc), (1, .ref x), (2, .ref y), (3, .ref o), (4, .int (nI i))] → W p l e LWR s m args below meth c H' locs' cells slots Q (F0 m 1092 ls' [])
set_option maxRecDepth 100000 in
set_option maxHeartbeats 4000000 in
theorem lw_make (hL : mw_L l) (K : mw_K p s m args c code 8 "MapStoreLaw" D mk_cl (mk_tys dA) Ts mk_ty) (hSy : mw_Sy mk_strs s s.heap) (hP0 : mw_P D mk_cl w0 s.heap) (hI : mw_I D mk_cl w0 s.heap w H locs) (hJ : LWJ dA w x y o t) (hsX : va_X sc n f s s.heap) (hsl : sc < s.heap.size) (hsA : ¬ mw_A w0 s.heap.size sc) (ht : t < 512) (hi : i + 5 ≤ n) (hn : n < 2 ^ 31) (hc : cells + 6 ≤ 601024) (hs : slots + 4120 ≤ 7293033) (hl : lv_has ls 8 [(0, .ref sc), (1, .ref x), (2, .ref y), (3, .ref o), (4, .int (nI i))]) (next : LWX l D dA p e s m args below meth c Q w0 sc x y o (t + 1) i (cells + 6) (slots + 4120)) : W p l e LWR s m args below meth c H locs cells slots Q (F0 m 112 ls []) := by
  obtain ⟨own, S, cd, fo, hR, hM, hW, ho, f1⟩ := hJ
  obtain ⟨hx, hb, hml, hown, hts, hK, hTb⟩ := id K
  have hc1 : cells + 4 ≤ 601024 := by omega
  have hs1 : slots + 4120 ≤ 7293033 := by omega
  refine lv_aload_n hx hb d_LW_law_112 rfl (lv_at hl 1 rfl) ?_
  refine lv_aload_n hx hb d_LW_law_113 rfl (lv_at hl 0 rfl) ?_
  refine lv_iload hx hb d_LW_law_114 (lv_at hl 4 rfl) ?_
  refine lv_iconst (v := nI 1) hx hb d_LW_law_116 (by decide) ?_
  refine lv_iadd hx hb d_LW_law_117 ?_
  refine mw_ti (nI_add _ _) ?_
  refine mw_sld K hI hsX hsl hsA (i + 1) (by omega) (by omega) d_LW_law_118 ?_
  refine lv_aload_n hx hb d_LW_law_119 rfl (lv_at hl 0 rfl) ?_
  refine lv_iload hx hb d_LW_law_120 (lv_at hl 4 rfl) ?_
  refine lv_iconst (v := nI 2) hx hb d_LW_law_122 (by decide) ?_
  refine lv_iadd hx hb d_LW_law_123 ?_
  refine mw_ti (nI_add _ _) ?_
  refine mw_sld K hI hsX hsl hsA (i + 2) (by omega) (by omega) d_LW_law_124 ?_
  refine lv_aload_n hx hb d_LW_law_125 rfl (lv_at hl 0 rfl) ?_
  refine lv_iload hx hb d_LW_law_126 (lv_at hl 4 rfl) ?_
  refine lv_iconst (v := nI 3) hx hb d_LW_law_128 (by decide) ?_
  refine lv_iadd hx hb d_LW_law_129 ?_
  refine mw_ti (nI_add _ _) ?_
  refine mw_sld K hI hsX hsl hsA (i + 3) (by omega) (by omega) d_LW_law_130 ?_
  refine lv_aload_n hx hb d_LW_law_131 rfl (lv_at hl 0 rfl) ?_
  refine lv_iload hx hb d_LW_law_132 (lv_at hl 4 rfl) ?_
  refine lv_iconst (v := nI 4) hx hb d_LW_law_134 (by decide) ?_
  refine lv_iadd hx hb d_LW_law_135 ?_
  refine mw_ti (nI_add _ _) ?_
  refine mw_sld K hI hsX hsl hsA (i + 4) (by omega) (by omega) d_LW_law_136 ?_
  refine lv_aload_n hx hb d_LW_law_137 rfl (lv_at hl 3 rfl) ?_
  refine mw_call (rest := []) K hSy hP0 hI (c_LW_make l D dA hL hR hW (by omega) ho f1 (f (i + 1)) (f (i + 2)) (f (i + 3)) (f (i + 4))) (mx_invSH hx hown (hts _ tw_170) (hts _ tw_171) (hts _ tw_20) (hts _ tw_172) (by decide) (g := F0 m 138 ls [.ref o, .int (f (i + 4)), .int (f (i + 3)), .int (f (i + 2)), .int (f (i + 1)), .ref x]) rfl (argsL := [.ref x, .int (f (i + 1)), .int (f (i + 2)), .int (f (i + 3)), .int (f (i + 4)), .ref o]) (rest := []) np_LW_make rfl (by rw [hb]; exact d_LW_law_138)) hl.1 d_LW_law_138 ⟨Nat.le_of_ble_eq_true rfl, Nat.le_of_ble_eq_true rfl⟩ (Or.inr ⟨_, _, _, List.mem_cons_self⟩) (mk_wsH tw_172 hts) (fun a9 U9 h9 => Ts_warm hts _ tw_20 a9 U9 h9) ⟨hc1, hs1⟩ (fun v w' H locs hq hI => ?_) (fun k x w' H locs hq hI hX => ?_)
  · obtain ⟨own1, fo1, kc, hq1, hR1, f3, hF1, hok, hbad⟩ := hq
    cases hq1
    refine W.eq (g2 := F0 m 141 ls [.int kc]) rfl ?_
    have hM1 := hM.keepL hF1 ho
    have ho1 := (hF1 _ _ f1).1.trans ho
    obtain ⟨A, fe, fk, ec, kc9, fi, fl, hw, hR9⟩ := id hM1
    have hc2 : cells + 4 + 0 ≤ 601024 := by omega
    have hs2 : slots + 4120 + 0 ≤ 7293033 := by omega
    refine lv_istore (lv' := [(5, .int kc), (0, .ref sc), (1, .ref x), (2, .ref y), (3, .ref o), (4, .int (nI i))]) hx hb d_LW_law_141 hl (by decide) rfl (fun ls hl => ?_)
    refine lv_aload_n hx hb d_LW_law_143 rfl (lv_at hl 3 rfl) ?_
    refine lv_aload_n hx hb d_LW_law_144 rfl (lv_at hl 1 rfl) ?_
    refine lv_iload hx hb d_LW_law_145 (lv_at hl 5 rfl) ?_
    refine lv_iconst (v := nI 1) hx hb d_LW_law_147 (by decide) ?_
    refine lv_iadd hx hb d_LW_law_148 ?_
    refine mw_ti (nI_add _ _) ?_
    refine mw_sld K hI hsX hsl hsA (i + 1) (by omega) (by omega) d_LW_law_149 ?_
    refine lv_aload_n hx hb d_LW_law_150 rfl (lv_at hl 1 rfl) ?_
    refine lv_iload hx hb d_LW_law_151 (lv_at hl 5 rfl) ?_
    refine lv_iconst (v := nI 2) hx hb d_LW_law_153 (by decide) ?_
    refine lv_iadd hx hb d_LW_law_154 ?_
    refine mw_ti (nI_add _ _) ?_
    refine mw_sld K hI hsX hsl hsA (i + 2) (by omega) (by omega) d_LW_law_155 ?_
    refine lv_aload_n hx hb d_LW_law_156 rfl (lv_at hl 1 rfl) ?_
    refine lv_iload hx hb d_LW_law_157 (lv_at hl 5 rfl) ?_
    refine lv_iconst (v := nI 3) hx hb d_LW_law_159 (by decide) ?_
    refine lv_iadd hx hb d_LW_law_160 ?_
    refine mw_ti (nI_add _ _) ?_
    refine mw_sld K hI hsX hsl hsA (i + 3) (by omega) (by omega) d_LW_law_161 ?_
    refine lv_aload_n hx hb d_LW_law_162 rfl (lv_at hl 1 rfl) ?_
    refine lv_iload hx hb d_LW_law_163 (lv_at hl 5 rfl) ?_
    refine lv_iconst (v := nI 4) hx hb d_LW_law_165 (by decide) ?_
    refine lv_iadd hx hb d_LW_law_166 ?_
    refine mw_ti (nI_add _ _) ?_
    refine mw_sld K hI hsX hsl hsA (i + 4) (by omega) (by omega) d_LW_law_167 ?_
    refine mw_call (rest := []) K hSy hP0 hI (c_MO_make l D dA hM1 hW (f (i + 1)) (f (i + 2)) (f (i + 3)) (f (i + 4))) (mx_invV hx hown (hts _ tw_670) (hts _ tw_671) (hts _ tw_672) (hts _ tw_673) (by decide) (b := y) (mw_rc K hI hw.o rfl) (g := F0 m 168 ls [.int (f (i + 4)), .int (f (i + 3)), .int (f (i + 2)), .int (f (i + 1)), .ref y]) rfl (argsL := [.int (f (i + 1)), .int (f (i + 2)), .int (f (i + 3)), .int (f (i + 4))]) (rest := []) np_MO_make rfl (by rw [hb]; exact d_LW_law_168)) hl.1 d_LW_law_168 ⟨Nat.le_of_ble_eq_true rfl, Nat.le_of_ble_eq_true rfl⟩ (Or.inl ⟨_, _, List.mem_cons_self⟩) (mk_ws tw_673 hts) (fun a9 U9 h9 => Ts_warm hts _ tw_23 a9 U9 h9) ⟨hc2, hs2⟩ (fun v w' H locs hq hI => ?_) (fun k x w' H locs hq hI hX => ?_)
    · obtain ⟨v2, cd2, hq1, hM2, hF2, hok2, hbad2⟩ := hq
      cases hq1
      refine W.eq (g2 := F0 m 171 ls [.int v2]) rfl ?_
      obtain ⟨A2, fe2, fk2, ec2, kc2, fi2, fl2, hw2, hR92⟩ := id hM2
      have f5 := hF2.att f3 (by rw [ho1]; decide)
      have hR2 := hR1.keep hF2
      have hW2 : wf_S (t + 1) (sp_MAKE S (f (i + 1)) (f (i + 2)) (f (i + 3)) (f (i + 4))).1 := (wf_MAKE hW (f (i + 1)) (f (i + 2)) (f (i + 3)) (f (i + 4))).mono (Nat.le_succ t)
      have hag : cd2 = kc ∧ (kc = nI 0 → fo1 0 = v2.toInt64) := by
        cases hres : (sp_MAKE S (f (i + 1)) (f (i + 2)) (f (i + 3)) (f (i + 4))).2 with
        | inl u =>
          obtain ⟨a1, a2⟩ := hok u.toInt64 (congrArg sL hres)
          obtain ⟨b1, b2⟩ := hok2 u hres
          exact ⟨by rw [b2, a1], fun _ => by rw [a2, b1]⟩
        | inr k =>
          have a1 := hbad k (congrArg sL hres)
          have b1 := hbad2 k hres
          exact ⟨by rw [a1, b1], fun z => absurd (a1.symm.trans z) (kM_ne k)⟩
      have hc3 : cells + 4 + 0 + 0 ≤ 601024 := by omega
      have hs3 : slots + 4120 + 0 + 0 ≤ 7293033 := by omega
      refine lv_istore (lv' := [(6, .int v2), (5, .int kc), (0, .ref sc), (1, .ref x), (2, .ref y), (3, .ref o), (4, .int (nI i))]) hx hb d_LW_law_171 hl (by decide) rfl (fun ls hl => ?_)
      refine lv_aload_n hx hb d_LW_law_173 rfl (lv_at hl 4 rfl) ?_
      refine mw_call (rest := []) K hSy hP0 hI (c_MO_thrown l D dA hw2) (mx_invV hx hown (hts _ tw_666) (hts _ tw_667) (hts _ tw_668) (hts _ tw_669) (by decide) (b := y) (mw_rc K hI hw2.o rfl) (g := F0 m 174 ls [.ref y]) rfl (argsL := []) (rest := []) np_MO_thrown rfl (by rw [hb]; exact d_LW_law_174)) hl.1 d_LW_law_174 ⟨Nat.le_of_ble_eq_true rfl, Nat.le_of_ble_eq_true rfl⟩ (Or.inl ⟨_, _, List.mem_cons_self⟩) (mk_ws tw_669 hts) (fun a9 U9 h9 => Ts_warm hts _ tw_23 a9 U9 h9) ⟨hc3, hs3⟩ (fun v w' H locs hq hI => ?_) (fun k x w' H locs hq hI hX => ?_)
      · obtain ⟨hq1, hq2⟩ := hq
        cases hq1
        rw [hq2] at hI
        refine W.eq (g2 := F0 m 177 ls [.int cd2]) rfl ?_
        refine lv_iload hx hb d_LW_law_177 (lv_at hl 1 rfl) ?_
        refine lv_icmp_eq (tgt := 184) hx hb d_LW_law_179 (by decide) (fun c179 => ?_) (fun c179 => ?_)
        ·
          refine lv_iload hx hb d_LW_law_184 (lv_at hl 1 rfl) ?_
          refine lv_if_ne (tgt := 201) hx hb d_LW_law_186 (by decide) (fun c186 => ?_) (fun c186 => ?_)
          ·
            refine lv_goto (tgt := 1092) hx hb d_LW_law_201 (by decide) ?_
            refine W.widen (k := cells + 6) (n := slots + 4120) (by omega) (by omega) ?_
            exact next _ H locs hI ⟨own1, _, cd2, fo1, hR2, hM2, hW2, ho1, f5⟩ ls (lv_sub hl [2, 3, 4, 5, 6] rfl)
          ·
            refine lv_aload_n hx hb d_LW_law_189 rfl (lv_at hl 5 rfl) ?_
            refine lv_iconst (v := nI 0) hx hb d_LW_law_190 (by decide) ?_
            refine mw_lald K hI tJ f5 rfl 0 rfl (by first | assumption | omega) (by omega) d_LW_law_191 ?_
            refine lv_iload hx hb d_LW_law_192 (lv_at hl 0 rfl) ?_
            refine lv_i2l hx hb d_LW_law_194 rfl ?_
            refine W.lcmp hx hb d_LW_law_195 ?_
            refine lv_if_eq (tgt := 201) hx hb d_LW_law_196 (by decide) (fun c196 => ?_) (fun c196 => ?_)
            ·
              refine lv_goto (tgt := 1092) hx hb d_LW_law_201 (by decide) ?_
              refine W.widen (k := cells + 6) (n := slots + 4120) (by omega) (by omega) ?_
              exact next _ H locs hI ⟨own1, _, cd2, fo1, hR2, hM2, hW2, ho1, f5⟩ ls (lv_sub hl [2, 3, 4, 5, 6] rfl)
            ·
              exact absurd ((lg_cmp_eq _ _).mpr (hag.2 (by first | exact c186 | exact Classical.byContradiction c186))) c196
        ·
          exact absurd hag.1 c179
      · exact absurd hq.1 (by simp)
    · obtain ⟨v2, cd2, hq1, hrest⟩ := hq
      cases hq1
  · obtain ⟨own1, fo1, kc, hq1, hrest⟩ := hq
    cases hq1
set_option maxRecDepth 100000 in
set_option maxHeartbeats 4000000 in
theorem lw_begins (hL : mw_L l) (K : mw_K p s m args c code 8 "MapStoreLaw" D mk_cl (mk_tys dA) Ts mk_ty) (hSy : mw_Sy mk_strs s s.heap) (hP0 : mw_P D mk_cl w0 s.heap) (hI : mw_I D mk_cl w0 s.heap w H locs) (hJ : LWJ dA w x y o t) (hsX : va_X sc n f s s.heap) (hsl : sc < s.heap.size) (hsA : ¬ mw_A w0 s.heap.size sc) (ht : t < 512) (hi : i + 5 ≤ n) (hn : n < 2 ^ 31) (hc : cells + 6 ≤ 601024) (hs : slots + 4120 ≤ 7293033) (hl : lv_has ls 8 [(0, .ref sc), (1, .ref x), (2, .ref y), (3, .ref o), (4, .int (nI i))]) (next : LWX l D dA p e s m args below meth c Q w0 sc x y o (t + 1) i (cells + 6) (slots + 4120)) : W p l e LWR s m args below meth c H locs cells slots Q (F0 m 217 ls []) := by
  obtain ⟨own, S, cd, fo, hR, hM, hW, ho, f1⟩ := hJ
  obtain ⟨hx, hb, hml, hown, hts, hK, hTb⟩ := id K
  have hc1 : cells + 1 ≤ 601024 := by omega
  have hs1 : slots + 6 ≤ 7293033 := by omega
  refine lv_aload_n hx hb d_LW_law_217 rfl (lv_at hl 1 rfl) ?_
  refine lv_aload_n hx hb d_LW_law_218 rfl (lv_at hl 0 rfl) ?_
  refine lv_iload hx hb d_LW_law_219 (lv_at hl 4 rfl) ?_
  refine lv_iconst (v := nI 1) hx hb d_LW_law_221 (by decide) ?_
  refine lv_iadd hx hb d_LW_law_222 ?_
  refine mw_ti (nI_add _ _) ?_
  refine mw_sld K hI hsX hsl hsA (i + 1) (by omega) (by omega) d_LW_law_223 ?_
  refine lv_aload_n hx hb d_LW_law_224 rfl (lv_at hl 3 rfl) ?_
  refine mw_call (rest := []) K hSy hP0 hI (c_LW_begins l D dA hL hR hW (by omega) ho f1 (f (i + 1))) (mx_invSH hx hown (hts _ tw_338) (hts _ tw_339) (hts _ tw_20) (hts _ tw_340) (by decide) (g := F0 m 225 ls [.ref o, .int (f (i + 1)), .ref x]) rfl (argsL := [.ref x, .int (f (i + 1)), .ref o]) (rest := []) np_LW_begins rfl (by rw [hb]; exact d_LW_law_225)) hl.1 d_LW_law_225 ⟨Nat.le_of_ble_eq_true rfl, Nat.le_of_ble_eq_true rfl⟩ (Or.inr ⟨_, _, _, List.mem_cons_self⟩) (mk_wsH tw_340 hts) (fun a9 U9 h9 => Ts_warm hts _ tw_20 a9 U9 h9) ⟨hc1, hs1⟩ (fun v w' H locs hq hI => ?_) (fun k x w' H locs hq hI hX => ?_)
  · obtain ⟨own1, fo1, kc, hq1, hR1, f3, hF1, hok, hbad⟩ := hq
    cases hq1
    refine W.eq (g2 := F0 m 228 ls [.int kc]) rfl ?_
    have hM1 := hM.keepL hF1 ho
    have ho1 := (hF1 _ _ f1).1.trans ho
    obtain ⟨A, fe, fk, ec, kc9, fi, fl, hw, hR9⟩ := id hM1
    have hc2 : cells + 1 + 0 ≤ 601024 := by omega
    have hs2 : slots + 6 + 0 ≤ 7293033 := by omega
    refine lv_istore (lv' := [(5, .int kc), (0, .ref sc), (1, .ref x), (2, .ref y), (3, .ref o), (4, .int (nI i))]) hx hb d_LW_law_228 hl (by decide) rfl (fun ls hl => ?_)
    refine lv_aload_n hx hb d_LW_law_230 rfl (lv_at hl 3 rfl) ?_
    refine lv_aload_n hx hb d_LW_law_231 rfl (lv_at hl 1 rfl) ?_
    refine lv_iload hx hb d_LW_law_232 (lv_at hl 5 rfl) ?_
    refine lv_iconst (v := nI 1) hx hb d_LW_law_234 (by decide) ?_
    refine lv_iadd hx hb d_LW_law_235 ?_
    refine mw_ti (nI_add _ _) ?_
    refine mw_sld K hI hsX hsl hsA (i + 1) (by omega) (by omega) d_LW_law_236 ?_
    refine mw_call (rest := []) K hSy hP0 hI (c_MO_begins l D dA hM1 hW (f (i + 1))) (mx_invV hx hown (hts _ tw_690) (hts _ tw_691) (hts _ tw_692) (hts _ tw_693) (by decide) (b := y) (mw_rc K hI hw.o rfl) (g := F0 m 237 ls [.int (f (i + 1)), .ref y]) rfl (argsL := [.int (f (i + 1))]) (rest := []) np_MO_begins rfl (by rw [hb]; exact d_LW_law_237)) hl.1 d_LW_law_237 ⟨Nat.le_of_ble_eq_true rfl, Nat.le_of_ble_eq_true rfl⟩ (Or.inl ⟨_, _, List.mem_cons_self⟩) (mk_ws tw_693 hts) (fun a9 U9 h9 => Ts_warm hts _ tw_23 a9 U9 h9) ⟨hc2, hs2⟩ (fun v w' H locs hq hI => ?_) (fun k x w' H locs hq hI hX => ?_)
    · obtain ⟨v2, cd2, hq1, hM2, hF2, hok2, hbad2⟩ := hq
      cases hq1
      refine W.eq (g2 := F0 m 240 ls [.int v2]) rfl ?_
      obtain ⟨A2, fe2, fk2, ec2, kc2, fi2, fl2, hw2, hR92⟩ := id hM2
      have f5 := hF2.att f3 (by rw [ho1]; decide)
      have hR2 := hR1.keep hF2
      have hW2 : wf_S (t + 1) (sp_BEG S (f (i + 1))).1 := (wf_BEG hW (f (i + 1))).mono (Nat.le_succ t)
      have hag : cd2 = kc ∧ (kc = nI 0 → fo1 0 = v2.toInt64) := by
        cases hres : (sp_BEG S (f (i + 1))).2 with
        | inl u =>
          obtain ⟨a1, a2⟩ := hok u.toInt64 (congrArg sL hres)
          obtain ⟨b1, b2⟩ := hok2 u hres
          exact ⟨by rw [b2, a1], fun _ => by rw [a2, b1]⟩
        | inr k =>
          have a1 := hbad k (congrArg sL hres)
          have b1 := hbad2 k hres
          exact ⟨by rw [a1, b1], fun z => absurd (a1.symm.trans z) (kO_ne k)⟩
      have hc3 : cells + 1 + 0 + 0 ≤ 601024 := by omega
      have hs3 : slots + 6 + 0 + 0 ≤ 7293033 := by omega
      refine lv_istore (lv' := [(6, .int v2), (5, .int kc), (0, .ref sc), (1, .ref x), (2, .ref y), (3, .ref o), (4, .int (nI i))]) hx hb d_LW_law_240 hl (by decide) rfl (fun ls hl => ?_)
      refine lv_aload_n hx hb d_LW_law_242 rfl (lv_at hl 4 rfl) ?_
      refine mw_call (rest := []) K hSy hP0 hI (c_MO_thrown l D dA hw2) (mx_invV hx hown (hts _ tw_666) (hts _ tw_667) (hts _ tw_668) (hts _ tw_669) (by decide) (b := y) (mw_rc K hI hw2.o rfl) (g := F0 m 243 ls [.ref y]) rfl (argsL := []) (rest := []) np_MO_thrown rfl (by rw [hb]; exact d_LW_law_243)) hl.1 d_LW_law_243 ⟨Nat.le_of_ble_eq_true rfl, Nat.le_of_ble_eq_true rfl⟩ (Or.inl ⟨_, _, List.mem_cons_self⟩) (mk_ws tw_669 hts) (fun a9 U9 h9 => Ts_warm hts _ tw_23 a9 U9 h9) ⟨hc3, hs3⟩ (fun v w' H locs hq hI => ?_) (fun k x w' H locs hq hI hX => ?_)
      · obtain ⟨hq1, hq2⟩ := hq
        cases hq1
        rw [hq2] at hI
        refine W.eq (g2 := F0 m 246 ls [.int cd2]) rfl ?_
        refine lv_iload hx hb d_LW_law_246 (lv_at hl 1 rfl) ?_
        refine lv_icmp_eq (tgt := 253) hx hb d_LW_law_248 (by decide) (fun c248 => ?_) (fun c248 => ?_)
        ·
          refine lv_iload hx hb d_LW_law_253 (lv_at hl 1 rfl) ?_
          refine lv_if_ne (tgt := 270) hx hb d_LW_law_255 (by decide) (fun c255 => ?_) (fun c255 => ?_)
          ·
            refine lv_goto (tgt := 1092) hx hb d_LW_law_270 (by decide) ?_
            refine W.widen (k := cells + 6) (n := slots + 4120) (by omega) (by omega) ?_
            exact next _ H locs hI ⟨own1, _, cd2, fo1, hR2, hM2, hW2, ho1, f5⟩ ls (lv_sub hl [2, 3, 4, 5, 6] rfl)
          ·
            refine lv_aload_n hx hb d_LW_law_258 rfl (lv_at hl 5 rfl) ?_
            refine lv_iconst (v := nI 0) hx hb d_LW_law_259 (by decide) ?_
            refine mw_lald K hI tJ f5 rfl 0 rfl (by first | assumption | omega) (by omega) d_LW_law_260 ?_
            refine lv_iload hx hb d_LW_law_261 (lv_at hl 0 rfl) ?_
            refine lv_i2l hx hb d_LW_law_263 rfl ?_
            refine W.lcmp hx hb d_LW_law_264 ?_
            refine lv_if_eq (tgt := 270) hx hb d_LW_law_265 (by decide) (fun c265 => ?_) (fun c265 => ?_)
            ·
              refine lv_goto (tgt := 1092) hx hb d_LW_law_270 (by decide) ?_
              refine W.widen (k := cells + 6) (n := slots + 4120) (by omega) (by omega) ?_
              exact next _ H locs hI ⟨own1, _, cd2, fo1, hR2, hM2, hW2, ho1, f5⟩ ls (lv_sub hl [2, 3, 4, 5, 6] rfl)
            ·
              exact absurd ((lg_cmp_eq _ _).mpr (hag.2 (by first | exact c255 | exact Classical.byContradiction c255))) c265
        ·
          exact absurd hag.1 c248
      · exact absurd hq.1 (by simp)
    · obtain ⟨v2, cd2, hq1, hrest⟩ := hq
      cases hq1
  · obtain ⟨own1, fo1, kc, hq1, hrest⟩ := hq
    cases hq1
set_option maxRecDepth 100000 in
set_option maxHeartbeats 4000000 in
theorem lw_used (hL : mw_L l) (K : mw_K p s m args c code 8 "MapStoreLaw" D mk_cl (mk_tys dA) Ts mk_ty) (hSy : mw_Sy mk_strs s s.heap) (hP0 : mw_P D mk_cl w0 s.heap) (hI : mw_I D mk_cl w0 s.heap w H locs) (hJ : LWJ dA w x y o t) (hsX : va_X sc n f s s.heap) (hsl : sc < s.heap.size) (hsA : ¬ mw_A w0 s.heap.size sc) (ht : t < 512) (hi : i + 5 ≤ n) (hn : n < 2 ^ 31) (hc : cells + 6 ≤ 601024) (hs : slots + 4120 ≤ 7293033) (hl : lv_has ls 8 [(0, .ref sc), (1, .ref x), (2, .ref y), (3, .ref o), (4, .int (nI i))]) (next : LWX l D dA p e s m args below meth c Q w0 sc x y o (t + 1) i (cells + 6) (slots + 4120)) : W p l e LWR s m args below meth c H locs cells slots Q (F0 m 273 ls []) := by
  obtain ⟨own, S, cd, fo, hR, hM, hW, ho, f1⟩ := hJ
  obtain ⟨hx, hb, hml, hown, hts, hK, hTb⟩ := id K
  have hc1 : cells + 6 ≤ 601024 := by omega
  have hs1 : slots + 40 ≤ 7293033 := by omega
  refine lv_aload_n hx hb d_LW_law_273 rfl (lv_at hl 1 rfl) ?_
  refine lv_aload_n hx hb d_LW_law_274 rfl (lv_at hl 0 rfl) ?_
  refine lv_iload hx hb d_LW_law_275 (lv_at hl 4 rfl) ?_
  refine lv_iconst (v := nI 1) hx hb d_LW_law_277 (by decide) ?_
  refine lv_iadd hx hb d_LW_law_278 ?_
  refine mw_ti (nI_add _ _) ?_
  refine mw_sld K hI hsX hsl hsA (i + 1) (by omega) (by omega) d_LW_law_279 ?_
  refine lv_aload_n hx hb d_LW_law_280 rfl (lv_at hl 3 rfl) ?_
  refine mw_call (rest := []) K hSy hP0 hI (c_LW_used l D dA hL hR hW (by omega) ho f1 (f (i + 1))) (mx_invSH hx hown (hts _ tw_346) (hts _ tw_347) (hts _ tw_20) (hts _ tw_348) (by decide) (g := F0 m 281 ls [.ref o, .int (f (i + 1)), .ref x]) rfl (argsL := [.ref x, .int (f (i + 1)), .ref o]) (rest := []) np_LW_used rfl (by rw [hb]; exact d_LW_law_281)) hl.1 d_LW_law_281 ⟨Nat.le_of_ble_eq_true rfl, Nat.le_of_ble_eq_true rfl⟩ (Or.inr ⟨_, _, _, List.mem_cons_self⟩) (mk_wsH tw_348 hts) (fun a9 U9 h9 => Ts_warm hts _ tw_20 a9 U9 h9) ⟨hc1, hs1⟩ (fun v w' H locs hq hI => ?_) (fun k x w' H locs hq hI hX => ?_)
  · obtain ⟨own1, fo1, kc, hq1, hR1, f3, hF1, hok, hbad⟩ := hq
    cases hq1
    refine W.eq (g2 := F0 m 284 ls [.int kc]) rfl ?_
    have hM1 := hM.keepL hF1 ho
    have ho1 := (hF1 _ _ f1).1.trans ho
    obtain ⟨A, fe, fk, ec, kc9, fi, fl, hw, hR9⟩ := id hM1
    have hc2 : cells + 6 + 0 ≤ 601024 := by omega
    have hs2 : slots + 40 + 0 ≤ 7293033 := by omega
    refine lv_istore (lv' := [(5, .int kc), (0, .ref sc), (1, .ref x), (2, .ref y), (3, .ref o), (4, .int (nI i))]) hx hb d_LW_law_284 hl (by decide) rfl (fun ls hl => ?_)
    refine lv_aload_n hx hb d_LW_law_286 rfl (lv_at hl 3 rfl) ?_
    refine lv_aload_n hx hb d_LW_law_287 rfl (lv_at hl 1 rfl) ?_
    refine lv_iload hx hb d_LW_law_288 (lv_at hl 5 rfl) ?_
    refine lv_iconst (v := nI 1) hx hb d_LW_law_290 (by decide) ?_
    refine lv_iadd hx hb d_LW_law_291 ?_
    refine mw_ti (nI_add _ _) ?_
    refine mw_sld K hI hsX hsl hsA (i + 1) (by omega) (by omega) d_LW_law_292 ?_
    refine mw_call (rest := []) K hSy hP0 hI (c_MO_used l D dA hM1 hW (f (i + 1))) (mx_invV hx hown (hts _ tw_698) (hts _ tw_699) (hts _ tw_700) (hts _ tw_701) (by decide) (b := y) (mw_rc K hI hw.o rfl) (g := F0 m 293 ls [.int (f (i + 1)), .ref y]) rfl (argsL := [.int (f (i + 1))]) (rest := []) np_MO_used rfl (by rw [hb]; exact d_LW_law_293)) hl.1 d_LW_law_293 ⟨Nat.le_of_ble_eq_true rfl, Nat.le_of_ble_eq_true rfl⟩ (Or.inl ⟨_, _, List.mem_cons_self⟩) (mk_ws tw_701 hts) (fun a9 U9 h9 => Ts_warm hts _ tw_23 a9 U9 h9) ⟨hc2, hs2⟩ (fun v w' H locs hq hI => ?_) (fun k x w' H locs hq hI hX => ?_)
    · obtain ⟨v2, cd2, hq1, hM2, hF2, hok2, hbad2⟩ := hq
      cases hq1
      refine W.eq (g2 := F0 m 296 ls [.int v2]) rfl ?_
      obtain ⟨A2, fe2, fk2, ec2, kc2, fi2, fl2, hw2, hR92⟩ := id hM2
      have f5 := hF2.att f3 (by rw [ho1]; decide)
      have hR2 := hR1.keep hF2
      have hW2 : wf_S (t + 1) (sp_USED S (f (i + 1))).1 := (wf_USED hW (f (i + 1))).mono (Nat.le_succ t)
      have hag : cd2 = kc ∧ (kc = nI 0 → fo1 0 = v2.toInt64) := by
        cases hres : (sp_USED S (f (i + 1))).2 with
        | inl u =>
          obtain ⟨a1, a2⟩ := hok u.toInt64 (congrArg sL hres)
          obtain ⟨b1, b2⟩ := hok2 u hres
          exact ⟨by rw [b2, a1], fun _ => by rw [a2, b1]⟩
        | inr k =>
          have a1 := hbad k (congrArg sL hres)
          have b1 := hbad2 k hres
          exact ⟨by rw [a1, b1], fun z => absurd (a1.symm.trans z) (kO_ne k)⟩
      have hc3 : cells + 6 + 0 + 0 ≤ 601024 := by omega
      have hs3 : slots + 40 + 0 + 0 ≤ 7293033 := by omega
      refine lv_istore (lv' := [(6, .int v2), (5, .int kc), (0, .ref sc), (1, .ref x), (2, .ref y), (3, .ref o), (4, .int (nI i))]) hx hb d_LW_law_296 hl (by decide) rfl (fun ls hl => ?_)
      refine lv_aload_n hx hb d_LW_law_298 rfl (lv_at hl 4 rfl) ?_
      refine mw_call (rest := []) K hSy hP0 hI (c_MO_thrown l D dA hw2) (mx_invV hx hown (hts _ tw_666) (hts _ tw_667) (hts _ tw_668) (hts _ tw_669) (by decide) (b := y) (mw_rc K hI hw2.o rfl) (g := F0 m 299 ls [.ref y]) rfl (argsL := []) (rest := []) np_MO_thrown rfl (by rw [hb]; exact d_LW_law_299)) hl.1 d_LW_law_299 ⟨Nat.le_of_ble_eq_true rfl, Nat.le_of_ble_eq_true rfl⟩ (Or.inl ⟨_, _, List.mem_cons_self⟩) (mk_ws tw_669 hts) (fun a9 U9 h9 => Ts_warm hts _ tw_23 a9 U9 h9) ⟨hc3, hs3⟩ (fun v w' H locs hq hI => ?_) (fun k x w' H locs hq hI hX => ?_)
      · obtain ⟨hq1, hq2⟩ := hq
        cases hq1
        rw [hq2] at hI
        refine W.eq (g2 := F0 m 302 ls [.int cd2]) rfl ?_
        refine lv_iload hx hb d_LW_law_302 (lv_at hl 1 rfl) ?_
        refine lv_icmp_eq (tgt := 309) hx hb d_LW_law_304 (by decide) (fun c304 => ?_) (fun c304 => ?_)
        ·
          refine lv_iload hx hb d_LW_law_309 (lv_at hl 1 rfl) ?_
          refine lv_if_ne (tgt := 326) hx hb d_LW_law_311 (by decide) (fun c311 => ?_) (fun c311 => ?_)
          ·
            refine lv_goto (tgt := 1092) hx hb d_LW_law_326 (by decide) ?_
            refine W.widen (k := cells + 6) (n := slots + 4120) (by omega) (by omega) ?_
            exact next _ H locs hI ⟨own1, _, cd2, fo1, hR2, hM2, hW2, ho1, f5⟩ ls (lv_sub hl [2, 3, 4, 5, 6] rfl)
          ·
            refine lv_aload_n hx hb d_LW_law_314 rfl (lv_at hl 5 rfl) ?_
            refine lv_iconst (v := nI 0) hx hb d_LW_law_315 (by decide) ?_
            refine mw_lald K hI tJ f5 rfl 0 rfl (by first | assumption | omega) (by omega) d_LW_law_316 ?_
            refine lv_iload hx hb d_LW_law_317 (lv_at hl 0 rfl) ?_
            refine lv_i2l hx hb d_LW_law_319 rfl ?_
            refine W.lcmp hx hb d_LW_law_320 ?_
            refine lv_if_eq (tgt := 326) hx hb d_LW_law_321 (by decide) (fun c321 => ?_) (fun c321 => ?_)
            ·
              refine lv_goto (tgt := 1092) hx hb d_LW_law_326 (by decide) ?_
              refine W.widen (k := cells + 6) (n := slots + 4120) (by omega) (by omega) ?_
              exact next _ H locs hI ⟨own1, _, cd2, fo1, hR2, hM2, hW2, ho1, f5⟩ ls (lv_sub hl [2, 3, 4, 5, 6] rfl)
            ·
              exact absurd ((lg_cmp_eq _ _).mpr (hag.2 (by first | exact c311 | exact Classical.byContradiction c311))) c321
        ·
          exact absurd hag.1 c304
      · exact absurd hq.1 (by simp)
    · obtain ⟨v2, cd2, hq1, hrest⟩ := hq
      cases hq1
  · obtain ⟨own1, fo1, kc, hq1, hrest⟩ := hq
    cases hq1
set_option maxRecDepth 100000 in
set_option maxHeartbeats 4000000 in
theorem lw_find (hL : mw_L l) (K : mw_K p s m args c code 8 "MapStoreLaw" D mk_cl (mk_tys dA) Ts mk_ty) (hSy : mw_Sy mk_strs s s.heap) (hP0 : mw_P D mk_cl w0 s.heap) (hI : mw_I D mk_cl w0 s.heap w H locs) (hJ : LWJ dA w x y o t) (hsX : va_X sc n f s s.heap) (hsl : sc < s.heap.size) (hsA : ¬ mw_A w0 s.heap.size sc) (ht : t < 512) (hi : i + 5 ≤ n) (hn : n < 2 ^ 31) (hc : cells + 6 ≤ 601024) (hs : slots + 4120 ≤ 7293033) (hl : lv_has ls 8 [(0, .ref sc), (1, .ref x), (2, .ref y), (3, .ref o), (4, .int (nI i))]) (next : LWX l D dA p e s m args below meth c Q w0 sc x y o (t + 1) i (cells + 6) (slots + 4120)) : W p l e LWR s m args below meth c H locs cells slots Q (F0 m 623 ls []) := by
  obtain ⟨own, S, cd, fo, hR, hM, hW, ho, f1⟩ := hJ
  obtain ⟨hx, hb, hml, hown, hts, hK, hTb⟩ := id K
  have hc1 : cells + 6 ≤ 601024 := by omega
  have hs1 : slots + 40 ≤ 7293033 := by omega
  refine lv_aload_n hx hb d_LW_law_623 rfl (lv_at hl 1 rfl) ?_
  refine lv_aload_n hx hb d_LW_law_624 rfl (lv_at hl 0 rfl) ?_
  refine lv_iload hx hb d_LW_law_625 (lv_at hl 4 rfl) ?_
  refine lv_iconst (v := nI 1) hx hb d_LW_law_627 (by decide) ?_
  refine lv_iadd hx hb d_LW_law_628 ?_
  refine mw_ti (nI_add _ _) ?_
  refine mw_sld K hI hsX hsl hsA (i + 1) (by omega) (by omega) d_LW_law_629 ?_
  refine lv_aload_n hx hb d_LW_law_630 rfl (lv_at hl 0 rfl) ?_
  refine lv_iload hx hb d_LW_law_631 (lv_at hl 4 rfl) ?_
  refine lv_iconst (v := nI 2) hx hb d_LW_law_633 (by decide) ?_
  refine lv_iadd hx hb d_LW_law_634 ?_
  refine mw_ti (nI_add _ _) ?_
  refine mw_sld K hI hsX hsl hsA (i + 2) (by omega) (by omega) d_LW_law_635 ?_
  refine lv_aload_n hx hb d_LW_law_636 rfl (lv_at hl 3 rfl) ?_
  refine mw_call (rest := []) K hSy hP0 hI (c_LW_find l D dA hL hR hW (by omega) ho f1 (f (i + 1)) (f (i + 2))) (mx_invSH hx hown (hts _ tw_425) (hts _ tw_426) (hts _ tw_20) (hts _ tw_427) (by decide) (g := F0 m 637 ls [.ref o, .int (f (i + 2)), .int (f (i + 1)), .ref x]) rfl (argsL := [.ref x, .int (f (i + 1)), .int (f (i + 2)), .ref o]) (rest := []) np_LW_find rfl (by rw [hb]; exact d_LW_law_637)) hl.1 d_LW_law_637 ⟨Nat.le_of_ble_eq_true rfl, Nat.le_of_ble_eq_true rfl⟩ (Or.inr ⟨_, _, _, List.mem_cons_self⟩) (mk_wsH tw_427 hts) (fun a9 U9 h9 => Ts_warm hts _ tw_20 a9 U9 h9) ⟨hc1, hs1⟩ (fun v w' H locs hq hI => ?_) (fun k x w' H locs hq hI hX => ?_)
  · obtain ⟨own1, fo1, kc, hq1, hR1, f3, hF1, hok, hbad⟩ := hq
    cases hq1
    refine W.eq (g2 := F0 m 640 ls [.int kc]) rfl ?_
    have hM1 := hM.keepL hF1 ho
    have ho1 := (hF1 _ _ f1).1.trans ho
    obtain ⟨A, fe, fk, ec, kc9, fi, fl, hw, hR9⟩ := id hM1
    have hc2 : cells + 6 + 0 ≤ 601024 := by omega
    have hs2 : slots + 40 + 0 ≤ 7293033 := by omega
    refine lv_istore (lv' := [(5, .int kc), (0, .ref sc), (1, .ref x), (2, .ref y), (3, .ref o), (4, .int (nI i))]) hx hb d_LW_law_640 hl (by decide) rfl (fun ls hl => ?_)
    refine lv_aload_n hx hb d_LW_law_642 rfl (lv_at hl 3 rfl) ?_
    refine lv_aload_n hx hb d_LW_law_643 rfl (lv_at hl 1 rfl) ?_
    refine lv_iload hx hb d_LW_law_644 (lv_at hl 5 rfl) ?_
    refine lv_iconst (v := nI 1) hx hb d_LW_law_646 (by decide) ?_
    refine lv_iadd hx hb d_LW_law_647 ?_
    refine mw_ti (nI_add _ _) ?_
    refine mw_sld K hI hsX hsl hsA (i + 1) (by omega) (by omega) d_LW_law_648 ?_
    refine lv_aload_n hx hb d_LW_law_649 rfl (lv_at hl 1 rfl) ?_
    refine lv_iload hx hb d_LW_law_650 (lv_at hl 5 rfl) ?_
    refine lv_iconst (v := nI 2) hx hb d_LW_law_652 (by decide) ?_
    refine lv_iadd hx hb d_LW_law_653 ?_
    refine mw_ti (nI_add _ _) ?_
    refine mw_sld K hI hsX hsl hsA (i + 2) (by omega) (by omega) d_LW_law_654 ?_
    refine mw_call (rest := []) K hSy hP0 hI (c_MO_find l D dA hM1 hW (f (i + 1)) (f (i + 2))) (mx_invV hx hown (hts _ tw_732) (hts _ tw_733) (hts _ tw_734) (hts _ tw_735) (by decide) (b := y) (mw_rc K hI hw.o rfl) (g := F0 m 655 ls [.int (f (i + 2)), .int (f (i + 1)), .ref y]) rfl (argsL := [.int (f (i + 1)), .int (f (i + 2))]) (rest := []) np_MO_find rfl (by rw [hb]; exact d_LW_law_655)) hl.1 d_LW_law_655 ⟨Nat.le_of_ble_eq_true rfl, Nat.le_of_ble_eq_true rfl⟩ (Or.inl ⟨_, _, List.mem_cons_self⟩) (mk_ws tw_735 hts) (fun a9 U9 h9 => Ts_warm hts _ tw_23 a9 U9 h9) ⟨hc2, hs2⟩ (fun v w' H locs hq hI => ?_) (fun k x w' H locs hq hI hX => ?_)
    · obtain ⟨v2, cd2, hq1, hM2, hF2, hok2, hbad2⟩ := hq
      cases hq1
      refine W.eq (g2 := F0 m 658 ls [.int v2]) rfl ?_
      obtain ⟨A2, fe2, fk2, ec2, kc2, fi2, fl2, hw2, hR92⟩ := id hM2
      have f5 := hF2.att f3 (by rw [ho1]; decide)
      have hR2 := hR1.keep hF2
      have hW2 : wf_S (t + 1) (sp_FIND S (f (i + 1)) (f (i + 2))).1 := (wf_FIND hW (f (i + 1)) (f (i + 2))).mono (Nat.le_succ t)
      have hag : cd2 = kc ∧ (kc = nI 0 → fo1 0 = v2.toInt64) := by
        cases hres : (sp_FIND S (f (i + 1)) (f (i + 2))).2 with
        | inl u =>
          obtain ⟨a1, a2⟩ := hok u.toInt64 (congrArg sL hres)
          obtain ⟨b1, b2⟩ := hok2 u hres
          exact ⟨by rw [b2, a1], fun _ => by rw [a2, b1]⟩
        | inr k =>
          have a1 := hbad k (congrArg sL hres)
          have b1 := hbad2 k hres
          exact ⟨by rw [a1, b1], fun z => absurd (a1.symm.trans z) (kO_ne k)⟩
      have hc3 : cells + 6 + 0 + 0 ≤ 601024 := by omega
      have hs3 : slots + 40 + 0 + 0 ≤ 7293033 := by omega
      refine lv_istore (lv' := [(6, .int v2), (5, .int kc), (0, .ref sc), (1, .ref x), (2, .ref y), (3, .ref o), (4, .int (nI i))]) hx hb d_LW_law_658 hl (by decide) rfl (fun ls hl => ?_)
      refine lv_aload_n hx hb d_LW_law_660 rfl (lv_at hl 4 rfl) ?_
      refine mw_call (rest := []) K hSy hP0 hI (c_MO_thrown l D dA hw2) (mx_invV hx hown (hts _ tw_666) (hts _ tw_667) (hts _ tw_668) (hts _ tw_669) (by decide) (b := y) (mw_rc K hI hw2.o rfl) (g := F0 m 661 ls [.ref y]) rfl (argsL := []) (rest := []) np_MO_thrown rfl (by rw [hb]; exact d_LW_law_661)) hl.1 d_LW_law_661 ⟨Nat.le_of_ble_eq_true rfl, Nat.le_of_ble_eq_true rfl⟩ (Or.inl ⟨_, _, List.mem_cons_self⟩) (mk_ws tw_669 hts) (fun a9 U9 h9 => Ts_warm hts _ tw_23 a9 U9 h9) ⟨hc3, hs3⟩ (fun v w' H locs hq hI => ?_) (fun k x w' H locs hq hI hX => ?_)
      · obtain ⟨hq1, hq2⟩ := hq
        cases hq1
        rw [hq2] at hI
        refine W.eq (g2 := F0 m 664 ls [.int cd2]) rfl ?_
        refine lv_iload hx hb d_LW_law_664 (lv_at hl 1 rfl) ?_
        refine lv_icmp_eq (tgt := 671) hx hb d_LW_law_666 (by decide) (fun c666 => ?_) (fun c666 => ?_)
        ·
          refine lv_iload hx hb d_LW_law_671 (lv_at hl 1 rfl) ?_
          refine lv_if_ne (tgt := 688) hx hb d_LW_law_673 (by decide) (fun c673 => ?_) (fun c673 => ?_)
          ·
            refine lv_goto (tgt := 1092) hx hb d_LW_law_688 (by decide) ?_
            refine W.widen (k := cells + 6) (n := slots + 4120) (by omega) (by omega) ?_
            exact next _ H locs hI ⟨own1, _, cd2, fo1, hR2, hM2, hW2, ho1, f5⟩ ls (lv_sub hl [2, 3, 4, 5, 6] rfl)
          ·
            refine lv_aload_n hx hb d_LW_law_676 rfl (lv_at hl 5 rfl) ?_
            refine lv_iconst (v := nI 0) hx hb d_LW_law_677 (by decide) ?_
            refine mw_lald K hI tJ f5 rfl 0 rfl (by first | assumption | omega) (by omega) d_LW_law_678 ?_
            refine lv_iload hx hb d_LW_law_679 (lv_at hl 0 rfl) ?_
            refine lv_i2l hx hb d_LW_law_681 rfl ?_
            refine W.lcmp hx hb d_LW_law_682 ?_
            refine lv_if_eq (tgt := 688) hx hb d_LW_law_683 (by decide) (fun c683 => ?_) (fun c683 => ?_)
            ·
              refine lv_goto (tgt := 1092) hx hb d_LW_law_688 (by decide) ?_
              refine W.widen (k := cells + 6) (n := slots + 4120) (by omega) (by omega) ?_
              exact next _ H locs hI ⟨own1, _, cd2, fo1, hR2, hM2, hW2, ho1, f5⟩ ls (lv_sub hl [2, 3, 4, 5, 6] rfl)
            ·
              exact absurd ((lg_cmp_eq _ _).mpr (hag.2 (by first | exact c673 | exact Classical.byContradiction c673))) c683
        ·
          exact absurd hag.1 c666
      · exact absurd hq.1 (by simp)
    · obtain ⟨v2, cd2, hq1, hrest⟩ := hq
      cases hq1
  · obtain ⟨own1, fo1, kc, hq1, hrest⟩ := hq
    cases hq1
set_option maxRecDepth 100000 in
set_option maxHeartbeats 4000000 in
theorem lw_update (hL : mw_L l) (K : mw_K p s m args c code 8 "MapStoreLaw" D mk_cl (mk_tys dA) Ts mk_ty) (hSy : mw_Sy mk_strs s s.heap) (hP0 : mw_P D mk_cl w0 s.heap) (hI : mw_I D mk_cl w0 s.heap w H locs) (hJ : LWJ dA w x y o t) (hsX : va_X sc n f s s.heap) (hsl : sc < s.heap.size) (hsA : ¬ mw_A w0 s.heap.size sc) (ht : t < 512) (hi : i + 5 ≤ n) (hn : n < 2 ^ 31) (hc : cells + 6 ≤ 601024) (hs : slots + 4120 ≤ 7293033) (hl : lv_has ls 8 [(0, .ref sc), (1, .ref x), (2, .ref y), (3, .ref o), (4, .int (nI i))]) (next : LWX l D dA p e s m args below meth c Q w0 sc x y o (t + 1) i (cells + 6) (slots + 4120)) : W p l e LWR s m args below meth c H locs cells slots Q (F0 m 691 ls []) := by
  obtain ⟨own, S, cd, fo, hR, hM, hW, ho, f1⟩ := hJ
  obtain ⟨hx, hb, hml, hown, hts, hK, hTb⟩ := id K
  have hc1 : cells + 6 ≤ 601024 := by omega
  have hs1 : slots + 40 ≤ 7293033 := by omega
  refine lv_aload_n hx hb d_LW_law_691 rfl (lv_at hl 1 rfl) ?_
  refine lv_aload_n hx hb d_LW_law_692 rfl (lv_at hl 0 rfl) ?_
  refine lv_iload hx hb d_LW_law_693 (lv_at hl 4 rfl) ?_
  refine lv_iconst (v := nI 1) hx hb d_LW_law_695 (by decide) ?_
  refine lv_iadd hx hb d_LW_law_696 ?_
  refine mw_ti (nI_add _ _) ?_
  refine mw_sld K hI hsX hsl hsA (i + 1) (by omega) (by omega) d_LW_law_697 ?_
  refine lv_aload_n hx hb d_LW_law_698 rfl (lv_at hl 0 rfl) ?_
  refine lv_iload hx hb d_LW_law_699 (lv_at hl 4 rfl) ?_
  refine lv_iconst (v := nI 2) hx hb d_LW_law_701 (by decide) ?_
  refine lv_iadd hx hb d_LW_law_702 ?_
  refine mw_ti (nI_add _ _) ?_
  refine mw_sld K hI hsX hsl hsA (i + 2) (by omega) (by omega) d_LW_law_703 ?_
  refine lv_aload_n hx hb d_LW_law_704 rfl (lv_at hl 0 rfl) ?_
  refine lv_iload hx hb d_LW_law_705 (lv_at hl 4 rfl) ?_
  refine lv_iconst (v := nI 3) hx hb d_LW_law_707 (by decide) ?_
  refine lv_iadd hx hb d_LW_law_708 ?_
  refine mw_ti (nI_add _ _) ?_
  refine mw_sld K hI hsX hsl hsA (i + 3) (by omega) (by omega) d_LW_law_709 ?_
  refine lv_aload_n hx hb d_LW_law_710 rfl (lv_at hl 0 rfl) ?_
  refine lv_iload hx hb d_LW_law_711 (lv_at hl 4 rfl) ?_
  refine lv_iconst (v := nI 4) hx hb d_LW_law_713 (by decide) ?_
  refine lv_iadd hx hb d_LW_law_714 ?_
  refine mw_ti (nI_add _ _) ?_
  refine mw_sld K hI hsX hsl hsA (i + 4) (by omega) (by omega) d_LW_law_715 ?_
  refine lv_aload_n hx hb d_LW_law_716 rfl (lv_at hl 3 rfl) ?_
  refine mw_call (rest := []) K hSy hP0 hI (c_LW_update l D dA hL hR hW (by omega) ho f1 (f (i + 1)) (f (i + 2)) (f (i + 3)) (f (i + 4))) (mx_invSH hx hown (hts _ tw_469) (hts _ tw_470) (hts _ tw_20) (hts _ tw_471) (by decide) (g := F0 m 717 ls [.ref o, .int (f (i + 4)), .int (f (i + 3)), .int (f (i + 2)), .int (f (i + 1)), .ref x]) rfl (argsL := [.ref x, .int (f (i + 1)), .int (f (i + 2)), .int (f (i + 3)), .int (f (i + 4)), .ref o]) (rest := []) np_LW_update rfl (by rw [hb]; exact d_LW_law_717)) hl.1 d_LW_law_717 ⟨Nat.le_of_ble_eq_true rfl, Nat.le_of_ble_eq_true rfl⟩ (Or.inr ⟨_, _, _, List.mem_cons_self⟩) (mk_wsH tw_471 hts) (fun a9 U9 h9 => Ts_warm hts _ tw_20 a9 U9 h9) ⟨hc1, hs1⟩ (fun v w' H locs hq hI => ?_) (fun k x w' H locs hq hI hX => ?_)
  · obtain ⟨own1, fo1, kc, hq1, hR1, f3, hF1, hok, hbad⟩ := hq
    cases hq1
    refine W.eq (g2 := F0 m 720 ls [.int kc]) rfl ?_
    have hM1 := hM.keepL hF1 ho
    have ho1 := (hF1 _ _ f1).1.trans ho
    obtain ⟨A, fe, fk, ec, kc9, fi, fl, hw, hR9⟩ := id hM1
    have hc2 : cells + 6 + 0 ≤ 601024 := by omega
    have hs2 : slots + 40 + 0 ≤ 7293033 := by omega
    refine lv_istore (lv' := [(5, .int kc), (0, .ref sc), (1, .ref x), (2, .ref y), (3, .ref o), (4, .int (nI i))]) hx hb d_LW_law_720 hl (by decide) rfl (fun ls hl => ?_)
    refine lv_aload_n hx hb d_LW_law_722 rfl (lv_at hl 3 rfl) ?_
    refine lv_aload_n hx hb d_LW_law_723 rfl (lv_at hl 1 rfl) ?_
    refine lv_iload hx hb d_LW_law_724 (lv_at hl 5 rfl) ?_
    refine lv_iconst (v := nI 1) hx hb d_LW_law_726 (by decide) ?_
    refine lv_iadd hx hb d_LW_law_727 ?_
    refine mw_ti (nI_add _ _) ?_
    refine mw_sld K hI hsX hsl hsA (i + 1) (by omega) (by omega) d_LW_law_728 ?_
    refine lv_aload_n hx hb d_LW_law_729 rfl (lv_at hl 1 rfl) ?_
    refine lv_iload hx hb d_LW_law_730 (lv_at hl 5 rfl) ?_
    refine lv_iconst (v := nI 2) hx hb d_LW_law_732 (by decide) ?_
    refine lv_iadd hx hb d_LW_law_733 ?_
    refine mw_ti (nI_add _ _) ?_
    refine mw_sld K hI hsX hsl hsA (i + 2) (by omega) (by omega) d_LW_law_734 ?_
    refine lv_aload_n hx hb d_LW_law_735 rfl (lv_at hl 1 rfl) ?_
    refine lv_iload hx hb d_LW_law_736 (lv_at hl 5 rfl) ?_
    refine lv_iconst (v := nI 3) hx hb d_LW_law_738 (by decide) ?_
    refine lv_iadd hx hb d_LW_law_739 ?_
    refine mw_ti (nI_add _ _) ?_
    refine mw_sld K hI hsX hsl hsA (i + 3) (by omega) (by omega) d_LW_law_740 ?_
    refine lv_aload_n hx hb d_LW_law_741 rfl (lv_at hl 1 rfl) ?_
    refine lv_iload hx hb d_LW_law_742 (lv_at hl 5 rfl) ?_
    refine lv_iconst (v := nI 4) hx hb d_LW_law_744 (by decide) ?_
    refine lv_iadd hx hb d_LW_law_745 ?_
    refine mw_ti (nI_add _ _) ?_
    refine mw_sld K hI hsX hsl hsA (i + 4) (by omega) (by omega) d_LW_law_746 ?_
    refine mw_call (rest := []) K hSy hP0 hI (c_MO_update l D dA hM1 hW (f (i + 1)) (f (i + 2)) (f (i + 3)) (f (i + 4))) (mx_invV hx hown (hts _ tw_752) (hts _ tw_753) (hts _ tw_754) (hts _ tw_755) (by decide) (b := y) (mw_rc K hI hw.o rfl) (g := F0 m 747 ls [.int (f (i + 4)), .int (f (i + 3)), .int (f (i + 2)), .int (f (i + 1)), .ref y]) rfl (argsL := [.int (f (i + 1)), .int (f (i + 2)), .int (f (i + 3)), .int (f (i + 4))]) (rest := []) np_MO_update rfl (by rw [hb]; exact d_LW_law_747)) hl.1 d_LW_law_747 ⟨Nat.le_of_ble_eq_true rfl, Nat.le_of_ble_eq_true rfl⟩ (Or.inl ⟨_, _, List.mem_cons_self⟩) (mk_ws tw_755 hts) (fun a9 U9 h9 => Ts_warm hts _ tw_23 a9 U9 h9) ⟨hc2, hs2⟩ (fun v w' H locs hq hI => ?_) (fun k x w' H locs hq hI hX => ?_)
    · obtain ⟨v2, cd2, hq1, hM2, hF2, hok2, hbad2⟩ := hq
      cases hq1
      refine W.eq (g2 := F0 m 750 ls [.int v2]) rfl ?_
      obtain ⟨A2, fe2, fk2, ec2, kc2, fi2, fl2, hw2, hR92⟩ := id hM2
      have f5 := hF2.att f3 (by rw [ho1]; decide)
      have hR2 := hR1.keep hF2
      have hW2 : wf_S (t + 1) (sp_UPD S (f (i + 1)) (f (i + 2)) (f (i + 3)) (f (i + 4))).1 := (wf_UPD hW (f (i + 1)) (f (i + 2)) (f (i + 3)) (f (i + 4))).mono (Nat.le_succ t)
      have hag : cd2 = kc ∧ (kc = nI 0 → fo1 0 = v2.toInt64) := by
        cases hres : (sp_UPD S (f (i + 1)) (f (i + 2)) (f (i + 3)) (f (i + 4))).2 with
        | inl u =>
          obtain ⟨a1, a2⟩ := hok u.toInt64 (congrArg sL hres)
          obtain ⟨b1, b2⟩ := hok2 u hres
          exact ⟨by rw [b2, a1], fun _ => by rw [a2, b1]⟩
        | inr k =>
          have a1 := hbad k (congrArg sL hres)
          have b1 := hbad2 k hres
          exact ⟨by rw [a1, b1], fun z => absurd (a1.symm.trans z) (kO_ne k)⟩
      have hc3 : cells + 6 + 0 + 0 ≤ 601024 := by omega
      have hs3 : slots + 40 + 0 + 0 ≤ 7293033 := by omega
      refine lv_istore (lv' := [(6, .int v2), (5, .int kc), (0, .ref sc), (1, .ref x), (2, .ref y), (3, .ref o), (4, .int (nI i))]) hx hb d_LW_law_750 hl (by decide) rfl (fun ls hl => ?_)
      refine lv_aload_n hx hb d_LW_law_752 rfl (lv_at hl 4 rfl) ?_
      refine mw_call (rest := []) K hSy hP0 hI (c_MO_thrown l D dA hw2) (mx_invV hx hown (hts _ tw_666) (hts _ tw_667) (hts _ tw_668) (hts _ tw_669) (by decide) (b := y) (mw_rc K hI hw2.o rfl) (g := F0 m 753 ls [.ref y]) rfl (argsL := []) (rest := []) np_MO_thrown rfl (by rw [hb]; exact d_LW_law_753)) hl.1 d_LW_law_753 ⟨Nat.le_of_ble_eq_true rfl, Nat.le_of_ble_eq_true rfl⟩ (Or.inl ⟨_, _, List.mem_cons_self⟩) (mk_ws tw_669 hts) (fun a9 U9 h9 => Ts_warm hts _ tw_23 a9 U9 h9) ⟨hc3, hs3⟩ (fun v w' H locs hq hI => ?_) (fun k x w' H locs hq hI hX => ?_)
      · obtain ⟨hq1, hq2⟩ := hq
        cases hq1
        rw [hq2] at hI
        refine W.eq (g2 := F0 m 756 ls [.int cd2]) rfl ?_
        refine lv_iload hx hb d_LW_law_756 (lv_at hl 1 rfl) ?_
        refine lv_icmp_eq (tgt := 763) hx hb d_LW_law_758 (by decide) (fun c758 => ?_) (fun c758 => ?_)
        ·
          refine lv_iload hx hb d_LW_law_763 (lv_at hl 1 rfl) ?_
          refine lv_if_ne (tgt := 780) hx hb d_LW_law_765 (by decide) (fun c765 => ?_) (fun c765 => ?_)
          ·
            refine lv_goto (tgt := 1092) hx hb d_LW_law_780 (by decide) ?_
            refine W.widen (k := cells + 6) (n := slots + 4120) (by omega) (by omega) ?_
            exact next _ H locs hI ⟨own1, _, cd2, fo1, hR2, hM2, hW2, ho1, f5⟩ ls (lv_sub hl [2, 3, 4, 5, 6] rfl)
          ·
            refine lv_aload_n hx hb d_LW_law_768 rfl (lv_at hl 5 rfl) ?_
            refine lv_iconst (v := nI 0) hx hb d_LW_law_769 (by decide) ?_
            refine mw_lald K hI tJ f5 rfl 0 rfl (by first | assumption | omega) (by omega) d_LW_law_770 ?_
            refine lv_iload hx hb d_LW_law_771 (lv_at hl 0 rfl) ?_
            refine lv_i2l hx hb d_LW_law_773 rfl ?_
            refine W.lcmp hx hb d_LW_law_774 ?_
            refine lv_if_eq (tgt := 780) hx hb d_LW_law_775 (by decide) (fun c775 => ?_) (fun c775 => ?_)
            ·
              refine lv_goto (tgt := 1092) hx hb d_LW_law_780 (by decide) ?_
              refine W.widen (k := cells + 6) (n := slots + 4120) (by omega) (by omega) ?_
              exact next _ H locs hI ⟨own1, _, cd2, fo1, hR2, hM2, hW2, ho1, f5⟩ ls (lv_sub hl [2, 3, 4, 5, 6] rfl)
            ·
              exact absurd ((lg_cmp_eq _ _).mpr (hag.2 (by first | exact c765 | exact Classical.byContradiction c765))) c775
        ·
          exact absurd hag.1 c758
      · exact absurd hq.1 (by simp)
    · obtain ⟨v2, cd2, hq1, hrest⟩ := hq
      cases hq1
  · obtain ⟨own1, fo1, kc, hq1, hrest⟩ := hq
    cases hq1
set_option maxRecDepth 100000 in
set_option maxHeartbeats 4000000 in
theorem lw_remove (hL : mw_L l) (K : mw_K p s m args c code 8 "MapStoreLaw" D mk_cl (mk_tys dA) Ts mk_ty) (hSy : mw_Sy mk_strs s s.heap) (hP0 : mw_P D mk_cl w0 s.heap) (hI : mw_I D mk_cl w0 s.heap w H locs) (hJ : LWJ dA w x y o t) (hsX : va_X sc n f s s.heap) (hsl : sc < s.heap.size) (hsA : ¬ mw_A w0 s.heap.size sc) (ht : t < 512) (hi : i + 5 ≤ n) (hn : n < 2 ^ 31) (hc : cells + 6 ≤ 601024) (hs : slots + 4120 ≤ 7293033) (hl : lv_has ls 8 [(0, .ref sc), (1, .ref x), (2, .ref y), (3, .ref o), (4, .int (nI i))]) (next : LWX l D dA p e s m args below meth c Q w0 sc x y o (t + 1) i (cells + 6) (slots + 4120)) : W p l e LWR s m args below meth c H locs cells slots Q (F0 m 783 ls []) := by
  obtain ⟨own, S, cd, fo, hR, hM, hW, ho, f1⟩ := hJ
  obtain ⟨hx, hb, hml, hown, hts, hK, hTb⟩ := id K
  have hc1 : cells + 6 ≤ 601024 := by omega
  have hs1 : slots + 40 ≤ 7293033 := by omega
  refine lv_aload_n hx hb d_LW_law_783 rfl (lv_at hl 1 rfl) ?_
  refine lv_aload_n hx hb d_LW_law_784 rfl (lv_at hl 0 rfl) ?_
  refine lv_iload hx hb d_LW_law_785 (lv_at hl 4 rfl) ?_
  refine lv_iconst (v := nI 1) hx hb d_LW_law_787 (by decide) ?_
  refine lv_iadd hx hb d_LW_law_788 ?_
  refine mw_ti (nI_add _ _) ?_
  refine mw_sld K hI hsX hsl hsA (i + 1) (by omega) (by omega) d_LW_law_789 ?_
  refine lv_aload_n hx hb d_LW_law_790 rfl (lv_at hl 0 rfl) ?_
  refine lv_iload hx hb d_LW_law_791 (lv_at hl 4 rfl) ?_
  refine lv_iconst (v := nI 2) hx hb d_LW_law_793 (by decide) ?_
  refine lv_iadd hx hb d_LW_law_794 ?_
  refine mw_ti (nI_add _ _) ?_
  refine mw_sld K hI hsX hsl hsA (i + 2) (by omega) (by omega) d_LW_law_795 ?_
  refine lv_aload_n hx hb d_LW_law_796 rfl (lv_at hl 3 rfl) ?_
  refine mw_call (rest := []) K hSy hP0 hI (c_LW_remove l D dA hL hR hW (by omega) ho f1 (f (i + 1)) (f (i + 2))) (mx_invSH hx hown (hts _ tw_507) (hts _ tw_508) (hts _ tw_20) (hts _ tw_509) (by decide) (g := F0 m 797 ls [.ref o, .int (f (i + 2)), .int (f (i + 1)), .ref x]) rfl (argsL := [.ref x, .int (f (i + 1)), .int (f (i + 2)), .ref o]) (rest := []) np_LW_remove rfl (by rw [hb]; exact d_LW_law_797)) hl.1 d_LW_law_797 ⟨Nat.le_of_ble_eq_true rfl, Nat.le_of_ble_eq_true rfl⟩ (Or.inr ⟨_, _, _, List.mem_cons_self⟩) (mk_wsH tw_509 hts) (fun a9 U9 h9 => Ts_warm hts _ tw_20 a9 U9 h9) ⟨hc1, hs1⟩ (fun v w' H locs hq hI => ?_) (fun k x w' H locs hq hI hX => ?_)
  · obtain ⟨own1, fo1, kc, hq1, hR1, f3, hF1, hok, hbad⟩ := hq
    cases hq1
    refine W.eq (g2 := F0 m 800 ls [.int kc]) rfl ?_
    have hM1 := hM.keepL hF1 ho
    have ho1 := (hF1 _ _ f1).1.trans ho
    obtain ⟨A, fe, fk, ec, kc9, fi, fl, hw, hR9⟩ := id hM1
    have hc2 : cells + 6 + 0 ≤ 601024 := by omega
    have hs2 : slots + 40 + 0 ≤ 7293033 := by omega
    refine lv_istore (lv' := [(5, .int kc), (0, .ref sc), (1, .ref x), (2, .ref y), (3, .ref o), (4, .int (nI i))]) hx hb d_LW_law_800 hl (by decide) rfl (fun ls hl => ?_)
    refine lv_aload_n hx hb d_LW_law_802 rfl (lv_at hl 3 rfl) ?_
    refine lv_aload_n hx hb d_LW_law_803 rfl (lv_at hl 1 rfl) ?_
    refine lv_iload hx hb d_LW_law_804 (lv_at hl 5 rfl) ?_
    refine lv_iconst (v := nI 1) hx hb d_LW_law_806 (by decide) ?_
    refine lv_iadd hx hb d_LW_law_807 ?_
    refine mw_ti (nI_add _ _) ?_
    refine mw_sld K hI hsX hsl hsA (i + 1) (by omega) (by omega) d_LW_law_808 ?_
    refine lv_aload_n hx hb d_LW_law_809 rfl (lv_at hl 1 rfl) ?_
    refine lv_iload hx hb d_LW_law_810 (lv_at hl 5 rfl) ?_
    refine lv_iconst (v := nI 2) hx hb d_LW_law_812 (by decide) ?_
    refine lv_iadd hx hb d_LW_law_813 ?_
    refine mw_ti (nI_add _ _) ?_
    refine mw_sld K hI hsX hsl hsA (i + 2) (by omega) (by omega) d_LW_law_814 ?_
    refine mw_call (rest := []) K hSy hP0 hI (c_MO_remove l D dA hM1 hW (f (i + 1)) (f (i + 2))) (mx_invV hx hown (hts _ tw_768) (hts _ tw_769) (hts _ tw_770) (hts _ tw_771) (by decide) (b := y) (mw_rc K hI hw.o rfl) (g := F0 m 815 ls [.int (f (i + 2)), .int (f (i + 1)), .ref y]) rfl (argsL := [.int (f (i + 1)), .int (f (i + 2))]) (rest := []) np_MO_remove rfl (by rw [hb]; exact d_LW_law_815)) hl.1 d_LW_law_815 ⟨Nat.le_of_ble_eq_true rfl, Nat.le_of_ble_eq_true rfl⟩ (Or.inl ⟨_, _, List.mem_cons_self⟩) (mk_ws tw_771 hts) (fun a9 U9 h9 => Ts_warm hts _ tw_23 a9 U9 h9) ⟨hc2, hs2⟩ (fun v w' H locs hq hI => ?_) (fun k x w' H locs hq hI hX => ?_)
    · obtain ⟨v2, cd2, hq1, hM2, hF2, hok2, hbad2⟩ := hq
      cases hq1
      refine W.eq (g2 := F0 m 818 ls [.int v2]) rfl ?_
      obtain ⟨A2, fe2, fk2, ec2, kc2, fi2, fl2, hw2, hR92⟩ := id hM2
      have f5 := hF2.att f3 (by rw [ho1]; decide)
      have hR2 := hR1.keep hF2
      have hW2 : wf_S (t + 1) (sp_REM S (f (i + 1)) (f (i + 2))).1 := (wf_REM hW (f (i + 1)) (f (i + 2))).mono (Nat.le_succ t)
      have hag : cd2 = kc ∧ (kc = nI 0 → fo1 0 = v2.toInt64) := by
        cases hres : (sp_REM S (f (i + 1)) (f (i + 2))).2 with
        | inl u =>
          obtain ⟨a1, a2⟩ := hok u.toInt64 (congrArg sL hres)
          obtain ⟨b1, b2⟩ := hok2 u hres
          exact ⟨by rw [b2, a1], fun _ => by rw [a2, b1]⟩
        | inr k =>
          have a1 := hbad k (congrArg sL hres)
          have b1 := hbad2 k hres
          exact ⟨by rw [a1, b1], fun z => absurd (a1.symm.trans z) (kO_ne k)⟩
      have hc3 : cells + 6 + 0 + 0 ≤ 601024 := by omega
      have hs3 : slots + 40 + 0 + 0 ≤ 7293033 := by omega
      refine lv_istore (lv' := [(6, .int v2), (5, .int kc), (0, .ref sc), (1, .ref x), (2, .ref y), (3, .ref o), (4, .int (nI i))]) hx hb d_LW_law_818 hl (by decide) rfl (fun ls hl => ?_)
      refine lv_aload_n hx hb d_LW_law_820 rfl (lv_at hl 4 rfl) ?_
      refine mw_call (rest := []) K hSy hP0 hI (c_MO_thrown l D dA hw2) (mx_invV hx hown (hts _ tw_666) (hts _ tw_667) (hts _ tw_668) (hts _ tw_669) (by decide) (b := y) (mw_rc K hI hw2.o rfl) (g := F0 m 821 ls [.ref y]) rfl (argsL := []) (rest := []) np_MO_thrown rfl (by rw [hb]; exact d_LW_law_821)) hl.1 d_LW_law_821 ⟨Nat.le_of_ble_eq_true rfl, Nat.le_of_ble_eq_true rfl⟩ (Or.inl ⟨_, _, List.mem_cons_self⟩) (mk_ws tw_669 hts) (fun a9 U9 h9 => Ts_warm hts _ tw_23 a9 U9 h9) ⟨hc3, hs3⟩ (fun v w' H locs hq hI => ?_) (fun k x w' H locs hq hI hX => ?_)
      · obtain ⟨hq1, hq2⟩ := hq
        cases hq1
        rw [hq2] at hI
        refine W.eq (g2 := F0 m 824 ls [.int cd2]) rfl ?_
        refine lv_iload hx hb d_LW_law_824 (lv_at hl 1 rfl) ?_
        refine lv_icmp_eq (tgt := 831) hx hb d_LW_law_826 (by decide) (fun c826 => ?_) (fun c826 => ?_)
        ·
          refine lv_iload hx hb d_LW_law_831 (lv_at hl 1 rfl) ?_
          refine lv_if_ne (tgt := 848) hx hb d_LW_law_833 (by decide) (fun c833 => ?_) (fun c833 => ?_)
          ·
            refine lv_goto (tgt := 1092) hx hb d_LW_law_848 (by decide) ?_
            refine W.widen (k := cells + 6) (n := slots + 4120) (by omega) (by omega) ?_
            exact next _ H locs hI ⟨own1, _, cd2, fo1, hR2, hM2, hW2, ho1, f5⟩ ls (lv_sub hl [2, 3, 4, 5, 6] rfl)
          ·
            refine lv_aload_n hx hb d_LW_law_836 rfl (lv_at hl 5 rfl) ?_
            refine lv_iconst (v := nI 0) hx hb d_LW_law_837 (by decide) ?_
            refine mw_lald K hI tJ f5 rfl 0 rfl (by first | assumption | omega) (by omega) d_LW_law_838 ?_
            refine lv_iload hx hb d_LW_law_839 (lv_at hl 0 rfl) ?_
            refine lv_i2l hx hb d_LW_law_841 rfl ?_
            refine W.lcmp hx hb d_LW_law_842 ?_
            refine lv_if_eq (tgt := 848) hx hb d_LW_law_843 (by decide) (fun c843 => ?_) (fun c843 => ?_)
            ·
              refine lv_goto (tgt := 1092) hx hb d_LW_law_848 (by decide) ?_
              refine W.widen (k := cells + 6) (n := slots + 4120) (by omega) (by omega) ?_
              exact next _ H locs hI ⟨own1, _, cd2, fo1, hR2, hM2, hW2, ho1, f5⟩ ls (lv_sub hl [2, 3, 4, 5, 6] rfl)
            ·
              exact absurd ((lg_cmp_eq _ _).mpr (hag.2 (by first | exact c833 | exact Classical.byContradiction c833))) c843
        ·
          exact absurd hag.1 c826
      · exact absurd hq.1 (by simp)
    · obtain ⟨v2, cd2, hq1, hrest⟩ := hq
      cases hq1
  · obtain ⟨own1, fo1, kc, hq1, hrest⟩ := hq
    cases hq1
set_option maxRecDepth 100000 in
set_option maxHeartbeats 4000000 in
theorem lw_put (hL : mw_L l) (K : mw_K p s m args c code 8 "MapStoreLaw" D mk_cl (mk_tys dA) Ts mk_ty) (hSy : mw_Sy mk_strs s s.heap) (hP0 : mw_P D mk_cl w0 s.heap) (hI : mw_I D mk_cl w0 s.heap w H locs) (hJ : LWJ dA w x y o t) (hsX : va_X sc n f s s.heap) (hsl : sc < s.heap.size) (hsA : ¬ mw_A w0 s.heap.size sc) (ht : t < 512) (hi : i + 5 ≤ n) (hn : n < 2 ^ 31) (hc : cells + 6 ≤ 601024) (hs : slots + 4120 ≤ 7293033) (hl : lv_has ls 8 [(0, .ref sc), (1, .ref x), (2, .ref y), (3, .ref o), (4, .int (nI i))]) (next : LWX l D dA p e s m args below meth c Q w0 sc x y o (t + 1) i (cells + 6) (slots + 4120)) : W p l e LWR s m args below meth c H locs cells slots Q (F0 m 851 ls []) := by
  obtain ⟨own, S, cd, fo, hR, hM, hW, ho, f1⟩ := hJ
  obtain ⟨hx, hb, hml, hown, hts, hK, hTb⟩ := id K
  have hc1 : cells + 6 ≤ 601024 := by omega
  have hs1 : slots + 40 ≤ 7293033 := by omega
  refine lv_aload_n hx hb d_LW_law_851 rfl (lv_at hl 1 rfl) ?_
  refine lv_aload_n hx hb d_LW_law_852 rfl (lv_at hl 0 rfl) ?_
  refine lv_iload hx hb d_LW_law_853 (lv_at hl 4 rfl) ?_
  refine lv_iconst (v := nI 1) hx hb d_LW_law_855 (by decide) ?_
  refine lv_iadd hx hb d_LW_law_856 ?_
  refine mw_ti (nI_add _ _) ?_
  refine mw_sld K hI hsX hsl hsA (i + 1) (by omega) (by omega) d_LW_law_857 ?_
  refine lv_aload_n hx hb d_LW_law_858 rfl (lv_at hl 0 rfl) ?_
  refine lv_iload hx hb d_LW_law_859 (lv_at hl 4 rfl) ?_
  refine lv_iconst (v := nI 2) hx hb d_LW_law_861 (by decide) ?_
  refine lv_iadd hx hb d_LW_law_862 ?_
  refine mw_ti (nI_add _ _) ?_
  refine mw_sld K hI hsX hsl hsA (i + 2) (by omega) (by omega) d_LW_law_863 ?_
  refine lv_aload_n hx hb d_LW_law_864 rfl (lv_at hl 0 rfl) ?_
  refine lv_iload hx hb d_LW_law_865 (lv_at hl 4 rfl) ?_
  refine lv_iconst (v := nI 3) hx hb d_LW_law_867 (by decide) ?_
  refine lv_iadd hx hb d_LW_law_868 ?_
  refine mw_ti (nI_add _ _) ?_
  refine mw_sld K hI hsX hsl hsA (i + 3) (by omega) (by omega) d_LW_law_869 ?_
  refine lv_aload_n hx hb d_LW_law_870 rfl (lv_at hl 3 rfl) ?_
  refine mw_call (rest := []) K hSy hP0 hI (c_LW_put l D dA hL hR hW (by omega) ho f1 (f (i + 1)) (f (i + 2)) (f (i + 3))) (mx_invSH hx hown (hts _ tw_525) (hts _ tw_526) (hts _ tw_20) (hts _ tw_527) (by decide) (g := F0 m 871 ls [.ref o, .int (f (i + 3)), .int (f (i + 2)), .int (f (i + 1)), .ref x]) rfl (argsL := [.ref x, .int (f (i + 1)), .int (f (i + 2)), .int (f (i + 3)), .ref o]) (rest := []) np_LW_put rfl (by rw [hb]; exact d_LW_law_871)) hl.1 d_LW_law_871 ⟨Nat.le_of_ble_eq_true rfl, Nat.le_of_ble_eq_true rfl⟩ (Or.inr ⟨_, _, _, List.mem_cons_self⟩) (mk_wsH tw_527 hts) (fun a9 U9 h9 => Ts_warm hts _ tw_20 a9 U9 h9) ⟨hc1, hs1⟩ (fun v w' H locs hq hI => ?_) (fun k x w' H locs hq hI hX => ?_)
  · obtain ⟨own1, fo1, kc, hq1, hR1, f3, hF1, hok, hbad⟩ := hq
    cases hq1
    refine W.eq (g2 := F0 m 874 ls [.int kc]) rfl ?_
    have hM1 := hM.keepL hF1 ho
    have ho1 := (hF1 _ _ f1).1.trans ho
    obtain ⟨A, fe, fk, ec, kc9, fi, fl, hw, hR9⟩ := id hM1
    have hc2 : cells + 6 + 0 ≤ 601024 := by omega
    have hs2 : slots + 40 + 0 ≤ 7293033 := by omega
    refine lv_istore (lv' := [(5, .int kc), (0, .ref sc), (1, .ref x), (2, .ref y), (3, .ref o), (4, .int (nI i))]) hx hb d_LW_law_874 hl (by decide) rfl (fun ls hl => ?_)
    refine lv_aload_n hx hb d_LW_law_876 rfl (lv_at hl 3 rfl) ?_
    refine lv_aload_n hx hb d_LW_law_877 rfl (lv_at hl 1 rfl) ?_
    refine lv_iload hx hb d_LW_law_878 (lv_at hl 5 rfl) ?_
    refine lv_iconst (v := nI 1) hx hb d_LW_law_880 (by decide) ?_
    refine lv_iadd hx hb d_LW_law_881 ?_
    refine mw_ti (nI_add _ _) ?_
    refine mw_sld K hI hsX hsl hsA (i + 1) (by omega) (by omega) d_LW_law_882 ?_
    refine lv_aload_n hx hb d_LW_law_883 rfl (lv_at hl 1 rfl) ?_
    refine lv_iload hx hb d_LW_law_884 (lv_at hl 5 rfl) ?_
    refine lv_iconst (v := nI 2) hx hb d_LW_law_886 (by decide) ?_
    refine lv_iadd hx hb d_LW_law_887 ?_
    refine mw_ti (nI_add _ _) ?_
    refine mw_sld K hI hsX hsl hsA (i + 2) (by omega) (by omega) d_LW_law_888 ?_
    refine lv_aload_n hx hb d_LW_law_889 rfl (lv_at hl 1 rfl) ?_
    refine lv_iload hx hb d_LW_law_890 (lv_at hl 5 rfl) ?_
    refine lv_iconst (v := nI 3) hx hb d_LW_law_892 (by decide) ?_
    refine lv_iadd hx hb d_LW_law_893 ?_
    refine mw_ti (nI_add _ _) ?_
    refine mw_sld K hI hsX hsl hsA (i + 3) (by omega) (by omega) d_LW_law_894 ?_
    refine mw_call (rest := []) K hSy hP0 hI (c_MO_put l D dA hM1 hW (by omega) (f (i + 1)) (f (i + 2)) (f (i + 3))) (mx_invV hx hown (hts _ tw_772) (hts _ tw_773) (hts _ tw_774) (hts _ tw_775) (by decide) (b := y) (mw_rc K hI hw.o rfl) (g := F0 m 895 ls [.int (f (i + 3)), .int (f (i + 2)), .int (f (i + 1)), .ref y]) rfl (argsL := [.int (f (i + 1)), .int (f (i + 2)), .int (f (i + 3))]) (rest := []) np_MO_put rfl (by rw [hb]; exact d_LW_law_895)) hl.1 d_LW_law_895 ⟨Nat.le_of_ble_eq_true rfl, Nat.le_of_ble_eq_true rfl⟩ (Or.inl ⟨_, _, List.mem_cons_self⟩) (mk_ws tw_775 hts) (fun a9 U9 h9 => Ts_warm hts _ tw_23 a9 U9 h9) ⟨hc2, hs2⟩ (fun v w' H locs hq hI => ?_) (fun k x w' H locs hq hI hX => ?_)
    · obtain ⟨v2, cd2, hq1, hM2, hF2, hok2, hbad2⟩ := hq
      cases hq1
      refine W.eq (g2 := F0 m 898 ls [.int v2]) rfl ?_
      obtain ⟨A2, fe2, fk2, ec2, kc2, fi2, fl2, hw2, hR92⟩ := id hM2
      have f5 := hF2.att f3 (by rw [ho1]; decide)
      have hR2 := hR1.keep hF2
      have hW2 : wf_S (t + 1) (sp_PUT S (f (i + 1)) (f (i + 2)) (f (i + 3))).1 := wf_PUT hW (f (i + 1)) (f (i + 2)) (f (i + 3))
      have hag : cd2 = kc ∧ (kc = nI 0 → fo1 0 = v2.toInt64) := by
        cases hres : (sp_PUT S (f (i + 1)) (f (i + 2)) (f (i + 3))).2 with
        | inl u =>
          obtain ⟨a1, a2⟩ := hok u.toInt64 (congrArg sL hres)
          obtain ⟨b1, b2⟩ := hok2 u hres
          exact ⟨by rw [b2, a1], fun _ => by rw [a2, b1]⟩
        | inr k =>
          have a1 := hbad k (congrArg sL hres)
          have b1 := hbad2 k hres
          exact ⟨by rw [a1, b1], fun z => absurd (a1.symm.trans z) (kO_ne k)⟩
      have hc3 : cells + 6 + 0 + 0 ≤ 601024 := by omega
      have hs3 : slots + 40 + 0 + 0 ≤ 7293033 := by omega
      refine lv_istore (lv' := [(6, .int v2), (5, .int kc), (0, .ref sc), (1, .ref x), (2, .ref y), (3, .ref o), (4, .int (nI i))]) hx hb d_LW_law_898 hl (by decide) rfl (fun ls hl => ?_)
      refine lv_aload_n hx hb d_LW_law_900 rfl (lv_at hl 4 rfl) ?_
      refine mw_call (rest := []) K hSy hP0 hI (c_MO_thrown l D dA hw2) (mx_invV hx hown (hts _ tw_666) (hts _ tw_667) (hts _ tw_668) (hts _ tw_669) (by decide) (b := y) (mw_rc K hI hw2.o rfl) (g := F0 m 901 ls [.ref y]) rfl (argsL := []) (rest := []) np_MO_thrown rfl (by rw [hb]; exact d_LW_law_901)) hl.1 d_LW_law_901 ⟨Nat.le_of_ble_eq_true rfl, Nat.le_of_ble_eq_true rfl⟩ (Or.inl ⟨_, _, List.mem_cons_self⟩) (mk_ws tw_669 hts) (fun a9 U9 h9 => Ts_warm hts _ tw_23 a9 U9 h9) ⟨hc3, hs3⟩ (fun v w' H locs hq hI => ?_) (fun k x w' H locs hq hI hX => ?_)
      · obtain ⟨hq1, hq2⟩ := hq
        cases hq1
        rw [hq2] at hI
        refine W.eq (g2 := F0 m 904 ls [.int cd2]) rfl ?_
        refine lv_iload hx hb d_LW_law_904 (lv_at hl 1 rfl) ?_
        refine lv_icmp_eq (tgt := 911) hx hb d_LW_law_906 (by decide) (fun c906 => ?_) (fun c906 => ?_)
        ·
          refine lv_iload hx hb d_LW_law_911 (lv_at hl 1 rfl) ?_
          refine lv_if_ne (tgt := 928) hx hb d_LW_law_913 (by decide) (fun c913 => ?_) (fun c913 => ?_)
          ·
            refine lv_goto (tgt := 1092) hx hb d_LW_law_928 (by decide) ?_
            refine W.widen (k := cells + 6) (n := slots + 4120) (by omega) (by omega) ?_
            exact next _ H locs hI ⟨own1, _, cd2, fo1, hR2, hM2, hW2, ho1, f5⟩ ls (lv_sub hl [2, 3, 4, 5, 6] rfl)
          ·
            refine lv_aload_n hx hb d_LW_law_916 rfl (lv_at hl 5 rfl) ?_
            refine lv_iconst (v := nI 0) hx hb d_LW_law_917 (by decide) ?_
            refine mw_lald K hI tJ f5 rfl 0 rfl (by first | assumption | omega) (by omega) d_LW_law_918 ?_
            refine lv_iload hx hb d_LW_law_919 (lv_at hl 0 rfl) ?_
            refine lv_i2l hx hb d_LW_law_921 rfl ?_
            refine W.lcmp hx hb d_LW_law_922 ?_
            refine lv_if_eq (tgt := 928) hx hb d_LW_law_923 (by decide) (fun c923 => ?_) (fun c923 => ?_)
            ·
              refine lv_goto (tgt := 1092) hx hb d_LW_law_928 (by decide) ?_
              refine W.widen (k := cells + 6) (n := slots + 4120) (by omega) (by omega) ?_
              exact next _ H locs hI ⟨own1, _, cd2, fo1, hR2, hM2, hW2, ho1, f5⟩ ls (lv_sub hl [2, 3, 4, 5, 6] rfl)
            ·
              exact absurd ((lg_cmp_eq _ _).mpr (hag.2 (by first | exact c913 | exact Classical.byContradiction c913))) c923
        ·
          exact absurd hag.1 c906
      · exact absurd hq.1 (by simp)
    · obtain ⟨v2, cd2, hq1, hrest⟩ := hq
      cases hq1
  · obtain ⟨own1, fo1, kc, hq1, hrest⟩ := hq
    cases hq1
set_option maxRecDepth 100000 in
set_option maxHeartbeats 4000000 in
theorem lw_take (hL : mw_L l) (K : mw_K p s m args c code 8 "MapStoreLaw" D mk_cl (mk_tys dA) Ts mk_ty) (hSy : mw_Sy mk_strs s s.heap) (hP0 : mw_P D mk_cl w0 s.heap) (hI : mw_I D mk_cl w0 s.heap w H locs) (hJ : LWJ dA w x y o t) (hsX : va_X sc n f s s.heap) (hsl : sc < s.heap.size) (hsA : ¬ mw_A w0 s.heap.size sc) (ht : t < 512) (hi : i + 5 ≤ n) (hn : n < 2 ^ 31) (hc : cells + 6 ≤ 601024) (hs : slots + 4120 ≤ 7293033) (hl : lv_has ls 8 [(0, .ref sc), (1, .ref x), (2, .ref y), (3, .ref o), (4, .int (nI i))]) (next : LWX l D dA p e s m args below meth c Q w0 sc x y o (t + 1) i (cells + 6) (slots + 4120)) : W p l e LWR s m args below meth c H locs cells slots Q (F0 m 931 ls []) := by
  obtain ⟨own, S, cd, fo, hR, hM, hW, ho, f1⟩ := hJ
  obtain ⟨hx, hb, hml, hown, hts, hK, hTb⟩ := id K
  have hc1 : cells + 6 ≤ 601024 := by omega
  have hs1 : slots + 40 ≤ 7293033 := by omega
  refine lv_aload_n hx hb d_LW_law_931 rfl (lv_at hl 1 rfl) ?_
  refine lv_aload_n hx hb d_LW_law_932 rfl (lv_at hl 0 rfl) ?_
  refine lv_iload hx hb d_LW_law_933 (lv_at hl 4 rfl) ?_
  refine lv_iconst (v := nI 1) hx hb d_LW_law_935 (by decide) ?_
  refine lv_iadd hx hb d_LW_law_936 ?_
  refine mw_ti (nI_add _ _) ?_
  refine mw_sld K hI hsX hsl hsA (i + 1) (by omega) (by omega) d_LW_law_937 ?_
  refine lv_aload_n hx hb d_LW_law_938 rfl (lv_at hl 0 rfl) ?_
  refine lv_iload hx hb d_LW_law_939 (lv_at hl 4 rfl) ?_
  refine lv_iconst (v := nI 2) hx hb d_LW_law_941 (by decide) ?_
  refine lv_iadd hx hb d_LW_law_942 ?_
  refine mw_ti (nI_add _ _) ?_
  refine mw_sld K hI hsX hsl hsA (i + 2) (by omega) (by omega) d_LW_law_943 ?_
  refine lv_aload_n hx hb d_LW_law_944 rfl (lv_at hl 3 rfl) ?_
  refine mw_call (rest := []) K hSy hP0 hI (c_LW_take l D dA hL hR hW (by omega) ho f1 (f (i + 1)) (f (i + 2))) (mx_invSH hx hown (hts _ tw_559) (hts _ tw_560) (hts _ tw_20) (hts _ tw_561) (by decide) (g := F0 m 945 ls [.ref o, .int (f (i + 2)), .int (f (i + 1)), .ref x]) rfl (argsL := [.ref x, .int (f (i + 1)), .int (f (i + 2)), .ref o]) (rest := []) np_LW_take rfl (by rw [hb]; exact d_LW_law_945)) hl.1 d_LW_law_945 ⟨Nat.le_of_ble_eq_true rfl, Nat.le_of_ble_eq_true rfl⟩ (Or.inr ⟨_, _, _, List.mem_cons_self⟩) (mk_wsH tw_561 hts) (fun a9 U9 h9 => Ts_warm hts _ tw_20 a9 U9 h9) ⟨hc1, hs1⟩ (fun v w' H locs hq hI => ?_) (fun k x w' H locs hq hI hX => ?_)
  · obtain ⟨own1, fo1, kc, hq1, hR1, f3, hF1, hok, hbad⟩ := hq
    cases hq1
    refine W.eq (g2 := F0 m 948 ls [.int kc]) rfl ?_
    have hM1 := hM.keepL hF1 ho
    have ho1 := (hF1 _ _ f1).1.trans ho
    obtain ⟨A, fe, fk, ec, kc9, fi, fl, hw, hR9⟩ := id hM1
    have hc2 : cells + 6 + 0 ≤ 601024 := by omega
    have hs2 : slots + 40 + 0 ≤ 7293033 := by omega
    refine lv_istore (lv' := [(5, .int kc), (0, .ref sc), (1, .ref x), (2, .ref y), (3, .ref o), (4, .int (nI i))]) hx hb d_LW_law_948 hl (by decide) rfl (fun ls hl => ?_)
    refine lv_aload_n hx hb d_LW_law_950 rfl (lv_at hl 3 rfl) ?_
    refine lv_aload_n hx hb d_LW_law_951 rfl (lv_at hl 1 rfl) ?_
    refine lv_iload hx hb d_LW_law_952 (lv_at hl 5 rfl) ?_
    refine lv_iconst (v := nI 1) hx hb d_LW_law_954 (by decide) ?_
    refine lv_iadd hx hb d_LW_law_955 ?_
    refine mw_ti (nI_add _ _) ?_
    refine mw_sld K hI hsX hsl hsA (i + 1) (by omega) (by omega) d_LW_law_956 ?_
    refine lv_aload_n hx hb d_LW_law_957 rfl (lv_at hl 1 rfl) ?_
    refine lv_iload hx hb d_LW_law_958 (lv_at hl 5 rfl) ?_
    refine lv_iconst (v := nI 2) hx hb d_LW_law_960 (by decide) ?_
    refine lv_iadd hx hb d_LW_law_961 ?_
    refine mw_ti (nI_add _ _) ?_
    refine mw_sld K hI hsX hsl hsA (i + 2) (by omega) (by omega) d_LW_law_962 ?_
    refine mw_call (rest := []) K hSy hP0 hI (c_MO_take l D dA hM1 hW (by omega) (f (i + 1)) (f (i + 2))) (mx_invV hx hown (hts _ tw_784) (hts _ tw_785) (hts _ tw_786) (hts _ tw_787) (by decide) (b := y) (mw_rc K hI hw.o rfl) (g := F0 m 963 ls [.int (f (i + 2)), .int (f (i + 1)), .ref y]) rfl (argsL := [.int (f (i + 1)), .int (f (i + 2))]) (rest := []) np_MO_take rfl (by rw [hb]; exact d_LW_law_963)) hl.1 d_LW_law_963 ⟨Nat.le_of_ble_eq_true rfl, Nat.le_of_ble_eq_true rfl⟩ (Or.inl ⟨_, _, List.mem_cons_self⟩) (mk_ws tw_787 hts) (fun a9 U9 h9 => Ts_warm hts _ tw_23 a9 U9 h9) ⟨hc2, hs2⟩ (fun v w' H locs hq hI => ?_) (fun k x w' H locs hq hI hX => ?_)
    · obtain ⟨v2, cd2, hq1, hM2, hF2, hok2, hbad2⟩ := hq
      cases hq1
      refine W.eq (g2 := F0 m 966 ls [.int v2]) rfl ?_
      obtain ⟨A2, fe2, fk2, ec2, kc2, fi2, fl2, hw2, hR92⟩ := id hM2
      have f5 := hF2.att f3 (by rw [ho1]; decide)
      have hR2 := hR1.keep hF2
      have hW2 : wf_S (t + 1) (sp_TAKE S (f (i + 1)) (f (i + 2))).1 := (wf_TAKE hW (f (i + 1)) (f (i + 2))).mono (Nat.le_succ t)
      have hag : cd2 = kc ∧ (kc = nI 0 → fo1 0 = v2.toInt64) := by
        cases hres : (sp_TAKE S (f (i + 1)) (f (i + 2))).2 with
        | inl u =>
          obtain ⟨a1, a2⟩ := hok u.toInt64 (congrArg sL hres)
          obtain ⟨b1, b2⟩ := hok2 u hres
          exact ⟨by rw [b2, a1], fun _ => by rw [a2, b1]⟩
        | inr k =>
          have a1 := hbad k (congrArg sL hres)
          have b1 := hbad2 k hres
          exact ⟨by rw [a1, b1], fun z => absurd (a1.symm.trans z) (kO_ne k)⟩
      have hc3 : cells + 6 + 0 + 0 ≤ 601024 := by omega
      have hs3 : slots + 40 + 0 + 0 ≤ 7293033 := by omega
      refine lv_istore (lv' := [(6, .int v2), (5, .int kc), (0, .ref sc), (1, .ref x), (2, .ref y), (3, .ref o), (4, .int (nI i))]) hx hb d_LW_law_966 hl (by decide) rfl (fun ls hl => ?_)
      refine lv_aload_n hx hb d_LW_law_968 rfl (lv_at hl 4 rfl) ?_
      refine mw_call (rest := []) K hSy hP0 hI (c_MO_thrown l D dA hw2) (mx_invV hx hown (hts _ tw_666) (hts _ tw_667) (hts _ tw_668) (hts _ tw_669) (by decide) (b := y) (mw_rc K hI hw2.o rfl) (g := F0 m 969 ls [.ref y]) rfl (argsL := []) (rest := []) np_MO_thrown rfl (by rw [hb]; exact d_LW_law_969)) hl.1 d_LW_law_969 ⟨Nat.le_of_ble_eq_true rfl, Nat.le_of_ble_eq_true rfl⟩ (Or.inl ⟨_, _, List.mem_cons_self⟩) (mk_ws tw_669 hts) (fun a9 U9 h9 => Ts_warm hts _ tw_23 a9 U9 h9) ⟨hc3, hs3⟩ (fun v w' H locs hq hI => ?_) (fun k x w' H locs hq hI hX => ?_)
      · obtain ⟨hq1, hq2⟩ := hq
        cases hq1
        rw [hq2] at hI
        refine W.eq (g2 := F0 m 972 ls [.int cd2]) rfl ?_
        refine lv_iload hx hb d_LW_law_972 (lv_at hl 1 rfl) ?_
        refine lv_icmp_eq (tgt := 979) hx hb d_LW_law_974 (by decide) (fun c974 => ?_) (fun c974 => ?_)
        ·
          refine lv_iload hx hb d_LW_law_979 (lv_at hl 1 rfl) ?_
          refine lv_if_ne (tgt := 996) hx hb d_LW_law_981 (by decide) (fun c981 => ?_) (fun c981 => ?_)
          ·
            refine lv_goto (tgt := 1092) hx hb d_LW_law_996 (by decide) ?_
            refine W.widen (k := cells + 6) (n := slots + 4120) (by omega) (by omega) ?_
            exact next _ H locs hI ⟨own1, _, cd2, fo1, hR2, hM2, hW2, ho1, f5⟩ ls (lv_sub hl [2, 3, 4, 5, 6] rfl)
          ·
            refine lv_aload_n hx hb d_LW_law_984 rfl (lv_at hl 5 rfl) ?_
            refine lv_iconst (v := nI 0) hx hb d_LW_law_985 (by decide) ?_
            refine mw_lald K hI tJ f5 rfl 0 rfl (by first | assumption | omega) (by omega) d_LW_law_986 ?_
            refine lv_iload hx hb d_LW_law_987 (lv_at hl 0 rfl) ?_
            refine lv_i2l hx hb d_LW_law_989 rfl ?_
            refine W.lcmp hx hb d_LW_law_990 ?_
            refine lv_if_eq (tgt := 996) hx hb d_LW_law_991 (by decide) (fun c991 => ?_) (fun c991 => ?_)
            ·
              refine lv_goto (tgt := 1092) hx hb d_LW_law_996 (by decide) ?_
              refine W.widen (k := cells + 6) (n := slots + 4120) (by omega) (by omega) ?_
              exact next _ H locs hI ⟨own1, _, cd2, fo1, hR2, hM2, hW2, ho1, f5⟩ ls (lv_sub hl [2, 3, 4, 5, 6] rfl)
            ·
              exact absurd ((lg_cmp_eq _ _).mpr (hag.2 (by first | exact c981 | exact Classical.byContradiction c981))) c991
        ·
          exact absurd hag.1 c974
      · exact absurd hq.1 (by simp)
    · obtain ⟨v2, cd2, hq1, hrest⟩ := hq
      cases hq1
  · obtain ⟨own1, fo1, kc, hq1, hrest⟩ := hq
    cases hq1
set_option maxRecDepth 100000 in
set_option maxHeartbeats 4000000 in
theorem lw_next (hL : mw_L l) (K : mw_K p s m args c code 8 "MapStoreLaw" D mk_cl (mk_tys dA) Ts mk_ty) (hSy : mw_Sy mk_strs s s.heap) (hP0 : mw_P D mk_cl w0 s.heap) (hI : mw_I D mk_cl w0 s.heap w H locs) (hJ : LWJ dA w x y o t) (hsX : va_X sc n f s s.heap) (hsl : sc < s.heap.size) (hsA : ¬ mw_A w0 s.heap.size sc) (ht : t < 512) (hi : i + 5 ≤ n) (hn : n < 2 ^ 31) (hc : cells + 6 ≤ 601024) (hs : slots + 4120 ≤ 7293033) (hl : lv_has ls 8 [(0, .ref sc), (1, .ref x), (2, .ref y), (3, .ref o), (4, .int (nI i))]) (next : LWX l D dA p e s m args below meth c Q w0 sc x y o (t + 1) i (cells + 6) (slots + 4120)) : W p l e LWR s m args below meth c H locs cells slots Q (F0 m 999 ls []) := by
  obtain ⟨own, S, cd, fo, hR, hM, hW, ho, f1⟩ := hJ
  obtain ⟨hx, hb, hml, hown, hts, hK, hTb⟩ := id K
  have hc1 : cells + 6 ≤ 601024 := by omega
  have hs1 : slots + 40 ≤ 7293033 := by omega
  refine lv_aload_n hx hb d_LW_law_999 rfl (lv_at hl 1 rfl) ?_
  refine lv_aload_n hx hb d_LW_law_1000 rfl (lv_at hl 0 rfl) ?_
  refine lv_iload hx hb d_LW_law_1001 (lv_at hl 4 rfl) ?_
  refine lv_iconst (v := nI 1) hx hb d_LW_law_1003 (by decide) ?_
  refine lv_iadd hx hb d_LW_law_1004 ?_
  refine mw_ti (nI_add _ _) ?_
  refine mw_sld K hI hsX hsl hsA (i + 1) (by omega) (by omega) d_LW_law_1005 ?_
  refine lv_aload_n hx hb d_LW_law_1006 rfl (lv_at hl 0 rfl) ?_
  refine lv_iload hx hb d_LW_law_1007 (lv_at hl 4 rfl) ?_
  refine lv_iconst (v := nI 2) hx hb d_LW_law_1009 (by decide) ?_
  refine lv_iadd hx hb d_LW_law_1010 ?_
  refine mw_ti (nI_add _ _) ?_
  refine mw_sld K hI hsX hsl hsA (i + 2) (by omega) (by omega) d_LW_law_1011 ?_
  refine lv_aload_n hx hb d_LW_law_1012 rfl (lv_at hl 0 rfl) ?_
  refine lv_iload hx hb d_LW_law_1013 (lv_at hl 4 rfl) ?_
  refine lv_iconst (v := nI 3) hx hb d_LW_law_1015 (by decide) ?_
  refine lv_iadd hx hb d_LW_law_1016 ?_
  refine mw_ti (nI_add _ _) ?_
  refine mw_sld K hI hsX hsl hsA (i + 3) (by omega) (by omega) d_LW_law_1017 ?_
  refine lv_aload_n hx hb d_LW_law_1018 rfl (lv_at hl 3 rfl) ?_
  refine mw_call (rest := []) K hSy hP0 hI (c_LW_next l D dA hL hR hW (by omega) ho f1 (f (i + 1)) (f (i + 2)) (f (i + 3))) (mx_invSH hx hown (hts _ tw_576) (hts _ tw_577) (hts _ tw_20) (hts _ tw_578) (by decide) (g := F0 m 1019 ls [.ref o, .int (f (i + 3)), .int (f (i + 2)), .int (f (i + 1)), .ref x]) rfl (argsL := [.ref x, .int (f (i + 1)), .int (f (i + 2)), .int (f (i + 3)), .ref o]) (rest := []) np_LW_next rfl (by rw [hb]; exact d_LW_law_1019)) hl.1 d_LW_law_1019 ⟨Nat.le_of_ble_eq_true rfl, Nat.le_of_ble_eq_true rfl⟩ (Or.inr ⟨_, _, _, List.mem_cons_self⟩) (mk_wsH tw_578 hts) (fun a9 U9 h9 => Ts_warm hts _ tw_20 a9 U9 h9) ⟨hc1, hs1⟩ (fun v w' H locs hq hI => ?_) (fun k x w' H locs hq hI hX => ?_)
  · obtain ⟨own1, fo1, kc, hq1, hR1, f3, hF1, hok, hbad⟩ := hq
    cases hq1
    refine W.eq (g2 := F0 m 1022 ls [.int kc]) rfl ?_
    have hM1 := hM.keepL hF1 ho
    have ho1 := (hF1 _ _ f1).1.trans ho
    obtain ⟨A, fe, fk, ec, kc9, fi, fl, hw, hR9⟩ := id hM1
    have hc2 : cells + 6 + 0 ≤ 601024 := by omega
    have hs2 : slots + 40 + 0 ≤ 7293033 := by omega
    refine lv_istore (lv' := [(5, .int kc), (0, .ref sc), (1, .ref x), (2, .ref y), (3, .ref o), (4, .int (nI i))]) hx hb d_LW_law_1022 hl (by decide) rfl (fun ls hl => ?_)
    refine lv_aload_n hx hb d_LW_law_1024 rfl (lv_at hl 3 rfl) ?_
    refine lv_aload_n hx hb d_LW_law_1025 rfl (lv_at hl 1 rfl) ?_
    refine lv_iload hx hb d_LW_law_1026 (lv_at hl 5 rfl) ?_
    refine lv_iconst (v := nI 1) hx hb d_LW_law_1028 (by decide) ?_
    refine lv_iadd hx hb d_LW_law_1029 ?_
    refine mw_ti (nI_add _ _) ?_
    refine mw_sld K hI hsX hsl hsA (i + 1) (by omega) (by omega) d_LW_law_1030 ?_
    refine lv_aload_n hx hb d_LW_law_1031 rfl (lv_at hl 1 rfl) ?_
    refine lv_iload hx hb d_LW_law_1032 (lv_at hl 5 rfl) ?_
    refine lv_iconst (v := nI 2) hx hb d_LW_law_1034 (by decide) ?_
    refine lv_iadd hx hb d_LW_law_1035 ?_
    refine mw_ti (nI_add _ _) ?_
    refine mw_sld K hI hsX hsl hsA (i + 2) (by omega) (by omega) d_LW_law_1036 ?_
    refine lv_aload_n hx hb d_LW_law_1037 rfl (lv_at hl 1 rfl) ?_
    refine lv_iload hx hb d_LW_law_1038 (lv_at hl 5 rfl) ?_
    refine lv_iconst (v := nI 3) hx hb d_LW_law_1040 (by decide) ?_
    refine lv_iadd hx hb d_LW_law_1041 ?_
    refine mw_ti (nI_add _ _) ?_
    refine mw_sld K hI hsX hsl hsA (i + 3) (by omega) (by omega) d_LW_law_1042 ?_
    refine mw_call (rest := []) K hSy hP0 hI (c_MO_next l D dA hM1 hW (f (i + 1)) (f (i + 2)) (f (i + 3))) (mx_invV hx hown (hts _ tw_793) (hts _ tw_794) (hts _ tw_795) (hts _ tw_796) (by decide) (b := y) (mw_rc K hI hw.o rfl) (g := F0 m 1043 ls [.int (f (i + 3)), .int (f (i + 2)), .int (f (i + 1)), .ref y]) rfl (argsL := [.int (f (i + 1)), .int (f (i + 2)), .int (f (i + 3))]) (rest := []) np_MO_next rfl (by rw [hb]; exact d_LW_law_1043)) hl.1 d_LW_law_1043 ⟨Nat.le_of_ble_eq_true rfl, Nat.le_of_ble_eq_true rfl⟩ (Or.inl ⟨_, _, List.mem_cons_self⟩) (mk_ws tw_796 hts) (fun a9 U9 h9 => Ts_warm hts _ tw_23 a9 U9 h9) ⟨hc2, hs2⟩ (fun v w' H locs hq hI => ?_) (fun k x w' H locs hq hI hX => ?_)
    · obtain ⟨v2, cd2, hq1, hM2, hF2, hok2, hbad2⟩ := hq
      cases hq1
      refine W.eq (g2 := F0 m 1046 ls [.int v2]) rfl ?_
      obtain ⟨A2, fe2, fk2, ec2, kc2, fi2, fl2, hw2, hR92⟩ := id hM2
      have f5 := hF2.att f3 (by rw [ho1]; decide)
      have hR2 := hR1.keep hF2
      have hW2 : wf_S (t + 1) (sp_NEXT S (f (i + 1)) (f (i + 2)) (f (i + 3))).1 := (wf_NEXT hM hW (f (i + 1)) (f (i + 2)) (f (i + 3))).mono (Nat.le_succ t)
      have hag : cd2 = kc ∧ (kc = nI 0 → fo1 0 = v2.toInt64) := by
        cases hres : (sp_NEXT S (f (i + 1)) (f (i + 2)) (f (i + 3))).2 with
        | inl u =>
          obtain ⟨a1, a2⟩ := hok u.toInt64 (congrArg sL hres)
          obtain ⟨b1, b2⟩ := hok2 u hres
          exact ⟨by rw [b2, a1], fun _ => by rw [a2, b1]⟩
        | inr k =>
          have a1 := hbad k (congrArg sL hres)
          have b1 := hbad2 k hres
          exact ⟨by rw [a1, b1], fun z => absurd (a1.symm.trans z) (kO_ne k)⟩
      have hc3 : cells + 6 + 0 + 0 ≤ 601024 := by omega
      have hs3 : slots + 40 + 0 + 0 ≤ 7293033 := by omega
      refine lv_istore (lv' := [(6, .int v2), (5, .int kc), (0, .ref sc), (1, .ref x), (2, .ref y), (3, .ref o), (4, .int (nI i))]) hx hb d_LW_law_1046 hl (by decide) rfl (fun ls hl => ?_)
      refine lv_aload_n hx hb d_LW_law_1048 rfl (lv_at hl 4 rfl) ?_
      refine mw_call (rest := []) K hSy hP0 hI (c_MO_thrown l D dA hw2) (mx_invV hx hown (hts _ tw_666) (hts _ tw_667) (hts _ tw_668) (hts _ tw_669) (by decide) (b := y) (mw_rc K hI hw2.o rfl) (g := F0 m 1049 ls [.ref y]) rfl (argsL := []) (rest := []) np_MO_thrown rfl (by rw [hb]; exact d_LW_law_1049)) hl.1 d_LW_law_1049 ⟨Nat.le_of_ble_eq_true rfl, Nat.le_of_ble_eq_true rfl⟩ (Or.inl ⟨_, _, List.mem_cons_self⟩) (mk_ws tw_669 hts) (fun a9 U9 h9 => Ts_warm hts _ tw_23 a9 U9 h9) ⟨hc3, hs3⟩ (fun v w' H locs hq hI => ?_) (fun k x w' H locs hq hI hX => ?_)
      · obtain ⟨hq1, hq2⟩ := hq
        cases hq1
        rw [hq2] at hI
        refine W.eq (g2 := F0 m 1052 ls [.int cd2]) rfl ?_
        refine lv_iload hx hb d_LW_law_1052 (lv_at hl 1 rfl) ?_
        refine lv_icmp_eq (tgt := 1059) hx hb d_LW_law_1054 (by decide) (fun c1054 => ?_) (fun c1054 => ?_)
        ·
          refine lv_iload hx hb d_LW_law_1059 (lv_at hl 1 rfl) ?_
          refine lv_if_ne (tgt := 1076) hx hb d_LW_law_1061 (by decide) (fun c1061 => ?_) (fun c1061 => ?_)
          ·
            refine lv_goto (tgt := 1092) hx hb d_LW_law_1076 (by decide) ?_
            refine W.widen (k := cells + 6) (n := slots + 4120) (by omega) (by omega) ?_
            exact next _ H locs hI ⟨own1, _, cd2, fo1, hR2, hM2, hW2, ho1, f5⟩ ls (lv_sub hl [2, 3, 4, 5, 6] rfl)
          ·
            refine lv_aload_n hx hb d_LW_law_1064 rfl (lv_at hl 5 rfl) ?_
            refine lv_iconst (v := nI 0) hx hb d_LW_law_1065 (by decide) ?_
            refine mw_lald K hI tJ f5 rfl 0 rfl (by first | assumption | omega) (by omega) d_LW_law_1066 ?_
            refine lv_iload hx hb d_LW_law_1067 (lv_at hl 0 rfl) ?_
            refine lv_i2l hx hb d_LW_law_1069 rfl ?_
            refine W.lcmp hx hb d_LW_law_1070 ?_
            refine lv_if_eq (tgt := 1076) hx hb d_LW_law_1071 (by decide) (fun c1071 => ?_) (fun c1071 => ?_)
            ·
              refine lv_goto (tgt := 1092) hx hb d_LW_law_1076 (by decide) ?_
              refine W.widen (k := cells + 6) (n := slots + 4120) (by omega) (by omega) ?_
              exact next _ H locs hI ⟨own1, _, cd2, fo1, hR2, hM2, hW2, ho1, f5⟩ ls (lv_sub hl [2, 3, 4, 5, 6] rfl)
            ·
              exact absurd ((lg_cmp_eq _ _).mpr (hag.2 (by first | exact c1061 | exact Classical.byContradiction c1061))) c1071
        ·
          exact absurd hag.1 c1054
      · exact absurd hq.1 (by simp)
    · obtain ⟨v2, cd2, hq1, hrest⟩ := hq
      cases hq1
  · obtain ⟨own1, fo1, kc, hq1, hrest⟩ := hq
    cases hq1
set_option maxRecDepth 100000 in
set_option maxHeartbeats 4000000 in
theorem lw_desk (hL : mw_L l) (K : mw_K p s m args c code 8 "MapStoreLaw" D mk_cl (mk_tys dA) Ts mk_ty) (hSy : mw_Sy mk_strs s s.heap) (hP0 : mw_P D mk_cl w0 s.heap) (hI : mw_I D mk_cl w0 s.heap w H locs) (hJ : LWJ dA w x y o t) (hsX : va_X sc n f s s.heap) (hsl : sc < s.heap.size) (hsA : ¬ mw_A w0 s.heap.size sc) (ht : t < 512) (hi : i + 5 ≤ n) (hn : n < 2 ^ 31) (hc : cells + 6 ≤ 601024) (hs : slots + 4120 ≤ 7293033) (hl : lv_has ls 8 [(0, .ref sc), (1, .ref x), (2, .ref y), (3, .ref o), (4, .int (nI i))]) (next : LWX l D dA p e s m args below meth c Q w0 sc x y o (t + 1) i (cells + 6) (slots + 4120)) : W p l e LWR s m args below meth c H locs cells slots Q (F0 m 329 ls []) := by
  obtain ⟨own, S, cd, fo, hR, hM, hW, ho, f1⟩ := hJ
  obtain ⟨hx, hb, hml, hown, hts, hK, hTb⟩ := id K
  have hc1 : cells + 1 ≤ 601024 := by omega
  have hs1 : slots + 6 ≤ 7293033 := by omega
  refine lv_aload_n hx hb d_LW_law_329 rfl (lv_at hl 1 rfl) ?_
  refine lv_aload_n hx hb d_LW_law_330 rfl (lv_at hl 0 rfl) ?_
  refine lv_iload hx hb d_LW_law_331 (lv_at hl 4 rfl) ?_
  refine lv_iconst (v := nI 1) hx hb d_LW_law_333 (by decide) ?_
  refine lv_iadd hx hb d_LW_law_334 ?_
  refine mw_ti (nI_add _ _) ?_
  refine mw_sld K hI hsX hsl hsA (i + 1) (by omega) (by omega) d_LW_law_335 ?_
  refine lv_aload_n hx hb d_LW_law_336 rfl (lv_at hl 3 rfl) ?_
  refine mw_call (rest := []) K hSy hP0 hI (c_LW_desk l D dA hL hR hW (by omega) ho f1 (f (i + 1))) (mx_invSH hx hown (hts _ tw_365) (hts _ tw_366) (hts _ tw_20) (hts _ tw_367) (by decide) (g := F0 m 337 ls [.ref o, .int (f (i + 1)), .ref x]) rfl (argsL := [.ref x, .int (f (i + 1)), .ref o]) (rest := []) np_LW_desk rfl (by rw [hb]; exact d_LW_law_337)) hl.1 d_LW_law_337 ⟨Nat.le_of_ble_eq_true rfl, Nat.le_of_ble_eq_true rfl⟩ (Or.inr ⟨_, _, _, List.mem_cons_self⟩) (mk_wsH tw_367 hts) (fun a9 U9 h9 => Ts_warm hts _ tw_20 a9 U9 h9) ⟨hc1, hs1⟩ (fun v w' H locs hq hI => ?_) (fun k x w' H locs hq hI hX => ?_)
  · obtain ⟨own1, fo1, kc, hq1, hR1, f3, hF1, hok, hbad⟩ := hq
    cases hq1
    refine W.eq (g2 := F0 m 340 ls [.int kc]) rfl ?_
    have hM1 := hM.keepL hF1 ho
    have ho1 := (hF1 _ _ f1).1.trans ho
    obtain ⟨A, fe, fk, ec, kc9, fi, fl, hw, hR9⟩ := id hM1
    have hc2 : cells + 1 + 0 ≤ 601024 := by omega
    have hs2 : slots + 6 + 0 ≤ 7293033 := by omega
    refine lv_istore (lv' := [(5, .int kc), (0, .ref sc), (1, .ref x), (2, .ref y), (3, .ref o), (4, .int (nI i))]) hx hb d_LW_law_340 hl (by decide) rfl (fun ls hl => ?_)
    refine lv_aload_n hx hb d_LW_law_342 rfl (lv_at hl 3 rfl) ?_
    refine lv_aload_n hx hb d_LW_law_343 rfl (lv_at hl 1 rfl) ?_
    refine lv_iload hx hb d_LW_law_344 (lv_at hl 5 rfl) ?_
    refine lv_iconst (v := nI 1) hx hb d_LW_law_346 (by decide) ?_
    refine lv_iadd hx hb d_LW_law_347 ?_
    refine mw_ti (nI_add _ _) ?_
    refine mw_sld K hI hsX hsl hsA (i + 1) (by omega) (by omega) d_LW_law_348 ?_
    refine mw_call (rest := []) K hSy hP0 hI (c_MO_desk l D dA hM1 hW (f (i + 1))) (mx_invV hx hown (hts _ tw_702) (hts _ tw_703) (hts _ tw_704) (hts _ tw_705) (by decide) (b := y) (mw_rc K hI hw.o rfl) (g := F0 m 349 ls [.int (f (i + 1)), .ref y]) rfl (argsL := [.int (f (i + 1))]) (rest := []) np_MO_desk rfl (by rw [hb]; exact d_LW_law_349)) hl.1 d_LW_law_349 ⟨Nat.le_of_ble_eq_true rfl, Nat.le_of_ble_eq_true rfl⟩ (Or.inl ⟨_, _, List.mem_cons_self⟩) (mk_ws tw_705 hts) (fun a9 U9 h9 => Ts_warm hts _ tw_23 a9 U9 h9) ⟨hc2, hs2⟩ (fun v w' H locs hq hI => ?_) (fun k x w' H locs hq hI hX => ?_)
    · obtain ⟨v2, cd2, hq1, hM2, hF2, hq9⟩ := hq
      cases hq1
      refine W.eq (g2 := F0 m 352 ls [.long v2]) rfl ?_
      obtain ⟨A2, fe2, fk2, ec2, kc2, fi2, fl2, hw2, hR92⟩ := id hM2
      have f5 := hF2.att f3 (by rw [ho1]; decide)
      have hR2 := hR1.keep hF2
      have hW2 : wf_S (t + 1) S := hW.mono (Nat.le_succ t)
      have hag : cd2 = kc ∧ (kc = nI 0 → fo1 0 = v2) := by
        rcases hq9 with ⟨h1, h2, h3⟩ | ⟨h1, h2⟩
        · obtain ⟨a1, a2⟩ := hok _ (if_pos h1)
          exact ⟨by rw [h3, a1], fun _ => by rw [a2, h2]⟩
        · have a1 := hbad 2 (if_neg h1)
          exact ⟨h2.trans a1.symm, fun z => absurd (a1.symm.trans z) (kO_ne 2)⟩
      have hc3 : cells + 1 + 0 + 0 ≤ 601024 := by omega
      have hs3 : slots + 6 + 0 + 0 ≤ 7293033 := by omega
      refine lv_lstore (lv' := [(6, .long v2), (5, .int kc), (0, .ref sc), (1, .ref x), (2, .ref y), (3, .ref o), (4, .int (nI i))]) hx hb d_LW_law_352 hl (by decide) rfl (fun ls hl => ?_)
      refine lv_aload_n hx hb d_LW_law_354 rfl (lv_at hl 4 rfl) ?_
      refine mw_call (rest := []) K hSy hP0 hI (c_MO_thrown l D dA hw2) (mx_invV hx hown (hts _ tw_666) (hts _ tw_667) (hts _ tw_668) (hts _ tw_669) (by decide) (b := y) (mw_rc K hI hw2.o rfl) (g := F0 m 355 ls [.ref y]) rfl (argsL := []) (rest := []) np_MO_thrown rfl (by rw [hb]; exact d_LW_law_355)) hl.1 d_LW_law_355 ⟨Nat.le_of_ble_eq_true rfl, Nat.le_of_ble_eq_true rfl⟩ (Or.inl ⟨_, _, List.mem_cons_self⟩) (mk_ws tw_669 hts) (fun a9 U9 h9 => Ts_warm hts _ tw_23 a9 U9 h9) ⟨hc3, hs3⟩ (fun v w' H locs hq hI => ?_) (fun k x w' H locs hq hI hX => ?_)
      · obtain ⟨hq1, hq2⟩ := hq
        cases hq1
        rw [hq2] at hI
        refine W.eq (g2 := F0 m 358 ls [.int cd2]) rfl ?_
        refine lv_iload hx hb d_LW_law_358 (lv_at hl 1 rfl) ?_
        refine lv_icmp_eq (tgt := 365) hx hb d_LW_law_360 (by decide) (fun c360 => ?_) (fun c360 => ?_)
        ·
          refine lv_iload hx hb d_LW_law_365 (lv_at hl 1 rfl) ?_
          refine lv_if_ne (tgt := 381) hx hb d_LW_law_367 (by decide) (fun c367 => ?_) (fun c367 => ?_)
          ·
            refine lv_goto (tgt := 1092) hx hb d_LW_law_381 (by decide) ?_
            refine W.widen (k := cells + 6) (n := slots + 4120) (by omega) (by omega) ?_
            exact next _ H locs hI ⟨own1, _, cd2, fo1, hR2, hM2, hW2, ho1, f5⟩ ls (lv_sub hl [2, 3, 4, 5, 6] rfl)
          ·
            refine lv_aload_n hx hb d_LW_law_370 rfl (lv_at hl 5 rfl) ?_
            refine lv_iconst (v := nI 0) hx hb d_LW_law_371 (by decide) ?_
            refine mw_lald K hI tJ f5 rfl 0 rfl (by first | assumption | omega) (by omega) d_LW_law_372 ?_
            refine lv_lload hx hb d_LW_law_373 (lv_at hl 0 rfl) ?_
            refine W.lcmp hx hb d_LW_law_375 ?_
            refine lv_if_eq (tgt := 381) hx hb d_LW_law_376 (by decide) (fun c376 => ?_) (fun c376 => ?_)
            ·
              refine lv_goto (tgt := 1092) hx hb d_LW_law_381 (by decide) ?_
              refine W.widen (k := cells + 6) (n := slots + 4120) (by omega) (by omega) ?_
              exact next _ H locs hI ⟨own1, _, cd2, fo1, hR2, hM2, hW2, ho1, f5⟩ ls (lv_sub hl [2, 3, 4, 5, 6] rfl)
            ·
              exact absurd ((lg_cmp_eq _ _).mpr (hag.2 (by first | exact c367 | exact Classical.byContradiction c367))) c376
        ·
          exact absurd hag.1 c360
      · exact absurd hq.1 (by simp)
    · obtain ⟨v2, cd2, hq1, hrest⟩ := hq
      cases hq1
  · obtain ⟨own1, fo1, kc, hq1, hrest⟩ := hq
    cases hq1
set_option maxRecDepth 100000 in
set_option maxHeartbeats 4000000 in
theorem lw_load (hL : mw_L l) (K : mw_K p s m args c code 8 "MapStoreLaw" D mk_cl (mk_tys dA) Ts mk_ty) (hSy : mw_Sy mk_strs s s.heap) (hP0 : mw_P D mk_cl w0 s.heap) (hI : mw_I D mk_cl w0 s.heap w H locs) (hJ : LWJ dA w x y o t) (hsX : va_X sc n f s s.heap) (hsl : sc < s.heap.size) (hsA : ¬ mw_A w0 s.heap.size sc) (ht : t < 512) (hi : i + 5 ≤ n) (hn : n < 2 ^ 31) (hc : cells + 6 ≤ 601024) (hs : slots + 4120 ≤ 7293033) (hl : lv_has ls 8 [(0, .ref sc), (1, .ref x), (2, .ref y), (3, .ref o), (4, .int (nI i))]) (next : LWX l D dA p e s m args below meth c Q w0 sc x y o (t + 1) i (cells + 6) (slots + 4120)) : W p l e LWR s m args below meth c H locs cells slots Q (F0 m 464 ls []) := by
  obtain ⟨own, S, cd, fo, hR, hM, hW, ho, f1⟩ := hJ
  obtain ⟨hx, hb, hml, hown, hts, hK, hTb⟩ := id K
  have hc1 : cells + 2 ≤ 601024 := by omega
  have hs1 : slots + 12 ≤ 7293033 := by omega
  refine lv_aload_n hx hb d_LW_law_464 rfl (lv_at hl 1 rfl) ?_
  refine lv_aload_n hx hb d_LW_law_465 rfl (lv_at hl 0 rfl) ?_
  refine lv_iload hx hb d_LW_law_466 (lv_at hl 4 rfl) ?_
  refine lv_iconst (v := nI 1) hx hb d_LW_law_468 (by decide) ?_
  refine lv_iadd hx hb d_LW_law_469 ?_
  refine mw_ti (nI_add _ _) ?_
  refine mw_sld K hI hsX hsl hsA (i + 1) (by omega) (by omega) d_LW_law_470 ?_
  refine lv_aload_n hx hb d_LW_law_471 rfl (lv_at hl 0 rfl) ?_
  refine lv_iload hx hb d_LW_law_472 (lv_at hl 4 rfl) ?_
  refine lv_iconst (v := nI 2) hx hb d_LW_law_474 (by decide) ?_
  refine lv_iadd hx hb d_LW_law_475 ?_
  refine mw_ti (nI_add _ _) ?_
  refine mw_sld K hI hsX hsl hsA (i + 2) (by omega) (by omega) d_LW_law_476 ?_
  refine lv_aload_n hx hb d_LW_law_477 rfl (lv_at hl 3 rfl) ?_
  refine mw_call (rest := []) K hSy hP0 hI (c_LW_load l D dA hL hR hW (by omega) ho f1 (f (i + 1)) (f (i + 2))) (mx_invSH hx hown (hts _ tw_407) (hts _ tw_408) (hts _ tw_20) (hts _ tw_409) (by decide) (g := F0 m 478 ls [.ref o, .int (f (i + 2)), .int (f (i + 1)), .ref x]) rfl (argsL := [.ref x, .int (f (i + 1)), .int (f (i + 2)), .ref o]) (rest := []) np_LW_load rfl (by rw [hb]; exact d_LW_law_478)) hl.1 d_LW_law_478 ⟨Nat.le_of_ble_eq_true rfl, Nat.le_of_ble_eq_true rfl⟩ (Or.inr ⟨_, _, _, List.mem_cons_self⟩) (mk_wsH tw_409 hts) (fun a9 U9 h9 => Ts_warm hts _ tw_20 a9 U9 h9) ⟨hc1, hs1⟩ (fun v w' H locs hq hI => ?_) (fun k x w' H locs hq hI hX => ?_)
  · obtain ⟨own1, fo1, kc, hq1, hR1, f3, hF1, hok, hbad⟩ := hq
    cases hq1
    refine W.eq (g2 := F0 m 481 ls [.int kc]) rfl ?_
    have hM1 := hM.keepL hF1 ho
    have ho1 := (hF1 _ _ f1).1.trans ho
    obtain ⟨A, fe, fk, ec, kc9, fi, fl, hw, hR9⟩ := id hM1
    have hc2 : cells + 2 + 0 ≤ 601024 := by omega
    have hs2 : slots + 12 + 0 ≤ 7293033 := by omega
    refine lv_istore (lv' := [(5, .int kc), (0, .ref sc), (1, .ref x), (2, .ref y), (3, .ref o), (4, .int (nI i))]) hx hb d_LW_law_481 hl (by decide) rfl (fun ls hl => ?_)
    refine lv_aload_n hx hb d_LW_law_483 rfl (lv_at hl 3 rfl) ?_
    refine lv_aload_n hx hb d_LW_law_484 rfl (lv_at hl 1 rfl) ?_
    refine lv_iload hx hb d_LW_law_485 (lv_at hl 5 rfl) ?_
    refine lv_iconst (v := nI 1) hx hb d_LW_law_487 (by decide) ?_
    refine lv_iadd hx hb d_LW_law_488 ?_
    refine mw_ti (nI_add _ _) ?_
    refine mw_sld K hI hsX hsl hsA (i + 1) (by omega) (by omega) d_LW_law_489 ?_
    refine lv_aload_n hx hb d_LW_law_490 rfl (lv_at hl 1 rfl) ?_
    refine lv_iload hx hb d_LW_law_491 (lv_at hl 5 rfl) ?_
    refine lv_iconst (v := nI 2) hx hb d_LW_law_493 (by decide) ?_
    refine lv_iadd hx hb d_LW_law_494 ?_
    refine mw_ti (nI_add _ _) ?_
    refine mw_sld K hI hsX hsl hsA (i + 2) (by omega) (by omega) d_LW_law_495 ?_
    refine mw_call (rest := []) K hSy hP0 hI (c_MO_load l D dA hM1 hW (f (i + 1)) (f (i + 2))) (mx_invV hx hown (hts _ tw_720) (hts _ tw_721) (hts _ tw_722) (hts _ tw_723) (by decide) (b := y) (mw_rc K hI hw.o rfl) (g := F0 m 496 ls [.int (f (i + 2)), .int (f (i + 1)), .ref y]) rfl (argsL := [.int (f (i + 1)), .int (f (i + 2))]) (rest := []) np_MO_load rfl (by rw [hb]; exact d_LW_law_496)) hl.1 d_LW_law_496 ⟨Nat.le_of_ble_eq_true rfl, Nat.le_of_ble_eq_true rfl⟩ (Or.inl ⟨_, _, List.mem_cons_self⟩) (mk_ws tw_723 hts) (fun a9 U9 h9 => Ts_warm hts _ tw_23 a9 U9 h9) ⟨hc2, hs2⟩ (fun v w' H locs hq hI => ?_) (fun k x w' H locs hq hI hX => ?_)
    · obtain ⟨v2, cd2, hq1, hM2, hF2, hq9⟩ := hq
      cases hq1
      refine W.eq (g2 := F0 m 499 ls [.long v2]) rfl ?_
      obtain ⟨A2, fe2, fk2, ec2, kc2, fi2, fl2, hw2, hR92⟩ := id hM2
      have f5 := hF2.att f3 (by rw [ho1]; decide)
      have hR2 := hR1.keep hF2
      have hW2 : wf_S (t + 1) S := hW.mono (Nat.le_succ t)
      have hag : cd2 = kc ∧ (kc = nI 0 → fo1 0 = v2) := by
        rcases hq9 with ⟨h1, h2⟩ | ⟨h1, h0, h2⟩ | ⟨h1, h0, h2, h3⟩
        · have a1 := hbad 0 (if_neg h1)
          exact ⟨h2.trans a1.symm, fun z => absurd (a1.symm.trans z) (kO_ne 0)⟩
        · have a1 := hbad 2 ((if_pos h1).trans (if_neg h0))
          exact ⟨h2.trans a1.symm, fun z => absurd (a1.symm.trans z) (kO_ne 2)⟩
        · obtain ⟨a1, a2⟩ := hok _ ((if_pos h1).trans (if_pos h0))
          exact ⟨by rw [h3, a1], fun _ => by rw [a2, h2]⟩
      have hc3 : cells + 2 + 0 + 0 ≤ 601024 := by omega
      have hs3 : slots + 12 + 0 + 0 ≤ 7293033 := by omega
      refine lv_lstore (lv' := [(6, .long v2), (5, .int kc), (0, .ref sc), (1, .ref x), (2, .ref y), (3, .ref o), (4, .int (nI i))]) hx hb d_LW_law_499 hl (by decide) rfl (fun ls hl => ?_)
      refine lv_aload_n hx hb d_LW_law_501 rfl (lv_at hl 4 rfl) ?_
      refine mw_call (rest := []) K hSy hP0 hI (c_MO_thrown l D dA hw2) (mx_invV hx hown (hts _ tw_666) (hts _ tw_667) (hts _ tw_668) (hts _ tw_669) (by decide) (b := y) (mw_rc K hI hw2.o rfl) (g := F0 m 502 ls [.ref y]) rfl (argsL := []) (rest := []) np_MO_thrown rfl (by rw [hb]; exact d_LW_law_502)) hl.1 d_LW_law_502 ⟨Nat.le_of_ble_eq_true rfl, Nat.le_of_ble_eq_true rfl⟩ (Or.inl ⟨_, _, List.mem_cons_self⟩) (mk_ws tw_669 hts) (fun a9 U9 h9 => Ts_warm hts _ tw_23 a9 U9 h9) ⟨hc3, hs3⟩ (fun v w' H locs hq hI => ?_) (fun k x w' H locs hq hI hX => ?_)
      · obtain ⟨hq1, hq2⟩ := hq
        cases hq1
        rw [hq2] at hI
        refine W.eq (g2 := F0 m 505 ls [.int cd2]) rfl ?_
        refine lv_iload hx hb d_LW_law_505 (lv_at hl 1 rfl) ?_
        refine lv_icmp_eq (tgt := 512) hx hb d_LW_law_507 (by decide) (fun c507 => ?_) (fun c507 => ?_)
        ·
          refine lv_iload hx hb d_LW_law_512 (lv_at hl 1 rfl) ?_
          refine lv_if_ne (tgt := 528) hx hb d_LW_law_514 (by decide) (fun c514 => ?_) (fun c514 => ?_)
          ·
            refine lv_goto (tgt := 1092) hx hb d_LW_law_528 (by decide) ?_
            refine W.widen (k := cells + 6) (n := slots + 4120) (by omega) (by omega) ?_
            exact next _ H locs hI ⟨own1, _, cd2, fo1, hR2, hM2, hW2, ho1, f5⟩ ls (lv_sub hl [2, 3, 4, 5, 6] rfl)
          ·
            refine lv_aload_n hx hb d_LW_law_517 rfl (lv_at hl 5 rfl) ?_
            refine lv_iconst (v := nI 0) hx hb d_LW_law_518 (by decide) ?_
            refine mw_lald K hI tJ f5 rfl 0 rfl (by first | assumption | omega) (by omega) d_LW_law_519 ?_
            refine lv_lload hx hb d_LW_law_520 (lv_at hl 0 rfl) ?_
            refine W.lcmp hx hb d_LW_law_522 ?_
            refine lv_if_eq (tgt := 528) hx hb d_LW_law_523 (by decide) (fun c523 => ?_) (fun c523 => ?_)
            ·
              refine lv_goto (tgt := 1092) hx hb d_LW_law_528 (by decide) ?_
              refine W.widen (k := cells + 6) (n := slots + 4120) (by omega) (by omega) ?_
              exact next _ H locs hI ⟨own1, _, cd2, fo1, hR2, hM2, hW2, ho1, f5⟩ ls (lv_sub hl [2, 3, 4, 5, 6] rfl)
            ·
              exact absurd ((lg_cmp_eq _ _).mpr (hag.2 (by first | exact c514 | exact Classical.byContradiction c514))) c523
        ·
          exact absurd hag.1 c507
      · exact absurd hq.1 (by simp)
    · obtain ⟨v2, cd2, hq1, hrest⟩ := hq
      cases hq1
  · obtain ⟨own1, fo1, kc, hq1, hrest⟩ := hq
    cases hq1
set_option maxRecDepth 100000 in
set_option maxHeartbeats 4000000 in
theorem lw_lay (hL : mw_L l) (K : mw_K p s m args c code 8 "MapStoreLaw" D mk_cl (mk_tys dA) Ts mk_ty) (hSy : mw_Sy mk_strs s s.heap) (hP0 : mw_P D mk_cl w0 s.heap) (hI : mw_I D mk_cl w0 s.heap w H locs) (hJ : LWJ dA w x y o t) (hsX : va_X sc n f s s.heap) (hsl : sc < s.heap.size) (hsA : ¬ mw_A w0 s.heap.size sc) (ht : t < 512) (hi : i + 5 ≤ n) (hn : n < 2 ^ 31) (hc : cells + 6 ≤ 601024) (hs : slots + 4120 ≤ 7293033) (hl : lv_has ls 8 [(0, .ref sc), (1, .ref x), (2, .ref y), (3, .ref o), (4, .int (nI i))]) (next : LWX l D dA p e s m args below meth c Q w0 sc x y o (t + 1) i (cells + 6) (slots + 4120)) : W p l e LWR s m args below meth c H locs cells slots Q (F0 m 384 ls []) := by
  obtain ⟨own, S, cd, fo, hR, hM, hW, ho, f1⟩ := hJ
  obtain ⟨hx, hb, hml, hown, hts, hK, hTb⟩ := id K
  have hc1 : cells + 1 ≤ 601024 := by omega
  have hs1 : slots + 6 ≤ 7293033 := by omega
  refine lv_aload_n hx hb d_LW_law_384 rfl (lv_at hl 1 rfl) ?_
  refine lv_aload_n hx hb d_LW_law_385 rfl (lv_at hl 0 rfl) ?_
  refine lv_iload hx hb d_LW_law_386 (lv_at hl 4 rfl) ?_
  refine lv_iconst (v := nI 1) hx hb d_LW_law_388 (by decide) ?_
  refine lv_iadd hx hb d_LW_law_389 ?_
  refine mw_ti (nI_add _ _) ?_
  refine mw_sld K hI hsX hsl hsA (i + 1) (by omega) (by omega) d_LW_law_390 ?_
  refine lv_aload_n hx hb d_LW_law_391 rfl (lv_at hl 0 rfl) ?_
  refine lv_iload hx hb d_LW_law_392 (lv_at hl 4 rfl) ?_
  refine lv_iconst (v := nI 2) hx hb d_LW_law_394 (by decide) ?_
  refine lv_iadd hx hb d_LW_law_395 ?_
  refine mw_ti (nI_add _ _) ?_
  refine mw_sld K hI hsX hsl hsA (i + 2) (by omega) (by omega) d_LW_law_396 ?_
  refine lv_i2l hx hb d_LW_law_397 rfl ?_
  refine lv_bipush (v := nI 32) hx hb d_LW_law_398 (by decide) ?_
  refine lv_lshl hx hb d_LW_law_400 rfl ?_
  refine lv_aload_n hx hb d_LW_law_401 rfl (lv_at hl 0 rfl) ?_
  refine lv_iload hx hb d_LW_law_402 (lv_at hl 4 rfl) ?_
  refine lv_iconst (v := nI 3) hx hb d_LW_law_404 (by decide) ?_
  refine lv_iadd hx hb d_LW_law_405 ?_
  refine mw_ti (nI_add _ _) ?_
  refine mw_sld K hI hsX hsl hsA (i + 3) (by omega) (by omega) d_LW_law_406 ?_
  refine lv_i2l hx hb d_LW_law_407 rfl ?_
  refine lv_ldc2 (v := lN 4294967295) hx hb hown (hts _ tw_801) d_LW_law_408 ?_
  refine lv_land hx hb d_LW_law_411 ?_
  refine lv_lor hx hb d_LW_law_412 ?_
  refine mw_call (rest := []) K hSy hP0 hI (c_LW_lay l D dA hL hR (f (i + 1)) _) (mx_invSH hx hown (hts _ tw_390) (hts _ tw_391) (hts _ tw_20) (hts _ tw_392) (by decide) (g := F0 m 413 ls [.long ((((f (i + 2)).toInt64) <<< ((nI 32).toInt64 &&& 63)) ||| (((f (i + 3)).toInt64) &&& (lN 4294967295))), .int (f (i + 1)), .ref x]) rfl (argsL := [.ref x, .int (f (i + 1)), .long ((((f (i + 2)).toInt64) <<< ((nI 32).toInt64 &&& 63)) ||| (((f (i + 3)).toInt64) &&& (lN 4294967295)))]) (rest := []) np_LW_lay rfl (by rw [hb]; exact d_LW_law_413)) hl.1 d_LW_law_413 ⟨Nat.le_of_ble_eq_true rfl, Nat.le_of_ble_eq_true rfl⟩ (Or.inr ⟨_, _, _, List.mem_cons_self⟩) (mk_wsH tw_392 hts) (fun a9 U9 h9 => Ts_warm hts _ tw_20 a9 U9 h9) ⟨hc1, hs1⟩ (fun v w' H locs hq hI => ?_) (fun k x w' H locs hq hI hX => ?_)
  · obtain ⟨hq1, own1, hR1, hF1⟩ := hq
    cases hq1
    obtain ⟨kc, hkc⟩ : ∃ kc, kc = nI (sp_LAY S (f (i + 1)) (((f (i + 2)).toInt64 <<< ((nI 32).toInt64 &&& 63)) ||| ((f (i + 3)).toInt64 &&& (lN 4294967295)))).2 := ⟨_, rfl⟩
    rw [← hkc]
    refine W.eq (g2 := F0 m 416 ls [.int kc]) rfl ?_
    have f3 := hF1.att f1 (by rw [ho]; decide)
    have hM1 := hM.keep hF1
    have ho1 := (hF1 _ _ f1).1.trans ho
    obtain ⟨A, fe, fk, ec, kc9, fi, fl, hw, hR9⟩ := id hM1
    have hc2 : cells + 1 + 0 ≤ 601024 := by omega
    have hs2 : slots + 6 + 0 ≤ 7293033 := by omega
    refine lv_istore (lv' := [(5, .int kc), (0, .ref sc), (1, .ref x), (2, .ref y), (3, .ref o), (4, .int (nI i))]) hx hb d_LW_law_416 hl (by decide) rfl (fun ls hl => ?_)
    refine lv_aload_n hx hb d_LW_law_418 rfl (lv_at hl 3 rfl) ?_
    refine lv_aload_n hx hb d_LW_law_419 rfl (lv_at hl 1 rfl) ?_
    refine lv_iload hx hb d_LW_law_420 (lv_at hl 5 rfl) ?_
    refine lv_iconst (v := nI 1) hx hb d_LW_law_422 (by decide) ?_
    refine lv_iadd hx hb d_LW_law_423 ?_
    refine mw_ti (nI_add _ _) ?_
    refine mw_sld K hI hsX hsl hsA (i + 1) (by omega) (by omega) d_LW_law_424 ?_
    refine lv_aload_n hx hb d_LW_law_425 rfl (lv_at hl 1 rfl) ?_
    refine lv_iload hx hb d_LW_law_426 (lv_at hl 5 rfl) ?_
    refine lv_iconst (v := nI 2) hx hb d_LW_law_428 (by decide) ?_
    refine lv_iadd hx hb d_LW_law_429 ?_
    refine mw_ti (nI_add _ _) ?_
    refine mw_sld K hI hsX hsl hsA (i + 2) (by omega) (by omega) d_LW_law_430 ?_
    refine lv_i2l hx hb d_LW_law_431 rfl ?_
    refine lv_bipush (v := nI 32) hx hb d_LW_law_432 (by decide) ?_
    refine lv_lshl hx hb d_LW_law_434 rfl ?_
    refine lv_aload_n hx hb d_LW_law_435 rfl (lv_at hl 1 rfl) ?_
    refine lv_iload hx hb d_LW_law_436 (lv_at hl 5 rfl) ?_
    refine lv_iconst (v := nI 3) hx hb d_LW_law_438 (by decide) ?_
    refine lv_iadd hx hb d_LW_law_439 ?_
    refine mw_ti (nI_add _ _) ?_
    refine mw_sld K hI hsX hsl hsA (i + 3) (by omega) (by omega) d_LW_law_440 ?_
    refine lv_i2l hx hb d_LW_law_441 rfl ?_
    refine lv_ldc2 (v := lN 4294967295) hx hb hown (hts _ tw_801) d_LW_law_442 ?_
    refine lv_land hx hb d_LW_law_445 ?_
    refine lv_lor hx hb d_LW_law_446 ?_
    refine mw_call (rest := []) K hSy hP0 hI (c_MO_lay l D dA hM1 hW (f (i + 1)) _) (mx_invV hx hown (hts _ tw_713) (hts _ tw_714) (hts _ tw_715) (hts _ tw_716) (by decide) (b := y) (mw_rc K hI hw.o rfl) (g := F0 m 447 ls [.long ((((f (i + 2)).toInt64) <<< ((nI 32).toInt64 &&& 63)) ||| (((f (i + 3)).toInt64) &&& (lN 4294967295))), .int (f (i + 1)), .ref y]) rfl (argsL := [.int (f (i + 1)), .long ((((f (i + 2)).toInt64) <<< ((nI 32).toInt64 &&& 63)) ||| (((f (i + 3)).toInt64) &&& (lN 4294967295)))]) (rest := []) np_MO_lay rfl (by rw [hb]; exact d_LW_law_447)) hl.1 d_LW_law_447 ⟨Nat.le_of_ble_eq_true rfl, Nat.le_of_ble_eq_true rfl⟩ (Or.inl ⟨_, _, List.mem_cons_self⟩) (mk_ws tw_716 hts) (fun a9 U9 h9 => Ts_warm hts _ tw_23 a9 U9 h9) ⟨hc2, hs2⟩ (fun v w' H locs hq hI => ?_) (fun k x w' H locs hq hI hX => ?_)
    · obtain ⟨hq1, hF2, hq9⟩ := hq
      cases hq1
      refine W.eq (g2 := F0 m 450 ls []) rfl ?_
      have hM2 : RepM dA w' own1 y kc (sp_LAY S (f (i + 1)) (((f (i + 2)).toInt64 <<< ((nI 32).toInt64 &&& 63)) ||| ((f (i + 3)).toInt64 &&& (lN 4294967295)))).1 := by
        rw [hkc]
        rcases hq9 with ⟨h1, h2⟩ | ⟨h1, h2⟩
        · rw [show sp_LAY S (f (i + 1)) (((f (i + 2)).toInt64 <<< ((nI 32).toInt64 &&& 63)) ||| ((f (i + 3)).toInt64 &&& (lN 4294967295))) = _ from if_pos h1]; exact h2
        · rw [show sp_LAY S (f (i + 1)) (((f (i + 2)).toInt64 <<< ((nI 32).toInt64 &&& 63)) ||| ((f (i + 3)).toInt64 &&& (lN 4294967295))) = _ from if_neg h1]; exact h2
      obtain ⟨A2, fe2, fk2, ec2, kc2, fi2, fl2, hw2, hR92⟩ := id hM2
      have f5 := hF2.att f3 (by rw [ho1]; decide)
      have hR2 := hR1.keep hF2
      have hW2 : wf_S (t + 1) (sp_LAY S (f (i + 1)) (((f (i + 2)).toInt64 <<< ((nI 32).toInt64 &&& 63)) ||| ((f (i + 3)).toInt64 &&& (lN 4294967295)))).1 := by
        by_cases h1 : inD (f (i + 1)) 8 512
        · rw [show sp_LAY S (f (i + 1)) (((f (i + 2)).toInt64 <<< ((nI 32).toInt64 &&& 63)) ||| ((f (i + 3)).toInt64 &&& (lN 4294967295))) = _ from if_pos h1]; exact (hW.mono (Nat.le_succ t)).ofD (wr_lt hW.2.2.2.1 _ _ _)
        · rw [show sp_LAY S (f (i + 1)) (((f (i + 2)).toInt64 <<< ((nI 32).toInt64 &&& 63)) ||| ((f (i + 3)).toInt64 &&& (lN 4294967295))) = _ from if_neg h1]; exact hW.mono (Nat.le_succ t)
      have hc3 : cells + 1 + 0 + 0 ≤ 601024 := by omega
      have hs3 : slots + 6 + 0 + 0 ≤ 7293033 := by omega
      refine lv_aload_n hx hb d_LW_law_450 rfl (lv_at hl 3 rfl) ?_
      refine mw_call (rest := []) K hSy hP0 hI (c_MO_thrown l D dA hw2) (mx_invV hx hown (hts _ tw_666) (hts _ tw_667) (hts _ tw_668) (hts _ tw_669) (by decide) (b := y) (mw_rc K hI hw2.o rfl) (g := F0 m 451 ls [.ref y]) rfl (argsL := []) (rest := []) np_MO_thrown rfl (by rw [hb]; exact d_LW_law_451)) hl.1 d_LW_law_451 ⟨Nat.le_of_ble_eq_true rfl, Nat.le_of_ble_eq_true rfl⟩ (Or.inl ⟨_, _, List.mem_cons_self⟩) (mk_ws tw_669 hts) (fun a9 U9 h9 => Ts_warm hts _ tw_23 a9 U9 h9) ⟨hc3, hs3⟩ (fun v w' H locs hq hI => ?_) (fun k x w' H locs hq hI hX => ?_)
      · obtain ⟨hq1, hq2⟩ := hq
        cases hq1
        rw [hq2] at hI
        refine W.eq (g2 := F0 m 454 ls [.int kc]) rfl ?_
        refine lv_iload hx hb d_LW_law_454 (lv_at hl 0 rfl) ?_
        refine lv_icmp_eq (tgt := 461) hx hb d_LW_law_456 (by decide) (fun c456 => ?_) (fun c456 => ?_)
        ·
          refine lv_goto (tgt := 1092) hx hb d_LW_law_461 (by decide) ?_
          refine W.widen (k := cells + 6) (n := slots + 4120) (by omega) (by omega) ?_
          exact next _ H locs hI ⟨own1, _, kc, fo, hR2, hM2, hW2, ho1, f5⟩ ls (lv_sub hl [1, 2, 3, 4, 5] rfl)
        ·
          exact absurd rfl c456
      · exact absurd hq.1 (by simp)
    · exact absurd hq.1 (by simp)
  · exact absurd hq.1 (by simp)
set_option maxRecDepth 100000 in
set_option maxHeartbeats 4000000 in
theorem lw_store (hL : mw_L l) (K : mw_K p s m args c code 8 "MapStoreLaw" D mk_cl (mk_tys dA) Ts mk_ty) (hSy : mw_Sy mk_strs s s.heap) (hP0 : mw_P D mk_cl w0 s.heap) (hI : mw_I D mk_cl w0 s.heap w H locs) (hJ : LWJ dA w x y o t) (hsX : va_X sc n f s s.heap) (hsl : sc < s.heap.size) (hsA : ¬ mw_A w0 s.heap.size sc) (ht : t < 512) (hi : i + 5 ≤ n) (hn : n < 2 ^ 31) (hc : cells + 6 ≤ 601024) (hs : slots + 4120 ≤ 7293033) (hl : lv_has ls 8 [(0, .ref sc), (1, .ref x), (2, .ref y), (3, .ref o), (4, .int (nI i))]) (next : LWX l D dA p e s m args below meth c Q w0 sc x y o (t + 1) i (cells + 6) (slots + 4120)) : W p l e LWR s m args below meth c H locs cells slots Q (F0 m 531 ls []) := by
  obtain ⟨own, S, cd, fo, hR, hM, hW, ho, f1⟩ := hJ
  obtain ⟨hx, hb, hml, hown, hts, hK, hTb⟩ := id K
  have hc1 : cells + 2 ≤ 601024 := by omega
  have hs1 : slots + 12 ≤ 7293033 := by omega
  refine lv_aload_n hx hb d_LW_law_531 rfl (lv_at hl 1 rfl) ?_
  refine lv_aload_n hx hb d_LW_law_532 rfl (lv_at hl 0 rfl) ?_
  refine lv_iload hx hb d_LW_law_533 (lv_at hl 4 rfl) ?_
  refine lv_iconst (v := nI 1) hx hb d_LW_law_535 (by decide) ?_
  refine lv_iadd hx hb d_LW_law_536 ?_
  refine mw_ti (nI_add _ _) ?_
  refine mw_sld K hI hsX hsl hsA (i + 1) (by omega) (by omega) d_LW_law_537 ?_
  refine lv_aload_n hx hb d_LW_law_538 rfl (lv_at hl 0 rfl) ?_
  refine lv_iload hx hb d_LW_law_539 (lv_at hl 4 rfl) ?_
  refine lv_iconst (v := nI 2) hx hb d_LW_law_541 (by decide) ?_
  refine lv_iadd hx hb d_LW_law_542 ?_
  refine mw_ti (nI_add _ _) ?_
  refine mw_sld K hI hsX hsl hsA (i + 2) (by omega) (by omega) d_LW_law_543 ?_
  refine lv_aload_n hx hb d_LW_law_544 rfl (lv_at hl 0 rfl) ?_
  refine lv_iload hx hb d_LW_law_545 (lv_at hl 4 rfl) ?_
  refine lv_iconst (v := nI 3) hx hb d_LW_law_547 (by decide) ?_
  refine lv_iadd hx hb d_LW_law_548 ?_
  refine mw_ti (nI_add _ _) ?_
  refine mw_sld K hI hsX hsl hsA (i + 3) (by omega) (by omega) d_LW_law_549 ?_
  refine lv_i2l hx hb d_LW_law_550 rfl ?_
  refine lv_bipush (v := nI 32) hx hb d_LW_law_551 (by decide) ?_
  refine lv_lshl hx hb d_LW_law_553 rfl ?_
  refine lv_aload_n hx hb d_LW_law_554 rfl (lv_at hl 0 rfl) ?_
  refine lv_iload hx hb d_LW_law_555 (lv_at hl 4 rfl) ?_
  refine lv_iconst (v := nI 4) hx hb d_LW_law_557 (by decide) ?_
  refine lv_iadd hx hb d_LW_law_558 ?_
  refine mw_ti (nI_add _ _) ?_
  refine mw_sld K hI hsX hsl hsA (i + 4) (by omega) (by omega) d_LW_law_559 ?_
  refine lv_i2l hx hb d_LW_law_560 rfl ?_
  refine lv_ldc2 (v := lN 4294967295) hx hb hown (hts _ tw_801) d_LW_law_561 ?_
  refine lv_land hx hb d_LW_law_564 ?_
  refine lv_lor hx hb d_LW_law_565 ?_
  refine mw_call (rest := []) K hSy hP0 hI (c_LW_store l D dA hL hR (f (i + 1)) (f (i + 2)) _) (mx_invSH hx hown (hts _ tw_418) (hts _ tw_419) (hts _ tw_20) (hts _ tw_420) (by decide) (g := F0 m 566 ls [.long ((((f (i + 3)).toInt64) <<< ((nI 32).toInt64 &&& 63)) ||| (((f (i + 4)).toInt64) &&& (lN 4294967295))), .int (f (i + 2)), .int (f (i + 1)), .ref x]) rfl (argsL := [.ref x, .int (f (i + 1)), .int (f (i + 2)), .long ((((f (i + 3)).toInt64) <<< ((nI 32).toInt64 &&& 63)) ||| (((f (i + 4)).toInt64) &&& (lN 4294967295)))]) (rest := []) np_LW_store rfl (by rw [hb]; exact d_LW_law_566)) hl.1 d_LW_law_566 ⟨Nat.le_of_ble_eq_true rfl, Nat.le_of_ble_eq_true rfl⟩ (Or.inr ⟨_, _, _, List.mem_cons_self⟩) (mk_wsH tw_420 hts) (fun a9 U9 h9 => Ts_warm hts _ tw_20 a9 U9 h9) ⟨hc1, hs1⟩ (fun v w' H locs hq hI => ?_) (fun k x w' H locs hq hI hX => ?_)
  · obtain ⟨hq1, own1, hR1, hF1⟩ := hq
    cases hq1
    obtain ⟨kc, hkc⟩ : ∃ kc, kc = nI (sp_STORE S (f (i + 1)) (f (i + 2)) (((f (i + 3)).toInt64 <<< ((nI 32).toInt64 &&& 63)) ||| ((f (i + 4)).toInt64 &&& (lN 4294967295)))).2 := ⟨_, rfl⟩
    rw [← hkc]
    refine W.eq (g2 := F0 m 569 ls [.int kc]) rfl ?_
    have f3 := hF1.att f1 (by rw [ho]; decide)
    have hM1 := hM.keep hF1
    have ho1 := (hF1 _ _ f1).1.trans ho
    obtain ⟨A, fe, fk, ec, kc9, fi, fl, hw, hR9⟩ := id hM1
    have hc2 : cells + 2 + 0 ≤ 601024 := by omega
    have hs2 : slots + 12 + 0 ≤ 7293033 := by omega
    refine lv_istore (lv' := [(5, .int kc), (0, .ref sc), (1, .ref x), (2, .ref y), (3, .ref o), (4, .int (nI i))]) hx hb d_LW_law_569 hl (by decide) rfl (fun ls hl => ?_)
    refine lv_aload_n hx hb d_LW_law_571 rfl (lv_at hl 3 rfl) ?_
    refine lv_aload_n hx hb d_LW_law_572 rfl (lv_at hl 1 rfl) ?_
    refine lv_iload hx hb d_LW_law_573 (lv_at hl 5 rfl) ?_
    refine lv_iconst (v := nI 1) hx hb d_LW_law_575 (by decide) ?_
    refine lv_iadd hx hb d_LW_law_576 ?_
    refine mw_ti (nI_add _ _) ?_
    refine mw_sld K hI hsX hsl hsA (i + 1) (by omega) (by omega) d_LW_law_577 ?_
    refine lv_aload_n hx hb d_LW_law_578 rfl (lv_at hl 1 rfl) ?_
    refine lv_iload hx hb d_LW_law_579 (lv_at hl 5 rfl) ?_
    refine lv_iconst (v := nI 2) hx hb d_LW_law_581 (by decide) ?_
    refine lv_iadd hx hb d_LW_law_582 ?_
    refine mw_ti (nI_add _ _) ?_
    refine mw_sld K hI hsX hsl hsA (i + 2) (by omega) (by omega) d_LW_law_583 ?_
    refine lv_aload_n hx hb d_LW_law_584 rfl (lv_at hl 1 rfl) ?_
    refine lv_iload hx hb d_LW_law_585 (lv_at hl 5 rfl) ?_
    refine lv_iconst (v := nI 3) hx hb d_LW_law_587 (by decide) ?_
    refine lv_iadd hx hb d_LW_law_588 ?_
    refine mw_ti (nI_add _ _) ?_
    refine mw_sld K hI hsX hsl hsA (i + 3) (by omega) (by omega) d_LW_law_589 ?_
    refine lv_i2l hx hb d_LW_law_590 rfl ?_
    refine lv_bipush (v := nI 32) hx hb d_LW_law_591 (by decide) ?_
    refine lv_lshl hx hb d_LW_law_593 rfl ?_
    refine lv_aload_n hx hb d_LW_law_594 rfl (lv_at hl 1 rfl) ?_
    refine lv_iload hx hb d_LW_law_595 (lv_at hl 5 rfl) ?_
    refine lv_iconst (v := nI 4) hx hb d_LW_law_597 (by decide) ?_
    refine lv_iadd hx hb d_LW_law_598 ?_
    refine mw_ti (nI_add _ _) ?_
    refine mw_sld K hI hsX hsl hsA (i + 4) (by omega) (by omega) d_LW_law_599 ?_
    refine lv_i2l hx hb d_LW_law_600 rfl ?_
    refine lv_ldc2 (v := lN 4294967295) hx hb hown (hts _ tw_801) d_LW_law_601 ?_
    refine lv_land hx hb d_LW_law_604 ?_
    refine lv_lor hx hb d_LW_law_605 ?_
    refine mw_call (rest := []) K hSy hP0 hI (c_MO_store l D dA hM1 hW (f (i + 1)) (f (i + 2)) _) (mx_invV hx hown (hts _ tw_728) (hts _ tw_729) (hts _ tw_730) (hts _ tw_731) (by decide) (b := y) (mw_rc K hI hw.o rfl) (g := F0 m 606 ls [.long ((((f (i + 3)).toInt64) <<< ((nI 32).toInt64 &&& 63)) ||| (((f (i + 4)).toInt64) &&& (lN 4294967295))), .int (f (i + 2)), .int (f (i + 1)), .ref y]) rfl (argsL := [.int (f (i + 1)), .int (f (i + 2)), .long ((((f (i + 3)).toInt64) <<< ((nI 32).toInt64 &&& 63)) ||| (((f (i + 4)).toInt64) &&& (lN 4294967295)))]) (rest := []) np_MO_store rfl (by rw [hb]; exact d_LW_law_606)) hl.1 d_LW_law_606 ⟨Nat.le_of_ble_eq_true rfl, Nat.le_of_ble_eq_true rfl⟩ (Or.inl ⟨_, _, List.mem_cons_self⟩) (mk_ws tw_731 hts) (fun a9 U9 h9 => Ts_warm hts _ tw_23 a9 U9 h9) ⟨hc2, hs2⟩ (fun v w' H locs hq hI => ?_) (fun k x w' H locs hq hI hX => ?_)
    · obtain ⟨hq1, hF2, hq9⟩ := hq
      cases hq1
      refine W.eq (g2 := F0 m 609 ls []) rfl ?_
      have hM2 : RepM dA w' own1 y kc (sp_STORE S (f (i + 1)) (f (i + 2)) (((f (i + 3)).toInt64 <<< ((nI 32).toInt64 &&& 63)) ||| ((f (i + 4)).toInt64 &&& (lN 4294967295)))).1 := by
        rw [hkc]
        rcases hq9 with ⟨h1, h2⟩ | ⟨h1, h0, h2⟩ | ⟨h1, h0, h2⟩
        · rw [show sp_STORE S (f (i + 1)) (f (i + 2)) (((f (i + 3)).toInt64 <<< ((nI 32).toInt64 &&& 63)) ||| ((f (i + 4)).toInt64 &&& (lN 4294967295))) = _ from if_neg h1]; exact h2
        · rw [show sp_STORE S (f (i + 1)) (f (i + 2)) (((f (i + 3)).toInt64 <<< ((nI 32).toInt64 &&& 63)) ||| ((f (i + 4)).toInt64 &&& (lN 4294967295))) = _ from (if_pos h1).trans (if_neg h0)]; exact h2
        · rw [show sp_STORE S (f (i + 1)) (f (i + 2)) (((f (i + 3)).toInt64 <<< ((nI 32).toInt64 &&& 63)) ||| ((f (i + 4)).toInt64 &&& (lN 4294967295))) = _ from (if_pos h1).trans (if_pos h0)]; exact h2
      obtain ⟨A2, fe2, fk2, ec2, kc2, fi2, fl2, hw2, hR92⟩ := id hM2
      have f5 := hF2.att f3 (by rw [ho1]; decide)
      have hR2 := hR1.keep hF2
      have hW2 : wf_S (t + 1) (sp_STORE S (f (i + 1)) (f (i + 2)) (((f (i + 3)).toInt64 <<< ((nI 32).toInt64 &&& 63)) ||| ((f (i + 4)).toInt64 &&& (lN 4294967295)))).1 := by
        by_cases h1 : okZ (f (i + 2))
        · by_cases h0 : inD (f (i + 1)) (f (i + 2)).toNatClampNeg 65536
          · rw [show sp_STORE S (f (i + 1)) (f (i + 2)) (((f (i + 3)).toInt64 <<< ((nI 32).toInt64 &&& 63)) ||| ((f (i + 4)).toInt64 &&& (lN 4294967295))) = _ from (if_pos h1).trans (if_pos h0)]; exact (hW.mono (Nat.le_succ t)).ofA (wr_lt hW.2.2.2.2.1 _ _ _)
          · rw [show sp_STORE S (f (i + 1)) (f (i + 2)) (((f (i + 3)).toInt64 <<< ((nI 32).toInt64 &&& 63)) ||| ((f (i + 4)).toInt64 &&& (lN 4294967295))) = _ from (if_pos h1).trans (if_neg h0)]; exact hW.mono (Nat.le_succ t)
        · rw [show sp_STORE S (f (i + 1)) (f (i + 2)) (((f (i + 3)).toInt64 <<< ((nI 32).toInt64 &&& 63)) ||| ((f (i + 4)).toInt64 &&& (lN 4294967295))) = _ from if_neg h1]; exact hW.mono (Nat.le_succ t)
      have hc3 : cells + 2 + 0 + 0 ≤ 601024 := by omega
      have hs3 : slots + 12 + 0 + 0 ≤ 7293033 := by omega
      refine lv_aload_n hx hb d_LW_law_609 rfl (lv_at hl 3 rfl) ?_
      refine mw_call (rest := []) K hSy hP0 hI (c_MO_thrown l D dA hw2) (mx_invV hx hown (hts _ tw_666) (hts _ tw_667) (hts _ tw_668) (hts _ tw_669) (by decide) (b := y) (mw_rc K hI hw2.o rfl) (g := F0 m 610 ls [.ref y]) rfl (argsL := []) (rest := []) np_MO_thrown rfl (by rw [hb]; exact d_LW_law_610)) hl.1 d_LW_law_610 ⟨Nat.le_of_ble_eq_true rfl, Nat.le_of_ble_eq_true rfl⟩ (Or.inl ⟨_, _, List.mem_cons_self⟩) (mk_ws tw_669 hts) (fun a9 U9 h9 => Ts_warm hts _ tw_23 a9 U9 h9) ⟨hc3, hs3⟩ (fun v w' H locs hq hI => ?_) (fun k x w' H locs hq hI hX => ?_)
      · obtain ⟨hq1, hq2⟩ := hq
        cases hq1
        rw [hq2] at hI
        refine W.eq (g2 := F0 m 613 ls [.int kc]) rfl ?_
        refine lv_iload hx hb d_LW_law_613 (lv_at hl 0 rfl) ?_
        refine lv_icmp_eq (tgt := 620) hx hb d_LW_law_615 (by decide) (fun c615 => ?_) (fun c615 => ?_)
        ·
          refine lv_goto (tgt := 1092) hx hb d_LW_law_620 (by decide) ?_
          refine W.widen (k := cells + 6) (n := slots + 4120) (by omega) (by omega) ?_
          exact next _ H locs hI ⟨own1, _, kc, fo, hR2, hM2, hW2, ho1, f5⟩ ls (lv_sub hl [1, 2, 3, 4, 5] rfl)
        ·
          exact absurd rfl c615
      · exact absurd hq.1 (by simp)
    · exact absurd hq.1 (by simp)
  · exact absurd hq.1 (by simp)
set_option maxRecDepth 100000 in
set_option maxHeartbeats 4000000 in
theorem lw_maps (hL : mw_L l) (K : mw_K p s m args c code 8 "MapStoreLaw" D mk_cl (mk_tys dA) Ts mk_ty) (hSy : mw_Sy mk_strs s s.heap) (hP0 : mw_P D mk_cl w0 s.heap) (hI : mw_I D mk_cl w0 s.heap w H locs) (hJ : LWJ dA w x y o t) (hsX : va_X sc n f s s.heap) (hsl : sc < s.heap.size) (hsA : ¬ mw_A w0 s.heap.size sc) (ht : t < 512) (hi : i + 5 ≤ n) (hn : n < 2 ^ 31) (hc : cells + 6 ≤ 601024) (hs : slots + 4120 ≤ 7293033) (hl : lv_has ls 8 [(0, .ref sc), (1, .ref x), (2, .ref y), (3, .ref o), (4, .int (nI i))]) (next : LWX l D dA p e s m args below meth c Q w0 sc x y o (t + 1) i (cells + 6) (slots + 4120)) : W p l e LWR s m args below meth c H locs cells slots Q (F0 m 204 ls []) := by
  obtain ⟨own, S, cd, fo, hR, hM, hW, ho, f1⟩ := hJ
  obtain ⟨hx, hb, hml, hown, hts, hK, hTb⟩ := id K
  obtain ⟨bd, xd, ba, xa, ra, mp, gd, ga, hA⟩ := id hR
  obtain ⟨⟨o1, o2, o3, o4, f0, fd, fa, fr, hdk, har⟩, hMM⟩ := id hA
  obtain ⟨A, fe, fk, ec, kc9, fi, fl, hw, hR9⟩ := id hM
  have hc1 : cells + 0 ≤ 601024 := by omega
  have hs1 : slots + 0 ≤ 7293033 := by omega
  have hc2 : cells + 0 + 0 ≤ 601024 := by omega
  have hs2 : slots + 0 + 0 ≤ 7293033 := by omega
  refine lv_aload_n hx hb d_LW_law_204 rfl (lv_at hl 1 rfl) ?_
  refine mw_call (rest := []) K hSy hP0 hI (c_MS_maps l D dA hR) (mx_invV hx hown (hts _ tw_81) (hts _ tw_82) (hts _ tw_83) (hts _ tw_84) (by decide) (b := x) (mw_rc K hI f0 rfl) (g := F0 m 205 ls [.ref x]) rfl (argsL := []) (rest := []) np_MS_maps rfl (by rw [hb]; exact d_LW_law_205)) hl.1 d_LW_law_205 ⟨Nat.le_of_ble_eq_true rfl, Nat.le_of_ble_eq_true rfl⟩ (Or.inl ⟨_, _, List.mem_cons_self⟩) (mk_ws tw_84 hts) (fun a9 U9 h9 => Ts_warm hts _ tw_21 a9 U9 h9) ⟨hc1, hs1⟩ (fun v w' H locs hq hI => ?_) (fun k x w' H locs hq hI hX => ?_)
  · obtain ⟨hq2, hq1⟩ := hq
    cases hq1
    rw [hq2] at hI
    refine W.eq (g2 := F0 m 208 ls [.int (nI (nm S))]) rfl ?_
    refine lv_aload_n hx hb d_LW_law_208 rfl (lv_at hl 2 rfl) ?_
    refine mw_call (rest := [.int (nI (nm S))]) K hSy hP0 hI (c_MO_maps l D dA hw) (mx_invV hx hown (hts _ tw_686) (hts _ tw_687) (hts _ tw_688) (hts _ tw_689) (by decide) (b := y) (mw_rc K hI hw.o rfl) (g := F0 m 209 ls [.ref y, .int (nI (nm S))]) rfl (argsL := []) (rest := [.int (nI (nm S))]) np_MO_maps rfl (by rw [hb]; exact d_LW_law_209)) hl.1 d_LW_law_209 ⟨Nat.le_of_ble_eq_true rfl, Nat.le_of_ble_eq_true rfl⟩ (Or.inl ⟨_, _, List.mem_cons_self⟩) (mk_ws tw_689 hts) (fun a9 U9 h9 => Ts_warm hts _ tw_23 a9 U9 h9) ⟨hc2, hs2⟩ (fun v w' H locs hq hI => ?_) (fun k x w' H locs hq hI hX => ?_)
    · obtain ⟨hq1, hF2, hw2⟩ := hq
      cases hq1
      refine W.eq (g2 := F0 m 212 ls [.int (nI (nm S)), .int (nI (nm S))]) rfl ?_
      have f5 := hF2.att f1 (by rw [ho]; decide)
      refine lv_icmp_eq (tgt := 1092) hx hb d_LW_law_212 (by decide) (fun c212 => ?_) (fun c212 => ?_)
      ·
        refine W.widen (k := cells + 6) (n := slots + 4120) (by omega) (by omega) ?_
        exact next _ H locs hI ⟨own, S, nI 0, fo, hR.keep hF2, ⟨A, fe, fk, ec, kc9, fi, fl, hw2, hR9⟩, hW.mono (Nat.le_succ t), ho, f5⟩ ls (lv_sub hl [0, 1, 2, 3, 4] rfl)
      ·
        exact absurd rfl c212
    · exact absurd hq.1 (by simp)
  · exact absurd hq.2 (by simp)
set_option maxRecDepth 100000 in
set_option maxHeartbeats 4000000 in
theorem lw_breaches (hL : mw_L l) (K : mw_K p s m args c code 8 "MapStoreLaw" D mk_cl (mk_tys dA) Ts mk_ty) (hSy : mw_Sy mk_strs s s.heap) (hP0 : mw_P D mk_cl w0 s.heap) (hI : mw_I D mk_cl w0 s.heap w H locs) (hJ : LWJ dA w x y o t) (hsX : va_X sc n f s s.heap) (hsl : sc < s.heap.size) (hsA : ¬ mw_A w0 s.heap.size sc) (ht : t < 512) (hi : i + 5 ≤ n) (hn : n < 2 ^ 31) (hc : cells + 6 ≤ 601024) (hs : slots + 4120 ≤ 7293033) (hl : lv_has ls 8 [(0, .ref sc), (1, .ref x), (2, .ref y), (3, .ref o), (4, .int (nI i))]) (next : LWX l D dA p e s m args below meth c Q w0 sc x y o (t + 1) i (cells + 6) (slots + 4120)) : W p l e LWR s m args below meth c H locs cells slots Q (F0 m 1079 ls []) := by
  obtain ⟨own, S, cd, fo, hR, hM, hW, ho, f1⟩ := hJ
  obtain ⟨hx, hb, hml, hown, hts, hK, hTb⟩ := id K
  obtain ⟨bd, xd, ba, xa, ra, mp, gd, ga, hA⟩ := id hR
  obtain ⟨⟨o1, o2, o3, o4, f0, fd, fa, fr, hdk, har⟩, hMM⟩ := id hA
  obtain ⟨A, fe, fk, ec, kc9, fi, fl, hw, hR9⟩ := id hM
  have hc1 : cells + 0 ≤ 601024 := by omega
  have hs1 : slots + 0 ≤ 7293033 := by omega
  have hc2 : cells + 0 + 0 ≤ 601024 := by omega
  have hs2 : slots + 0 + 0 ≤ 7293033 := by omega
  refine lv_aload_n hx hb d_LW_law_1079 rfl (lv_at hl 1 rfl) ?_
  refine mw_call (rest := []) K hSy hP0 hI (c_MS_breaches l D dA hR hW) (mx_invV hx hown (hts _ tw_85) (hts _ tw_86) (hts _ tw_87) (hts _ tw_88) (by decide) (b := x) (mw_rc K hI f0 rfl) (g := F0 m 1080 ls [.ref x]) rfl (argsL := []) (rest := []) np_MS_breaches rfl (by rw [hb]; exact d_LW_law_1080)) hl.1 d_LW_law_1080 ⟨Nat.le_of_ble_eq_true rfl, Nat.le_of_ble_eq_true rfl⟩ (Or.inl ⟨_, _, List.mem_cons_self⟩) (mk_ws tw_88 hts) (fun a9 U9 h9 => Ts_warm hts _ tw_21 a9 U9 h9) ⟨hc1, hs1⟩ (fun v w' H locs hq hI => ?_) (fun k x w' H locs hq hI hX => ?_)
  · obtain ⟨hq2, hq1⟩ := hq
    cases hq1
    rw [hq2] at hI
    refine W.eq (g2 := F0 m 1083 ls [.int (nI 0)]) rfl ?_
    refine lv_aload_n hx hb d_LW_law_1083 rfl (lv_at hl 2 rfl) ?_
    refine mw_call (rest := [.int (nI 0)]) K hSy hP0 hI (c_MO_breaches l D dA hw) (mx_invV hx hown (hts _ tw_797) (hts _ tw_798) (hts _ tw_799) (hts _ tw_800) (by decide) (b := y) (mw_rc K hI hw.o rfl) (g := F0 m 1084 ls [.ref y, .int (nI 0)]) rfl (argsL := []) (rest := [.int (nI 0)]) np_MO_breaches rfl (by rw [hb]; exact d_LW_law_1084)) hl.1 d_LW_law_1084 ⟨Nat.le_of_ble_eq_true rfl, Nat.le_of_ble_eq_true rfl⟩ (Or.inl ⟨_, _, List.mem_cons_self⟩) (mk_ws tw_800 hts) (fun a9 U9 h9 => Ts_warm hts _ tw_23 a9 U9 h9) ⟨hc2, hs2⟩ (fun v w' H locs hq hI => ?_) (fun k x w' H locs hq hI hX => ?_)
    · obtain ⟨hq1, hF2, hw2⟩ := hq
      cases hq1
      refine W.eq (g2 := F0 m 1087 ls [.int (nI 0), .int (nI 0)]) rfl ?_
      have f5 := hF2.att f1 (by rw [ho]; decide)
      refine lv_icmp_eq (tgt := 1092) hx hb d_LW_law_1087 (by decide) (fun c1087 => ?_) (fun c1087 => ?_)
      ·
        refine W.widen (k := cells + 6) (n := slots + 4120) (by omega) (by omega) ?_
        exact next _ H locs hI ⟨own, S, nI 0, fo, hR.keep hF2, ⟨A, fe, fk, ec, kc9, fi, fl, hw2, hR9⟩, hW.mono (Nat.le_succ t), ho, f5⟩ ls (lv_sub hl [0, 1, 2, 3, 4] rfl)
      ·
        exact absurd rfl c1087
    · exact absurd hq.1 (by simp)
  · exact absurd hq.2 (by simp)
end LawArms
