abbrev b_W_law : ByteArray := code
theorem d_W_law_0 : decode b_W_law 0 = .ok (.new 8, 3) := by decide +kernel
theorem d_W_law_3 : decode b_W_law 3 = .ok (.dup, 1) := by decide +kernel
theorem d_W_law_4 : decode b_W_law 4 = .ok (.invokespecial 91, 3) := by decide +kernel
theorem d_W_law_7 : decode b_W_law 7 = .ok (.astore_n 1, 1) := by decide +kernel
theorem d_W_law_8 : decode b_W_law 8 = .ok (.new 92, 3) := by decide +kernel
theorem d_W_law_11 : decode b_W_law 11 = .ok (.dup, 1) := by decide +kernel
theorem d_W_law_12 : decode b_W_law 12 = .ok (.invokespecial 94, 3) := by decide +kernel
theorem d_W_law_15 : decode b_W_law 15 = .ok (.astore_n 2, 1) := by decide +kernel
theorem d_W_law_16 : decode b_W_law 16 = .ok (.iconst 1, 1) := by decide +kernel
theorem d_W_law_17 : decode b_W_law 17 = .ok (.newarray .long, 2) := by decide +kernel
theorem d_W_law_19 : decode b_W_law 19 = .ok (.astore_n 3, 1) := by decide +kernel
theorem d_W_law_20 : decode b_W_law 20 = .ok (.iconst 0, 1) := by decide +kernel
theorem d_W_law_21 : decode b_W_law 21 = .ok (.istore 4, 2) := by decide +kernel
theorem d_W_law_23 : decode b_W_law 23 = .ok (.iload 4, 2) := by decide +kernel
theorem d_W_law_25 : decode b_W_law 25 = .ok (.aload_n 0, 1) := by decide +kernel
theorem d_W_law_26 : decode b_W_law 26 = .ok (.arraylength, 1) := by decide +kernel
theorem d_W_law_27 : decode b_W_law 27 = .ok (.iconst 5, 1) := by decide +kernel
theorem d_W_law_28 : decode b_W_law 28 = .ok (.isub, 1) := by decide +kernel
theorem d_W_law_29 : decode b_W_law 29 = .ok (.if_icmp .gt 1298, 3) := by decide +kernel
theorem d_W_law_32 : decode b_W_law 32 = .ok (.aload_n 0, 1) := by decide +kernel
theorem d_W_law_33 : decode b_W_law 33 = .ok (.iload 4, 2) := by decide +kernel
theorem d_W_law_35 : decode b_W_law 35 = .ok (.iaload, 1) := by decide +kernel
theorem d_W_law_36 : decode b_W_law 36 = .ok (.bipush 31, 2) := by decide +kernel
theorem d_W_law_38 : decode b_W_law 38 = .ok (.iand, 1) := by decide +kernel
theorem d_W_law_39 : decode b_W_law 39 = .ok (.tableswitch 1282 0 23 #[109, 157, 229, 273, 309, 322, 378, 426, 482, 538, 594, 630, 686, 742, 778, 814, 850, 918, 931, 987, 1067, 1122, 1178, 1246], 109) := by decide +kernel
theorem d_W_law_148 : decode b_W_law 148 = .ok (.aload_n 1, 1) := by decide +kernel
theorem d_W_law_149 : decode b_W_law 149 = .ok (.aload_n 0, 1) := by decide +kernel
theorem d_W_law_150 : decode b_W_law 150 = .ok (.iload 4, 2) := by decide +kernel
theorem d_W_law_152 : decode b_W_law 152 = .ok (.iconst 1, 1) := by decide +kernel
theorem d_W_law_153 : decode b_W_law 153 = .ok (.iadd, 1) := by decide +kernel
theorem d_W_law_154 : decode b_W_law 154 = .ok (.iaload, 1) := by decide +kernel
theorem d_W_law_155 : decode b_W_law 155 = .ok (.aload_n 0, 1) := by decide +kernel
theorem d_W_law_156 : decode b_W_law 156 = .ok (.iload 4, 2) := by decide +kernel
theorem d_W_law_158 : decode b_W_law 158 = .ok (.iconst 2, 1) := by decide +kernel
theorem d_W_law_159 : decode b_W_law 159 = .ok (.iadd, 1) := by decide +kernel
theorem d_W_law_160 : decode b_W_law 160 = .ok (.iaload, 1) := by decide +kernel
theorem d_W_law_161 : decode b_W_law 161 = .ok (.invokestatic 95, 3) := by decide +kernel
theorem d_W_law_164 : decode b_W_law 164 = .ok (.istore 5, 2) := by decide +kernel
theorem d_W_law_166 : decode b_W_law 166 = .ok (.aload_n 2, 1) := by decide +kernel
theorem d_W_law_167 : decode b_W_law 167 = .ok (.aload_n 0, 1) := by decide +kernel
theorem d_W_law_168 : decode b_W_law 168 = .ok (.iload 4, 2) := by decide +kernel
theorem d_W_law_170 : decode b_W_law 170 = .ok (.iconst 1, 1) := by decide +kernel
theorem d_W_law_171 : decode b_W_law 171 = .ok (.iadd, 1) := by decide +kernel
theorem d_W_law_172 : decode b_W_law 172 = .ok (.iaload, 1) := by decide +kernel
theorem d_W_law_173 : decode b_W_law 173 = .ok (.aload_n 0, 1) := by decide +kernel
theorem d_W_law_174 : decode b_W_law 174 = .ok (.iload 4, 2) := by decide +kernel
theorem d_W_law_176 : decode b_W_law 176 = .ok (.iconst 2, 1) := by decide +kernel
theorem d_W_law_177 : decode b_W_law 177 = .ok (.iadd, 1) := by decide +kernel
theorem d_W_law_178 : decode b_W_law 178 = .ok (.iaload, 1) := by decide +kernel
theorem d_W_law_179 : decode b_W_law 179 = .ok (.invokevirtual 100, 3) := by decide +kernel
theorem d_W_law_182 : decode b_W_law 182 = .ok (.aload_n 2, 1) := by decide +kernel
theorem d_W_law_183 : decode b_W_law 183 = .ok (.invokevirtual 101, 3) := by decide +kernel
theorem d_W_law_186 : decode b_W_law 186 = .ok (.iload 5, 2) := by decide +kernel
theorem d_W_law_188 : decode b_W_law 188 = .ok (.if_icmp .eq 5, 3) := by decide +kernel
theorem d_W_law_191 : decode b_W_law 191 = .ok (.iconst 0, 1) := by decide +kernel
theorem d_W_law_192 : decode b_W_law 192 = .ok (.ireturn, 1) := by decide +kernel
theorem d_W_law_193 : decode b_W_law 193 = .ok (.goto 1128, 3) := by decide +kernel
theorem d_W_law_196 : decode b_W_law 196 = .ok (.aload_n 1, 1) := by decide +kernel
theorem d_W_law_197 : decode b_W_law 197 = .ok (.aload_n 0, 1) := by decide +kernel
theorem d_W_law_198 : decode b_W_law 198 = .ok (.iload 4, 2) := by decide +kernel
theorem d_W_law_200 : decode b_W_law 200 = .ok (.iconst 1, 1) := by decide +kernel
theorem d_W_law_201 : decode b_W_law 201 = .ok (.iadd, 1) := by decide +kernel
theorem d_W_law_202 : decode b_W_law 202 = .ok (.iaload, 1) := by decide +kernel
theorem d_W_law_203 : decode b_W_law 203 = .ok (.aload_n 0, 1) := by decide +kernel
theorem d_W_law_204 : decode b_W_law 204 = .ok (.iload 4, 2) := by decide +kernel
theorem d_W_law_206 : decode b_W_law 206 = .ok (.iconst 2, 1) := by decide +kernel
theorem d_W_law_207 : decode b_W_law 207 = .ok (.iadd, 1) := by decide +kernel
theorem d_W_law_208 : decode b_W_law 208 = .ok (.iaload, 1) := by decide +kernel
theorem d_W_law_209 : decode b_W_law 209 = .ok (.aload_n 0, 1) := by decide +kernel
theorem d_W_law_210 : decode b_W_law 210 = .ok (.iload 4, 2) := by decide +kernel
theorem d_W_law_212 : decode b_W_law 212 = .ok (.iconst 3, 1) := by decide +kernel
theorem d_W_law_213 : decode b_W_law 213 = .ok (.iadd, 1) := by decide +kernel
theorem d_W_law_214 : decode b_W_law 214 = .ok (.iaload, 1) := by decide +kernel
theorem d_W_law_215 : decode b_W_law 215 = .ok (.aload_n 0, 1) := by decide +kernel
theorem d_W_law_216 : decode b_W_law 216 = .ok (.iload 4, 2) := by decide +kernel
theorem d_W_law_218 : decode b_W_law 218 = .ok (.iconst 4, 1) := by decide +kernel
theorem d_W_law_219 : decode b_W_law 219 = .ok (.iadd, 1) := by decide +kernel
theorem d_W_law_220 : decode b_W_law 220 = .ok (.iaload, 1) := by decide +kernel
theorem d_W_law_221 : decode b_W_law 221 = .ok (.invokestatic 104, 3) := by decide +kernel
theorem d_W_law_224 : decode b_W_law 224 = .ok (.istore 5, 2) := by decide +kernel
theorem d_W_law_226 : decode b_W_law 226 = .ok (.aload_n 2, 1) := by decide +kernel
theorem d_W_law_227 : decode b_W_law 227 = .ok (.aload_n 0, 1) := by decide +kernel
theorem d_W_law_228 : decode b_W_law 228 = .ok (.iload 4, 2) := by decide +kernel
theorem d_W_law_230 : decode b_W_law 230 = .ok (.iconst 1, 1) := by decide +kernel
theorem d_W_law_231 : decode b_W_law 231 = .ok (.iadd, 1) := by decide +kernel
theorem d_W_law_232 : decode b_W_law 232 = .ok (.iaload, 1) := by decide +kernel
theorem d_W_law_233 : decode b_W_law 233 = .ok (.aload_n 0, 1) := by decide +kernel
theorem d_W_law_234 : decode b_W_law 234 = .ok (.iload 4, 2) := by decide +kernel
theorem d_W_law_236 : decode b_W_law 236 = .ok (.iconst 2, 1) := by decide +kernel
theorem d_W_law_237 : decode b_W_law 237 = .ok (.iadd, 1) := by decide +kernel
theorem d_W_law_238 : decode b_W_law 238 = .ok (.iaload, 1) := by decide +kernel
theorem d_W_law_239 : decode b_W_law 239 = .ok (.aload_n 0, 1) := by decide +kernel
theorem d_W_law_240 : decode b_W_law 240 = .ok (.iload 4, 2) := by decide +kernel
theorem d_W_law_242 : decode b_W_law 242 = .ok (.iconst 3, 1) := by decide +kernel
theorem d_W_law_243 : decode b_W_law 243 = .ok (.iadd, 1) := by decide +kernel
theorem d_W_law_244 : decode b_W_law 244 = .ok (.iaload, 1) := by decide +kernel
theorem d_W_law_245 : decode b_W_law 245 = .ok (.aload_n 0, 1) := by decide +kernel
theorem d_W_law_246 : decode b_W_law 246 = .ok (.iload 4, 2) := by decide +kernel
theorem d_W_law_248 : decode b_W_law 248 = .ok (.iconst 4, 1) := by decide +kernel
theorem d_W_law_249 : decode b_W_law 249 = .ok (.iadd, 1) := by decide +kernel
theorem d_W_law_250 : decode b_W_law 250 = .ok (.iaload, 1) := by decide +kernel
theorem d_W_law_251 : decode b_W_law 251 = .ok (.invokevirtual 107, 3) := by decide +kernel
theorem d_W_law_254 : decode b_W_law 254 = .ok (.aload_n 2, 1) := by decide +kernel
theorem d_W_law_255 : decode b_W_law 255 = .ok (.invokevirtual 101, 3) := by decide +kernel
theorem d_W_law_258 : decode b_W_law 258 = .ok (.iload 5, 2) := by decide +kernel
theorem d_W_law_260 : decode b_W_law 260 = .ok (.if_icmp .eq 5, 3) := by decide +kernel
theorem d_W_law_263 : decode b_W_law 263 = .ok (.iconst 0, 1) := by decide +kernel
theorem d_W_law_264 : decode b_W_law 264 = .ok (.ireturn, 1) := by decide +kernel
theorem d_W_law_265 : decode b_W_law 265 = .ok (.goto 1056, 3) := by decide +kernel
theorem d_W_law_268 : decode b_W_law 268 = .ok (.aload_n 1, 1) := by decide +kernel
theorem d_W_law_269 : decode b_W_law 269 = .ok (.aload_n 3, 1) := by decide +kernel
theorem d_W_law_270 : decode b_W_law 270 = .ok (.invokestatic 108, 3) := by decide +kernel
theorem d_W_law_273 : decode b_W_law 273 = .ok (.istore 5, 2) := by decide +kernel
theorem d_W_law_275 : decode b_W_law 275 = .ok (.aload_n 2, 1) := by decide +kernel
theorem d_W_law_276 : decode b_W_law 276 = .ok (.invokevirtual 111, 3) := by decide +kernel
theorem d_W_law_279 : decode b_W_law 279 = .ok (.istore 6, 2) := by decide +kernel
theorem d_W_law_281 : decode b_W_law 281 = .ok (.aload_n 2, 1) := by decide +kernel
theorem d_W_law_282 : decode b_W_law 282 = .ok (.invokevirtual 101, 3) := by decide +kernel
theorem d_W_law_285 : decode b_W_law 285 = .ok (.iload 5, 2) := by decide +kernel
theorem d_W_law_287 : decode b_W_law 287 = .ok (.if_icmp .eq 5, 3) := by decide +kernel
theorem d_W_law_290 : decode b_W_law 290 = .ok (.iconst 0, 1) := by decide +kernel
theorem d_W_law_291 : decode b_W_law 291 = .ok (.ireturn, 1) := by decide +kernel
theorem d_W_law_292 : decode b_W_law 292 = .ok (.iload 5, 2) := by decide +kernel
theorem d_W_law_294 : decode b_W_law 294 = .ok (.ifCond .ne 15, 3) := by decide +kernel
theorem d_W_law_297 : decode b_W_law 297 = .ok (.aload_n 3, 1) := by decide +kernel
theorem d_W_law_298 : decode b_W_law 298 = .ok (.iconst 0, 1) := by decide +kernel
theorem d_W_law_299 : decode b_W_law 299 = .ok (.laload, 1) := by decide +kernel
theorem d_W_law_300 : decode b_W_law 300 = .ok (.iload 6, 2) := by decide +kernel
theorem d_W_law_302 : decode b_W_law 302 = .ok (.i2l, 1) := by decide +kernel
theorem d_W_law_303 : decode b_W_law 303 = .ok (.lcmp, 1) := by decide +kernel
theorem d_W_law_304 : decode b_W_law 304 = .ok (.ifCond .eq 5, 3) := by decide +kernel
theorem d_W_law_307 : decode b_W_law 307 = .ok (.iconst 0, 1) := by decide +kernel
theorem d_W_law_308 : decode b_W_law 308 = .ok (.ireturn, 1) := by decide +kernel
theorem d_W_law_309 : decode b_W_law 309 = .ok (.goto 1012, 3) := by decide +kernel
theorem d_W_law_312 : decode b_W_law 312 = .ok (.aload_n 1, 1) := by decide +kernel
theorem d_W_law_313 : decode b_W_law 313 = .ok (.aload_n 0, 1) := by decide +kernel
theorem d_W_law_314 : decode b_W_law 314 = .ok (.iload 4, 2) := by decide +kernel
theorem d_W_law_316 : decode b_W_law 316 = .ok (.iconst 1, 1) := by decide +kernel
theorem d_W_law_317 : decode b_W_law 317 = .ok (.iadd, 1) := by decide +kernel
theorem d_W_law_318 : decode b_W_law 318 = .ok (.iaload, 1) := by decide +kernel
theorem d_W_law_319 : decode b_W_law 319 = .ok (.invokestatic 112, 3) := by decide +kernel
theorem d_W_law_322 : decode b_W_law 322 = .ok (.istore 5, 2) := by decide +kernel
theorem d_W_law_324 : decode b_W_law 324 = .ok (.aload_n 2, 1) := by decide +kernel
theorem d_W_law_325 : decode b_W_law 325 = .ok (.aload_n 0, 1) := by decide +kernel
theorem d_W_law_326 : decode b_W_law 326 = .ok (.iload 4, 2) := by decide +kernel
theorem d_W_law_328 : decode b_W_law 328 = .ok (.iconst 1, 1) := by decide +kernel
theorem d_W_law_329 : decode b_W_law 329 = .ok (.iadd, 1) := by decide +kernel
theorem d_W_law_330 : decode b_W_law 330 = .ok (.iaload, 1) := by decide +kernel
theorem d_W_law_331 : decode b_W_law 331 = .ok (.invokevirtual 115, 3) := by decide +kernel
theorem d_W_law_334 : decode b_W_law 334 = .ok (.aload_n 2, 1) := by decide +kernel
theorem d_W_law_335 : decode b_W_law 335 = .ok (.invokevirtual 101, 3) := by decide +kernel
theorem d_W_law_338 : decode b_W_law 338 = .ok (.iload 5, 2) := by decide +kernel
theorem d_W_law_340 : decode b_W_law 340 = .ok (.if_icmp .eq 5, 3) := by decide +kernel
theorem d_W_law_343 : decode b_W_law 343 = .ok (.iconst 0, 1) := by decide +kernel
theorem d_W_law_344 : decode b_W_law 344 = .ok (.ireturn, 1) := by decide +kernel
theorem d_W_law_345 : decode b_W_law 345 = .ok (.goto 976, 3) := by decide +kernel
theorem d_W_law_348 : decode b_W_law 348 = .ok (.aload_n 1, 1) := by decide +kernel
theorem d_W_law_349 : decode b_W_law 349 = .ok (.invokevirtual 116, 3) := by decide +kernel
theorem d_W_law_352 : decode b_W_law 352 = .ok (.aload_n 2, 1) := by decide +kernel
theorem d_W_law_353 : decode b_W_law 353 = .ok (.invokevirtual 119, 3) := by decide +kernel
theorem d_W_law_356 : decode b_W_law 356 = .ok (.if_icmp .eq 965, 3) := by decide +kernel
theorem d_W_law_359 : decode b_W_law 359 = .ok (.iconst 0, 1) := by decide +kernel
theorem d_W_law_360 : decode b_W_law 360 = .ok (.ireturn, 1) := by decide +kernel
theorem d_W_law_361 : decode b_W_law 361 = .ok (.aload_n 1, 1) := by decide +kernel
theorem d_W_law_362 : decode b_W_law 362 = .ok (.aload_n 0, 1) := by decide +kernel
theorem d_W_law_363 : decode b_W_law 363 = .ok (.iload 4, 2) := by decide +kernel
theorem d_W_law_365 : decode b_W_law 365 = .ok (.iconst 1, 1) := by decide +kernel
theorem d_W_law_366 : decode b_W_law 366 = .ok (.iadd, 1) := by decide +kernel
theorem d_W_law_367 : decode b_W_law 367 = .ok (.iaload, 1) := by decide +kernel
theorem d_W_law_368 : decode b_W_law 368 = .ok (.aload_n 3, 1) := by decide +kernel
theorem d_W_law_369 : decode b_W_law 369 = .ok (.invokestatic 120, 3) := by decide +kernel
theorem d_W_law_372 : decode b_W_law 372 = .ok (.istore 5, 2) := by decide +kernel
theorem d_W_law_374 : decode b_W_law 374 = .ok (.aload_n 2, 1) := by decide +kernel
theorem d_W_law_375 : decode b_W_law 375 = .ok (.aload_n 0, 1) := by decide +kernel
theorem d_W_law_376 : decode b_W_law 376 = .ok (.iload 4, 2) := by decide +kernel
theorem d_W_law_378 : decode b_W_law 378 = .ok (.iconst 1, 1) := by decide +kernel
theorem d_W_law_379 : decode b_W_law 379 = .ok (.iadd, 1) := by decide +kernel
theorem d_W_law_380 : decode b_W_law 380 = .ok (.iaload, 1) := by decide +kernel
theorem d_W_law_381 : decode b_W_law 381 = .ok (.invokevirtual 123, 3) := by decide +kernel
theorem d_W_law_384 : decode b_W_law 384 = .ok (.istore 6, 2) := by decide +kernel
theorem d_W_law_386 : decode b_W_law 386 = .ok (.aload_n 2, 1) := by decide +kernel
theorem d_W_law_387 : decode b_W_law 387 = .ok (.invokevirtual 101, 3) := by decide +kernel
theorem d_W_law_390 : decode b_W_law 390 = .ok (.iload 5, 2) := by decide +kernel
theorem d_W_law_392 : decode b_W_law 392 = .ok (.if_icmp .eq 5, 3) := by decide +kernel
theorem d_W_law_395 : decode b_W_law 395 = .ok (.iconst 0, 1) := by decide +kernel
theorem d_W_law_396 : decode b_W_law 396 = .ok (.ireturn, 1) := by decide +kernel
theorem d_W_law_397 : decode b_W_law 397 = .ok (.iload 5, 2) := by decide +kernel
theorem d_W_law_399 : decode b_W_law 399 = .ok (.ifCond .ne 15, 3) := by decide +kernel
theorem d_W_law_402 : decode b_W_law 402 = .ok (.aload_n 3, 1) := by decide +kernel
theorem d_W_law_403 : decode b_W_law 403 = .ok (.iconst 0, 1) := by decide +kernel
theorem d_W_law_404 : decode b_W_law 404 = .ok (.laload, 1) := by decide +kernel
theorem d_W_law_405 : decode b_W_law 405 = .ok (.iload 6, 2) := by decide +kernel
theorem d_W_law_407 : decode b_W_law 407 = .ok (.i2l, 1) := by decide +kernel
theorem d_W_law_408 : decode b_W_law 408 = .ok (.lcmp, 1) := by decide +kernel
theorem d_W_law_409 : decode b_W_law 409 = .ok (.ifCond .eq 5, 3) := by decide +kernel
theorem d_W_law_412 : decode b_W_law 412 = .ok (.iconst 0, 1) := by decide +kernel
theorem d_W_law_413 : decode b_W_law 413 = .ok (.ireturn, 1) := by decide +kernel
theorem d_W_law_414 : decode b_W_law 414 = .ok (.goto 907, 3) := by decide +kernel
theorem d_W_law_417 : decode b_W_law 417 = .ok (.aload_n 1, 1) := by decide +kernel
theorem d_W_law_418 : decode b_W_law 418 = .ok (.aload_n 0, 1) := by decide +kernel
theorem d_W_law_419 : decode b_W_law 419 = .ok (.iload 4, 2) := by decide +kernel
theorem d_W_law_421 : decode b_W_law 421 = .ok (.iconst 1, 1) := by decide +kernel
theorem d_W_law_422 : decode b_W_law 422 = .ok (.iadd, 1) := by decide +kernel
theorem d_W_law_423 : decode b_W_law 423 = .ok (.iaload, 1) := by decide +kernel
theorem d_W_law_424 : decode b_W_law 424 = .ok (.aload_n 0, 1) := by decide +kernel
theorem d_W_law_425 : decode b_W_law 425 = .ok (.iload 4, 2) := by decide +kernel
theorem d_W_law_427 : decode b_W_law 427 = .ok (.iconst 2, 1) := by decide +kernel
theorem d_W_law_428 : decode b_W_law 428 = .ok (.iadd, 1) := by decide +kernel
theorem d_W_law_429 : decode b_W_law 429 = .ok (.iaload, 1) := by decide +kernel
theorem d_W_law_430 : decode b_W_law 430 = .ok (.invokestatic 124, 3) := by decide +kernel
theorem d_W_law_433 : decode b_W_law 433 = .ok (.istore 5, 2) := by decide +kernel
theorem d_W_law_435 : decode b_W_law 435 = .ok (.aload_n 2, 1) := by decide +kernel
theorem d_W_law_436 : decode b_W_law 436 = .ok (.aload_n 0, 1) := by decide +kernel
theorem d_W_law_437 : decode b_W_law 437 = .ok (.iload 4, 2) := by decide +kernel
theorem d_W_law_439 : decode b_W_law 439 = .ok (.iconst 1, 1) := by decide +kernel
theorem d_W_law_440 : decode b_W_law 440 = .ok (.iadd, 1) := by decide +kernel
theorem d_W_law_441 : decode b_W_law 441 = .ok (.iaload, 1) := by decide +kernel
theorem d_W_law_442 : decode b_W_law 442 = .ok (.aload_n 0, 1) := by decide +kernel
theorem d_W_law_443 : decode b_W_law 443 = .ok (.iload 4, 2) := by decide +kernel
theorem d_W_law_445 : decode b_W_law 445 = .ok (.iconst 2, 1) := by decide +kernel
theorem d_W_law_446 : decode b_W_law 446 = .ok (.iadd, 1) := by decide +kernel
theorem d_W_law_447 : decode b_W_law 447 = .ok (.iaload, 1) := by decide +kernel
theorem d_W_law_448 : decode b_W_law 448 = .ok (.invokevirtual 126, 3) := by decide +kernel
theorem d_W_law_451 : decode b_W_law 451 = .ok (.aload_n 2, 1) := by decide +kernel
theorem d_W_law_452 : decode b_W_law 452 = .ok (.invokevirtual 101, 3) := by decide +kernel
theorem d_W_law_455 : decode b_W_law 455 = .ok (.iload 5, 2) := by decide +kernel
theorem d_W_law_457 : decode b_W_law 457 = .ok (.if_icmp .eq 5, 3) := by decide +kernel
theorem d_W_law_460 : decode b_W_law 460 = .ok (.iconst 0, 1) := by decide +kernel
theorem d_W_law_461 : decode b_W_law 461 = .ok (.ireturn, 1) := by decide +kernel
theorem d_W_law_462 : decode b_W_law 462 = .ok (.goto 859, 3) := by decide +kernel
theorem d_W_law_465 : decode b_W_law 465 = .ok (.aload_n 1, 1) := by decide +kernel
theorem d_W_law_466 : decode b_W_law 466 = .ok (.aload_n 0, 1) := by decide +kernel
theorem d_W_law_467 : decode b_W_law 467 = .ok (.iload 4, 2) := by decide +kernel
theorem d_W_law_469 : decode b_W_law 469 = .ok (.iconst 1, 1) := by decide +kernel
theorem d_W_law_470 : decode b_W_law 470 = .ok (.iadd, 1) := by decide +kernel
theorem d_W_law_471 : decode b_W_law 471 = .ok (.iaload, 1) := by decide +kernel
theorem d_W_law_472 : decode b_W_law 472 = .ok (.aload_n 3, 1) := by decide +kernel
theorem d_W_law_473 : decode b_W_law 473 = .ok (.invokestatic 127, 3) := by decide +kernel
theorem d_W_law_476 : decode b_W_law 476 = .ok (.istore 5, 2) := by decide +kernel
theorem d_W_law_478 : decode b_W_law 478 = .ok (.aload_n 2, 1) := by decide +kernel
theorem d_W_law_479 : decode b_W_law 479 = .ok (.aload_n 0, 1) := by decide +kernel
theorem d_W_law_480 : decode b_W_law 480 = .ok (.iload 4, 2) := by decide +kernel
theorem d_W_law_482 : decode b_W_law 482 = .ok (.iconst 1, 1) := by decide +kernel
theorem d_W_law_483 : decode b_W_law 483 = .ok (.iadd, 1) := by decide +kernel
theorem d_W_law_484 : decode b_W_law 484 = .ok (.iaload, 1) := by decide +kernel
theorem d_W_law_485 : decode b_W_law 485 = .ok (.invokevirtual 129, 3) := by decide +kernel
theorem d_W_law_488 : decode b_W_law 488 = .ok (.istore 6, 2) := by decide +kernel
theorem d_W_law_490 : decode b_W_law 490 = .ok (.aload_n 2, 1) := by decide +kernel
theorem d_W_law_491 : decode b_W_law 491 = .ok (.invokevirtual 101, 3) := by decide +kernel
theorem d_W_law_494 : decode b_W_law 494 = .ok (.iload 5, 2) := by decide +kernel
theorem d_W_law_496 : decode b_W_law 496 = .ok (.if_icmp .eq 5, 3) := by decide +kernel
theorem d_W_law_499 : decode b_W_law 499 = .ok (.iconst 0, 1) := by decide +kernel
theorem d_W_law_500 : decode b_W_law 500 = .ok (.ireturn, 1) := by decide +kernel
theorem d_W_law_501 : decode b_W_law 501 = .ok (.iload 5, 2) := by decide +kernel
theorem d_W_law_503 : decode b_W_law 503 = .ok (.ifCond .ne 15, 3) := by decide +kernel
theorem d_W_law_506 : decode b_W_law 506 = .ok (.aload_n 3, 1) := by decide +kernel
theorem d_W_law_507 : decode b_W_law 507 = .ok (.iconst 0, 1) := by decide +kernel
theorem d_W_law_508 : decode b_W_law 508 = .ok (.laload, 1) := by decide +kernel
theorem d_W_law_509 : decode b_W_law 509 = .ok (.iload 6, 2) := by decide +kernel
theorem d_W_law_511 : decode b_W_law 511 = .ok (.i2l, 1) := by decide +kernel
theorem d_W_law_512 : decode b_W_law 512 = .ok (.lcmp, 1) := by decide +kernel
theorem d_W_law_513 : decode b_W_law 513 = .ok (.ifCond .eq 5, 3) := by decide +kernel
theorem d_W_law_516 : decode b_W_law 516 = .ok (.iconst 0, 1) := by decide +kernel
theorem d_W_law_517 : decode b_W_law 517 = .ok (.ireturn, 1) := by decide +kernel
theorem d_W_law_518 : decode b_W_law 518 = .ok (.goto 803, 3) := by decide +kernel
theorem d_W_law_521 : decode b_W_law 521 = .ok (.aload_n 1, 1) := by decide +kernel
theorem d_W_law_522 : decode b_W_law 522 = .ok (.aload_n 0, 1) := by decide +kernel
theorem d_W_law_523 : decode b_W_law 523 = .ok (.iload 4, 2) := by decide +kernel
theorem d_W_law_525 : decode b_W_law 525 = .ok (.iconst 1, 1) := by decide +kernel
theorem d_W_law_526 : decode b_W_law 526 = .ok (.iadd, 1) := by decide +kernel
theorem d_W_law_527 : decode b_W_law 527 = .ok (.iaload, 1) := by decide +kernel
theorem d_W_law_528 : decode b_W_law 528 = .ok (.aload_n 3, 1) := by decide +kernel
theorem d_W_law_529 : decode b_W_law 529 = .ok (.invokestatic 130, 3) := by decide +kernel
theorem d_W_law_532 : decode b_W_law 532 = .ok (.istore 5, 2) := by decide +kernel
theorem d_W_law_534 : decode b_W_law 534 = .ok (.aload_n 2, 1) := by decide +kernel
theorem d_W_law_535 : decode b_W_law 535 = .ok (.aload_n 0, 1) := by decide +kernel
theorem d_W_law_536 : decode b_W_law 536 = .ok (.iload 4, 2) := by decide +kernel
theorem d_W_law_538 : decode b_W_law 538 = .ok (.iconst 1, 1) := by decide +kernel
theorem d_W_law_539 : decode b_W_law 539 = .ok (.iadd, 1) := by decide +kernel
theorem d_W_law_540 : decode b_W_law 540 = .ok (.iaload, 1) := by decide +kernel
theorem d_W_law_541 : decode b_W_law 541 = .ok (.invokevirtual 132, 3) := by decide +kernel
theorem d_W_law_544 : decode b_W_law 544 = .ok (.istore 6, 2) := by decide +kernel
theorem d_W_law_546 : decode b_W_law 546 = .ok (.aload_n 2, 1) := by decide +kernel
theorem d_W_law_547 : decode b_W_law 547 = .ok (.invokevirtual 101, 3) := by decide +kernel
theorem d_W_law_550 : decode b_W_law 550 = .ok (.iload 5, 2) := by decide +kernel
theorem d_W_law_552 : decode b_W_law 552 = .ok (.if_icmp .eq 5, 3) := by decide +kernel
theorem d_W_law_555 : decode b_W_law 555 = .ok (.iconst 0, 1) := by decide +kernel
theorem d_W_law_556 : decode b_W_law 556 = .ok (.ireturn, 1) := by decide +kernel
theorem d_W_law_557 : decode b_W_law 557 = .ok (.iload 5, 2) := by decide +kernel
theorem d_W_law_559 : decode b_W_law 559 = .ok (.ifCond .ne 15, 3) := by decide +kernel
theorem d_W_law_562 : decode b_W_law 562 = .ok (.aload_n 3, 1) := by decide +kernel
theorem d_W_law_563 : decode b_W_law 563 = .ok (.iconst 0, 1) := by decide +kernel
theorem d_W_law_564 : decode b_W_law 564 = .ok (.laload, 1) := by decide +kernel
theorem d_W_law_565 : decode b_W_law 565 = .ok (.iload 6, 2) := by decide +kernel
theorem d_W_law_567 : decode b_W_law 567 = .ok (.i2l, 1) := by decide +kernel
theorem d_W_law_568 : decode b_W_law 568 = .ok (.lcmp, 1) := by decide +kernel
theorem d_W_law_569 : decode b_W_law 569 = .ok (.ifCond .eq 5, 3) := by decide +kernel
theorem d_W_law_572 : decode b_W_law 572 = .ok (.iconst 0, 1) := by decide +kernel
theorem d_W_law_573 : decode b_W_law 573 = .ok (.ireturn, 1) := by decide +kernel
theorem d_W_law_574 : decode b_W_law 574 = .ok (.goto 747, 3) := by decide +kernel
theorem d_W_law_577 : decode b_W_law 577 = .ok (.aload_n 1, 1) := by decide +kernel
theorem d_W_law_578 : decode b_W_law 578 = .ok (.aload_n 0, 1) := by decide +kernel
theorem d_W_law_579 : decode b_W_law 579 = .ok (.iload 4, 2) := by decide +kernel
theorem d_W_law_581 : decode b_W_law 581 = .ok (.iconst 1, 1) := by decide +kernel
theorem d_W_law_582 : decode b_W_law 582 = .ok (.iadd, 1) := by decide +kernel
theorem d_W_law_583 : decode b_W_law 583 = .ok (.iaload, 1) := by decide +kernel
theorem d_W_law_584 : decode b_W_law 584 = .ok (.aload_n 3, 1) := by decide +kernel
theorem d_W_law_585 : decode b_W_law 585 = .ok (.invokestatic 133, 3) := by decide +kernel
theorem d_W_law_588 : decode b_W_law 588 = .ok (.istore 5, 2) := by decide +kernel
theorem d_W_law_590 : decode b_W_law 590 = .ok (.aload_n 2, 1) := by decide +kernel
theorem d_W_law_591 : decode b_W_law 591 = .ok (.aload_n 0, 1) := by decide +kernel
theorem d_W_law_592 : decode b_W_law 592 = .ok (.iload 4, 2) := by decide +kernel
theorem d_W_law_594 : decode b_W_law 594 = .ok (.iconst 1, 1) := by decide +kernel
theorem d_W_law_595 : decode b_W_law 595 = .ok (.iadd, 1) := by decide +kernel
theorem d_W_law_596 : decode b_W_law 596 = .ok (.iaload, 1) := by decide +kernel
theorem d_W_law_597 : decode b_W_law 597 = .ok (.invokevirtual 135, 3) := by decide +kernel
theorem d_W_law_600 : decode b_W_law 600 = .ok (.istore 6, 2) := by decide +kernel
theorem d_W_law_602 : decode b_W_law 602 = .ok (.aload_n 2, 1) := by decide +kernel
theorem d_W_law_603 : decode b_W_law 603 = .ok (.invokevirtual 101, 3) := by decide +kernel
theorem d_W_law_606 : decode b_W_law 606 = .ok (.iload 5, 2) := by decide +kernel
theorem d_W_law_608 : decode b_W_law 608 = .ok (.if_icmp .eq 5, 3) := by decide +kernel
theorem d_W_law_611 : decode b_W_law 611 = .ok (.iconst 0, 1) := by decide +kernel
theorem d_W_law_612 : decode b_W_law 612 = .ok (.ireturn, 1) := by decide +kernel
theorem d_W_law_613 : decode b_W_law 613 = .ok (.iload 5, 2) := by decide +kernel
theorem d_W_law_615 : decode b_W_law 615 = .ok (.ifCond .ne 15, 3) := by decide +kernel
theorem d_W_law_618 : decode b_W_law 618 = .ok (.aload_n 3, 1) := by decide +kernel
theorem d_W_law_619 : decode b_W_law 619 = .ok (.iconst 0, 1) := by decide +kernel
theorem d_W_law_620 : decode b_W_law 620 = .ok (.laload, 1) := by decide +kernel
theorem d_W_law_621 : decode b_W_law 621 = .ok (.iload 6, 2) := by decide +kernel
theorem d_W_law_623 : decode b_W_law 623 = .ok (.i2l, 1) := by decide +kernel
theorem d_W_law_624 : decode b_W_law 624 = .ok (.lcmp, 1) := by decide +kernel
theorem d_W_law_625 : decode b_W_law 625 = .ok (.ifCond .eq 5, 3) := by decide +kernel
theorem d_W_law_628 : decode b_W_law 628 = .ok (.iconst 0, 1) := by decide +kernel
theorem d_W_law_629 : decode b_W_law 629 = .ok (.ireturn, 1) := by decide +kernel
theorem d_W_law_630 : decode b_W_law 630 = .ok (.goto 691, 3) := by decide +kernel
theorem d_W_law_633 : decode b_W_law 633 = .ok (.aload_n 1, 1) := by decide +kernel
theorem d_W_law_634 : decode b_W_law 634 = .ok (.aload_n 0, 1) := by decide +kernel
theorem d_W_law_635 : decode b_W_law 635 = .ok (.iload 4, 2) := by decide +kernel
theorem d_W_law_637 : decode b_W_law 637 = .ok (.iconst 1, 1) := by decide +kernel
theorem d_W_law_638 : decode b_W_law 638 = .ok (.iadd, 1) := by decide +kernel
theorem d_W_law_639 : decode b_W_law 639 = .ok (.iaload, 1) := by decide +kernel
theorem d_W_law_640 : decode b_W_law 640 = .ok (.invokestatic 136, 3) := by decide +kernel
theorem d_W_law_643 : decode b_W_law 643 = .ok (.istore 5, 2) := by decide +kernel
theorem d_W_law_645 : decode b_W_law 645 = .ok (.aload_n 2, 1) := by decide +kernel
theorem d_W_law_646 : decode b_W_law 646 = .ok (.aload_n 0, 1) := by decide +kernel
theorem d_W_law_647 : decode b_W_law 647 = .ok (.iload 4, 2) := by decide +kernel
theorem d_W_law_649 : decode b_W_law 649 = .ok (.iconst 1, 1) := by decide +kernel
theorem d_W_law_650 : decode b_W_law 650 = .ok (.iadd, 1) := by decide +kernel
theorem d_W_law_651 : decode b_W_law 651 = .ok (.iaload, 1) := by decide +kernel
theorem d_W_law_652 : decode b_W_law 652 = .ok (.invokevirtual 138, 3) := by decide +kernel
theorem d_W_law_655 : decode b_W_law 655 = .ok (.aload_n 2, 1) := by decide +kernel
theorem d_W_law_656 : decode b_W_law 656 = .ok (.invokevirtual 101, 3) := by decide +kernel
theorem d_W_law_659 : decode b_W_law 659 = .ok (.iload 5, 2) := by decide +kernel
theorem d_W_law_661 : decode b_W_law 661 = .ok (.if_icmp .eq 5, 3) := by decide +kernel
theorem d_W_law_664 : decode b_W_law 664 = .ok (.iconst 0, 1) := by decide +kernel
theorem d_W_law_665 : decode b_W_law 665 = .ok (.ireturn, 1) := by decide +kernel
theorem d_W_law_666 : decode b_W_law 666 = .ok (.goto 655, 3) := by decide +kernel
theorem d_W_law_669 : decode b_W_law 669 = .ok (.aload_n 1, 1) := by decide +kernel
theorem d_W_law_670 : decode b_W_law 670 = .ok (.aload_n 0, 1) := by decide +kernel
theorem d_W_law_671 : decode b_W_law 671 = .ok (.iload 4, 2) := by decide +kernel
theorem d_W_law_673 : decode b_W_law 673 = .ok (.iconst 1, 1) := by decide +kernel
theorem d_W_law_674 : decode b_W_law 674 = .ok (.iadd, 1) := by decide +kernel
theorem d_W_law_675 : decode b_W_law 675 = .ok (.iaload, 1) := by decide +kernel
theorem d_W_law_676 : decode b_W_law 676 = .ok (.aload_n 3, 1) := by decide +kernel
theorem d_W_law_677 : decode b_W_law 677 = .ok (.invokestatic 139, 3) := by decide +kernel
theorem d_W_law_680 : decode b_W_law 680 = .ok (.istore 5, 2) := by decide +kernel
theorem d_W_law_682 : decode b_W_law 682 = .ok (.aload_n 2, 1) := by decide +kernel
theorem d_W_law_683 : decode b_W_law 683 = .ok (.aload_n 0, 1) := by decide +kernel
theorem d_W_law_684 : decode b_W_law 684 = .ok (.iload 4, 2) := by decide +kernel
theorem d_W_law_686 : decode b_W_law 686 = .ok (.iconst 1, 1) := by decide +kernel
theorem d_W_law_687 : decode b_W_law 687 = .ok (.iadd, 1) := by decide +kernel
theorem d_W_law_688 : decode b_W_law 688 = .ok (.iaload, 1) := by decide +kernel
theorem d_W_law_689 : decode b_W_law 689 = .ok (.invokevirtual 141, 3) := by decide +kernel
theorem d_W_law_692 : decode b_W_law 692 = .ok (.istore 6, 2) := by decide +kernel
theorem d_W_law_694 : decode b_W_law 694 = .ok (.aload_n 2, 1) := by decide +kernel
theorem d_W_law_695 : decode b_W_law 695 = .ok (.invokevirtual 101, 3) := by decide +kernel
theorem d_W_law_698 : decode b_W_law 698 = .ok (.iload 5, 2) := by decide +kernel
theorem d_W_law_700 : decode b_W_law 700 = .ok (.if_icmp .eq 5, 3) := by decide +kernel
theorem d_W_law_703 : decode b_W_law 703 = .ok (.iconst 0, 1) := by decide +kernel
theorem d_W_law_704 : decode b_W_law 704 = .ok (.ireturn, 1) := by decide +kernel
theorem d_W_law_705 : decode b_W_law 705 = .ok (.iload 5, 2) := by decide +kernel
theorem d_W_law_707 : decode b_W_law 707 = .ok (.ifCond .ne 15, 3) := by decide +kernel
theorem d_W_law_710 : decode b_W_law 710 = .ok (.aload_n 3, 1) := by decide +kernel
theorem d_W_law_711 : decode b_W_law 711 = .ok (.iconst 0, 1) := by decide +kernel
theorem d_W_law_712 : decode b_W_law 712 = .ok (.laload, 1) := by decide +kernel
theorem d_W_law_713 : decode b_W_law 713 = .ok (.iload 6, 2) := by decide +kernel
theorem d_W_law_715 : decode b_W_law 715 = .ok (.i2l, 1) := by decide +kernel
theorem d_W_law_716 : decode b_W_law 716 = .ok (.lcmp, 1) := by decide +kernel
theorem d_W_law_717 : decode b_W_law 717 = .ok (.ifCond .eq 5, 3) := by decide +kernel
theorem d_W_law_720 : decode b_W_law 720 = .ok (.iconst 0, 1) := by decide +kernel
theorem d_W_law_721 : decode b_W_law 721 = .ok (.ireturn, 1) := by decide +kernel
theorem d_W_law_722 : decode b_W_law 722 = .ok (.goto 599, 3) := by decide +kernel
theorem d_W_law_725 : decode b_W_law 725 = .ok (.aload_n 1, 1) := by decide +kernel
theorem d_W_law_726 : decode b_W_law 726 = .ok (.aload_n 0, 1) := by decide +kernel
theorem d_W_law_727 : decode b_W_law 727 = .ok (.iload 4, 2) := by decide +kernel
theorem d_W_law_729 : decode b_W_law 729 = .ok (.iconst 1, 1) := by decide +kernel
theorem d_W_law_730 : decode b_W_law 730 = .ok (.iadd, 1) := by decide +kernel
theorem d_W_law_731 : decode b_W_law 731 = .ok (.iaload, 1) := by decide +kernel
theorem d_W_law_732 : decode b_W_law 732 = .ok (.aload_n 3, 1) := by decide +kernel
theorem d_W_law_733 : decode b_W_law 733 = .ok (.invokestatic 142, 3) := by decide +kernel
theorem d_W_law_736 : decode b_W_law 736 = .ok (.istore 5, 2) := by decide +kernel
theorem d_W_law_738 : decode b_W_law 738 = .ok (.aload_n 2, 1) := by decide +kernel
theorem d_W_law_739 : decode b_W_law 739 = .ok (.aload_n 0, 1) := by decide +kernel
theorem d_W_law_740 : decode b_W_law 740 = .ok (.iload 4, 2) := by decide +kernel
theorem d_W_law_742 : decode b_W_law 742 = .ok (.iconst 1, 1) := by decide +kernel
theorem d_W_law_743 : decode b_W_law 743 = .ok (.iadd, 1) := by decide +kernel
theorem d_W_law_744 : decode b_W_law 744 = .ok (.iaload, 1) := by decide +kernel
theorem d_W_law_745 : decode b_W_law 745 = .ok (.invokevirtual 144, 3) := by decide +kernel
theorem d_W_law_748 : decode b_W_law 748 = .ok (.istore 6, 2) := by decide +kernel
theorem d_W_law_750 : decode b_W_law 750 = .ok (.aload_n 2, 1) := by decide +kernel
theorem d_W_law_751 : decode b_W_law 751 = .ok (.invokevirtual 101, 3) := by decide +kernel
theorem d_W_law_754 : decode b_W_law 754 = .ok (.iload 5, 2) := by decide +kernel
theorem d_W_law_756 : decode b_W_law 756 = .ok (.if_icmp .eq 5, 3) := by decide +kernel
theorem d_W_law_759 : decode b_W_law 759 = .ok (.iconst 0, 1) := by decide +kernel
theorem d_W_law_760 : decode b_W_law 760 = .ok (.ireturn, 1) := by decide +kernel
theorem d_W_law_761 : decode b_W_law 761 = .ok (.iload 5, 2) := by decide +kernel
theorem d_W_law_763 : decode b_W_law 763 = .ok (.ifCond .ne 15, 3) := by decide +kernel
theorem d_W_law_766 : decode b_W_law 766 = .ok (.aload_n 3, 1) := by decide +kernel
theorem d_W_law_767 : decode b_W_law 767 = .ok (.iconst 0, 1) := by decide +kernel
theorem d_W_law_768 : decode b_W_law 768 = .ok (.laload, 1) := by decide +kernel
theorem d_W_law_769 : decode b_W_law 769 = .ok (.iload 6, 2) := by decide +kernel
theorem d_W_law_771 : decode b_W_law 771 = .ok (.i2l, 1) := by decide +kernel
theorem d_W_law_772 : decode b_W_law 772 = .ok (.lcmp, 1) := by decide +kernel
theorem d_W_law_773 : decode b_W_law 773 = .ok (.ifCond .eq 5, 3) := by decide +kernel
theorem d_W_law_776 : decode b_W_law 776 = .ok (.iconst 0, 1) := by decide +kernel
theorem d_W_law_777 : decode b_W_law 777 = .ok (.ireturn, 1) := by decide +kernel
theorem d_W_law_778 : decode b_W_law 778 = .ok (.goto 543, 3) := by decide +kernel
theorem d_W_law_781 : decode b_W_law 781 = .ok (.aload_n 1, 1) := by decide +kernel
theorem d_W_law_782 : decode b_W_law 782 = .ok (.aload_n 0, 1) := by decide +kernel
theorem d_W_law_783 : decode b_W_law 783 = .ok (.iload 4, 2) := by decide +kernel
theorem d_W_law_785 : decode b_W_law 785 = .ok (.iconst 1, 1) := by decide +kernel
theorem d_W_law_786 : decode b_W_law 786 = .ok (.iadd, 1) := by decide +kernel
theorem d_W_law_787 : decode b_W_law 787 = .ok (.iaload, 1) := by decide +kernel
theorem d_W_law_788 : decode b_W_law 788 = .ok (.invokestatic 145, 3) := by decide +kernel
theorem d_W_law_791 : decode b_W_law 791 = .ok (.istore 5, 2) := by decide +kernel
theorem d_W_law_793 : decode b_W_law 793 = .ok (.aload_n 2, 1) := by decide +kernel
theorem d_W_law_794 : decode b_W_law 794 = .ok (.aload_n 0, 1) := by decide +kernel
theorem d_W_law_795 : decode b_W_law 795 = .ok (.iload 4, 2) := by decide +kernel
theorem d_W_law_797 : decode b_W_law 797 = .ok (.iconst 1, 1) := by decide +kernel
theorem d_W_law_798 : decode b_W_law 798 = .ok (.iadd, 1) := by decide +kernel
theorem d_W_law_799 : decode b_W_law 799 = .ok (.iaload, 1) := by decide +kernel
theorem d_W_law_800 : decode b_W_law 800 = .ok (.invokevirtual 147, 3) := by decide +kernel
theorem d_W_law_803 : decode b_W_law 803 = .ok (.aload_n 2, 1) := by decide +kernel
theorem d_W_law_804 : decode b_W_law 804 = .ok (.invokevirtual 101, 3) := by decide +kernel
theorem d_W_law_807 : decode b_W_law 807 = .ok (.iload 5, 2) := by decide +kernel
theorem d_W_law_809 : decode b_W_law 809 = .ok (.if_icmp .eq 5, 3) := by decide +kernel
theorem d_W_law_812 : decode b_W_law 812 = .ok (.iconst 0, 1) := by decide +kernel
theorem d_W_law_813 : decode b_W_law 813 = .ok (.ireturn, 1) := by decide +kernel
theorem d_W_law_814 : decode b_W_law 814 = .ok (.goto 507, 3) := by decide +kernel
theorem d_W_law_817 : decode b_W_law 817 = .ok (.aload_n 1, 1) := by decide +kernel
theorem d_W_law_818 : decode b_W_law 818 = .ok (.aload_n 0, 1) := by decide +kernel
theorem d_W_law_819 : decode b_W_law 819 = .ok (.iload 4, 2) := by decide +kernel
theorem d_W_law_821 : decode b_W_law 821 = .ok (.iconst 1, 1) := by decide +kernel
theorem d_W_law_822 : decode b_W_law 822 = .ok (.iadd, 1) := by decide +kernel
theorem d_W_law_823 : decode b_W_law 823 = .ok (.iaload, 1) := by decide +kernel
theorem d_W_law_824 : decode b_W_law 824 = .ok (.invokestatic 148, 3) := by decide +kernel
theorem d_W_law_827 : decode b_W_law 827 = .ok (.istore 5, 2) := by decide +kernel
theorem d_W_law_829 : decode b_W_law 829 = .ok (.aload_n 2, 1) := by decide +kernel
theorem d_W_law_830 : decode b_W_law 830 = .ok (.aload_n 0, 1) := by decide +kernel
theorem d_W_law_831 : decode b_W_law 831 = .ok (.iload 4, 2) := by decide +kernel
theorem d_W_law_833 : decode b_W_law 833 = .ok (.iconst 1, 1) := by decide +kernel
theorem d_W_law_834 : decode b_W_law 834 = .ok (.iadd, 1) := by decide +kernel
theorem d_W_law_835 : decode b_W_law 835 = .ok (.iaload, 1) := by decide +kernel
theorem d_W_law_836 : decode b_W_law 836 = .ok (.invokevirtual 150, 3) := by decide +kernel
theorem d_W_law_839 : decode b_W_law 839 = .ok (.aload_n 2, 1) := by decide +kernel
theorem d_W_law_840 : decode b_W_law 840 = .ok (.invokevirtual 101, 3) := by decide +kernel
theorem d_W_law_843 : decode b_W_law 843 = .ok (.iload 5, 2) := by decide +kernel
theorem d_W_law_845 : decode b_W_law 845 = .ok (.if_icmp .eq 5, 3) := by decide +kernel
theorem d_W_law_848 : decode b_W_law 848 = .ok (.iconst 0, 1) := by decide +kernel
theorem d_W_law_849 : decode b_W_law 849 = .ok (.ireturn, 1) := by decide +kernel
theorem d_W_law_850 : decode b_W_law 850 = .ok (.goto 471, 3) := by decide +kernel
theorem d_W_law_853 : decode b_W_law 853 = .ok (.aload_n 1, 1) := by decide +kernel
theorem d_W_law_854 : decode b_W_law 854 = .ok (.aload_n 0, 1) := by decide +kernel
theorem d_W_law_855 : decode b_W_law 855 = .ok (.iload 4, 2) := by decide +kernel
theorem d_W_law_857 : decode b_W_law 857 = .ok (.iconst 1, 1) := by decide +kernel
theorem d_W_law_858 : decode b_W_law 858 = .ok (.iadd, 1) := by decide +kernel
theorem d_W_law_859 : decode b_W_law 859 = .ok (.iaload, 1) := by decide +kernel
theorem d_W_law_860 : decode b_W_law 860 = .ok (.invokestatic 151, 3) := by decide +kernel
theorem d_W_law_863 : decode b_W_law 863 = .ok (.istore 5, 2) := by decide +kernel
theorem d_W_law_865 : decode b_W_law 865 = .ok (.aload_n 2, 1) := by decide +kernel
theorem d_W_law_866 : decode b_W_law 866 = .ok (.aload_n 0, 1) := by decide +kernel
theorem d_W_law_867 : decode b_W_law 867 = .ok (.iload 4, 2) := by decide +kernel
theorem d_W_law_869 : decode b_W_law 869 = .ok (.iconst 1, 1) := by decide +kernel
theorem d_W_law_870 : decode b_W_law 870 = .ok (.iadd, 1) := by decide +kernel
theorem d_W_law_871 : decode b_W_law 871 = .ok (.iaload, 1) := by decide +kernel
theorem d_W_law_872 : decode b_W_law 872 = .ok (.invokevirtual 153, 3) := by decide +kernel
theorem d_W_law_875 : decode b_W_law 875 = .ok (.aload_n 2, 1) := by decide +kernel
theorem d_W_law_876 : decode b_W_law 876 = .ok (.invokevirtual 101, 3) := by decide +kernel
theorem d_W_law_879 : decode b_W_law 879 = .ok (.iload 5, 2) := by decide +kernel
theorem d_W_law_881 : decode b_W_law 881 = .ok (.if_icmp .eq 5, 3) := by decide +kernel
theorem d_W_law_884 : decode b_W_law 884 = .ok (.iconst 0, 1) := by decide +kernel
theorem d_W_law_885 : decode b_W_law 885 = .ok (.ireturn, 1) := by decide +kernel
theorem d_W_law_886 : decode b_W_law 886 = .ok (.goto 435, 3) := by decide +kernel
theorem d_W_law_889 : decode b_W_law 889 = .ok (.aload_n 1, 1) := by decide +kernel
theorem d_W_law_890 : decode b_W_law 890 = .ok (.aload_n 0, 1) := by decide +kernel
theorem d_W_law_891 : decode b_W_law 891 = .ok (.iload 4, 2) := by decide +kernel
theorem d_W_law_893 : decode b_W_law 893 = .ok (.iconst 1, 1) := by decide +kernel
theorem d_W_law_894 : decode b_W_law 894 = .ok (.iadd, 1) := by decide +kernel
theorem d_W_law_895 : decode b_W_law 895 = .ok (.iaload, 1) := by decide +kernel
theorem d_W_law_896 : decode b_W_law 896 = .ok (.aload_n 0, 1) := by decide +kernel
theorem d_W_law_897 : decode b_W_law 897 = .ok (.iload 4, 2) := by decide +kernel
theorem d_W_law_899 : decode b_W_law 899 = .ok (.iconst 2, 1) := by decide +kernel
theorem d_W_law_900 : decode b_W_law 900 = .ok (.iadd, 1) := by decide +kernel
theorem d_W_law_901 : decode b_W_law 901 = .ok (.iaload, 1) := by decide +kernel
theorem d_W_law_902 : decode b_W_law 902 = .ok (.aload_n 3, 1) := by decide +kernel
theorem d_W_law_903 : decode b_W_law 903 = .ok (.invokestatic 154, 3) := by decide +kernel
theorem d_W_law_906 : decode b_W_law 906 = .ok (.istore 5, 2) := by decide +kernel
theorem d_W_law_908 : decode b_W_law 908 = .ok (.aload_n 2, 1) := by decide +kernel
theorem d_W_law_909 : decode b_W_law 909 = .ok (.aload_n 0, 1) := by decide +kernel
theorem d_W_law_910 : decode b_W_law 910 = .ok (.iload 4, 2) := by decide +kernel
theorem d_W_law_912 : decode b_W_law 912 = .ok (.iconst 1, 1) := by decide +kernel
theorem d_W_law_913 : decode b_W_law 913 = .ok (.iadd, 1) := by decide +kernel
theorem d_W_law_914 : decode b_W_law 914 = .ok (.iaload, 1) := by decide +kernel
theorem d_W_law_915 : decode b_W_law 915 = .ok (.aload_n 0, 1) := by decide +kernel
theorem d_W_law_916 : decode b_W_law 916 = .ok (.iload 4, 2) := by decide +kernel
theorem d_W_law_918 : decode b_W_law 918 = .ok (.iconst 2, 1) := by decide +kernel
theorem d_W_law_919 : decode b_W_law 919 = .ok (.iadd, 1) := by decide +kernel
theorem d_W_law_920 : decode b_W_law 920 = .ok (.iaload, 1) := by decide +kernel
theorem d_W_law_921 : decode b_W_law 921 = .ok (.invokevirtual 157, 3) := by decide +kernel
theorem d_W_law_924 : decode b_W_law 924 = .ok (.istore 6, 2) := by decide +kernel
theorem d_W_law_926 : decode b_W_law 926 = .ok (.aload_n 2, 1) := by decide +kernel
theorem d_W_law_927 : decode b_W_law 927 = .ok (.invokevirtual 101, 3) := by decide +kernel
theorem d_W_law_930 : decode b_W_law 930 = .ok (.iload 5, 2) := by decide +kernel
theorem d_W_law_932 : decode b_W_law 932 = .ok (.if_icmp .eq 5, 3) := by decide +kernel
theorem d_W_law_935 : decode b_W_law 935 = .ok (.iconst 0, 1) := by decide +kernel
theorem d_W_law_936 : decode b_W_law 936 = .ok (.ireturn, 1) := by decide +kernel
theorem d_W_law_937 : decode b_W_law 937 = .ok (.iload 5, 2) := by decide +kernel
theorem d_W_law_939 : decode b_W_law 939 = .ok (.ifCond .ne 15, 3) := by decide +kernel
theorem d_W_law_942 : decode b_W_law 942 = .ok (.aload_n 3, 1) := by decide +kernel
theorem d_W_law_943 : decode b_W_law 943 = .ok (.iconst 0, 1) := by decide +kernel
theorem d_W_law_944 : decode b_W_law 944 = .ok (.laload, 1) := by decide +kernel
theorem d_W_law_945 : decode b_W_law 945 = .ok (.iload 6, 2) := by decide +kernel
theorem d_W_law_947 : decode b_W_law 947 = .ok (.i2l, 1) := by decide +kernel
theorem d_W_law_948 : decode b_W_law 948 = .ok (.lcmp, 1) := by decide +kernel
theorem d_W_law_949 : decode b_W_law 949 = .ok (.ifCond .eq 5, 3) := by decide +kernel
theorem d_W_law_952 : decode b_W_law 952 = .ok (.iconst 0, 1) := by decide +kernel
theorem d_W_law_953 : decode b_W_law 953 = .ok (.ireturn, 1) := by decide +kernel
theorem d_W_law_954 : decode b_W_law 954 = .ok (.goto 367, 3) := by decide +kernel
theorem d_W_law_957 : decode b_W_law 957 = .ok (.aload_n 1, 1) := by decide +kernel
theorem d_W_law_958 : decode b_W_law 958 = .ok (.invokevirtual 158, 3) := by decide +kernel
theorem d_W_law_961 : decode b_W_law 961 = .ok (.aload_n 2, 1) := by decide +kernel
theorem d_W_law_962 : decode b_W_law 962 = .ok (.invokevirtual 161, 3) := by decide +kernel
theorem d_W_law_965 : decode b_W_law 965 = .ok (.if_icmp .eq 356, 3) := by decide +kernel
theorem d_W_law_968 : decode b_W_law 968 = .ok (.iconst 0, 1) := by decide +kernel
theorem d_W_law_969 : decode b_W_law 969 = .ok (.ireturn, 1) := by decide +kernel
theorem d_W_law_970 : decode b_W_law 970 = .ok (.aload_n 1, 1) := by decide +kernel
theorem d_W_law_971 : decode b_W_law 971 = .ok (.aload_n 0, 1) := by decide +kernel
theorem d_W_law_972 : decode b_W_law 972 = .ok (.iload 4, 2) := by decide +kernel
theorem d_W_law_974 : decode b_W_law 974 = .ok (.iconst 1, 1) := by decide +kernel
theorem d_W_law_975 : decode b_W_law 975 = .ok (.iadd, 1) := by decide +kernel
theorem d_W_law_976 : decode b_W_law 976 = .ok (.iaload, 1) := by decide +kernel
theorem d_W_law_977 : decode b_W_law 977 = .ok (.aload_n 3, 1) := by decide +kernel
theorem d_W_law_978 : decode b_W_law 978 = .ok (.invokestatic 162, 3) := by decide +kernel
theorem d_W_law_981 : decode b_W_law 981 = .ok (.istore 5, 2) := by decide +kernel
theorem d_W_law_983 : decode b_W_law 983 = .ok (.aload_n 2, 1) := by decide +kernel
theorem d_W_law_984 : decode b_W_law 984 = .ok (.aload_n 0, 1) := by decide +kernel
theorem d_W_law_985 : decode b_W_law 985 = .ok (.iload 4, 2) := by decide +kernel
theorem d_W_law_987 : decode b_W_law 987 = .ok (.iconst 1, 1) := by decide +kernel
theorem d_W_law_988 : decode b_W_law 988 = .ok (.iadd, 1) := by decide +kernel
theorem d_W_law_989 : decode b_W_law 989 = .ok (.iaload, 1) := by decide +kernel
theorem d_W_law_990 : decode b_W_law 990 = .ok (.invokevirtual 164, 3) := by decide +kernel
theorem d_W_law_993 : decode b_W_law 993 = .ok (.istore 6, 2) := by decide +kernel
theorem d_W_law_995 : decode b_W_law 995 = .ok (.aload_n 2, 1) := by decide +kernel
theorem d_W_law_996 : decode b_W_law 996 = .ok (.invokevirtual 101, 3) := by decide +kernel
theorem d_W_law_999 : decode b_W_law 999 = .ok (.iload 5, 2) := by decide +kernel
theorem d_W_law_1001 : decode b_W_law 1001 = .ok (.if_icmp .eq 5, 3) := by decide +kernel
theorem d_W_law_1004 : decode b_W_law 1004 = .ok (.iconst 0, 1) := by decide +kernel
theorem d_W_law_1005 : decode b_W_law 1005 = .ok (.ireturn, 1) := by decide +kernel
theorem d_W_law_1006 : decode b_W_law 1006 = .ok (.iload 5, 2) := by decide +kernel
theorem d_W_law_1008 : decode b_W_law 1008 = .ok (.ifCond .ne 15, 3) := by decide +kernel
theorem d_W_law_1011 : decode b_W_law 1011 = .ok (.aload_n 3, 1) := by decide +kernel
theorem d_W_law_1012 : decode b_W_law 1012 = .ok (.iconst 0, 1) := by decide +kernel
theorem d_W_law_1013 : decode b_W_law 1013 = .ok (.laload, 1) := by decide +kernel
theorem d_W_law_1014 : decode b_W_law 1014 = .ok (.iload 6, 2) := by decide +kernel
theorem d_W_law_1016 : decode b_W_law 1016 = .ok (.i2l, 1) := by decide +kernel
theorem d_W_law_1017 : decode b_W_law 1017 = .ok (.lcmp, 1) := by decide +kernel
theorem d_W_law_1018 : decode b_W_law 1018 = .ok (.ifCond .eq 5, 3) := by decide +kernel
theorem d_W_law_1021 : decode b_W_law 1021 = .ok (.iconst 0, 1) := by decide +kernel
theorem d_W_law_1022 : decode b_W_law 1022 = .ok (.ireturn, 1) := by decide +kernel
theorem d_W_law_1023 : decode b_W_law 1023 = .ok (.goto 298, 3) := by decide +kernel
theorem d_W_law_1026 : decode b_W_law 1026 = .ok (.aload_n 1, 1) := by decide +kernel
theorem d_W_law_1027 : decode b_W_law 1027 = .ok (.aload_n 0, 1) := by decide +kernel
theorem d_W_law_1028 : decode b_W_law 1028 = .ok (.iload 4, 2) := by decide +kernel
theorem d_W_law_1030 : decode b_W_law 1030 = .ok (.iconst 1, 1) := by decide +kernel
theorem d_W_law_1031 : decode b_W_law 1031 = .ok (.iadd, 1) := by decide +kernel
theorem d_W_law_1032 : decode b_W_law 1032 = .ok (.iaload, 1) := by decide +kernel
theorem d_W_law_1033 : decode b_W_law 1033 = .ok (.aload_n 0, 1) := by decide +kernel
theorem d_W_law_1034 : decode b_W_law 1034 = .ok (.iload 4, 2) := by decide +kernel
theorem d_W_law_1036 : decode b_W_law 1036 = .ok (.iconst 2, 1) := by decide +kernel
theorem d_W_law_1037 : decode b_W_law 1037 = .ok (.iadd, 1) := by decide +kernel
theorem d_W_law_1038 : decode b_W_law 1038 = .ok (.iaload, 1) := by decide +kernel
theorem d_W_law_1039 : decode b_W_law 1039 = .ok (.aload_n 0, 1) := by decide +kernel
theorem d_W_law_1040 : decode b_W_law 1040 = .ok (.iload 4, 2) := by decide +kernel
theorem d_W_law_1042 : decode b_W_law 1042 = .ok (.iconst 3, 1) := by decide +kernel
theorem d_W_law_1043 : decode b_W_law 1043 = .ok (.iadd, 1) := by decide +kernel
theorem d_W_law_1044 : decode b_W_law 1044 = .ok (.iaload, 1) := by decide +kernel
theorem d_W_law_1045 : decode b_W_law 1045 = .ok (.aload_n 3, 1) := by decide +kernel
theorem d_W_law_1046 : decode b_W_law 1046 = .ok (.invokestatic 165, 3) := by decide +kernel
theorem d_W_law_1049 : decode b_W_law 1049 = .ok (.istore 5, 2) := by decide +kernel
theorem d_W_law_1051 : decode b_W_law 1051 = .ok (.aload_n 2, 1) := by decide +kernel
theorem d_W_law_1052 : decode b_W_law 1052 = .ok (.aload_n 0, 1) := by decide +kernel
theorem d_W_law_1053 : decode b_W_law 1053 = .ok (.iload 4, 2) := by decide +kernel
theorem d_W_law_1055 : decode b_W_law 1055 = .ok (.iconst 1, 1) := by decide +kernel
theorem d_W_law_1056 : decode b_W_law 1056 = .ok (.iadd, 1) := by decide +kernel
theorem d_W_law_1057 : decode b_W_law 1057 = .ok (.iaload, 1) := by decide +kernel
theorem d_W_law_1058 : decode b_W_law 1058 = .ok (.aload_n 0, 1) := by decide +kernel
theorem d_W_law_1059 : decode b_W_law 1059 = .ok (.iload 4, 2) := by decide +kernel
theorem d_W_law_1061 : decode b_W_law 1061 = .ok (.iconst 2, 1) := by decide +kernel
theorem d_W_law_1062 : decode b_W_law 1062 = .ok (.iadd, 1) := by decide +kernel
theorem d_W_law_1063 : decode b_W_law 1063 = .ok (.iaload, 1) := by decide +kernel
theorem d_W_law_1064 : decode b_W_law 1064 = .ok (.aload_n 0, 1) := by decide +kernel
theorem d_W_law_1065 : decode b_W_law 1065 = .ok (.iload 4, 2) := by decide +kernel
theorem d_W_law_1067 : decode b_W_law 1067 = .ok (.iconst 3, 1) := by decide +kernel
theorem d_W_law_1068 : decode b_W_law 1068 = .ok (.iadd, 1) := by decide +kernel
theorem d_W_law_1069 : decode b_W_law 1069 = .ok (.iaload, 1) := by decide +kernel
theorem d_W_law_1070 : decode b_W_law 1070 = .ok (.invokevirtual 168, 3) := by decide +kernel
theorem d_W_law_1073 : decode b_W_law 1073 = .ok (.istore 6, 2) := by decide +kernel
theorem d_W_law_1075 : decode b_W_law 1075 = .ok (.aload_n 2, 1) := by decide +kernel
theorem d_W_law_1076 : decode b_W_law 1076 = .ok (.invokevirtual 101, 3) := by decide +kernel
theorem d_W_law_1079 : decode b_W_law 1079 = .ok (.iload 5, 2) := by decide +kernel
theorem d_W_law_1081 : decode b_W_law 1081 = .ok (.if_icmp .eq 5, 3) := by decide +kernel
theorem d_W_law_1084 : decode b_W_law 1084 = .ok (.iconst 0, 1) := by decide +kernel
theorem d_W_law_1085 : decode b_W_law 1085 = .ok (.ireturn, 1) := by decide +kernel
theorem d_W_law_1086 : decode b_W_law 1086 = .ok (.iload 5, 2) := by decide +kernel
theorem d_W_law_1088 : decode b_W_law 1088 = .ok (.ifCond .ne 15, 3) := by decide +kernel
theorem d_W_law_1091 : decode b_W_law 1091 = .ok (.aload_n 3, 1) := by decide +kernel
theorem d_W_law_1092 : decode b_W_law 1092 = .ok (.iconst 0, 1) := by decide +kernel
theorem d_W_law_1093 : decode b_W_law 1093 = .ok (.laload, 1) := by decide +kernel
theorem d_W_law_1094 : decode b_W_law 1094 = .ok (.iload 6, 2) := by decide +kernel
theorem d_W_law_1096 : decode b_W_law 1096 = .ok (.i2l, 1) := by decide +kernel
theorem d_W_law_1097 : decode b_W_law 1097 = .ok (.lcmp, 1) := by decide +kernel
theorem d_W_law_1098 : decode b_W_law 1098 = .ok (.ifCond .eq 5, 3) := by decide +kernel
theorem d_W_law_1101 : decode b_W_law 1101 = .ok (.iconst 0, 1) := by decide +kernel
theorem d_W_law_1102 : decode b_W_law 1102 = .ok (.ireturn, 1) := by decide +kernel
theorem d_W_law_1103 : decode b_W_law 1103 = .ok (.goto 218, 3) := by decide +kernel
theorem d_W_law_1106 : decode b_W_law 1106 = .ok (.aload_n 1, 1) := by decide +kernel
theorem d_W_law_1107 : decode b_W_law 1107 = .ok (.aload_n 0, 1) := by decide +kernel
theorem d_W_law_1108 : decode b_W_law 1108 = .ok (.iload 4, 2) := by decide +kernel
theorem d_W_law_1110 : decode b_W_law 1110 = .ok (.iconst 1, 1) := by decide +kernel
theorem d_W_law_1111 : decode b_W_law 1111 = .ok (.iadd, 1) := by decide +kernel
theorem d_W_law_1112 : decode b_W_law 1112 = .ok (.iaload, 1) := by decide +kernel
theorem d_W_law_1113 : decode b_W_law 1113 = .ok (.aload_n 3, 1) := by decide +kernel
theorem d_W_law_1114 : decode b_W_law 1114 = .ok (.invokestatic 169, 3) := by decide +kernel
theorem d_W_law_1117 : decode b_W_law 1117 = .ok (.istore 5, 2) := by decide +kernel
theorem d_W_law_1119 : decode b_W_law 1119 = .ok (.aload_n 2, 1) := by decide +kernel
theorem d_W_law_1120 : decode b_W_law 1120 = .ok (.aload_n 0, 1) := by decide +kernel
theorem d_W_law_1121 : decode b_W_law 1121 = .ok (.iload 4, 2) := by decide +kernel
theorem d_W_law_1123 : decode b_W_law 1123 = .ok (.iconst 1, 1) := by decide +kernel
theorem d_W_law_1124 : decode b_W_law 1124 = .ok (.iadd, 1) := by decide +kernel
theorem d_W_law_1125 : decode b_W_law 1125 = .ok (.iaload, 1) := by decide +kernel
theorem d_W_law_1126 : decode b_W_law 1126 = .ok (.invokevirtual 171, 3) := by decide +kernel
theorem d_W_law_1129 : decode b_W_law 1129 = .ok (.lstore 6, 2) := by decide +kernel
theorem d_W_law_1131 : decode b_W_law 1131 = .ok (.aload_n 2, 1) := by decide +kernel
theorem d_W_law_1132 : decode b_W_law 1132 = .ok (.invokevirtual 101, 3) := by decide +kernel
theorem d_W_law_1135 : decode b_W_law 1135 = .ok (.iload 5, 2) := by decide +kernel
theorem d_W_law_1137 : decode b_W_law 1137 = .ok (.if_icmp .eq 5, 3) := by decide +kernel
theorem d_W_law_1140 : decode b_W_law 1140 = .ok (.iconst 0, 1) := by decide +kernel
theorem d_W_law_1141 : decode b_W_law 1141 = .ok (.ireturn, 1) := by decide +kernel
theorem d_W_law_1142 : decode b_W_law 1142 = .ok (.iload 5, 2) := by decide +kernel
theorem d_W_law_1144 : decode b_W_law 1144 = .ok (.ifCond .ne 14, 3) := by decide +kernel
theorem d_W_law_1147 : decode b_W_law 1147 = .ok (.aload_n 3, 1) := by decide +kernel
theorem d_W_law_1148 : decode b_W_law 1148 = .ok (.iconst 0, 1) := by decide +kernel
theorem d_W_law_1149 : decode b_W_law 1149 = .ok (.laload, 1) := by decide +kernel
theorem d_W_law_1150 : decode b_W_law 1150 = .ok (.lload 6, 2) := by decide +kernel
theorem d_W_law_1152 : decode b_W_law 1152 = .ok (.lcmp, 1) := by decide +kernel
theorem d_W_law_1153 : decode b_W_law 1153 = .ok (.ifCond .eq 5, 3) := by decide +kernel
theorem d_W_law_1156 : decode b_W_law 1156 = .ok (.iconst 0, 1) := by decide +kernel
theorem d_W_law_1157 : decode b_W_law 1157 = .ok (.ireturn, 1) := by decide +kernel
theorem d_W_law_1158 : decode b_W_law 1158 = .ok (.goto 163, 3) := by decide +kernel
theorem d_W_law_1161 : decode b_W_law 1161 = .ok (.aload_n 1, 1) := by decide +kernel
theorem d_W_law_1162 : decode b_W_law 1162 = .ok (.aload_n 0, 1) := by decide +kernel
theorem d_W_law_1163 : decode b_W_law 1163 = .ok (.iload 4, 2) := by decide +kernel
theorem d_W_law_1165 : decode b_W_law 1165 = .ok (.iconst 1, 1) := by decide +kernel
theorem d_W_law_1166 : decode b_W_law 1166 = .ok (.iadd, 1) := by decide +kernel
theorem d_W_law_1167 : decode b_W_law 1167 = .ok (.iaload, 1) := by decide +kernel
theorem d_W_law_1168 : decode b_W_law 1168 = .ok (.aload_n 3, 1) := by decide +kernel
theorem d_W_law_1169 : decode b_W_law 1169 = .ok (.invokestatic 172, 3) := by decide +kernel
theorem d_W_law_1172 : decode b_W_law 1172 = .ok (.istore 5, 2) := by decide +kernel
theorem d_W_law_1174 : decode b_W_law 1174 = .ok (.aload_n 2, 1) := by decide +kernel
theorem d_W_law_1175 : decode b_W_law 1175 = .ok (.aload_n 0, 1) := by decide +kernel
theorem d_W_law_1176 : decode b_W_law 1176 = .ok (.iload 4, 2) := by decide +kernel
theorem d_W_law_1178 : decode b_W_law 1178 = .ok (.iconst 1, 1) := by decide +kernel
theorem d_W_law_1179 : decode b_W_law 1179 = .ok (.iadd, 1) := by decide +kernel
theorem d_W_law_1180 : decode b_W_law 1180 = .ok (.iaload, 1) := by decide +kernel
theorem d_W_law_1181 : decode b_W_law 1181 = .ok (.invokevirtual 174, 3) := by decide +kernel
theorem d_W_law_1184 : decode b_W_law 1184 = .ok (.istore 6, 2) := by decide +kernel
theorem d_W_law_1186 : decode b_W_law 1186 = .ok (.aload_n 2, 1) := by decide +kernel
theorem d_W_law_1187 : decode b_W_law 1187 = .ok (.invokevirtual 101, 3) := by decide +kernel
theorem d_W_law_1190 : decode b_W_law 1190 = .ok (.iload 5, 2) := by decide +kernel
theorem d_W_law_1192 : decode b_W_law 1192 = .ok (.if_icmp .eq 5, 3) := by decide +kernel
theorem d_W_law_1195 : decode b_W_law 1195 = .ok (.iconst 0, 1) := by decide +kernel
theorem d_W_law_1196 : decode b_W_law 1196 = .ok (.ireturn, 1) := by decide +kernel
theorem d_W_law_1197 : decode b_W_law 1197 = .ok (.iload 5, 2) := by decide +kernel
theorem d_W_law_1199 : decode b_W_law 1199 = .ok (.ifCond .ne 15, 3) := by decide +kernel
theorem d_W_law_1202 : decode b_W_law 1202 = .ok (.aload_n 3, 1) := by decide +kernel
theorem d_W_law_1203 : decode b_W_law 1203 = .ok (.iconst 0, 1) := by decide +kernel
theorem d_W_law_1204 : decode b_W_law 1204 = .ok (.laload, 1) := by decide +kernel
theorem d_W_law_1205 : decode b_W_law 1205 = .ok (.iload 6, 2) := by decide +kernel
theorem d_W_law_1207 : decode b_W_law 1207 = .ok (.i2l, 1) := by decide +kernel
theorem d_W_law_1208 : decode b_W_law 1208 = .ok (.lcmp, 1) := by decide +kernel
theorem d_W_law_1209 : decode b_W_law 1209 = .ok (.ifCond .eq 5, 3) := by decide +kernel
theorem d_W_law_1212 : decode b_W_law 1212 = .ok (.iconst 0, 1) := by decide +kernel
theorem d_W_law_1213 : decode b_W_law 1213 = .ok (.ireturn, 1) := by decide +kernel
theorem d_W_law_1214 : decode b_W_law 1214 = .ok (.goto 107, 3) := by decide +kernel
theorem d_W_law_1217 : decode b_W_law 1217 = .ok (.aload_n 1, 1) := by decide +kernel
theorem d_W_law_1218 : decode b_W_law 1218 = .ok (.aload_n 0, 1) := by decide +kernel
theorem d_W_law_1219 : decode b_W_law 1219 = .ok (.iload 4, 2) := by decide +kernel
theorem d_W_law_1221 : decode b_W_law 1221 = .ok (.iconst 1, 1) := by decide +kernel
theorem d_W_law_1222 : decode b_W_law 1222 = .ok (.iadd, 1) := by decide +kernel
theorem d_W_law_1223 : decode b_W_law 1223 = .ok (.iaload, 1) := by decide +kernel
theorem d_W_law_1224 : decode b_W_law 1224 = .ok (.aload_n 0, 1) := by decide +kernel
theorem d_W_law_1225 : decode b_W_law 1225 = .ok (.iload 4, 2) := by decide +kernel
theorem d_W_law_1227 : decode b_W_law 1227 = .ok (.iconst 2, 1) := by decide +kernel
theorem d_W_law_1228 : decode b_W_law 1228 = .ok (.iadd, 1) := by decide +kernel
theorem d_W_law_1229 : decode b_W_law 1229 = .ok (.iaload, 1) := by decide +kernel
theorem d_W_law_1230 : decode b_W_law 1230 = .ok (.aload_n 3, 1) := by decide +kernel
theorem d_W_law_1231 : decode b_W_law 1231 = .ok (.invokestatic 175, 3) := by decide +kernel
theorem d_W_law_1234 : decode b_W_law 1234 = .ok (.istore 5, 2) := by decide +kernel
theorem d_W_law_1236 : decode b_W_law 1236 = .ok (.aload_n 2, 1) := by decide +kernel
theorem d_W_law_1237 : decode b_W_law 1237 = .ok (.aload_n 0, 1) := by decide +kernel
theorem d_W_law_1238 : decode b_W_law 1238 = .ok (.iload 4, 2) := by decide +kernel
theorem d_W_law_1240 : decode b_W_law 1240 = .ok (.iconst 1, 1) := by decide +kernel
theorem d_W_law_1241 : decode b_W_law 1241 = .ok (.iadd, 1) := by decide +kernel
theorem d_W_law_1242 : decode b_W_law 1242 = .ok (.iaload, 1) := by decide +kernel
theorem d_W_law_1243 : decode b_W_law 1243 = .ok (.aload_n 0, 1) := by decide +kernel
theorem d_W_law_1244 : decode b_W_law 1244 = .ok (.iload 4, 2) := by decide +kernel
theorem d_W_law_1246 : decode b_W_law 1246 = .ok (.iconst 2, 1) := by decide +kernel
theorem d_W_law_1247 : decode b_W_law 1247 = .ok (.iadd, 1) := by decide +kernel
theorem d_W_law_1248 : decode b_W_law 1248 = .ok (.iaload, 1) := by decide +kernel
theorem d_W_law_1249 : decode b_W_law 1249 = .ok (.invokevirtual 177, 3) := by decide +kernel
theorem d_W_law_1252 : decode b_W_law 1252 = .ok (.istore 6, 2) := by decide +kernel
theorem d_W_law_1254 : decode b_W_law 1254 = .ok (.aload_n 2, 1) := by decide +kernel
theorem d_W_law_1255 : decode b_W_law 1255 = .ok (.invokevirtual 101, 3) := by decide +kernel
theorem d_W_law_1258 : decode b_W_law 1258 = .ok (.iload 5, 2) := by decide +kernel
theorem d_W_law_1260 : decode b_W_law 1260 = .ok (.if_icmp .eq 5, 3) := by decide +kernel
theorem d_W_law_1263 : decode b_W_law 1263 = .ok (.iconst 0, 1) := by decide +kernel
theorem d_W_law_1264 : decode b_W_law 1264 = .ok (.ireturn, 1) := by decide +kernel
theorem d_W_law_1265 : decode b_W_law 1265 = .ok (.iload 5, 2) := by decide +kernel
theorem d_W_law_1267 : decode b_W_law 1267 = .ok (.ifCond .ne 15, 3) := by decide +kernel
theorem d_W_law_1270 : decode b_W_law 1270 = .ok (.aload_n 3, 1) := by decide +kernel
theorem d_W_law_1271 : decode b_W_law 1271 = .ok (.iconst 0, 1) := by decide +kernel
theorem d_W_law_1272 : decode b_W_law 1272 = .ok (.laload, 1) := by decide +kernel
theorem d_W_law_1273 : decode b_W_law 1273 = .ok (.iload 6, 2) := by decide +kernel
theorem d_W_law_1275 : decode b_W_law 1275 = .ok (.i2l, 1) := by decide +kernel
theorem d_W_law_1276 : decode b_W_law 1276 = .ok (.lcmp, 1) := by decide +kernel
theorem d_W_law_1277 : decode b_W_law 1277 = .ok (.ifCond .eq 5, 3) := by decide +kernel
theorem d_W_law_1280 : decode b_W_law 1280 = .ok (.iconst 0, 1) := by decide +kernel
theorem d_W_law_1281 : decode b_W_law 1281 = .ok (.ireturn, 1) := by decide +kernel
theorem d_W_law_1282 : decode b_W_law 1282 = .ok (.goto 39, 3) := by decide +kernel
theorem d_W_law_1285 : decode b_W_law 1285 = .ok (.aload_n 1, 1) := by decide +kernel
theorem d_W_law_1286 : decode b_W_law 1286 = .ok (.aload_n 0, 1) := by decide +kernel
theorem d_W_law_1287 : decode b_W_law 1287 = .ok (.iload 4, 2) := by decide +kernel
theorem d_W_law_1289 : decode b_W_law 1289 = .ok (.iconst 1, 1) := by decide +kernel
theorem d_W_law_1290 : decode b_W_law 1290 = .ok (.iadd, 1) := by decide +kernel
theorem d_W_law_1291 : decode b_W_law 1291 = .ok (.iaload, 1) := by decide +kernel
theorem d_W_law_1292 : decode b_W_law 1292 = .ok (.invokestatic 178, 3) := by decide +kernel
theorem d_W_law_1295 : decode b_W_law 1295 = .ok (.istore 5, 2) := by decide +kernel
theorem d_W_law_1297 : decode b_W_law 1297 = .ok (.aload_n 2, 1) := by decide +kernel
theorem d_W_law_1298 : decode b_W_law 1298 = .ok (.aload_n 0, 1) := by decide +kernel
theorem d_W_law_1299 : decode b_W_law 1299 = .ok (.iload 4, 2) := by decide +kernel
theorem d_W_law_1301 : decode b_W_law 1301 = .ok (.iconst 1, 1) := by decide +kernel
theorem d_W_law_1302 : decode b_W_law 1302 = .ok (.iadd, 1) := by decide +kernel
theorem d_W_law_1303 : decode b_W_law 1303 = .ok (.iaload, 1) := by decide +kernel
theorem d_W_law_1304 : decode b_W_law 1304 = .ok (.invokevirtual 180, 3) := by decide +kernel
theorem d_W_law_1307 : decode b_W_law 1307 = .ok (.aload_n 2, 1) := by decide +kernel
theorem d_W_law_1308 : decode b_W_law 1308 = .ok (.invokevirtual 101, 3) := by decide +kernel
theorem d_W_law_1311 : decode b_W_law 1311 = .ok (.iload 5, 2) := by decide +kernel
theorem d_W_law_1313 : decode b_W_law 1313 = .ok (.if_icmp .eq 5, 3) := by decide +kernel
theorem d_W_law_1316 : decode b_W_law 1316 = .ok (.iconst 0, 1) := by decide +kernel
theorem d_W_law_1317 : decode b_W_law 1317 = .ok (.ireturn, 1) := by decide +kernel
theorem d_W_law_1318 : decode b_W_law 1318 = .ok (.goto 3, 3) := by decide +kernel
theorem d_W_law_1321 : decode b_W_law 1321 = .ok (.iinc 4 5, 3) := by decide +kernel
theorem d_W_law_1324 : decode b_W_law 1324 = .ok (.goto (-1301), 3) := by decide +kernel
theorem d_W_law_1327 : decode b_W_law 1327 = .ok (.iconst 1, 1) := by decide +kernel
theorem d_W_law_1328 : decode b_W_law 1328 = .ok (.ireturn, 1) := by decide +kernel
