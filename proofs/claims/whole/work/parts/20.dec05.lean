theorem dX11_makePiece_206 : decode cX11_makePiece 206 = .ok (.getfield 102, 3) := by decide +kernel
theorem dX11_makePiece_209 : decode cX11_makePiece 209 = .ok (.iload 4, 2) := by decide +kernel
theorem dX11_makePiece_211 : decode cX11_makePiece 211 = .ok (.iconst 0, 1) := by decide +kernel
theorem dX11_makePiece_212 : decode cX11_makePiece 212 = .ok (.bastore, 1) := by decide +kernel
theorem dX11_makePiece_213 : decode cX11_makePiece 213 = .ok (.aload_n 0, 1) := by decide +kernel
theorem dX11_makePiece_214 : decode cX11_makePiece 214 = .ok (.getfield 56, 3) := by decide +kernel
theorem dX11_makePiece_217 : decode cX11_makePiece 217 = .ok (.iconst 1, 1) := by decide +kernel
theorem dX11_makePiece_218 : decode cX11_makePiece 218 = .ok (.dup2, 1) := by decide +kernel
theorem dX11_makePiece_219 : decode cX11_makePiece 219 = .ok (.iaload, 1) := by decide +kernel
theorem dX11_makePiece_220 : decode cX11_makePiece 220 = .ok (.iconst 1, 1) := by decide +kernel
theorem dX11_makePiece_221 : decode cX11_makePiece 221 = .ok (.iadd, 1) := by decide +kernel
theorem dX11_makePiece_222 : decode cX11_makePiece 222 = .ok (.iastore, 1) := by decide +kernel
theorem dX11_makePiece_223 : decode cX11_makePiece 223 = .ok (.aload_n 0, 1) := by decide +kernel
theorem dX11_makePiece_224 : decode cX11_makePiece 224 = .ok (.getfield 34, 3) := by decide +kernel
theorem dX11_makePiece_227 : decode cX11_makePiece 227 = .ok (.iload_n 3, 1) := by decide +kernel
theorem dX11_makePiece_228 : decode cX11_makePiece 228 = .ok (.iaload, 1) := by decide +kernel
theorem dX11_makePiece_229 : decode cX11_makePiece 229 = .ok (.ifCond .ne 51, 3) := by decide +kernel
theorem dX11_makePiece_232 : decode cX11_makePiece 232 = .ok (.iconst 0, 1) := by decide +kernel
theorem dX11_makePiece_233 : decode cX11_makePiece 233 = .ok (.istore 5, 2) := by decide +kernel
theorem dX11_makePiece_235 : decode cX11_makePiece 235 = .ok (.iload 5, 2) := by decide +kernel
theorem dX11_makePiece_237 : decode cX11_makePiece 237 = .ok (.aload_n 0, 1) := by decide +kernel
theorem dX11_makePiece_238 : decode cX11_makePiece 238 = .ok (.getfield 40, 3) := by decide +kernel
theorem dX11_makePiece_241 : decode cX11_makePiece 241 = .ok (.iload_n 3, 1) := by decide +kernel
theorem dX11_makePiece_242 : decode cX11_makePiece 242 = .ok (.iaload, 1) := by decide +kernel
theorem dX11_makePiece_243 : decode cX11_makePiece 243 = .ok (.if_icmp .ge 37, 3) := by decide +kernel
theorem dX11_makePiece_246 : decode cX11_makePiece 246 = .ok (.aload_n 0, 1) := by decide +kernel
theorem dX11_makePiece_247 : decode cX11_makePiece 247 = .ok (.aload_n 0, 1) := by decide +kernel
theorem dX11_makePiece_248 : decode cX11_makePiece 248 = .ok (.getfield 43, 3) := by decide +kernel
theorem dX11_makePiece_251 : decode cX11_makePiece 251 = .ok (.bipush 120, 2) := by decide +kernel
theorem dX11_makePiece_253 : decode cX11_makePiece 253 = .ok (.aload_n 0, 1) := by decide +kernel
theorem dX11_makePiece_254 : decode cX11_makePiece 254 = .ok (.getfield 13, 3) := by decide +kernel
theorem dX11_makePiece_257 : decode cX11_makePiece 257 = .ok (.iload_n 1, 1) := by decide +kernel
theorem dX11_makePiece_258 : decode cX11_makePiece 258 = .ok (.iaload, 1) := by decide +kernel
theorem dX11_makePiece_259 : decode cX11_makePiece 259 = .ok (.imul, 1) := by decide +kernel
theorem dX11_makePiece_260 : decode cX11_makePiece 260 = .ok (.aload_n 0, 1) := by decide +kernel
theorem dX11_makePiece_261 : decode cX11_makePiece 261 = .ok (.getfield 37, 3) := by decide +kernel
theorem dX11_makePiece_264 : decode cX11_makePiece 264 = .ok (.iload_n 3, 1) := by decide +kernel
theorem dX11_makePiece_265 : decode cX11_makePiece 265 = .ok (.iaload, 1) := by decide +kernel
theorem dX11_makePiece_266 : decode cX11_makePiece 266 = .ok (.iadd, 1) := by decide +kernel
theorem dX11_makePiece_267 : decode cX11_makePiece 267 = .ok (.iload 5, 2) := by decide +kernel
theorem dX11_makePiece_269 : decode cX11_makePiece 269 = .ok (.iadd, 1) := by decide +kernel
theorem dX11_makePiece_270 : decode cX11_makePiece 270 = .ok (.iaload, 1) := by decide +kernel
theorem dX11_makePiece_271 : decode cX11_makePiece 271 = .ok (.invokevirtual 206, 3) := by decide +kernel
theorem dX11_makePiece_274 : decode cX11_makePiece 274 = .ok (.iinc 5 1, 3) := by decide +kernel
theorem dX11_makePiece_277 : decode cX11_makePiece 277 = .ok (.goto (-42), 3) := by decide +kernel
theorem dX11_makePiece_280 : decode cX11_makePiece 280 = .ok (.aload_n 0, 1) := by decide +kernel
theorem dX11_makePiece_281 : decode cX11_makePiece 281 = .ok (.getfield 34, 3) := by decide +kernel
theorem dX11_makePiece_284 : decode cX11_makePiece 284 = .ok (.iload_n 3, 1) := by decide +kernel
theorem dX11_makePiece_285 : decode cX11_makePiece 285 = .ok (.iaload, 1) := by decide +kernel
theorem dX11_makePiece_286 : decode cX11_makePiece 286 = .ok (.iconst 1, 1) := by decide +kernel
theorem dX11_makePiece_287 : decode cX11_makePiece 287 = .ok (.if_icmp .ne 39, 3) := by decide +kernel
theorem dX11_makePiece_290 : decode cX11_makePiece 290 = .ok (.iconst 0, 1) := by decide +kernel
theorem dX11_makePiece_291 : decode cX11_makePiece 291 = .ok (.istore 5, 2) := by decide +kernel
theorem dX11_makePiece_293 : decode cX11_makePiece 293 = .ok (.iload 5, 2) := by decide +kernel
theorem dX11_makePiece_295 : decode cX11_makePiece 295 = .ok (.aload_n 0, 1) := by decide +kernel
theorem dX11_makePiece_296 : decode cX11_makePiece 296 = .ok (.getfield 28, 3) := by decide +kernel
theorem dX11_makePiece_299 : decode cX11_makePiece 299 = .ok (.iload_n 1, 1) := by decide +kernel
theorem dX11_makePiece_300 : decode cX11_makePiece 300 = .ok (.iaload, 1) := by decide +kernel
theorem dX11_makePiece_301 : decode cX11_makePiece 301 = .ok (.if_icmp .ge 25, 3) := by decide +kernel
theorem dX11_makePiece_304 : decode cX11_makePiece 304 = .ok (.aload_n 0, 1) := by decide +kernel
theorem dX11_makePiece_305 : decode cX11_makePiece 305 = .ok (.aload_n 0, 1) := by decide +kernel
theorem dX11_makePiece_306 : decode cX11_makePiece 306 = .ok (.getfield 25, 3) := by decide +kernel
theorem dX11_makePiece_309 : decode cX11_makePiece 309 = .ok (.bipush 6, 2) := by decide +kernel
theorem dX11_makePiece_311 : decode cX11_makePiece 311 = .ok (.iload_n 1, 1) := by decide +kernel
theorem dX11_makePiece_312 : decode cX11_makePiece 312 = .ok (.imul, 1) := by decide +kernel
theorem dX11_makePiece_313 : decode cX11_makePiece 313 = .ok (.iload 5, 2) := by decide +kernel
theorem dX11_makePiece_315 : decode cX11_makePiece 315 = .ok (.iadd, 1) := by decide +kernel
theorem dX11_makePiece_316 : decode cX11_makePiece 316 = .ok (.iaload, 1) := by decide +kernel
theorem dX11_makePiece_317 : decode cX11_makePiece 317 = .ok (.invokevirtual 206, 3) := by decide +kernel
theorem dX11_makePiece_320 : decode cX11_makePiece 320 = .ok (.iinc 5 1, 3) := by decide +kernel
theorem dX11_makePiece_323 : decode cX11_makePiece 323 = .ok (.goto (-30), 3) := by decide +kernel
theorem dX11_makePiece_326 : decode cX11_makePiece 326 = .ok (.aload_n 0, 1) := by decide +kernel
theorem dX11_makePiece_327 : decode cX11_makePiece 327 = .ok (.getfield 34, 3) := by decide +kernel
theorem dX11_makePiece_330 : decode cX11_makePiece 330 = .ok (.iload_n 3, 1) := by decide +kernel
theorem dX11_makePiece_331 : decode cX11_makePiece 331 = .ok (.iaload, 1) := by decide +kernel
theorem dX11_makePiece_332 : decode cX11_makePiece 332 = .ok (.iconst 2, 1) := by decide +kernel
theorem dX11_makePiece_333 : decode cX11_makePiece 333 = .ok (.if_icmp .ne 22, 3) := by decide +kernel
theorem dX11_makePiece_336 : decode cX11_makePiece 336 = .ok (.aload_n 0, 1) := by decide +kernel
theorem dX11_makePiece_337 : decode cX11_makePiece 337 = .ok (.aload_n 0, 1) := by decide +kernel
theorem dX11_makePiece_338 : decode cX11_makePiece 338 = .ok (.getfield 22, 3) := by decide +kernel
theorem dX11_makePiece_341 : decode cX11_makePiece 341 = .ok (.iconst 4, 1) := by decide +kernel
theorem dX11_makePiece_342 : decode cX11_makePiece 342 = .ok (.iload_n 1, 1) := by decide +kernel
theorem dX11_makePiece_343 : decode cX11_makePiece 343 = .ok (.imul, 1) := by decide +kernel
theorem dX11_makePiece_344 : decode cX11_makePiece 344 = .ok (.aload_n 0, 1) := by decide +kernel
theorem dX11_makePiece_345 : decode cX11_makePiece 345 = .ok (.getfield 37, 3) := by decide +kernel
theorem dX11_makePiece_348 : decode cX11_makePiece 348 = .ok (.iload_n 3, 1) := by decide +kernel
theorem dX11_makePiece_349 : decode cX11_makePiece 349 = .ok (.iaload, 1) := by decide +kernel
theorem dX11_makePiece_350 : decode cX11_makePiece 350 = .ok (.iadd, 1) := by decide +kernel
theorem dX11_makePiece_351 : decode cX11_makePiece 351 = .ok (.iaload, 1) := by decide +kernel
theorem dX11_makePiece_352 : decode cX11_makePiece 352 = .ok (.invokevirtual 209, 3) := by decide +kernel
theorem dX11_makePiece_355 : decode cX11_makePiece 355 = .ok (.aload_n 0, 1) := by decide +kernel
theorem dX11_makePiece_356 : decode cX11_makePiece 356 = .ok (.getfield 34, 3) := by decide +kernel
theorem dX11_makePiece_359 : decode cX11_makePiece 359 = .ok (.iload_n 3, 1) := by decide +kernel
theorem dX11_makePiece_360 : decode cX11_makePiece 360 = .ok (.iaload, 1) := by decide +kernel
theorem dX11_makePiece_361 : decode cX11_makePiece 361 = .ok (.iconst 3, 1) := by decide +kernel
theorem dX11_makePiece_362 : decode cX11_makePiece 362 = .ok (.if_icmp .ne 38, 3) := by decide +kernel
theorem dX11_makePiece_365 : decode cX11_makePiece 365 = .ok (.aload_n 0, 1) := by decide +kernel
theorem dX11_makePiece_366 : decode cX11_makePiece 366 = .ok (.aload_n 0, 1) := by decide +kernel
theorem dX11_makePiece_367 : decode cX11_makePiece 367 = .ok (.getfield 22, 3) := by decide +kernel
theorem dX11_makePiece_370 : decode cX11_makePiece 370 = .ok (.iconst 4, 1) := by decide +kernel
theorem dX11_makePiece_371 : decode cX11_makePiece 371 = .ok (.iload_n 1, 1) := by decide +kernel
theorem dX11_makePiece_372 : decode cX11_makePiece 372 = .ok (.imul, 1) := by decide +kernel
theorem dX11_makePiece_373 : decode cX11_makePiece 373 = .ok (.aload_n 0, 1) := by decide +kernel
theorem dX11_makePiece_374 : decode cX11_makePiece 374 = .ok (.getfield 37, 3) := by decide +kernel
theorem dX11_makePiece_377 : decode cX11_makePiece 377 = .ok (.iload_n 3, 1) := by decide +kernel
theorem dX11_makePiece_378 : decode cX11_makePiece 378 = .ok (.iaload, 1) := by decide +kernel
theorem dX11_makePiece_379 : decode cX11_makePiece 379 = .ok (.iadd, 1) := by decide +kernel
theorem dX11_makePiece_380 : decode cX11_makePiece 380 = .ok (.iaload, 1) := by decide +kernel
theorem dX11_makePiece_381 : decode cX11_makePiece 381 = .ok (.aload_n 0, 1) := by decide +kernel
theorem dX11_makePiece_382 : decode cX11_makePiece 382 = .ok (.getfield 22, 3) := by decide +kernel
theorem dX11_makePiece_385 : decode cX11_makePiece 385 = .ok (.iconst 4, 1) := by decide +kernel
theorem dX11_makePiece_386 : decode cX11_makePiece 386 = .ok (.iload_n 1, 1) := by decide +kernel
theorem dX11_makePiece_387 : decode cX11_makePiece 387 = .ok (.imul, 1) := by decide +kernel
theorem dX11_makePiece_388 : decode cX11_makePiece 388 = .ok (.aload_n 0, 1) := by decide +kernel
theorem dX11_makePiece_389 : decode cX11_makePiece 389 = .ok (.getfield 40, 3) := by decide +kernel
theorem dX11_makePiece_392 : decode cX11_makePiece 392 = .ok (.iload_n 3, 1) := by decide +kernel
theorem dX11_makePiece_393 : decode cX11_makePiece 393 = .ok (.iaload, 1) := by decide +kernel
theorem dX11_makePiece_394 : decode cX11_makePiece 394 = .ok (.iadd, 1) := by decide +kernel
theorem dX11_makePiece_395 : decode cX11_makePiece 395 = .ok (.iaload, 1) := by decide +kernel
theorem dX11_makePiece_396 : decode cX11_makePiece 396 = .ok (.iadd, 1) := by decide +kernel
theorem dX11_makePiece_397 : decode cX11_makePiece 397 = .ok (.invokevirtual 209, 3) := by decide +kernel
theorem dX11_makePiece_400 : decode cX11_makePiece 400 = .ok (.aload_n 0, 1) := by decide +kernel
theorem dX11_makePiece_401 : decode cX11_makePiece 401 = .ok (.getfield 83, 3) := by decide +kernel
theorem dX11_makePiece_404 : decode cX11_makePiece 404 = .ok (.iload 4, 2) := by decide +kernel
theorem dX11_makePiece_406 : decode cX11_makePiece 406 = .ok (.aload_n 0, 1) := by decide +kernel
theorem dX11_makePiece_407 : decode cX11_makePiece 407 = .ok (.getfield 203, 3) := by decide +kernel
theorem dX11_makePiece_410 : decode cX11_makePiece 410 = .ok (.aload_n 0, 1) := by decide +kernel
theorem dX11_makePiece_411 : decode cX11_makePiece 411 = .ok (.getfield 80, 3) := by decide +kernel
theorem dX11_makePiece_414 : decode cX11_makePiece 414 = .ok (.iload 4, 2) := by decide +kernel
theorem dX11_makePiece_416 : decode cX11_makePiece 416 = .ok (.iaload, 1) := by decide +kernel
theorem dX11_makePiece_417 : decode cX11_makePiece 417 = .ok (.isub, 1) := by decide +kernel
theorem dX11_makePiece_418 : decode cX11_makePiece 418 = .ok (.iastore, 1) := by decide +kernel
theorem dX11_makePiece_419 : decode cX11_makePiece 419 = .ok (.return_, 1) := by decide +kernel
theorem dX11_childAt_0 : decode cX11_childAt 0 = .ok (.iconst 0, 1) := by decide +kernel
theorem dX11_childAt_1 : decode cX11_childAt 1 = .ok (.istore_n 3, 1) := by decide +kernel
theorem dX11_childAt_2 : decode cX11_childAt 2 = .ok (.iload_n 3, 1) := by decide +kernel
theorem dX11_childAt_3 : decode cX11_childAt 3 = .ok (.bipush 24, 2) := by decide +kernel
theorem dX11_childAt_5 : decode cX11_childAt 5 = .ok (.if_icmp .ge 40, 3) := by decide +kernel
theorem dX11_childAt_8 : decode cX11_childAt 8 = .ok (.aload_n 0, 1) := by decide +kernel
theorem dX11_childAt_9 : decode cX11_childAt 9 = .ok (.getfield 7, 3) := by decide +kernel
theorem dX11_childAt_12 : decode cX11_childAt 12 = .ok (.iload_n 3, 1) := by decide +kernel
theorem dX11_childAt_13 : decode cX11_childAt 13 = .ok (.iaload, 1) := by decide +kernel
theorem dX11_childAt_14 : decode cX11_childAt 14 = .ok (.ifCond .lt 25, 3) := by decide +kernel
theorem dX11_childAt_17 : decode cX11_childAt 17 = .ok (.aload_n 0, 1) := by decide +kernel
theorem dX11_childAt_18 : decode cX11_childAt 18 = .ok (.getfield 16, 3) := by decide +kernel
theorem dX11_childAt_21 : decode cX11_childAt 21 = .ok (.iload_n 3, 1) := by decide +kernel
theorem dX11_childAt_22 : decode cX11_childAt 22 = .ok (.iaload, 1) := by decide +kernel
theorem dX11_childAt_23 : decode cX11_childAt 23 = .ok (.iload_n 1, 1) := by decide +kernel
theorem dX11_childAt_24 : decode cX11_childAt 24 = .ok (.if_icmp .ne 15, 3) := by decide +kernel
theorem dX11_childAt_27 : decode cX11_childAt 27 = .ok (.aload_n 0, 1) := by decide +kernel
theorem dX11_childAt_28 : decode cX11_childAt 28 = .ok (.getfield 19, 3) := by decide +kernel
theorem dX11_childAt_31 : decode cX11_childAt 31 = .ok (.iload_n 3, 1) := by decide +kernel
theorem dX11_childAt_32 : decode cX11_childAt 32 = .ok (.iaload, 1) := by decide +kernel
theorem dX11_childAt_33 : decode cX11_childAt 33 = .ok (.iload_n 2, 1) := by decide +kernel
theorem dX11_childAt_34 : decode cX11_childAt 34 = .ok (.if_icmp .ne 5, 3) := by decide +kernel
theorem dX11_childAt_37 : decode cX11_childAt 37 = .ok (.iload_n 3, 1) := by decide +kernel
theorem dX11_childAt_38 : decode cX11_childAt 38 = .ok (.ireturn, 1) := by decide +kernel
theorem dX11_childAt_39 : decode cX11_childAt 39 = .ok (.iinc 3 1, 3) := by decide +kernel
theorem dX11_childAt_42 : decode cX11_childAt 42 = .ok (.goto (-40), 3) := by decide +kernel
theorem dX11_childAt_45 : decode cX11_childAt 45 = .ok (.iconst (-1), 1) := by decide +kernel
theorem dX11_childAt_46 : decode cX11_childAt 46 = .ok (.ireturn, 1) := by decide +kernel
theorem dX11_step_0 : decode cX11_step 0 = .ok (.aload_n 0, 1) := by decide +kernel
theorem dX11_step_1 : decode cX11_step 1 = .ok (.getfield 200, 3) := by decide +kernel
theorem dX11_step_4 : decode cX11_step 4 = .ok (.iconst 1, 1) := by decide +kernel
theorem dX11_step_5 : decode cX11_step 5 = .ok (.isub, 1) := by decide +kernel
theorem dX11_step_6 : decode cX11_step 6 = .ok (.istore_n 1, 1) := by decide +kernel
theorem dX11_step_7 : decode cX11_step 7 = .ok (.aload_n 0, 1) := by decide +kernel
theorem dX11_step_8 : decode cX11_step 8 = .ok (.getfield 106, 3) := by decide +kernel
theorem dX11_step_11 : decode cX11_step 11 = .ok (.iload_n 1, 1) := by decide +kernel
theorem dX11_step_12 : decode cX11_step 12 = .ok (.iaload, 1) := by decide +kernel
theorem dX11_step_13 : decode cX11_step 13 = .ok (.istore_n 2, 1) := by decide +kernel
theorem dX11_step_14 : decode cX11_step 14 = .ok (.aload_n 0, 1) := by decide +kernel
theorem dX11_step_15 : decode cX11_step 15 = .ok (.getfield 13, 3) := by decide +kernel
theorem dX11_step_18 : decode cX11_step 18 = .ok (.iload_n 2, 1) := by decide +kernel
theorem dX11_step_19 : decode cX11_step 19 = .ok (.iaload, 1) := by decide +kernel
theorem dX11_step_20 : decode cX11_step 20 = .ok (.istore_n 3, 1) := by decide +kernel
theorem dX11_step_21 : decode cX11_step 21 = .ok (.aload_n 0, 1) := by decide +kernel
theorem dX11_step_22 : decode cX11_step 22 = .ok (.getfield 112, 3) := by decide +kernel
theorem dX11_step_25 : decode cX11_step 25 = .ok (.iload_n 1, 1) := by decide +kernel
theorem dX11_step_26 : decode cX11_step 26 = .ok (.iaload, 1) := by decide +kernel
theorem dX11_step_27 : decode cX11_step 27 = .ok (.ifCond .lt 76, 3) := by decide +kernel
theorem dX11_step_30 : decode cX11_step 30 = .ok (.aload_n 0, 1) := by decide +kernel
theorem dX11_step_31 : decode cX11_step 31 = .ok (.iload_n 2, 1) := by decide +kernel
theorem dX11_step_32 : decode cX11_step 32 = .ok (.aload_n 0, 1) := by decide +kernel
theorem dX11_step_33 : decode cX11_step 33 = .ok (.getfield 112, 3) := by decide +kernel
theorem dX11_step_36 : decode cX11_step 36 = .ok (.iload_n 1, 1) := by decide +kernel
theorem dX11_step_37 : decode cX11_step 37 = .ok (.iaload, 1) := by decide +kernel
theorem dX11_step_38 : decode cX11_step 38 = .ok (.invokevirtual 212, 3) := by decide +kernel
theorem dX11_step_41 : decode cX11_step 41 = .ok (.istore 4, 2) := by decide +kernel
theorem dX11_step_43 : decode cX11_step 43 = .ok (.aload_n 0, 1) := by decide +kernel
theorem dX11_step_44 : decode cX11_step 44 = .ok (.getfield 112, 3) := by decide +kernel
theorem dX11_step_47 : decode cX11_step 47 = .ok (.iload_n 1, 1) := by decide +kernel
theorem dX11_step_48 : decode cX11_step 48 = .ok (.dup2, 1) := by decide +kernel
theorem dX11_step_49 : decode cX11_step 49 = .ok (.iaload, 1) := by decide +kernel
theorem dX11_step_50 : decode cX11_step 50 = .ok (.iconst 1, 1) := by decide +kernel
theorem dX11_step_51 : decode cX11_step 51 = .ok (.iadd, 1) := by decide +kernel
theorem dX11_step_52 : decode cX11_step 52 = .ok (.iastore, 1) := by decide +kernel
theorem dX11_step_53 : decode cX11_step 53 = .ok (.iload 4, 2) := by decide +kernel
theorem dX11_step_55 : decode cX11_step 55 = .ok (.ifCond .ge 13, 3) := by decide +kernel
theorem dX11_step_58 : decode cX11_step 58 = .ok (.aload_n 0, 1) := by decide +kernel
theorem dX11_step_59 : decode cX11_step 59 = .ok (.getfield 112, 3) := by decide +kernel
theorem dX11_step_62 : decode cX11_step 62 = .ok (.iload_n 1, 1) := by decide +kernel
theorem dX11_step_63 : decode cX11_step 63 = .ok (.iconst (-1), 1) := by decide +kernel
theorem dX11_step_64 : decode cX11_step 64 = .ok (.iastore, 1) := by decide +kernel
theorem dX11_step_65 : decode cX11_step 65 = .ok (.goto 37, 3) := by decide +kernel
theorem dX11_step_68 : decode cX11_step 68 = .ok (.aload_n 0, 1) := by decide +kernel
theorem dX11_step_69 : decode cX11_step 69 = .ok (.getfield 13, 3) := by decide +kernel
theorem dX11_step_72 : decode cX11_step 72 = .ok (.iload 4, 2) := by decide +kernel
theorem dX11_step_74 : decode cX11_step 74 = .ok (.iaload, 1) := by decide +kernel
theorem dX11_step_75 : decode cX11_step 75 = .ok (.aload_n 0, 1) := by decide +kernel
theorem dX11_step_76 : decode cX11_step 76 = .ok (.getfield 37, 3) := by decide +kernel
theorem dX11_step_79 : decode cX11_step 79 = .ok (.bipush 20, 2) := by decide +kernel
theorem dX11_step_81 : decode cX11_step 81 = .ok (.iload_n 3, 1) := by decide +kernel
theorem dX11_step_82 : decode cX11_step 82 = .ok (.imul, 1) := by decide +kernel
theorem dX11_step_83 : decode cX11_step 83 = .ok (.aload_n 0, 1) := by decide +kernel
theorem dX11_step_84 : decode cX11_step 84 = .ok (.getfield 109, 3) := by decide +kernel
theorem dX11_step_87 : decode cX11_step 87 = .ok (.iload_n 1, 1) := by decide +kernel
theorem dX11_step_88 : decode cX11_step 88 = .ok (.iaload, 1) := by decide +kernel
theorem dX11_step_89 : decode cX11_step 89 = .ok (.iadd, 1) := by decide +kernel
theorem dX11_step_90 : decode cX11_step 90 = .ok (.iconst 1, 1) := by decide +kernel
theorem dX11_step_91 : decode cX11_step 91 = .ok (.isub, 1) := by decide +kernel
theorem dX11_step_92 : decode cX11_step 92 = .ok (.iaload, 1) := by decide +kernel
theorem dX11_step_93 : decode cX11_step 93 = .ok (.if_icmp .ne 9, 3) := by decide +kernel
theorem dX11_step_96 : decode cX11_step 96 = .ok (.aload_n 0, 1) := by decide +kernel
theorem dX11_step_97 : decode cX11_step 97 = .ok (.iload 4, 2) := by decide +kernel
theorem dX11_step_99 : decode cX11_step 99 = .ok (.invokevirtual 216, 3) := by decide +kernel
theorem dX11_step_102 : decode cX11_step 102 = .ok (.return_, 1) := by decide +kernel
theorem dX11_step_103 : decode cX11_step 103 = .ok (.aload_n 0, 1) := by decide +kernel
theorem dX11_step_104 : decode cX11_step 104 = .ok (.getfield 109, 3) := by decide +kernel
theorem dX11_step_107 : decode cX11_step 107 = .ok (.iload_n 1, 1) := by decide +kernel
theorem dX11_step_108 : decode cX11_step 108 = .ok (.iaload, 1) := by decide +kernel
theorem dX11_step_109 : decode cX11_step 109 = .ok (.aload_n 0, 1) := by decide +kernel
theorem dX11_step_110 : decode cX11_step 110 = .ok (.getfield 31, 3) := by decide +kernel
theorem dX11_step_113 : decode cX11_step 113 = .ok (.iload_n 3, 1) := by decide +kernel
theorem dX11_step_114 : decode cX11_step 114 = .ok (.iaload, 1) := by decide +kernel
theorem dX11_step_115 : decode cX11_step 115 = .ok (.if_icmp .ne 14, 3) := by decide +kernel
theorem dX11_step_118 : decode cX11_step 118 = .ok (.aload_n 0, 1) := by decide +kernel
theorem dX11_step_119 : decode cX11_step 119 = .ok (.dup, 1) := by decide +kernel
theorem dX11_step_120 : decode cX11_step 120 = .ok (.getfield 200, 3) := by decide +kernel
theorem dX11_step_123 : decode cX11_step 123 = .ok (.iconst 1, 1) := by decide +kernel
theorem dX11_step_124 : decode cX11_step 124 = .ok (.isub, 1) := by decide +kernel
theorem dX11_step_125 : decode cX11_step 125 = .ok (.putfield 200, 3) := by decide +kernel
theorem dX11_step_128 : decode cX11_step 128 = .ok (.return_, 1) := by decide +kernel
theorem dX11_step_129 : decode cX11_step 129 = .ok (.aload_n 0, 1) := by decide +kernel
theorem dX11_step_130 : decode cX11_step 130 = .ok (.getfield 109, 3) := by decide +kernel
theorem dX11_step_133 : decode cX11_step 133 = .ok (.iload_n 1, 1) := by decide +kernel
theorem dX11_step_134 : decode cX11_step 134 = .ok (.iaload, 1) := by decide +kernel
theorem dX11_step_135 : decode cX11_step 135 = .ok (.istore 4, 2) := by decide +kernel
theorem dX11_step_137 : decode cX11_step 137 = .ok (.aload_n 0, 1) := by decide +kernel
theorem dX11_step_138 : decode cX11_step 138 = .ok (.getfield 34, 3) := by decide +kernel
theorem dX11_step_141 : decode cX11_step 141 = .ok (.bipush 20, 2) := by decide +kernel
theorem dX11_step_143 : decode cX11_step 143 = .ok (.iload_n 3, 1) := by decide +kernel
theorem dX11_step_144 : decode cX11_step 144 = .ok (.imul, 1) := by decide +kernel
theorem dX11_step_145 : decode cX11_step 145 = .ok (.iload 4, 2) := by decide +kernel
theorem dX11_step_147 : decode cX11_step 147 = .ok (.iadd, 1) := by decide +kernel
theorem dX11_step_148 : decode cX11_step 148 = .ok (.iaload, 1) := by decide +kernel
theorem dX11_step_149 : decode cX11_step 149 = .ok (.istore 5, 2) := by decide +kernel
theorem dX11_step_151 : decode cX11_step 151 = .ok (.aload_n 0, 1) := by decide +kernel
theorem dX11_step_152 : decode cX11_step 152 = .ok (.getfield 109, 3) := by decide +kernel
theorem dX11_step_155 : decode cX11_step 155 = .ok (.iload_n 1, 1) := by decide +kernel
theorem dX11_step_156 : decode cX11_step 156 = .ok (.dup2, 1) := by decide +kernel
theorem dX11_step_157 : decode cX11_step 157 = .ok (.iaload, 1) := by decide +kernel
theorem dX11_step_158 : decode cX11_step 158 = .ok (.iconst 1, 1) := by decide +kernel
theorem dX11_step_159 : decode cX11_step 159 = .ok (.iadd, 1) := by decide +kernel
theorem dX11_step_160 : decode cX11_step 160 = .ok (.iastore, 1) := by decide +kernel
theorem dX11_step_161 : decode cX11_step 161 = .ok (.iload 5, 2) := by decide +kernel
theorem dX11_step_163 : decode cX11_step 163 = .ok (.bipush 7, 2) := by decide +kernel
theorem dX11_step_165 : decode cX11_step 165 = .ok (.if_icmp .ne 10, 3) := by decide +kernel
theorem dX11_step_168 : decode cX11_step 168 = .ok (.aload_n 0, 1) := by decide +kernel
theorem dX11_step_169 : decode cX11_step 169 = .ok (.getfield 115, 3) := by decide +kernel
theorem dX11_step_172 : decode cX11_step 172 = .ok (.iload_n 1, 1) := by decide +kernel
theorem dX11_step_173 : decode cX11_step 173 = .ok (.iconst 0, 1) := by decide +kernel
theorem dX11_step_174 : decode cX11_step 174 = .ok (.bastore, 1) := by decide +kernel
theorem dX11_step_175 : decode cX11_step 175 = .ok (.iload 5, 2) := by decide +kernel
theorem dX11_step_177 : decode cX11_step 177 = .ok (.bipush 6, 2) := by decide +kernel
theorem dX11_step_179 : decode cX11_step 179 = .ok (.if_icmp .ne 38, 3) := by decide +kernel
theorem dX11_step_182 : decode cX11_step 182 = .ok (.aload_n 0, 1) := by decide +kernel
theorem dX11_step_183 : decode cX11_step 183 = .ok (.getfield 115, 3) := by decide +kernel
theorem dX11_step_186 : decode cX11_step 186 = .ok (.iload_n 1, 1) := by decide +kernel
theorem dX11_step_187 : decode cX11_step 187 = .ok (.aload_n 0, 1) := by decide +kernel
theorem dX11_step_188 : decode cX11_step 188 = .ok (.getfield 22, 3) := by decide +kernel
theorem dX11_step_191 : decode cX11_step 191 = .ok (.iconst 4, 1) := by decide +kernel
theorem dX11_step_192 : decode cX11_step 192 = .ok (.iload_n 2, 1) := by decide +kernel
theorem dX11_step_193 : decode cX11_step 193 = .ok (.imul, 1) := by decide +kernel
theorem dX11_step_194 : decode cX11_step 194 = .ok (.aload_n 0, 1) := by decide +kernel
theorem dX11_step_195 : decode cX11_step 195 = .ok (.getfield 37, 3) := by decide +kernel
theorem dX11_step_198 : decode cX11_step 198 = .ok (.bipush 20, 2) := by decide +kernel
theorem dX11_step_200 : decode cX11_step 200 = .ok (.iload_n 3, 1) := by decide +kernel
theorem dX11_step_201 : decode cX11_step 201 = .ok (.imul, 1) := by decide +kernel
theorem dX11_step_202 : decode cX11_step 202 = .ok (.iload 4, 2) := by decide +kernel
theorem dX11_step_204 : decode cX11_step 204 = .ok (.iadd, 1) := by decide +kernel
theorem dX11_step_205 : decode cX11_step 205 = .ok (.iaload, 1) := by decide +kernel
theorem dX11_step_206 : decode cX11_step 206 = .ok (.iadd, 1) := by decide +kernel
theorem dX11_step_207 : decode cX11_step 207 = .ok (.iaload, 1) := by decide +kernel
theorem dX11_step_208 : decode cX11_step 208 = .ok (.ifCond .ne 7, 3) := by decide +kernel
theorem dX11_step_211 : decode cX11_step 211 = .ok (.iconst 1, 1) := by decide +kernel
theorem dX11_step_212 : decode cX11_step 212 = .ok (.goto 4, 3) := by decide +kernel
theorem dX11_step_215 : decode cX11_step 215 = .ok (.iconst 0, 1) := by decide +kernel
theorem dX11_step_216 : decode cX11_step 216 = .ok (.bastore, 1) := by decide +kernel
theorem dX11_step_217 : decode cX11_step 217 = .ok (.iload 5, 2) := by decide +kernel
theorem dX11_step_219 : decode cX11_step 219 = .ok (.iconst 5, 1) := by decide +kernel
theorem dX11_step_220 : decode cX11_step 220 = .ok (.if_icmp .gt 12, 3) := by decide +kernel
theorem dX11_step_223 : decode cX11_step 223 = .ok (.aload_n 0, 1) := by decide +kernel
theorem dX11_step_224 : decode cX11_step 224 = .ok (.getfield 115, 3) := by decide +kernel
theorem dX11_step_227 : decode cX11_step 227 = .ok (.iload_n 1, 1) := by decide +kernel
theorem dX11_step_228 : decode cX11_step 228 = .ok (.baload, 1) := by decide +kernel
theorem dX11_step_229 : decode cX11_step 229 = .ok (.ifCond .eq 4, 3) := by decide +kernel
theorem dX11_step_232 : decode cX11_step 232 = .ok (.return_, 1) := by decide +kernel
theorem dX11_step_233 : decode cX11_step 233 = .ok (.iload 5, 2) := by decide +kernel
theorem dX11_step_235 : decode cX11_step 235 = .ok (.iconst 5, 1) := by decide +kernel
theorem dX11_step_236 : decode cX11_step 236 = .ok (.if_icmp .ne 13, 3) := by decide +kernel
theorem dX11_step_239 : decode cX11_step 239 = .ok (.aload_n 0, 1) := by decide +kernel
theorem dX11_step_240 : decode cX11_step 240 = .ok (.getfield 112, 3) := by decide +kernel
theorem dX11_step_243 : decode cX11_step 243 = .ok (.iload_n 1, 1) := by decide +kernel
theorem dX11_step_244 : decode cX11_step 244 = .ok (.iconst 0, 1) := by decide +kernel
theorem dX11_step_245 : decode cX11_step 245 = .ok (.iastore, 1) := by decide +kernel
theorem dX11_step_246 : decode cX11_step 246 = .ok (.goto 10, 3) := by decide +kernel
theorem dX11_step_249 : decode cX11_step 249 = .ok (.aload_n 0, 1) := by decide +kernel
theorem dX11_step_250 : decode cX11_step 250 = .ok (.iload_n 2, 1) := by decide +kernel
theorem dX11_step_251 : decode cX11_step 251 = .ok (.iload 4, 2) := by decide +kernel
theorem dX11_step_253 : decode cX11_step 253 = .ok (.invokevirtual 219, 3) := by decide +kernel
theorem dX11_step_256 : decode cX11_step 256 = .ok (.return_, 1) := by decide +kernel
theorem dX11_makeNew_0 : decode cX11_makeNew 0 = .ok (.aload_n 0, 1) := by decide +kernel
theorem dX11_makeNew_1 : decode cX11_makeNew 1 = .ok (.getfield 56, 3) := by decide +kernel
theorem dX11_makeNew_4 : decode cX11_makeNew 4 = .ok (.iconst 1, 1) := by decide +kernel
theorem dX11_makeNew_5 : decode cX11_makeNew 5 = .ok (.iconst 0, 1) := by decide +kernel
theorem dX11_makeNew_6 : decode cX11_makeNew 6 = .ok (.iastore, 1) := by decide +kernel
theorem dX11_makeNew_7 : decode cX11_makeNew 7 = .ok (.aload_n 0, 1) := by decide +kernel
theorem dX11_makeNew_8 : decode cX11_makeNew 8 = .ok (.iconst 0, 1) := by decide +kernel
theorem dX11_makeNew_9 : decode cX11_makeNew 9 = .ok (.putfield 203, 3) := by decide +kernel
theorem dX11_makeNew_12 : decode cX11_makeNew 12 = .ok (.aload_n 0, 1) := by decide +kernel
theorem dX11_makeNew_13 : decode cX11_makeNew 13 = .ok (.iconst 0, 1) := by decide +kernel
theorem dX11_makeNew_14 : decode cX11_makeNew 14 = .ok (.putfield 194, 3) := by decide +kernel
theorem dX11_makeNew_17 : decode cX11_makeNew 17 = .ok (.aload_n 0, 1) := by decide +kernel
theorem dX11_makeNew_18 : decode cX11_makeNew 18 = .ok (.iconst 0, 1) := by decide +kernel
theorem dX11_makeNew_19 : decode cX11_makeNew 19 = .ok (.putfield 200, 3) := by decide +kernel
theorem dX11_makeNew_22 : decode cX11_makeNew 22 = .ok (.aload_n 0, 1) := by decide +kernel
theorem dX11_makeNew_23 : decode cX11_makeNew 23 = .ok (.iconst 0, 1) := by decide +kernel
theorem dX11_makeNew_24 : decode cX11_makeNew 24 = .ok (.putfield 197, 3) := by decide +kernel
theorem dX11_makeNew_27 : decode cX11_makeNew 27 = .ok (.aload_n 0, 1) := by decide +kernel
theorem dX11_makeNew_28 : decode cX11_makeNew 28 = .ok (.iconst (-1), 1) := by decide +kernel
theorem dX11_makeNew_29 : decode cX11_makeNew 29 = .ok (.invokevirtual 156, 3) := by decide +kernel
theorem dX11_makeNew_32 : decode cX11_makeNew 32 = .ok (.istore_n 1, 1) := by decide +kernel
theorem dX11_makeNew_33 : decode cX11_makeNew 33 = .ok (.iconst 0, 1) := by decide +kernel
theorem dX11_makeNew_34 : decode cX11_makeNew 34 = .ok (.istore_n 2, 1) := by decide +kernel
theorem dX11_makeNew_35 : decode cX11_makeNew 35 = .ok (.iload_n 2, 1) := by decide +kernel
theorem dX11_makeNew_36 : decode cX11_makeNew 36 = .ok (.iload_n 1, 1) := by decide +kernel
theorem dX11_makeNew_37 : decode cX11_makeNew 37 = .ok (.if_icmp .ge 47, 3) := by decide +kernel
theorem dX11_makeNew_40 : decode cX11_makeNew 40 = .ok (.aload_n 0, 1) := by decide +kernel
theorem dX11_makeNew_41 : decode cX11_makeNew 41 = .ok (.getfield 197, 3) := by decide +kernel
theorem dX11_makeNew_44 : decode cX11_makeNew 44 = .ok (.ifCond .ne 40, 3) := by decide +kernel
theorem dX11_makeNew_47 : decode cX11_makeNew 47 = .ok (.aload_n 0, 1) := by decide +kernel
theorem dX11_makeNew_48 : decode cX11_makeNew 48 = .ok (.aload_n 0, 1) := by decide +kernel
theorem dX11_makeNew_49 : decode cX11_makeNew 49 = .ok (.iconst (-1), 1) := by decide +kernel
theorem dX11_makeNew_50 : decode cX11_makeNew 50 = .ok (.iload_n 2, 1) := by decide +kernel
theorem dX11_makeNew_51 : decode cX11_makeNew 51 = .ok (.invokevirtual 212, 3) := by decide +kernel
theorem dX11_makeNew_54 : decode cX11_makeNew 54 = .ok (.invokevirtual 216, 3) := by decide +kernel
theorem dX11_makeNew_57 : decode cX11_makeNew 57 = .ok (.aload_n 0, 1) := by decide +kernel
theorem dX11_makeNew_58 : decode cX11_makeNew 58 = .ok (.getfield 200, 3) := by decide +kernel
theorem dX11_makeNew_61 : decode cX11_makeNew 61 = .ok (.ifCond .le 17, 3) := by decide +kernel
theorem dX11_makeNew_64 : decode cX11_makeNew 64 = .ok (.aload_n 0, 1) := by decide +kernel
theorem dX11_makeNew_65 : decode cX11_makeNew 65 = .ok (.getfield 197, 3) := by decide +kernel
theorem dX11_makeNew_68 : decode cX11_makeNew 68 = .ok (.ifCond .ne 10, 3) := by decide +kernel
theorem dX11_makeNew_71 : decode cX11_makeNew 71 = .ok (.aload_n 0, 1) := by decide +kernel
theorem dX11_makeNew_72 : decode cX11_makeNew 72 = .ok (.invokevirtual 223, 3) := by decide +kernel
theorem dX11_makeNew_75 : decode cX11_makeNew 75 = .ok (.goto (-18), 3) := by decide +kernel
theorem dX11_makeNew_78 : decode cX11_makeNew 78 = .ok (.iinc 2 1, 3) := by decide +kernel
theorem dX11_makeNew_81 : decode cX11_makeNew 81 = .ok (.goto (-46), 3) := by decide +kernel
theorem dX11_makeNew_84 : decode cX11_makeNew 84 = .ok (.aload_n 0, 1) := by decide +kernel
theorem dX11_makeNew_85 : decode cX11_makeNew 85 = .ok (.getfield 197, 3) := by decide +kernel
theorem dX11_makeNew_88 : decode cX11_makeNew 88 = .ok (.ifCond .ne 7, 3) := by decide +kernel
theorem dX11_makeNew_91 : decode cX11_makeNew 91 = .ok (.iconst 1, 1) := by decide +kernel
theorem dX11_makeNew_92 : decode cX11_makeNew 92 = .ok (.goto 4, 3) := by decide +kernel
theorem dX11_makeNew_95 : decode cX11_makeNew 95 = .ok (.iconst 0, 1) := by decide +kernel
theorem dX11_makeNew_96 : decode cX11_makeNew 96 = .ok (.ireturn, 1) := by decide +kernel
theorem dX11_isSame_0 : decode cX11_isSame 0 = .ok (.aload_n 0, 1) := by decide +kernel
theorem dX11_isSame_1 : decode cX11_isSame 1 = .ok (.getfield 59, 3) := by decide +kernel
theorem dX11_isSame_4 : decode cX11_isSame 4 = .ok (.iload_n 1, 1) := by decide +kernel
theorem dX11_isSame_5 : decode cX11_isSame 5 = .ok (.iaload, 1) := by decide +kernel
theorem dX11_isSame_6 : decode cX11_isSame 6 = .ok (.aload_n 0, 1) := by decide +kernel
theorem dX11_isSame_7 : decode cX11_isSame 7 = .ok (.getfield 59, 3) := by decide +kernel
theorem dX11_isSame_10 : decode cX11_isSame 10 = .ok (.iload_n 2, 1) := by decide +kernel
theorem dX11_isSame_11 : decode cX11_isSame 11 = .ok (.iaload, 1) := by decide +kernel
theorem dX11_isSame_12 : decode cX11_isSame 12 = .ok (.if_icmp .ne 33, 3) := by decide +kernel
theorem dX11_isSame_15 : decode cX11_isSame 15 = .ok (.aload_n 0, 1) := by decide +kernel
theorem dX11_isSame_16 : decode cX11_isSame 16 = .ok (.getfield 62, 3) := by decide +kernel
theorem dX11_isSame_19 : decode cX11_isSame 19 = .ok (.iload_n 1, 1) := by decide +kernel
theorem dX11_isSame_20 : decode cX11_isSame 20 = .ok (.iaload, 1) := by decide +kernel
theorem dX11_isSame_21 : decode cX11_isSame 21 = .ok (.aload_n 0, 1) := by decide +kernel
theorem dX11_isSame_22 : decode cX11_isSame 22 = .ok (.getfield 62, 3) := by decide +kernel
theorem dX11_isSame_25 : decode cX11_isSame 25 = .ok (.iload_n 2, 1) := by decide +kernel
theorem dX11_isSame_26 : decode cX11_isSame 26 = .ok (.iaload, 1) := by decide +kernel
theorem dX11_isSame_27 : decode cX11_isSame 27 = .ok (.if_icmp .ne 18, 3) := by decide +kernel
theorem dX11_isSame_30 : decode cX11_isSame 30 = .ok (.aload_n 0, 1) := by decide +kernel
theorem dX11_isSame_31 : decode cX11_isSame 31 = .ok (.getfield 71, 3) := by decide +kernel
theorem dX11_isSame_34 : decode cX11_isSame 34 = .ok (.iload_n 1, 1) := by decide +kernel
theorem dX11_isSame_35 : decode cX11_isSame 35 = .ok (.iaload, 1) := by decide +kernel
theorem dX11_isSame_36 : decode cX11_isSame 36 = .ok (.aload_n 0, 1) := by decide +kernel
theorem dX11_isSame_37 : decode cX11_isSame 37 = .ok (.getfield 71, 3) := by decide +kernel
theorem dX11_isSame_40 : decode cX11_isSame 40 = .ok (.iload_n 2, 1) := by decide +kernel
theorem dX11_isSame_41 : decode cX11_isSame 41 = .ok (.iaload, 1) := by decide +kernel
theorem dX11_isSame_42 : decode cX11_isSame 42 = .ok (.if_icmp .eq 5, 3) := by decide +kernel
theorem dX11_isSame_45 : decode cX11_isSame 45 = .ok (.iconst 0, 1) := by decide +kernel
theorem dX11_isSame_46 : decode cX11_isSame 46 = .ok (.ireturn, 1) := by decide +kernel
theorem dX11_isSame_47 : decode cX11_isSame 47 = .ok (.iconst 0, 1) := by decide +kernel
theorem dX11_isSame_48 : decode cX11_isSame 48 = .ok (.istore_n 3, 1) := by decide +kernel
theorem dX11_isSame_49 : decode cX11_isSame 49 = .ok (.iload_n 3, 1) := by decide +kernel
theorem dX11_isSame_50 : decode cX11_isSame 50 = .ok (.iconst 2, 1) := by decide +kernel
theorem dX11_isSame_51 : decode cX11_isSame 51 = .ok (.aload_n 0, 1) := by decide +kernel
theorem dX11_isSame_52 : decode cX11_isSame 52 = .ok (.getfield 71, 3) := by decide +kernel
theorem dX11_isSame_55 : decode cX11_isSame 55 = .ok (.iload_n 1, 1) := by decide +kernel
theorem dX11_isSame_56 : decode cX11_isSame 56 = .ok (.iaload, 1) := by decide +kernel
theorem dX11_isSame_57 : decode cX11_isSame 57 = .ok (.imul, 1) := by decide +kernel
theorem dX11_isSame_58 : decode cX11_isSame 58 = .ok (.if_icmp .ge 36, 3) := by decide +kernel
theorem dX11_isSame_61 : decode cX11_isSame 61 = .ok (.aload_n 0, 1) := by decide +kernel
theorem dX11_isSame_62 : decode cX11_isSame 62 = .ok (.getfield 74, 3) := by decide +kernel
theorem dX11_isSame_65 : decode cX11_isSame 65 = .ok (.bipush 12, 2) := by decide +kernel
theorem dX11_isSame_67 : decode cX11_isSame 67 = .ok (.iload_n 1, 1) := by decide +kernel
theorem dX11_isSame_68 : decode cX11_isSame 68 = .ok (.imul, 1) := by decide +kernel
theorem dX11_isSame_69 : decode cX11_isSame 69 = .ok (.iload_n 3, 1) := by decide +kernel
theorem dX11_isSame_70 : decode cX11_isSame 70 = .ok (.iadd, 1) := by decide +kernel
theorem dX11_isSame_71 : decode cX11_isSame 71 = .ok (.iaload, 1) := by decide +kernel
theorem dX11_isSame_72 : decode cX11_isSame 72 = .ok (.aload_n 0, 1) := by decide +kernel
theorem dX11_isSame_73 : decode cX11_isSame 73 = .ok (.getfield 74, 3) := by decide +kernel
theorem dX11_isSame_76 : decode cX11_isSame 76 = .ok (.bipush 12, 2) := by decide +kernel
theorem dX11_isSame_78 : decode cX11_isSame 78 = .ok (.iload_n 2, 1) := by decide +kernel
theorem dX11_isSame_79 : decode cX11_isSame 79 = .ok (.imul, 1) := by decide +kernel
theorem dX11_isSame_80 : decode cX11_isSame 80 = .ok (.iload_n 3, 1) := by decide +kernel
theorem dX11_isSame_81 : decode cX11_isSame 81 = .ok (.iadd, 1) := by decide +kernel
theorem dX11_isSame_82 : decode cX11_isSame 82 = .ok (.iaload, 1) := by decide +kernel
theorem dX11_isSame_83 : decode cX11_isSame 83 = .ok (.if_icmp .eq 5, 3) := by decide +kernel
theorem dX11_isSame_86 : decode cX11_isSame 86 = .ok (.iconst 0, 1) := by decide +kernel
theorem dX11_isSame_87 : decode cX11_isSame 87 = .ok (.ireturn, 1) := by decide +kernel
theorem dX11_isSame_88 : decode cX11_isSame 88 = .ok (.iinc 3 1, 3) := by decide +kernel
theorem dX11_isSame_91 : decode cX11_isSame 91 = .ok (.goto (-42), 3) := by decide +kernel
theorem dX11_isSame_94 : decode cX11_isSame 94 = .ok (.iconst 1, 1) := by decide +kernel
theorem dX11_isSame_95 : decode cX11_isSame 95 = .ok (.ireturn, 1) := by decide +kernel
theorem dX11_sameOf_0 : decode cX11_sameOf 0 = .ok (.iload_n 1, 1) := by decide +kernel
theorem dX11_sameOf_1 : decode cX11_sameOf 1 = .ok (.istore 4, 2) := by decide +kernel
theorem dX11_sameOf_3 : decode cX11_sameOf 3 = .ok (.iload 4, 2) := by decide +kernel
theorem dX11_sameOf_5 : decode cX11_sameOf 5 = .ok (.iload_n 2, 1) := by decide +kernel
theorem dX11_sameOf_6 : decode cX11_sameOf 6 = .ok (.if_icmp .ge 22, 3) := by decide +kernel
theorem dX11_sameOf_9 : decode cX11_sameOf 9 = .ok (.aload_n 0, 1) := by decide +kernel
theorem dX11_sameOf_10 : decode cX11_sameOf 10 = .ok (.iload_n 3, 1) := by decide +kernel
theorem dX11_sameOf_11 : decode cX11_sameOf 11 = .ok (.iload 4, 2) := by decide +kernel
theorem dX11_sameOf_13 : decode cX11_sameOf 13 = .ok (.invokevirtual 226, 3) := by decide +kernel
theorem dX11_sameOf_16 : decode cX11_sameOf 16 = .ok (.ifCond .eq 6, 3) := by decide +kernel
theorem dX11_sameOf_19 : decode cX11_sameOf 19 = .ok (.iload 4, 2) := by decide +kernel
theorem dX11_sameOf_21 : decode cX11_sameOf 21 = .ok (.ireturn, 1) := by decide +kernel
theorem dX11_sameOf_22 : decode cX11_sameOf 22 = .ok (.iinc 4 1, 3) := by decide +kernel
theorem dX11_sameOf_25 : decode cX11_sameOf 25 = .ok (.goto (-22), 3) := by decide +kernel
theorem dX11_sameOf_28 : decode cX11_sameOf 28 = .ok (.iconst (-1), 1) := by decide +kernel
theorem dX11_sameOf_29 : decode cX11_sameOf 29 = .ok (.ireturn, 1) := by decide +kernel
theorem dX11_isMade_0 : decode cX11_isMade 0 = .ok (.aload_n 0, 1) := by decide +kernel
theorem dX11_isMade_1 : decode cX11_isMade 1 = .ok (.getfield 83, 3) := by decide +kernel
theorem dX11_isMade_4 : decode cX11_isMade 4 = .ok (.iload_n 1, 1) := by decide +kernel
theorem dX11_isMade_5 : decode cX11_isMade 5 = .ok (.iaload, 1) := by decide +kernel
theorem dX11_isMade_6 : decode cX11_isMade 6 = .ok (.iload 4, 2) := by decide +kernel
theorem dX11_isMade_8 : decode cX11_isMade 8 = .ok (.if_icmp .eq 5, 3) := by decide +kernel
theorem dX11_isMade_11 : decode cX11_isMade 11 = .ok (.iconst 0, 1) := by decide +kernel
theorem dX11_isMade_12 : decode cX11_isMade 12 = .ok (.ireturn, 1) := by decide +kernel
theorem dX11_isMade_13 : decode cX11_isMade 13 = .ok (.iload_n 1, 1) := by decide +kernel
theorem dX11_isMade_14 : decode cX11_isMade 14 = .ok (.sipush 250, 3) := by decide +kernel
theorem dX11_isMade_17 : decode cX11_isMade 17 = .ok (.if_icmp .ge 7, 3) := by decide +kernel
theorem dX11_isMade_20 : decode cX11_isMade 20 = .ok (.iconst 0, 1) := by decide +kernel
theorem dX11_isMade_21 : decode cX11_isMade 21 = .ok (.goto 6, 3) := by decide +kernel
theorem dX11_isMade_24 : decode cX11_isMade 24 = .ok (.sipush 3000, 3) := by decide +kernel
theorem dX11_isMade_27 : decode cX11_isMade 27 = .ok (.aload_n 0, 1) := by decide +kernel
theorem dX11_isMade_28 : decode cX11_isMade 28 = .ok (.getfield 80, 3) := by decide +kernel
theorem dX11_isMade_31 : decode cX11_isMade 31 = .ok (.iload_n 1, 1) := by decide +kernel
theorem dX11_isMade_32 : decode cX11_isMade 32 = .ok (.iaload, 1) := by decide +kernel
theorem dX11_isMade_33 : decode cX11_isMade 33 = .ok (.iadd, 1) := by decide +kernel
theorem dX11_isMade_34 : decode cX11_isMade 34 = .ok (.istore 5, 2) := by decide +kernel
theorem dX11_isMade_36 : decode cX11_isMade 36 = .ok (.iconst 0, 1) := by decide +kernel
theorem dX11_isMade_37 : decode cX11_isMade 37 = .ok (.istore 6, 2) := by decide +kernel
theorem dX11_isMade_39 : decode cX11_isMade 39 = .ok (.iload 6, 2) := by decide +kernel
theorem dX11_isMade_41 : decode cX11_isMade 41 = .ok (.iload 4, 2) := by decide +kernel
theorem dX11_isMade_43 : decode cX11_isMade 43 = .ok (.if_icmp .ge 30, 3) := by decide +kernel
theorem dX11_isMade_46 : decode cX11_isMade 46 = .ok (.aload_n 0, 1) := by decide +kernel
theorem dX11_isMade_47 : decode cX11_isMade 47 = .ok (.getfield 86, 3) := by decide +kernel
theorem dX11_isMade_50 : decode cX11_isMade 50 = .ok (.iload 5, 2) := by decide +kernel
theorem dX11_isMade_52 : decode cX11_isMade 52 = .ok (.iload 6, 2) := by decide +kernel
theorem dX11_isMade_54 : decode cX11_isMade 54 = .ok (.iadd, 1) := by decide +kernel
theorem dX11_isMade_55 : decode cX11_isMade 55 = .ok (.iaload, 1) := by decide +kernel
theorem dX11_isMade_56 : decode cX11_isMade 56 = .ok (.aload_n 2, 1) := by decide +kernel
theorem dX11_isMade_57 : decode cX11_isMade 57 = .ok (.iload_n 3, 1) := by decide +kernel
theorem dX11_isMade_58 : decode cX11_isMade 58 = .ok (.iload 6, 2) := by decide +kernel
theorem dX11_isMade_60 : decode cX11_isMade 60 = .ok (.iadd, 1) := by decide +kernel
theorem dX11_isMade_61 : decode cX11_isMade 61 = .ok (.iaload, 1) := by decide +kernel
theorem dX11_isMade_62 : decode cX11_isMade 62 = .ok (.if_icmp .eq 5, 3) := by decide +kernel
theorem dX11_isMade_65 : decode cX11_isMade 65 = .ok (.iconst 0, 1) := by decide +kernel
theorem dX11_isMade_66 : decode cX11_isMade 66 = .ok (.ireturn, 1) := by decide +kernel
theorem dX11_isMade_67 : decode cX11_isMade 67 = .ok (.iinc 6 1, 3) := by decide +kernel
theorem dX11_isMade_70 : decode cX11_isMade 70 = .ok (.goto (-31), 3) := by decide +kernel
theorem dX11_isMade_73 : decode cX11_isMade 73 = .ok (.iconst 1, 1) := by decide +kernel
theorem dX11_isMade_74 : decode cX11_isMade 74 = .ok (.ireturn, 1) := by decide +kernel
theorem dX11_takeOver_0 : decode cX11_takeOver 0 = .ok (.aload_n 0, 1) := by decide +kernel
theorem dX11_takeOver_1 : decode cX11_takeOver 1 = .ok (.getfield 89, 3) := by decide +kernel
theorem dX11_takeOver_4 : decode cX11_takeOver 4 = .ok (.iload_n 2, 1) := by decide +kernel
theorem dX11_takeOver_5 : decode cX11_takeOver 5 = .ok (.iaload, 1) := by decide +kernel
theorem dX11_takeOver_6 : decode cX11_takeOver 6 = .ok (.ifCond .ge 4, 3) := by decide +kernel
theorem dX11_takeOver_9 : decode cX11_takeOver 9 = .ok (.return_, 1) := by decide +kernel
theorem dX11_takeOver_10 : decode cX11_takeOver 10 = .ok (.aload_n 0, 1) := by decide +kernel
theorem dX11_takeOver_11 : decode cX11_takeOver 11 = .ok (.iload_n 1, 1) := by decide +kernel
theorem dX11_takeOver_12 : decode cX11_takeOver 12 = .ok (.aload_n 0, 1) := by decide +kernel
theorem dX11_takeOver_13 : decode cX11_takeOver 13 = .ok (.getfield 92, 3) := by decide +kernel
theorem dX11_takeOver_16 : decode cX11_takeOver 16 = .ok (.bipush 60, 2) := by decide +kernel
theorem dX11_takeOver_18 : decode cX11_takeOver 18 = .ok (.iload_n 2, 1) := by decide +kernel
theorem dX11_takeOver_19 : decode cX11_takeOver 19 = .ok (.imul, 1) := by decide +kernel
theorem dX11_takeOver_20 : decode cX11_takeOver 20 = .ok (.aload_n 0, 1) := by decide +kernel
theorem dX11_takeOver_21 : decode cX11_takeOver 21 = .ok (.getfield 89, 3) := by decide +kernel
theorem dX11_takeOver_24 : decode cX11_takeOver 24 = .ok (.iload_n 2, 1) := by decide +kernel
theorem dX11_takeOver_25 : decode cX11_takeOver 25 = .ok (.iaload, 1) := by decide +kernel
theorem dX11_takeOver_26 : decode cX11_takeOver 26 = .ok (.invokevirtual 229, 3) := by decide +kernel
theorem dX11_takeOver_29 : decode cX11_takeOver 29 = .ok (.ifCond .eq 4, 3) := by decide +kernel
theorem dX11_takeOver_32 : decode cX11_takeOver 32 = .ok (.return_, 1) := by decide +kernel
theorem dX11_takeOver_33 : decode cX11_takeOver 33 = .ok (.aload_n 0, 1) := by decide +kernel
theorem dX11_takeOver_34 : decode cX11_takeOver 34 = .ok (.getfield 89, 3) := by decide +kernel
theorem dX11_takeOver_37 : decode cX11_takeOver 37 = .ok (.iload_n 1, 1) := by decide +kernel
theorem dX11_takeOver_38 : decode cX11_takeOver 38 = .ok (.aload_n 0, 1) := by decide +kernel
theorem dX11_takeOver_39 : decode cX11_takeOver 39 = .ok (.getfield 89, 3) := by decide +kernel
theorem dX11_takeOver_42 : decode cX11_takeOver 42 = .ok (.iload_n 2, 1) := by decide +kernel
theorem dX11_takeOver_43 : decode cX11_takeOver 43 = .ok (.iaload, 1) := by decide +kernel
theorem dX11_takeOver_44 : decode cX11_takeOver 44 = .ok (.iastore, 1) := by decide +kernel
theorem dX11_takeOver_45 : decode cX11_takeOver 45 = .ok (.iconst 0, 1) := by decide +kernel
theorem dX11_takeOver_46 : decode cX11_takeOver 46 = .ok (.istore_n 3, 1) := by decide +kernel
theorem dX11_takeOver_47 : decode cX11_takeOver 47 = .ok (.iload_n 3, 1) := by decide +kernel
theorem dX11_takeOver_48 : decode cX11_takeOver 48 = .ok (.aload_n 0, 1) := by decide +kernel
theorem dX11_takeOver_49 : decode cX11_takeOver 49 = .ok (.getfield 89, 3) := by decide +kernel
theorem dX11_takeOver_52 : decode cX11_takeOver 52 = .ok (.iload_n 2, 1) := by decide +kernel
theorem dX11_takeOver_53 : decode cX11_takeOver 53 = .ok (.iaload, 1) := by decide +kernel
theorem dX11_takeOver_54 : decode cX11_takeOver 54 = .ok (.if_icmp .ge 31, 3) := by decide +kernel
theorem dX11_takeOver_57 : decode cX11_takeOver 57 = .ok (.aload_n 0, 1) := by decide +kernel
theorem dX11_takeOver_58 : decode cX11_takeOver 58 = .ok (.getfield 92, 3) := by decide +kernel
theorem dX11_takeOver_61 : decode cX11_takeOver 61 = .ok (.bipush 60, 2) := by decide +kernel
theorem dX11_takeOver_63 : decode cX11_takeOver 63 = .ok (.iload_n 1, 1) := by decide +kernel
theorem dX11_takeOver_64 : decode cX11_takeOver 64 = .ok (.imul, 1) := by decide +kernel
theorem dX11_takeOver_65 : decode cX11_takeOver 65 = .ok (.iload_n 3, 1) := by decide +kernel
theorem dX11_takeOver_66 : decode cX11_takeOver 66 = .ok (.iadd, 1) := by decide +kernel
theorem dX11_takeOver_67 : decode cX11_takeOver 67 = .ok (.aload_n 0, 1) := by decide +kernel
theorem dX11_takeOver_68 : decode cX11_takeOver 68 = .ok (.getfield 92, 3) := by decide +kernel
theorem dX11_takeOver_71 : decode cX11_takeOver 71 = .ok (.bipush 60, 2) := by decide +kernel
theorem dX11_takeOver_73 : decode cX11_takeOver 73 = .ok (.iload_n 2, 1) := by decide +kernel
theorem dX11_takeOver_74 : decode cX11_takeOver 74 = .ok (.imul, 1) := by decide +kernel
theorem dX11_takeOver_75 : decode cX11_takeOver 75 = .ok (.iload_n 3, 1) := by decide +kernel
theorem dX11_takeOver_76 : decode cX11_takeOver 76 = .ok (.iadd, 1) := by decide +kernel
theorem dX11_takeOver_77 : decode cX11_takeOver 77 = .ok (.iaload, 1) := by decide +kernel
theorem dX11_takeOver_78 : decode cX11_takeOver 78 = .ok (.iastore, 1) := by decide +kernel
theorem dX11_takeOver_79 : decode cX11_takeOver 79 = .ok (.iinc 3 1, 3) := by decide +kernel
theorem dX11_takeOver_82 : decode cX11_takeOver 82 = .ok (.goto (-35), 3) := by decide +kernel
theorem dX11_takeOver_85 : decode cX11_takeOver 85 = .ok (.aload_n 0, 1) := by decide +kernel
theorem dX11_takeOver_86 : decode cX11_takeOver 86 = .ok (.getfield 95, 3) := by decide +kernel
theorem dX11_takeOver_89 : decode cX11_takeOver 89 = .ok (.iload_n 1, 1) := by decide +kernel
theorem dX11_takeOver_90 : decode cX11_takeOver 90 = .ok (.aload_n 0, 1) := by decide +kernel
theorem dX11_takeOver_91 : decode cX11_takeOver 91 = .ok (.getfield 95, 3) := by decide +kernel
theorem dX11_takeOver_94 : decode cX11_takeOver 94 = .ok (.iload_n 2, 1) := by decide +kernel
theorem dX11_takeOver_95 : decode cX11_takeOver 95 = .ok (.iaload, 1) := by decide +kernel
theorem dX11_takeOver_96 : decode cX11_takeOver 96 = .ok (.iastore, 1) := by decide +kernel
theorem dX11_takeOver_97 : decode cX11_takeOver 97 = .ok (.iconst 0, 1) := by decide +kernel
theorem dX11_takeOver_98 : decode cX11_takeOver 98 = .ok (.istore_n 3, 1) := by decide +kernel
theorem dX11_takeOver_99 : decode cX11_takeOver 99 = .ok (.iload_n 3, 1) := by decide +kernel
theorem dX11_takeOver_100 : decode cX11_takeOver 100 = .ok (.aload_n 0, 1) := by decide +kernel
theorem dX11_takeOver_101 : decode cX11_takeOver 101 = .ok (.getfield 95, 3) := by decide +kernel
theorem dX11_takeOver_104 : decode cX11_takeOver 104 = .ok (.iload_n 2, 1) := by decide +kernel
theorem dX11_takeOver_105 : decode cX11_takeOver 105 = .ok (.iaload, 1) := by decide +kernel
theorem dX11_takeOver_106 : decode cX11_takeOver 106 = .ok (.if_icmp .ge 31, 3) := by decide +kernel
theorem dX11_takeOver_109 : decode cX11_takeOver 109 = .ok (.aload_n 0, 1) := by decide +kernel
theorem dX11_takeOver_110 : decode cX11_takeOver 110 = .ok (.getfield 99, 3) := by decide +kernel
theorem dX11_takeOver_113 : decode cX11_takeOver 113 = .ok (.bipush 120, 2) := by decide +kernel
theorem dX11_takeOver_115 : decode cX11_takeOver 115 = .ok (.iload_n 1, 1) := by decide +kernel
theorem dX11_takeOver_116 : decode cX11_takeOver 116 = .ok (.imul, 1) := by decide +kernel
theorem dX11_takeOver_117 : decode cX11_takeOver 117 = .ok (.iload_n 3, 1) := by decide +kernel
theorem dX11_takeOver_118 : decode cX11_takeOver 118 = .ok (.iadd, 1) := by decide +kernel
theorem dX11_takeOver_119 : decode cX11_takeOver 119 = .ok (.aload_n 0, 1) := by decide +kernel
theorem dX11_takeOver_120 : decode cX11_takeOver 120 = .ok (.getfield 99, 3) := by decide +kernel
theorem dX11_takeOver_123 : decode cX11_takeOver 123 = .ok (.bipush 120, 2) := by decide +kernel
theorem dX11_takeOver_125 : decode cX11_takeOver 125 = .ok (.iload_n 2, 1) := by decide +kernel
theorem dX11_takeOver_126 : decode cX11_takeOver 126 = .ok (.imul, 1) := by decide +kernel
theorem dX11_takeOver_127 : decode cX11_takeOver 127 = .ok (.iload_n 3, 1) := by decide +kernel
theorem dX11_takeOver_128 : decode cX11_takeOver 128 = .ok (.iadd, 1) := by decide +kernel
theorem dX11_takeOver_129 : decode cX11_takeOver 129 = .ok (.iaload, 1) := by decide +kernel
theorem dX11_takeOver_130 : decode cX11_takeOver 130 = .ok (.iastore, 1) := by decide +kernel
theorem dX11_takeOver_131 : decode cX11_takeOver 131 = .ok (.iinc 3 1, 3) := by decide +kernel
theorem dX11_takeOver_134 : decode cX11_takeOver 134 = .ok (.goto (-35), 3) := by decide +kernel
theorem dX11_takeOver_137 : decode cX11_takeOver 137 = .ok (.aload_n 0, 1) := by decide +kernel
theorem dX11_takeOver_138 : decode cX11_takeOver 138 = .ok (.getfield 102, 3) := by decide +kernel
theorem dX11_takeOver_141 : decode cX11_takeOver 141 = .ok (.iload_n 1, 1) := by decide +kernel
theorem dX11_takeOver_142 : decode cX11_takeOver 142 = .ok (.aload_n 0, 1) := by decide +kernel
theorem dX11_takeOver_143 : decode cX11_takeOver 143 = .ok (.iload_n 1, 1) := by decide +kernel
theorem dX11_takeOver_144 : decode cX11_takeOver 144 = .ok (.aload_n 0, 1) := by decide +kernel
theorem dX11_takeOver_145 : decode cX11_takeOver 145 = .ok (.getfield 99, 3) := by decide +kernel
theorem dX11_takeOver_148 : decode cX11_takeOver 148 = .ok (.bipush 120, 2) := by decide +kernel
theorem dX11_takeOver_150 : decode cX11_takeOver 150 = .ok (.iload_n 2, 1) := by decide +kernel
theorem dX11_takeOver_151 : decode cX11_takeOver 151 = .ok (.imul, 1) := by decide +kernel
theorem dX11_takeOver_152 : decode cX11_takeOver 152 = .ok (.aload_n 0, 1) := by decide +kernel
theorem dX11_takeOver_153 : decode cX11_takeOver 153 = .ok (.getfield 95, 3) := by decide +kernel
theorem dX11_takeOver_156 : decode cX11_takeOver 156 = .ok (.iload_n 2, 1) := by decide +kernel
theorem dX11_takeOver_157 : decode cX11_takeOver 157 = .ok (.iaload, 1) := by decide +kernel
theorem dX11_takeOver_158 : decode cX11_takeOver 158 = .ok (.invokevirtual 229, 3) := by decide +kernel
theorem dX11_takeOver_161 : decode cX11_takeOver 161 = .ok (.ifCond .ne 7, 3) := by decide +kernel
theorem dX11_takeOver_164 : decode cX11_takeOver 164 = .ok (.iconst 1, 1) := by decide +kernel
theorem dX11_takeOver_165 : decode cX11_takeOver 165 = .ok (.goto 4, 3) := by decide +kernel
theorem dX11_takeOver_168 : decode cX11_takeOver 168 = .ok (.iconst 0, 1) := by decide +kernel
theorem dX11_takeOver_169 : decode cX11_takeOver 169 = .ok (.bastore, 1) := by decide +kernel
theorem dX11_takeOver_170 : decode cX11_takeOver 170 = .ok (.return_, 1) := by decide +kernel
theorem dX11_takeAll_0 : decode cX11_takeAll 0 = .ok (.iconst 0, 1) := by decide +kernel
theorem dX11_takeAll_1 : decode cX11_takeAll 1 = .ok (.istore_n 1, 1) := by decide +kernel
theorem dX11_takeAll_2 : decode cX11_takeAll 2 = .ok (.iconst 0, 1) := by decide +kernel
theorem dX11_takeAll_3 : decode cX11_takeAll 3 = .ok (.istore_n 2, 1) := by decide +kernel
theorem dX11_takeAll_4 : decode cX11_takeAll 4 = .ok (.iload_n 2, 1) := by decide +kernel
theorem dX11_takeAll_5 : decode cX11_takeAll 5 = .ok (.aload_n 0, 1) := by decide +kernel
theorem dX11_takeAll_6 : decode cX11_takeAll 6 = .ok (.getfield 56, 3) := by decide +kernel
theorem dX11_takeAll_9 : decode cX11_takeAll 9 = .ok (.iconst 0, 1) := by decide +kernel
theorem dX11_takeAll_10 : decode cX11_takeAll 10 = .ok (.iaload, 1) := by decide +kernel
theorem dX11_takeAll_11 : decode cX11_takeAll 11 = .ok (.if_icmp .ge 53, 3) := by decide +kernel
theorem dX11_takeAll_14 : decode cX11_takeAll 14 = .ok (.aload_n 0, 1) := by decide +kernel
theorem dX11_takeAll_15 : decode cX11_takeAll 15 = .ok (.sipush 250, 3) := by decide +kernel
theorem dX11_takeAll_18 : decode cX11_takeAll 18 = .ok (.sipush 250, 3) := by decide +kernel
theorem dX11_takeAll_21 : decode cX11_takeAll 21 = .ok (.aload_n 0, 1) := by decide +kernel
theorem dX11_takeAll_22 : decode cX11_takeAll 22 = .ok (.getfield 56, 3) := by decide +kernel
theorem dX11_takeAll_25 : decode cX11_takeAll 25 = .ok (.iconst 1, 1) := by decide +kernel
theorem dX11_takeAll_26 : decode cX11_takeAll 26 = .ok (.iaload, 1) := by decide +kernel
theorem dX11_takeAll_27 : decode cX11_takeAll 27 = .ok (.iadd, 1) := by decide +kernel
theorem dX11_takeAll_28 : decode cX11_takeAll 28 = .ok (.iload_n 2, 1) := by decide +kernel
theorem dX11_takeAll_29 : decode cX11_takeAll 29 = .ok (.invokevirtual 233, 3) := by decide +kernel
theorem dX11_takeAll_32 : decode cX11_takeAll 32 = .ok (.istore_n 3, 1) := by decide +kernel
theorem dX11_takeAll_33 : decode cX11_takeAll 33 = .ok (.iload_n 3, 1) := by decide +kernel
theorem dX11_takeAll_34 : decode cX11_takeAll 34 = .ok (.ifCond .lt 12, 3) := by decide +kernel
theorem dX11_takeAll_37 : decode cX11_takeAll 37 = .ok (.aload_n 0, 1) := by decide +kernel
theorem dX11_takeAll_38 : decode cX11_takeAll 38 = .ok (.iload_n 3, 1) := by decide +kernel
theorem dX11_takeAll_39 : decode cX11_takeAll 39 = .ok (.iload_n 2, 1) := by decide +kernel
theorem dX11_takeAll_40 : decode cX11_takeAll 40 = .ok (.invokevirtual 236, 3) := by decide +kernel
theorem dX11_takeAll_43 : decode cX11_takeAll 43 = .ok (.goto 15, 3) := by decide +kernel
theorem dX11_takeAll_46 : decode cX11_takeAll 46 = .ok (.aload_n 0, 1) := by decide +kernel
theorem dX11_takeAll_47 : decode cX11_takeAll 47 = .ok (.getfield 89, 3) := by decide +kernel
theorem dX11_takeAll_50 : decode cX11_takeAll 50 = .ok (.iload_n 2, 1) := by decide +kernel
theorem dX11_takeAll_51 : decode cX11_takeAll 51 = .ok (.iaload, 1) := by decide +kernel
theorem dX11_takeAll_52 : decode cX11_takeAll 52 = .ok (.ifCond .lt 6, 3) := by decide +kernel
theorem dX11_takeAll_55 : decode cX11_takeAll 55 = .ok (.iinc 1 1, 3) := by decide +kernel
theorem dX11_takeAll_58 : decode cX11_takeAll 58 = .ok (.iinc 2 1, 3) := by decide +kernel
theorem dX11_takeAll_61 : decode cX11_takeAll 61 = .ok (.goto (-57), 3) := by decide +kernel
theorem dX11_takeAll_64 : decode cX11_takeAll 64 = .ok (.iload_n 1, 1) := by decide +kernel
theorem dX11_takeAll_65 : decode cX11_takeAll 65 = .ok (.ireturn, 1) := by decide +kernel
theorem dX11_dropLone_0 : decode cX11_dropLone 0 = .ok (.iload_n 1, 1) := by decide +kernel
theorem dX11_dropLone_1 : decode cX11_dropLone 1 = .ok (.istore_n 2, 1) := by decide +kernel
theorem dX11_dropLone_2 : decode cX11_dropLone 2 = .ok (.iload_n 2, 1) := by decide +kernel
theorem dX11_dropLone_3 : decode cX11_dropLone 3 = .ok (.aload_n 0, 1) := by decide +kernel
theorem dX11_dropLone_4 : decode cX11_dropLone 4 = .ok (.getfield 239, 3) := by decide +kernel
theorem dX11_dropLone_7 : decode cX11_dropLone 7 = .ok (.iconst 1, 1) := by decide +kernel
theorem dX11_dropLone_8 : decode cX11_dropLone 8 = .ok (.isub, 1) := by decide +kernel
theorem dX11_dropLone_9 : decode cX11_dropLone 9 = .ok (.if_icmp .ge 89, 3) := by decide +kernel
theorem dX11_dropLone_12 : decode cX11_dropLone 12 = .ok (.aload_n 0, 1) := by decide +kernel
theorem dX11_dropLone_13 : decode cX11_dropLone 13 = .ok (.getfield 118, 3) := by decide +kernel
theorem dX11_dropLone_16 : decode cX11_dropLone 16 = .ok (.iload_n 2, 1) := by decide +kernel
theorem dX11_dropLone_17 : decode cX11_dropLone 17 = .ok (.aload_n 0, 1) := by decide +kernel
theorem dX11_dropLone_18 : decode cX11_dropLone 18 = .ok (.getfield 118, 3) := by decide +kernel
theorem dX11_dropLone_21 : decode cX11_dropLone 21 = .ok (.iload_n 2, 1) := by decide +kernel
theorem dX11_dropLone_22 : decode cX11_dropLone 22 = .ok (.iconst 1, 1) := by decide +kernel
theorem dX11_dropLone_23 : decode cX11_dropLone 23 = .ok (.iadd, 1) := by decide +kernel
theorem dX11_dropLone_24 : decode cX11_dropLone 24 = .ok (.iaload, 1) := by decide +kernel
theorem dX11_dropLone_25 : decode cX11_dropLone 25 = .ok (.iastore, 1) := by decide +kernel
theorem dX11_dropLone_26 : decode cX11_dropLone 26 = .ok (.aload_n 0, 1) := by decide +kernel
theorem dX11_dropLone_27 : decode cX11_dropLone 27 = .ok (.getfield 121, 3) := by decide +kernel
theorem dX11_dropLone_30 : decode cX11_dropLone 30 = .ok (.iload_n 2, 1) := by decide +kernel
theorem dX11_dropLone_31 : decode cX11_dropLone 31 = .ok (.aload_n 0, 1) := by decide +kernel
theorem dX11_dropLone_32 : decode cX11_dropLone 32 = .ok (.getfield 121, 3) := by decide +kernel
theorem dX11_dropLone_35 : decode cX11_dropLone 35 = .ok (.iload_n 2, 1) := by decide +kernel
theorem dX11_dropLone_36 : decode cX11_dropLone 36 = .ok (.iconst 1, 1) := by decide +kernel
theorem dX11_dropLone_37 : decode cX11_dropLone 37 = .ok (.iadd, 1) := by decide +kernel
theorem dX11_dropLone_38 : decode cX11_dropLone 38 = .ok (.iaload, 1) := by decide +kernel
theorem dX11_dropLone_39 : decode cX11_dropLone 39 = .ok (.iastore, 1) := by decide +kernel
theorem dX11_dropLone_40 : decode cX11_dropLone 40 = .ok (.aload_n 0, 1) := by decide +kernel
theorem dX11_dropLone_41 : decode cX11_dropLone 41 = .ok (.getfield 124, 3) := by decide +kernel
theorem dX11_dropLone_44 : decode cX11_dropLone 44 = .ok (.iload_n 2, 1) := by decide +kernel
theorem dX11_dropLone_45 : decode cX11_dropLone 45 = .ok (.aload_n 0, 1) := by decide +kernel
theorem dX11_dropLone_46 : decode cX11_dropLone 46 = .ok (.getfield 124, 3) := by decide +kernel
theorem dX11_dropLone_49 : decode cX11_dropLone 49 = .ok (.iload_n 2, 1) := by decide +kernel
theorem dX11_dropLone_50 : decode cX11_dropLone 50 = .ok (.iconst 1, 1) := by decide +kernel
theorem dX11_dropLone_51 : decode cX11_dropLone 51 = .ok (.iadd, 1) := by decide +kernel
theorem dX11_dropLone_52 : decode cX11_dropLone 52 = .ok (.iaload, 1) := by decide +kernel
theorem dX11_dropLone_53 : decode cX11_dropLone 53 = .ok (.iastore, 1) := by decide +kernel
theorem dX11_dropLone_54 : decode cX11_dropLone 54 = .ok (.iconst 0, 1) := by decide +kernel
theorem dX11_dropLone_55 : decode cX11_dropLone 55 = .ok (.istore_n 3, 1) := by decide +kernel
theorem dX11_dropLone_56 : decode cX11_dropLone 56 = .ok (.iload_n 3, 1) := by decide +kernel
theorem dX11_dropLone_57 : decode cX11_dropLone 57 = .ok (.bipush 60, 2) := by decide +kernel
theorem dX11_dropLone_59 : decode cX11_dropLone 59 = .ok (.if_icmp .ge 33, 3) := by decide +kernel
theorem dX11_dropLone_62 : decode cX11_dropLone 62 = .ok (.aload_n 0, 1) := by decide +kernel
theorem dX11_dropLone_63 : decode cX11_dropLone 63 = .ok (.getfield 127, 3) := by decide +kernel
theorem dX11_dropLone_66 : decode cX11_dropLone 66 = .ok (.bipush 60, 2) := by decide +kernel
theorem dX11_dropLone_68 : decode cX11_dropLone 68 = .ok (.iload_n 2, 1) := by decide +kernel
theorem dX11_dropLone_69 : decode cX11_dropLone 69 = .ok (.imul, 1) := by decide +kernel
theorem dX11_dropLone_70 : decode cX11_dropLone 70 = .ok (.iload_n 3, 1) := by decide +kernel
theorem dX11_dropLone_71 : decode cX11_dropLone 71 = .ok (.iadd, 1) := by decide +kernel
theorem dX11_dropLone_72 : decode cX11_dropLone 72 = .ok (.aload_n 0, 1) := by decide +kernel
theorem dX11_dropLone_73 : decode cX11_dropLone 73 = .ok (.getfield 127, 3) := by decide +kernel
theorem dX11_dropLone_76 : decode cX11_dropLone 76 = .ok (.bipush 60, 2) := by decide +kernel
theorem dX11_dropLone_78 : decode cX11_dropLone 78 = .ok (.iload_n 2, 1) := by decide +kernel
theorem dX11_dropLone_79 : decode cX11_dropLone 79 = .ok (.iconst 1, 1) := by decide +kernel
theorem dX11_dropLone_80 : decode cX11_dropLone 80 = .ok (.iadd, 1) := by decide +kernel
theorem dX11_dropLone_81 : decode cX11_dropLone 81 = .ok (.imul, 1) := by decide +kernel
theorem dX11_dropLone_82 : decode cX11_dropLone 82 = .ok (.iload_n 3, 1) := by decide +kernel
theorem dX11_dropLone_83 : decode cX11_dropLone 83 = .ok (.iadd, 1) := by decide +kernel
theorem dX11_dropLone_84 : decode cX11_dropLone 84 = .ok (.iaload, 1) := by decide +kernel
theorem dX11_dropLone_85 : decode cX11_dropLone 85 = .ok (.iastore, 1) := by decide +kernel
theorem dX11_dropLone_86 : decode cX11_dropLone 86 = .ok (.iinc 3 1, 3) := by decide +kernel
theorem dX11_dropLone_89 : decode cX11_dropLone 89 = .ok (.goto (-33), 3) := by decide +kernel
theorem dX11_dropLone_92 : decode cX11_dropLone 92 = .ok (.iinc 2 1, 3) := by decide +kernel
theorem dX11_dropLone_95 : decode cX11_dropLone 95 = .ok (.goto (-93), 3) := by decide +kernel
theorem dX11_dropLone_98 : decode cX11_dropLone 98 = .ok (.aload_n 0, 1) := by decide +kernel
theorem dX11_dropLone_99 : decode cX11_dropLone 99 = .ok (.dup, 1) := by decide +kernel
theorem dX11_dropLone_100 : decode cX11_dropLone 100 = .ok (.getfield 239, 3) := by decide +kernel
theorem dX11_dropLone_103 : decode cX11_dropLone 103 = .ok (.iconst 1, 1) := by decide +kernel
theorem dX11_dropLone_104 : decode cX11_dropLone 104 = .ok (.isub, 1) := by decide +kernel
theorem dX11_dropLone_105 : decode cX11_dropLone 105 = .ok (.putfield 239, 3) := by decide +kernel
theorem dX11_dropLone_108 : decode cX11_dropLone 108 = .ok (.return_, 1) := by decide +kernel
theorem dX11_keepLone_0 : decode cX11_keepLone 0 = .ok (.aload_n 0, 1) := by decide +kernel
theorem dX11_keepLone_1 : decode cX11_keepLone 1 = .ok (.getfield 239, 3) := by decide +kernel
theorem dX11_keepLone_4 : decode cX11_keepLone 4 = .ok (.bipush 30, 2) := by decide +kernel
theorem dX11_keepLone_6 : decode cX11_keepLone 6 = .ok (.if_icmp .ne 18, 3) := by decide +kernel
theorem dX11_keepLone_9 : decode cX11_keepLone 9 = .ok (.aload_n 0, 1) := by decide +kernel
theorem dX11_keepLone_10 : decode cX11_keepLone 10 = .ok (.iconst 0, 1) := by decide +kernel
theorem dX11_keepLone_11 : decode cX11_keepLone 11 = .ok (.invokevirtual 242, 3) := by decide +kernel
theorem dX11_keepLone_14 : decode cX11_keepLone 14 = .ok (.aload_n 0, 1) := by decide +kernel
theorem dX11_keepLone_15 : decode cX11_keepLone 15 = .ok (.dup, 1) := by decide +kernel
theorem dX11_keepLone_16 : decode cX11_keepLone 16 = .ok (.getfield 245, 3) := by decide +kernel
theorem dX11_keepLone_19 : decode cX11_keepLone 19 = .ok (.iconst 1, 1) := by decide +kernel
theorem dX11_keepLone_20 : decode cX11_keepLone 20 = .ok (.iadd, 1) := by decide +kernel
theorem dX11_keepLone_21 : decode cX11_keepLone 21 = .ok (.putfield 245, 3) := by decide +kernel
theorem dX11_keepLone_24 : decode cX11_keepLone 24 = .ok (.aload_n 0, 1) := by decide +kernel
theorem dX11_keepLone_25 : decode cX11_keepLone 25 = .ok (.getfield 118, 3) := by decide +kernel
theorem dX11_keepLone_28 : decode cX11_keepLone 28 = .ok (.aload_n 0, 1) := by decide +kernel
theorem dX11_keepLone_29 : decode cX11_keepLone 29 = .ok (.getfield 239, 3) := by decide +kernel
theorem dX11_keepLone_32 : decode cX11_keepLone 32 = .ok (.aload_n 0, 1) := by decide +kernel
theorem dX11_keepLone_33 : decode cX11_keepLone 33 = .ok (.getfield 62, 3) := by decide +kernel
theorem dX11_keepLone_36 : decode cX11_keepLone 36 = .ok (.iload_n 1, 1) := by decide +kernel
theorem dX11_keepLone_37 : decode cX11_keepLone 37 = .ok (.iaload, 1) := by decide +kernel
theorem dX11_keepLone_38 : decode cX11_keepLone 38 = .ok (.iastore, 1) := by decide +kernel
theorem dX11_keepLone_39 : decode cX11_keepLone 39 = .ok (.aload_n 0, 1) := by decide +kernel
theorem dX11_keepLone_40 : decode cX11_keepLone 40 = .ok (.getfield 121, 3) := by decide +kernel
theorem dX11_keepLone_43 : decode cX11_keepLone 43 = .ok (.aload_n 0, 1) := by decide +kernel
theorem dX11_keepLone_44 : decode cX11_keepLone 44 = .ok (.getfield 239, 3) := by decide +kernel
theorem dX11_keepLone_47 : decode cX11_keepLone 47 = .ok (.aload_n 0, 1) := by decide +kernel
theorem dX11_keepLone_48 : decode cX11_keepLone 48 = .ok (.getfield 59, 3) := by decide +kernel
theorem dX11_keepLone_51 : decode cX11_keepLone 51 = .ok (.iload_n 1, 1) := by decide +kernel
theorem dX11_keepLone_52 : decode cX11_keepLone 52 = .ok (.iaload, 1) := by decide +kernel
theorem dX11_keepLone_53 : decode cX11_keepLone 53 = .ok (.iastore, 1) := by decide +kernel
theorem dX11_keepLone_54 : decode cX11_keepLone 54 = .ok (.aload_n 0, 1) := by decide +kernel
theorem dX11_keepLone_55 : decode cX11_keepLone 55 = .ok (.getfield 124, 3) := by decide +kernel
theorem dX11_keepLone_58 : decode cX11_keepLone 58 = .ok (.aload_n 0, 1) := by decide +kernel
theorem dX11_keepLone_59 : decode cX11_keepLone 59 = .ok (.getfield 239, 3) := by decide +kernel
theorem dX11_keepLone_62 : decode cX11_keepLone 62 = .ok (.aload_n 0, 1) := by decide +kernel
theorem dX11_keepLone_63 : decode cX11_keepLone 63 = .ok (.getfield 89, 3) := by decide +kernel
theorem dX11_keepLone_66 : decode cX11_keepLone 66 = .ok (.iload_n 1, 1) := by decide +kernel
theorem dX11_keepLone_67 : decode cX11_keepLone 67 = .ok (.iaload, 1) := by decide +kernel
theorem dX11_keepLone_68 : decode cX11_keepLone 68 = .ok (.iastore, 1) := by decide +kernel
theorem dX11_keepLone_69 : decode cX11_keepLone 69 = .ok (.iconst 0, 1) := by decide +kernel
theorem dX11_keepLone_70 : decode cX11_keepLone 70 = .ok (.istore_n 2, 1) := by decide +kernel
theorem dX11_keepLone_71 : decode cX11_keepLone 71 = .ok (.iload_n 2, 1) := by decide +kernel
theorem dX11_keepLone_72 : decode cX11_keepLone 72 = .ok (.aload_n 0, 1) := by decide +kernel
theorem dX11_keepLone_73 : decode cX11_keepLone 73 = .ok (.getfield 89, 3) := by decide +kernel
theorem dX11_keepLone_76 : decode cX11_keepLone 76 = .ok (.iload_n 1, 1) := by decide +kernel
theorem dX11_keepLone_77 : decode cX11_keepLone 77 = .ok (.iaload, 1) := by decide +kernel
theorem dX11_keepLone_78 : decode cX11_keepLone 78 = .ok (.if_icmp .ge 34, 3) := by decide +kernel
theorem dX11_keepLone_81 : decode cX11_keepLone 81 = .ok (.aload_n 0, 1) := by decide +kernel
theorem dX11_keepLone_82 : decode cX11_keepLone 82 = .ok (.getfield 127, 3) := by decide +kernel
theorem dX11_keepLone_85 : decode cX11_keepLone 85 = .ok (.bipush 60, 2) := by decide +kernel
theorem dX11_keepLone_87 : decode cX11_keepLone 87 = .ok (.aload_n 0, 1) := by decide +kernel
theorem dX11_keepLone_88 : decode cX11_keepLone 88 = .ok (.getfield 239, 3) := by decide +kernel
theorem dX11_keepLone_91 : decode cX11_keepLone 91 = .ok (.imul, 1) := by decide +kernel
theorem dX11_keepLone_92 : decode cX11_keepLone 92 = .ok (.iload_n 2, 1) := by decide +kernel
theorem dX11_keepLone_93 : decode cX11_keepLone 93 = .ok (.iadd, 1) := by decide +kernel
theorem dX11_keepLone_94 : decode cX11_keepLone 94 = .ok (.aload_n 0, 1) := by decide +kernel
theorem dX11_keepLone_95 : decode cX11_keepLone 95 = .ok (.getfield 92, 3) := by decide +kernel
theorem dX11_keepLone_98 : decode cX11_keepLone 98 = .ok (.bipush 60, 2) := by decide +kernel
theorem dX11_keepLone_100 : decode cX11_keepLone 100 = .ok (.iload_n 1, 1) := by decide +kernel
theorem dX11_keepLone_101 : decode cX11_keepLone 101 = .ok (.imul, 1) := by decide +kernel
theorem dX11_keepLone_102 : decode cX11_keepLone 102 = .ok (.iload_n 2, 1) := by decide +kernel
theorem dX11_keepLone_103 : decode cX11_keepLone 103 = .ok (.iadd, 1) := by decide +kernel
theorem dX11_keepLone_104 : decode cX11_keepLone 104 = .ok (.iaload, 1) := by decide +kernel
theorem dX11_keepLone_105 : decode cX11_keepLone 105 = .ok (.iastore, 1) := by decide +kernel
theorem dX11_keepLone_106 : decode cX11_keepLone 106 = .ok (.iinc 2 1, 3) := by decide +kernel
theorem dX11_keepLone_109 : decode cX11_keepLone 109 = .ok (.goto (-38), 3) := by decide +kernel
theorem dX11_keepLone_112 : decode cX11_keepLone 112 = .ok (.aload_n 0, 1) := by decide +kernel
theorem dX11_keepLone_113 : decode cX11_keepLone 113 = .ok (.dup, 1) := by decide +kernel
theorem dX11_keepLone_114 : decode cX11_keepLone 114 = .ok (.getfield 239, 3) := by decide +kernel
theorem dX11_keepLone_117 : decode cX11_keepLone 117 = .ok (.iconst 1, 1) := by decide +kernel
theorem dX11_keepLone_118 : decode cX11_keepLone 118 = .ok (.iadd, 1) := by decide +kernel
theorem dX11_keepLone_119 : decode cX11_keepLone 119 = .ok (.putfield 239, 3) := by decide +kernel
theorem dX11_keepLone_122 : decode cX11_keepLone 122 = .ok (.return_, 1) := by decide +kernel
theorem dX11_turn_0 : decode cX11_turn 0 = .ok (.aload_n 0, 1) := by decide +kernel
theorem dX11_turn_1 : decode cX11_turn 1 = .ok (.invokevirtual 248, 3) := by decide +kernel
theorem dX11_turn_4 : decode cX11_turn 4 = .ok (.pop, 1) := by decide +kernel
theorem dX11_turn_5 : decode cX11_turn 5 = .ok (.iconst 0, 1) := by decide +kernel
theorem dX11_turn_6 : decode cX11_turn 6 = .ok (.istore_n 1, 1) := by decide +kernel
theorem dX11_turn_7 : decode cX11_turn 7 = .ok (.iload_n 1, 1) := by decide +kernel
theorem dX11_turn_8 : decode cX11_turn 8 = .ok (.aload_n 0, 1) := by decide +kernel
theorem dX11_turn_9 : decode cX11_turn 9 = .ok (.getfield 56, 3) := by decide +kernel
theorem dX11_turn_12 : decode cX11_turn 12 = .ok (.iconst 0, 1) := by decide +kernel
theorem dX11_turn_13 : decode cX11_turn 13 = .ok (.iaload, 1) := by decide +kernel
theorem dX11_turn_14 : decode cX11_turn 14 = .ok (.if_icmp .ge 44, 3) := by decide +kernel
