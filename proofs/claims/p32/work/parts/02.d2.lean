theorem dX12_line_196 : decode cX12_line 196 = .ok (.getfield 37, 3) := by decide +kernel
theorem dX12_line_199 : decode cX12_line 199 = .ok (.bipush 8, 2) := by decide +kernel
theorem dX12_line_201 : decode cX12_line 201 = .ok (.iload_n 1, 1) := by decide +kernel
theorem dX12_line_202 : decode cX12_line 202 = .ok (.iadd, 1) := by decide +kernel
theorem dX12_line_203 : decode cX12_line 203 = .ok (.iaload, 1) := by decide +kernel
theorem dX12_line_204 : decode cX12_line 204 = .ok (.aload_n 0, 1) := by decide +kernel
theorem dX12_line_205 : decode cX12_line 205 = .ok (.getfield 191, 3) := by decide +kernel
theorem dX12_line_208 : decode cX12_line 208 = .ok (.invokestatic 223, 3) := by decide +kernel
theorem dX12_line_211 : decode cX12_line 211 = .ok (.ifCond .eq 9, 3) := by decide +kernel
theorem dX12_line_214 : decode cX12_line 214 = .ok (.aload_n 0, 1) := by decide +kernel
theorem dX12_line_215 : decode cX12_line 215 = .ok (.iconst 3, 1) := by decide +kernel
theorem dX12_line_216 : decode cX12_line 216 = .ok (.invokevirtual 181, 3) := by decide +kernel
theorem dX12_line_219 : decode cX12_line 219 = .ok (.ireturn, 1) := by decide +kernel
theorem dX12_line_220 : decode cX12_line 220 = .ok (.aload_n 0, 1) := by decide +kernel
theorem dX12_line_221 : decode cX12_line 221 = .ok (.getfield 37, 3) := by decide +kernel
theorem dX12_line_224 : decode cX12_line 224 = .ok (.bipush 8, 2) := by decide +kernel
theorem dX12_line_226 : decode cX12_line 226 = .ok (.iload_n 1, 1) := by decide +kernel
theorem dX12_line_227 : decode cX12_line 227 = .ok (.iadd, 1) := by decide +kernel
theorem dX12_line_228 : decode cX12_line 228 = .ok (.dup2, 1) := by decide +kernel
theorem dX12_line_229 : decode cX12_line 229 = .ok (.iaload, 1) := by decide +kernel
theorem dX12_line_230 : decode cX12_line 230 = .ok (.iconst 1, 1) := by decide +kernel
theorem dX12_line_231 : decode cX12_line 231 = .ok (.aload_n 0, 1) := by decide +kernel
theorem dX12_line_232 : decode cX12_line 232 = .ok (.getfield 191, 3) := by decide +kernel
theorem dX12_line_235 : decode cX12_line 235 = .ok (.ishl, 1) := by decide +kernel
theorem dX12_line_236 : decode cX12_line 236 = .ok (.ior, 1) := by decide +kernel
theorem dX12_line_237 : decode cX12_line 237 = .ok (.iastore, 1) := by decide +kernel
theorem dX12_line_238 : decode cX12_line 238 = .ok (.aload_n 0, 1) := by decide +kernel
theorem dX12_line_239 : decode cX12_line 239 = .ok (.getfield 37, 3) := by decide +kernel
theorem dX12_line_242 : decode cX12_line 242 = .ok (.bipush 8, 2) := by decide +kernel
theorem dX12_line_244 : decode cX12_line 244 = .ok (.aload_n 0, 1) := by decide +kernel
theorem dX12_line_245 : decode cX12_line 245 = .ok (.getfield 191, 3) := by decide +kernel
theorem dX12_line_248 : decode cX12_line 248 = .ok (.iadd, 1) := by decide +kernel
theorem dX12_line_249 : decode cX12_line 249 = .ok (.dup2, 1) := by decide +kernel
theorem dX12_line_250 : decode cX12_line 250 = .ok (.iaload, 1) := by decide +kernel
theorem dX12_line_251 : decode cX12_line 251 = .ok (.iconst 1, 1) := by decide +kernel
theorem dX12_line_252 : decode cX12_line 252 = .ok (.iload_n 1, 1) := by decide +kernel
theorem dX12_line_253 : decode cX12_line 253 = .ok (.ishl, 1) := by decide +kernel
theorem dX12_line_254 : decode cX12_line 254 = .ok (.ior, 1) := by decide +kernel
theorem dX12_line_255 : decode cX12_line 255 = .ok (.iastore, 1) := by decide +kernel
theorem dX12_line_256 : decode cX12_line 256 = .ok (.aload_n 0, 1) := by decide +kernel
theorem dX12_line_257 : decode cX12_line 257 = .ok (.getfield 37, 3) := by decide +kernel
theorem dX12_line_260 : decode cX12_line 260 = .ok (.iconst 2, 1) := by decide +kernel
theorem dX12_line_261 : decode cX12_line 261 = .ok (.dup2, 1) := by decide +kernel
theorem dX12_line_262 : decode cX12_line 262 = .ok (.iaload, 1) := by decide +kernel
theorem dX12_line_263 : decode cX12_line 263 = .ok (.iconst 1, 1) := by decide +kernel
theorem dX12_line_264 : decode cX12_line 264 = .ok (.iadd, 1) := by decide +kernel
theorem dX12_line_265 : decode cX12_line 265 = .ok (.iastore, 1) := by decide +kernel
theorem dX12_line_266 : decode cX12_line 266 = .ok (.aload_n 0, 1) := by decide +kernel
theorem dX12_line_267 : decode cX12_line 267 = .ok (.invokevirtual 184, 3) := by decide +kernel
theorem dX12_line_270 : decode cX12_line 270 = .ok (.iconst 1, 1) := by decide +kernel
theorem dX12_line_271 : decode cX12_line 271 = .ok (.ireturn, 1) := by decide +kernel
theorem dX12_line_272 : decode cX12_line 272 = .ok (.aload_n 0, 1) := by decide +kernel
theorem dX12_line_273 : decode cX12_line 273 = .ok (.ldc2_w 97, 3) := by decide +kernel
theorem dX12_line_276 : decode cX12_line 276 = .ok (.invokevirtual 206, 3) := by decide +kernel
theorem dX12_line_279 : decode cX12_line 279 = .ok (.ifCond .eq 71, 3) := by decide +kernel
theorem dX12_line_282 : decode cX12_line 282 = .ok (.aload_n 0, 1) := by decide +kernel
theorem dX12_line_283 : decode cX12_line 283 = .ok (.getfield 37, 3) := by decide +kernel
theorem dX12_line_286 : decode cX12_line 286 = .ok (.iconst 3, 1) := by decide +kernel
theorem dX12_line_287 : decode cX12_line 287 = .ok (.iaload, 1) := by decide +kernel
theorem dX12_line_288 : decode cX12_line 288 = .ok (.bipush 6, 2) := by decide +kernel
theorem dX12_line_290 : decode cX12_line 290 = .ok (.if_icmp .ne 9, 3) := by decide +kernel
theorem dX12_line_293 : decode cX12_line 293 = .ok (.aload_n 0, 1) := by decide +kernel
theorem dX12_line_294 : decode cX12_line 294 = .ok (.iconst 4, 1) := by decide +kernel
theorem dX12_line_295 : decode cX12_line 295 = .ok (.invokevirtual 181, 3) := by decide +kernel
theorem dX12_line_298 : decode cX12_line 298 = .ok (.ireturn, 1) := by decide +kernel
theorem dX12_line_299 : decode cX12_line 299 = .ok (.aload_n 0, 1) := by decide +kernel
theorem dX12_line_300 : decode cX12_line 300 = .ok (.invokevirtual 184, 3) := by decide +kernel
theorem dX12_line_303 : decode cX12_line 303 = .ok (.aload_n 0, 1) := by decide +kernel
theorem dX12_line_304 : decode cX12_line 304 = .ok (.bipush 26, 2) := by decide +kernel
theorem dX12_line_306 : decode cX12_line 306 = .ok (.aload_n 0, 1) := by decide +kernel
theorem dX12_line_307 : decode cX12_line 307 = .ok (.getfield 37, 3) := by decide +kernel
theorem dX12_line_310 : decode cX12_line 310 = .ok (.iconst 1, 1) := by decide +kernel
theorem dX12_line_311 : decode cX12_line 311 = .ok (.iaload, 1) := by decide +kernel
theorem dX12_line_312 : decode cX12_line 312 = .ok (.invokevirtual 220, 3) := by decide +kernel
theorem dX12_line_315 : decode cX12_line 315 = .ok (.ifCond .ne 5, 3) := by decide +kernel
theorem dX12_line_318 : decode cX12_line 318 = .ok (.iconst 0, 1) := by decide +kernel
theorem dX12_line_319 : decode cX12_line 319 = .ok (.ireturn, 1) := by decide +kernel
theorem dX12_line_320 : decode cX12_line 320 = .ok (.aload_n 0, 1) := by decide +kernel
theorem dX12_line_321 : decode cX12_line 321 = .ok (.getfield 37, 3) := by decide +kernel
theorem dX12_line_324 : decode cX12_line 324 = .ok (.bipush 16, 2) := by decide +kernel
theorem dX12_line_326 : decode cX12_line 326 = .ok (.aload_n 0, 1) := by decide +kernel
theorem dX12_line_327 : decode cX12_line 327 = .ok (.getfield 37, 3) := by decide +kernel
theorem dX12_line_330 : decode cX12_line 330 = .ok (.iconst 3, 1) := by decide +kernel
theorem dX12_line_331 : decode cX12_line 331 = .ok (.iaload, 1) := by decide +kernel
theorem dX12_line_332 : decode cX12_line 332 = .ok (.iadd, 1) := by decide +kernel
theorem dX12_line_333 : decode cX12_line 333 = .ok (.aload_n 0, 1) := by decide +kernel
theorem dX12_line_334 : decode cX12_line 334 = .ok (.getfield 191, 3) := by decide +kernel
theorem dX12_line_337 : decode cX12_line 337 = .ok (.iastore, 1) := by decide +kernel
theorem dX12_line_338 : decode cX12_line 338 = .ok (.aload_n 0, 1) := by decide +kernel
theorem dX12_line_339 : decode cX12_line 339 = .ok (.getfield 37, 3) := by decide +kernel
theorem dX12_line_342 : decode cX12_line 342 = .ok (.iconst 3, 1) := by decide +kernel
theorem dX12_line_343 : decode cX12_line 343 = .ok (.dup2, 1) := by decide +kernel
theorem dX12_line_344 : decode cX12_line 344 = .ok (.iaload, 1) := by decide +kernel
theorem dX12_line_345 : decode cX12_line 345 = .ok (.iconst 1, 1) := by decide +kernel
theorem dX12_line_346 : decode cX12_line 346 = .ok (.iadd, 1) := by decide +kernel
theorem dX12_line_347 : decode cX12_line 347 = .ok (.iastore, 1) := by decide +kernel
theorem dX12_line_348 : decode cX12_line 348 = .ok (.iconst 1, 1) := by decide +kernel
theorem dX12_line_349 : decode cX12_line 349 = .ok (.ireturn, 1) := by decide +kernel
theorem dX12_line_350 : decode cX12_line 350 = .ok (.aload_n 0, 1) := by decide +kernel
theorem dX12_line_351 : decode cX12_line 351 = .ok (.ldc2_w 99, 3) := by decide +kernel
theorem dX12_line_354 : decode cX12_line 354 = .ok (.invokevirtual 206, 3) := by decide +kernel
theorem dX12_line_357 : decode cX12_line 357 = .ok (.ifCond .eq 86, 3) := by decide +kernel
theorem dX12_line_360 : decode cX12_line 360 = .ok (.aload_n 0, 1) := by decide +kernel
theorem dX12_line_361 : decode cX12_line 361 = .ok (.getfield 37, 3) := by decide +kernel
theorem dX12_line_364 : decode cX12_line 364 = .ok (.iconst 4, 1) := by decide +kernel
theorem dX12_line_365 : decode cX12_line 365 = .ok (.iaload, 1) := by decide +kernel
theorem dX12_line_366 : decode cX12_line 366 = .ok (.iconst 4, 1) := by decide +kernel
theorem dX12_line_367 : decode cX12_line 367 = .ok (.if_icmp .ne 9, 3) := by decide +kernel
theorem dX12_line_370 : decode cX12_line 370 = .ok (.aload_n 0, 1) := by decide +kernel
theorem dX12_line_371 : decode cX12_line 371 = .ok (.iconst 4, 1) := by decide +kernel
theorem dX12_line_372 : decode cX12_line 372 = .ok (.invokevirtual 181, 3) := by decide +kernel
theorem dX12_line_375 : decode cX12_line 375 = .ok (.ireturn, 1) := by decide +kernel
theorem dX12_line_376 : decode cX12_line 376 = .ok (.aload_n 0, 1) := by decide +kernel
theorem dX12_line_377 : decode cX12_line 377 = .ok (.invokevirtual 184, 3) := by decide +kernel
theorem dX12_line_380 : decode cX12_line 380 = .ok (.aload_n 0, 1) := by decide +kernel
theorem dX12_line_381 : decode cX12_line 381 = .ok (.bipush 34, 2) := by decide +kernel
theorem dX12_line_383 : decode cX12_line 383 = .ok (.aload_n 0, 1) := by decide +kernel
theorem dX12_line_384 : decode cX12_line 384 = .ok (.getfield 37, 3) := by decide +kernel
theorem dX12_line_387 : decode cX12_line 387 = .ok (.iconst 4, 1) := by decide +kernel
theorem dX12_line_388 : decode cX12_line 388 = .ok (.iaload, 1) := by decide +kernel
theorem dX12_line_389 : decode cX12_line 389 = .ok (.iadd, 1) := by decide +kernel
theorem dX12_line_390 : decode cX12_line 390 = .ok (.invokevirtual 217, 3) := by decide +kernel
theorem dX12_line_393 : decode cX12_line 393 = .ok (.ifCond .eq 18, 3) := by decide +kernel
theorem dX12_line_396 : decode cX12_line 396 = .ok (.aload_n 0, 1) := by decide +kernel
theorem dX12_line_397 : decode cX12_line 397 = .ok (.bipush 26, 2) := by decide +kernel
theorem dX12_line_399 : decode cX12_line 399 = .ok (.aload_n 0, 1) := by decide +kernel
theorem dX12_line_400 : decode cX12_line 400 = .ok (.getfield 37, 3) := by decide +kernel
theorem dX12_line_403 : decode cX12_line 403 = .ok (.iconst 1, 1) := by decide +kernel
theorem dX12_line_404 : decode cX12_line 404 = .ok (.iaload, 1) := by decide +kernel
theorem dX12_line_405 : decode cX12_line 405 = .ok (.invokevirtual 220, 3) := by decide +kernel
theorem dX12_line_408 : decode cX12_line 408 = .ok (.ifCond .ne 5, 3) := by decide +kernel
theorem dX12_line_411 : decode cX12_line 411 = .ok (.iconst 0, 1) := by decide +kernel
theorem dX12_line_412 : decode cX12_line 412 = .ok (.ireturn, 1) := by decide +kernel
theorem dX12_line_413 : decode cX12_line 413 = .ok (.aload_n 0, 1) := by decide +kernel
theorem dX12_line_414 : decode cX12_line 414 = .ok (.getfield 37, 3) := by decide +kernel
theorem dX12_line_417 : decode cX12_line 417 = .ok (.bipush 22, 2) := by decide +kernel
theorem dX12_line_419 : decode cX12_line 419 = .ok (.aload_n 0, 1) := by decide +kernel
theorem dX12_line_420 : decode cX12_line 420 = .ok (.getfield 37, 3) := by decide +kernel
theorem dX12_line_423 : decode cX12_line 423 = .ok (.iconst 4, 1) := by decide +kernel
theorem dX12_line_424 : decode cX12_line 424 = .ok (.iaload, 1) := by decide +kernel
theorem dX12_line_425 : decode cX12_line 425 = .ok (.iadd, 1) := by decide +kernel
theorem dX12_line_426 : decode cX12_line 426 = .ok (.aload_n 0, 1) := by decide +kernel
theorem dX12_line_427 : decode cX12_line 427 = .ok (.getfield 191, 3) := by decide +kernel
theorem dX12_line_430 : decode cX12_line 430 = .ok (.iastore, 1) := by decide +kernel
theorem dX12_line_431 : decode cX12_line 431 = .ok (.aload_n 0, 1) := by decide +kernel
theorem dX12_line_432 : decode cX12_line 432 = .ok (.getfield 37, 3) := by decide +kernel
theorem dX12_line_435 : decode cX12_line 435 = .ok (.iconst 4, 1) := by decide +kernel
theorem dX12_line_436 : decode cX12_line 436 = .ok (.dup2, 1) := by decide +kernel
theorem dX12_line_437 : decode cX12_line 437 = .ok (.iaload, 1) := by decide +kernel
theorem dX12_line_438 : decode cX12_line 438 = .ok (.iconst 1, 1) := by decide +kernel
theorem dX12_line_439 : decode cX12_line 439 = .ok (.iadd, 1) := by decide +kernel
theorem dX12_line_440 : decode cX12_line 440 = .ok (.iastore, 1) := by decide +kernel
theorem dX12_line_441 : decode cX12_line 441 = .ok (.iconst 1, 1) := by decide +kernel
theorem dX12_line_442 : decode cX12_line 442 = .ok (.ireturn, 1) := by decide +kernel
theorem dX12_line_443 : decode cX12_line 443 = .ok (.aload_n 0, 1) := by decide +kernel
theorem dX12_line_444 : decode cX12_line 444 = .ok (.ldc2_w 101, 3) := by decide +kernel
theorem dX12_line_447 : decode cX12_line 447 = .ok (.invokevirtual 206, 3) := by decide +kernel
theorem dX12_line_450 : decode cX12_line 450 = .ok (.ifCond .eq 54, 3) := by decide +kernel
theorem dX12_line_453 : decode cX12_line 453 = .ok (.aload_n 0, 1) := by decide +kernel
theorem dX12_line_454 : decode cX12_line 454 = .ok (.getfield 37, 3) := by decide +kernel
theorem dX12_line_457 : decode cX12_line 457 = .ok (.iconst 5, 1) := by decide +kernel
theorem dX12_line_458 : decode cX12_line 458 = .ok (.iaload, 1) := by decide +kernel
theorem dX12_line_459 : decode cX12_line 459 = .ok (.bipush 6, 2) := by decide +kernel
theorem dX12_line_461 : decode cX12_line 461 = .ok (.if_icmp .ne 9, 3) := by decide +kernel
theorem dX12_line_464 : decode cX12_line 464 = .ok (.aload_n 0, 1) := by decide +kernel
theorem dX12_line_465 : decode cX12_line 465 = .ok (.iconst 4, 1) := by decide +kernel
theorem dX12_line_466 : decode cX12_line 466 = .ok (.invokevirtual 181, 3) := by decide +kernel
theorem dX12_line_469 : decode cX12_line 469 = .ok (.ireturn, 1) := by decide +kernel
theorem dX12_line_470 : decode cX12_line 470 = .ok (.aload_n 0, 1) := by decide +kernel
theorem dX12_line_471 : decode cX12_line 471 = .ok (.invokevirtual 184, 3) := by decide +kernel
theorem dX12_line_474 : decode cX12_line 474 = .ok (.aload_n 0, 1) := by decide +kernel
theorem dX12_line_475 : decode cX12_line 475 = .ok (.bipush 38, 2) := by decide +kernel
theorem dX12_line_477 : decode cX12_line 477 = .ok (.aload_n 0, 1) := by decide +kernel
theorem dX12_line_478 : decode cX12_line 478 = .ok (.getfield 37, 3) := by decide +kernel
theorem dX12_line_481 : decode cX12_line 481 = .ok (.iconst 5, 1) := by decide +kernel
theorem dX12_line_482 : decode cX12_line 482 = .ok (.iaload, 1) := by decide +kernel
theorem dX12_line_483 : decode cX12_line 483 = .ok (.iadd, 1) := by decide +kernel
theorem dX12_line_484 : decode cX12_line 484 = .ok (.invokevirtual 217, 3) := by decide +kernel
theorem dX12_line_487 : decode cX12_line 487 = .ok (.ifCond .ne 5, 3) := by decide +kernel
theorem dX12_line_490 : decode cX12_line 490 = .ok (.iconst 0, 1) := by decide +kernel
theorem dX12_line_491 : decode cX12_line 491 = .ok (.ireturn, 1) := by decide +kernel
theorem dX12_line_492 : decode cX12_line 492 = .ok (.aload_n 0, 1) := by decide +kernel
theorem dX12_line_493 : decode cX12_line 493 = .ok (.getfield 37, 3) := by decide +kernel
theorem dX12_line_496 : decode cX12_line 496 = .ok (.iconst 5, 1) := by decide +kernel
theorem dX12_line_497 : decode cX12_line 497 = .ok (.dup2, 1) := by decide +kernel
theorem dX12_line_498 : decode cX12_line 498 = .ok (.iaload, 1) := by decide +kernel
theorem dX12_line_499 : decode cX12_line 499 = .ok (.iconst 1, 1) := by decide +kernel
theorem dX12_line_500 : decode cX12_line 500 = .ok (.iadd, 1) := by decide +kernel
theorem dX12_line_501 : decode cX12_line 501 = .ok (.iastore, 1) := by decide +kernel
theorem dX12_line_502 : decode cX12_line 502 = .ok (.iconst 1, 1) := by decide +kernel
theorem dX12_line_503 : decode cX12_line 503 = .ok (.ireturn, 1) := by decide +kernel
theorem dX12_line_504 : decode cX12_line 504 = .ok (.aload_n 0, 1) := by decide +kernel
theorem dX12_line_505 : decode cX12_line 505 = .ok (.ldc2_w 103, 3) := by decide +kernel
theorem dX12_line_508 : decode cX12_line 508 = .ok (.invokevirtual 206, 3) := by decide +kernel
theorem dX12_line_511 : decode cX12_line 511 = .ok (.ifCond .eq 8, 3) := by decide +kernel
theorem dX12_line_514 : decode cX12_line 514 = .ok (.aload_n 0, 1) := by decide +kernel
theorem dX12_line_515 : decode cX12_line 515 = .ok (.invokevirtual 226, 3) := by decide +kernel
theorem dX12_line_518 : decode cX12_line 518 = .ok (.ireturn, 1) := by decide +kernel
theorem dX12_line_519 : decode cX12_line 519 = .ok (.aload_n 0, 1) := by decide +kernel
theorem dX12_line_520 : decode cX12_line 520 = .ok (.ldc2_w 105, 3) := by decide +kernel
theorem dX12_line_523 : decode cX12_line 523 = .ok (.invokevirtual 206, 3) := by decide +kernel
theorem dX12_line_526 : decode cX12_line 526 = .ok (.ifCond .ne 9, 3) := by decide +kernel
theorem dX12_line_529 : decode cX12_line 529 = .ok (.aload_n 0, 1) := by decide +kernel
theorem dX12_line_530 : decode cX12_line 530 = .ok (.iconst 1, 1) := by decide +kernel
theorem dX12_line_531 : decode cX12_line 531 = .ok (.invokevirtual 181, 3) := by decide +kernel
theorem dX12_line_534 : decode cX12_line 534 = .ok (.ireturn, 1) := by decide +kernel
theorem dX12_line_535 : decode cX12_line 535 = .ok (.aload_n 0, 1) := by decide +kernel
theorem dX12_line_536 : decode cX12_line 536 = .ok (.getfield 37, 3) := by decide +kernel
theorem dX12_line_539 : decode cX12_line 539 = .ok (.bipush 7, 2) := by decide +kernel
theorem dX12_line_541 : decode cX12_line 541 = .ok (.iaload, 1) := by decide +kernel
theorem dX12_line_542 : decode cX12_line 542 = .ok (.bipush 8, 2) := by decide +kernel
theorem dX12_line_544 : decode cX12_line 544 = .ok (.if_icmp .ne 9, 3) := by decide +kernel
theorem dX12_line_547 : decode cX12_line 547 = .ok (.aload_n 0, 1) := by decide +kernel
theorem dX12_line_548 : decode cX12_line 548 = .ok (.iconst 4, 1) := by decide +kernel
theorem dX12_line_549 : decode cX12_line 549 = .ok (.invokevirtual 181, 3) := by decide +kernel
theorem dX12_line_552 : decode cX12_line 552 = .ok (.ireturn, 1) := by decide +kernel
theorem dX12_line_553 : decode cX12_line 553 = .ok (.aload_n 0, 1) := by decide +kernel
theorem dX12_line_554 : decode cX12_line 554 = .ok (.invokevirtual 184, 3) := by decide +kernel
theorem dX12_line_557 : decode cX12_line 557 = .ok (.aload_n 0, 1) := by decide +kernel
theorem dX12_line_558 : decode cX12_line 558 = .ok (.bipush 44, 2) := by decide +kernel
theorem dX12_line_560 : decode cX12_line 560 = .ok (.aload_n 0, 1) := by decide +kernel
theorem dX12_line_561 : decode cX12_line 561 = .ok (.getfield 37, 3) := by decide +kernel
theorem dX12_line_564 : decode cX12_line 564 = .ok (.bipush 6, 2) := by decide +kernel
theorem dX12_line_566 : decode cX12_line 566 = .ok (.iaload, 1) := by decide +kernel
theorem dX12_line_567 : decode cX12_line 567 = .ok (.invokevirtual 220, 3) := by decide +kernel
theorem dX12_line_570 : decode cX12_line 570 = .ok (.ifCond .ne 5, 3) := by decide +kernel
theorem dX12_line_573 : decode cX12_line 573 = .ok (.iconst 0, 1) := by decide +kernel
theorem dX12_line_574 : decode cX12_line 574 = .ok (.ireturn, 1) := by decide +kernel
theorem dX12_line_575 : decode cX12_line 575 = .ok (.aload_n 0, 1) := by decide +kernel
theorem dX12_line_576 : decode cX12_line 576 = .ok (.getfield 191, 3) := by decide +kernel
theorem dX12_line_579 : decode cX12_line 579 = .ok (.istore_n 1, 1) := by decide +kernel
theorem dX12_line_580 : decode cX12_line 580 = .ok (.aload_n 0, 1) := by decide +kernel
theorem dX12_line_581 : decode cX12_line 581 = .ok (.bipush 44, 2) := by decide +kernel
theorem dX12_line_583 : decode cX12_line 583 = .ok (.aload_n 0, 1) := by decide +kernel
theorem dX12_line_584 : decode cX12_line 584 = .ok (.getfield 37, 3) := by decide +kernel
theorem dX12_line_587 : decode cX12_line 587 = .ok (.bipush 6, 2) := by decide +kernel
theorem dX12_line_589 : decode cX12_line 589 = .ok (.iaload, 1) := by decide +kernel
theorem dX12_line_590 : decode cX12_line 590 = .ok (.invokevirtual 202, 3) := by decide +kernel
theorem dX12_line_593 : decode cX12_line 593 = .ok (.ifCond .ne 5, 3) := by decide +kernel
theorem dX12_line_596 : decode cX12_line 596 = .ok (.iconst 0, 1) := by decide +kernel
theorem dX12_line_597 : decode cX12_line 597 = .ok (.ireturn, 1) := by decide +kernel
theorem dX12_line_598 : decode cX12_line 598 = .ok (.iload_n 1, 1) := by decide +kernel
theorem dX12_line_599 : decode cX12_line 599 = .ok (.aload_n 0, 1) := by decide +kernel
theorem dX12_line_600 : decode cX12_line 600 = .ok (.getfield 191, 3) := by decide +kernel
theorem dX12_line_603 : decode cX12_line 603 = .ok (.if_icmp .eq 7, 3) := by decide +kernel
theorem dX12_line_606 : decode cX12_line 606 = .ok (.iconst 1, 1) := by decide +kernel
theorem dX12_line_607 : decode cX12_line 607 = .ok (.goto 4, 3) := by decide +kernel
theorem dX12_line_610 : decode cX12_line 610 = .ok (.iconst 0, 1) := by decide +kernel
theorem dX12_line_611 : decode cX12_line 611 = .ok (.istore_n 2, 1) := by decide +kernel
theorem dX12_line_612 : decode cX12_line 612 = .ok (.iconst 0, 1) := by decide +kernel
theorem dX12_line_613 : decode cX12_line 613 = .ok (.istore_n 3, 1) := by decide +kernel
theorem dX12_line_614 : decode cX12_line 614 = .ok (.iload_n 3, 1) := by decide +kernel
theorem dX12_line_615 : decode cX12_line 615 = .ok (.aload_n 0, 1) := by decide +kernel
theorem dX12_line_616 : decode cX12_line 616 = .ok (.getfield 37, 3) := by decide +kernel
theorem dX12_line_619 : decode cX12_line 619 = .ok (.bipush 7, 2) := by decide +kernel
theorem dX12_line_621 : decode cX12_line 621 = .ok (.iaload, 1) := by decide +kernel
theorem dX12_line_622 : decode cX12_line 622 = .ok (.if_icmp .ge 48, 3) := by decide +kernel
theorem dX12_line_625 : decode cX12_line 625 = .ok (.iload_n 2, 1) := by decide +kernel
theorem dX12_line_626 : decode cX12_line 626 = .ok (.ifCond .eq 36, 3) := by decide +kernel
theorem dX12_line_629 : decode cX12_line 629 = .ok (.aload_n 0, 1) := by decide +kernel
theorem dX12_line_630 : decode cX12_line 630 = .ok (.getfield 37, 3) := by decide +kernel
theorem dX12_line_633 : decode cX12_line 633 = .ok (.bipush 90, 2) := by decide +kernel
theorem dX12_line_635 : decode cX12_line 635 = .ok (.iload_n 3, 1) := by decide +kernel
theorem dX12_line_636 : decode cX12_line 636 = .ok (.iadd, 1) := by decide +kernel
theorem dX12_line_637 : decode cX12_line 637 = .ok (.iaload, 1) := by decide +kernel
theorem dX12_line_638 : decode cX12_line 638 = .ok (.iload_n 1, 1) := by decide +kernel
theorem dX12_line_639 : decode cX12_line 639 = .ok (.if_icmp .ne 19, 3) := by decide +kernel
theorem dX12_line_642 : decode cX12_line 642 = .ok (.aload_n 0, 1) := by decide +kernel
theorem dX12_line_643 : decode cX12_line 643 = .ok (.getfield 37, 3) := by decide +kernel
theorem dX12_line_646 : decode cX12_line 646 = .ok (.bipush 98, 2) := by decide +kernel
theorem dX12_line_648 : decode cX12_line 648 = .ok (.iload_n 3, 1) := by decide +kernel
theorem dX12_line_649 : decode cX12_line 649 = .ok (.iadd, 1) := by decide +kernel
theorem dX12_line_650 : decode cX12_line 650 = .ok (.iaload, 1) := by decide +kernel
theorem dX12_line_651 : decode cX12_line 651 = .ok (.aload_n 0, 1) := by decide +kernel
theorem dX12_line_652 : decode cX12_line 652 = .ok (.getfield 191, 3) := by decide +kernel
theorem dX12_line_655 : decode cX12_line 655 = .ok (.if_icmp .eq 7, 3) := by decide +kernel
theorem dX12_line_658 : decode cX12_line 658 = .ok (.iconst 1, 1) := by decide +kernel
theorem dX12_line_659 : decode cX12_line 659 = .ok (.goto 4, 3) := by decide +kernel
theorem dX12_line_662 : decode cX12_line 662 = .ok (.iconst 0, 1) := by decide +kernel
theorem dX12_line_663 : decode cX12_line 663 = .ok (.istore_n 2, 1) := by decide +kernel
theorem dX12_line_664 : decode cX12_line 664 = .ok (.iinc 3 1, 3) := by decide +kernel
theorem dX12_line_667 : decode cX12_line 667 = .ok (.goto (-53), 3) := by decide +kernel
theorem dX12_line_670 : decode cX12_line 670 = .ok (.iload_n 2, 1) := by decide +kernel
theorem dX12_line_671 : decode cX12_line 671 = .ok (.ifCond .ne 9, 3) := by decide +kernel
theorem dX12_line_674 : decode cX12_line 674 = .ok (.aload_n 0, 1) := by decide +kernel
theorem dX12_line_675 : decode cX12_line 675 = .ok (.iconst 3, 1) := by decide +kernel
theorem dX12_line_676 : decode cX12_line 676 = .ok (.invokevirtual 181, 3) := by decide +kernel
theorem dX12_line_679 : decode cX12_line 679 = .ok (.ireturn, 1) := by decide +kernel
theorem dX12_line_680 : decode cX12_line 680 = .ok (.aload_n 0, 1) := by decide +kernel
theorem dX12_line_681 : decode cX12_line 681 = .ok (.getfield 37, 3) := by decide +kernel
theorem dX12_line_684 : decode cX12_line 684 = .ok (.bipush 90, 2) := by decide +kernel
theorem dX12_line_686 : decode cX12_line 686 = .ok (.aload_n 0, 1) := by decide +kernel
theorem dX12_line_687 : decode cX12_line 687 = .ok (.getfield 37, 3) := by decide +kernel
theorem dX12_line_690 : decode cX12_line 690 = .ok (.bipush 7, 2) := by decide +kernel
theorem dX12_line_692 : decode cX12_line 692 = .ok (.iaload, 1) := by decide +kernel
theorem dX12_line_693 : decode cX12_line 693 = .ok (.iadd, 1) := by decide +kernel
theorem dX12_line_694 : decode cX12_line 694 = .ok (.iload_n 1, 1) := by decide +kernel
theorem dX12_line_695 : decode cX12_line 695 = .ok (.iastore, 1) := by decide +kernel
theorem dX12_line_696 : decode cX12_line 696 = .ok (.aload_n 0, 1) := by decide +kernel
theorem dX12_line_697 : decode cX12_line 697 = .ok (.getfield 37, 3) := by decide +kernel
theorem dX12_line_700 : decode cX12_line 700 = .ok (.bipush 98, 2) := by decide +kernel
theorem dX12_line_702 : decode cX12_line 702 = .ok (.aload_n 0, 1) := by decide +kernel
theorem dX12_line_703 : decode cX12_line 703 = .ok (.getfield 37, 3) := by decide +kernel
theorem dX12_line_706 : decode cX12_line 706 = .ok (.bipush 7, 2) := by decide +kernel
theorem dX12_line_708 : decode cX12_line 708 = .ok (.iaload, 1) := by decide +kernel
theorem dX12_line_709 : decode cX12_line 709 = .ok (.iadd, 1) := by decide +kernel
theorem dX12_line_710 : decode cX12_line 710 = .ok (.aload_n 0, 1) := by decide +kernel
theorem dX12_line_711 : decode cX12_line 711 = .ok (.getfield 191, 3) := by decide +kernel
theorem dX12_line_714 : decode cX12_line 714 = .ok (.iastore, 1) := by decide +kernel
theorem dX12_line_715 : decode cX12_line 715 = .ok (.aload_n 0, 1) := by decide +kernel
theorem dX12_line_716 : decode cX12_line 716 = .ok (.getfield 37, 3) := by decide +kernel
theorem dX12_line_719 : decode cX12_line 719 = .ok (.bipush 7, 2) := by decide +kernel
theorem dX12_line_721 : decode cX12_line 721 = .ok (.dup2, 1) := by decide +kernel
theorem dX12_line_722 : decode cX12_line 722 = .ok (.iaload, 1) := by decide +kernel
theorem dX12_line_723 : decode cX12_line 723 = .ok (.iconst 1, 1) := by decide +kernel
theorem dX12_line_724 : decode cX12_line 724 = .ok (.iadd, 1) := by decide +kernel
theorem dX12_line_725 : decode cX12_line 725 = .ok (.iastore, 1) := by decide +kernel
theorem dX12_line_726 : decode cX12_line 726 = .ok (.aload_n 0, 1) := by decide +kernel
theorem dX12_line_727 : decode cX12_line 727 = .ok (.invokevirtual 184, 3) := by decide +kernel
theorem dX12_line_730 : decode cX12_line 730 = .ok (.iconst 1, 1) := by decide +kernel
theorem dX12_line_731 : decode cX12_line 731 = .ok (.ireturn, 1) := by decide +kernel
theorem dX12_readPromise_0 : decode cX12_readPromise 0 = .ok (.aload_n 0, 1) := by decide +kernel
theorem dX12_readPromise_1 : decode cX12_readPromise 1 = .ok (.getfield 37, 3) := by decide +kernel
theorem dX12_readPromise_4 : decode cX12_readPromise 4 = .ok (.bipush 6, 2) := by decide +kernel
theorem dX12_readPromise_6 : decode cX12_readPromise 6 = .ok (.iaload, 1) := by decide +kernel
theorem dX12_readPromise_7 : decode cX12_readPromise 7 = .ok (.istore_n 1, 1) := by decide +kernel
theorem dX12_readPromise_8 : decode cX12_readPromise 8 = .ok (.iload_n 1, 1) := by decide +kernel
theorem dX12_readPromise_9 : decode cX12_readPromise 9 = .ok (.bipush 8, 2) := by decide +kernel
theorem dX12_readPromise_11 : decode cX12_readPromise 11 = .ok (.if_icmp .ne 9, 3) := by decide +kernel
theorem dX12_readPromise_14 : decode cX12_readPromise 14 = .ok (.aload_n 0, 1) := by decide +kernel
theorem dX12_readPromise_15 : decode cX12_readPromise 15 = .ok (.iconst 4, 1) := by decide +kernel
theorem dX12_readPromise_16 : decode cX12_readPromise 16 = .ok (.invokevirtual 181, 3) := by decide +kernel
theorem dX12_readPromise_19 : decode cX12_readPromise 19 = .ok (.ireturn, 1) := by decide +kernel
theorem dX12_readPromise_20 : decode cX12_readPromise 20 = .ok (.aload_n 0, 1) := by decide +kernel
theorem dX12_readPromise_21 : decode cX12_readPromise 21 = .ok (.invokevirtual 184, 3) := by decide +kernel
theorem dX12_readPromise_24 : decode cX12_readPromise 24 = .ok (.aload_n 0, 1) := by decide +kernel
theorem dX12_readPromise_25 : decode cX12_readPromise 25 = .ok (.bipush 44, 2) := by decide +kernel
theorem dX12_readPromise_27 : decode cX12_readPromise 27 = .ok (.iload_n 1, 1) := by decide +kernel
theorem dX12_readPromise_28 : decode cX12_readPromise 28 = .ok (.iadd, 1) := by decide +kernel
theorem dX12_readPromise_29 : decode cX12_readPromise 29 = .ok (.invokevirtual 217, 3) := by decide +kernel
theorem dX12_readPromise_32 : decode cX12_readPromise 32 = .ok (.ifCond .eq 18, 3) := by decide +kernel
theorem dX12_readPromise_35 : decode cX12_readPromise 35 = .ok (.aload_n 0, 1) := by decide +kernel
theorem dX12_readPromise_36 : decode cX12_readPromise 36 = .ok (.bipush 34, 2) := by decide +kernel
theorem dX12_readPromise_38 : decode cX12_readPromise 38 = .ok (.aload_n 0, 1) := by decide +kernel
theorem dX12_readPromise_39 : decode cX12_readPromise 39 = .ok (.getfield 37, 3) := by decide +kernel
theorem dX12_readPromise_42 : decode cX12_readPromise 42 = .ok (.iconst 4, 1) := by decide +kernel
theorem dX12_readPromise_43 : decode cX12_readPromise 43 = .ok (.iaload, 1) := by decide +kernel
theorem dX12_readPromise_44 : decode cX12_readPromise 44 = .ok (.invokevirtual 220, 3) := by decide +kernel
theorem dX12_readPromise_47 : decode cX12_readPromise 47 = .ok (.ifCond .ne 5, 3) := by decide +kernel
theorem dX12_readPromise_50 : decode cX12_readPromise 50 = .ok (.iconst 0, 1) := by decide +kernel
theorem dX12_readPromise_51 : decode cX12_readPromise 51 = .ok (.ireturn, 1) := by decide +kernel
theorem dX12_readPromise_52 : decode cX12_readPromise 52 = .ok (.aload_n 0, 1) := by decide +kernel
theorem dX12_readPromise_53 : decode cX12_readPromise 53 = .ok (.getfield 37, 3) := by decide +kernel
theorem dX12_readPromise_56 : decode cX12_readPromise 56 = .ok (.bipush 26, 2) := by decide +kernel
theorem dX12_readPromise_58 : decode cX12_readPromise 58 = .ok (.iload_n 1, 1) := by decide +kernel
theorem dX12_readPromise_59 : decode cX12_readPromise 59 = .ok (.iadd, 1) := by decide +kernel
theorem dX12_readPromise_60 : decode cX12_readPromise 60 = .ok (.aload_n 0, 1) := by decide +kernel
theorem dX12_readPromise_61 : decode cX12_readPromise 61 = .ok (.getfield 191, 3) := by decide +kernel
theorem dX12_readPromise_64 : decode cX12_readPromise 64 = .ok (.iastore, 1) := by decide +kernel
theorem dX12_readPromise_65 : decode cX12_readPromise 65 = .ok (.aload_n 0, 1) := by decide +kernel
theorem dX12_readPromise_66 : decode cX12_readPromise 66 = .ok (.bipush 38, 2) := by decide +kernel
theorem dX12_readPromise_68 : decode cX12_readPromise 68 = .ok (.aload_n 0, 1) := by decide +kernel
theorem dX12_readPromise_69 : decode cX12_readPromise 69 = .ok (.getfield 37, 3) := by decide +kernel
theorem dX12_readPromise_72 : decode cX12_readPromise 72 = .ok (.iconst 5, 1) := by decide +kernel
theorem dX12_readPromise_73 : decode cX12_readPromise 73 = .ok (.iaload, 1) := by decide +kernel
theorem dX12_readPromise_74 : decode cX12_readPromise 74 = .ok (.invokevirtual 220, 3) := by decide +kernel
theorem dX12_readPromise_77 : decode cX12_readPromise 77 = .ok (.ifCond .ne 5, 3) := by decide +kernel
theorem dX12_readPromise_80 : decode cX12_readPromise 80 = .ok (.iconst 0, 1) := by decide +kernel
theorem dX12_readPromise_81 : decode cX12_readPromise 81 = .ok (.ireturn, 1) := by decide +kernel
theorem dX12_readPromise_82 : decode cX12_readPromise 82 = .ok (.aload_n 0, 1) := by decide +kernel
theorem dX12_readPromise_83 : decode cX12_readPromise 83 = .ok (.getfield 37, 3) := by decide +kernel
theorem dX12_readPromise_86 : decode cX12_readPromise 86 = .ok (.bipush 34, 2) := by decide +kernel
theorem dX12_readPromise_88 : decode cX12_readPromise 88 = .ok (.iload_n 1, 1) := by decide +kernel
theorem dX12_readPromise_89 : decode cX12_readPromise 89 = .ok (.iadd, 1) := by decide +kernel
theorem dX12_readPromise_90 : decode cX12_readPromise 90 = .ok (.aload_n 0, 1) := by decide +kernel
theorem dX12_readPromise_91 : decode cX12_readPromise 91 = .ok (.getfield 191, 3) := by decide +kernel
theorem dX12_readPromise_94 : decode cX12_readPromise 94 = .ok (.iastore, 1) := by decide +kernel
theorem dX12_readPromise_95 : decode cX12_readPromise 95 = .ok (.aload_n 0, 1) := by decide +kernel
theorem dX12_readPromise_96 : decode cX12_readPromise 96 = .ok (.bipush 26, 2) := by decide +kernel
theorem dX12_readPromise_98 : decode cX12_readPromise 98 = .ok (.aload_n 0, 1) := by decide +kernel
theorem dX12_readPromise_99 : decode cX12_readPromise 99 = .ok (.getfield 37, 3) := by decide +kernel
theorem dX12_readPromise_102 : decode cX12_readPromise 102 = .ok (.iconst 1, 1) := by decide +kernel
theorem dX12_readPromise_103 : decode cX12_readPromise 103 = .ok (.iaload, 1) := by decide +kernel
theorem dX12_readPromise_104 : decode cX12_readPromise 104 = .ok (.invokevirtual 220, 3) := by decide +kernel
theorem dX12_readPromise_107 : decode cX12_readPromise 107 = .ok (.ifCond .ne 5, 3) := by decide +kernel
theorem dX12_readPromise_110 : decode cX12_readPromise 110 = .ok (.iconst 0, 1) := by decide +kernel
theorem dX12_readPromise_111 : decode cX12_readPromise 111 = .ok (.ireturn, 1) := by decide +kernel
theorem dX12_readPromise_112 : decode cX12_readPromise 112 = .ok (.aload_n 0, 1) := by decide +kernel
theorem dX12_readPromise_113 : decode cX12_readPromise 113 = .ok (.getfield 37, 3) := by decide +kernel
theorem dX12_readPromise_116 : decode cX12_readPromise 116 = .ok (.bipush 42, 2) := by decide +kernel
theorem dX12_readPromise_118 : decode cX12_readPromise 118 = .ok (.iload_n 1, 1) := by decide +kernel
theorem dX12_readPromise_119 : decode cX12_readPromise 119 = .ok (.iadd, 1) := by decide +kernel
theorem dX12_readPromise_120 : decode cX12_readPromise 120 = .ok (.aload_n 0, 1) := by decide +kernel
theorem dX12_readPromise_121 : decode cX12_readPromise 121 = .ok (.getfield 191, 3) := by decide +kernel
theorem dX12_readPromise_124 : decode cX12_readPromise 124 = .ok (.iastore, 1) := by decide +kernel
theorem dX12_readPromise_125 : decode cX12_readPromise 125 = .ok (.aload_n 0, 1) := by decide +kernel
theorem dX12_readPromise_126 : decode cX12_readPromise 126 = .ok (.iconst 0, 1) := by decide +kernel
theorem dX12_readPromise_127 : decode cX12_readPromise 127 = .ok (.bipush 23, 2) := by decide +kernel
theorem dX12_readPromise_129 : decode cX12_readPromise 129 = .ok (.invokevirtual 214, 3) := by decide +kernel
theorem dX12_readPromise_132 : decode cX12_readPromise 132 = .ok (.ifCond .ne 5, 3) := by decide +kernel
theorem dX12_readPromise_135 : decode cX12_readPromise 135 = .ok (.iconst 0, 1) := by decide +kernel
theorem dX12_readPromise_136 : decode cX12_readPromise 136 = .ok (.ireturn, 1) := by decide +kernel
theorem dX12_readPromise_137 : decode cX12_readPromise 137 = .ok (.aload_n 0, 1) := by decide +kernel
theorem dX12_readPromise_138 : decode cX12_readPromise 138 = .ok (.getfield 37, 3) := by decide +kernel
theorem dX12_readPromise_141 : decode cX12_readPromise 141 = .ok (.bipush 50, 2) := by decide +kernel
theorem dX12_readPromise_143 : decode cX12_readPromise 143 = .ok (.iload_n 1, 1) := by decide +kernel
theorem dX12_readPromise_144 : decode cX12_readPromise 144 = .ok (.iadd, 1) := by decide +kernel
theorem dX12_readPromise_145 : decode cX12_readPromise 145 = .ok (.aload_n 0, 1) := by decide +kernel
theorem dX12_readPromise_146 : decode cX12_readPromise 146 = .ok (.getfield 191, 3) := by decide +kernel
theorem dX12_readPromise_149 : decode cX12_readPromise 149 = .ok (.iastore, 1) := by decide +kernel
theorem dX12_readPromise_150 : decode cX12_readPromise 150 = .ok (.aload_n 0, 1) := by decide +kernel
theorem dX12_readPromise_151 : decode cX12_readPromise 151 = .ok (.aload_n 0, 1) := by decide +kernel
theorem dX12_readPromise_152 : decode cX12_readPromise 152 = .ok (.getfield 37, 3) := by decide +kernel
theorem dX12_readPromise_155 : decode cX12_readPromise 155 = .ok (.bipush 50, 2) := by decide +kernel
theorem dX12_readPromise_157 : decode cX12_readPromise 157 = .ok (.iload_n 1, 1) := by decide +kernel
theorem dX12_readPromise_158 : decode cX12_readPromise 158 = .ok (.iadd, 1) := by decide +kernel
theorem dX12_readPromise_159 : decode cX12_readPromise 159 = .ok (.iaload, 1) := by decide +kernel
theorem dX12_readPromise_160 : decode cX12_readPromise 160 = .ok (.bipush 23, 2) := by decide +kernel
theorem dX12_readPromise_162 : decode cX12_readPromise 162 = .ok (.invokevirtual 214, 3) := by decide +kernel
theorem dX12_readPromise_165 : decode cX12_readPromise 165 = .ok (.ifCond .ne 5, 3) := by decide +kernel
theorem dX12_readPromise_168 : decode cX12_readPromise 168 = .ok (.iconst 0, 1) := by decide +kernel
theorem dX12_readPromise_169 : decode cX12_readPromise 169 = .ok (.ireturn, 1) := by decide +kernel
theorem dX12_readPromise_170 : decode cX12_readPromise 170 = .ok (.aload_n 0, 1) := by decide +kernel
theorem dX12_readPromise_171 : decode cX12_readPromise 171 = .ok (.getfield 37, 3) := by decide +kernel
theorem dX12_readPromise_174 : decode cX12_readPromise 174 = .ok (.bipush 58, 2) := by decide +kernel
theorem dX12_readPromise_176 : decode cX12_readPromise 176 = .ok (.iload_n 1, 1) := by decide +kernel
theorem dX12_readPromise_177 : decode cX12_readPromise 177 = .ok (.iadd, 1) := by decide +kernel
theorem dX12_readPromise_178 : decode cX12_readPromise 178 = .ok (.aload_n 0, 1) := by decide +kernel
theorem dX12_readPromise_179 : decode cX12_readPromise 179 = .ok (.getfield 191, 3) := by decide +kernel
theorem dX12_readPromise_182 : decode cX12_readPromise 182 = .ok (.iastore, 1) := by decide +kernel
theorem dX12_readPromise_183 : decode cX12_readPromise 183 = .ok (.aload_n 0, 1) := by decide +kernel
theorem dX12_readPromise_184 : decode cX12_readPromise 184 = .ok (.iconst 1, 1) := by decide +kernel
theorem dX12_readPromise_185 : decode cX12_readPromise 185 = .ok (.iconst 3, 1) := by decide +kernel
theorem dX12_readPromise_186 : decode cX12_readPromise 186 = .ok (.invokevirtual 214, 3) := by decide +kernel
theorem dX12_readPromise_189 : decode cX12_readPromise 189 = .ok (.ifCond .ne 5, 3) := by decide +kernel
theorem dX12_readPromise_192 : decode cX12_readPromise 192 = .ok (.iconst 0, 1) := by decide +kernel
theorem dX12_readPromise_193 : decode cX12_readPromise 193 = .ok (.ireturn, 1) := by decide +kernel
theorem dX12_readPromise_194 : decode cX12_readPromise 194 = .ok (.aload_n 0, 1) := by decide +kernel
theorem dX12_readPromise_195 : decode cX12_readPromise 195 = .ok (.getfield 37, 3) := by decide +kernel
theorem dX12_readPromise_198 : decode cX12_readPromise 198 = .ok (.bipush 66, 2) := by decide +kernel
theorem dX12_readPromise_200 : decode cX12_readPromise 200 = .ok (.iload_n 1, 1) := by decide +kernel
theorem dX12_readPromise_201 : decode cX12_readPromise 201 = .ok (.iadd, 1) := by decide +kernel
theorem dX12_readPromise_202 : decode cX12_readPromise 202 = .ok (.aload_n 0, 1) := by decide +kernel
theorem dX12_readPromise_203 : decode cX12_readPromise 203 = .ok (.getfield 191, 3) := by decide +kernel
theorem dX12_readPromise_206 : decode cX12_readPromise 206 = .ok (.iastore, 1) := by decide +kernel
theorem dX12_readPromise_207 : decode cX12_readPromise 207 = .ok (.aload_n 0, 1) := by decide +kernel
theorem dX12_readPromise_208 : decode cX12_readPromise 208 = .ok (.getfield 37, 3) := by decide +kernel
theorem dX12_readPromise_211 : decode cX12_readPromise 211 = .ok (.bipush 74, 2) := by decide +kernel
theorem dX12_readPromise_213 : decode cX12_readPromise 213 = .ok (.iload_n 1, 1) := by decide +kernel
theorem dX12_readPromise_214 : decode cX12_readPromise 214 = .ok (.iadd, 1) := by decide +kernel
theorem dX12_readPromise_215 : decode cX12_readPromise 215 = .ok (.aload_n 0, 1) := by decide +kernel
theorem dX12_readPromise_216 : decode cX12_readPromise 216 = .ok (.ldc2_w 107, 3) := by decide +kernel
theorem dX12_readPromise_219 : decode cX12_readPromise 219 = .ok (.invokevirtual 206, 3) := by decide +kernel
theorem dX12_readPromise_222 : decode cX12_readPromise 222 = .ok (.ifCond .eq 7, 3) := by decide +kernel
theorem dX12_readPromise_225 : decode cX12_readPromise 225 = .ok (.iconst 1, 1) := by decide +kernel
theorem dX12_readPromise_226 : decode cX12_readPromise 226 = .ok (.goto 4, 3) := by decide +kernel
theorem dX12_readPromise_229 : decode cX12_readPromise 229 = .ok (.iconst 0, 1) := by decide +kernel
theorem dX12_readPromise_230 : decode cX12_readPromise 230 = .ok (.iastore, 1) := by decide +kernel
theorem dX12_readPromise_231 : decode cX12_readPromise 231 = .ok (.aload_n 0, 1) := by decide +kernel
theorem dX12_readPromise_232 : decode cX12_readPromise 232 = .ok (.ldc2_w 107, 3) := by decide +kernel
theorem dX12_readPromise_235 : decode cX12_readPromise 235 = .ok (.invokevirtual 206, 3) := by decide +kernel
theorem dX12_readPromise_238 : decode cX12_readPromise 238 = .ok (.ifCond .eq 7, 3) := by decide +kernel
theorem dX12_readPromise_241 : decode cX12_readPromise 241 = .ok (.aload_n 0, 1) := by decide +kernel
theorem dX12_readPromise_242 : decode cX12_readPromise 242 = .ok (.invokevirtual 184, 3) := by decide +kernel
theorem dX12_readPromise_245 : decode cX12_readPromise 245 = .ok (.aload_n 0, 1) := by decide +kernel
theorem dX12_readPromise_246 : decode cX12_readPromise 246 = .ok (.getfield 37, 3) := by decide +kernel
theorem dX12_readPromise_249 : decode cX12_readPromise 249 = .ok (.bipush 82, 2) := by decide +kernel
theorem dX12_readPromise_251 : decode cX12_readPromise 251 = .ok (.iload_n 1, 1) := by decide +kernel
theorem dX12_readPromise_252 : decode cX12_readPromise 252 = .ok (.iadd, 1) := by decide +kernel
theorem dX12_readPromise_253 : decode cX12_readPromise 253 = .ok (.iconst 0, 1) := by decide +kernel
theorem dX12_readPromise_254 : decode cX12_readPromise 254 = .ok (.iastore, 1) := by decide +kernel
theorem dX12_readPromise_255 : decode cX12_readPromise 255 = .ok (.aload_n 0, 1) := by decide +kernel
theorem dX12_readPromise_256 : decode cX12_readPromise 256 = .ok (.ldc2_w 109, 3) := by decide +kernel
theorem dX12_readPromise_259 : decode cX12_readPromise 259 = .ok (.invokevirtual 206, 3) := by decide +kernel
theorem dX12_readPromise_262 : decode cX12_readPromise 262 = .ok (.ifCond .eq 39, 3) := by decide +kernel
theorem dX12_readPromise_265 : decode cX12_readPromise 265 = .ok (.aload_n 0, 1) := by decide +kernel
theorem dX12_readPromise_266 : decode cX12_readPromise 266 = .ok (.invokevirtual 184, 3) := by decide +kernel
theorem dX12_readPromise_269 : decode cX12_readPromise 269 = .ok (.aload_n 0, 1) := by decide +kernel
theorem dX12_readPromise_270 : decode cX12_readPromise 270 = .ok (.bipush 38, 2) := by decide +kernel
theorem dX12_readPromise_272 : decode cX12_readPromise 272 = .ok (.aload_n 0, 1) := by decide +kernel
theorem dX12_readPromise_273 : decode cX12_readPromise 273 = .ok (.getfield 37, 3) := by decide +kernel
theorem dX12_readPromise_276 : decode cX12_readPromise 276 = .ok (.iconst 5, 1) := by decide +kernel
theorem dX12_readPromise_277 : decode cX12_readPromise 277 = .ok (.iaload, 1) := by decide +kernel
theorem dX12_readPromise_278 : decode cX12_readPromise 278 = .ok (.invokevirtual 220, 3) := by decide +kernel
theorem dX12_readPromise_281 : decode cX12_readPromise 281 = .ok (.ifCond .ne 5, 3) := by decide +kernel
theorem dX12_readPromise_284 : decode cX12_readPromise 284 = .ok (.iconst 0, 1) := by decide +kernel
theorem dX12_readPromise_285 : decode cX12_readPromise 285 = .ok (.ireturn, 1) := by decide +kernel
theorem dX12_readPromise_286 : decode cX12_readPromise 286 = .ok (.aload_n 0, 1) := by decide +kernel
theorem dX12_readPromise_287 : decode cX12_readPromise 287 = .ok (.getfield 37, 3) := by decide +kernel
theorem dX12_readPromise_290 : decode cX12_readPromise 290 = .ok (.bipush 82, 2) := by decide +kernel
theorem dX12_readPromise_292 : decode cX12_readPromise 292 = .ok (.iload_n 1, 1) := by decide +kernel
theorem dX12_readPromise_293 : decode cX12_readPromise 293 = .ok (.iadd, 1) := by decide +kernel
theorem dX12_readPromise_294 : decode cX12_readPromise 294 = .ok (.aload_n 0, 1) := by decide +kernel
theorem dX12_readPromise_295 : decode cX12_readPromise 295 = .ok (.getfield 191, 3) := by decide +kernel
theorem dX12_readPromise_298 : decode cX12_readPromise 298 = .ok (.iconst 1, 1) := by decide +kernel
theorem dX12_readPromise_299 : decode cX12_readPromise 299 = .ok (.iadd, 1) := by decide +kernel
theorem dX12_readPromise_300 : decode cX12_readPromise 300 = .ok (.iastore, 1) := by decide +kernel
theorem dX12_readPromise_301 : decode cX12_readPromise 301 = .ok (.aload_n 0, 1) := by decide +kernel
theorem dX12_readPromise_302 : decode cX12_readPromise 302 = .ok (.getfield 37, 3) := by decide +kernel
theorem dX12_readPromise_305 : decode cX12_readPromise 305 = .ok (.bipush 6, 2) := by decide +kernel
theorem dX12_readPromise_307 : decode cX12_readPromise 307 = .ok (.dup2, 1) := by decide +kernel
theorem dX12_readPromise_308 : decode cX12_readPromise 308 = .ok (.iaload, 1) := by decide +kernel
theorem dX12_readPromise_309 : decode cX12_readPromise 309 = .ok (.iconst 1, 1) := by decide +kernel
theorem dX12_readPromise_310 : decode cX12_readPromise 310 = .ok (.iadd, 1) := by decide +kernel
theorem dX12_readPromise_311 : decode cX12_readPromise 311 = .ok (.iastore, 1) := by decide +kernel
theorem dX12_readPromise_312 : decode cX12_readPromise 312 = .ok (.iconst 1, 1) := by decide +kernel
theorem dX12_readPromise_313 : decode cX12_readPromise 313 = .ok (.ireturn, 1) := by decide +kernel
theorem dX12_house_0 : decode cX12_house 0 = .ok (.aload_n 0, 1) := by decide +kernel
theorem dX12_house_1 : decode cX12_house 1 = .ok (.iconst 0, 1) := by decide +kernel
theorem dX12_house_2 : decode cX12_house 2 = .ok (.putfield 1, 3) := by decide +kernel
theorem dX12_house_5 : decode cX12_house 5 = .ok (.aload_n 0, 1) := by decide +kernel
theorem dX12_house_6 : decode cX12_house 6 = .ok (.sipush 900, 3) := by decide +kernel
theorem dX12_house_9 : decode cX12_house 9 = .ok (.invokevirtual 229, 3) := by decide +kernel
theorem dX12_house_12 : decode cX12_house 12 = .ok (.aload_n 0, 1) := by decide +kernel
theorem dX12_house_13 : decode cX12_house 13 = .ok (.iconst 0, 1) := by decide +kernel
theorem dX12_house_14 : decode cX12_house 14 = .ok (.putfield 172, 3) := by decide +kernel
theorem dX12_house_17 : decode cX12_house 17 = .ok (.aload_n 0, 1) := by decide +kernel
theorem dX12_house_18 : decode cX12_house 18 = .ok (.iconst 0, 1) := by decide +kernel
theorem dX12_house_19 : decode cX12_house 19 = .ok (.putfield 232, 3) := by decide +kernel
theorem dX12_house_22 : decode cX12_house 22 = .ok (.aload_n 0, 1) := by decide +kernel
theorem dX12_house_23 : decode cX12_house 23 = .ok (.iconst 0, 1) := by decide +kernel
theorem dX12_house_24 : decode cX12_house 24 = .ok (.putfield 210, 3) := by decide +kernel
theorem dX12_house_27 : decode cX12_house 27 = .ok (.iconst 0, 1) := by decide +kernel
theorem dX12_house_28 : decode cX12_house 28 = .ok (.istore_n 1, 1) := by decide +kernel
theorem dX12_house_29 : decode cX12_house 29 = .ok (.iload_n 1, 1) := by decide +kernel
theorem dX12_house_30 : decode cX12_house 30 = .ok (.bipush 106, 2) := by decide +kernel
theorem dX12_house_32 : decode cX12_house 32 = .ok (.if_icmp .ge 16, 3) := by decide +kernel
theorem dX12_house_35 : decode cX12_house 35 = .ok (.aload_n 0, 1) := by decide +kernel
theorem dX12_house_36 : decode cX12_house 36 = .ok (.getfield 37, 3) := by decide +kernel
theorem dX12_house_39 : decode cX12_house 39 = .ok (.iload_n 1, 1) := by decide +kernel
theorem dX12_house_40 : decode cX12_house 40 = .ok (.iconst 0, 1) := by decide +kernel
theorem dX12_house_41 : decode cX12_house 41 = .ok (.iastore, 1) := by decide +kernel
theorem dX12_house_42 : decode cX12_house 42 = .ok (.iinc 1 1, 3) := by decide +kernel
theorem dX12_house_45 : decode cX12_house 45 = .ok (.goto (-16), 3) := by decide +kernel
theorem dX12_house_48 : decode cX12_house 48 = .ok (.aload_n 0, 1) := by decide +kernel
theorem dX12_house_49 : decode cX12_house 49 = .ok (.getfield 37, 3) := by decide +kernel
theorem dX12_house_52 : decode cX12_house 52 = .ok (.iconst 0, 1) := by decide +kernel
theorem dX12_house_53 : decode cX12_house 53 = .ok (.bipush 24, 2) := by decide +kernel
theorem dX12_house_55 : decode cX12_house 55 = .ok (.iastore, 1) := by decide +kernel
theorem dX12_house_56 : decode cX12_house 56 = .ok (.aload_n 0, 1) := by decide +kernel
theorem dX12_house_57 : decode cX12_house 57 = .ok (.invokevirtual 184, 3) := by decide +kernel
theorem dX12_house_60 : decode cX12_house 60 = .ok (.aload_n 0, 1) := by decide +kernel
theorem dX12_house_61 : decode cX12_house 61 = .ok (.getfield 155, 3) := by decide +kernel
theorem dX12_house_64 : decode cX12_house 64 = .ok (.ifCond .eq 39, 3) := by decide +kernel
theorem dX12_house_67 : decode cX12_house 67 = .ok (.aload_n 0, 1) := by decide +kernel
theorem dX12_house_68 : decode cX12_house 68 = .ok (.invokevirtual 235, 3) := by decide +kernel
theorem dX12_house_71 : decode cX12_house 71 = .ok (.ifCond .eq 12, 3) := by decide +kernel
theorem dX12_house_74 : decode cX12_house 74 = .ok (.aload_n 0, 1) := by decide +kernel
theorem dX12_house_75 : decode cX12_house 75 = .ok (.bipush 59, 2) := by decide +kernel
theorem dX12_house_77 : decode cX12_house 77 = .ok (.invokevirtual 238, 3) := by decide +kernel
theorem dX12_house_80 : decode cX12_house 80 = .ok (.ifCond .ne 10, 3) := by decide +kernel
theorem dX12_house_83 : decode cX12_house 83 = .ok (.iconst (-1), 1) := by decide +kernel
theorem dX12_house_84 : decode cX12_house 84 = .ok (.aload_n 0, 1) := by decide +kernel
theorem dX12_house_85 : decode cX12_house 85 = .ok (.getfield 175, 3) := by decide +kernel
theorem dX12_house_88 : decode cX12_house 88 = .ok (.isub, 1) := by decide +kernel
theorem dX12_house_89 : decode cX12_house 89 = .ok (.ireturn, 1) := by decide +kernel
theorem dX12_house_90 : decode cX12_house 90 = .ok (.aload_n 0, 1) := by decide +kernel
theorem dX12_house_91 : decode cX12_house 91 = .ok (.dup, 1) := by decide +kernel
theorem dX12_house_92 : decode cX12_house 92 = .ok (.getfield 232, 3) := by decide +kernel
theorem dX12_house_95 : decode cX12_house 95 = .ok (.iconst 1, 1) := by decide +kernel
theorem dX12_house_96 : decode cX12_house 96 = .ok (.iadd, 1) := by decide +kernel
theorem dX12_house_97 : decode cX12_house 97 = .ok (.putfield 232, 3) := by decide +kernel
theorem dX12_house_100 : decode cX12_house 100 = .ok (.goto (-40), 3) := by decide +kernel
theorem dX12_house_103 : decode cX12_house 103 = .ok (.iconst 0, 1) := by decide +kernel
theorem dX12_house_104 : decode cX12_house 104 = .ok (.istore_n 1, 1) := by decide +kernel
theorem dX12_house_105 : decode cX12_house 105 = .ok (.iload_n 1, 1) := by decide +kernel
theorem dX12_house_106 : decode cX12_house 106 = .ok (.sipush 657, 3) := by decide +kernel
theorem dX12_house_109 : decode cX12_house 109 = .ok (.if_icmp .ge 31, 3) := by decide +kernel
theorem dX12_house_112 : decode cX12_house 112 = .ok (.aload_n 0, 1) := by decide +kernel
theorem dX12_house_113 : decode cX12_house 113 = .ok (.getfield 33, 3) := by decide +kernel
theorem dX12_house_116 : decode cX12_house 116 = .ok (.iload_n 1, 1) := by decide +kernel
theorem dX12_house_117 : decode cX12_house 117 = .ok (.iload_n 1, 1) := by decide +kernel
theorem dX12_house_118 : decode cX12_house 118 = .ok (.bipush 106, 2) := by decide +kernel
theorem dX12_house_120 : decode cX12_house 120 = .ok (.if_icmp .ge 12, 3) := by decide +kernel
theorem dX12_house_123 : decode cX12_house 123 = .ok (.aload_n 0, 1) := by decide +kernel
theorem dX12_house_124 : decode cX12_house 124 = .ok (.getfield 37, 3) := by decide +kernel
theorem dX12_house_127 : decode cX12_house 127 = .ok (.iload_n 1, 1) := by decide +kernel
theorem dX12_house_128 : decode cX12_house 128 = .ok (.iaload, 1) := by decide +kernel
theorem dX12_house_129 : decode cX12_house 129 = .ok (.goto 4, 3) := by decide +kernel
theorem dX12_house_132 : decode cX12_house 132 = .ok (.iconst 0, 1) := by decide +kernel
theorem dX12_house_133 : decode cX12_house 133 = .ok (.iastore, 1) := by decide +kernel
theorem dX12_house_134 : decode cX12_house 134 = .ok (.iinc 1 1, 3) := by decide +kernel
theorem dX12_house_137 : decode cX12_house 137 = .ok (.goto (-32), 3) := by decide +kernel
theorem dX12_house_140 : decode cX12_house 140 = .ok (.iconst 0, 1) := by decide +kernel
theorem dX12_house_141 : decode cX12_house 141 = .ok (.istore_n 1, 1) := by decide +kernel
theorem dX12_house_142 : decode cX12_house 142 = .ok (.iload_n 1, 1) := by decide +kernel
theorem dX12_house_143 : decode cX12_house 143 = .ok (.bipush 26, 2) := by decide +kernel
theorem dX12_house_145 : decode cX12_house 145 = .ok (.if_icmp .ge 24, 3) := by decide +kernel
theorem dX12_house_148 : decode cX12_house 148 = .ok (.aload_n 0, 1) := by decide +kernel
theorem dX12_house_149 : decode cX12_house 149 = .ok (.getfield 43, 3) := by decide +kernel
theorem dX12_house_152 : decode cX12_house 152 = .ok (.iload_n 1, 1) := by decide +kernel
theorem dX12_house_153 : decode cX12_house 153 = .ok (.aload_n 0, 1) := by decide +kernel
theorem dX12_house_154 : decode cX12_house 154 = .ok (.getfield 43, 3) := by decide +kernel
theorem dX12_house_157 : decode cX12_house 157 = .ok (.bipush 26, 2) := by decide +kernel
theorem dX12_house_159 : decode cX12_house 159 = .ok (.iload_n 1, 1) := by decide +kernel
theorem dX12_house_160 : decode cX12_house 160 = .ok (.iadd, 1) := by decide +kernel
theorem dX12_house_161 : decode cX12_house 161 = .ok (.laload, 1) := by decide +kernel
theorem dX12_house_162 : decode cX12_house 162 = .ok (.lastore, 1) := by decide +kernel
theorem dX12_house_163 : decode cX12_house 163 = .ok (.iinc 1 1, 3) := by decide +kernel
theorem dX12_house_166 : decode cX12_house 166 = .ok (.goto (-24), 3) := by decide +kernel
theorem dX12_house_169 : decode cX12_house 169 = .ok (.iconst 0, 1) := by decide +kernel
theorem dX12_house_170 : decode cX12_house 170 = .ok (.istore_n 1, 1) := by decide +kernel
theorem dX12_house_171 : decode cX12_house 171 = .ok (.iload_n 1, 1) := by decide +kernel
theorem dX12_house_172 : decode cX12_house 172 = .ok (.iconst 4, 1) := by decide +kernel
theorem dX12_house_173 : decode cX12_house 173 = .ok (.if_icmp .ge 27, 3) := by decide +kernel
theorem dX12_house_176 : decode cX12_house 176 = .ok (.aload_n 0, 1) := by decide +kernel
theorem dX12_house_177 : decode cX12_house 177 = .ok (.getfield 33, 3) := by decide +kernel
theorem dX12_house_180 : decode cX12_house 180 = .ok (.bipush 107, 2) := by decide +kernel
theorem dX12_house_182 : decode cX12_house 182 = .ok (.iload_n 1, 1) := by decide +kernel
theorem dX12_house_183 : decode cX12_house 183 = .ok (.iadd, 1) := by decide +kernel
theorem dX12_house_184 : decode cX12_house 184 = .ok (.aload_n 0, 1) := by decide +kernel
theorem dX12_house_185 : decode cX12_house 185 = .ok (.getfield 33, 3) := by decide +kernel
theorem dX12_house_188 : decode cX12_house 188 = .ok (.bipush 22, 2) := by decide +kernel
theorem dX12_house_190 : decode cX12_house 190 = .ok (.iload_n 1, 1) := by decide +kernel
theorem dX12_house_191 : decode cX12_house 191 = .ok (.iadd, 1) := by decide +kernel
theorem dX12_house_192 : decode cX12_house 192 = .ok (.iaload, 1) := by decide +kernel
theorem dX12_house_193 : decode cX12_house 193 = .ok (.iastore, 1) := by decide +kernel
theorem dX12_house_194 : decode cX12_house 194 = .ok (.iinc 1 1, 3) := by decide +kernel
theorem dX12_house_197 : decode cX12_house 197 = .ok (.goto (-26), 3) := by decide +kernel
theorem dX12_house_200 : decode cX12_house 200 = .ok (.aload_n 0, 1) := by decide +kernel
theorem dX12_house_201 : decode cX12_house 201 = .ok (.iconst 0, 1) := by decide +kernel
theorem dX12_house_202 : decode cX12_house 202 = .ok (.putfield 241, 3) := by decide +kernel
theorem dX12_house_205 : decode cX12_house 205 = .ok (.aload_n 0, 1) := by decide +kernel
theorem dX12_house_206 : decode cX12_house 206 = .ok (.getfield 232, 3) := by decide +kernel
theorem dX12_house_209 : decode cX12_house 209 = .ok (.ireturn, 1) := by decide +kernel
theorem dX12_fault_0 : decode cX12_fault 0 = .ok (.aload_n 0, 1) := by decide +kernel
theorem dX12_fault_1 : decode cX12_fault 1 = .ok (.iconst 0, 1) := by decide +kernel
theorem dX12_fault_2 : decode cX12_fault 2 = .ok (.putfield 1, 3) := by decide +kernel
theorem dX12_fault_5 : decode cX12_fault 5 = .ok (.aload_n 0, 1) := by decide +kernel
theorem dX12_fault_6 : decode cX12_fault 6 = .ok (.getfield 172, 3) := by decide +kernel
theorem dX12_fault_9 : decode cX12_fault 9 = .ok (.ireturn, 1) := by decide +kernel
theorem dX12_isPlace_0 : decode cX12_isPlace 0 = .ok (.iload_n 1, 1) := by decide +kernel
theorem dX12_isPlace_1 : decode cX12_isPlace 1 = .ok (.iconst 0, 1) := by decide +kernel
theorem dX12_isPlace_2 : decode cX12_isPlace 2 = .ok (.aload_n 0, 1) := by decide +kernel
theorem dX12_isPlace_3 : decode cX12_isPlace 3 = .ok (.getfield 33, 3) := by decide +kernel
theorem dX12_isPlace_6 : decode cX12_isPlace 6 = .ok (.iconst 1, 1) := by decide +kernel
theorem dX12_isPlace_7 : decode cX12_isPlace 7 = .ok (.iaload, 1) := by decide +kernel
theorem dX12_isPlace_8 : decode cX12_isPlace 8 = .ok (.iconst 1, 1) := by decide +kernel
theorem dX12_isPlace_9 : decode cX12_isPlace 9 = .ok (.isub, 1) := by decide +kernel
theorem dX12_isPlace_10 : decode cX12_isPlace 10 = .ok (.invokestatic 187, 3) := by decide +kernel
theorem dX12_isPlace_13 : decode cX12_isPlace 13 = .ok (.ireturn, 1) := by decide +kernel
theorem dX12_isPerson_0 : decode cX12_isPerson 0 = .ok (.iload_n 1, 1) := by decide +kernel
theorem dX12_isPerson_1 : decode cX12_isPerson 1 = .ok (.iconst 0, 1) := by decide +kernel
theorem dX12_isPerson_2 : decode cX12_isPerson 2 = .ok (.aload_n 0, 1) := by decide +kernel
theorem dX12_isPerson_3 : decode cX12_isPerson 3 = .ok (.getfield 33, 3) := by decide +kernel
theorem dX12_isPerson_6 : decode cX12_isPerson 6 = .ok (.iconst 4, 1) := by decide +kernel
theorem dX12_isPerson_7 : decode cX12_isPerson 7 = .ok (.iaload, 1) := by decide +kernel
theorem dX12_isPerson_8 : decode cX12_isPerson 8 = .ok (.iconst 1, 1) := by decide +kernel
theorem dX12_isPerson_9 : decode cX12_isPerson 9 = .ok (.isub, 1) := by decide +kernel
theorem dX12_isPerson_10 : decode cX12_isPerson 10 = .ok (.invokestatic 187, 3) := by decide +kernel
theorem dX12_isPerson_13 : decode cX12_isPerson 13 = .ok (.ireturn, 1) := by decide +kernel
theorem dX12_isDeed_0 : decode cX12_isDeed 0 = .ok (.iload_n 1, 1) := by decide +kernel
theorem dX12_isDeed_1 : decode cX12_isDeed 1 = .ok (.iconst 0, 1) := by decide +kernel
theorem dX12_isDeed_2 : decode cX12_isDeed 2 = .ok (.aload_n 0, 1) := by decide +kernel
theorem dX12_isDeed_3 : decode cX12_isDeed 3 = .ok (.getfield 33, 3) := by decide +kernel
theorem dX12_isDeed_6 : decode cX12_isDeed 6 = .ok (.iconst 5, 1) := by decide +kernel
theorem dX12_isDeed_7 : decode cX12_isDeed 7 = .ok (.iaload, 1) := by decide +kernel
theorem dX12_isDeed_8 : decode cX12_isDeed 8 = .ok (.iconst 1, 1) := by decide +kernel
theorem dX12_isDeed_9 : decode cX12_isDeed 9 = .ok (.isub, 1) := by decide +kernel
theorem dX12_isDeed_10 : decode cX12_isDeed 10 = .ok (.invokestatic 187, 3) := by decide +kernel
theorem dX12_isDeed_13 : decode cX12_isDeed 13 = .ok (.ireturn, 1) := by decide +kernel
theorem dX12_isPromise_0 : decode cX12_isPromise 0 = .ok (.iload_n 1, 1) := by decide +kernel
theorem dX12_isPromise_1 : decode cX12_isPromise 1 = .ok (.iconst 0, 1) := by decide +kernel
theorem dX12_isPromise_2 : decode cX12_isPromise 2 = .ok (.aload_n 0, 1) := by decide +kernel
theorem dX12_isPromise_3 : decode cX12_isPromise 3 = .ok (.getfield 33, 3) := by decide +kernel
theorem dX12_isPromise_6 : decode cX12_isPromise 6 = .ok (.bipush 6, 2) := by decide +kernel
theorem dX12_isPromise_8 : decode cX12_isPromise 8 = .ok (.iaload, 1) := by decide +kernel
theorem dX12_isPromise_9 : decode cX12_isPromise 9 = .ok (.iconst 1, 1) := by decide +kernel
theorem dX12_isPromise_10 : decode cX12_isPromise 10 = .ok (.isub, 1) := by decide +kernel
theorem dX12_isPromise_11 : decode cX12_isPromise 11 = .ok (.invokestatic 187, 3) := by decide +kernel
theorem dX12_isPromise_14 : decode cX12_isPromise 14 = .ok (.ireturn, 1) := by decide +kernel
theorem dX12_dayNow_0 : decode cX12_dayNow 0 = .ok (.aload_n 0, 1) := by decide +kernel
theorem dX12_dayNow_1 : decode cX12_dayNow 1 = .ok (.getfield 33, 3) := by decide +kernel
theorem dX12_dayNow_4 : decode cX12_dayNow 4 = .ok (.bipush 106, 2) := by decide +kernel
theorem dX12_dayNow_6 : decode cX12_dayNow 6 = .ok (.iaload, 1) := by decide +kernel
theorem dX12_dayNow_7 : decode cX12_dayNow 7 = .ok (.aload_n 0, 1) := by decide +kernel
theorem dX12_dayNow_8 : decode cX12_dayNow 8 = .ok (.getfield 33, 3) := by decide +kernel
theorem dX12_dayNow_11 : decode cX12_dayNow 11 = .ok (.iconst 0, 1) := by decide +kernel
theorem dX12_dayNow_12 : decode cX12_dayNow 12 = .ok (.iaload, 1) := by decide +kernel
theorem dX12_dayNow_13 : decode cX12_dayNow 13 = .ok (.idiv, 1) := by decide +kernel
theorem dX12_dayNow_14 : decode cX12_dayNow 14 = .ok (.ireturn, 1) := by decide +kernel
theorem dX12_promise_0 : decode cX12_promise 0 = .ok (.aload_n 0, 1) := by decide +kernel
theorem dX12_promise_1 : decode cX12_promise 1 = .ok (.aload_n 0, 1) := by decide +kernel
theorem dX12_promise_2 : decode cX12_promise 2 = .ok (.iload_n 1, 1) := by decide +kernel
theorem dX12_promise_3 : decode cX12_promise 3 = .ok (.invokevirtual 244, 3) := by decide +kernel
theorem dX12_promise_6 : decode cX12_promise 6 = .ok (.ifCond .eq 13, 3) := by decide +kernel
theorem dX12_promise_9 : decode cX12_promise 9 = .ok (.iload_n 2, 1) := by decide +kernel
theorem dX12_promise_10 : decode cX12_promise 10 = .ok (.iconst 0, 1) := by decide +kernel
theorem dX12_promise_11 : decode cX12_promise 11 = .ok (.bipush 9, 2) := by decide +kernel
theorem dX12_promise_13 : decode cX12_promise 13 = .ok (.invokestatic 187, 3) := by decide +kernel
theorem dX12_promise_16 : decode cX12_promise 16 = .ok (.ifCond .ne 7, 3) := by decide +kernel
theorem dX12_promise_19 : decode cX12_promise 19 = .ok (.iconst 1, 1) := by decide +kernel
theorem dX12_promise_20 : decode cX12_promise 20 = .ok (.goto 4, 3) := by decide +kernel
theorem dX12_promise_23 : decode cX12_promise 23 = .ok (.iconst 0, 1) := by decide +kernel
theorem dX12_promise_24 : decode cX12_promise 24 = .ok (.invokevirtual 247, 3) := by decide +kernel
theorem dX12_promise_27 : decode cX12_promise 27 = .ok (.ifCond .eq 5, 3) := by decide +kernel
theorem dX12_promise_30 : decode cX12_promise 30 = .ok (.iconst 0, 1) := by decide +kernel
theorem dX12_promise_31 : decode cX12_promise 31 = .ok (.ireturn, 1) := by decide +kernel
theorem dX12_promise_32 : decode cX12_promise 32 = .ok (.iload_n 2, 1) := by decide +kernel
theorem dX12_promise_33 : decode cX12_promise 33 = .ok (.tableswitch 145 0 8 #[51, 61, 71, 81, 91, 101, 111, 121, 133], 51) := by decide +kernel
theorem dX12_promise_84 : decode cX12_promise 84 = .ok (.aload_n 0, 1) := by decide +kernel
theorem dX12_promise_85 : decode cX12_promise 85 = .ok (.getfield 33, 3) := by decide +kernel
theorem dX12_promise_88 : decode cX12_promise 88 = .ok (.bipush 26, 2) := by decide +kernel
theorem dX12_promise_90 : decode cX12_promise 90 = .ok (.iload_n 1, 1) := by decide +kernel
theorem dX12_promise_91 : decode cX12_promise 91 = .ok (.iadd, 1) := by decide +kernel
theorem dX12_promise_92 : decode cX12_promise 92 = .ok (.iaload, 1) := by decide +kernel
theorem dX12_promise_93 : decode cX12_promise 93 = .ok (.ireturn, 1) := by decide +kernel
theorem dX12_promise_94 : decode cX12_promise 94 = .ok (.aload_n 0, 1) := by decide +kernel
theorem dX12_promise_95 : decode cX12_promise 95 = .ok (.getfield 33, 3) := by decide +kernel
theorem dX12_promise_98 : decode cX12_promise 98 = .ok (.bipush 34, 2) := by decide +kernel
theorem dX12_promise_100 : decode cX12_promise 100 = .ok (.iload_n 1, 1) := by decide +kernel
theorem dX12_promise_101 : decode cX12_promise 101 = .ok (.iadd, 1) := by decide +kernel
theorem dX12_promise_102 : decode cX12_promise 102 = .ok (.iaload, 1) := by decide +kernel
theorem dX12_promise_103 : decode cX12_promise 103 = .ok (.ireturn, 1) := by decide +kernel
theorem dX12_promise_104 : decode cX12_promise 104 = .ok (.aload_n 0, 1) := by decide +kernel
theorem dX12_promise_105 : decode cX12_promise 105 = .ok (.getfield 33, 3) := by decide +kernel
theorem dX12_promise_108 : decode cX12_promise 108 = .ok (.bipush 42, 2) := by decide +kernel
theorem dX12_promise_110 : decode cX12_promise 110 = .ok (.iload_n 1, 1) := by decide +kernel
theorem dX12_promise_111 : decode cX12_promise 111 = .ok (.iadd, 1) := by decide +kernel
theorem dX12_promise_112 : decode cX12_promise 112 = .ok (.iaload, 1) := by decide +kernel
theorem dX12_promise_113 : decode cX12_promise 113 = .ok (.ireturn, 1) := by decide +kernel
theorem dX12_promise_114 : decode cX12_promise 114 = .ok (.aload_n 0, 1) := by decide +kernel
theorem dX12_promise_115 : decode cX12_promise 115 = .ok (.getfield 33, 3) := by decide +kernel
theorem dX12_promise_118 : decode cX12_promise 118 = .ok (.bipush 50, 2) := by decide +kernel
theorem dX12_promise_120 : decode cX12_promise 120 = .ok (.iload_n 1, 1) := by decide +kernel
theorem dX12_promise_121 : decode cX12_promise 121 = .ok (.iadd, 1) := by decide +kernel
theorem dX12_promise_122 : decode cX12_promise 122 = .ok (.iaload, 1) := by decide +kernel
theorem dX12_promise_123 : decode cX12_promise 123 = .ok (.ireturn, 1) := by decide +kernel
theorem dX12_promise_124 : decode cX12_promise 124 = .ok (.aload_n 0, 1) := by decide +kernel
theorem dX12_promise_125 : decode cX12_promise 125 = .ok (.getfield 33, 3) := by decide +kernel
theorem dX12_promise_128 : decode cX12_promise 128 = .ok (.bipush 58, 2) := by decide +kernel
theorem dX12_promise_130 : decode cX12_promise 130 = .ok (.iload_n 1, 1) := by decide +kernel
theorem dX12_promise_131 : decode cX12_promise 131 = .ok (.iadd, 1) := by decide +kernel
theorem dX12_promise_132 : decode cX12_promise 132 = .ok (.iaload, 1) := by decide +kernel
theorem dX12_promise_133 : decode cX12_promise 133 = .ok (.ireturn, 1) := by decide +kernel
theorem dX12_promise_134 : decode cX12_promise 134 = .ok (.aload_n 0, 1) := by decide +kernel
theorem dX12_promise_135 : decode cX12_promise 135 = .ok (.getfield 33, 3) := by decide +kernel
theorem dX12_promise_138 : decode cX12_promise 138 = .ok (.bipush 66, 2) := by decide +kernel
theorem dX12_promise_140 : decode cX12_promise 140 = .ok (.iload_n 1, 1) := by decide +kernel
theorem dX12_promise_141 : decode cX12_promise 141 = .ok (.iadd, 1) := by decide +kernel
theorem dX12_promise_142 : decode cX12_promise 142 = .ok (.iaload, 1) := by decide +kernel
theorem dX12_promise_143 : decode cX12_promise 143 = .ok (.ireturn, 1) := by decide +kernel
theorem dX12_promise_144 : decode cX12_promise 144 = .ok (.aload_n 0, 1) := by decide +kernel
theorem dX12_promise_145 : decode cX12_promise 145 = .ok (.getfield 33, 3) := by decide +kernel
theorem dX12_promise_148 : decode cX12_promise 148 = .ok (.bipush 74, 2) := by decide +kernel
theorem dX12_promise_150 : decode cX12_promise 150 = .ok (.iload_n 1, 1) := by decide +kernel
theorem dX12_promise_151 : decode cX12_promise 151 = .ok (.iadd, 1) := by decide +kernel
theorem dX12_promise_152 : decode cX12_promise 152 = .ok (.iaload, 1) := by decide +kernel
theorem dX12_promise_153 : decode cX12_promise 153 = .ok (.ireturn, 1) := by decide +kernel
theorem dX12_promise_154 : decode cX12_promise 154 = .ok (.aload_n 0, 1) := by decide +kernel
theorem dX12_promise_155 : decode cX12_promise 155 = .ok (.getfield 33, 3) := by decide +kernel
theorem dX12_promise_158 : decode cX12_promise 158 = .ok (.bipush 82, 2) := by decide +kernel
theorem dX12_promise_160 : decode cX12_promise 160 = .ok (.iload_n 1, 1) := by decide +kernel
theorem dX12_promise_161 : decode cX12_promise 161 = .ok (.iadd, 1) := by decide +kernel
theorem dX12_promise_162 : decode cX12_promise 162 = .ok (.iaload, 1) := by decide +kernel
theorem dX12_promise_163 : decode cX12_promise 163 = .ok (.iconst 1, 1) := by decide +kernel
theorem dX12_promise_164 : decode cX12_promise 164 = .ok (.isub, 1) := by decide +kernel
theorem dX12_promise_165 : decode cX12_promise 165 = .ok (.ireturn, 1) := by decide +kernel
theorem dX12_promise_166 : decode cX12_promise 166 = .ok (.aload_n 0, 1) := by decide +kernel
theorem dX12_promise_167 : decode cX12_promise 167 = .ok (.getfield 33, 3) := by decide +kernel
theorem dX12_promise_170 : decode cX12_promise 170 = .ok (.bipush 124, 2) := by decide +kernel
theorem dX12_promise_172 : decode cX12_promise 172 = .ok (.iload_n 1, 1) := by decide +kernel
theorem dX12_promise_173 : decode cX12_promise 173 = .ok (.iadd, 1) := by decide +kernel
theorem dX12_promise_174 : decode cX12_promise 174 = .ok (.iaload, 1) := by decide +kernel
theorem dX12_promise_175 : decode cX12_promise 175 = .ok (.iconst 1, 1) := by decide +kernel
theorem dX12_promise_176 : decode cX12_promise 176 = .ok (.isub, 1) := by decide +kernel
theorem dX12_promise_177 : decode cX12_promise 177 = .ok (.ireturn, 1) := by decide +kernel
theorem dX12_promise_178 : decode cX12_promise 178 = .ok (.aload_n 0, 1) := by decide +kernel
theorem dX12_promise_179 : decode cX12_promise 179 = .ok (.getfield 33, 3) := by decide +kernel
theorem dX12_promise_182 : decode cX12_promise 182 = .ok (.sipush 132, 3) := by decide +kernel
theorem dX12_promise_185 : decode cX12_promise 185 = .ok (.iload_n 1, 1) := by decide +kernel
theorem dX12_promise_186 : decode cX12_promise 186 = .ok (.iadd, 1) := by decide +kernel
theorem dX12_promise_187 : decode cX12_promise 187 = .ok (.iaload, 1) := by decide +kernel
theorem dX12_promise_188 : decode cX12_promise 188 = .ok (.ireturn, 1) := by decide +kernel
theorem dX12_person_0 : decode cX12_person 0 = .ok (.aload_n 0, 1) := by decide +kernel
theorem dX12_person_1 : decode cX12_person 1 = .ok (.iconst 0, 1) := by decide +kernel
theorem dX12_person_2 : decode cX12_person 2 = .ok (.putfield 1, 3) := by decide +kernel
theorem dX12_person_5 : decode cX12_person 5 = .ok (.aload_n 0, 1) := by decide +kernel
theorem dX12_person_6 : decode cX12_person 6 = .ok (.iload_n 1, 1) := by decide +kernel
theorem dX12_person_7 : decode cX12_person 7 = .ok (.invokevirtual 251, 3) := by decide +kernel
theorem dX12_person_10 : decode cX12_person 10 = .ok (.ifCond .ne 5, 3) := by decide +kernel
theorem dX12_person_13 : decode cX12_person 13 = .ok (.iconst (-1), 1) := by decide +kernel
theorem dX12_person_14 : decode cX12_person 14 = .ok (.ireturn, 1) := by decide +kernel
theorem dX12_person_15 : decode cX12_person 15 = .ok (.iload_n 2, 1) := by decide +kernel
theorem dX12_person_16 : decode cX12_person 16 = .ok (.tableswitch 72 0 3 #[32, 42, 52, 62], 32) := by decide +kernel
theorem dX12_person_48 : decode cX12_person 48 = .ok (.aload_n 0, 1) := by decide +kernel
theorem dX12_person_49 : decode cX12_person 49 = .ok (.getfield 33, 3) := by decide +kernel
theorem dX12_person_52 : decode cX12_person 52 = .ok (.bipush 107, 2) := by decide +kernel
theorem dX12_person_54 : decode cX12_person 54 = .ok (.iload_n 1, 1) := by decide +kernel
theorem dX12_person_55 : decode cX12_person 55 = .ok (.iadd, 1) := by decide +kernel
theorem dX12_person_56 : decode cX12_person 56 = .ok (.iaload, 1) := by decide +kernel
theorem dX12_person_57 : decode cX12_person 57 = .ok (.ireturn, 1) := by decide +kernel
theorem dX12_person_58 : decode cX12_person 58 = .ok (.aload_n 0, 1) := by decide +kernel
theorem dX12_person_59 : decode cX12_person 59 = .ok (.getfield 33, 3) := by decide +kernel
theorem dX12_person_62 : decode cX12_person 62 = .ok (.bipush 111, 2) := by decide +kernel
theorem dX12_person_64 : decode cX12_person 64 = .ok (.iload_n 1, 1) := by decide +kernel
theorem dX12_person_65 : decode cX12_person 65 = .ok (.iadd, 1) := by decide +kernel
theorem dX12_person_66 : decode cX12_person 66 = .ok (.iaload, 1) := by decide +kernel
theorem dX12_person_67 : decode cX12_person 67 = .ok (.ireturn, 1) := by decide +kernel
theorem dX12_person_68 : decode cX12_person 68 = .ok (.aload_n 0, 1) := by decide +kernel
theorem dX12_person_69 : decode cX12_person 69 = .ok (.getfield 33, 3) := by decide +kernel
theorem dX12_person_72 : decode cX12_person 72 = .ok (.bipush 115, 2) := by decide +kernel
theorem dX12_person_74 : decode cX12_person 74 = .ok (.iload_n 1, 1) := by decide +kernel
theorem dX12_person_75 : decode cX12_person 75 = .ok (.iadd, 1) := by decide +kernel
theorem dX12_person_76 : decode cX12_person 76 = .ok (.iaload, 1) := by decide +kernel
theorem dX12_person_77 : decode cX12_person 77 = .ok (.ireturn, 1) := by decide +kernel
theorem dX12_person_78 : decode cX12_person 78 = .ok (.aload_n 0, 1) := by decide +kernel
theorem dX12_person_79 : decode cX12_person 79 = .ok (.getfield 33, 3) := by decide +kernel
theorem dX12_person_82 : decode cX12_person 82 = .ok (.bipush 119, 2) := by decide +kernel
theorem dX12_person_84 : decode cX12_person 84 = .ok (.iload_n 1, 1) := by decide +kernel
theorem dX12_person_85 : decode cX12_person 85 = .ok (.iadd, 1) := by decide +kernel
theorem dX12_person_86 : decode cX12_person 86 = .ok (.iaload, 1) := by decide +kernel
theorem dX12_person_87 : decode cX12_person 87 = .ok (.ireturn, 1) := by decide +kernel
theorem dX12_person_88 : decode cX12_person 88 = .ok (.iconst (-1), 1) := by decide +kernel
theorem dX12_person_89 : decode cX12_person 89 = .ok (.ireturn, 1) := by decide +kernel
theorem dX12_way_0 : decode cX12_way 0 = .ok (.aload_n 0, 1) := by decide +kernel
theorem dX12_way_1 : decode cX12_way 1 = .ok (.iconst 0, 1) := by decide +kernel
theorem dX12_way_2 : decode cX12_way 2 = .ok (.putfield 1, 3) := by decide +kernel
theorem dX12_way_5 : decode cX12_way 5 = .ok (.aload_n 0, 1) := by decide +kernel
theorem dX12_way_6 : decode cX12_way 6 = .ok (.iload_n 1, 1) := by decide +kernel
theorem dX12_way_7 : decode cX12_way 7 = .ok (.invokevirtual 254, 3) := by decide +kernel
theorem dX12_way_10 : decode cX12_way 10 = .ok (.ifCond .eq 11, 3) := by decide +kernel
theorem dX12_way_13 : decode cX12_way 13 = .ok (.aload_n 0, 1) := by decide +kernel
theorem dX12_way_14 : decode cX12_way 14 = .ok (.iload_n 2, 1) := by decide +kernel
theorem dX12_way_15 : decode cX12_way 15 = .ok (.invokevirtual 254, 3) := by decide +kernel
theorem dX12_way_18 : decode cX12_way 18 = .ok (.ifCond .ne 5, 3) := by decide +kernel
theorem dX12_way_21 : decode cX12_way 21 = .ok (.iconst (-1), 1) := by decide +kernel
theorem dX12_way_22 : decode cX12_way 22 = .ok (.ireturn, 1) := by decide +kernel
theorem dX12_way_23 : decode cX12_way 23 = .ok (.iconst 0, 1) := by decide +kernel
theorem dX12_way_24 : decode cX12_way 24 = .ok (.istore_n 3, 1) := by decide +kernel
theorem dX12_way_25 : decode cX12_way 25 = .ok (.iload_n 3, 1) := by decide +kernel
theorem dX12_way_26 : decode cX12_way 26 = .ok (.bipush 8, 2) := by decide +kernel
theorem dX12_way_28 : decode cX12_way 28 = .ok (.if_icmp .ge 27, 3) := by decide +kernel
theorem dX12_way_31 : decode cX12_way 31 = .ok (.aload_n 0, 1) := by decide +kernel
theorem dX12_way_32 : decode cX12_way 32 = .ok (.getfield 50, 3) := by decide +kernel
theorem dX12_way_35 : decode cX12_way 35 = .ok (.iload_n 3, 1) := by decide +kernel
theorem dX12_way_36 : decode cX12_way 36 = .ok (.iload_n 3, 1) := by decide +kernel
theorem dX12_way_37 : decode cX12_way 37 = .ok (.iload_n 1, 1) := by decide +kernel
theorem dX12_way_38 : decode cX12_way 38 = .ok (.if_icmp .ne 7, 3) := by decide +kernel
theorem dX12_way_41 : decode cX12_way 41 = .ok (.iconst 0, 1) := by decide +kernel
theorem dX12_way_42 : decode cX12_way 42 = .ok (.goto 6, 3) := by decide +kernel
theorem dX12_way_45 : decode cX12_way 45 = .ok (.sipush 1000, 3) := by decide +kernel
theorem dX12_way_48 : decode cX12_way 48 = .ok (.iastore, 1) := by decide +kernel
theorem dX12_way_49 : decode cX12_way 49 = .ok (.iinc 3 1, 3) := by decide +kernel
theorem dX12_way_52 : decode cX12_way 52 = .ok (.goto (-27), 3) := by decide +kernel
theorem dX12_way_55 : decode cX12_way 55 = .ok (.iconst 0, 1) := by decide +kernel
theorem dX12_way_56 : decode cX12_way 56 = .ok (.istore_n 3, 1) := by decide +kernel
theorem dX12_way_57 : decode cX12_way 57 = .ok (.iload_n 3, 1) := by decide +kernel
theorem dX12_way_58 : decode cX12_way 58 = .ok (.bipush 8, 2) := by decide +kernel
theorem dX12_way_60 : decode cX12_way 60 = .ok (.if_icmp .ge 94, 3) := by decide +kernel
theorem dX12_way_63 : decode cX12_way 63 = .ok (.iconst 0, 1) := by decide +kernel
theorem dX12_way_64 : decode cX12_way 64 = .ok (.istore 4, 2) := by decide +kernel
theorem dX12_way_66 : decode cX12_way 66 = .ok (.iload 4, 2) := by decide +kernel
theorem dX12_way_68 : decode cX12_way 68 = .ok (.bipush 8, 2) := by decide +kernel
theorem dX12_way_70 : decode cX12_way 70 = .ok (.if_icmp .ge 78, 3) := by decide +kernel
theorem dX12_way_73 : decode cX12_way 73 = .ok (.iconst 0, 1) := by decide +kernel
theorem dX12_way_74 : decode cX12_way 74 = .ok (.istore 5, 2) := by decide +kernel
theorem dX12_way_76 : decode cX12_way 76 = .ok (.iload 5, 2) := by decide +kernel
theorem dX12_way_78 : decode cX12_way 78 = .ok (.bipush 8, 2) := by decide +kernel
theorem dX12_way_80 : decode cX12_way 80 = .ok (.if_icmp .ge 62, 3) := by decide +kernel
theorem dX12_way_83 : decode cX12_way 83 = .ok (.aload_n 0, 1) := by decide +kernel
theorem dX12_way_84 : decode cX12_way 84 = .ok (.getfield 33, 3) := by decide +kernel
theorem dX12_way_87 : decode cX12_way 87 = .ok (.bipush 8, 2) := by decide +kernel
theorem dX12_way_89 : decode cX12_way 89 = .ok (.iload 4, 2) := by decide +kernel
theorem dX12_way_91 : decode cX12_way 91 = .ok (.iadd, 1) := by decide +kernel
theorem dX12_way_92 : decode cX12_way 92 = .ok (.iaload, 1) := by decide +kernel
theorem dX12_way_93 : decode cX12_way 93 = .ok (.iload 5, 2) := by decide +kernel
theorem dX12_way_95 : decode cX12_way 95 = .ok (.invokestatic 223, 3) := by decide +kernel
theorem dX12_way_98 : decode cX12_way 98 = .ok (.ifCond .eq 38, 3) := by decide +kernel
theorem dX12_way_101 : decode cX12_way 101 = .ok (.aload_n 0, 1) := by decide +kernel
theorem dX12_way_102 : decode cX12_way 102 = .ok (.getfield 50, 3) := by decide +kernel
theorem dX12_way_105 : decode cX12_way 105 = .ok (.iload 4, 2) := by decide +kernel
theorem dX12_way_107 : decode cX12_way 107 = .ok (.iaload, 1) := by decide +kernel
theorem dX12_way_108 : decode cX12_way 108 = .ok (.iconst 1, 1) := by decide +kernel
theorem dX12_way_109 : decode cX12_way 109 = .ok (.iadd, 1) := by decide +kernel
theorem dX12_way_110 : decode cX12_way 110 = .ok (.aload_n 0, 1) := by decide +kernel
theorem dX12_way_111 : decode cX12_way 111 = .ok (.getfield 50, 3) := by decide +kernel
theorem dX12_way_114 : decode cX12_way 114 = .ok (.iload 5, 2) := by decide +kernel
theorem dX12_way_116 : decode cX12_way 116 = .ok (.iaload, 1) := by decide +kernel
theorem dX12_way_117 : decode cX12_way 117 = .ok (.if_icmp .ge 19, 3) := by decide +kernel
theorem dX12_way_120 : decode cX12_way 120 = .ok (.aload_n 0, 1) := by decide +kernel
theorem dX12_way_121 : decode cX12_way 121 = .ok (.getfield 50, 3) := by decide +kernel
theorem dX12_way_124 : decode cX12_way 124 = .ok (.iload 5, 2) := by decide +kernel
theorem dX12_way_126 : decode cX12_way 126 = .ok (.aload_n 0, 1) := by decide +kernel
theorem dX12_way_127 : decode cX12_way 127 = .ok (.getfield 50, 3) := by decide +kernel
theorem dX12_way_130 : decode cX12_way 130 = .ok (.iload 4, 2) := by decide +kernel
theorem dX12_way_132 : decode cX12_way 132 = .ok (.iaload, 1) := by decide +kernel
theorem dX12_way_133 : decode cX12_way 133 = .ok (.iconst 1, 1) := by decide +kernel
theorem dX12_way_134 : decode cX12_way 134 = .ok (.iadd, 1) := by decide +kernel
theorem dX12_way_135 : decode cX12_way 135 = .ok (.iastore, 1) := by decide +kernel
theorem dX12_way_136 : decode cX12_way 136 = .ok (.iinc 5 1, 3) := by decide +kernel
theorem dX12_way_139 : decode cX12_way 139 = .ok (.goto (-63), 3) := by decide +kernel
theorem dX12_way_142 : decode cX12_way 142 = .ok (.iinc 4 1, 3) := by decide +kernel
theorem dX12_way_145 : decode cX12_way 145 = .ok (.goto (-79), 3) := by decide +kernel
theorem dX12_way_148 : decode cX12_way 148 = .ok (.iinc 3 1, 3) := by decide +kernel
theorem dX12_way_151 : decode cX12_way 151 = .ok (.goto (-94), 3) := by decide +kernel
theorem dX12_way_154 : decode cX12_way 154 = .ok (.aload_n 0, 1) := by decide +kernel
theorem dX12_way_155 : decode cX12_way 155 = .ok (.getfield 50, 3) := by decide +kernel
theorem dX12_way_158 : decode cX12_way 158 = .ok (.iload_n 2, 1) := by decide +kernel
theorem dX12_way_159 : decode cX12_way 159 = .ok (.iaload, 1) := by decide +kernel
theorem dX12_way_160 : decode cX12_way 160 = .ok (.sipush 1000, 3) := by decide +kernel
theorem dX12_way_163 : decode cX12_way 163 = .ok (.if_icmp .ge 12, 3) := by decide +kernel
theorem dX12_way_166 : decode cX12_way 166 = .ok (.aload_n 0, 1) := by decide +kernel
theorem dX12_way_167 : decode cX12_way 167 = .ok (.getfield 50, 3) := by decide +kernel
theorem dX12_way_170 : decode cX12_way 170 = .ok (.iload_n 2, 1) := by decide +kernel
theorem dX12_way_171 : decode cX12_way 171 = .ok (.iaload, 1) := by decide +kernel
theorem dX12_way_172 : decode cX12_way 172 = .ok (.goto 4, 3) := by decide +kernel
theorem dX12_way_175 : decode cX12_way 175 = .ok (.iconst (-1), 1) := by decide +kernel
theorem dX12_way_176 : decode cX12_way 176 = .ok (.ireturn, 1) := by decide +kernel
theorem dX12_frog_0 : decode cX12_frog 0 = .ok (.aload_n 0, 1) := by decide +kernel
theorem dX12_frog_1 : decode cX12_frog 1 = .ok (.iconst 0, 1) := by decide +kernel
theorem dX12_frog_2 : decode cX12_frog 2 = .ok (.putfield 1, 3) := by decide +kernel
theorem dX12_frog_5 : decode cX12_frog 5 = .ok (.iload_n 1, 1) := by decide +kernel
theorem dX12_frog_6 : decode cX12_frog 6 = .ok (.iconst 0, 1) := by decide +kernel
theorem dX12_frog_7 : decode cX12_frog 7 = .ok (.aload_n 0, 1) := by decide +kernel
theorem dX12_frog_8 : decode cX12_frog 8 = .ok (.getfield 33, 3) := by decide +kernel
theorem dX12_frog_11 : decode cX12_frog 11 = .ok (.iconst 3, 1) := by decide +kernel
theorem dX12_frog_12 : decode cX12_frog 12 = .ok (.iaload, 1) := by decide +kernel
theorem dX12_frog_13 : decode cX12_frog 13 = .ok (.iconst 1, 1) := by decide +kernel
theorem dX12_frog_14 : decode cX12_frog 14 = .ok (.isub, 1) := by decide +kernel
theorem dX12_frog_15 : decode cX12_frog 15 = .ok (.invokestatic 187, 3) := by decide +kernel
theorem dX12_frog_18 : decode cX12_frog 18 = .ok (.ifCond .eq 15, 3) := by decide +kernel
theorem dX12_frog_21 : decode cX12_frog 21 = .ok (.aload_n 0, 1) := by decide +kernel
theorem dX12_frog_22 : decode cX12_frog 22 = .ok (.getfield 33, 3) := by decide +kernel
theorem dX12_frog_25 : decode cX12_frog 25 = .ok (.bipush 16, 2) := by decide +kernel
theorem dX12_frog_27 : decode cX12_frog 27 = .ok (.iload_n 1, 1) := by decide +kernel
theorem dX12_frog_28 : decode cX12_frog 28 = .ok (.iadd, 1) := by decide +kernel
theorem dX12_frog_29 : decode cX12_frog 29 = .ok (.iaload, 1) := by decide +kernel
theorem dX12_frog_30 : decode cX12_frog 30 = .ok (.goto 4, 3) := by decide +kernel
theorem dX12_frog_33 : decode cX12_frog 33 = .ok (.iconst (-1), 1) := by decide +kernel
theorem dX12_frog_34 : decode cX12_frog 34 = .ok (.ireturn, 1) := by decide +kernel
theorem dX12_now_0 : decode cX12_now 0 = .ok (.aload_n 0, 1) := by decide +kernel
theorem dX12_now_1 : decode cX12_now 1 = .ok (.iconst 0, 1) := by decide +kernel
theorem dX12_now_2 : decode cX12_now 2 = .ok (.putfield 1, 3) := by decide +kernel
theorem dX12_now_5 : decode cX12_now 5 = .ok (.iconst 0, 1) := by decide +kernel
theorem dX12_now_6 : decode cX12_now 6 = .ok (.istore_n 2, 1) := by decide +kernel
theorem dX12_now_7 : decode cX12_now 7 = .ok (.iconst 0, 1) := by decide +kernel
theorem dX12_now_8 : decode cX12_now 8 = .ok (.istore_n 3, 1) := by decide +kernel
theorem dX12_now_9 : decode cX12_now 9 = .ok (.iconst 0, 1) := by decide +kernel
theorem dX12_now_10 : decode cX12_now 10 = .ok (.istore 4, 2) := by decide +kernel
theorem dX12_now_12 : decode cX12_now 12 = .ok (.iconst 0, 1) := by decide +kernel
theorem dX12_now_13 : decode cX12_now 13 = .ok (.istore 5, 2) := by decide +kernel
theorem dX12_now_15 : decode cX12_now 15 = .ok (.iload 5, 2) := by decide +kernel
theorem dX12_now_17 : decode cX12_now 17 = .ok (.aload_n 0, 1) := by decide +kernel
theorem dX12_now_18 : decode cX12_now 18 = .ok (.getfield 33, 3) := by decide +kernel
theorem dX12_now_21 : decode cX12_now 21 = .ok (.bipush 6, 2) := by decide +kernel
theorem dX12_now_23 : decode cX12_now 23 = .ok (.iaload, 1) := by decide +kernel
theorem dX12_now_24 : decode cX12_now 24 = .ok (.if_icmp .ge 65, 3) := by decide +kernel
theorem dX12_now_27 : decode cX12_now 27 = .ok (.iload_n 2, 1) := by decide +kernel
theorem dX12_now_28 : decode cX12_now 28 = .ok (.aload_n 0, 1) := by decide +kernel
theorem dX12_now_29 : decode cX12_now 29 = .ok (.getfield 33, 3) := by decide +kernel
theorem dX12_now_32 : decode cX12_now 32 = .ok (.bipush 124, 2) := by decide +kernel
theorem dX12_now_34 : decode cX12_now 34 = .ok (.iload 5, 2) := by decide +kernel
theorem dX12_now_36 : decode cX12_now 36 = .ok (.iadd, 1) := by decide +kernel
theorem dX12_now_37 : decode cX12_now 37 = .ok (.iaload, 1) := by decide +kernel
theorem dX12_now_38 : decode cX12_now 38 = .ok (.ifCond .le 7, 3) := by decide +kernel
theorem dX12_now_41 : decode cX12_now 41 = .ok (.iconst 1, 1) := by decide +kernel
theorem dX12_now_42 : decode cX12_now 42 = .ok (.goto 4, 3) := by decide +kernel
theorem dX12_now_45 : decode cX12_now 45 = .ok (.iconst 0, 1) := by decide +kernel
theorem dX12_now_46 : decode cX12_now 46 = .ok (.iadd, 1) := by decide +kernel
theorem dX12_now_47 : decode cX12_now 47 = .ok (.istore_n 2, 1) := by decide +kernel
theorem dX12_now_48 : decode cX12_now 48 = .ok (.iload_n 3, 1) := by decide +kernel
theorem dX12_now_49 : decode cX12_now 49 = .ok (.aload_n 0, 1) := by decide +kernel
theorem dX12_now_50 : decode cX12_now 50 = .ok (.getfield 33, 3) := by decide +kernel
theorem dX12_now_53 : decode cX12_now 53 = .ok (.sipush 132, 3) := by decide +kernel
theorem dX12_now_56 : decode cX12_now 56 = .ok (.iload 5, 2) := by decide +kernel
theorem dX12_now_58 : decode cX12_now 58 = .ok (.iadd, 1) := by decide +kernel
theorem dX12_now_59 : decode cX12_now 59 = .ok (.iaload, 1) := by decide +kernel
theorem dX12_now_60 : decode cX12_now 60 = .ok (.iadd, 1) := by decide +kernel
theorem dX12_now_61 : decode cX12_now 61 = .ok (.istore_n 3, 1) := by decide +kernel
theorem dX12_now_62 : decode cX12_now 62 = .ok (.iload 4, 2) := by decide +kernel
theorem dX12_now_64 : decode cX12_now 64 = .ok (.aload_n 0, 1) := by decide +kernel
theorem dX12_now_65 : decode cX12_now 65 = .ok (.iload 5, 2) := by decide +kernel
theorem dX12_now_67 : decode cX12_now 67 = .ok (.iconst 0, 1) := by decide +kernel
theorem dX12_now_68 : decode cX12_now 68 = .ok (.invokevirtual 257, 3) := by decide +kernel
theorem dX12_now_71 : decode cX12_now 71 = .ok (.iconst 4, 1) := by decide +kernel
theorem dX12_now_72 : decode cX12_now 72 = .ok (.if_icmp .ne 7, 3) := by decide +kernel
theorem dX12_now_75 : decode cX12_now 75 = .ok (.iconst 1, 1) := by decide +kernel
theorem dX12_now_76 : decode cX12_now 76 = .ok (.goto 4, 3) := by decide +kernel
theorem dX12_now_79 : decode cX12_now 79 = .ok (.iconst 0, 1) := by decide +kernel
theorem dX12_now_80 : decode cX12_now 80 = .ok (.iadd, 1) := by decide +kernel
theorem dX12_now_81 : decode cX12_now 81 = .ok (.istore 4, 2) := by decide +kernel
theorem dX12_now_83 : decode cX12_now 83 = .ok (.iinc 5 1, 3) := by decide +kernel
theorem dX12_now_86 : decode cX12_now 86 = .ok (.goto (-71), 3) := by decide +kernel
theorem dX12_now_89 : decode cX12_now 89 = .ok (.iload_n 1, 1) := by decide +kernel
theorem dX12_now_90 : decode cX12_now 90 = .ok (.tableswitch 73 0 5 #[38, 43, 58, 66, 68, 70], 38) := by decide +kernel
theorem dX12_now_128 : decode cX12_now 128 = .ok (.aload_n 0, 1) := by decide +kernel
theorem dX12_now_129 : decode cX12_now 129 = .ok (.invokevirtual 260, 3) := by decide +kernel
theorem dX12_now_132 : decode cX12_now 132 = .ok (.ireturn, 1) := by decide +kernel
theorem dX12_now_133 : decode cX12_now 133 = .ok (.aload_n 0, 1) := by decide +kernel
theorem dX12_now_134 : decode cX12_now 134 = .ok (.getfield 33, 3) := by decide +kernel
theorem dX12_now_137 : decode cX12_now 137 = .ok (.bipush 106, 2) := by decide +kernel
theorem dX12_now_139 : decode cX12_now 139 = .ok (.iaload, 1) := by decide +kernel
theorem dX12_now_140 : decode cX12_now 140 = .ok (.aload_n 0, 1) := by decide +kernel
theorem dX12_now_141 : decode cX12_now 141 = .ok (.getfield 33, 3) := by decide +kernel
theorem dX12_now_144 : decode cX12_now 144 = .ok (.iconst 0, 1) := by decide +kernel
theorem dX12_now_145 : decode cX12_now 145 = .ok (.iaload, 1) := by decide +kernel
theorem dX12_now_146 : decode cX12_now 146 = .ok (.irem, 1) := by decide +kernel
theorem dX12_now_147 : decode cX12_now 147 = .ok (.ireturn, 1) := by decide +kernel
theorem dX12_now_148 : decode cX12_now 148 = .ok (.aload_n 0, 1) := by decide +kernel
theorem dX12_now_149 : decode cX12_now 149 = .ok (.getfield 33, 3) := by decide +kernel
theorem dX12_now_152 : decode cX12_now 152 = .ok (.bipush 123, 2) := by decide +kernel
theorem dX12_now_154 : decode cX12_now 154 = .ok (.iaload, 1) := by decide +kernel
theorem dX12_now_155 : decode cX12_now 155 = .ok (.ireturn, 1) := by decide +kernel
theorem dX12_now_156 : decode cX12_now 156 = .ok (.iload_n 2, 1) := by decide +kernel
theorem dX12_now_157 : decode cX12_now 157 = .ok (.ireturn, 1) := by decide +kernel
theorem dX12_now_158 : decode cX12_now 158 = .ok (.iload_n 3, 1) := by decide +kernel
theorem dX12_now_159 : decode cX12_now 159 = .ok (.ireturn, 1) := by decide +kernel
theorem dX12_now_160 : decode cX12_now 160 = .ok (.iload 4, 2) := by decide +kernel
theorem dX12_now_162 : decode cX12_now 162 = .ok (.ireturn, 1) := by decide +kernel
theorem dX12_now_163 : decode cX12_now 163 = .ok (.iconst (-1), 1) := by decide +kernel
theorem dX12_now_164 : decode cX12_now 164 = .ok (.ireturn, 1) := by decide +kernel
theorem dX12_isOver_0 : decode cX12_isOver 0 = .ok (.aload_n 0, 1) := by decide +kernel
theorem dX12_isOver_1 : decode cX12_isOver 1 = .ok (.getfield 33, 3) := by decide +kernel
theorem dX12_isOver_4 : decode cX12_isOver 4 = .ok (.bipush 106, 2) := by decide +kernel
theorem dX12_isOver_6 : decode cX12_isOver 6 = .ok (.iaload, 1) := by decide +kernel
theorem dX12_isOver_7 : decode cX12_isOver 7 = .ok (.bipush 20, 2) := by decide +kernel
theorem dX12_isOver_9 : decode cX12_isOver 9 = .ok (.aload_n 0, 1) := by decide +kernel
theorem dX12_isOver_10 : decode cX12_isOver 10 = .ok (.getfield 33, 3) := by decide +kernel
theorem dX12_isOver_13 : decode cX12_isOver 13 = .ok (.iconst 0, 1) := by decide +kernel
theorem dX12_isOver_14 : decode cX12_isOver 14 = .ok (.iaload, 1) := by decide +kernel
theorem dX12_isOver_15 : decode cX12_isOver 15 = .ok (.imul, 1) := by decide +kernel
theorem dX12_isOver_16 : decode cX12_isOver 16 = .ok (.if_icmp .ne 7, 3) := by decide +kernel
theorem dX12_isOver_19 : decode cX12_isOver 19 = .ok (.iconst 1, 1) := by decide +kernel
theorem dX12_isOver_20 : decode cX12_isOver 20 = .ok (.goto 4, 3) := by decide +kernel
theorem dX12_isOver_23 : decode cX12_isOver 23 = .ok (.iconst 0, 1) := by decide +kernel
theorem dX12_isOver_24 : decode cX12_isOver 24 = .ok (.ireturn, 1) := by decide +kernel
theorem dX12_whyGoOf_0 : decode cX12_whyGoOf 0 = .ok (.aload_n 0, 1) := by decide +kernel
theorem dX12_whyGoOf_1 : decode cX12_whyGoOf 1 = .ok (.getfield 33, 3) := by decide +kernel
theorem dX12_whyGoOf_4 : decode cX12_whyGoOf 4 = .ok (.bipush 111, 2) := by decide +kernel
theorem dX12_whyGoOf_6 : decode cX12_whyGoOf 6 = .ok (.iload_n 1, 1) := by decide +kernel
theorem dX12_whyGoOf_7 : decode cX12_whyGoOf 7 = .ok (.iadd, 1) := by decide +kernel
theorem dX12_whyGoOf_8 : decode cX12_whyGoOf 8 = .ok (.iaload, 1) := by decide +kernel
theorem dX12_whyGoOf_9 : decode cX12_whyGoOf 9 = .ok (.iconst 1, 1) := by decide +kernel
theorem dX12_whyGoOf_10 : decode cX12_whyGoOf 10 = .ok (.if_icmp .ne 7, 3) := by decide +kernel
theorem dX12_whyGoOf_13 : decode cX12_whyGoOf 13 = .ok (.iconst 1, 1) := by decide +kernel
theorem dX12_whyGoOf_14 : decode cX12_whyGoOf 14 = .ok (.goto 43, 3) := by decide +kernel
theorem dX12_whyGoOf_17 : decode cX12_whyGoOf 17 = .ok (.aload_n 0, 1) := by decide +kernel
theorem dX12_whyGoOf_18 : decode cX12_whyGoOf 18 = .ok (.getfield 33, 3) := by decide +kernel
theorem dX12_whyGoOf_21 : decode cX12_whyGoOf 21 = .ok (.bipush 8, 2) := by decide +kernel
theorem dX12_whyGoOf_23 : decode cX12_whyGoOf 23 = .ok (.aload_n 0, 1) := by decide +kernel
theorem dX12_whyGoOf_24 : decode cX12_whyGoOf 24 = .ok (.getfield 33, 3) := by decide +kernel
theorem dX12_whyGoOf_27 : decode cX12_whyGoOf 27 = .ok (.bipush 107, 2) := by decide +kernel
theorem dX12_whyGoOf_29 : decode cX12_whyGoOf 29 = .ok (.iload_n 1, 1) := by decide +kernel
theorem dX12_whyGoOf_30 : decode cX12_whyGoOf 30 = .ok (.iadd, 1) := by decide +kernel
theorem dX12_whyGoOf_31 : decode cX12_whyGoOf 31 = .ok (.iaload, 1) := by decide +kernel
theorem dX12_whyGoOf_32 : decode cX12_whyGoOf 32 = .ok (.iadd, 1) := by decide +kernel
theorem dX12_whyGoOf_33 : decode cX12_whyGoOf 33 = .ok (.iaload, 1) := by decide +kernel
theorem dX12_whyGoOf_34 : decode cX12_whyGoOf 34 = .ok (.iload_n 2, 1) := by decide +kernel
theorem dX12_whyGoOf_35 : decode cX12_whyGoOf 35 = .ok (.invokestatic 223, 3) := by decide +kernel
theorem dX12_whyGoOf_38 : decode cX12_whyGoOf 38 = .ok (.ifCond .ne 7, 3) := by decide +kernel
theorem dX12_whyGoOf_41 : decode cX12_whyGoOf 41 = .ok (.iconst 2, 1) := by decide +kernel
theorem dX12_whyGoOf_42 : decode cX12_whyGoOf 42 = .ok (.goto 15, 3) := by decide +kernel
theorem dX12_whyGoOf_45 : decode cX12_whyGoOf 45 = .ok (.aload_n 0, 1) := by decide +kernel
theorem dX12_whyGoOf_46 : decode cX12_whyGoOf 46 = .ok (.invokevirtual 263, 3) := by decide +kernel
theorem dX12_whyGoOf_49 : decode cX12_whyGoOf 49 = .ok (.ifCond .eq 7, 3) := by decide +kernel
theorem dX12_whyGoOf_52 : decode cX12_whyGoOf 52 = .ok (.iconst 3, 1) := by decide +kernel
theorem dX12_whyGoOf_53 : decode cX12_whyGoOf 53 = .ok (.goto 4, 3) := by decide +kernel
theorem dX12_whyGoOf_56 : decode cX12_whyGoOf 56 = .ok (.iconst 0, 1) := by decide +kernel
theorem dX12_whyGoOf_57 : decode cX12_whyGoOf 57 = .ok (.ireturn, 1) := by decide +kernel
theorem dX12_whyAct_0 : decode cX12_whyAct 0 = .ok (.aload_n 0, 1) := by decide +kernel
theorem dX12_whyAct_1 : decode cX12_whyAct 1 = .ok (.getfield 33, 3) := by decide +kernel
theorem dX12_whyAct_4 : decode cX12_whyAct 4 = .ok (.bipush 111, 2) := by decide +kernel
theorem dX12_whyAct_6 : decode cX12_whyAct 6 = .ok (.iload_n 1, 1) := by decide +kernel
theorem dX12_whyAct_7 : decode cX12_whyAct 7 = .ok (.iadd, 1) := by decide +kernel
theorem dX12_whyAct_8 : decode cX12_whyAct 8 = .ok (.iaload, 1) := by decide +kernel
theorem dX12_whyAct_9 : decode cX12_whyAct 9 = .ok (.iconst 1, 1) := by decide +kernel
theorem dX12_whyAct_10 : decode cX12_whyAct 10 = .ok (.if_icmp .ne 7, 3) := by decide +kernel
theorem dX12_whyAct_13 : decode cX12_whyAct 13 = .ok (.iconst 1, 1) := by decide +kernel
theorem dX12_whyAct_14 : decode cX12_whyAct 14 = .ok (.goto 31, 3) := by decide +kernel
theorem dX12_whyAct_17 : decode cX12_whyAct 17 = .ok (.aload_n 0, 1) := by decide +kernel
theorem dX12_whyAct_18 : decode cX12_whyAct 18 = .ok (.invokevirtual 263, 3) := by decide +kernel
theorem dX12_whyAct_21 : decode cX12_whyAct 21 = .ok (.ifCond .eq 7, 3) := by decide +kernel
theorem dX12_whyAct_24 : decode cX12_whyAct 24 = .ok (.iconst 3, 1) := by decide +kernel
theorem dX12_whyAct_25 : decode cX12_whyAct 25 = .ok (.goto 20, 3) := by decide +kernel
theorem dX12_whyAct_28 : decode cX12_whyAct 28 = .ok (.aload_n 0, 1) := by decide +kernel
theorem dX12_whyAct_29 : decode cX12_whyAct 29 = .ok (.getfield 33, 3) := by decide +kernel
theorem dX12_whyAct_32 : decode cX12_whyAct 32 = .ok (.bipush 123, 2) := by decide +kernel
theorem dX12_whyAct_34 : decode cX12_whyAct 34 = .ok (.iaload, 1) := by decide +kernel
theorem dX12_whyAct_35 : decode cX12_whyAct 35 = .ok (.bipush 80, 2) := by decide +kernel
theorem dX12_whyAct_37 : decode cX12_whyAct 37 = .ok (.if_icmp .ne 7, 3) := by decide +kernel
theorem dX12_whyAct_40 : decode cX12_whyAct 40 = .ok (.iconst 4, 1) := by decide +kernel
theorem dX12_whyAct_41 : decode cX12_whyAct 41 = .ok (.goto 4, 3) := by decide +kernel
theorem dX12_whyAct_44 : decode cX12_whyAct 44 = .ok (.iconst 0, 1) := by decide +kernel
theorem dX12_whyAct_45 : decode cX12_whyAct 45 = .ok (.ireturn, 1) := by decide +kernel
theorem dX12_whySay_0 : decode cX12_whySay 0 = .ok (.aload_n 0, 1) := by decide +kernel
theorem dX12_whySay_1 : decode cX12_whySay 1 = .ok (.invokevirtual 263, 3) := by decide +kernel
theorem dX12_whySay_4 : decode cX12_whySay 4 = .ok (.ifCond .eq 7, 3) := by decide +kernel
theorem dX12_whySay_7 : decode cX12_whySay 7 = .ok (.iconst 3, 1) := by decide +kernel
theorem dX12_whySay_8 : decode cX12_whySay 8 = .ok (.goto 38, 3) := by decide +kernel
theorem dX12_whySay_11 : decode cX12_whySay 11 = .ok (.aload_n 0, 1) := by decide +kernel
theorem dX12_whySay_12 : decode cX12_whySay 12 = .ok (.getfield 33, 3) := by decide +kernel
theorem dX12_whySay_15 : decode cX12_whySay 15 = .ok (.bipush 26, 2) := by decide +kernel
theorem dX12_whySay_17 : decode cX12_whySay 17 = .ok (.iload_n 2, 1) := by decide +kernel
theorem dX12_whySay_18 : decode cX12_whySay 18 = .ok (.iadd, 1) := by decide +kernel
theorem dX12_whySay_19 : decode cX12_whySay 19 = .ok (.iaload, 1) := by decide +kernel
theorem dX12_whySay_20 : decode cX12_whySay 20 = .ok (.iload_n 1, 1) := by decide +kernel
theorem dX12_whySay_21 : decode cX12_whySay 21 = .ok (.if_icmp .eq 7, 3) := by decide +kernel
theorem dX12_whySay_24 : decode cX12_whySay 24 = .ok (.iconst 5, 1) := by decide +kernel
theorem dX12_whySay_25 : decode cX12_whySay 25 = .ok (.goto 21, 3) := by decide +kernel
theorem dX12_whySay_28 : decode cX12_whySay 28 = .ok (.aload_n 0, 1) := by decide +kernel
theorem dX12_whySay_29 : decode cX12_whySay 29 = .ok (.getfield 33, 3) := by decide +kernel
theorem dX12_whySay_32 : decode cX12_whySay 32 = .ok (.bipush 124, 2) := by decide +kernel
theorem dX12_whySay_34 : decode cX12_whySay 34 = .ok (.iload_n 2, 1) := by decide +kernel
theorem dX12_whySay_35 : decode cX12_whySay 35 = .ok (.iadd, 1) := by decide +kernel
theorem dX12_whySay_36 : decode cX12_whySay 36 = .ok (.iaload, 1) := by decide +kernel
theorem dX12_whySay_37 : decode cX12_whySay 37 = .ok (.ifCond .le 8, 3) := by decide +kernel
theorem dX12_whySay_40 : decode cX12_whySay 40 = .ok (.bipush 6, 2) := by decide +kernel
theorem dX12_whySay_42 : decode cX12_whySay 42 = .ok (.goto 4, 3) := by decide +kernel
theorem dX12_whySay_45 : decode cX12_whySay 45 = .ok (.iconst 0, 1) := by decide +kernel
theorem dX12_whySay_46 : decode cX12_whySay 46 = .ok (.ireturn, 1) := by decide +kernel
theorem dX12_goes_0 : decode cX12_goes 0 = .ok (.aload_n 0, 1) := by decide +kernel
theorem dX12_goes_1 : decode cX12_goes 1 = .ok (.getfield 33, 3) := by decide +kernel
theorem dX12_goes_4 : decode cX12_goes 4 = .ok (.bipush 107, 2) := by decide +kernel
theorem dX12_goes_6 : decode cX12_goes 6 = .ok (.iload_n 1, 1) := by decide +kernel
theorem dX12_goes_7 : decode cX12_goes 7 = .ok (.iadd, 1) := by decide +kernel
theorem dX12_goes_8 : decode cX12_goes 8 = .ok (.iload_n 2, 1) := by decide +kernel
theorem dX12_goes_9 : decode cX12_goes 9 = .ok (.iastore, 1) := by decide +kernel
theorem dX12_goes_10 : decode cX12_goes 10 = .ok (.aload_n 0, 1) := by decide +kernel
theorem dX12_goes_11 : decode cX12_goes 11 = .ok (.getfield 33, 3) := by decide +kernel
theorem dX12_goes_14 : decode cX12_goes 14 = .ok (.bipush 111, 2) := by decide +kernel
theorem dX12_goes_16 : decode cX12_goes 16 = .ok (.iload_n 1, 1) := by decide +kernel
theorem dX12_goes_17 : decode cX12_goes 17 = .ok (.iadd, 1) := by decide +kernel
theorem dX12_goes_18 : decode cX12_goes 18 = .ok (.iconst 1, 1) := by decide +kernel
theorem dX12_goes_19 : decode cX12_goes 19 = .ok (.iastore, 1) := by decide +kernel
theorem dX12_goes_20 : decode cX12_goes 20 = .ok (.aload_n 0, 1) := by decide +kernel
theorem dX12_goes_21 : decode cX12_goes 21 = .ok (.getfield 33, 3) := by decide +kernel
theorem dX12_goes_24 : decode cX12_goes 24 = .ok (.bipush 119, 2) := by decide +kernel
theorem dX12_goes_26 : decode cX12_goes 26 = .ok (.iload_n 1, 1) := by decide +kernel
theorem dX12_goes_27 : decode cX12_goes 27 = .ok (.iadd, 1) := by decide +kernel
theorem dX12_goes_28 : decode cX12_goes 28 = .ok (.dup2, 1) := by decide +kernel
theorem dX12_goes_29 : decode cX12_goes 29 = .ok (.iaload, 1) := by decide +kernel
theorem dX12_goes_30 : decode cX12_goes 30 = .ok (.iconst 1, 1) := by decide +kernel
theorem dX12_goes_31 : decode cX12_goes 31 = .ok (.iadd, 1) := by decide +kernel
theorem dX12_goes_32 : decode cX12_goes 32 = .ok (.iastore, 1) := by decide +kernel
theorem dX12_goes_33 : decode cX12_goes 33 = .ok (.return_, 1) := by decide +kernel
theorem dX12_does_0 : decode cX12_does 0 = .ok (.sipush 148, 3) := by decide +kernel
theorem dX12_does_3 : decode cX12_does 3 = .ok (.iconst 4, 1) := by decide +kernel
theorem dX12_does_4 : decode cX12_does 4 = .ok (.aload_n 0, 1) := by decide +kernel
theorem dX12_does_5 : decode cX12_does 5 = .ok (.getfield 33, 3) := by decide +kernel
theorem dX12_does_8 : decode cX12_does 8 = .ok (.bipush 123, 2) := by decide +kernel
theorem dX12_does_10 : decode cX12_does 10 = .ok (.iaload, 1) := by decide +kernel
theorem dX12_does_11 : decode cX12_does 11 = .ok (.imul, 1) := by decide +kernel
theorem dX12_does_12 : decode cX12_does 12 = .ok (.iadd, 1) := by decide +kernel
theorem dX12_does_13 : decode cX12_does 13 = .ok (.istore_n 3, 1) := by decide +kernel
theorem dX12_does_14 : decode cX12_does 14 = .ok (.aload_n 0, 1) := by decide +kernel
theorem dX12_does_15 : decode cX12_does 15 = .ok (.getfield 33, 3) := by decide +kernel
theorem dX12_does_18 : decode cX12_does 18 = .ok (.iload_n 3, 1) := by decide +kernel
theorem dX12_does_19 : decode cX12_does 19 = .ok (.aload_n 0, 1) := by decide +kernel
theorem dX12_does_20 : decode cX12_does 20 = .ok (.getfield 33, 3) := by decide +kernel
theorem dX12_does_23 : decode cX12_does 23 = .ok (.bipush 106, 2) := by decide +kernel
theorem dX12_does_25 : decode cX12_does 25 = .ok (.iaload, 1) := by decide +kernel
theorem dX12_does_26 : decode cX12_does 26 = .ok (.iastore, 1) := by decide +kernel
theorem dX12_does_27 : decode cX12_does 27 = .ok (.aload_n 0, 1) := by decide +kernel
theorem dX12_does_28 : decode cX12_does 28 = .ok (.getfield 33, 3) := by decide +kernel
theorem dX12_does_31 : decode cX12_does 31 = .ok (.iload_n 3, 1) := by decide +kernel
theorem dX12_does_32 : decode cX12_does 32 = .ok (.iconst 1, 1) := by decide +kernel
theorem dX12_does_33 : decode cX12_does 33 = .ok (.iadd, 1) := by decide +kernel
theorem dX12_does_34 : decode cX12_does 34 = .ok (.iload_n 1, 1) := by decide +kernel
theorem dX12_does_35 : decode cX12_does 35 = .ok (.iastore, 1) := by decide +kernel
theorem dX12_does_36 : decode cX12_does 36 = .ok (.aload_n 0, 1) := by decide +kernel
theorem dX12_does_37 : decode cX12_does 37 = .ok (.getfield 33, 3) := by decide +kernel
theorem dX12_does_40 : decode cX12_does 40 = .ok (.iload_n 3, 1) := by decide +kernel
theorem dX12_does_41 : decode cX12_does 41 = .ok (.iconst 2, 1) := by decide +kernel
theorem dX12_does_42 : decode cX12_does 42 = .ok (.iadd, 1) := by decide +kernel
theorem dX12_does_43 : decode cX12_does 43 = .ok (.iload_n 2, 1) := by decide +kernel
theorem dX12_does_44 : decode cX12_does 44 = .ok (.iastore, 1) := by decide +kernel
theorem dX12_does_45 : decode cX12_does 45 = .ok (.aload_n 0, 1) := by decide +kernel
theorem dX12_does_46 : decode cX12_does 46 = .ok (.getfield 33, 3) := by decide +kernel
theorem dX12_does_49 : decode cX12_does 49 = .ok (.iload_n 3, 1) := by decide +kernel
theorem dX12_does_50 : decode cX12_does 50 = .ok (.iconst 3, 1) := by decide +kernel
theorem dX12_does_51 : decode cX12_does 51 = .ok (.iadd, 1) := by decide +kernel
theorem dX12_does_52 : decode cX12_does 52 = .ok (.aload_n 0, 1) := by decide +kernel
theorem dX12_does_53 : decode cX12_does 53 = .ok (.getfield 33, 3) := by decide +kernel
theorem dX12_does_56 : decode cX12_does 56 = .ok (.bipush 107, 2) := by decide +kernel
theorem dX12_does_58 : decode cX12_does 58 = .ok (.iload_n 1, 1) := by decide +kernel
theorem dX12_does_59 : decode cX12_does 59 = .ok (.iadd, 1) := by decide +kernel
theorem dX12_does_60 : decode cX12_does 60 = .ok (.iaload, 1) := by decide +kernel
theorem dX12_does_61 : decode cX12_does 61 = .ok (.iastore, 1) := by decide +kernel
theorem dX12_does_62 : decode cX12_does 62 = .ok (.aload_n 0, 1) := by decide +kernel
theorem dX12_does_63 : decode cX12_does 63 = .ok (.getfield 33, 3) := by decide +kernel
theorem dX12_does_66 : decode cX12_does 66 = .ok (.bipush 123, 2) := by decide +kernel
theorem dX12_does_68 : decode cX12_does 68 = .ok (.dup2, 1) := by decide +kernel
theorem dX12_does_69 : decode cX12_does 69 = .ok (.iaload, 1) := by decide +kernel
theorem dX12_does_70 : decode cX12_does 70 = .ok (.iconst 1, 1) := by decide +kernel
theorem dX12_does_71 : decode cX12_does 71 = .ok (.iadd, 1) := by decide +kernel
theorem dX12_does_72 : decode cX12_does 72 = .ok (.iastore, 1) := by decide +kernel
theorem dX12_does_73 : decode cX12_does 73 = .ok (.aload_n 0, 1) := by decide +kernel
theorem dX12_does_74 : decode cX12_does 74 = .ok (.getfield 33, 3) := by decide +kernel
theorem dX12_does_77 : decode cX12_does 77 = .ok (.bipush 111, 2) := by decide +kernel
theorem dX12_does_79 : decode cX12_does 79 = .ok (.iload_n 1, 1) := by decide +kernel
theorem dX12_does_80 : decode cX12_does 80 = .ok (.iadd, 1) := by decide +kernel
theorem dX12_does_81 : decode cX12_does 81 = .ok (.iconst 1, 1) := by decide +kernel
theorem dX12_does_82 : decode cX12_does 82 = .ok (.iastore, 1) := by decide +kernel
theorem dX12_does_83 : decode cX12_does 83 = .ok (.aload_n 0, 1) := by decide +kernel
theorem dX12_does_84 : decode cX12_does 84 = .ok (.getfield 33, 3) := by decide +kernel
theorem dX12_does_87 : decode cX12_does 87 = .ok (.bipush 115, 2) := by decide +kernel
theorem dX12_does_89 : decode cX12_does 89 = .ok (.iload_n 1, 1) := by decide +kernel
theorem dX12_does_90 : decode cX12_does 90 = .ok (.iadd, 1) := by decide +kernel
theorem dX12_does_91 : decode cX12_does 91 = .ok (.dup2, 1) := by decide +kernel
theorem dX12_does_92 : decode cX12_does 92 = .ok (.iaload, 1) := by decide +kernel
theorem dX12_does_93 : decode cX12_does 93 = .ok (.iconst 1, 1) := by decide +kernel
theorem dX12_does_94 : decode cX12_does 94 = .ok (.iadd, 1) := by decide +kernel
theorem dX12_does_95 : decode cX12_does 95 = .ok (.iastore, 1) := by decide +kernel
theorem dX12_does_96 : decode cX12_does 96 = .ok (.return_, 1) := by decide +kernel
theorem dX12_says_0 : decode cX12_says 0 = .ok (.aload_n 0, 1) := by decide +kernel
theorem dX12_says_1 : decode cX12_says 1 = .ok (.getfield 33, 3) := by decide +kernel
theorem dX12_says_4 : decode cX12_says 4 = .ok (.bipush 124, 2) := by decide +kernel
theorem dX12_says_6 : decode cX12_says 6 = .ok (.iload_n 2, 1) := by decide +kernel
theorem dX12_says_7 : decode cX12_says 7 = .ok (.iadd, 1) := by decide +kernel
theorem dX12_says_8 : decode cX12_says 8 = .ok (.aload_n 0, 1) := by decide +kernel
theorem dX12_says_9 : decode cX12_says 9 = .ok (.getfield 33, 3) := by decide +kernel
theorem dX12_says_12 : decode cX12_says 12 = .ok (.bipush 106, 2) := by decide +kernel
theorem dX12_says_14 : decode cX12_says 14 = .ok (.iaload, 1) := by decide +kernel
theorem dX12_says_15 : decode cX12_says 15 = .ok (.iconst 1, 1) := by decide +kernel
theorem dX12_says_16 : decode cX12_says 16 = .ok (.iadd, 1) := by decide +kernel
theorem dX12_says_17 : decode cX12_says 17 = .ok (.iastore, 1) := by decide +kernel
theorem dX12_says_18 : decode cX12_says 18 = .ok (.aload_n 0, 1) := by decide +kernel
theorem dX12_says_19 : decode cX12_says 19 = .ok (.getfield 33, 3) := by decide +kernel
theorem dX12_says_22 : decode cX12_says 22 = .ok (.sipush 140, 3) := by decide +kernel
theorem dX12_says_25 : decode cX12_says 25 = .ok (.iload_n 2, 1) := by decide +kernel
theorem dX12_says_26 : decode cX12_says 26 = .ok (.iadd, 1) := by decide +kernel
theorem dX12_says_27 : decode cX12_says 27 = .ok (.aload_n 0, 1) := by decide +kernel
theorem dX12_says_28 : decode cX12_says 28 = .ok (.getfield 33, 3) := by decide +kernel
theorem dX12_says_31 : decode cX12_says 31 = .ok (.bipush 107, 2) := by decide +kernel
theorem dX12_says_33 : decode cX12_says 33 = .ok (.iload_n 1, 1) := by decide +kernel
theorem dX12_says_34 : decode cX12_says 34 = .ok (.iadd, 1) := by decide +kernel
theorem dX12_says_35 : decode cX12_says 35 = .ok (.iaload, 1) := by decide +kernel
theorem dX12_says_36 : decode cX12_says 36 = .ok (.iastore, 1) := by decide +kernel
theorem dX12_says_37 : decode cX12_says 37 = .ok (.iconst 0, 1) := by decide +kernel
theorem dX12_says_38 : decode cX12_says 38 = .ok (.istore_n 3, 1) := by decide +kernel
theorem dX12_says_39 : decode cX12_says 39 = .ok (.iload_n 3, 1) := by decide +kernel
theorem dX12_says_40 : decode cX12_says 40 = .ok (.aload_n 0, 1) := by decide +kernel
theorem dX12_says_41 : decode cX12_says 41 = .ok (.getfield 33, 3) := by decide +kernel
theorem dX12_says_44 : decode cX12_says 44 = .ok (.iconst 3, 1) := by decide +kernel
theorem dX12_says_45 : decode cX12_says 45 = .ok (.iaload, 1) := by decide +kernel
theorem dX12_says_46 : decode cX12_says 46 = .ok (.if_icmp .ge 41, 3) := by decide +kernel
theorem dX12_says_49 : decode cX12_says 49 = .ok (.aload_n 0, 1) := by decide +kernel
theorem dX12_says_50 : decode cX12_says 50 = .ok (.getfield 33, 3) := by decide +kernel
theorem dX12_says_53 : decode cX12_says 53 = .ok (.bipush 16, 2) := by decide +kernel
theorem dX12_says_55 : decode cX12_says 55 = .ok (.iload_n 3, 1) := by decide +kernel
theorem dX12_says_56 : decode cX12_says 56 = .ok (.iadd, 1) := by decide +kernel
theorem dX12_says_57 : decode cX12_says 57 = .ok (.iaload, 1) := by decide +kernel
theorem dX12_says_58 : decode cX12_says 58 = .ok (.aload_n 0, 1) := by decide +kernel
theorem dX12_says_59 : decode cX12_says 59 = .ok (.getfield 33, 3) := by decide +kernel
theorem dX12_says_62 : decode cX12_says 62 = .ok (.bipush 107, 2) := by decide +kernel
theorem dX12_says_64 : decode cX12_says 64 = .ok (.iload_n 1, 1) := by decide +kernel
theorem dX12_says_65 : decode cX12_says 65 = .ok (.iadd, 1) := by decide +kernel
theorem dX12_says_66 : decode cX12_says 66 = .ok (.iaload, 1) := by decide +kernel
theorem dX12_says_67 : decode cX12_says 67 = .ok (.if_icmp .ne 14, 3) := by decide +kernel
theorem dX12_says_70 : decode cX12_says 70 = .ok (.aload_n 0, 1) := by decide +kernel
theorem dX12_says_71 : decode cX12_says 71 = .ok (.getfield 33, 3) := by decide +kernel
theorem dX12_says_74 : decode cX12_says 74 = .ok (.sipush 132, 3) := by decide +kernel
theorem dX12_says_77 : decode cX12_says 77 = .ok (.iload_n 2, 1) := by decide +kernel
theorem dX12_says_78 : decode cX12_says 78 = .ok (.iadd, 1) := by decide +kernel
theorem dX12_says_79 : decode cX12_says 79 = .ok (.iconst 1, 1) := by decide +kernel
theorem dX12_says_80 : decode cX12_says 80 = .ok (.iastore, 1) := by decide +kernel
theorem dX12_says_81 : decode cX12_says 81 = .ok (.iinc 3 1, 3) := by decide +kernel
theorem dX12_says_84 : decode cX12_says 84 = .ok (.goto (-45), 3) := by decide +kernel
theorem dX12_says_87 : decode cX12_says 87 = .ok (.return_, 1) := by decide +kernel
theorem dX12_hour_0 : decode cX12_hour 0 = .ok (.aload_n 0, 1) := by decide +kernel
theorem dX12_hour_1 : decode cX12_hour 1 = .ok (.getfield 33, 3) := by decide +kernel
theorem dX12_hour_4 : decode cX12_hour 4 = .ok (.bipush 106, 2) := by decide +kernel
theorem dX12_hour_6 : decode cX12_hour 6 = .ok (.dup2, 1) := by decide +kernel
theorem dX12_hour_7 : decode cX12_hour 7 = .ok (.iaload, 1) := by decide +kernel
theorem dX12_hour_8 : decode cX12_hour 8 = .ok (.iconst 1, 1) := by decide +kernel
theorem dX12_hour_9 : decode cX12_hour 9 = .ok (.iadd, 1) := by decide +kernel
theorem dX12_hour_10 : decode cX12_hour 10 = .ok (.iastore, 1) := by decide +kernel
theorem dX12_hour_11 : decode cX12_hour 11 = .ok (.iconst 0, 1) := by decide +kernel
theorem dX12_hour_12 : decode cX12_hour 12 = .ok (.istore_n 1, 1) := by decide +kernel
theorem dX12_hour_13 : decode cX12_hour 13 = .ok (.iload_n 1, 1) := by decide +kernel
theorem dX12_hour_14 : decode cX12_hour 14 = .ok (.iconst 4, 1) := by decide +kernel
theorem dX12_hour_15 : decode cX12_hour 15 = .ok (.if_icmp .ge 19, 3) := by decide +kernel
theorem dX12_hour_18 : decode cX12_hour 18 = .ok (.aload_n 0, 1) := by decide +kernel
theorem dX12_hour_19 : decode cX12_hour 19 = .ok (.getfield 33, 3) := by decide +kernel
theorem dX12_hour_22 : decode cX12_hour 22 = .ok (.bipush 111, 2) := by decide +kernel
theorem dX12_hour_24 : decode cX12_hour 24 = .ok (.iload_n 1, 1) := by decide +kernel
theorem dX12_hour_25 : decode cX12_hour 25 = .ok (.iadd, 1) := by decide +kernel
theorem dX12_hour_26 : decode cX12_hour 26 = .ok (.iconst 0, 1) := by decide +kernel
theorem dX12_hour_27 : decode cX12_hour 27 = .ok (.iastore, 1) := by decide +kernel
theorem dX12_hour_28 : decode cX12_hour 28 = .ok (.iinc 1 1, 3) := by decide +kernel
theorem dX12_hour_31 : decode cX12_hour 31 = .ok (.goto (-18), 3) := by decide +kernel
theorem dX12_hour_34 : decode cX12_hour 34 = .ok (.return_, 1) := by decide +kernel
theorem dX12_whyGo_0 : decode cX12_whyGo 0 = .ok (.aload_n 0, 1) := by decide +kernel
theorem dX12_whyGo_1 : decode cX12_whyGo 1 = .ok (.iconst 0, 1) := by decide +kernel
theorem dX12_whyGo_2 : decode cX12_whyGo 2 = .ok (.putfield 1, 3) := by decide +kernel
theorem dX12_whyGo_5 : decode cX12_whyGo 5 = .ok (.aload_n 0, 1) := by decide +kernel
theorem dX12_whyGo_6 : decode cX12_whyGo 6 = .ok (.iload_n 1, 1) := by decide +kernel
theorem dX12_whyGo_7 : decode cX12_whyGo 7 = .ok (.invokevirtual 251, 3) := by decide +kernel
theorem dX12_whyGo_10 : decode cX12_whyGo 10 = .ok (.ifCond .eq 20, 3) := by decide +kernel
theorem dX12_whyGo_13 : decode cX12_whyGo 13 = .ok (.aload_n 0, 1) := by decide +kernel
theorem dX12_whyGo_14 : decode cX12_whyGo 14 = .ok (.iload_n 2, 1) := by decide +kernel
theorem dX12_whyGo_15 : decode cX12_whyGo 15 = .ok (.invokevirtual 254, 3) := by decide +kernel
theorem dX12_whyGo_18 : decode cX12_whyGo 18 = .ok (.ifCond .eq 12, 3) := by decide +kernel
theorem dX12_whyGo_21 : decode cX12_whyGo 21 = .ok (.aload_n 0, 1) := by decide +kernel
theorem dX12_whyGo_22 : decode cX12_whyGo 22 = .ok (.iload_n 1, 1) := by decide +kernel
theorem dX12_whyGo_23 : decode cX12_whyGo 23 = .ok (.iload_n 2, 1) := by decide +kernel
theorem dX12_whyGo_24 : decode cX12_whyGo 24 = .ok (.invokevirtual 266, 3) := by decide +kernel
theorem dX12_whyGo_27 : decode cX12_whyGo 27 = .ok (.goto 4, 3) := by decide +kernel
theorem dX12_whyGo_30 : decode cX12_whyGo 30 = .ok (.iconst (-1), 1) := by decide +kernel
theorem dX12_whyGo_31 : decode cX12_whyGo 31 = .ok (.ireturn, 1) := by decide +kernel
theorem dX12_go_0 : decode cX12_go 0 = .ok (.aload_n 0, 1) := by decide +kernel
theorem dX12_go_1 : decode cX12_go 1 = .ok (.iconst 0, 1) := by decide +kernel
theorem dX12_go_2 : decode cX12_go 2 = .ok (.putfield 1, 3) := by decide +kernel
theorem dX12_go_5 : decode cX12_go 5 = .ok (.aload_n 0, 1) := by decide +kernel
theorem dX12_go_6 : decode cX12_go 6 = .ok (.iload_n 1, 1) := by decide +kernel
theorem dX12_go_7 : decode cX12_go 7 = .ok (.invokevirtual 251, 3) := by decide +kernel
theorem dX12_go_10 : decode cX12_go 10 = .ok (.ifCond .eq 11, 3) := by decide +kernel
theorem dX12_go_13 : decode cX12_go 13 = .ok (.aload_n 0, 1) := by decide +kernel
theorem dX12_go_14 : decode cX12_go 14 = .ok (.iload_n 2, 1) := by decide +kernel
theorem dX12_go_15 : decode cX12_go 15 = .ok (.invokevirtual 254, 3) := by decide +kernel
theorem dX12_go_18 : decode cX12_go 18 = .ok (.ifCond .ne 5, 3) := by decide +kernel
theorem dX12_go_21 : decode cX12_go 21 = .ok (.iconst (-1), 1) := by decide +kernel
theorem dX12_go_22 : decode cX12_go 22 = .ok (.ireturn, 1) := by decide +kernel
theorem dX12_go_23 : decode cX12_go 23 = .ok (.aload_n 0, 1) := by decide +kernel
theorem dX12_go_24 : decode cX12_go 24 = .ok (.iload_n 1, 1) := by decide +kernel
theorem dX12_go_25 : decode cX12_go 25 = .ok (.iload_n 2, 1) := by decide +kernel
theorem dX12_go_26 : decode cX12_go 26 = .ok (.invokevirtual 266, 3) := by decide +kernel
theorem dX12_go_29 : decode cX12_go 29 = .ok (.istore_n 3, 1) := by decide +kernel
theorem dX12_go_30 : decode cX12_go 30 = .ok (.iload_n 3, 1) := by decide +kernel
theorem dX12_go_31 : decode cX12_go 31 = .ok (.ifCond .le 5, 3) := by decide +kernel
theorem dX12_go_34 : decode cX12_go 34 = .ok (.iload_n 3, 1) := by decide +kernel
theorem dX12_go_35 : decode cX12_go 35 = .ok (.ireturn, 1) := by decide +kernel
theorem dX12_go_36 : decode cX12_go 36 = .ok (.aload_n 0, 1) := by decide +kernel
theorem dX12_go_37 : decode cX12_go 37 = .ok (.invokevirtual 269, 3) := by decide +kernel
theorem dX12_go_40 : decode cX12_go 40 = .ok (.aload_n 0, 1) := by decide +kernel
theorem dX12_go_41 : decode cX12_go 41 = .ok (.iload_n 1, 1) := by decide +kernel
theorem dX12_go_42 : decode cX12_go 42 = .ok (.iload_n 2, 1) := by decide +kernel
theorem dX12_go_43 : decode cX12_go 43 = .ok (.invokevirtual 272, 3) := by decide +kernel
theorem dX12_go_46 : decode cX12_go 46 = .ok (.iconst 0, 1) := by decide +kernel
theorem dX12_go_47 : decode cX12_go 47 = .ok (.ireturn, 1) := by decide +kernel
theorem dX12_act_0 : decode cX12_act 0 = .ok (.aload_n 0, 1) := by decide +kernel
theorem dX12_act_1 : decode cX12_act 1 = .ok (.iconst 0, 1) := by decide +kernel
theorem dX12_act_2 : decode cX12_act 2 = .ok (.putfield 1, 3) := by decide +kernel
theorem dX12_act_5 : decode cX12_act 5 = .ok (.aload_n 0, 1) := by decide +kernel
theorem dX12_act_6 : decode cX12_act 6 = .ok (.iload_n 1, 1) := by decide +kernel
theorem dX12_act_7 : decode cX12_act 7 = .ok (.invokevirtual 251, 3) := by decide +kernel
theorem dX12_act_10 : decode cX12_act 10 = .ok (.ifCond .eq 11, 3) := by decide +kernel
theorem dX12_act_13 : decode cX12_act 13 = .ok (.aload_n 0, 1) := by decide +kernel
theorem dX12_act_14 : decode cX12_act 14 = .ok (.iload_n 2, 1) := by decide +kernel
theorem dX12_act_15 : decode cX12_act 15 = .ok (.invokevirtual 276, 3) := by decide +kernel
theorem dX12_act_18 : decode cX12_act 18 = .ok (.ifCond .ne 5, 3) := by decide +kernel
theorem dX12_act_21 : decode cX12_act 21 = .ok (.iconst (-1), 1) := by decide +kernel
theorem dX12_act_22 : decode cX12_act 22 = .ok (.ireturn, 1) := by decide +kernel
theorem dX12_act_23 : decode cX12_act 23 = .ok (.aload_n 0, 1) := by decide +kernel
theorem dX12_act_24 : decode cX12_act 24 = .ok (.iload_n 1, 1) := by decide +kernel
theorem dX12_act_25 : decode cX12_act 25 = .ok (.invokevirtual 279, 3) := by decide +kernel
theorem dX12_act_28 : decode cX12_act 28 = .ok (.istore_n 3, 1) := by decide +kernel
theorem dX12_act_29 : decode cX12_act 29 = .ok (.iload_n 3, 1) := by decide +kernel
theorem dX12_act_30 : decode cX12_act 30 = .ok (.ifCond .le 5, 3) := by decide +kernel
theorem dX12_act_33 : decode cX12_act 33 = .ok (.iload_n 3, 1) := by decide +kernel
theorem dX12_act_34 : decode cX12_act 34 = .ok (.ireturn, 1) := by decide +kernel
theorem dX12_act_35 : decode cX12_act 35 = .ok (.aload_n 0, 1) := by decide +kernel
theorem dX12_act_36 : decode cX12_act 36 = .ok (.invokevirtual 269, 3) := by decide +kernel
theorem dX12_act_39 : decode cX12_act 39 = .ok (.aload_n 0, 1) := by decide +kernel
theorem dX12_act_40 : decode cX12_act 40 = .ok (.iload_n 1, 1) := by decide +kernel
theorem dX12_act_41 : decode cX12_act 41 = .ok (.iload_n 2, 1) := by decide +kernel
theorem dX12_act_42 : decode cX12_act 42 = .ok (.invokevirtual 283, 3) := by decide +kernel
theorem dX12_act_45 : decode cX12_act 45 = .ok (.iconst 0, 1) := by decide +kernel
theorem dX12_act_46 : decode cX12_act 46 = .ok (.ireturn, 1) := by decide +kernel
theorem dX12_say_0 : decode cX12_say 0 = .ok (.aload_n 0, 1) := by decide +kernel
theorem dX12_say_1 : decode cX12_say 1 = .ok (.iconst 0, 1) := by decide +kernel
theorem dX12_say_2 : decode cX12_say 2 = .ok (.putfield 1, 3) := by decide +kernel
theorem dX12_say_5 : decode cX12_say 5 = .ok (.aload_n 0, 1) := by decide +kernel
theorem dX12_say_6 : decode cX12_say 6 = .ok (.iload_n 1, 1) := by decide +kernel
theorem dX12_say_7 : decode cX12_say 7 = .ok (.invokevirtual 251, 3) := by decide +kernel
theorem dX12_say_10 : decode cX12_say 10 = .ok (.ifCond .eq 11, 3) := by decide +kernel
theorem dX12_say_13 : decode cX12_say 13 = .ok (.aload_n 0, 1) := by decide +kernel
theorem dX12_say_14 : decode cX12_say 14 = .ok (.iload_n 2, 1) := by decide +kernel
theorem dX12_say_15 : decode cX12_say 15 = .ok (.invokevirtual 244, 3) := by decide +kernel
theorem dX12_say_18 : decode cX12_say 18 = .ok (.ifCond .ne 5, 3) := by decide +kernel
theorem dX12_say_21 : decode cX12_say 21 = .ok (.iconst (-1), 1) := by decide +kernel
theorem dX12_say_22 : decode cX12_say 22 = .ok (.ireturn, 1) := by decide +kernel
theorem dX12_say_23 : decode cX12_say 23 = .ok (.aload_n 0, 1) := by decide +kernel
theorem dX12_say_24 : decode cX12_say 24 = .ok (.iload_n 1, 1) := by decide +kernel
theorem dX12_say_25 : decode cX12_say 25 = .ok (.iload_n 2, 1) := by decide +kernel
theorem dX12_say_26 : decode cX12_say 26 = .ok (.invokevirtual 286, 3) := by decide +kernel
theorem dX12_say_29 : decode cX12_say 29 = .ok (.istore_n 3, 1) := by decide +kernel
theorem dX12_say_30 : decode cX12_say 30 = .ok (.iload_n 3, 1) := by decide +kernel
theorem dX12_say_31 : decode cX12_say 31 = .ok (.ifCond .le 5, 3) := by decide +kernel
theorem dX12_say_34 : decode cX12_say 34 = .ok (.iload_n 3, 1) := by decide +kernel
theorem dX12_say_35 : decode cX12_say 35 = .ok (.ireturn, 1) := by decide +kernel
theorem dX12_say_36 : decode cX12_say 36 = .ok (.aload_n 0, 1) := by decide +kernel
theorem dX12_say_37 : decode cX12_say 37 = .ok (.invokevirtual 269, 3) := by decide +kernel
theorem dX12_say_40 : decode cX12_say 40 = .ok (.aload_n 0, 1) := by decide +kernel
theorem dX12_say_41 : decode cX12_say 41 = .ok (.iload_n 1, 1) := by decide +kernel
theorem dX12_say_42 : decode cX12_say 42 = .ok (.iload_n 2, 1) := by decide +kernel
theorem dX12_say_43 : decode cX12_say 43 = .ok (.invokevirtual 289, 3) := by decide +kernel
theorem dX12_say_46 : decode cX12_say 46 = .ok (.iconst 0, 1) := by decide +kernel
theorem dX12_say_47 : decode cX12_say 47 = .ok (.ireturn, 1) := by decide +kernel
theorem dX12_hours_0 : decode cX12_hours 0 = .ok (.aload_n 0, 1) := by decide +kernel
theorem dX12_hours_1 : decode cX12_hours 1 = .ok (.iconst 0, 1) := by decide +kernel
theorem dX12_hours_2 : decode cX12_hours 2 = .ok (.putfield 1, 3) := by decide +kernel
theorem dX12_hours_5 : decode cX12_hours 5 = .ok (.iload_n 1, 1) := by decide +kernel
theorem dX12_hours_6 : decode cX12_hours 6 = .ok (.iconst 1, 1) := by decide +kernel
theorem dX12_hours_7 : decode cX12_hours 7 = .ok (.bipush 99, 2) := by decide +kernel
theorem dX12_hours_9 : decode cX12_hours 9 = .ok (.invokestatic 187, 3) := by decide +kernel
theorem dX12_hours_12 : decode cX12_hours 12 = .ok (.ifCond .ne 5, 3) := by decide +kernel
theorem dX12_hours_15 : decode cX12_hours 15 = .ok (.iconst (-1), 1) := by decide +kernel
theorem dX12_hours_16 : decode cX12_hours 16 = .ok (.ireturn, 1) := by decide +kernel
theorem dX12_hours_17 : decode cX12_hours 17 = .ok (.aload_n 0, 1) := by decide +kernel
theorem dX12_hours_18 : decode cX12_hours 18 = .ok (.invokevirtual 263, 3) := by decide +kernel
theorem dX12_hours_21 : decode cX12_hours 21 = .ok (.ifCond .eq 5, 3) := by decide +kernel
theorem dX12_hours_24 : decode cX12_hours 24 = .ok (.iconst 0, 1) := by decide +kernel
theorem dX12_hours_25 : decode cX12_hours 25 = .ok (.ireturn, 1) := by decide +kernel
theorem dX12_hours_26 : decode cX12_hours 26 = .ok (.aload_n 0, 1) := by decide +kernel
theorem dX12_hours_27 : decode cX12_hours 27 = .ok (.invokevirtual 269, 3) := by decide +kernel
theorem dX12_hours_30 : decode cX12_hours 30 = .ok (.iconst 0, 1) := by decide +kernel
theorem dX12_hours_31 : decode cX12_hours 31 = .ok (.istore_n 2, 1) := by decide +kernel
theorem dX12_hours_32 : decode cX12_hours 32 = .ok (.iload_n 2, 1) := by decide +kernel
theorem dX12_hours_33 : decode cX12_hours 33 = .ok (.iload_n 1, 1) := by decide +kernel
theorem dX12_hours_34 : decode cX12_hours 34 = .ok (.if_icmp .ge 20, 3) := by decide +kernel
theorem dX12_hours_37 : decode cX12_hours 37 = .ok (.aload_n 0, 1) := by decide +kernel
theorem dX12_hours_38 : decode cX12_hours 38 = .ok (.invokevirtual 263, 3) := by decide +kernel
theorem dX12_hours_41 : decode cX12_hours 41 = .ok (.ifCond .ne 13, 3) := by decide +kernel
theorem dX12_hours_44 : decode cX12_hours 44 = .ok (.aload_n 0, 1) := by decide +kernel
theorem dX12_hours_45 : decode cX12_hours 45 = .ok (.invokevirtual 292, 3) := by decide +kernel
theorem dX12_hours_48 : decode cX12_hours 48 = .ok (.iinc 2 1, 3) := by decide +kernel
theorem dX12_hours_51 : decode cX12_hours 51 = .ok (.goto (-19), 3) := by decide +kernel
theorem dX12_hours_54 : decode cX12_hours 54 = .ok (.iload_n 2, 1) := by decide +kernel
theorem dX12_hours_55 : decode cX12_hours 55 = .ok (.ireturn, 1) := by decide +kernel
theorem dX12_done_0 : decode cX12_done 0 = .ok (.aload_n 0, 1) := by decide +kernel
theorem dX12_done_1 : decode cX12_done 1 = .ok (.iconst 0, 1) := by decide +kernel
theorem dX12_done_2 : decode cX12_done 2 = .ok (.putfield 1, 3) := by decide +kernel
theorem dX12_done_5 : decode cX12_done 5 = .ok (.iload_n 1, 1) := by decide +kernel
theorem dX12_done_6 : decode cX12_done 6 = .ok (.iconst 0, 1) := by decide +kernel
theorem dX12_done_7 : decode cX12_done 7 = .ok (.aload_n 0, 1) := by decide +kernel
theorem dX12_done_8 : decode cX12_done 8 = .ok (.getfield 33, 3) := by decide +kernel
theorem dX12_done_11 : decode cX12_done 11 = .ok (.bipush 123, 2) := by decide +kernel
theorem dX12_done_13 : decode cX12_done 13 = .ok (.iaload, 1) := by decide +kernel
theorem dX12_done_14 : decode cX12_done 14 = .ok (.iconst 1, 1) := by decide +kernel
theorem dX12_done_15 : decode cX12_done 15 = .ok (.isub, 1) := by decide +kernel
theorem dX12_done_16 : decode cX12_done 16 = .ok (.invokestatic 187, 3) := by decide +kernel
theorem dX12_done_19 : decode cX12_done 19 = .ok (.ifCond .eq 29, 3) := by decide +kernel
theorem dX12_done_22 : decode cX12_done 22 = .ok (.iload_n 2, 1) := by decide +kernel
theorem dX12_done_23 : decode cX12_done 23 = .ok (.iconst 0, 1) := by decide +kernel
theorem dX12_done_24 : decode cX12_done 24 = .ok (.iconst 3, 1) := by decide +kernel
theorem dX12_done_25 : decode cX12_done 25 = .ok (.invokestatic 187, 3) := by decide +kernel
theorem dX12_done_28 : decode cX12_done 28 = .ok (.ifCond .eq 20, 3) := by decide +kernel
theorem dX12_done_31 : decode cX12_done 31 = .ok (.aload_n 0, 1) := by decide +kernel
theorem dX12_done_32 : decode cX12_done 32 = .ok (.getfield 33, 3) := by decide +kernel
theorem dX12_done_35 : decode cX12_done 35 = .ok (.sipush 148, 3) := by decide +kernel
theorem dX12_done_38 : decode cX12_done 38 = .ok (.iconst 4, 1) := by decide +kernel
theorem dX12_done_39 : decode cX12_done 39 = .ok (.iload_n 1, 1) := by decide +kernel
theorem dX12_done_40 : decode cX12_done 40 = .ok (.imul, 1) := by decide +kernel
theorem dX12_done_41 : decode cX12_done 41 = .ok (.iadd, 1) := by decide +kernel
theorem dX12_done_42 : decode cX12_done 42 = .ok (.iload_n 2, 1) := by decide +kernel
theorem dX12_done_43 : decode cX12_done 43 = .ok (.iadd, 1) := by decide +kernel
theorem dX12_done_44 : decode cX12_done 44 = .ok (.iaload, 1) := by decide +kernel
theorem dX12_done_45 : decode cX12_done 45 = .ok (.goto 4, 3) := by decide +kernel
theorem dX12_done_48 : decode cX12_done 48 = .ok (.iconst (-1), 1) := by decide +kernel
theorem dX12_done_49 : decode cX12_done 49 = .ok (.ireturn, 1) := by decide +kernel
theorem dX12_keep_0 : decode cX12_keep 0 = .ok (.aload_n 0, 1) := by decide +kernel
theorem dX12_keep_1 : decode cX12_keep 1 = .ok (.getfield 241, 3) := by decide +kernel
theorem dX12_keep_4 : decode cX12_keep 4 = .ok (.bipush 8, 2) := by decide +kernel
theorem dX12_keep_6 : decode cX12_keep 6 = .ok (.if_icmp .ne 40, 3) := by decide +kernel
theorem dX12_keep_9 : decode cX12_keep 9 = .ok (.iconst 0, 1) := by decide +kernel
theorem dX12_keep_10 : decode cX12_keep 10 = .ok (.istore_n 1, 1) := by decide +kernel
theorem dX12_keep_11 : decode cX12_keep 11 = .ok (.iload_n 1, 1) := by decide +kernel
theorem dX12_keep_12 : decode cX12_keep 12 = .ok (.sipush 2590, 3) := by decide +kernel
theorem dX12_keep_15 : decode cX12_keep 15 = .ok (.if_icmp .ge 25, 3) := by decide +kernel
theorem dX12_keep_18 : decode cX12_keep 18 = .ok (.aload_n 0, 1) := by decide +kernel
theorem dX12_keep_19 : decode cX12_keep 19 = .ok (.getfield 53, 3) := by decide +kernel
theorem dX12_keep_22 : decode cX12_keep 22 = .ok (.iload_n 1, 1) := by decide +kernel
theorem dX12_keep_23 : decode cX12_keep 23 = .ok (.aload_n 0, 1) := by decide +kernel
theorem dX12_keep_24 : decode cX12_keep 24 = .ok (.getfield 53, 3) := by decide +kernel
theorem dX12_keep_27 : decode cX12_keep 27 = .ok (.iload_n 1, 1) := by decide +kernel
theorem dX12_keep_28 : decode cX12_keep 28 = .ok (.sipush 370, 3) := by decide +kernel
theorem dX12_keep_31 : decode cX12_keep 31 = .ok (.iadd, 1) := by decide +kernel
theorem dX12_keep_32 : decode cX12_keep 32 = .ok (.iaload, 1) := by decide +kernel
theorem dX12_keep_33 : decode cX12_keep 33 = .ok (.iastore, 1) := by decide +kernel
theorem dX12_keep_34 : decode cX12_keep 34 = .ok (.iinc 1 1, 3) := by decide +kernel
theorem dX12_keep_37 : decode cX12_keep 37 = .ok (.goto (-26), 3) := by decide +kernel
theorem dX12_keep_40 : decode cX12_keep 40 = .ok (.aload_n 0, 1) := by decide +kernel
theorem dX12_keep_41 : decode cX12_keep 41 = .ok (.bipush 7, 2) := by decide +kernel
theorem dX12_keep_43 : decode cX12_keep 43 = .ok (.putfield 241, 3) := by decide +kernel
theorem dX12_keep_46 : decode cX12_keep 46 = .ok (.iconst 0, 1) := by decide +kernel
theorem dX12_keep_47 : decode cX12_keep 47 = .ok (.istore_n 1, 1) := by decide +kernel
theorem dX12_keep_48 : decode cX12_keep 48 = .ok (.iload_n 1, 1) := by decide +kernel
theorem dX12_keep_49 : decode cX12_keep 49 = .ok (.sipush 370, 3) := by decide +kernel
theorem dX12_keep_52 : decode cX12_keep 52 = .ok (.if_icmp .ge 33, 3) := by decide +kernel
theorem dX12_keep_55 : decode cX12_keep 55 = .ok (.aload_n 0, 1) := by decide +kernel
theorem dX12_keep_56 : decode cX12_keep 56 = .ok (.getfield 53, 3) := by decide +kernel
theorem dX12_keep_59 : decode cX12_keep 59 = .ok (.sipush 370, 3) := by decide +kernel
theorem dX12_keep_62 : decode cX12_keep 62 = .ok (.aload_n 0, 1) := by decide +kernel
theorem dX12_keep_63 : decode cX12_keep 63 = .ok (.getfield 241, 3) := by decide +kernel
theorem dX12_keep_66 : decode cX12_keep 66 = .ok (.imul, 1) := by decide +kernel
theorem dX12_keep_67 : decode cX12_keep 67 = .ok (.iload_n 1, 1) := by decide +kernel
theorem dX12_keep_68 : decode cX12_keep 68 = .ok (.iadd, 1) := by decide +kernel
theorem dX12_keep_69 : decode cX12_keep 69 = .ok (.aload_n 0, 1) := by decide +kernel
theorem dX12_keep_70 : decode cX12_keep 70 = .ok (.getfield 33, 3) := by decide +kernel
theorem dX12_keep_73 : decode cX12_keep 73 = .ok (.bipush 106, 2) := by decide +kernel
theorem dX12_keep_75 : decode cX12_keep 75 = .ok (.iload_n 1, 1) := by decide +kernel
theorem dX12_keep_76 : decode cX12_keep 76 = .ok (.iadd, 1) := by decide +kernel
theorem dX12_keep_77 : decode cX12_keep 77 = .ok (.iaload, 1) := by decide +kernel
theorem dX12_keep_78 : decode cX12_keep 78 = .ok (.iastore, 1) := by decide +kernel
theorem dX12_keep_79 : decode cX12_keep 79 = .ok (.iinc 1 1, 3) := by decide +kernel
theorem dX12_keep_82 : decode cX12_keep 82 = .ok (.goto (-34), 3) := by decide +kernel
theorem dX12_keep_85 : decode cX12_keep 85 = .ok (.aload_n 0, 1) := by decide +kernel
theorem dX12_keep_86 : decode cX12_keep 86 = .ok (.dup, 1) := by decide +kernel
theorem dX12_keep_87 : decode cX12_keep 87 = .ok (.getfield 241, 3) := by decide +kernel
theorem dX12_keep_90 : decode cX12_keep 90 = .ok (.iconst 1, 1) := by decide +kernel
theorem dX12_keep_91 : decode cX12_keep 91 = .ok (.iadd, 1) := by decide +kernel
theorem dX12_keep_92 : decode cX12_keep 92 = .ok (.putfield 241, 3) := by decide +kernel
theorem dX12_keep_95 : decode cX12_keep 95 = .ok (.return_, 1) := by decide +kernel
theorem dX12_undo_0 : decode cX12_undo 0 = .ok (.aload_n 0, 1) := by decide +kernel
theorem dX12_undo_1 : decode cX12_undo 1 = .ok (.iconst 0, 1) := by decide +kernel
theorem dX12_undo_2 : decode cX12_undo 2 = .ok (.putfield 1, 3) := by decide +kernel
theorem dX12_undo_5 : decode cX12_undo 5 = .ok (.aload_n 0, 1) := by decide +kernel
theorem dX12_undo_6 : decode cX12_undo 6 = .ok (.getfield 241, 3) := by decide +kernel
theorem dX12_undo_9 : decode cX12_undo 9 = .ok (.ifCond .ne 5, 3) := by decide +kernel
theorem dX12_undo_12 : decode cX12_undo 12 = .ok (.iconst (-1), 1) := by decide +kernel
theorem dX12_undo_13 : decode cX12_undo 13 = .ok (.ireturn, 1) := by decide +kernel
theorem dX12_undo_14 : decode cX12_undo 14 = .ok (.aload_n 0, 1) := by decide +kernel
theorem dX12_undo_15 : decode cX12_undo 15 = .ok (.dup, 1) := by decide +kernel
theorem dX12_undo_16 : decode cX12_undo 16 = .ok (.getfield 241, 3) := by decide +kernel
theorem dX12_undo_19 : decode cX12_undo 19 = .ok (.iconst 1, 1) := by decide +kernel
theorem dX12_undo_20 : decode cX12_undo 20 = .ok (.isub, 1) := by decide +kernel
theorem dX12_undo_21 : decode cX12_undo 21 = .ok (.putfield 241, 3) := by decide +kernel
theorem dX12_undo_24 : decode cX12_undo 24 = .ok (.iconst 0, 1) := by decide +kernel
theorem dX12_undo_25 : decode cX12_undo 25 = .ok (.istore_n 1, 1) := by decide +kernel
theorem dX12_undo_26 : decode cX12_undo 26 = .ok (.iload_n 1, 1) := by decide +kernel
theorem dX12_undo_27 : decode cX12_undo 27 = .ok (.sipush 370, 3) := by decide +kernel
theorem dX12_undo_30 : decode cX12_undo 30 = .ok (.if_icmp .ge 33, 3) := by decide +kernel
theorem dX12_undo_33 : decode cX12_undo 33 = .ok (.aload_n 0, 1) := by decide +kernel
theorem dX12_undo_34 : decode cX12_undo 34 = .ok (.getfield 33, 3) := by decide +kernel
theorem dX12_undo_37 : decode cX12_undo 37 = .ok (.bipush 106, 2) := by decide +kernel
theorem dX12_undo_39 : decode cX12_undo 39 = .ok (.iload_n 1, 1) := by decide +kernel
theorem dX12_undo_40 : decode cX12_undo 40 = .ok (.iadd, 1) := by decide +kernel
theorem dX12_undo_41 : decode cX12_undo 41 = .ok (.aload_n 0, 1) := by decide +kernel
theorem dX12_undo_42 : decode cX12_undo 42 = .ok (.getfield 53, 3) := by decide +kernel
theorem dX12_undo_45 : decode cX12_undo 45 = .ok (.sipush 370, 3) := by decide +kernel
theorem dX12_undo_48 : decode cX12_undo 48 = .ok (.aload_n 0, 1) := by decide +kernel
theorem dX12_undo_49 : decode cX12_undo 49 = .ok (.getfield 241, 3) := by decide +kernel
theorem dX12_undo_52 : decode cX12_undo 52 = .ok (.imul, 1) := by decide +kernel
theorem dX12_undo_53 : decode cX12_undo 53 = .ok (.iload_n 1, 1) := by decide +kernel
theorem dX12_undo_54 : decode cX12_undo 54 = .ok (.iadd, 1) := by decide +kernel
theorem dX12_undo_55 : decode cX12_undo 55 = .ok (.iaload, 1) := by decide +kernel
theorem dX12_undo_56 : decode cX12_undo 56 = .ok (.iastore, 1) := by decide +kernel
theorem dX12_undo_57 : decode cX12_undo 57 = .ok (.iinc 1 1, 3) := by decide +kernel
theorem dX12_undo_60 : decode cX12_undo 60 = .ok (.goto (-34), 3) := by decide +kernel
theorem dX12_undo_63 : decode cX12_undo 63 = .ok (.aload_n 0, 1) := by decide +kernel
theorem dX12_undo_64 : decode cX12_undo 64 = .ok (.getfield 241, 3) := by decide +kernel
theorem dX12_undo_67 : decode cX12_undo 67 = .ok (.ireturn, 1) := by decide +kernel
theorem dX12_tries_0 : decode cX12_tries 0 = .ok (.iconst 0, 1) := by decide +kernel
theorem dX12_tries_1 : decode cX12_tries 1 = .ok (.istore_n 1, 1) := by decide +kernel
theorem dX12_tries_2 : decode cX12_tries 2 = .ok (.iload_n 1, 1) := by decide +kernel
theorem dX12_tries_3 : decode cX12_tries 3 = .ok (.sipush 370, 3) := by decide +kernel
theorem dX12_tries_6 : decode cX12_tries 6 = .ok (.if_icmp .ge 24, 3) := by decide +kernel
theorem dX12_tries_9 : decode cX12_tries 9 = .ok (.aload_n 0, 1) := by decide +kernel
theorem dX12_tries_10 : decode cX12_tries 10 = .ok (.getfield 56, 3) := by decide +kernel
theorem dX12_tries_13 : decode cX12_tries 13 = .ok (.iload_n 1, 1) := by decide +kernel
theorem dX12_tries_14 : decode cX12_tries 14 = .ok (.aload_n 0, 1) := by decide +kernel
theorem dX12_tries_15 : decode cX12_tries 15 = .ok (.getfield 33, 3) := by decide +kernel
theorem dX12_tries_18 : decode cX12_tries 18 = .ok (.bipush 106, 2) := by decide +kernel
theorem dX12_tries_20 : decode cX12_tries 20 = .ok (.iload_n 1, 1) := by decide +kernel
theorem dX12_tries_21 : decode cX12_tries 21 = .ok (.iadd, 1) := by decide +kernel
theorem dX12_tries_22 : decode cX12_tries 22 = .ok (.iaload, 1) := by decide +kernel
theorem dX12_tries_23 : decode cX12_tries 23 = .ok (.iastore, 1) := by decide +kernel
theorem dX12_tries_24 : decode cX12_tries 24 = .ok (.iinc 1 1, 3) := by decide +kernel
theorem dX12_tries_27 : decode cX12_tries 27 = .ok (.goto (-25), 3) := by decide +kernel
theorem dX12_tries_30 : decode cX12_tries 30 = .ok (.return_, 1) := by decide +kernel
theorem dX12_back_0 : decode cX12_back 0 = .ok (.iconst 0, 1) := by decide +kernel
theorem dX12_back_1 : decode cX12_back 1 = .ok (.istore_n 1, 1) := by decide +kernel
theorem dX12_back_2 : decode cX12_back 2 = .ok (.iload_n 1, 1) := by decide +kernel
theorem dX12_back_3 : decode cX12_back 3 = .ok (.sipush 370, 3) := by decide +kernel
theorem dX12_back_6 : decode cX12_back 6 = .ok (.if_icmp .ge 24, 3) := by decide +kernel
theorem dX12_back_9 : decode cX12_back 9 = .ok (.aload_n 0, 1) := by decide +kernel
theorem dX12_back_10 : decode cX12_back 10 = .ok (.getfield 33, 3) := by decide +kernel
theorem dX12_back_13 : decode cX12_back 13 = .ok (.bipush 106, 2) := by decide +kernel
theorem dX12_back_15 : decode cX12_back 15 = .ok (.iload_n 1, 1) := by decide +kernel
theorem dX12_back_16 : decode cX12_back 16 = .ok (.iadd, 1) := by decide +kernel
theorem dX12_back_17 : decode cX12_back 17 = .ok (.aload_n 0, 1) := by decide +kernel
theorem dX12_back_18 : decode cX12_back 18 = .ok (.getfield 56, 3) := by decide +kernel
theorem dX12_back_21 : decode cX12_back 21 = .ok (.iload_n 1, 1) := by decide +kernel
theorem dX12_back_22 : decode cX12_back 22 = .ok (.iaload, 1) := by decide +kernel
theorem dX12_back_23 : decode cX12_back 23 = .ok (.iastore, 1) := by decide +kernel
theorem dX12_back_24 : decode cX12_back 24 = .ok (.iinc 1 1, 3) := by decide +kernel
theorem dX12_back_27 : decode cX12_back 27 = .ok (.goto (-25), 3) := by decide +kernel
theorem dX12_back_30 : decode cX12_back 30 = .ok (.return_, 1) := by decide +kernel
theorem dX12_lastOf_0 : decode cX12_lastOf 0 = .ok (.aload_n 0, 1) := by decide +kernel
theorem dX12_lastOf_1 : decode cX12_lastOf 1 = .ok (.getfield 33, 3) := by decide +kernel
theorem dX12_lastOf_4 : decode cX12_lastOf 4 = .ok (.iconst 0, 1) := by decide +kernel
theorem dX12_lastOf_5 : decode cX12_lastOf 5 = .ok (.iaload, 1) := by decide +kernel
theorem dX12_lastOf_6 : decode cX12_lastOf 6 = .ok (.iconst 1, 1) := by decide +kernel
theorem dX12_lastOf_7 : decode cX12_lastOf 7 = .ok (.isub, 1) := by decide +kernel
theorem dX12_lastOf_8 : decode cX12_lastOf 8 = .ok (.aload_n 0, 1) := by decide +kernel
theorem dX12_lastOf_9 : decode cX12_lastOf 9 = .ok (.getfield 33, 3) := by decide +kernel
theorem dX12_lastOf_12 : decode cX12_lastOf 12 = .ok (.bipush 58, 2) := by decide +kernel
theorem dX12_lastOf_14 : decode cX12_lastOf 14 = .ok (.iload_n 1, 1) := by decide +kernel
theorem dX12_lastOf_15 : decode cX12_lastOf 15 = .ok (.iadd, 1) := by decide +kernel
theorem dX12_lastOf_16 : decode cX12_lastOf 16 = .ok (.iaload, 1) := by decide +kernel
theorem dX12_lastOf_17 : decode cX12_lastOf 17 = .ok (.iload_n 2, 1) := by decide +kernel
theorem dX12_lastOf_18 : decode cX12_lastOf 18 = .ok (.iconst 0, 1) := by decide +kernel
theorem dX12_lastOf_19 : decode cX12_lastOf 19 = .ok (.invokestatic 223, 3) := by decide +kernel
theorem dX12_lastOf_22 : decode cX12_lastOf 22 = .ok (.ifCond .eq 7, 3) := by decide +kernel
theorem dX12_lastOf_25 : decode cX12_lastOf 25 = .ok (.iconst 1, 1) := by decide +kernel
theorem dX12_lastOf_26 : decode cX12_lastOf 26 = .ok (.goto 4, 3) := by decide +kernel
theorem dX12_lastOf_29 : decode cX12_lastOf 29 = .ok (.iconst 0, 1) := by decide +kernel
theorem dX12_lastOf_30 : decode cX12_lastOf 30 = .ok (.isub, 1) := by decide +kernel
theorem dX12_lastOf_31 : decode cX12_lastOf 31 = .ok (.invokestatic 295, 3) := by decide +kernel
theorem dX12_lastOf_34 : decode cX12_lastOf 34 = .ok (.ireturn, 1) := by decide +kernel
theorem dX12_dueOf_0 : decode cX12_dueOf 0 = .ok (.aload_n 0, 1) := by decide +kernel
theorem dX12_dueOf_1 : decode cX12_dueOf 1 = .ok (.getfield 33, 3) := by decide +kernel
theorem dX12_dueOf_4 : decode cX12_dueOf 4 = .ok (.bipush 124, 2) := by decide +kernel
theorem dX12_dueOf_6 : decode cX12_dueOf 6 = .ok (.iload_n 1, 1) := by decide +kernel
theorem dX12_dueOf_7 : decode cX12_dueOf 7 = .ok (.iadd, 1) := by decide +kernel
theorem dX12_dueOf_8 : decode cX12_dueOf 8 = .ok (.iaload, 1) := by decide +kernel
theorem dX12_dueOf_9 : decode cX12_dueOf 9 = .ok (.iconst 1, 1) := by decide +kernel
theorem dX12_dueOf_10 : decode cX12_dueOf 10 = .ok (.isub, 1) := by decide +kernel
theorem dX12_dueOf_11 : decode cX12_dueOf 11 = .ok (.istore_n 3, 1) := by decide +kernel
theorem dX12_dueOf_12 : decode cX12_dueOf 12 = .ok (.iload_n 3, 1) := by decide +kernel
theorem dX12_dueOf_13 : decode cX12_dueOf 13 = .ok (.aload_n 0, 1) := by decide +kernel
theorem dX12_dueOf_14 : decode cX12_dueOf 14 = .ok (.getfield 33, 3) := by decide +kernel
theorem dX12_dueOf_17 : decode cX12_dueOf 17 = .ok (.iconst 0, 1) := by decide +kernel
theorem dX12_dueOf_18 : decode cX12_dueOf 18 = .ok (.iaload, 1) := by decide +kernel
theorem dX12_dueOf_19 : decode cX12_dueOf 19 = .ok (.idiv, 1) := by decide +kernel
theorem dX12_dueOf_20 : decode cX12_dueOf 20 = .ok (.iload_n 3, 1) := by decide +kernel
theorem dX12_dueOf_21 : decode cX12_dueOf 21 = .ok (.aload_n 0, 1) := by decide +kernel
theorem dX12_dueOf_22 : decode cX12_dueOf 22 = .ok (.getfield 33, 3) := by decide +kernel
theorem dX12_dueOf_25 : decode cX12_dueOf 25 = .ok (.iconst 0, 1) := by decide +kernel
theorem dX12_dueOf_26 : decode cX12_dueOf 26 = .ok (.iaload, 1) := by decide +kernel
theorem dX12_dueOf_27 : decode cX12_dueOf 27 = .ok (.irem, 1) := by decide +kernel
theorem dX12_dueOf_28 : decode cX12_dueOf 28 = .ok (.aload_n 0, 1) := by decide +kernel
theorem dX12_dueOf_29 : decode cX12_dueOf 29 = .ok (.iload_n 1, 1) := by decide +kernel
theorem dX12_dueOf_30 : decode cX12_dueOf 30 = .ok (.iload_n 2, 1) := by decide +kernel
theorem dX12_dueOf_31 : decode cX12_dueOf 31 = .ok (.invokevirtual 298, 3) := by decide +kernel
theorem dX12_dueOf_34 : decode cX12_dueOf 34 = .ok (.if_icmp .gt 7, 3) := by decide +kernel
theorem dX12_dueOf_37 : decode cX12_dueOf 37 = .ok (.iconst 0, 1) := by decide +kernel
theorem dX12_dueOf_38 : decode cX12_dueOf 38 = .ok (.goto 4, 3) := by decide +kernel
theorem dX12_dueOf_41 : decode cX12_dueOf 41 = .ok (.iconst 1, 1) := by decide +kernel
theorem dX12_dueOf_42 : decode cX12_dueOf 42 = .ok (.iadd, 1) := by decide +kernel
theorem dX12_dueOf_43 : decode cX12_dueOf 43 = .ok (.ireturn, 1) := by decide +kernel
theorem dX12_timesOn_0 : decode cX12_timesOn 0 = .ok (.iconst 0, 1) := by decide +kernel
theorem dX12_timesOn_1 : decode cX12_timesOn 1 = .ok (.istore 4, 2) := by decide +kernel
theorem dX12_timesOn_3 : decode cX12_timesOn 3 = .ok (.iconst 0, 1) := by decide +kernel
theorem dX12_timesOn_4 : decode cX12_timesOn 4 = .ok (.istore 5, 2) := by decide +kernel
theorem dX12_timesOn_6 : decode cX12_timesOn 6 = .ok (.iload 5, 2) := by decide +kernel
theorem dX12_timesOn_8 : decode cX12_timesOn 8 = .ok (.aload_n 0, 1) := by decide +kernel
theorem dX12_timesOn_9 : decode cX12_timesOn 9 = .ok (.getfield 33, 3) := by decide +kernel
theorem dX12_timesOn_12 : decode cX12_timesOn 12 = .ok (.bipush 123, 2) := by decide +kernel
theorem dX12_timesOn_14 : decode cX12_timesOn 14 = .ok (.iaload, 1) := by decide +kernel
theorem dX12_timesOn_15 : decode cX12_timesOn 15 = .ok (.if_icmp .ge 199, 3) := by decide +kernel
theorem dX12_timesOn_18 : decode cX12_timesOn 18 = .ok (.sipush 148, 3) := by decide +kernel
theorem dX12_timesOn_21 : decode cX12_timesOn 21 = .ok (.iconst 4, 1) := by decide +kernel
theorem dX12_timesOn_22 : decode cX12_timesOn 22 = .ok (.iload 5, 2) := by decide +kernel
theorem dX12_timesOn_24 : decode cX12_timesOn 24 = .ok (.imul, 1) := by decide +kernel
theorem dX12_timesOn_25 : decode cX12_timesOn 25 = .ok (.iadd, 1) := by decide +kernel
theorem dX12_timesOn_26 : decode cX12_timesOn 26 = .ok (.istore 6, 2) := by decide +kernel
theorem dX12_timesOn_28 : decode cX12_timesOn 28 = .ok (.aload_n 0, 1) := by decide +kernel
theorem dX12_timesOn_29 : decode cX12_timesOn 29 = .ok (.getfield 33, 3) := by decide +kernel
theorem dX12_timesOn_32 : decode cX12_timesOn 32 = .ok (.iload 6, 2) := by decide +kernel
theorem dX12_timesOn_34 : decode cX12_timesOn 34 = .ok (.iaload, 1) := by decide +kernel
theorem dX12_timesOn_35 : decode cX12_timesOn 35 = .ok (.iload_n 3, 1) := by decide +kernel
theorem dX12_timesOn_36 : decode cX12_timesOn 36 = .ok (.aload_n 0, 1) := by decide +kernel
theorem dX12_timesOn_37 : decode cX12_timesOn 37 = .ok (.getfield 33, 3) := by decide +kernel
theorem dX12_timesOn_40 : decode cX12_timesOn 40 = .ok (.iconst 0, 1) := by decide +kernel
theorem dX12_timesOn_41 : decode cX12_timesOn 41 = .ok (.iaload, 1) := by decide +kernel
theorem dX12_timesOn_42 : decode cX12_timesOn 42 = .ok (.imul, 1) := by decide +kernel
theorem dX12_timesOn_43 : decode cX12_timesOn 43 = .ok (.isub, 1) := by decide +kernel
theorem dX12_timesOn_44 : decode cX12_timesOn 44 = .ok (.istore 7, 2) := by decide +kernel
theorem dX12_timesOn_46 : decode cX12_timesOn 46 = .ok (.aload_n 0, 1) := by decide +kernel
theorem dX12_timesOn_47 : decode cX12_timesOn 47 = .ok (.getfield 33, 3) := by decide +kernel
theorem dX12_timesOn_50 : decode cX12_timesOn 50 = .ok (.iload 6, 2) := by decide +kernel
theorem dX12_timesOn_52 : decode cX12_timesOn 52 = .ok (.iaload, 1) := by decide +kernel
theorem dX12_timesOn_53 : decode cX12_timesOn 53 = .ok (.aload_n 0, 1) := by decide +kernel
theorem dX12_timesOn_54 : decode cX12_timesOn 54 = .ok (.getfield 33, 3) := by decide +kernel
theorem dX12_timesOn_57 : decode cX12_timesOn 57 = .ok (.bipush 124, 2) := by decide +kernel
theorem dX12_timesOn_59 : decode cX12_timesOn 59 = .ok (.iload_n 1, 1) := by decide +kernel
theorem dX12_timesOn_60 : decode cX12_timesOn 60 = .ok (.iadd, 1) := by decide +kernel
theorem dX12_timesOn_61 : decode cX12_timesOn 61 = .ok (.iaload, 1) := by decide +kernel
theorem dX12_timesOn_62 : decode cX12_timesOn 62 = .ok (.iconst 1, 1) := by decide +kernel
theorem dX12_timesOn_63 : decode cX12_timesOn 63 = .ok (.isub, 1) := by decide +kernel
theorem dX12_timesOn_64 : decode cX12_timesOn 64 = .ok (.if_icmp .lt 144, 3) := by decide +kernel
theorem dX12_timesOn_67 : decode cX12_timesOn 67 = .ok (.iload 7, 2) := by decide +kernel
theorem dX12_timesOn_69 : decode cX12_timesOn 69 = .ok (.aload_n 0, 1) := by decide +kernel
theorem dX12_timesOn_70 : decode cX12_timesOn 70 = .ok (.getfield 33, 3) := by decide +kernel
theorem dX12_timesOn_73 : decode cX12_timesOn 73 = .ok (.bipush 50, 2) := by decide +kernel
theorem dX12_timesOn_75 : decode cX12_timesOn 75 = .ok (.iload_n 1, 1) := by decide +kernel
theorem dX12_timesOn_76 : decode cX12_timesOn 76 = .ok (.iadd, 1) := by decide +kernel
theorem dX12_timesOn_77 : decode cX12_timesOn 77 = .ok (.iaload, 1) := by decide +kernel
theorem dX12_timesOn_78 : decode cX12_timesOn 78 = .ok (.if_icmp .lt 130, 3) := by decide +kernel
theorem dX12_timesOn_81 : decode cX12_timesOn 81 = .ok (.iload 7, 2) := by decide +kernel
theorem dX12_timesOn_83 : decode cX12_timesOn 83 = .ok (.aload_n 0, 1) := by decide +kernel
theorem dX12_timesOn_84 : decode cX12_timesOn 84 = .ok (.iload_n 1, 1) := by decide +kernel
theorem dX12_timesOn_85 : decode cX12_timesOn 85 = .ok (.iload_n 2, 1) := by decide +kernel
theorem dX12_timesOn_86 : decode cX12_timesOn 86 = .ok (.invokevirtual 298, 3) := by decide +kernel
theorem dX12_timesOn_89 : decode cX12_timesOn 89 = .ok (.if_icmp .gt 119, 3) := by decide +kernel
theorem dX12_timesOn_92 : decode cX12_timesOn 92 = .ok (.aload_n 0, 1) := by decide +kernel
theorem dX12_timesOn_93 : decode cX12_timesOn 93 = .ok (.getfield 33, 3) := by decide +kernel
theorem dX12_timesOn_96 : decode cX12_timesOn 96 = .ok (.iload 6, 2) := by decide +kernel
theorem dX12_timesOn_98 : decode cX12_timesOn 98 = .ok (.iconst 1, 1) := by decide +kernel
theorem dX12_timesOn_99 : decode cX12_timesOn 99 = .ok (.iadd, 1) := by decide +kernel
theorem dX12_timesOn_100 : decode cX12_timesOn 100 = .ok (.iaload, 1) := by decide +kernel
theorem dX12_timesOn_101 : decode cX12_timesOn 101 = .ok (.aload_n 0, 1) := by decide +kernel
theorem dX12_timesOn_102 : decode cX12_timesOn 102 = .ok (.getfield 33, 3) := by decide +kernel
theorem dX12_timesOn_105 : decode cX12_timesOn 105 = .ok (.bipush 26, 2) := by decide +kernel
theorem dX12_timesOn_107 : decode cX12_timesOn 107 = .ok (.iload_n 1, 1) := by decide +kernel
theorem dX12_timesOn_108 : decode cX12_timesOn 108 = .ok (.iadd, 1) := by decide +kernel
theorem dX12_timesOn_109 : decode cX12_timesOn 109 = .ok (.iaload, 1) := by decide +kernel
theorem dX12_timesOn_110 : decode cX12_timesOn 110 = .ok (.if_icmp .ne 98, 3) := by decide +kernel
theorem dX12_timesOn_113 : decode cX12_timesOn 113 = .ok (.aload_n 0, 1) := by decide +kernel
theorem dX12_timesOn_114 : decode cX12_timesOn 114 = .ok (.getfield 33, 3) := by decide +kernel
theorem dX12_timesOn_117 : decode cX12_timesOn 117 = .ok (.iload 6, 2) := by decide +kernel
theorem dX12_timesOn_119 : decode cX12_timesOn 119 = .ok (.iconst 2, 1) := by decide +kernel
theorem dX12_timesOn_120 : decode cX12_timesOn 120 = .ok (.iadd, 1) := by decide +kernel
theorem dX12_timesOn_121 : decode cX12_timesOn 121 = .ok (.iaload, 1) := by decide +kernel
theorem dX12_timesOn_122 : decode cX12_timesOn 122 = .ok (.aload_n 0, 1) := by decide +kernel
theorem dX12_timesOn_123 : decode cX12_timesOn 123 = .ok (.getfield 33, 3) := by decide +kernel
theorem dX12_timesOn_126 : decode cX12_timesOn 126 = .ok (.bipush 34, 2) := by decide +kernel
theorem dX12_timesOn_128 : decode cX12_timesOn 128 = .ok (.iload_n 1, 1) := by decide +kernel
theorem dX12_timesOn_129 : decode cX12_timesOn 129 = .ok (.iadd, 1) := by decide +kernel
theorem dX12_timesOn_130 : decode cX12_timesOn 130 = .ok (.iaload, 1) := by decide +kernel
theorem dX12_timesOn_131 : decode cX12_timesOn 131 = .ok (.if_icmp .eq 6, 3) := by decide +kernel
theorem dX12_timesOn_134 : decode cX12_timesOn 134 = .ok (.goto 74, 3) := by decide +kernel
theorem dX12_timesOn_137 : decode cX12_timesOn 137 = .ok (.iload 4, 2) := by decide +kernel
theorem dX12_timesOn_139 : decode cX12_timesOn 139 = .ok (.aload_n 0, 1) := by decide +kernel
theorem dX12_timesOn_140 : decode cX12_timesOn 140 = .ok (.getfield 33, 3) := by decide +kernel
theorem dX12_timesOn_143 : decode cX12_timesOn 143 = .ok (.iload 6, 2) := by decide +kernel
theorem dX12_timesOn_145 : decode cX12_timesOn 145 = .ok (.iconst 3, 1) := by decide +kernel
theorem dX12_timesOn_146 : decode cX12_timesOn 146 = .ok (.iadd, 1) := by decide +kernel
theorem dX12_timesOn_147 : decode cX12_timesOn 147 = .ok (.iaload, 1) := by decide +kernel
theorem dX12_timesOn_148 : decode cX12_timesOn 148 = .ok (.aload_n 0, 1) := by decide +kernel
theorem dX12_timesOn_149 : decode cX12_timesOn 149 = .ok (.getfield 33, 3) := by decide +kernel
theorem dX12_timesOn_152 : decode cX12_timesOn 152 = .ok (.bipush 42, 2) := by decide +kernel
theorem dX12_timesOn_154 : decode cX12_timesOn 154 = .ok (.iload_n 1, 1) := by decide +kernel
theorem dX12_timesOn_155 : decode cX12_timesOn 155 = .ok (.iadd, 1) := by decide +kernel
theorem dX12_timesOn_156 : decode cX12_timesOn 156 = .ok (.iaload, 1) := by decide +kernel
theorem dX12_timesOn_157 : decode cX12_timesOn 157 = .ok (.if_icmp .eq 43, 3) := by decide +kernel
theorem dX12_timesOn_160 : decode cX12_timesOn 160 = .ok (.iload_n 2, 1) := by decide +kernel
theorem dX12_timesOn_161 : decode cX12_timesOn 161 = .ok (.iconst 2, 1) := by decide +kernel
theorem dX12_timesOn_162 : decode cX12_timesOn 162 = .ok (.invokestatic 223, 3) := by decide +kernel
theorem dX12_timesOn_165 : decode cX12_timesOn 165 = .ok (.ifCond .eq 39, 3) := by decide +kernel
theorem dX12_timesOn_168 : decode cX12_timesOn 168 = .ok (.aload_n 0, 1) := by decide +kernel
theorem dX12_timesOn_169 : decode cX12_timesOn 169 = .ok (.getfield 33, 3) := by decide +kernel
theorem dX12_timesOn_172 : decode cX12_timesOn 172 = .ok (.bipush 8, 2) := by decide +kernel
theorem dX12_timesOn_174 : decode cX12_timesOn 174 = .ok (.aload_n 0, 1) := by decide +kernel
theorem dX12_timesOn_175 : decode cX12_timesOn 175 = .ok (.getfield 33, 3) := by decide +kernel
theorem dX12_timesOn_178 : decode cX12_timesOn 178 = .ok (.bipush 42, 2) := by decide +kernel
theorem dX12_timesOn_180 : decode cX12_timesOn 180 = .ok (.iload_n 1, 1) := by decide +kernel
theorem dX12_timesOn_181 : decode cX12_timesOn 181 = .ok (.iadd, 1) := by decide +kernel
theorem dX12_timesOn_182 : decode cX12_timesOn 182 = .ok (.iaload, 1) := by decide +kernel
theorem dX12_timesOn_183 : decode cX12_timesOn 183 = .ok (.iadd, 1) := by decide +kernel
theorem dX12_timesOn_184 : decode cX12_timesOn 184 = .ok (.iaload, 1) := by decide +kernel
theorem dX12_timesOn_185 : decode cX12_timesOn 185 = .ok (.aload_n 0, 1) := by decide +kernel
theorem dX12_timesOn_186 : decode cX12_timesOn 186 = .ok (.getfield 33, 3) := by decide +kernel
theorem dX12_timesOn_189 : decode cX12_timesOn 189 = .ok (.iload 6, 2) := by decide +kernel
theorem dX12_timesOn_191 : decode cX12_timesOn 191 = .ok (.iconst 3, 1) := by decide +kernel
theorem dX12_timesOn_192 : decode cX12_timesOn 192 = .ok (.iadd, 1) := by decide +kernel
theorem dX12_timesOn_193 : decode cX12_timesOn 193 = .ok (.iaload, 1) := by decide +kernel
theorem dX12_timesOn_194 : decode cX12_timesOn 194 = .ok (.invokestatic 223, 3) := by decide +kernel
theorem dX12_timesOn_197 : decode cX12_timesOn 197 = .ok (.ifCond .eq 7, 3) := by decide +kernel
theorem dX12_timesOn_200 : decode cX12_timesOn 200 = .ok (.iconst 1, 1) := by decide +kernel
theorem dX12_timesOn_201 : decode cX12_timesOn 201 = .ok (.goto 4, 3) := by decide +kernel
theorem dX12_timesOn_204 : decode cX12_timesOn 204 = .ok (.iconst 0, 1) := by decide +kernel
theorem dX12_timesOn_205 : decode cX12_timesOn 205 = .ok (.iadd, 1) := by decide +kernel
theorem dX12_timesOn_206 : decode cX12_timesOn 206 = .ok (.istore 4, 2) := by decide +kernel
theorem dX12_timesOn_208 : decode cX12_timesOn 208 = .ok (.iinc 5 1, 3) := by decide +kernel
theorem dX12_timesOn_211 : decode cX12_timesOn 211 = .ok (.goto (-205), 3) := by decide +kernel
theorem dX12_timesOn_214 : decode cX12_timesOn 214 = .ok (.iload 4, 2) := by decide +kernel
theorem dX12_timesOn_216 : decode cX12_timesOn 216 = .ok (.ireturn, 1) := by decide +kernel
theorem dX12_isKept_0 : decode cX12_isKept 0 = .ok (.aload_n 0, 1) := by decide +kernel
theorem dX12_isKept_1 : decode cX12_isKept 1 = .ok (.iload_n 1, 1) := by decide +kernel
theorem dX12_isKept_2 : decode cX12_isKept 2 = .ok (.iload_n 2, 1) := by decide +kernel
theorem dX12_isKept_3 : decode cX12_isKept 3 = .ok (.iload_n 3, 1) := by decide +kernel
theorem dX12_isKept_4 : decode cX12_isKept 4 = .ok (.invokevirtual 301, 3) := by decide +kernel
theorem dX12_isKept_7 : decode cX12_isKept 7 = .ok (.aload_n 0, 1) := by decide +kernel
theorem dX12_isKept_8 : decode cX12_isKept 8 = .ok (.getfield 33, 3) := by decide +kernel
theorem dX12_isKept_11 : decode cX12_isKept 11 = .ok (.bipush 66, 2) := by decide +kernel
theorem dX12_isKept_13 : decode cX12_isKept 13 = .ok (.iload_n 1, 1) := by decide +kernel
theorem dX12_isKept_14 : decode cX12_isKept 14 = .ok (.iadd, 1) := by decide +kernel
theorem dX12_isKept_15 : decode cX12_isKept 15 = .ok (.iaload, 1) := by decide +kernel
theorem dX12_isKept_16 : decode cX12_isKept 16 = .ok (.if_icmp .lt 7, 3) := by decide +kernel
theorem dX12_isKept_19 : decode cX12_isKept 19 = .ok (.iconst 1, 1) := by decide +kernel
theorem dX12_isKept_20 : decode cX12_isKept 20 = .ok (.goto 4, 3) := by decide +kernel
theorem dX12_isKept_23 : decode cX12_isKept 23 = .ok (.iconst 0, 1) := by decide +kernel
theorem dX12_isKept_24 : decode cX12_isKept 24 = .ok (.ireturn, 1) := by decide +kernel
theorem dX12_isOff_0 : decode cX12_isOff 0 = .ok (.iconst 0, 1) := by decide +kernel
theorem dX12_isOff_1 : decode cX12_isOff 1 = .ok (.istore 4, 2) := by decide +kernel
theorem dX12_isOff_3 : decode cX12_isOff 3 = .ok (.iload 4, 2) := by decide +kernel
theorem dX12_isOff_5 : decode cX12_isOff 5 = .ok (.aload_n 0, 1) := by decide +kernel
theorem dX12_isOff_6 : decode cX12_isOff 6 = .ok (.getfield 33, 3) := by decide +kernel
theorem dX12_isOff_9 : decode cX12_isOff 9 = .ok (.bipush 123, 2) := by decide +kernel
theorem dX12_isOff_11 : decode cX12_isOff 11 = .ok (.iaload, 1) := by decide +kernel
theorem dX12_isOff_12 : decode cX12_isOff 12 = .ok (.if_icmp .ge 127, 3) := by decide +kernel
theorem dX12_isOff_15 : decode cX12_isOff 15 = .ok (.sipush 148, 3) := by decide +kernel
theorem dX12_isOff_18 : decode cX12_isOff 18 = .ok (.iconst 4, 1) := by decide +kernel
theorem dX12_isOff_19 : decode cX12_isOff 19 = .ok (.iload 4, 2) := by decide +kernel
theorem dX12_isOff_21 : decode cX12_isOff 21 = .ok (.imul, 1) := by decide +kernel
theorem dX12_isOff_22 : decode cX12_isOff 22 = .ok (.iadd, 1) := by decide +kernel
theorem dX12_isOff_23 : decode cX12_isOff 23 = .ok (.istore 5, 2) := by decide +kernel
theorem dX12_isOff_25 : decode cX12_isOff 25 = .ok (.aload_n 0, 1) := by decide +kernel
theorem dX12_isOff_26 : decode cX12_isOff 26 = .ok (.getfield 33, 3) := by decide +kernel
theorem dX12_isOff_29 : decode cX12_isOff 29 = .ok (.iload 5, 2) := by decide +kernel
theorem dX12_isOff_31 : decode cX12_isOff 31 = .ok (.iaload, 1) := by decide +kernel
theorem dX12_isOff_32 : decode cX12_isOff 32 = .ok (.iload_n 3, 1) := by decide +kernel
theorem dX12_isOff_33 : decode cX12_isOff 33 = .ok (.aload_n 0, 1) := by decide +kernel
theorem dX12_isOff_34 : decode cX12_isOff 34 = .ok (.getfield 33, 3) := by decide +kernel
theorem dX12_isOff_37 : decode cX12_isOff 37 = .ok (.iconst 0, 1) := by decide +kernel
theorem dX12_isOff_38 : decode cX12_isOff 38 = .ok (.iaload, 1) := by decide +kernel
theorem dX12_isOff_39 : decode cX12_isOff 39 = .ok (.imul, 1) := by decide +kernel
theorem dX12_isOff_40 : decode cX12_isOff 40 = .ok (.isub, 1) := by decide +kernel
theorem dX12_isOff_41 : decode cX12_isOff 41 = .ok (.istore 6, 2) := by decide +kernel
theorem dX12_isOff_43 : decode cX12_isOff 43 = .ok (.aload_n 0, 1) := by decide +kernel
theorem dX12_isOff_44 : decode cX12_isOff 44 = .ok (.getfield 33, 3) := by decide +kernel
theorem dX12_isOff_47 : decode cX12_isOff 47 = .ok (.iload 5, 2) := by decide +kernel
theorem dX12_isOff_49 : decode cX12_isOff 49 = .ok (.iconst 2, 1) := by decide +kernel
theorem dX12_isOff_50 : decode cX12_isOff 50 = .ok (.iadd, 1) := by decide +kernel
theorem dX12_isOff_51 : decode cX12_isOff 51 = .ok (.iaload, 1) := by decide +kernel
theorem dX12_isOff_52 : decode cX12_isOff 52 = .ok (.aload_n 0, 1) := by decide +kernel
theorem dX12_isOff_53 : decode cX12_isOff 53 = .ok (.getfield 33, 3) := by decide +kernel
theorem dX12_isOff_56 : decode cX12_isOff 56 = .ok (.bipush 82, 2) := by decide +kernel
theorem dX12_isOff_58 : decode cX12_isOff 58 = .ok (.iload_n 1, 1) := by decide +kernel
theorem dX12_isOff_59 : decode cX12_isOff 59 = .ok (.iadd, 1) := by decide +kernel
theorem dX12_isOff_60 : decode cX12_isOff 60 = .ok (.iaload, 1) := by decide +kernel
theorem dX12_isOff_61 : decode cX12_isOff 61 = .ok (.iconst 1, 1) := by decide +kernel
theorem dX12_isOff_62 : decode cX12_isOff 62 = .ok (.isub, 1) := by decide +kernel
theorem dX12_isOff_63 : decode cX12_isOff 63 = .ok (.if_icmp .ne 70, 3) := by decide +kernel
theorem dX12_isOff_66 : decode cX12_isOff 66 = .ok (.aload_n 0, 1) := by decide +kernel
theorem dX12_isOff_67 : decode cX12_isOff 67 = .ok (.getfield 33, 3) := by decide +kernel
theorem dX12_isOff_70 : decode cX12_isOff 70 = .ok (.iload 5, 2) := by decide +kernel
theorem dX12_isOff_72 : decode cX12_isOff 72 = .ok (.iaload, 1) := by decide +kernel
theorem dX12_isOff_73 : decode cX12_isOff 73 = .ok (.aload_n 0, 1) := by decide +kernel
theorem dX12_isOff_74 : decode cX12_isOff 74 = .ok (.getfield 33, 3) := by decide +kernel
theorem dX12_isOff_77 : decode cX12_isOff 77 = .ok (.bipush 124, 2) := by decide +kernel
theorem dX12_isOff_79 : decode cX12_isOff 79 = .ok (.iload_n 1, 1) := by decide +kernel
theorem dX12_isOff_80 : decode cX12_isOff 80 = .ok (.iadd, 1) := by decide +kernel
theorem dX12_isOff_81 : decode cX12_isOff 81 = .ok (.iaload, 1) := by decide +kernel
theorem dX12_isOff_82 : decode cX12_isOff 82 = .ok (.iconst 1, 1) := by decide +kernel
theorem dX12_isOff_83 : decode cX12_isOff 83 = .ok (.isub, 1) := by decide +kernel
theorem dX12_isOff_84 : decode cX12_isOff 84 = .ok (.if_icmp .lt 49, 3) := by decide +kernel
theorem dX12_isOff_87 : decode cX12_isOff 87 = .ok (.iload 6, 2) := by decide +kernel
theorem dX12_isOff_89 : decode cX12_isOff 89 = .ok (.iconst 0, 1) := by decide +kernel
theorem dX12_isOff_90 : decode cX12_isOff 90 = .ok (.aload_n 0, 1) := by decide +kernel
theorem dX12_isOff_91 : decode cX12_isOff 91 = .ok (.iload_n 1, 1) := by decide +kernel
theorem dX12_isOff_92 : decode cX12_isOff 92 = .ok (.iload_n 2, 1) := by decide +kernel
theorem dX12_isOff_93 : decode cX12_isOff 93 = .ok (.invokevirtual 298, 3) := by decide +kernel
theorem dX12_isOff_96 : decode cX12_isOff 96 = .ok (.invokestatic 187, 3) := by decide +kernel
theorem dX12_isOff_99 : decode cX12_isOff 99 = .ok (.ifCond .eq 34, 3) := by decide +kernel
theorem dX12_isOff_102 : decode cX12_isOff 102 = .ok (.iload_n 2, 1) := by decide +kernel
theorem dX12_isOff_103 : decode cX12_isOff 103 = .ok (.iconst 1, 1) := by decide +kernel
theorem dX12_isOff_104 : decode cX12_isOff 104 = .ok (.invokestatic 223, 3) := by decide +kernel
theorem dX12_isOff_107 : decode cX12_isOff 107 = .ok (.ifCond .eq 24, 3) := by decide +kernel
theorem dX12_isOff_110 : decode cX12_isOff 110 = .ok (.aload_n 0, 1) := by decide +kernel
theorem dX12_isOff_111 : decode cX12_isOff 111 = .ok (.getfield 33, 3) := by decide +kernel
theorem dX12_isOff_114 : decode cX12_isOff 114 = .ok (.iload 5, 2) := by decide +kernel
theorem dX12_isOff_116 : decode cX12_isOff 116 = .ok (.iconst 1, 1) := by decide +kernel
theorem dX12_isOff_117 : decode cX12_isOff 117 = .ok (.iadd, 1) := by decide +kernel
theorem dX12_isOff_118 : decode cX12_isOff 118 = .ok (.iaload, 1) := by decide +kernel
theorem dX12_isOff_119 : decode cX12_isOff 119 = .ok (.aload_n 0, 1) := by decide +kernel
theorem dX12_isOff_120 : decode cX12_isOff 120 = .ok (.getfield 33, 3) := by decide +kernel
theorem dX12_isOff_123 : decode cX12_isOff 123 = .ok (.bipush 26, 2) := by decide +kernel
theorem dX12_isOff_125 : decode cX12_isOff 125 = .ok (.iload_n 1, 1) := by decide +kernel
theorem dX12_isOff_126 : decode cX12_isOff 126 = .ok (.iadd, 1) := by decide +kernel
theorem dX12_isOff_127 : decode cX12_isOff 127 = .ok (.iaload, 1) := by decide +kernel
theorem dX12_isOff_128 : decode cX12_isOff 128 = .ok (.if_icmp .ne 5, 3) := by decide +kernel
theorem dX12_isOff_131 : decode cX12_isOff 131 = .ok (.iconst 1, 1) := by decide +kernel
theorem dX12_isOff_132 : decode cX12_isOff 132 = .ok (.ireturn, 1) := by decide +kernel
theorem dX12_isOff_133 : decode cX12_isOff 133 = .ok (.iinc 4 1, 3) := by decide +kernel
theorem dX12_isOff_136 : decode cX12_isOff 136 = .ok (.goto (-133), 3) := by decide +kernel
theorem dX12_isOff_139 : decode cX12_isOff 139 = .ok (.iconst 0, 1) := by decide +kernel
theorem dX12_isOff_140 : decode cX12_isOff 140 = .ok (.ireturn, 1) := by decide +kernel
theorem dX12_brokenOf_0 : decode cX12_brokenOf 0 = .ok (.aload_n 0, 1) := by decide +kernel
theorem dX12_brokenOf_1 : decode cX12_brokenOf 1 = .ok (.getfield 33, 3) := by decide +kernel
theorem dX12_brokenOf_4 : decode cX12_brokenOf 4 = .ok (.sipush 132, 3) := by decide +kernel
theorem dX12_brokenOf_7 : decode cX12_brokenOf 7 = .ok (.iload_n 1, 1) := by decide +kernel
theorem dX12_brokenOf_8 : decode cX12_brokenOf 8 = .ok (.iadd, 1) := by decide +kernel
theorem dX12_brokenOf_9 : decode cX12_brokenOf 9 = .ok (.iaload, 1) := by decide +kernel
theorem dX12_brokenOf_10 : decode cX12_brokenOf 10 = .ok (.ifCond .ne 5, 3) := by decide +kernel
theorem dX12_brokenOf_13 : decode cX12_brokenOf 13 = .ok (.iconst (-1), 1) := by decide +kernel
theorem dX12_brokenOf_14 : decode cX12_brokenOf 14 = .ok (.ireturn, 1) := by decide +kernel
theorem dX12_brokenOf_15 : decode cX12_brokenOf 15 = .ok (.aload_n 0, 1) := by decide +kernel
theorem dX12_brokenOf_16 : decode cX12_brokenOf 16 = .ok (.iload_n 1, 1) := by decide +kernel
theorem dX12_brokenOf_17 : decode cX12_brokenOf 17 = .ok (.iload_n 2, 1) := by decide +kernel
theorem dX12_brokenOf_18 : decode cX12_brokenOf 18 = .ok (.invokevirtual 305, 3) := by decide +kernel
theorem dX12_brokenOf_21 : decode cX12_brokenOf 21 = .ok (.istore_n 3, 1) := by decide +kernel
theorem dX12_brokenOf_22 : decode cX12_brokenOf 22 = .ok (.iload_n 3, 1) := by decide +kernel
theorem dX12_brokenOf_23 : decode cX12_brokenOf 23 = .ok (.istore 4, 2) := by decide +kernel
theorem dX12_brokenOf_25 : decode cX12_brokenOf 25 = .ok (.iload 4, 2) := by decide +kernel
theorem dX12_brokenOf_27 : decode cX12_brokenOf 27 = .ok (.bipush 20, 2) := by decide +kernel
theorem dX12_brokenOf_29 : decode cX12_brokenOf 29 = .ok (.if_icmp .ge 81, 3) := by decide +kernel
theorem dX12_brokenOf_32 : decode cX12_brokenOf 32 = .ok (.iload 4, 2) := by decide +kernel
theorem dX12_brokenOf_34 : decode cX12_brokenOf 34 = .ok (.iload_n 3, 1) := by decide +kernel
theorem dX12_brokenOf_35 : decode cX12_brokenOf 35 = .ok (.if_icmp .eq 16, 3) := by decide +kernel
theorem dX12_brokenOf_38 : decode cX12_brokenOf 38 = .ok (.aload_n 0, 1) := by decide +kernel
theorem dX12_brokenOf_39 : decode cX12_brokenOf 39 = .ok (.getfield 33, 3) := by decide +kernel
theorem dX12_brokenOf_42 : decode cX12_brokenOf 42 = .ok (.bipush 74, 2) := by decide +kernel
theorem dX12_brokenOf_44 : decode cX12_brokenOf 44 = .ok (.iload_n 1, 1) := by decide +kernel
theorem dX12_brokenOf_45 : decode cX12_brokenOf 45 = .ok (.iadd, 1) := by decide +kernel
theorem dX12_brokenOf_46 : decode cX12_brokenOf 46 = .ok (.iaload, 1) := by decide +kernel
theorem dX12_brokenOf_47 : decode cX12_brokenOf 47 = .ok (.iconst 1, 1) := by decide +kernel
theorem dX12_brokenOf_48 : decode cX12_brokenOf 48 = .ok (.if_icmp .ne 62, 3) := by decide +kernel
theorem dX12_brokenOf_51 : decode cX12_brokenOf 51 = .ok (.aload_n 0, 1) := by decide +kernel
theorem dX12_brokenOf_52 : decode cX12_brokenOf 52 = .ok (.getfield 33, 3) := by decide +kernel
theorem dX12_brokenOf_55 : decode cX12_brokenOf 55 = .ok (.bipush 106, 2) := by decide +kernel
theorem dX12_brokenOf_57 : decode cX12_brokenOf 57 = .ok (.iaload, 1) := by decide +kernel
theorem dX12_brokenOf_58 : decode cX12_brokenOf 58 = .ok (.iload 4, 2) := by decide +kernel
theorem dX12_brokenOf_60 : decode cX12_brokenOf 60 = .ok (.aload_n 0, 1) := by decide +kernel
theorem dX12_brokenOf_61 : decode cX12_brokenOf 61 = .ok (.getfield 33, 3) := by decide +kernel
theorem dX12_brokenOf_64 : decode cX12_brokenOf 64 = .ok (.iconst 0, 1) := by decide +kernel
theorem dX12_brokenOf_65 : decode cX12_brokenOf 65 = .ok (.iaload, 1) := by decide +kernel
theorem dX12_brokenOf_66 : decode cX12_brokenOf 66 = .ok (.imul, 1) := by decide +kernel
theorem dX12_brokenOf_67 : decode cX12_brokenOf 67 = .ok (.aload_n 0, 1) := by decide +kernel
theorem dX12_brokenOf_68 : decode cX12_brokenOf 68 = .ok (.iload_n 1, 1) := by decide +kernel
theorem dX12_brokenOf_69 : decode cX12_brokenOf 69 = .ok (.iload_n 2, 1) := by decide +kernel
theorem dX12_brokenOf_70 : decode cX12_brokenOf 70 = .ok (.invokevirtual 298, 3) := by decide +kernel
theorem dX12_brokenOf_73 : decode cX12_brokenOf 73 = .ok (.iadd, 1) := by decide +kernel
theorem dX12_brokenOf_74 : decode cX12_brokenOf 74 = .ok (.if_icmp .gt 5, 3) := by decide +kernel
theorem dX12_brokenOf_77 : decode cX12_brokenOf 77 = .ok (.iconst (-1), 1) := by decide +kernel
theorem dX12_brokenOf_78 : decode cX12_brokenOf 78 = .ok (.ireturn, 1) := by decide +kernel
theorem dX12_brokenOf_79 : decode cX12_brokenOf 79 = .ok (.aload_n 0, 1) := by decide +kernel
theorem dX12_brokenOf_80 : decode cX12_brokenOf 80 = .ok (.iload_n 1, 1) := by decide +kernel
theorem dX12_brokenOf_81 : decode cX12_brokenOf 81 = .ok (.iload_n 2, 1) := by decide +kernel
theorem dX12_brokenOf_82 : decode cX12_brokenOf 82 = .ok (.iload 4, 2) := by decide +kernel
theorem dX12_brokenOf_84 : decode cX12_brokenOf 84 = .ok (.invokevirtual 308, 3) := by decide +kernel
theorem dX12_brokenOf_87 : decode cX12_brokenOf 87 = .ok (.ifCond .ne 17, 3) := by decide +kernel
theorem dX12_brokenOf_90 : decode cX12_brokenOf 90 = .ok (.aload_n 0, 1) := by decide +kernel
theorem dX12_brokenOf_91 : decode cX12_brokenOf 91 = .ok (.iload_n 1, 1) := by decide +kernel
theorem dX12_brokenOf_92 : decode cX12_brokenOf 92 = .ok (.iload_n 2, 1) := by decide +kernel
theorem dX12_brokenOf_93 : decode cX12_brokenOf 93 = .ok (.iload 4, 2) := by decide +kernel
theorem dX12_brokenOf_95 : decode cX12_brokenOf 95 = .ok (.invokevirtual 311, 3) := by decide +kernel
theorem dX12_brokenOf_98 : decode cX12_brokenOf 98 = .ok (.ifCond .ne 6, 3) := by decide +kernel
theorem dX12_brokenOf_101 : decode cX12_brokenOf 101 = .ok (.iload 4, 2) := by decide +kernel
theorem dX12_brokenOf_103 : decode cX12_brokenOf 103 = .ok (.ireturn, 1) := by decide +kernel
theorem dX12_brokenOf_104 : decode cX12_brokenOf 104 = .ok (.iinc 4 1, 3) := by decide +kernel
theorem dX12_brokenOf_107 : decode cX12_brokenOf 107 = .ok (.goto (-82), 3) := by decide +kernel
theorem dX12_brokenOf_110 : decode cX12_brokenOf 110 = .ok (.iconst (-1), 1) := by decide +kernel
theorem dX12_brokenOf_111 : decode cX12_brokenOf 111 = .ok (.ireturn, 1) := by decide +kernel
theorem dX12_statusOf_0 : decode cX12_statusOf 0 = .ok (.aload_n 0, 1) := by decide +kernel
theorem dX12_statusOf_1 : decode cX12_statusOf 1 = .ok (.getfield 33, 3) := by decide +kernel
theorem dX12_statusOf_4 : decode cX12_statusOf 4 = .ok (.sipush 132, 3) := by decide +kernel
theorem dX12_statusOf_7 : decode cX12_statusOf 7 = .ok (.iload_n 1, 1) := by decide +kernel
theorem dX12_statusOf_8 : decode cX12_statusOf 8 = .ok (.iadd, 1) := by decide +kernel
theorem dX12_statusOf_9 : decode cX12_statusOf 9 = .ok (.iaload, 1) := by decide +kernel
theorem dX12_statusOf_10 : decode cX12_statusOf 10 = .ok (.ifCond .ne 5, 3) := by decide +kernel
theorem dX12_statusOf_13 : decode cX12_statusOf 13 = .ok (.iconst 0, 1) := by decide +kernel
theorem dX12_statusOf_14 : decode cX12_statusOf 14 = .ok (.ireturn, 1) := by decide +kernel
theorem dX12_statusOf_15 : decode cX12_statusOf 15 = .ok (.aload_n 0, 1) := by decide +kernel
theorem dX12_statusOf_16 : decode cX12_statusOf 16 = .ok (.iload_n 1, 1) := by decide +kernel
theorem dX12_statusOf_17 : decode cX12_statusOf 17 = .ok (.iload_n 2, 1) := by decide +kernel
theorem dX12_statusOf_18 : decode cX12_statusOf 18 = .ok (.invokevirtual 314, 3) := by decide +kernel
theorem dX12_statusOf_21 : decode cX12_statusOf 21 = .ok (.ifCond .lt 5, 3) := by decide +kernel
theorem dX12_statusOf_24 : decode cX12_statusOf 24 = .ok (.iconst 4, 1) := by decide +kernel
theorem dX12_statusOf_25 : decode cX12_statusOf 25 = .ok (.ireturn, 1) := by decide +kernel
theorem dX12_statusOf_26 : decode cX12_statusOf 26 = .ok (.aload_n 0, 1) := by decide +kernel
theorem dX12_statusOf_27 : decode cX12_statusOf 27 = .ok (.iload_n 1, 1) := by decide +kernel
theorem dX12_statusOf_28 : decode cX12_statusOf 28 = .ok (.iload_n 2, 1) := by decide +kernel
theorem dX12_statusOf_29 : decode cX12_statusOf 29 = .ok (.invokevirtual 305, 3) := by decide +kernel
theorem dX12_statusOf_32 : decode cX12_statusOf 32 = .ok (.istore_n 3, 1) := by decide +kernel
theorem dX12_statusOf_33 : decode cX12_statusOf 33 = .ok (.aload_n 0, 1) := by decide +kernel
theorem dX12_statusOf_34 : decode cX12_statusOf 34 = .ok (.getfield 33, 3) := by decide +kernel
theorem dX12_statusOf_37 : decode cX12_statusOf 37 = .ok (.bipush 74, 2) := by decide +kernel
theorem dX12_statusOf_39 : decode cX12_statusOf 39 = .ok (.iload_n 1, 1) := by decide +kernel
theorem dX12_statusOf_40 : decode cX12_statusOf 40 = .ok (.iadd, 1) := by decide +kernel
theorem dX12_statusOf_41 : decode cX12_statusOf 41 = .ok (.iaload, 1) := by decide +kernel
theorem dX12_statusOf_42 : decode cX12_statusOf 42 = .ok (.iconst 1, 1) := by decide +kernel
theorem dX12_statusOf_43 : decode cX12_statusOf 43 = .ok (.if_icmp .eq 9, 3) := by decide +kernel
theorem dX12_statusOf_46 : decode cX12_statusOf 46 = .ok (.iload_n 3, 1) := by decide +kernel
theorem dX12_statusOf_47 : decode cX12_statusOf 47 = .ok (.bipush 20, 2) := by decide +kernel
theorem dX12_statusOf_49 : decode cX12_statusOf 49 = .ok (.if_icmp .ne 5, 3) := by decide +kernel
theorem dX12_statusOf_52 : decode cX12_statusOf 52 = .ok (.iconst 1, 1) := by decide +kernel
theorem dX12_statusOf_53 : decode cX12_statusOf 53 = .ok (.ireturn, 1) := by decide +kernel
theorem dX12_statusOf_54 : decode cX12_statusOf 54 = .ok (.aload_n 0, 1) := by decide +kernel
theorem dX12_statusOf_55 : decode cX12_statusOf 55 = .ok (.iload_n 1, 1) := by decide +kernel
theorem dX12_statusOf_56 : decode cX12_statusOf 56 = .ok (.iload_n 2, 1) := by decide +kernel
theorem dX12_statusOf_57 : decode cX12_statusOf 57 = .ok (.iload_n 3, 1) := by decide +kernel
theorem dX12_statusOf_58 : decode cX12_statusOf 58 = .ok (.invokevirtual 308, 3) := by decide +kernel
theorem dX12_statusOf_61 : decode cX12_statusOf 61 = .ok (.ifCond .eq 7, 3) := by decide +kernel
theorem dX12_statusOf_64 : decode cX12_statusOf 64 = .ok (.iconst 2, 1) := by decide +kernel
theorem dX12_statusOf_65 : decode cX12_statusOf 65 = .ok (.goto 18, 3) := by decide +kernel
theorem dX12_statusOf_68 : decode cX12_statusOf 68 = .ok (.aload_n 0, 1) := by decide +kernel
theorem dX12_statusOf_69 : decode cX12_statusOf 69 = .ok (.iload_n 1, 1) := by decide +kernel
theorem dX12_statusOf_70 : decode cX12_statusOf 70 = .ok (.iload_n 2, 1) := by decide +kernel
theorem dX12_statusOf_71 : decode cX12_statusOf 71 = .ok (.iload_n 3, 1) := by decide +kernel
theorem dX12_statusOf_72 : decode cX12_statusOf 72 = .ok (.invokevirtual 311, 3) := by decide +kernel
theorem dX12_statusOf_75 : decode cX12_statusOf 75 = .ok (.ifCond .eq 7, 3) := by decide +kernel
theorem dX12_statusOf_78 : decode cX12_statusOf 78 = .ok (.iconst 3, 1) := by decide +kernel
theorem dX12_statusOf_79 : decode cX12_statusOf 79 = .ok (.goto 4, 3) := by decide +kernel
theorem dX12_statusOf_82 : decode cX12_statusOf 82 = .ok (.iconst 1, 1) := by decide +kernel
theorem dX12_statusOf_83 : decode cX12_statusOf 83 = .ok (.ireturn, 1) := by decide +kernel
theorem dX12_isReading_0 : decode cX12_isReading 0 = .ok (.aload_n 0, 1) := by decide +kernel
theorem dX12_isReading_1 : decode cX12_isReading 1 = .ok (.iload_n 1, 1) := by decide +kernel
theorem dX12_isReading_2 : decode cX12_isReading 2 = .ok (.invokevirtual 244, 3) := by decide +kernel
theorem dX12_isReading_5 : decode cX12_isReading 5 = .ok (.ifCond .eq 17, 3) := by decide +kernel
theorem dX12_isReading_8 : decode cX12_isReading 8 = .ok (.iload_n 2, 1) := by decide +kernel
theorem dX12_isReading_9 : decode cX12_isReading 9 = .ok (.iconst 0, 1) := by decide +kernel
theorem dX12_isReading_10 : decode cX12_isReading 10 = .ok (.bipush 7, 2) := by decide +kernel
theorem dX12_isReading_12 : decode cX12_isReading 12 = .ok (.invokestatic 187, 3) := by decide +kernel
theorem dX12_isReading_15 : decode cX12_isReading 15 = .ok (.ifCond .eq 7, 3) := by decide +kernel
theorem dX12_isReading_18 : decode cX12_isReading 18 = .ok (.iconst 1, 1) := by decide +kernel
theorem dX12_isReading_19 : decode cX12_isReading 19 = .ok (.goto 4, 3) := by decide +kernel
theorem dX12_isReading_22 : decode cX12_isReading 22 = .ok (.iconst 0, 1) := by decide +kernel
theorem dX12_isReading_23 : decode cX12_isReading 23 = .ok (.ireturn, 1) := by decide +kernel
theorem dX12_status_0 : decode cX12_status 0 = .ok (.aload_n 0, 1) := by decide +kernel
theorem dX12_status_1 : decode cX12_status 1 = .ok (.iconst 0, 1) := by decide +kernel
theorem dX12_status_2 : decode cX12_status 2 = .ok (.putfield 1, 3) := by decide +kernel
theorem dX12_status_5 : decode cX12_status 5 = .ok (.aload_n 0, 1) := by decide +kernel
theorem dX12_status_6 : decode cX12_status 6 = .ok (.iload_n 1, 1) := by decide +kernel
theorem dX12_status_7 : decode cX12_status 7 = .ok (.iload_n 2, 1) := by decide +kernel
theorem dX12_status_8 : decode cX12_status 8 = .ok (.invokevirtual 317, 3) := by decide +kernel
theorem dX12_status_11 : decode cX12_status 11 = .ok (.ifCond .eq 12, 3) := by decide +kernel
theorem dX12_status_14 : decode cX12_status 14 = .ok (.aload_n 0, 1) := by decide +kernel
theorem dX12_status_15 : decode cX12_status 15 = .ok (.iload_n 1, 1) := by decide +kernel
theorem dX12_status_16 : decode cX12_status 16 = .ok (.iload_n 2, 1) := by decide +kernel
theorem dX12_status_17 : decode cX12_status 17 = .ok (.invokevirtual 257, 3) := by decide +kernel
theorem dX12_status_20 : decode cX12_status 20 = .ok (.goto 4, 3) := by decide +kernel
theorem dX12_status_23 : decode cX12_status 23 = .ok (.iconst (-1), 1) := by decide +kernel
theorem dX12_status_24 : decode cX12_status 24 = .ok (.ireturn, 1) := by decide +kernel
theorem dX12_readings_0 : decode cX12_readings 0 = .ok (.aload_n 0, 1) := by decide +kernel
theorem dX12_readings_1 : decode cX12_readings 1 = .ok (.iconst 0, 1) := by decide +kernel
theorem dX12_readings_2 : decode cX12_readings 2 = .ok (.putfield 1, 3) := by decide +kernel
theorem dX12_readings_5 : decode cX12_readings 5 = .ok (.aload_n 0, 1) := by decide +kernel
theorem dX12_readings_6 : decode cX12_readings 6 = .ok (.iload_n 1, 1) := by decide +kernel
theorem dX12_readings_7 : decode cX12_readings 7 = .ok (.invokevirtual 244, 3) := by decide +kernel
theorem dX12_readings_10 : decode cX12_readings 10 = .ok (.ifCond .eq 12, 3) := by decide +kernel
theorem dX12_readings_13 : decode cX12_readings 13 = .ok (.iload_n 2, 1) := by decide +kernel
theorem dX12_readings_14 : decode cX12_readings 14 = .ok (.iconst 0, 1) := by decide +kernel
theorem dX12_readings_15 : decode cX12_readings 15 = .ok (.iconst 4, 1) := by decide +kernel
theorem dX12_readings_16 : decode cX12_readings 16 = .ok (.invokestatic 187, 3) := by decide +kernel
theorem dX12_readings_19 : decode cX12_readings 19 = .ok (.ifCond .ne 5, 3) := by decide +kernel
theorem dX12_readings_22 : decode cX12_readings 22 = .ok (.iconst (-1), 1) := by decide +kernel
theorem dX12_readings_23 : decode cX12_readings 23 = .ok (.ireturn, 1) := by decide +kernel
theorem dX12_readings_24 : decode cX12_readings 24 = .ok (.iconst 0, 1) := by decide +kernel
theorem dX12_readings_25 : decode cX12_readings 25 = .ok (.istore_n 3, 1) := by decide +kernel
theorem dX12_readings_26 : decode cX12_readings 26 = .ok (.iconst 0, 1) := by decide +kernel
theorem dX12_readings_27 : decode cX12_readings 27 = .ok (.istore 4, 2) := by decide +kernel
theorem dX12_readings_29 : decode cX12_readings 29 = .ok (.iload 4, 2) := by decide +kernel
theorem dX12_readings_31 : decode cX12_readings 31 = .ok (.bipush 8, 2) := by decide +kernel
theorem dX12_readings_33 : decode cX12_readings 33 = .ok (.if_icmp .ge 31, 3) := by decide +kernel
theorem dX12_readings_36 : decode cX12_readings 36 = .ok (.iload_n 3, 1) := by decide +kernel
theorem dX12_readings_37 : decode cX12_readings 37 = .ok (.aload_n 0, 1) := by decide +kernel
theorem dX12_readings_38 : decode cX12_readings 38 = .ok (.iload_n 1, 1) := by decide +kernel
theorem dX12_readings_39 : decode cX12_readings 39 = .ok (.iload 4, 2) := by decide +kernel
theorem dX12_readings_41 : decode cX12_readings 41 = .ok (.invokevirtual 257, 3) := by decide +kernel
theorem dX12_readings_44 : decode cX12_readings 44 = .ok (.iload_n 2, 1) := by decide +kernel
theorem dX12_readings_45 : decode cX12_readings 45 = .ok (.if_icmp .ne 10, 3) := by decide +kernel
theorem dX12_readings_48 : decode cX12_readings 48 = .ok (.iconst 1, 1) := by decide +kernel
theorem dX12_readings_49 : decode cX12_readings 49 = .ok (.iload 4, 2) := by decide +kernel
theorem dX12_readings_51 : decode cX12_readings 51 = .ok (.ishl, 1) := by decide +kernel
theorem dX12_readings_52 : decode cX12_readings 52 = .ok (.goto 4, 3) := by decide +kernel
theorem dX12_readings_55 : decode cX12_readings 55 = .ok (.iconst 0, 1) := by decide +kernel
theorem dX12_readings_56 : decode cX12_readings 56 = .ok (.ior, 1) := by decide +kernel
theorem dX12_readings_57 : decode cX12_readings 57 = .ok (.istore_n 3, 1) := by decide +kernel
theorem dX12_readings_58 : decode cX12_readings 58 = .ok (.iinc 4 1, 3) := by decide +kernel
theorem dX12_readings_61 : decode cX12_readings 61 = .ok (.goto (-32), 3) := by decide +kernel
theorem dX12_readings_64 : decode cX12_readings 64 = .ok (.iload_n 3, 1) := by decide +kernel
theorem dX12_readings_65 : decode cX12_readings 65 = .ok (.ireturn, 1) := by decide +kernel
theorem dX12_broken_0 : decode cX12_broken 0 = .ok (.aload_n 0, 1) := by decide +kernel
theorem dX12_broken_1 : decode cX12_broken 1 = .ok (.iconst 0, 1) := by decide +kernel
theorem dX12_broken_2 : decode cX12_broken 2 = .ok (.putfield 1, 3) := by decide +kernel
theorem dX12_broken_5 : decode cX12_broken 5 = .ok (.aload_n 0, 1) := by decide +kernel
theorem dX12_broken_6 : decode cX12_broken 6 = .ok (.iload_n 1, 1) := by decide +kernel
theorem dX12_broken_7 : decode cX12_broken 7 = .ok (.iload_n 2, 1) := by decide +kernel
theorem dX12_broken_8 : decode cX12_broken 8 = .ok (.invokevirtual 317, 3) := by decide +kernel
theorem dX12_broken_11 : decode cX12_broken 11 = .ok (.ifCond .eq 12, 3) := by decide +kernel
theorem dX12_broken_14 : decode cX12_broken 14 = .ok (.aload_n 0, 1) := by decide +kernel
theorem dX12_broken_15 : decode cX12_broken 15 = .ok (.iload_n 1, 1) := by decide +kernel
theorem dX12_broken_16 : decode cX12_broken 16 = .ok (.iload_n 2, 1) := by decide +kernel
theorem dX12_broken_17 : decode cX12_broken 17 = .ok (.invokevirtual 314, 3) := by decide +kernel
theorem dX12_broken_20 : decode cX12_broken 20 = .ok (.goto 4, 3) := by decide +kernel
theorem dX12_broken_23 : decode cX12_broken 23 = .ok (.iconst (-1), 1) := by decide +kernel
theorem dX12_broken_24 : decode cX12_broken 24 = .ok (.ireturn, 1) := by decide +kernel
theorem dX12_breach_0 : decode cX12_breach 0 = .ok (.aload_n 0, 1) := by decide +kernel
theorem dX12_breach_1 : decode cX12_breach 1 = .ok (.iconst 0, 1) := by decide +kernel
theorem dX12_breach_2 : decode cX12_breach 2 = .ok (.putfield 1, 3) := by decide +kernel
theorem dX12_breach_5 : decode cX12_breach 5 = .ok (.aload_n 0, 1) := by decide +kernel
theorem dX12_breach_6 : decode cX12_breach 6 = .ok (.iload_n 1, 1) := by decide +kernel
theorem dX12_breach_7 : decode cX12_breach 7 = .ok (.invokevirtual 244, 3) := by decide +kernel
theorem dX12_breach_10 : decode cX12_breach 10 = .ok (.ifCond .eq 12, 3) := by decide +kernel
theorem dX12_breach_13 : decode cX12_breach 13 = .ok (.iload_n 2, 1) := by decide +kernel
theorem dX12_breach_14 : decode cX12_breach 14 = .ok (.iconst 0, 1) := by decide +kernel
theorem dX12_breach_15 : decode cX12_breach 15 = .ok (.iconst 1, 1) := by decide +kernel
theorem dX12_breach_16 : decode cX12_breach 16 = .ok (.invokestatic 187, 3) := by decide +kernel
theorem dX12_breach_19 : decode cX12_breach 19 = .ok (.ifCond .ne 5, 3) := by decide +kernel
theorem dX12_breach_22 : decode cX12_breach 22 = .ok (.iconst (-1), 1) := by decide +kernel
theorem dX12_breach_23 : decode cX12_breach 23 = .ok (.ireturn, 1) := by decide +kernel
theorem dX12_breach_24 : decode cX12_breach 24 = .ok (.iconst (-1), 1) := by decide +kernel
theorem dX12_breach_25 : decode cX12_breach 25 = .ok (.istore_n 3, 1) := by decide +kernel
theorem dX12_breach_26 : decode cX12_breach 26 = .ok (.iconst (-1), 1) := by decide +kernel
theorem dX12_breach_27 : decode cX12_breach 27 = .ok (.istore 4, 2) := by decide +kernel
theorem dX12_breach_29 : decode cX12_breach 29 = .ok (.iconst 0, 1) := by decide +kernel
theorem dX12_breach_30 : decode cX12_breach 30 = .ok (.istore 5, 2) := by decide +kernel
theorem dX12_breach_32 : decode cX12_breach 32 = .ok (.iconst 0, 1) := by decide +kernel
theorem dX12_breach_33 : decode cX12_breach 33 = .ok (.istore 6, 2) := by decide +kernel
theorem dX12_breach_35 : decode cX12_breach 35 = .ok (.iload 6, 2) := by decide +kernel
theorem dX12_breach_37 : decode cX12_breach 37 = .ok (.bipush 8, 2) := by decide +kernel
theorem dX12_breach_39 : decode cX12_breach 39 = .ok (.if_icmp .ge 62, 3) := by decide +kernel
theorem dX12_breach_42 : decode cX12_breach 42 = .ok (.aload_n 0, 1) := by decide +kernel
theorem dX12_breach_43 : decode cX12_breach 43 = .ok (.iload_n 1, 1) := by decide +kernel
theorem dX12_breach_44 : decode cX12_breach 44 = .ok (.iload 6, 2) := by decide +kernel
theorem dX12_breach_46 : decode cX12_breach 46 = .ok (.invokevirtual 314, 3) := by decide +kernel
theorem dX12_breach_49 : decode cX12_breach 49 = .ok (.istore 7, 2) := by decide +kernel
theorem dX12_breach_51 : decode cX12_breach 51 = .ok (.iload 7, 2) := by decide +kernel
theorem dX12_breach_53 : decode cX12_breach 53 = .ok (.ifCond .ge 6, 3) := by decide +kernel
theorem dX12_breach_56 : decode cX12_breach 56 = .ok (.goto 39, 3) := by decide +kernel
theorem dX12_breach_59 : decode cX12_breach 59 = .ok (.iinc 5 1, 3) := by decide +kernel
theorem dX12_breach_62 : decode cX12_breach 62 = .ok (.iload_n 3, 1) := by decide +kernel
theorem dX12_breach_63 : decode cX12_breach 63 = .ok (.ifCond .lt 9, 3) := by decide +kernel
theorem dX12_breach_66 : decode cX12_breach 66 = .ok (.iload 7, 2) := by decide +kernel
theorem dX12_breach_68 : decode cX12_breach 68 = .ok (.iload_n 3, 1) := by decide +kernel
theorem dX12_breach_69 : decode cX12_breach 69 = .ok (.if_icmp .ge 8, 3) := by decide +kernel
theorem dX12_breach_72 : decode cX12_breach 72 = .ok (.iload 7, 2) := by decide +kernel
theorem dX12_breach_74 : decode cX12_breach 74 = .ok (.goto 4, 3) := by decide +kernel
theorem dX12_breach_77 : decode cX12_breach 77 = .ok (.iload_n 3, 1) := by decide +kernel
theorem dX12_breach_78 : decode cX12_breach 78 = .ok (.istore_n 3, 1) := by decide +kernel
theorem dX12_breach_79 : decode cX12_breach 79 = .ok (.iload 7, 2) := by decide +kernel
theorem dX12_breach_81 : decode cX12_breach 81 = .ok (.iload 4, 2) := by decide +kernel
theorem dX12_breach_83 : decode cX12_breach 83 = .ok (.if_icmp .le 8, 3) := by decide +kernel
theorem dX12_breach_86 : decode cX12_breach 86 = .ok (.iload 7, 2) := by decide +kernel
theorem dX12_breach_88 : decode cX12_breach 88 = .ok (.goto 5, 3) := by decide +kernel
theorem dX12_breach_91 : decode cX12_breach 91 = .ok (.iload 4, 2) := by decide +kernel
theorem dX12_breach_93 : decode cX12_breach 93 = .ok (.istore 4, 2) := by decide +kernel
theorem dX12_breach_95 : decode cX12_breach 95 = .ok (.iinc 6 1, 3) := by decide +kernel
theorem dX12_breach_98 : decode cX12_breach 98 = .ok (.goto (-63), 3) := by decide +kernel
theorem dX12_breach_101 : decode cX12_breach 101 = .ok (.iload_n 2, 1) := by decide +kernel
theorem dX12_breach_102 : decode cX12_breach 102 = .ok (.ifCond .ne 7, 3) := by decide +kernel
theorem dX12_breach_105 : decode cX12_breach 105 = .ok (.iload_n 3, 1) := by decide +kernel
theorem dX12_breach_106 : decode cX12_breach 106 = .ok (.goto 16, 3) := by decide +kernel
theorem dX12_breach_109 : decode cX12_breach 109 = .ok (.iload 5, 2) := by decide +kernel
theorem dX12_breach_111 : decode cX12_breach 111 = .ok (.bipush 8, 2) := by decide +kernel
theorem dX12_breach_113 : decode cX12_breach 113 = .ok (.if_icmp .ne 8, 3) := by decide +kernel
theorem dX12_breach_116 : decode cX12_breach 116 = .ok (.iload 4, 2) := by decide +kernel
theorem dX12_breach_118 : decode cX12_breach 118 = .ok (.goto 4, 3) := by decide +kernel
theorem dX12_breach_121 : decode cX12_breach 121 = .ok (.iconst (-1), 1) := by decide +kernel
theorem dX12_breach_122 : decode cX12_breach 122 = .ok (.ireturn, 1) := by decide +kernel
theorem dX12_isDue_0 : decode cX12_isDue 0 = .ok (.aload_n 0, 1) := by decide +kernel
theorem dX12_isDue_1 : decode cX12_isDue 1 = .ok (.iload_n 1, 1) := by decide +kernel
theorem dX12_isDue_2 : decode cX12_isDue 2 = .ok (.iload_n 2, 1) := by decide +kernel
theorem dX12_isDue_3 : decode cX12_isDue 3 = .ok (.invokevirtual 305, 3) := by decide +kernel
theorem dX12_isDue_6 : decode cX12_isDue 6 = .ok (.istore_n 3, 1) := by decide +kernel
theorem dX12_isDue_7 : decode cX12_isDue 7 = .ok (.aload_n 0, 1) := by decide +kernel
theorem dX12_isDue_8 : decode cX12_isDue 8 = .ok (.getfield 33, 3) := by decide +kernel
theorem dX12_isDue_11 : decode cX12_isDue 11 = .ok (.sipush 132, 3) := by decide +kernel
theorem dX12_isDue_14 : decode cX12_isDue 14 = .ok (.iload_n 1, 1) := by decide +kernel
theorem dX12_isDue_15 : decode cX12_isDue 15 = .ok (.iadd, 1) := by decide +kernel
theorem dX12_isDue_16 : decode cX12_isDue 16 = .ok (.iaload, 1) := by decide +kernel
theorem dX12_isDue_17 : decode cX12_isDue 17 = .ok (.iconst 1, 1) := by decide +kernel
theorem dX12_isDue_18 : decode cX12_isDue 18 = .ok (.if_icmp .ne 43, 3) := by decide +kernel
theorem dX12_isDue_21 : decode cX12_isDue 21 = .ok (.aload_n 0, 1) := by decide +kernel
theorem dX12_isDue_22 : decode cX12_isDue 22 = .ok (.invokevirtual 263, 3) := by decide +kernel
theorem dX12_isDue_25 : decode cX12_isDue 25 = .ok (.ifCond .ne 36, 3) := by decide +kernel
theorem dX12_isDue_28 : decode cX12_isDue 28 = .ok (.iload_n 3, 1) := by decide +kernel
theorem dX12_isDue_29 : decode cX12_isDue 29 = .ok (.aload_n 0, 1) := by decide +kernel
theorem dX12_isDue_30 : decode cX12_isDue 30 = .ok (.invokevirtual 260, 3) := by decide +kernel
theorem dX12_isDue_33 : decode cX12_isDue 33 = .ok (.if_icmp .eq 24, 3) := by decide +kernel
theorem dX12_isDue_36 : decode cX12_isDue 36 = .ok (.iload_n 3, 1) := by decide +kernel
theorem dX12_isDue_37 : decode cX12_isDue 37 = .ok (.aload_n 0, 1) := by decide +kernel
theorem dX12_isDue_38 : decode cX12_isDue 38 = .ok (.invokevirtual 260, 3) := by decide +kernel
theorem dX12_isDue_41 : decode cX12_isDue 41 = .ok (.if_icmp .ge 20, 3) := by decide +kernel
theorem dX12_isDue_44 : decode cX12_isDue 44 = .ok (.aload_n 0, 1) := by decide +kernel
theorem dX12_isDue_45 : decode cX12_isDue 45 = .ok (.getfield 33, 3) := by decide +kernel
theorem dX12_isDue_48 : decode cX12_isDue 48 = .ok (.bipush 74, 2) := by decide +kernel
theorem dX12_isDue_50 : decode cX12_isDue 50 = .ok (.iload_n 1, 1) := by decide +kernel
theorem dX12_isDue_51 : decode cX12_isDue 51 = .ok (.iadd, 1) := by decide +kernel
theorem dX12_isDue_52 : decode cX12_isDue 52 = .ok (.iaload, 1) := by decide +kernel
theorem dX12_isDue_53 : decode cX12_isDue 53 = .ok (.iconst 1, 1) := by decide +kernel
theorem dX12_isDue_54 : decode cX12_isDue 54 = .ok (.if_icmp .ne 7, 3) := by decide +kernel
theorem dX12_isDue_57 : decode cX12_isDue 57 = .ok (.iconst 1, 1) := by decide +kernel
theorem dX12_isDue_58 : decode cX12_isDue 58 = .ok (.goto 4, 3) := by decide +kernel
theorem dX12_isDue_61 : decode cX12_isDue 61 = .ok (.iconst 0, 1) := by decide +kernel
theorem dX12_isDue_62 : decode cX12_isDue 62 = .ok (.ireturn, 1) := by decide +kernel
theorem dX12_leftOf_0 : decode cX12_leftOf 0 = .ok (.aload_n 0, 1) := by decide +kernel
theorem dX12_leftOf_1 : decode cX12_leftOf 1 = .ok (.getfield 33, 3) := by decide +kernel
theorem dX12_leftOf_4 : decode cX12_leftOf 4 = .ok (.bipush 66, 2) := by decide +kernel
theorem dX12_leftOf_6 : decode cX12_leftOf 6 = .ok (.iload_n 1, 1) := by decide +kernel
theorem dX12_leftOf_7 : decode cX12_leftOf 7 = .ok (.iadd, 1) := by decide +kernel
theorem dX12_leftOf_8 : decode cX12_leftOf 8 = .ok (.iaload, 1) := by decide +kernel
theorem dX12_leftOf_9 : decode cX12_leftOf 9 = .ok (.aload_n 0, 1) := by decide +kernel
theorem dX12_leftOf_10 : decode cX12_leftOf 10 = .ok (.iload_n 1, 1) := by decide +kernel
theorem dX12_leftOf_11 : decode cX12_leftOf 11 = .ok (.iload_n 2, 1) := by decide +kernel
theorem dX12_leftOf_12 : decode cX12_leftOf 12 = .ok (.aload_n 0, 1) := by decide +kernel
theorem dX12_leftOf_13 : decode cX12_leftOf 13 = .ok (.invokevirtual 260, 3) := by decide +kernel
theorem dX12_leftOf_16 : decode cX12_leftOf 16 = .ok (.invokevirtual 301, 3) := by decide +kernel
theorem dX12_leftOf_19 : decode cX12_leftOf 19 = .ok (.isub, 1) := by decide +kernel
theorem dX12_leftOf_20 : decode cX12_leftOf 20 = .ok (.istore_n 3, 1) := by decide +kernel
theorem dX12_leftOf_21 : decode cX12_leftOf 21 = .ok (.iload_n 3, 1) := by decide +kernel
theorem dX12_leftOf_22 : decode cX12_leftOf 22 = .ok (.ifCond .ge 7, 3) := by decide +kernel
theorem dX12_leftOf_25 : decode cX12_leftOf 25 = .ok (.iconst 0, 1) := by decide +kernel
theorem dX12_leftOf_26 : decode cX12_leftOf 26 = .ok (.goto 4, 3) := by decide +kernel
theorem dX12_leftOf_29 : decode cX12_leftOf 29 = .ok (.iload_n 3, 1) := by decide +kernel
theorem dX12_leftOf_30 : decode cX12_leftOf 30 = .ok (.ireturn, 1) := by decide +kernel
theorem dX12_asks_0 : decode cX12_asks 0 = .ok (.aload_n 0, 1) := by decide +kernel
theorem dX12_asks_1 : decode cX12_asks 1 = .ok (.iconst 0, 1) := by decide +kernel
theorem dX12_asks_2 : decode cX12_asks 2 = .ok (.putfield 1, 3) := by decide +kernel
theorem dX12_asks_5 : decode cX12_asks 5 = .ok (.aload_n 0, 1) := by decide +kernel
theorem dX12_asks_6 : decode cX12_asks 6 = .ok (.iload_n 1, 1) := by decide +kernel
theorem dX12_asks_7 : decode cX12_asks 7 = .ok (.iload_n 2, 1) := by decide +kernel
theorem dX12_asks_8 : decode cX12_asks 8 = .ok (.invokevirtual 317, 3) := by decide +kernel
theorem dX12_asks_11 : decode cX12_asks 11 = .ok (.ifCond .eq 21, 3) := by decide +kernel
theorem dX12_asks_14 : decode cX12_asks 14 = .ok (.aload_n 0, 1) := by decide +kernel
theorem dX12_asks_15 : decode cX12_asks 15 = .ok (.iload_n 1, 1) := by decide +kernel
theorem dX12_asks_16 : decode cX12_asks 16 = .ok (.iload_n 2, 1) := by decide +kernel
theorem dX12_asks_17 : decode cX12_asks 17 = .ok (.invokevirtual 320, 3) := by decide +kernel
theorem dX12_asks_20 : decode cX12_asks 20 = .ok (.ifCond .eq 12, 3) := by decide +kernel
theorem dX12_asks_23 : decode cX12_asks 23 = .ok (.aload_n 0, 1) := by decide +kernel
theorem dX12_asks_24 : decode cX12_asks 24 = .ok (.iload_n 1, 1) := by decide +kernel
theorem dX12_asks_25 : decode cX12_asks 25 = .ok (.iload_n 2, 1) := by decide +kernel
theorem dX12_asks_26 : decode cX12_asks 26 = .ok (.invokevirtual 323, 3) := by decide +kernel
theorem dX12_asks_29 : decode cX12_asks 29 = .ok (.goto 4, 3) := by decide +kernel
theorem dX12_asks_32 : decode cX12_asks 32 = .ok (.iconst (-1), 1) := by decide +kernel
theorem dX12_asks_33 : decode cX12_asks 33 = .ok (.ireturn, 1) := by decide +kernel
theorem dX12_agree_0 : decode cX12_agree 0 = .ok (.aload_n 0, 1) := by decide +kernel
theorem dX12_agree_1 : decode cX12_agree 1 = .ok (.iconst 0, 1) := by decide +kernel
theorem dX12_agree_2 : decode cX12_agree 2 = .ok (.putfield 1, 3) := by decide +kernel
theorem dX12_agree_5 : decode cX12_agree 5 = .ok (.iconst 0, 1) := by decide +kernel
theorem dX12_agree_6 : decode cX12_agree 6 = .ok (.istore_n 1, 1) := by decide +kernel
theorem dX12_agree_7 : decode cX12_agree 7 = .ok (.iconst 0, 1) := by decide +kernel
theorem dX12_agree_8 : decode cX12_agree 8 = .ok (.istore_n 2, 1) := by decide +kernel
theorem dX12_agree_9 : decode cX12_agree 9 = .ok (.iload_n 2, 1) := by decide +kernel
theorem dX12_agree_10 : decode cX12_agree 10 = .ok (.bipush 8, 2) := by decide +kernel
theorem dX12_agree_12 : decode cX12_agree 12 = .ok (.if_icmp .ge 73, 3) := by decide +kernel
theorem dX12_agree_15 : decode cX12_agree 15 = .ok (.iconst 1, 1) := by decide +kernel
theorem dX12_agree_16 : decode cX12_agree 16 = .ok (.istore_n 3, 1) := by decide +kernel
theorem dX12_agree_17 : decode cX12_agree 17 = .ok (.iconst 0, 1) := by decide +kernel
theorem dX12_agree_18 : decode cX12_agree 18 = .ok (.istore 4, 2) := by decide +kernel
theorem dX12_agree_20 : decode cX12_agree 20 = .ok (.iload 4, 2) := by decide +kernel
theorem dX12_agree_22 : decode cX12_agree 22 = .ok (.aload_n 0, 1) := by decide +kernel
theorem dX12_agree_23 : decode cX12_agree 23 = .ok (.getfield 33, 3) := by decide +kernel
theorem dX12_agree_26 : decode cX12_agree 26 = .ok (.bipush 6, 2) := by decide +kernel
theorem dX12_agree_28 : decode cX12_agree 28 = .ok (.iaload, 1) := by decide +kernel
theorem dX12_agree_29 : decode cX12_agree 29 = .ok (.if_icmp .ge 36, 3) := by decide +kernel
theorem dX12_agree_32 : decode cX12_agree 32 = .ok (.iload_n 3, 1) := by decide +kernel
theorem dX12_agree_33 : decode cX12_agree 33 = .ok (.ifCond .eq 24, 3) := by decide +kernel
theorem dX12_agree_36 : decode cX12_agree 36 = .ok (.aload_n 0, 1) := by decide +kernel
theorem dX12_agree_37 : decode cX12_agree 37 = .ok (.iload 4, 2) := by decide +kernel
theorem dX12_agree_39 : decode cX12_agree 39 = .ok (.iload_n 2, 1) := by decide +kernel
theorem dX12_agree_40 : decode cX12_agree 40 = .ok (.invokevirtual 257, 3) := by decide +kernel
theorem dX12_agree_43 : decode cX12_agree 43 = .ok (.aload_n 0, 1) := by decide +kernel
theorem dX12_agree_44 : decode cX12_agree 44 = .ok (.iload 4, 2) := by decide +kernel
theorem dX12_agree_46 : decode cX12_agree 46 = .ok (.iconst 0, 1) := by decide +kernel
theorem dX12_agree_47 : decode cX12_agree 47 = .ok (.invokevirtual 257, 3) := by decide +kernel
theorem dX12_agree_50 : decode cX12_agree 50 = .ok (.if_icmp .ne 7, 3) := by decide +kernel
theorem dX12_agree_53 : decode cX12_agree 53 = .ok (.iconst 1, 1) := by decide +kernel
theorem dX12_agree_54 : decode cX12_agree 54 = .ok (.goto 4, 3) := by decide +kernel
theorem dX12_agree_57 : decode cX12_agree 57 = .ok (.iconst 0, 1) := by decide +kernel
theorem dX12_agree_58 : decode cX12_agree 58 = .ok (.istore_n 3, 1) := by decide +kernel
theorem dX12_agree_59 : decode cX12_agree 59 = .ok (.iinc 4 1, 3) := by decide +kernel
theorem dX12_agree_62 : decode cX12_agree 62 = .ok (.goto (-42), 3) := by decide +kernel
theorem dX12_agree_65 : decode cX12_agree 65 = .ok (.iload_n 1, 1) := by decide +kernel
theorem dX12_agree_66 : decode cX12_agree 66 = .ok (.iload_n 3, 1) := by decide +kernel
theorem dX12_agree_67 : decode cX12_agree 67 = .ok (.ifCond .eq 9, 3) := by decide +kernel
theorem dX12_agree_70 : decode cX12_agree 70 = .ok (.iconst 1, 1) := by decide +kernel
theorem dX12_agree_71 : decode cX12_agree 71 = .ok (.iload_n 2, 1) := by decide +kernel
theorem dX12_agree_72 : decode cX12_agree 72 = .ok (.ishl, 1) := by decide +kernel
theorem dX12_agree_73 : decode cX12_agree 73 = .ok (.goto 4, 3) := by decide +kernel
theorem dX12_agree_76 : decode cX12_agree 76 = .ok (.iconst 0, 1) := by decide +kernel
theorem dX12_agree_77 : decode cX12_agree 77 = .ok (.ior, 1) := by decide +kernel
theorem dX12_agree_78 : decode cX12_agree 78 = .ok (.istore_n 1, 1) := by decide +kernel
theorem dX12_agree_79 : decode cX12_agree 79 = .ok (.iinc 2 1, 3) := by decide +kernel
theorem dX12_agree_82 : decode cX12_agree 82 = .ok (.goto (-73), 3) := by decide +kernel
theorem dX12_agree_85 : decode cX12_agree 85 = .ok (.iload_n 1, 1) := by decide +kernel
theorem dX12_agree_86 : decode cX12_agree 86 = .ok (.ireturn, 1) := by decide +kernel
theorem dX12_leftIn_0 : decode cX12_leftIn 0 = .ok (.iload_n 0, 1) := by decide +kernel
theorem dX12_leftIn_1 : decode cX12_leftIn 1 = .ok (.iconst 2, 1) := by decide +kernel
theorem dX12_leftIn_2 : decode cX12_leftIn 2 = .ok (.iload_n 1, 1) := by decide +kernel
theorem dX12_leftIn_3 : decode cX12_leftIn 3 = .ok (.imul, 1) := by decide +kernel
theorem dX12_leftIn_4 : decode cX12_leftIn 4 = .ok (.ishr, 1) := by decide +kernel
theorem dX12_leftIn_5 : decode cX12_leftIn 5 = .ok (.iconst 3, 1) := by decide +kernel
theorem dX12_leftIn_6 : decode cX12_leftIn 6 = .ok (.iand, 1) := by decide +kernel
theorem dX12_leftIn_7 : decode cX12_leftIn 7 = .ok (.ireturn, 1) := by decide +kernel
theorem dX12_after_0 : decode cX12_after 0 = .ok (.iload_n 1, 1) := by decide +kernel
theorem dX12_after_1 : decode cX12_after 1 = .ok (.istore 5, 2) := by decide +kernel
theorem dX12_after_3 : decode cX12_after 3 = .ok (.iconst 0, 1) := by decide +kernel
theorem dX12_after_4 : decode cX12_after 4 = .ok (.istore 6, 2) := by decide +kernel
theorem dX12_after_6 : decode cX12_after 6 = .ok (.iload 6, 2) := by decide +kernel
theorem dX12_after_8 : decode cX12_after 8 = .ok (.aload_n 0, 1) := by decide +kernel
theorem dX12_after_9 : decode cX12_after 9 = .ok (.getfield 326, 3) := by decide +kernel
theorem dX12_after_12 : decode cX12_after 12 = .ok (.if_icmp .ge 92, 3) := by decide +kernel
theorem dX12_after_15 : decode cX12_after 15 = .ok (.aload_n 0, 1) := by decide +kernel
theorem dX12_after_16 : decode cX12_after 16 = .ok (.getfield 63, 3) := by decide +kernel
theorem dX12_after_19 : decode cX12_after 19 = .ok (.iload 6, 2) := by decide +kernel
theorem dX12_after_21 : decode cX12_after 21 = .ok (.iaload, 1) := by decide +kernel
theorem dX12_after_22 : decode cX12_after 22 = .ok (.istore 7, 2) := by decide +kernel
theorem dX12_after_24 : decode cX12_after 24 = .ok (.iload 5, 2) := by decide +kernel
theorem dX12_after_26 : decode cX12_after 26 = .ok (.iload 6, 2) := by decide +kernel
theorem dX12_after_28 : decode cX12_after 28 = .ok (.invokestatic 329, 3) := by decide +kernel
theorem dX12_after_31 : decode cX12_after 31 = .ok (.ifCond .le 67, 3) := by decide +kernel
theorem dX12_after_34 : decode cX12_after 34 = .ok (.aload_n 0, 1) := by decide +kernel
theorem dX12_after_35 : decode cX12_after 35 = .ok (.getfield 33, 3) := by decide +kernel
theorem dX12_after_38 : decode cX12_after 38 = .ok (.bipush 34, 2) := by decide +kernel
theorem dX12_after_40 : decode cX12_after 40 = .ok (.iload 7, 2) := by decide +kernel
theorem dX12_after_42 : decode cX12_after 42 = .ok (.iadd, 1) := by decide +kernel
theorem dX12_after_43 : decode cX12_after 43 = .ok (.iaload, 1) := by decide +kernel
theorem dX12_after_44 : decode cX12_after 44 = .ok (.iload 4, 2) := by decide +kernel
theorem dX12_after_46 : decode cX12_after 46 = .ok (.if_icmp .ne 52, 3) := by decide +kernel
theorem dX12_after_49 : decode cX12_after 49 = .ok (.aload_n 0, 1) := by decide +kernel
theorem dX12_after_50 : decode cX12_after 50 = .ok (.getfield 33, 3) := by decide +kernel
theorem dX12_after_53 : decode cX12_after 53 = .ok (.bipush 42, 2) := by decide +kernel
theorem dX12_after_55 : decode cX12_after 55 = .ok (.iload 7, 2) := by decide +kernel
theorem dX12_after_57 : decode cX12_after 57 = .ok (.iadd, 1) := by decide +kernel
theorem dX12_after_58 : decode cX12_after 58 = .ok (.iaload, 1) := by decide +kernel
theorem dX12_after_59 : decode cX12_after 59 = .ok (.iload_n 3, 1) := by decide +kernel
theorem dX12_after_60 : decode cX12_after 60 = .ok (.if_icmp .ne 38, 3) := by decide +kernel
theorem dX12_after_63 : decode cX12_after 63 = .ok (.iload_n 2, 1) := by decide +kernel
theorem dX12_after_64 : decode cX12_after 64 = .ok (.aload_n 0, 1) := by decide +kernel
theorem dX12_after_65 : decode cX12_after 65 = .ok (.getfield 33, 3) := by decide +kernel
theorem dX12_after_68 : decode cX12_after 68 = .ok (.bipush 50, 2) := by decide +kernel
theorem dX12_after_70 : decode cX12_after 70 = .ok (.iload 7, 2) := by decide +kernel
theorem dX12_after_72 : decode cX12_after 72 = .ok (.iadd, 1) := by decide +kernel
theorem dX12_after_73 : decode cX12_after 73 = .ok (.iaload, 1) := by decide +kernel
theorem dX12_after_74 : decode cX12_after 74 = .ok (.aload_n 0, 1) := by decide +kernel
theorem dX12_after_75 : decode cX12_after 75 = .ok (.iload 7, 2) := by decide +kernel
theorem dX12_after_77 : decode cX12_after 77 = .ok (.iconst 0, 1) := by decide +kernel
theorem dX12_after_78 : decode cX12_after 78 = .ok (.invokevirtual 298, 3) := by decide +kernel
theorem dX12_after_81 : decode cX12_after 81 = .ok (.invokestatic 187, 3) := by decide +kernel
theorem dX12_after_84 : decode cX12_after 84 = .ok (.ifCond .eq 14, 3) := by decide +kernel
theorem dX12_after_87 : decode cX12_after 87 = .ok (.iload 5, 2) := by decide +kernel
theorem dX12_after_89 : decode cX12_after 89 = .ok (.iconst 1, 1) := by decide +kernel
theorem dX12_after_90 : decode cX12_after 90 = .ok (.iconst 2, 1) := by decide +kernel
theorem dX12_after_91 : decode cX12_after 91 = .ok (.iload 6, 2) := by decide +kernel
theorem dX12_after_93 : decode cX12_after 93 = .ok (.imul, 1) := by decide +kernel
theorem dX12_after_94 : decode cX12_after 94 = .ok (.ishl, 1) := by decide +kernel
theorem dX12_after_95 : decode cX12_after 95 = .ok (.isub, 1) := by decide +kernel
theorem dX12_after_96 : decode cX12_after 96 = .ok (.istore 5, 2) := by decide +kernel
theorem dX12_after_98 : decode cX12_after 98 = .ok (.iinc 6 1, 3) := by decide +kernel
theorem dX12_after_101 : decode cX12_after 101 = .ok (.goto (-95), 3) := by decide +kernel
theorem dX12_after_104 : decode cX12_after 104 = .ok (.iload 5, 2) := by decide +kernel
theorem dX12_after_106 : decode cX12_after 106 = .ok (.ireturn, 1) := by decide +kernel
theorem dX12_slot_0 : decode cX12_slot 0 = .ok (.iload_n 1, 1) := by decide +kernel
theorem dX12_slot_1 : decode cX12_slot 1 = .ok (.bipush 8, 2) := by decide +kernel
theorem dX12_slot_3 : decode cX12_slot 3 = .ok (.imul, 1) := by decide +kernel
theorem dX12_slot_4 : decode cX12_slot 4 = .ok (.iload_n 2, 1) := by decide +kernel
theorem dX12_slot_5 : decode cX12_slot 5 = .ok (.iadd, 1) := by decide +kernel
theorem dX12_slot_6 : decode cX12_slot 6 = .ok (.sipush 256, 3) := by decide +kernel
theorem dX12_slot_9 : decode cX12_slot 9 = .ok (.imul, 1) := by decide +kernel
theorem dX12_slot_10 : decode cX12_slot 10 = .ok (.iload_n 3, 1) := by decide +kernel
theorem dX12_slot_11 : decode cX12_slot 11 = .ok (.iadd, 1) := by decide +kernel
theorem dX12_slot_12 : decode cX12_slot 12 = .ok (.ireturn, 1) := by decide +kernel
theorem dX12_goingsBy_0 : decode cX12_goingsBy 0 = .ok (.iload 4, 2) := by decide +kernel
theorem dX12_goingsBy_2 : decode cX12_goingsBy 2 = .ok (.ifCond .ne 18, 3) := by decide +kernel
theorem dX12_goingsBy_5 : decode cX12_goingsBy 5 = .ok (.aload_n 0, 1) := by decide +kernel
theorem dX12_goingsBy_6 : decode cX12_goingsBy 6 = .ok (.getfield 60, 3) := by decide +kernel
theorem dX12_goingsBy_9 : decode cX12_goingsBy 9 = .ok (.aload_n 0, 1) := by decide +kernel
theorem dX12_goingsBy_10 : decode cX12_goingsBy 10 = .ok (.iload_n 1, 1) := by decide +kernel
theorem dX12_goingsBy_11 : decode cX12_goingsBy 11 = .ok (.iconst 1, 1) := by decide +kernel
theorem dX12_goingsBy_12 : decode cX12_goingsBy 12 = .ok (.iadd, 1) := by decide +kernel
theorem dX12_goingsBy_13 : decode cX12_goingsBy 13 = .ok (.iload_n 2, 1) := by decide +kernel
theorem dX12_goingsBy_14 : decode cX12_goingsBy 14 = .ok (.iload_n 3, 1) := by decide +kernel
theorem dX12_goingsBy_15 : decode cX12_goingsBy 15 = .ok (.invokevirtual 332, 3) := by decide +kernel
theorem dX12_goingsBy_18 : decode cX12_goingsBy 18 = .ok (.iaload, 1) := by decide +kernel
theorem dX12_goingsBy_19 : decode cX12_goingsBy 19 = .ok (.ireturn, 1) := by decide +kernel
theorem dX12_goingsBy_20 : decode cX12_goingsBy 20 = .ok (.iload 4, 2) := by decide +kernel
theorem dX12_goingsBy_22 : decode cX12_goingsBy 22 = .ok (.sipush 200, 3) := by decide +kernel
theorem dX12_goingsBy_25 : decode cX12_goingsBy 25 = .ok (.if_icmp .ge 50, 3) := by decide +kernel
theorem dX12_goingsBy_28 : decode cX12_goingsBy 28 = .ok (.aload_n 0, 1) := by decide +kernel
theorem dX12_goingsBy_29 : decode cX12_goingsBy 29 = .ok (.getfield 33, 3) := by decide +kernel
theorem dX12_goingsBy_32 : decode cX12_goingsBy 32 = .ok (.bipush 8, 2) := by decide +kernel
theorem dX12_goingsBy_34 : decode cX12_goingsBy 34 = .ok (.iload_n 2, 1) := by decide +kernel
theorem dX12_goingsBy_35 : decode cX12_goingsBy 35 = .ok (.iadd, 1) := by decide +kernel
theorem dX12_goingsBy_36 : decode cX12_goingsBy 36 = .ok (.iaload, 1) := by decide +kernel
theorem dX12_goingsBy_37 : decode cX12_goingsBy 37 = .ok (.iload 4, 2) := by decide +kernel
theorem dX12_goingsBy_39 : decode cX12_goingsBy 39 = .ok (.bipush 100, 2) := by decide +kernel
theorem dX12_goingsBy_41 : decode cX12_goingsBy 41 = .ok (.isub, 1) := by decide +kernel
theorem dX12_goingsBy_42 : decode cX12_goingsBy 42 = .ok (.invokestatic 223, 3) := by decide +kernel
theorem dX12_goingsBy_45 : decode cX12_goingsBy 45 = .ok (.ifCond .eq 26, 3) := by decide +kernel
theorem dX12_goingsBy_48 : decode cX12_goingsBy 48 = .ok (.iconst 1, 1) := by decide +kernel
theorem dX12_goingsBy_49 : decode cX12_goingsBy 49 = .ok (.aload_n 0, 1) := by decide +kernel
theorem dX12_goingsBy_50 : decode cX12_goingsBy 50 = .ok (.getfield 60, 3) := by decide +kernel
theorem dX12_goingsBy_53 : decode cX12_goingsBy 53 = .ok (.aload_n 0, 1) := by decide +kernel
theorem dX12_goingsBy_54 : decode cX12_goingsBy 54 = .ok (.iload_n 1, 1) := by decide +kernel
theorem dX12_goingsBy_55 : decode cX12_goingsBy 55 = .ok (.iconst 1, 1) := by decide +kernel
theorem dX12_goingsBy_56 : decode cX12_goingsBy 56 = .ok (.iadd, 1) := by decide +kernel
theorem dX12_goingsBy_57 : decode cX12_goingsBy 57 = .ok (.iload 4, 2) := by decide +kernel
theorem dX12_goingsBy_59 : decode cX12_goingsBy 59 = .ok (.bipush 100, 2) := by decide +kernel
theorem dX12_goingsBy_61 : decode cX12_goingsBy 61 = .ok (.isub, 1) := by decide +kernel
theorem dX12_goingsBy_62 : decode cX12_goingsBy 62 = .ok (.iload_n 3, 1) := by decide +kernel
theorem dX12_goingsBy_63 : decode cX12_goingsBy 63 = .ok (.invokevirtual 332, 3) := by decide +kernel
theorem dX12_goingsBy_66 : decode cX12_goingsBy 66 = .ok (.iaload, 1) := by decide +kernel
theorem dX12_goingsBy_67 : decode cX12_goingsBy 67 = .ok (.iadd, 1) := by decide +kernel
theorem dX12_goingsBy_68 : decode cX12_goingsBy 68 = .ok (.goto 6, 3) := by decide +kernel
theorem dX12_goingsBy_71 : decode cX12_goingsBy 71 = .ok (.sipush 1000, 3) := by decide +kernel
theorem dX12_goingsBy_74 : decode cX12_goingsBy 74 = .ok (.ireturn, 1) := by decide +kernel
theorem dX12_goingsBy_75 : decode cX12_goingsBy 75 = .ok (.aload_n 0, 1) := by decide +kernel
theorem dX12_goingsBy_76 : decode cX12_goingsBy 76 = .ok (.getfield 60, 3) := by decide +kernel
theorem dX12_goingsBy_79 : decode cX12_goingsBy 79 = .ok (.aload_n 0, 1) := by decide +kernel
theorem dX12_goingsBy_80 : decode cX12_goingsBy 80 = .ok (.iload_n 1, 1) := by decide +kernel
theorem dX12_goingsBy_81 : decode cX12_goingsBy 81 = .ok (.iconst 1, 1) := by decide +kernel
theorem dX12_goingsBy_82 : decode cX12_goingsBy 82 = .ok (.iadd, 1) := by decide +kernel
theorem dX12_goingsBy_83 : decode cX12_goingsBy 83 = .ok (.iload_n 2, 1) := by decide +kernel
theorem dX12_goingsBy_84 : decode cX12_goingsBy 84 = .ok (.aload_n 0, 1) := by decide +kernel
theorem dX12_goingsBy_85 : decode cX12_goingsBy 85 = .ok (.iload_n 3, 1) := by decide +kernel
theorem dX12_goingsBy_86 : decode cX12_goingsBy 86 = .ok (.iload_n 1, 1) := by decide +kernel
theorem dX12_goingsBy_87 : decode cX12_goingsBy 87 = .ok (.iload_n 2, 1) := by decide +kernel
theorem dX12_goingsBy_88 : decode cX12_goingsBy 88 = .ok (.iload 4, 2) := by decide +kernel
theorem dX12_goingsBy_90 : decode cX12_goingsBy 90 = .ok (.sipush 200, 3) := by decide +kernel
theorem dX12_goingsBy_93 : decode cX12_goingsBy 93 = .ok (.isub, 1) := by decide +kernel
theorem dX12_goingsBy_94 : decode cX12_goingsBy 94 = .ok (.invokevirtual 335, 3) := by decide +kernel
theorem dX12_goingsBy_97 : decode cX12_goingsBy 97 = .ok (.invokevirtual 332, 3) := by decide +kernel
theorem dX12_goingsBy_100 : decode cX12_goingsBy 100 = .ok (.iaload, 1) := by decide +kernel
theorem dX12_goingsBy_101 : decode cX12_goingsBy 101 = .ok (.ireturn, 1) := by decide +kernel
theorem dX12_choiceOf_0 : decode cX12_choiceOf 0 = .ok (.iload_n 1, 1) := by decide +kernel
theorem dX12_choiceOf_1 : decode cX12_choiceOf 1 = .ok (.ifCond .ne 7, 3) := by decide +kernel
theorem dX12_choiceOf_4 : decode cX12_choiceOf 4 = .ok (.iconst 0, 1) := by decide +kernel
theorem dX12_choiceOf_5 : decode cX12_choiceOf 5 = .ok (.goto 32, 3) := by decide +kernel
theorem dX12_choiceOf_8 : decode cX12_choiceOf 8 = .ok (.iload_n 1, 1) := by decide +kernel
theorem dX12_choiceOf_9 : decode cX12_choiceOf 9 = .ok (.aload_n 0, 1) := by decide +kernel
theorem dX12_choiceOf_10 : decode cX12_choiceOf 10 = .ok (.getfield 33, 3) := by decide +kernel
theorem dX12_choiceOf_13 : decode cX12_choiceOf 13 = .ok (.iconst 1, 1) := by decide +kernel
theorem dX12_choiceOf_14 : decode cX12_choiceOf 14 = .ok (.iaload, 1) := by decide +kernel
theorem dX12_choiceOf_15 : decode cX12_choiceOf 15 = .ok (.if_icmp .gt 10, 3) := by decide +kernel
theorem dX12_choiceOf_18 : decode cX12_choiceOf 18 = .ok (.bipush 99, 2) := by decide +kernel
theorem dX12_choiceOf_20 : decode cX12_choiceOf 20 = .ok (.iload_n 1, 1) := by decide +kernel
theorem dX12_choiceOf_21 : decode cX12_choiceOf 21 = .ok (.iadd, 1) := by decide +kernel
theorem dX12_choiceOf_22 : decode cX12_choiceOf 22 = .ok (.goto 15, 3) := by decide +kernel
theorem dX12_choiceOf_25 : decode cX12_choiceOf 25 = .ok (.sipush 199, 3) := by decide +kernel
theorem dX12_choiceOf_28 : decode cX12_choiceOf 28 = .ok (.iload_n 1, 1) := by decide +kernel
theorem dX12_choiceOf_29 : decode cX12_choiceOf 29 = .ok (.iadd, 1) := by decide +kernel
theorem dX12_choiceOf_30 : decode cX12_choiceOf 30 = .ok (.aload_n 0, 1) := by decide +kernel
theorem dX12_choiceOf_31 : decode cX12_choiceOf 31 = .ok (.getfield 33, 3) := by decide +kernel
theorem dX12_choiceOf_34 : decode cX12_choiceOf 34 = .ok (.iconst 1, 1) := by decide +kernel
theorem dX12_choiceOf_35 : decode cX12_choiceOf 35 = .ok (.iaload, 1) := by decide +kernel
theorem dX12_choiceOf_36 : decode cX12_choiceOf 36 = .ok (.isub, 1) := by decide +kernel
theorem dX12_choiceOf_37 : decode cX12_choiceOf 37 = .ok (.ireturn, 1) := by decide +kernel
theorem dX12_plansFor_0 : decode cX12_plansFor 0 = .ok (.aload_n 0, 1) := by decide +kernel
theorem dX12_plansFor_1 : decode cX12_plansFor 1 = .ok (.iconst 0, 1) := by decide +kernel
theorem dX12_plansFor_2 : decode cX12_plansFor 2 = .ok (.putfield 326, 3) := by decide +kernel
theorem dX12_plansFor_5 : decode cX12_plansFor 5 = .ok (.iconst 0, 1) := by decide +kernel
theorem dX12_plansFor_6 : decode cX12_plansFor 6 = .ok (.istore_n 3, 1) := by decide +kernel
theorem dX12_plansFor_7 : decode cX12_plansFor 7 = .ok (.iconst 0, 1) := by decide +kernel
theorem dX12_plansFor_8 : decode cX12_plansFor 8 = .ok (.istore 4, 2) := by decide +kernel
theorem dX12_plansFor_10 : decode cX12_plansFor 10 = .ok (.iload 4, 2) := by decide +kernel
theorem dX12_plansFor_12 : decode cX12_plansFor 12 = .ok (.aload_n 0, 1) := by decide +kernel
theorem dX12_plansFor_13 : decode cX12_plansFor 13 = .ok (.getfield 33, 3) := by decide +kernel
theorem dX12_plansFor_16 : decode cX12_plansFor 16 = .ok (.bipush 6, 2) := by decide +kernel
theorem dX12_plansFor_18 : decode cX12_plansFor 18 = .ok (.iaload, 1) := by decide +kernel
theorem dX12_plansFor_19 : decode cX12_plansFor 19 = .ok (.if_icmp .ge 59, 3) := by decide +kernel
theorem dX12_plansFor_22 : decode cX12_plansFor 22 = .ok (.iload_n 2, 1) := by decide +kernel
theorem dX12_plansFor_23 : decode cX12_plansFor 23 = .ok (.iload 4, 2) := by decide +kernel
theorem dX12_plansFor_25 : decode cX12_plansFor 25 = .ok (.invokestatic 223, 3) := by decide +kernel
theorem dX12_plansFor_28 : decode cX12_plansFor 28 = .ok (.ifCond .ne 6, 3) := by decide +kernel
theorem dX12_plansFor_31 : decode cX12_plansFor 31 = .ok (.goto 41, 3) := by decide +kernel
theorem dX12_plansFor_34 : decode cX12_plansFor 34 = .ok (.aload_n 0, 1) := by decide +kernel
theorem dX12_plansFor_35 : decode cX12_plansFor 35 = .ok (.getfield 63, 3) := by decide +kernel
theorem dX12_plansFor_38 : decode cX12_plansFor 38 = .ok (.aload_n 0, 1) := by decide +kernel
theorem dX12_plansFor_39 : decode cX12_plansFor 39 = .ok (.getfield 326, 3) := by decide +kernel
theorem dX12_plansFor_42 : decode cX12_plansFor 42 = .ok (.iload 4, 2) := by decide +kernel
theorem dX12_plansFor_44 : decode cX12_plansFor 44 = .ok (.iastore, 1) := by decide +kernel
theorem dX12_plansFor_45 : decode cX12_plansFor 45 = .ok (.iload_n 3, 1) := by decide +kernel
theorem dX12_plansFor_46 : decode cX12_plansFor 46 = .ok (.aload_n 0, 1) := by decide +kernel
theorem dX12_plansFor_47 : decode cX12_plansFor 47 = .ok (.iload 4, 2) := by decide +kernel
theorem dX12_plansFor_49 : decode cX12_plansFor 49 = .ok (.iconst 0, 1) := by decide +kernel
theorem dX12_plansFor_50 : decode cX12_plansFor 50 = .ok (.invokevirtual 323, 3) := by decide +kernel
theorem dX12_plansFor_53 : decode cX12_plansFor 53 = .ok (.iconst 2, 1) := by decide +kernel
theorem dX12_plansFor_54 : decode cX12_plansFor 54 = .ok (.aload_n 0, 1) := by decide +kernel
theorem dX12_plansFor_55 : decode cX12_plansFor 55 = .ok (.getfield 326, 3) := by decide +kernel
theorem dX12_plansFor_58 : decode cX12_plansFor 58 = .ok (.imul, 1) := by decide +kernel
theorem dX12_plansFor_59 : decode cX12_plansFor 59 = .ok (.ishl, 1) := by decide +kernel
theorem dX12_plansFor_60 : decode cX12_plansFor 60 = .ok (.ior, 1) := by decide +kernel
theorem dX12_plansFor_61 : decode cX12_plansFor 61 = .ok (.istore_n 3, 1) := by decide +kernel
theorem dX12_plansFor_62 : decode cX12_plansFor 62 = .ok (.aload_n 0, 1) := by decide +kernel
theorem dX12_plansFor_63 : decode cX12_plansFor 63 = .ok (.dup, 1) := by decide +kernel
theorem dX12_plansFor_64 : decode cX12_plansFor 64 = .ok (.getfield 326, 3) := by decide +kernel
theorem dX12_plansFor_67 : decode cX12_plansFor 67 = .ok (.iconst 1, 1) := by decide +kernel
theorem dX12_plansFor_68 : decode cX12_plansFor 68 = .ok (.iadd, 1) := by decide +kernel
theorem dX12_plansFor_69 : decode cX12_plansFor 69 = .ok (.putfield 326, 3) := by decide +kernel
theorem dX12_plansFor_72 : decode cX12_plansFor 72 = .ok (.iinc 4 1, 3) := by decide +kernel
theorem dX12_plansFor_75 : decode cX12_plansFor 75 = .ok (.goto (-65), 3) := by decide +kernel
theorem dX12_plansFor_78 : decode cX12_plansFor 78 = .ok (.aload_n 0, 1) := by decide +kernel
theorem dX12_plansFor_79 : decode cX12_plansFor 79 = .ok (.getfield 33, 3) := by decide +kernel
theorem dX12_plansFor_82 : decode cX12_plansFor 82 = .ok (.bipush 106, 2) := by decide +kernel
theorem dX12_plansFor_84 : decode cX12_plansFor 84 = .ok (.iaload, 1) := by decide +kernel
theorem dX12_plansFor_85 : decode cX12_plansFor 85 = .ok (.aload_n 0, 1) := by decide +kernel
theorem dX12_plansFor_86 : decode cX12_plansFor 86 = .ok (.getfield 33, 3) := by decide +kernel
theorem dX12_plansFor_89 : decode cX12_plansFor 89 = .ok (.iconst 0, 1) := by decide +kernel
theorem dX12_plansFor_90 : decode cX12_plansFor 90 = .ok (.iaload, 1) := by decide +kernel
theorem dX12_plansFor_91 : decode cX12_plansFor 91 = .ok (.irem, 1) := by decide +kernel
theorem dX12_plansFor_92 : decode cX12_plansFor 92 = .ok (.istore 4, 2) := by decide +kernel
theorem dX12_plansFor_94 : decode cX12_plansFor 94 = .ok (.iconst 1, 1) := by decide +kernel
theorem dX12_plansFor_95 : decode cX12_plansFor 95 = .ok (.aload_n 0, 1) := by decide +kernel
theorem dX12_plansFor_96 : decode cX12_plansFor 96 = .ok (.getfield 33, 3) := by decide +kernel
theorem dX12_plansFor_99 : decode cX12_plansFor 99 = .ok (.iconst 1, 1) := by decide +kernel
theorem dX12_plansFor_100 : decode cX12_plansFor 100 = .ok (.iaload, 1) := by decide +kernel
theorem dX12_plansFor_101 : decode cX12_plansFor 101 = .ok (.iadd, 1) := by decide +kernel
theorem dX12_plansFor_102 : decode cX12_plansFor 102 = .ok (.aload_n 0, 1) := by decide +kernel
theorem dX12_plansFor_103 : decode cX12_plansFor 103 = .ok (.getfield 33, 3) := by decide +kernel
theorem dX12_plansFor_106 : decode cX12_plansFor 106 = .ok (.iconst 5, 1) := by decide +kernel
theorem dX12_plansFor_107 : decode cX12_plansFor 107 = .ok (.iaload, 1) := by decide +kernel
theorem dX12_plansFor_108 : decode cX12_plansFor 108 = .ok (.iadd, 1) := by decide +kernel
theorem dX12_plansFor_109 : decode cX12_plansFor 109 = .ok (.istore 5, 2) := by decide +kernel
theorem dX12_plansFor_111 : decode cX12_plansFor 111 = .ok (.aload_n 0, 1) := by decide +kernel
theorem dX12_plansFor_112 : decode cX12_plansFor 112 = .ok (.getfield 33, 3) := by decide +kernel
theorem dX12_plansFor_115 : decode cX12_plansFor 115 = .ok (.iconst 0, 1) := by decide +kernel
theorem dX12_plansFor_116 : decode cX12_plansFor 116 = .ok (.iaload, 1) := by decide +kernel
theorem dX12_plansFor_117 : decode cX12_plansFor 117 = .ok (.istore 6, 2) := by decide +kernel
theorem dX12_plansFor_119 : decode cX12_plansFor 119 = .ok (.iload 6, 2) := by decide +kernel
theorem dX12_plansFor_121 : decode cX12_plansFor 121 = .ok (.iload 4, 2) := by decide +kernel
theorem dX12_plansFor_123 : decode cX12_plansFor 123 = .ok (.if_icmp .lt 191, 3) := by decide +kernel
theorem dX12_plansFor_126 : decode cX12_plansFor 126 = .ok (.iconst 0, 1) := by decide +kernel
theorem dX12_plansFor_127 : decode cX12_plansFor 127 = .ok (.istore 7, 2) := by decide +kernel
theorem dX12_plansFor_129 : decode cX12_plansFor 129 = .ok (.iload 7, 2) := by decide +kernel
theorem dX12_plansFor_131 : decode cX12_plansFor 131 = .ok (.aload_n 0, 1) := by decide +kernel
theorem dX12_plansFor_132 : decode cX12_plansFor 132 = .ok (.getfield 33, 3) := by decide +kernel
theorem dX12_plansFor_135 : decode cX12_plansFor 135 = .ok (.iconst 1, 1) := by decide +kernel
theorem dX12_plansFor_136 : decode cX12_plansFor 136 = .ok (.iaload, 1) := by decide +kernel
theorem dX12_plansFor_137 : decode cX12_plansFor 137 = .ok (.if_icmp .ge 171, 3) := by decide +kernel
theorem dX12_plansFor_140 : decode cX12_plansFor 140 = .ok (.iconst 0, 1) := by decide +kernel
theorem dX12_plansFor_141 : decode cX12_plansFor 141 = .ok (.istore 8, 2) := by decide +kernel
theorem dX12_plansFor_143 : decode cX12_plansFor 143 = .ok (.iload 8, 2) := by decide +kernel
theorem dX12_plansFor_145 : decode cX12_plansFor 145 = .ok (.iconst 1, 1) := by decide +kernel
theorem dX12_plansFor_146 : decode cX12_plansFor 146 = .ok (.iconst 2, 1) := by decide +kernel
theorem dX12_plansFor_147 : decode cX12_plansFor 147 = .ok (.aload_n 0, 1) := by decide +kernel
theorem dX12_plansFor_148 : decode cX12_plansFor 148 = .ok (.getfield 326, 3) := by decide +kernel
theorem dX12_plansFor_151 : decode cX12_plansFor 151 = .ok (.imul, 1) := by decide +kernel
theorem dX12_plansFor_152 : decode cX12_plansFor 152 = .ok (.ishl, 1) := by decide +kernel
theorem dX12_plansFor_153 : decode cX12_plansFor 153 = .ok (.if_icmp .ge 149, 3) := by decide +kernel
theorem dX12_plansFor_156 : decode cX12_plansFor 156 = .ok (.iload 6, 2) := by decide +kernel
theorem dX12_plansFor_158 : decode cX12_plansFor 158 = .ok (.aload_n 0, 1) := by decide +kernel
theorem dX12_plansFor_159 : decode cX12_plansFor 159 = .ok (.getfield 33, 3) := by decide +kernel
theorem dX12_plansFor_162 : decode cX12_plansFor 162 = .ok (.iconst 0, 1) := by decide +kernel
theorem dX12_plansFor_163 : decode cX12_plansFor 163 = .ok (.iaload, 1) := by decide +kernel
theorem dX12_plansFor_164 : decode cX12_plansFor 164 = .ok (.if_icmp .ge 9, 3) := by decide +kernel
theorem dX12_plansFor_167 : decode cX12_plansFor 167 = .ok (.sipush 1000, 3) := by decide +kernel
theorem dX12_plansFor_170 : decode cX12_plansFor 170 = .ok (.goto 15, 3) := by decide +kernel
theorem dX12_plansFor_173 : decode cX12_plansFor 173 = .ok (.iload 8, 2) := by decide +kernel
theorem dX12_plansFor_175 : decode cX12_plansFor 175 = .ok (.ifCond .ne 7, 3) := by decide +kernel
theorem dX12_plansFor_178 : decode cX12_plansFor 178 = .ok (.iconst 0, 1) := by decide +kernel
theorem dX12_plansFor_179 : decode cX12_plansFor 179 = .ok (.goto 6, 3) := by decide +kernel
theorem dX12_plansFor_182 : decode cX12_plansFor 182 = .ok (.sipush 1000, 3) := by decide +kernel
theorem dX12_plansFor_185 : decode cX12_plansFor 185 = .ok (.istore 9, 2) := by decide +kernel
theorem dX12_plansFor_187 : decode cX12_plansFor 187 = .ok (.iload 6, 2) := by decide +kernel
theorem dX12_plansFor_189 : decode cX12_plansFor 189 = .ok (.iload 4, 2) := by decide +kernel
theorem dX12_plansFor_191 : decode cX12_plansFor 191 = .ok (.if_icmp .ne 20, 3) := by decide +kernel
theorem dX12_plansFor_194 : decode cX12_plansFor 194 = .ok (.aload_n 0, 1) := by decide +kernel
theorem dX12_plansFor_195 : decode cX12_plansFor 195 = .ok (.getfield 33, 3) := by decide +kernel
theorem dX12_plansFor_198 : decode cX12_plansFor 198 = .ok (.bipush 111, 2) := by decide +kernel
theorem dX12_plansFor_200 : decode cX12_plansFor 200 = .ok (.iload_n 1, 1) := by decide +kernel
theorem dX12_plansFor_201 : decode cX12_plansFor 201 = .ok (.iadd, 1) := by decide +kernel
theorem dX12_plansFor_202 : decode cX12_plansFor 202 = .ok (.iaload, 1) := by decide +kernel
theorem dX12_plansFor_203 : decode cX12_plansFor 203 = .ok (.iconst 1, 1) := by decide +kernel
theorem dX12_plansFor_204 : decode cX12_plansFor 204 = .ok (.if_icmp .ne 7, 3) := by decide +kernel
theorem dX12_plansFor_207 : decode cX12_plansFor 207 = .ok (.iconst 1, 1) := by decide +kernel
theorem dX12_plansFor_208 : decode cX12_plansFor 208 = .ok (.goto 4, 3) := by decide +kernel
theorem dX12_plansFor_211 : decode cX12_plansFor 211 = .ok (.iconst 0, 1) := by decide +kernel
theorem dX12_plansFor_212 : decode cX12_plansFor 212 = .ok (.istore 10, 2) := by decide +kernel
theorem dX12_plansFor_214 : decode cX12_plansFor 214 = .ok (.iconst 0, 1) := by decide +kernel
theorem dX12_plansFor_215 : decode cX12_plansFor 215 = .ok (.istore 11, 2) := by decide +kernel
theorem dX12_plansFor_217 : decode cX12_plansFor 217 = .ok (.iload 6, 2) := by decide +kernel
theorem dX12_plansFor_219 : decode cX12_plansFor 219 = .ok (.aload_n 0, 1) := by decide +kernel
theorem dX12_plansFor_220 : decode cX12_plansFor 220 = .ok (.getfield 33, 3) := by decide +kernel
theorem dX12_plansFor_223 : decode cX12_plansFor 223 = .ok (.iconst 0, 1) := by decide +kernel
theorem dX12_plansFor_224 : decode cX12_plansFor 224 = .ok (.iaload, 1) := by decide +kernel
theorem dX12_plansFor_225 : decode cX12_plansFor 225 = .ok (.if_icmp .ge 48, 3) := by decide +kernel
theorem dX12_plansFor_228 : decode cX12_plansFor 228 = .ok (.iload 11, 2) := by decide +kernel
theorem dX12_plansFor_230 : decode cX12_plansFor 230 = .ok (.iload 10, 2) := by decide +kernel
theorem dX12_plansFor_232 : decode cX12_plansFor 232 = .ok (.ifCond .eq 7, 3) := by decide +kernel
theorem dX12_plansFor_235 : decode cX12_plansFor 235 = .ok (.iconst 1, 1) := by decide +kernel
theorem dX12_plansFor_236 : decode cX12_plansFor 236 = .ok (.goto 5, 3) := by decide +kernel
theorem dX12_plansFor_239 : decode cX12_plansFor 239 = .ok (.iload 5, 2) := by decide +kernel
theorem dX12_plansFor_241 : decode cX12_plansFor 241 = .ok (.if_icmp .ge 32, 3) := by decide +kernel
theorem dX12_plansFor_244 : decode cX12_plansFor 244 = .ok (.iload 9, 2) := by decide +kernel
theorem dX12_plansFor_246 : decode cX12_plansFor 246 = .ok (.aload_n 0, 1) := by decide +kernel
theorem dX12_plansFor_247 : decode cX12_plansFor 247 = .ok (.iload 6, 2) := by decide +kernel
theorem dX12_plansFor_249 : decode cX12_plansFor 249 = .ok (.iload 7, 2) := by decide +kernel
theorem dX12_plansFor_251 : decode cX12_plansFor 251 = .ok (.iload 8, 2) := by decide +kernel
theorem dX12_plansFor_253 : decode cX12_plansFor 253 = .ok (.aload_n 0, 1) := by decide +kernel
theorem dX12_plansFor_254 : decode cX12_plansFor 254 = .ok (.iload 11, 2) := by decide +kernel
theorem dX12_plansFor_256 : decode cX12_plansFor 256 = .ok (.invokevirtual 339, 3) := by decide +kernel
theorem dX12_plansFor_259 : decode cX12_plansFor 259 = .ok (.invokevirtual 342, 3) := by decide +kernel
theorem dX12_plansFor_262 : decode cX12_plansFor 262 = .ok (.invokestatic 295, 3) := by decide +kernel
theorem dX12_plansFor_265 : decode cX12_plansFor 265 = .ok (.istore 9, 2) := by decide +kernel
theorem dX12_plansFor_267 : decode cX12_plansFor 267 = .ok (.iinc 11 1, 3) := by decide +kernel
theorem dX12_plansFor_270 : decode cX12_plansFor 270 = .ok (.goto (-53), 3) := by decide +kernel
theorem dX12_plansFor_273 : decode cX12_plansFor 273 = .ok (.aload_n 0, 1) := by decide +kernel
theorem dX12_plansFor_274 : decode cX12_plansFor 274 = .ok (.getfield 60, 3) := by decide +kernel
theorem dX12_plansFor_277 : decode cX12_plansFor 277 = .ok (.aload_n 0, 1) := by decide +kernel
theorem dX12_plansFor_278 : decode cX12_plansFor 278 = .ok (.iload 6, 2) := by decide +kernel
theorem dX12_plansFor_280 : decode cX12_plansFor 280 = .ok (.iload 7, 2) := by decide +kernel
theorem dX12_plansFor_282 : decode cX12_plansFor 282 = .ok (.iload 8, 2) := by decide +kernel
theorem dX12_plansFor_284 : decode cX12_plansFor 284 = .ok (.invokevirtual 332, 3) := by decide +kernel
theorem dX12_plansFor_287 : decode cX12_plansFor 287 = .ok (.iload 9, 2) := by decide +kernel
theorem dX12_plansFor_289 : decode cX12_plansFor 289 = .ok (.sipush 1000, 3) := by decide +kernel
theorem dX12_plansFor_292 : decode cX12_plansFor 292 = .ok (.invokestatic 295, 3) := by decide +kernel
theorem dX12_plansFor_295 : decode cX12_plansFor 295 = .ok (.iastore, 1) := by decide +kernel
theorem dX12_plansFor_296 : decode cX12_plansFor 296 = .ok (.iinc 8 1, 3) := by decide +kernel
theorem dX12_plansFor_299 : decode cX12_plansFor 299 = .ok (.goto (-156), 3) := by decide +kernel
theorem dX12_plansFor_302 : decode cX12_plansFor 302 = .ok (.iinc 7 1, 3) := by decide +kernel
theorem dX12_plansFor_305 : decode cX12_plansFor 305 = .ok (.goto (-176), 3) := by decide +kernel
theorem dX12_plansFor_308 : decode cX12_plansFor 308 = .ok (.iinc 6 (-1), 3) := by decide +kernel
theorem dX12_plansFor_311 : decode cX12_plansFor 311 = .ok (.goto (-192), 3) := by decide +kernel
theorem dX12_plansFor_314 : decode cX12_plansFor 314 = .ok (.aload_n 0, 1) := by decide +kernel
theorem dX12_plansFor_315 : decode cX12_plansFor 315 = .ok (.getfield 60, 3) := by decide +kernel
theorem dX12_plansFor_318 : decode cX12_plansFor 318 = .ok (.aload_n 0, 1) := by decide +kernel
theorem dX12_plansFor_319 : decode cX12_plansFor 319 = .ok (.iload 4, 2) := by decide +kernel
theorem dX12_plansFor_321 : decode cX12_plansFor 321 = .ok (.aload_n 0, 1) := by decide +kernel
theorem dX12_plansFor_322 : decode cX12_plansFor 322 = .ok (.getfield 33, 3) := by decide +kernel
theorem dX12_plansFor_325 : decode cX12_plansFor 325 = .ok (.bipush 107, 2) := by decide +kernel
theorem dX12_plansFor_327 : decode cX12_plansFor 327 = .ok (.iload_n 1, 1) := by decide +kernel
theorem dX12_plansFor_328 : decode cX12_plansFor 328 = .ok (.iadd, 1) := by decide +kernel
theorem dX12_plansFor_329 : decode cX12_plansFor 329 = .ok (.iaload, 1) := by decide +kernel
theorem dX12_plansFor_330 : decode cX12_plansFor 330 = .ok (.iload_n 3, 1) := by decide +kernel
theorem dX12_plansFor_331 : decode cX12_plansFor 331 = .ok (.invokevirtual 332, 3) := by decide +kernel
theorem dX12_plansFor_334 : decode cX12_plansFor 334 = .ok (.iaload, 1) := by decide +kernel
theorem dX12_plansFor_335 : decode cX12_plansFor 335 = .ok (.ireturn, 1) := by decide +kernel
theorem dX12_dueSet_0 : decode cX12_dueSet 0 = .ok (.iconst 0, 1) := by decide +kernel
theorem dX12_dueSet_1 : decode cX12_dueSet 1 = .ok (.istore_n 2, 1) := by decide +kernel
theorem dX12_dueSet_2 : decode cX12_dueSet 2 = .ok (.iconst 0, 1) := by decide +kernel
theorem dX12_dueSet_3 : decode cX12_dueSet 3 = .ok (.istore_n 3, 1) := by decide +kernel
theorem dX12_dueSet_4 : decode cX12_dueSet 4 = .ok (.iload_n 3, 1) := by decide +kernel
theorem dX12_dueSet_5 : decode cX12_dueSet 5 = .ok (.aload_n 0, 1) := by decide +kernel
theorem dX12_dueSet_6 : decode cX12_dueSet 6 = .ok (.getfield 33, 3) := by decide +kernel
theorem dX12_dueSet_9 : decode cX12_dueSet 9 = .ok (.bipush 6, 2) := by decide +kernel
theorem dX12_dueSet_11 : decode cX12_dueSet 11 = .ok (.iaload, 1) := by decide +kernel
theorem dX12_dueSet_12 : decode cX12_dueSet 12 = .ok (.if_icmp .ge 41, 3) := by decide +kernel
theorem dX12_dueSet_15 : decode cX12_dueSet 15 = .ok (.iload_n 2, 1) := by decide +kernel
theorem dX12_dueSet_16 : decode cX12_dueSet 16 = .ok (.aload_n 0, 1) := by decide +kernel
theorem dX12_dueSet_17 : decode cX12_dueSet 17 = .ok (.getfield 33, 3) := by decide +kernel
theorem dX12_dueSet_20 : decode cX12_dueSet 20 = .ok (.bipush 26, 2) := by decide +kernel
theorem dX12_dueSet_22 : decode cX12_dueSet 22 = .ok (.iload_n 3, 1) := by decide +kernel
theorem dX12_dueSet_23 : decode cX12_dueSet 23 = .ok (.iadd, 1) := by decide +kernel
theorem dX12_dueSet_24 : decode cX12_dueSet 24 = .ok (.iaload, 1) := by decide +kernel
theorem dX12_dueSet_25 : decode cX12_dueSet 25 = .ok (.iload_n 1, 1) := by decide +kernel
theorem dX12_dueSet_26 : decode cX12_dueSet 26 = .ok (.if_icmp .ne 18, 3) := by decide +kernel
theorem dX12_dueSet_29 : decode cX12_dueSet 29 = .ok (.aload_n 0, 1) := by decide +kernel
theorem dX12_dueSet_30 : decode cX12_dueSet 30 = .ok (.iload_n 3, 1) := by decide +kernel
theorem dX12_dueSet_31 : decode cX12_dueSet 31 = .ok (.iconst 0, 1) := by decide +kernel
theorem dX12_dueSet_32 : decode cX12_dueSet 32 = .ok (.invokevirtual 320, 3) := by decide +kernel
theorem dX12_dueSet_35 : decode cX12_dueSet 35 = .ok (.ifCond .eq 9, 3) := by decide +kernel
theorem dX12_dueSet_38 : decode cX12_dueSet 38 = .ok (.iconst 1, 1) := by decide +kernel
theorem dX12_dueSet_39 : decode cX12_dueSet 39 = .ok (.iload_n 3, 1) := by decide +kernel
theorem dX12_dueSet_40 : decode cX12_dueSet 40 = .ok (.ishl, 1) := by decide +kernel
theorem dX12_dueSet_41 : decode cX12_dueSet 41 = .ok (.goto 4, 3) := by decide +kernel
theorem dX12_dueSet_44 : decode cX12_dueSet 44 = .ok (.iconst 0, 1) := by decide +kernel
theorem dX12_dueSet_45 : decode cX12_dueSet 45 = .ok (.ior, 1) := by decide +kernel
theorem dX12_dueSet_46 : decode cX12_dueSet 46 = .ok (.istore_n 2, 1) := by decide +kernel
theorem dX12_dueSet_47 : decode cX12_dueSet 47 = .ok (.iinc 3 1, 3) := by decide +kernel
theorem dX12_dueSet_50 : decode cX12_dueSet 50 = .ok (.goto (-46), 3) := by decide +kernel
theorem dX12_dueSet_53 : decode cX12_dueSet 53 = .ok (.iload_n 2, 1) := by decide +kernel
theorem dX12_dueSet_54 : decode cX12_dueSet 54 = .ok (.ireturn, 1) := by decide +kernel
theorem dX12_isPlanned_0 : decode cX12_isPlanned 0 = .ok (.aload_n 0, 1) := by decide +kernel
theorem dX12_isPlanned_1 : decode cX12_isPlanned 1 = .ok (.iload_n 1, 1) := by decide +kernel
theorem dX12_isPlanned_2 : decode cX12_isPlanned 2 = .ok (.invokevirtual 251, 3) := by decide +kernel
theorem dX12_isPlanned_5 : decode cX12_isPlanned 5 = .ok (.ifCond .eq 26, 3) := by decide +kernel
theorem dX12_isPlanned_8 : decode cX12_isPlanned 8 = .ok (.aload_n 0, 1) := by decide +kernel
theorem dX12_isPlanned_9 : decode cX12_isPlanned 9 = .ok (.invokevirtual 263, 3) := by decide +kernel
theorem dX12_isPlanned_12 : decode cX12_isPlanned 12 = .ok (.ifCond .ne 19, 3) := by decide +kernel
theorem dX12_isPlanned_15 : decode cX12_isPlanned 15 = .ok (.aload_n 0, 1) := by decide +kernel
theorem dX12_isPlanned_16 : decode cX12_isPlanned 16 = .ok (.iload_n 1, 1) := by decide +kernel
theorem dX12_isPlanned_17 : decode cX12_isPlanned 17 = .ok (.invokevirtual 345, 3) := by decide +kernel
theorem dX12_isPlanned_20 : decode cX12_isPlanned 20 = .ok (.invokestatic 348, 3) := by decide +kernel
theorem dX12_isPlanned_23 : decode cX12_isPlanned 23 = .ok (.iconst 5, 1) := by decide +kernel
theorem dX12_isPlanned_24 : decode cX12_isPlanned 24 = .ok (.if_icmp .ge 7, 3) := by decide +kernel
theorem dX12_isPlanned_27 : decode cX12_isPlanned 27 = .ok (.iconst 1, 1) := by decide +kernel
theorem dX12_isPlanned_28 : decode cX12_isPlanned 28 = .ok (.goto 4, 3) := by decide +kernel
theorem dX12_isPlanned_31 : decode cX12_isPlanned 31 = .ok (.iconst 0, 1) := by decide +kernel
theorem dX12_isPlanned_32 : decode cX12_isPlanned 32 = .ok (.ireturn, 1) := by decide +kernel
theorem dX12_plan_0 : decode cX12_plan 0 = .ok (.aload_n 0, 1) := by decide +kernel
theorem dX12_plan_1 : decode cX12_plan 1 = .ok (.iconst 0, 1) := by decide +kernel
theorem dX12_plan_2 : decode cX12_plan 2 = .ok (.putfield 1, 3) := by decide +kernel
theorem dX12_plan_5 : decode cX12_plan 5 = .ok (.aload_n 0, 1) := by decide +kernel
theorem dX12_plan_6 : decode cX12_plan 6 = .ok (.iload_n 1, 1) := by decide +kernel
theorem dX12_plan_7 : decode cX12_plan 7 = .ok (.invokevirtual 351, 3) := by decide +kernel
theorem dX12_plan_10 : decode cX12_plan 10 = .ok (.ifCond .ne 5, 3) := by decide +kernel
theorem dX12_plan_13 : decode cX12_plan 13 = .ok (.iconst (-1), 1) := by decide +kernel
theorem dX12_plan_14 : decode cX12_plan 14 = .ok (.ireturn, 1) := by decide +kernel
theorem dX12_plan_15 : decode cX12_plan 15 = .ok (.aload_n 0, 1) := by decide +kernel
theorem dX12_plan_16 : decode cX12_plan 16 = .ok (.iload_n 1, 1) := by decide +kernel
theorem dX12_plan_17 : decode cX12_plan 17 = .ok (.aload_n 0, 1) := by decide +kernel
theorem dX12_plan_18 : decode cX12_plan 18 = .ok (.iload_n 1, 1) := by decide +kernel
theorem dX12_plan_19 : decode cX12_plan 19 = .ok (.invokevirtual 345, 3) := by decide +kernel
theorem dX12_plan_22 : decode cX12_plan 22 = .ok (.invokevirtual 354, 3) := by decide +kernel
theorem dX12_plan_25 : decode cX12_plan 25 = .ok (.istore_n 2, 1) := by decide +kernel
theorem dX12_plan_26 : decode cX12_plan 26 = .ok (.iload_n 2, 1) := by decide +kernel
theorem dX12_plan_27 : decode cX12_plan 27 = .ok (.sipush 1000, 3) := by decide +kernel
theorem dX12_plan_30 : decode cX12_plan 30 = .ok (.if_icmp .lt 5, 3) := by decide +kernel
theorem dX12_plan_33 : decode cX12_plan 33 = .ok (.iconst (-1), 1) := by decide +kernel
theorem dX12_plan_34 : decode cX12_plan 34 = .ok (.ireturn, 1) := by decide +kernel
theorem dX12_plan_35 : decode cX12_plan 35 = .ok (.aload_n 0, 1) := by decide +kernel
theorem dX12_plan_36 : decode cX12_plan 36 = .ok (.getfield 33, 3) := by decide +kernel
theorem dX12_plan_39 : decode cX12_plan 39 = .ok (.bipush 107, 2) := by decide +kernel
theorem dX12_plan_41 : decode cX12_plan 41 = .ok (.iload_n 1, 1) := by decide +kernel
theorem dX12_plan_42 : decode cX12_plan 42 = .ok (.iadd, 1) := by decide +kernel
theorem dX12_plan_43 : decode cX12_plan 43 = .ok (.iaload, 1) := by decide +kernel
theorem dX12_plan_44 : decode cX12_plan 44 = .ok (.istore_n 3, 1) := by decide +kernel
theorem dX12_plan_45 : decode cX12_plan 45 = .ok (.iconst 0, 1) := by decide +kernel
theorem dX12_plan_46 : decode cX12_plan 46 = .ok (.istore 4, 2) := by decide +kernel
theorem dX12_plan_48 : decode cX12_plan 48 = .ok (.iconst 0, 1) := by decide +kernel
theorem dX12_plan_49 : decode cX12_plan 49 = .ok (.istore 5, 2) := by decide +kernel
theorem dX12_plan_51 : decode cX12_plan 51 = .ok (.iload 5, 2) := by decide +kernel
theorem dX12_plan_53 : decode cX12_plan 53 = .ok (.aload_n 0, 1) := by decide +kernel
theorem dX12_plan_54 : decode cX12_plan 54 = .ok (.getfield 326, 3) := by decide +kernel
theorem dX12_plan_57 : decode cX12_plan 57 = .ok (.if_icmp .ge 31, 3) := by decide +kernel
theorem dX12_plan_60 : decode cX12_plan 60 = .ok (.iload 4, 2) := by decide +kernel
theorem dX12_plan_62 : decode cX12_plan 62 = .ok (.aload_n 0, 1) := by decide +kernel
theorem dX12_plan_63 : decode cX12_plan 63 = .ok (.aload_n 0, 1) := by decide +kernel
theorem dX12_plan_64 : decode cX12_plan 64 = .ok (.getfield 63, 3) := by decide +kernel
theorem dX12_plan_67 : decode cX12_plan 67 = .ok (.iload 5, 2) := by decide +kernel
theorem dX12_plan_69 : decode cX12_plan 69 = .ok (.iaload, 1) := by decide +kernel
theorem dX12_plan_70 : decode cX12_plan 70 = .ok (.iconst 0, 1) := by decide +kernel
theorem dX12_plan_71 : decode cX12_plan 71 = .ok (.invokevirtual 323, 3) := by decide +kernel
theorem dX12_plan_74 : decode cX12_plan 74 = .ok (.iconst 2, 1) := by decide +kernel
theorem dX12_plan_75 : decode cX12_plan 75 = .ok (.iload 5, 2) := by decide +kernel
theorem dX12_plan_77 : decode cX12_plan 77 = .ok (.imul, 1) := by decide +kernel
theorem dX12_plan_78 : decode cX12_plan 78 = .ok (.ishl, 1) := by decide +kernel
theorem dX12_plan_79 : decode cX12_plan 79 = .ok (.ior, 1) := by decide +kernel
theorem dX12_plan_80 : decode cX12_plan 80 = .ok (.istore 4, 2) := by decide +kernel
theorem dX12_plan_82 : decode cX12_plan 82 = .ok (.iinc 5 1, 3) := by decide +kernel
theorem dX12_plan_85 : decode cX12_plan 85 = .ok (.goto (-34), 3) := by decide +kernel
theorem dX12_plan_88 : decode cX12_plan 88 = .ok (.aload_n 0, 1) := by decide +kernel
theorem dX12_plan_89 : decode cX12_plan 89 = .ok (.aload_n 0, 1) := by decide +kernel
theorem dX12_plan_90 : decode cX12_plan 90 = .ok (.getfield 33, 3) := by decide +kernel
theorem dX12_plan_93 : decode cX12_plan 93 = .ok (.bipush 106, 2) := by decide +kernel
theorem dX12_plan_95 : decode cX12_plan 95 = .ok (.iaload, 1) := by decide +kernel
theorem dX12_plan_96 : decode cX12_plan 96 = .ok (.aload_n 0, 1) := by decide +kernel
theorem dX12_plan_97 : decode cX12_plan 97 = .ok (.getfield 33, 3) := by decide +kernel
theorem dX12_plan_100 : decode cX12_plan 100 = .ok (.iconst 0, 1) := by decide +kernel
theorem dX12_plan_101 : decode cX12_plan 101 = .ok (.iaload, 1) := by decide +kernel
theorem dX12_plan_102 : decode cX12_plan 102 = .ok (.irem, 1) := by decide +kernel
theorem dX12_plan_103 : decode cX12_plan 103 = .ok (.putfield 357, 3) := by decide +kernel
theorem dX12_plan_106 : decode cX12_plan 106 = .ok (.aload_n 0, 1) := by decide +kernel
theorem dX12_plan_107 : decode cX12_plan 107 = .ok (.aload_n 0, 1) := by decide +kernel
theorem dX12_plan_108 : decode cX12_plan 108 = .ok (.getfield 33, 3) := by decide +kernel
theorem dX12_plan_111 : decode cX12_plan 111 = .ok (.iconst 0, 1) := by decide +kernel
theorem dX12_plan_112 : decode cX12_plan 112 = .ok (.iaload, 1) := by decide +kernel
theorem dX12_plan_113 : decode cX12_plan 113 = .ok (.putfield 360, 3) := by decide +kernel
theorem dX12_plan_116 : decode cX12_plan 116 = .ok (.aload_n 0, 1) := by decide +kernel
theorem dX12_plan_117 : decode cX12_plan 117 = .ok (.getfield 357, 3) := by decide +kernel
theorem dX12_plan_120 : decode cX12_plan 120 = .ok (.istore 5, 2) := by decide +kernel
theorem dX12_plan_122 : decode cX12_plan 122 = .ok (.iload 5, 2) := by decide +kernel
theorem dX12_plan_124 : decode cX12_plan 124 = .ok (.aload_n 0, 1) := by decide +kernel
theorem dX12_plan_125 : decode cX12_plan 125 = .ok (.getfield 360, 3) := by decide +kernel
theorem dX12_plan_128 : decode cX12_plan 128 = .ok (.if_icmp .ge 140, 3) := by decide +kernel
theorem dX12_plan_131 : decode cX12_plan 131 = .ok (.iload 5, 2) := by decide +kernel
theorem dX12_plan_133 : decode cX12_plan 133 = .ok (.aload_n 0, 1) := by decide +kernel
theorem dX12_plan_134 : decode cX12_plan 134 = .ok (.getfield 357, 3) := by decide +kernel
theorem dX12_plan_137 : decode cX12_plan 137 = .ok (.if_icmp .ne 20, 3) := by decide +kernel
theorem dX12_plan_140 : decode cX12_plan 140 = .ok (.aload_n 0, 1) := by decide +kernel
theorem dX12_plan_141 : decode cX12_plan 141 = .ok (.getfield 33, 3) := by decide +kernel
theorem dX12_plan_144 : decode cX12_plan 144 = .ok (.bipush 111, 2) := by decide +kernel
theorem dX12_plan_146 : decode cX12_plan 146 = .ok (.iload_n 1, 1) := by decide +kernel
theorem dX12_plan_147 : decode cX12_plan 147 = .ok (.iadd, 1) := by decide +kernel
theorem dX12_plan_148 : decode cX12_plan 148 = .ok (.iaload, 1) := by decide +kernel
theorem dX12_plan_149 : decode cX12_plan 149 = .ok (.iconst 1, 1) := by decide +kernel
theorem dX12_plan_150 : decode cX12_plan 150 = .ok (.if_icmp .ne 7, 3) := by decide +kernel
theorem dX12_plan_153 : decode cX12_plan 153 = .ok (.iconst 1, 1) := by decide +kernel
theorem dX12_plan_154 : decode cX12_plan 154 = .ok (.goto 4, 3) := by decide +kernel
theorem dX12_plan_157 : decode cX12_plan 157 = .ok (.iconst 0, 1) := by decide +kernel
theorem dX12_plan_158 : decode cX12_plan 158 = .ok (.istore 6, 2) := by decide +kernel
theorem dX12_plan_160 : decode cX12_plan 160 = .ok (.iconst 0, 1) := by decide +kernel
theorem dX12_plan_161 : decode cX12_plan 161 = .ok (.istore 7, 2) := by decide +kernel
theorem dX12_plan_163 : decode cX12_plan 163 = .ok (.iload 6, 2) := by decide +kernel
theorem dX12_plan_165 : decode cX12_plan 165 = .ok (.ifCond .ne 41, 3) := by decide +kernel
theorem dX12_plan_168 : decode cX12_plan 168 = .ok (.aload_n 0, 1) := by decide +kernel
theorem dX12_plan_169 : decode cX12_plan 169 = .ok (.iload 5, 2) := by decide +kernel
theorem dX12_plan_171 : decode cX12_plan 171 = .ok (.iload_n 3, 1) := by decide +kernel
theorem dX12_plan_172 : decode cX12_plan 172 = .ok (.iload 4, 2) := by decide +kernel
theorem dX12_plan_174 : decode cX12_plan 174 = .ok (.aload_n 0, 1) := by decide +kernel
theorem dX12_plan_175 : decode cX12_plan 175 = .ok (.iload 7, 2) := by decide +kernel
theorem dX12_plan_177 : decode cX12_plan 177 = .ok (.invokevirtual 339, 3) := by decide +kernel
theorem dX12_plan_180 : decode cX12_plan 180 = .ok (.invokevirtual 342, 3) := by decide +kernel
theorem dX12_plan_183 : decode cX12_plan 183 = .ok (.aload_n 0, 1) := by decide +kernel
theorem dX12_plan_184 : decode cX12_plan 184 = .ok (.getfield 60, 3) := by decide +kernel
theorem dX12_plan_187 : decode cX12_plan 187 = .ok (.aload_n 0, 1) := by decide +kernel
theorem dX12_plan_188 : decode cX12_plan 188 = .ok (.iload 5, 2) := by decide +kernel
theorem dX12_plan_190 : decode cX12_plan 190 = .ok (.iload_n 3, 1) := by decide +kernel
theorem dX12_plan_191 : decode cX12_plan 191 = .ok (.iload 4, 2) := by decide +kernel
theorem dX12_plan_193 : decode cX12_plan 193 = .ok (.invokevirtual 332, 3) := by decide +kernel
theorem dX12_plan_196 : decode cX12_plan 196 = .ok (.iaload, 1) := by decide +kernel
theorem dX12_plan_197 : decode cX12_plan 197 = .ok (.if_icmp .eq 9, 3) := by decide +kernel
theorem dX12_plan_200 : decode cX12_plan 200 = .ok (.iinc 7 1, 3) := by decide +kernel
theorem dX12_plan_203 : decode cX12_plan 203 = .ok (.goto (-40), 3) := by decide +kernel
theorem dX12_plan_206 : decode cX12_plan 206 = .ok (.aload_n 0, 1) := by decide +kernel
theorem dX12_plan_207 : decode cX12_plan 207 = .ok (.iload 7, 2) := by decide +kernel
theorem dX12_plan_209 : decode cX12_plan 209 = .ok (.invokevirtual 339, 3) := by decide +kernel
theorem dX12_plan_212 : decode cX12_plan 212 = .ok (.istore 8, 2) := by decide +kernel
theorem dX12_plan_214 : decode cX12_plan 214 = .ok (.aload_n 0, 1) := by decide +kernel
theorem dX12_plan_215 : decode cX12_plan 215 = .ok (.getfield 66, 3) := by decide +kernel
theorem dX12_plan_218 : decode cX12_plan 218 = .ok (.iload 5, 2) := by decide +kernel
theorem dX12_plan_220 : decode cX12_plan 220 = .ok (.iload 8, 2) := by decide +kernel
theorem dX12_plan_222 : decode cX12_plan 222 = .ok (.iastore, 1) := by decide +kernel
theorem dX12_plan_223 : decode cX12_plan 223 = .ok (.iload 8, 2) := by decide +kernel
theorem dX12_plan_225 : decode cX12_plan 225 = .ok (.sipush 200, 3) := by decide +kernel
theorem dX12_plan_228 : decode cX12_plan 228 = .ok (.if_icmp .lt 23, 3) := by decide +kernel
theorem dX12_plan_231 : decode cX12_plan 231 = .ok (.aload_n 0, 1) := by decide +kernel
theorem dX12_plan_232 : decode cX12_plan 232 = .ok (.iload 4, 2) := by decide +kernel
theorem dX12_plan_234 : decode cX12_plan 234 = .ok (.iload 5, 2) := by decide +kernel
theorem dX12_plan_236 : decode cX12_plan 236 = .ok (.iload_n 3, 1) := by decide +kernel
theorem dX12_plan_237 : decode cX12_plan 237 = .ok (.iload 8, 2) := by decide +kernel
theorem dX12_plan_239 : decode cX12_plan 239 = .ok (.sipush 200, 3) := by decide +kernel
theorem dX12_plan_242 : decode cX12_plan 242 = .ok (.isub, 1) := by decide +kernel
theorem dX12_plan_243 : decode cX12_plan 243 = .ok (.invokevirtual 335, 3) := by decide +kernel
theorem dX12_plan_246 : decode cX12_plan 246 = .ok (.istore 4, 2) := by decide +kernel
theorem dX12_plan_248 : decode cX12_plan 248 = .ok (.goto 14, 3) := by decide +kernel
theorem dX12_plan_251 : decode cX12_plan 251 = .ok (.iload 8, 2) := by decide +kernel
theorem dX12_plan_253 : decode cX12_plan 253 = .ok (.ifCond .le 9, 3) := by decide +kernel
theorem dX12_plan_256 : decode cX12_plan 256 = .ok (.iload 8, 2) := by decide +kernel
theorem dX12_plan_258 : decode cX12_plan 258 = .ok (.bipush 100, 2) := by decide +kernel
theorem dX12_plan_260 : decode cX12_plan 260 = .ok (.isub, 1) := by decide +kernel
theorem dX12_plan_261 : decode cX12_plan 261 = .ok (.istore_n 3, 1) := by decide +kernel
theorem dX12_plan_262 : decode cX12_plan 262 = .ok (.iinc 5 1, 3) := by decide +kernel
theorem dX12_plan_265 : decode cX12_plan 265 = .ok (.goto (-143), 3) := by decide +kernel
theorem dX12_plan_268 : decode cX12_plan 268 = .ok (.iload_n 2, 1) := by decide +kernel
theorem dX12_plan_269 : decode cX12_plan 269 = .ok (.ireturn, 1) := by decide +kernel
theorem dX12_step_0 : decode cX12_step 0 = .ok (.aload_n 0, 1) := by decide +kernel
theorem dX12_step_1 : decode cX12_step 1 = .ok (.iconst 0, 1) := by decide +kernel
theorem dX12_step_2 : decode cX12_step 2 = .ok (.putfield 1, 3) := by decide +kernel
theorem dX12_step_5 : decode cX12_step 5 = .ok (.iload_n 1, 1) := by decide +kernel
theorem dX12_step_6 : decode cX12_step 6 = .ok (.aload_n 0, 1) := by decide +kernel
theorem dX12_step_7 : decode cX12_step 7 = .ok (.getfield 357, 3) := by decide +kernel
theorem dX12_step_10 : decode cX12_step 10 = .ok (.if_icmp .lt 20, 3) := by decide +kernel
theorem dX12_step_13 : decode cX12_step 13 = .ok (.iload_n 1, 1) := by decide +kernel
theorem dX12_step_14 : decode cX12_step 14 = .ok (.aload_n 0, 1) := by decide +kernel
theorem dX12_step_15 : decode cX12_step 15 = .ok (.getfield 360, 3) := by decide +kernel
theorem dX12_step_18 : decode cX12_step 18 = .ok (.if_icmp .ge 12, 3) := by decide +kernel
theorem dX12_step_21 : decode cX12_step 21 = .ok (.aload_n 0, 1) := by decide +kernel
theorem dX12_step_22 : decode cX12_step 22 = .ok (.getfield 66, 3) := by decide +kernel
theorem dX12_step_25 : decode cX12_step 25 = .ok (.iload_n 1, 1) := by decide +kernel
theorem dX12_step_26 : decode cX12_step 26 = .ok (.iaload, 1) := by decide +kernel
theorem dX12_step_27 : decode cX12_step 27 = .ok (.goto 4, 3) := by decide +kernel
theorem dX12_step_30 : decode cX12_step 30 = .ok (.iconst (-1), 1) := by decide +kernel
theorem dX12_step_31 : decode cX12_step 31 = .ok (.ireturn, 1) := by decide +kernel
theorem dX12_quarrel_0 : decode cX12_quarrel 0 = .ok (.aload_n 0, 1) := by decide +kernel
theorem dX12_quarrel_1 : decode cX12_quarrel 1 = .ok (.iconst 0, 1) := by decide +kernel
theorem dX12_quarrel_2 : decode cX12_quarrel 2 = .ok (.putfield 1, 3) := by decide +kernel
theorem dX12_quarrel_5 : decode cX12_quarrel 5 = .ok (.aload_n 0, 1) := by decide +kernel
theorem dX12_quarrel_6 : decode cX12_quarrel 6 = .ok (.iload_n 1, 1) := by decide +kernel
theorem dX12_quarrel_7 : decode cX12_quarrel 7 = .ok (.invokevirtual 351, 3) := by decide +kernel
theorem dX12_quarrel_10 : decode cX12_quarrel 10 = .ok (.ifCond .ne 5, 3) := by decide +kernel
theorem dX12_quarrel_13 : decode cX12_quarrel 13 = .ok (.iconst (-1), 1) := by decide +kernel
theorem dX12_quarrel_14 : decode cX12_quarrel 14 = .ok (.ireturn, 1) := by decide +kernel
theorem dX12_quarrel_15 : decode cX12_quarrel 15 = .ok (.aload_n 0, 1) := by decide +kernel
theorem dX12_quarrel_16 : decode cX12_quarrel 16 = .ok (.iload_n 1, 1) := by decide +kernel
theorem dX12_quarrel_17 : decode cX12_quarrel 17 = .ok (.invokevirtual 345, 3) := by decide +kernel
theorem dX12_quarrel_20 : decode cX12_quarrel 20 = .ok (.istore_n 2, 1) := by decide +kernel
theorem dX12_quarrel_21 : decode cX12_quarrel 21 = .ok (.iconst 0, 1) := by decide +kernel
theorem dX12_quarrel_22 : decode cX12_quarrel 22 = .ok (.istore_n 3, 1) := by decide +kernel
theorem dX12_quarrel_23 : decode cX12_quarrel 23 = .ok (.iconst 1, 1) := by decide +kernel
theorem dX12_quarrel_24 : decode cX12_quarrel 24 = .ok (.istore 4, 2) := by decide +kernel
theorem dX12_quarrel_26 : decode cX12_quarrel 26 = .ok (.iload 4, 2) := by decide +kernel
theorem dX12_quarrel_28 : decode cX12_quarrel 28 = .ok (.iload_n 2, 1) := by decide +kernel
theorem dX12_quarrel_29 : decode cX12_quarrel 29 = .ok (.if_icmp .gt 53, 3) := by decide +kernel
theorem dX12_quarrel_32 : decode cX12_quarrel 32 = .ok (.iload 4, 2) := by decide +kernel
theorem dX12_quarrel_34 : decode cX12_quarrel 34 = .ok (.iload_n 2, 1) := by decide +kernel
theorem dX12_quarrel_35 : decode cX12_quarrel 35 = .ok (.iconst (-1), 1) := by decide +kernel
theorem dX12_quarrel_36 : decode cX12_quarrel 36 = .ok (.ixor, 1) := by decide +kernel
theorem dX12_quarrel_37 : decode cX12_quarrel 37 = .ok (.iand, 1) := by decide +kernel
theorem dX12_quarrel_38 : decode cX12_quarrel 38 = .ok (.ifCond .ne 38, 3) := by decide +kernel
theorem dX12_quarrel_41 : decode cX12_quarrel 41 = .ok (.iload_n 3, 1) := by decide +kernel
theorem dX12_quarrel_42 : decode cX12_quarrel 42 = .ok (.ifCond .le 18, 3) := by decide +kernel
theorem dX12_quarrel_45 : decode cX12_quarrel 45 = .ok (.iload 4, 2) := by decide +kernel
theorem dX12_quarrel_47 : decode cX12_quarrel 47 = .ok (.invokestatic 348, 3) := by decide +kernel
theorem dX12_quarrel_50 : decode cX12_quarrel 50 = .ok (.iload_n 3, 1) := by decide +kernel
theorem dX12_quarrel_51 : decode cX12_quarrel 51 = .ok (.invokestatic 348, 3) := by decide +kernel
theorem dX12_quarrel_54 : decode cX12_quarrel 54 = .ok (.if_icmp .lt 6, 3) := by decide +kernel
theorem dX12_quarrel_57 : decode cX12_quarrel 57 = .ok (.goto 19, 3) := by decide +kernel
theorem dX12_quarrel_60 : decode cX12_quarrel 60 = .ok (.aload_n 0, 1) := by decide +kernel
theorem dX12_quarrel_61 : decode cX12_quarrel 61 = .ok (.iload_n 1, 1) := by decide +kernel
theorem dX12_quarrel_62 : decode cX12_quarrel 62 = .ok (.iload 4, 2) := by decide +kernel
theorem dX12_quarrel_64 : decode cX12_quarrel 64 = .ok (.invokevirtual 354, 3) := by decide +kernel
theorem dX12_quarrel_67 : decode cX12_quarrel 67 = .ok (.sipush 1000, 3) := by decide +kernel
theorem dX12_quarrel_70 : decode cX12_quarrel 70 = .ok (.if_icmp .lt 6, 3) := by decide +kernel
theorem dX12_quarrel_73 : decode cX12_quarrel 73 = .ok (.iload 4, 2) := by decide +kernel
theorem dX12_quarrel_75 : decode cX12_quarrel 75 = .ok (.istore_n 3, 1) := by decide +kernel
theorem dX12_quarrel_76 : decode cX12_quarrel 76 = .ok (.iinc 4 1, 3) := by decide +kernel
theorem dX12_quarrel_79 : decode cX12_quarrel 79 = .ok (.goto (-53), 3) := by decide +kernel
theorem dX12_quarrel_82 : decode cX12_quarrel 82 = .ok (.iload_n 3, 1) := by decide +kernel
theorem dX12_quarrel_83 : decode cX12_quarrel 83 = .ok (.ireturn, 1) := by decide +kernel
theorem dX12_chainOf_0 : decode cX12_chainOf 0 = .ok (.iconst 1, 1) := by decide +kernel
theorem dX12_chainOf_1 : decode cX12_chainOf 1 = .ok (.iload_n 1, 1) := by decide +kernel
theorem dX12_chainOf_2 : decode cX12_chainOf 2 = .ok (.ishl, 1) := by decide +kernel
theorem dX12_chainOf_3 : decode cX12_chainOf 3 = .ok (.istore_n 2, 1) := by decide +kernel
theorem dX12_chainOf_4 : decode cX12_chainOf 4 = .ok (.iconst 0, 1) := by decide +kernel
theorem dX12_chainOf_5 : decode cX12_chainOf 5 = .ok (.istore_n 3, 1) := by decide +kernel
theorem dX12_chainOf_6 : decode cX12_chainOf 6 = .ok (.iload_n 3, 1) := by decide +kernel
theorem dX12_chainOf_7 : decode cX12_chainOf 7 = .ok (.bipush 8, 2) := by decide +kernel
theorem dX12_chainOf_9 : decode cX12_chainOf 9 = .ok (.if_icmp .ge 62, 3) := by decide +kernel
theorem dX12_chainOf_12 : decode cX12_chainOf 12 = .ok (.iconst 0, 1) := by decide +kernel
theorem dX12_chainOf_13 : decode cX12_chainOf 13 = .ok (.istore 4, 2) := by decide +kernel
theorem dX12_chainOf_15 : decode cX12_chainOf 15 = .ok (.iload 4, 2) := by decide +kernel
theorem dX12_chainOf_17 : decode cX12_chainOf 17 = .ok (.aload_n 0, 1) := by decide +kernel
theorem dX12_chainOf_18 : decode cX12_chainOf 18 = .ok (.getfield 33, 3) := by decide +kernel
theorem dX12_chainOf_21 : decode cX12_chainOf 21 = .ok (.bipush 7, 2) := by decide +kernel
theorem dX12_chainOf_23 : decode cX12_chainOf 23 = .ok (.iaload, 1) := by decide +kernel
theorem dX12_chainOf_24 : decode cX12_chainOf 24 = .ok (.if_icmp .ge 41, 3) := by decide +kernel
theorem dX12_chainOf_27 : decode cX12_chainOf 27 = .ok (.iload_n 2, 1) := by decide +kernel
theorem dX12_chainOf_28 : decode cX12_chainOf 28 = .ok (.aload_n 0, 1) := by decide +kernel
theorem dX12_chainOf_29 : decode cX12_chainOf 29 = .ok (.getfield 33, 3) := by decide +kernel
theorem dX12_chainOf_32 : decode cX12_chainOf 32 = .ok (.bipush 98, 2) := by decide +kernel
theorem dX12_chainOf_34 : decode cX12_chainOf 34 = .ok (.iload 4, 2) := by decide +kernel
theorem dX12_chainOf_36 : decode cX12_chainOf 36 = .ok (.iadd, 1) := by decide +kernel
theorem dX12_chainOf_37 : decode cX12_chainOf 37 = .ok (.iaload, 1) := by decide +kernel
theorem dX12_chainOf_38 : decode cX12_chainOf 38 = .ok (.invokestatic 223, 3) := by decide +kernel
theorem dX12_chainOf_41 : decode cX12_chainOf 41 = .ok (.ifCond .eq 18, 3) := by decide +kernel
theorem dX12_chainOf_44 : decode cX12_chainOf 44 = .ok (.iload_n 2, 1) := by decide +kernel
theorem dX12_chainOf_45 : decode cX12_chainOf 45 = .ok (.iconst 1, 1) := by decide +kernel
theorem dX12_chainOf_46 : decode cX12_chainOf 46 = .ok (.aload_n 0, 1) := by decide +kernel
theorem dX12_chainOf_47 : decode cX12_chainOf 47 = .ok (.getfield 33, 3) := by decide +kernel
theorem dX12_chainOf_50 : decode cX12_chainOf 50 = .ok (.bipush 90, 2) := by decide +kernel
theorem dX12_chainOf_52 : decode cX12_chainOf 52 = .ok (.iload 4, 2) := by decide +kernel
theorem dX12_chainOf_54 : decode cX12_chainOf 54 = .ok (.iadd, 1) := by decide +kernel
theorem dX12_chainOf_55 : decode cX12_chainOf 55 = .ok (.iaload, 1) := by decide +kernel
theorem dX12_chainOf_56 : decode cX12_chainOf 56 = .ok (.ishl, 1) := by decide +kernel
theorem dX12_chainOf_57 : decode cX12_chainOf 57 = .ok (.ior, 1) := by decide +kernel
theorem dX12_chainOf_58 : decode cX12_chainOf 58 = .ok (.istore_n 2, 1) := by decide +kernel
theorem dX12_chainOf_59 : decode cX12_chainOf 59 = .ok (.iinc 4 1, 3) := by decide +kernel
theorem dX12_chainOf_62 : decode cX12_chainOf 62 = .ok (.goto (-47), 3) := by decide +kernel
theorem dX12_chainOf_65 : decode cX12_chainOf 65 = .ok (.iinc 3 1, 3) := by decide +kernel
theorem dX12_chainOf_68 : decode cX12_chainOf 68 = .ok (.goto (-62), 3) := by decide +kernel
theorem dX12_chainOf_71 : decode cX12_chainOf 71 = .ok (.iload_n 2, 1) := by decide +kernel
theorem dX12_chainOf_72 : decode cX12_chainOf 72 = .ok (.ireturn, 1) := by decide +kernel
theorem dX12_chain_0 : decode cX12_chain 0 = .ok (.aload_n 0, 1) := by decide +kernel
theorem dX12_chain_1 : decode cX12_chain 1 = .ok (.iconst 0, 1) := by decide +kernel
theorem dX12_chain_2 : decode cX12_chain 2 = .ok (.putfield 1, 3) := by decide +kernel
theorem dX12_chain_5 : decode cX12_chain 5 = .ok (.aload_n 0, 1) := by decide +kernel
theorem dX12_chain_6 : decode cX12_chain 6 = .ok (.iload_n 1, 1) := by decide +kernel
theorem dX12_chain_7 : decode cX12_chain 7 = .ok (.invokevirtual 244, 3) := by decide +kernel
theorem dX12_chain_10 : decode cX12_chain 10 = .ok (.ifCond .eq 11, 3) := by decide +kernel
theorem dX12_chain_13 : decode cX12_chain 13 = .ok (.aload_n 0, 1) := by decide +kernel
theorem dX12_chain_14 : decode cX12_chain 14 = .ok (.iload_n 1, 1) := by decide +kernel
theorem dX12_chain_15 : decode cX12_chain 15 = .ok (.invokevirtual 363, 3) := by decide +kernel
theorem dX12_chain_18 : decode cX12_chain 18 = .ok (.goto 4, 3) := by decide +kernel
theorem dX12_chain_21 : decode cX12_chain 21 = .ok (.iconst (-1), 1) := by decide +kernel
theorem dX12_chain_22 : decode cX12_chain 22 = .ok (.ireturn, 1) := by decide +kernel
theorem dX12_rings_0 : decode cX12_rings 0 = .ok (.aload_n 0, 1) := by decide +kernel
theorem dX12_rings_1 : decode cX12_rings 1 = .ok (.iconst 0, 1) := by decide +kernel
theorem dX12_rings_2 : decode cX12_rings 2 = .ok (.putfield 1, 3) := by decide +kernel
theorem dX12_rings_5 : decode cX12_rings 5 = .ok (.iconst 0, 1) := by decide +kernel
theorem dX12_rings_6 : decode cX12_rings 6 = .ok (.istore_n 1, 1) := by decide +kernel
theorem dX12_rings_7 : decode cX12_rings 7 = .ok (.iconst 0, 1) := by decide +kernel
theorem dX12_rings_8 : decode cX12_rings 8 = .ok (.istore_n 2, 1) := by decide +kernel
theorem dX12_rings_9 : decode cX12_rings 9 = .ok (.iload_n 2, 1) := by decide +kernel
theorem dX12_rings_10 : decode cX12_rings 10 = .ok (.aload_n 0, 1) := by decide +kernel
theorem dX12_rings_11 : decode cX12_rings 11 = .ok (.getfield 33, 3) := by decide +kernel
theorem dX12_rings_14 : decode cX12_rings 14 = .ok (.bipush 7, 2) := by decide +kernel
theorem dX12_rings_16 : decode cX12_rings 16 = .ok (.iaload, 1) := by decide +kernel
theorem dX12_rings_17 : decode cX12_rings 17 = .ok (.if_icmp .ge 63, 3) := by decide +kernel
theorem dX12_rings_20 : decode cX12_rings 20 = .ok (.aload_n 0, 1) := by decide +kernel
theorem dX12_rings_21 : decode cX12_rings 21 = .ok (.aload_n 0, 1) := by decide +kernel
theorem dX12_rings_22 : decode cX12_rings 22 = .ok (.getfield 33, 3) := by decide +kernel
theorem dX12_rings_25 : decode cX12_rings 25 = .ok (.bipush 90, 2) := by decide +kernel
theorem dX12_rings_27 : decode cX12_rings 27 = .ok (.iload_n 2, 1) := by decide +kernel
theorem dX12_rings_28 : decode cX12_rings 28 = .ok (.iadd, 1) := by decide +kernel
theorem dX12_rings_29 : decode cX12_rings 29 = .ok (.iaload, 1) := by decide +kernel
theorem dX12_rings_30 : decode cX12_rings 30 = .ok (.invokevirtual 363, 3) := by decide +kernel
theorem dX12_rings_33 : decode cX12_rings 33 = .ok (.aload_n 0, 1) := by decide +kernel
theorem dX12_rings_34 : decode cX12_rings 34 = .ok (.getfield 33, 3) := by decide +kernel
theorem dX12_rings_37 : decode cX12_rings 37 = .ok (.bipush 98, 2) := by decide +kernel
theorem dX12_rings_39 : decode cX12_rings 39 = .ok (.iload_n 2, 1) := by decide +kernel
theorem dX12_rings_40 : decode cX12_rings 40 = .ok (.iadd, 1) := by decide +kernel
theorem dX12_rings_41 : decode cX12_rings 41 = .ok (.iaload, 1) := by decide +kernel
theorem dX12_rings_42 : decode cX12_rings 42 = .ok (.invokestatic 223, 3) := by decide +kernel
theorem dX12_rings_45 : decode cX12_rings 45 = .ok (.ifCond .eq 29, 3) := by decide +kernel
theorem dX12_rings_48 : decode cX12_rings 48 = .ok (.iload_n 1, 1) := by decide +kernel
theorem dX12_rings_49 : decode cX12_rings 49 = .ok (.iconst 1, 1) := by decide +kernel
theorem dX12_rings_50 : decode cX12_rings 50 = .ok (.aload_n 0, 1) := by decide +kernel
theorem dX12_rings_51 : decode cX12_rings 51 = .ok (.getfield 33, 3) := by decide +kernel
theorem dX12_rings_54 : decode cX12_rings 54 = .ok (.bipush 90, 2) := by decide +kernel
theorem dX12_rings_56 : decode cX12_rings 56 = .ok (.iload_n 2, 1) := by decide +kernel
theorem dX12_rings_57 : decode cX12_rings 57 = .ok (.iadd, 1) := by decide +kernel
theorem dX12_rings_58 : decode cX12_rings 58 = .ok (.iaload, 1) := by decide +kernel
theorem dX12_rings_59 : decode cX12_rings 59 = .ok (.ishl, 1) := by decide +kernel
theorem dX12_rings_60 : decode cX12_rings 60 = .ok (.iconst 1, 1) := by decide +kernel
theorem dX12_rings_61 : decode cX12_rings 61 = .ok (.aload_n 0, 1) := by decide +kernel
theorem dX12_rings_62 : decode cX12_rings 62 = .ok (.getfield 33, 3) := by decide +kernel
theorem dX12_rings_65 : decode cX12_rings 65 = .ok (.bipush 98, 2) := by decide +kernel
theorem dX12_rings_67 : decode cX12_rings 67 = .ok (.iload_n 2, 1) := by decide +kernel
theorem dX12_rings_68 : decode cX12_rings 68 = .ok (.iadd, 1) := by decide +kernel
theorem dX12_rings_69 : decode cX12_rings 69 = .ok (.iaload, 1) := by decide +kernel
theorem dX12_rings_70 : decode cX12_rings 70 = .ok (.ishl, 1) := by decide +kernel
theorem dX12_rings_71 : decode cX12_rings 71 = .ok (.ior, 1) := by decide +kernel
theorem dX12_rings_72 : decode cX12_rings 72 = .ok (.ior, 1) := by decide +kernel
theorem dX12_rings_73 : decode cX12_rings 73 = .ok (.istore_n 1, 1) := by decide +kernel
theorem dX12_rings_74 : decode cX12_rings 74 = .ok (.iinc 2 1, 3) := by decide +kernel
theorem dX12_rings_77 : decode cX12_rings 77 = .ok (.goto (-68), 3) := by decide +kernel
theorem dX12_rings_80 : decode cX12_rings 80 = .ok (.iload_n 1, 1) := by decide +kernel
theorem dX12_rings_81 : decode cX12_rings 81 = .ok (.ireturn, 1) := by decide +kernel
theorem dX12_roots_0 : decode cX12_roots 0 = .ok (.aload_n 0, 1) := by decide +kernel
theorem dX12_roots_1 : decode cX12_roots 1 = .ok (.iconst 0, 1) := by decide +kernel
theorem dX12_roots_2 : decode cX12_roots 2 = .ok (.putfield 1, 3) := by decide +kernel
theorem dX12_roots_5 : decode cX12_roots 5 = .ok (.iconst (-1), 1) := by decide +kernel
theorem dX12_roots_6 : decode cX12_roots 6 = .ok (.istore_n 1, 1) := by decide +kernel
theorem dX12_roots_7 : decode cX12_roots 7 = .ok (.iconst 0, 1) := by decide +kernel
theorem dX12_roots_8 : decode cX12_roots 8 = .ok (.istore_n 2, 1) := by decide +kernel
theorem dX12_roots_9 : decode cX12_roots 9 = .ok (.iload_n 2, 1) := by decide +kernel
theorem dX12_roots_10 : decode cX12_roots 10 = .ok (.iconst 1, 1) := by decide +kernel
theorem dX12_roots_11 : decode cX12_roots 11 = .ok (.aload_n 0, 1) := by decide +kernel
theorem dX12_roots_12 : decode cX12_roots 12 = .ok (.getfield 33, 3) := by decide +kernel
theorem dX12_roots_15 : decode cX12_roots 15 = .ok (.bipush 6, 2) := by decide +kernel
theorem dX12_roots_17 : decode cX12_roots 17 = .ok (.iaload, 1) := by decide +kernel
theorem dX12_roots_18 : decode cX12_roots 18 = .ok (.ishl, 1) := by decide +kernel
theorem dX12_roots_19 : decode cX12_roots 19 = .ok (.if_icmp .ge 86, 3) := by decide +kernel
theorem dX12_roots_22 : decode cX12_roots 22 = .ok (.iconst 0, 1) := by decide +kernel
theorem dX12_roots_23 : decode cX12_roots 23 = .ok (.istore_n 3, 1) := by decide +kernel
theorem dX12_roots_24 : decode cX12_roots 24 = .ok (.iconst 0, 1) := by decide +kernel
theorem dX12_roots_25 : decode cX12_roots 25 = .ok (.istore 4, 2) := by decide +kernel
theorem dX12_roots_27 : decode cX12_roots 27 = .ok (.iload 4, 2) := by decide +kernel
theorem dX12_roots_29 : decode cX12_roots 29 = .ok (.aload_n 0, 1) := by decide +kernel
theorem dX12_roots_30 : decode cX12_roots 30 = .ok (.getfield 33, 3) := by decide +kernel
theorem dX12_roots_33 : decode cX12_roots 33 = .ok (.bipush 6, 2) := by decide +kernel
theorem dX12_roots_35 : decode cX12_roots 35 = .ok (.iaload, 1) := by decide +kernel
theorem dX12_roots_36 : decode cX12_roots 36 = .ok (.if_icmp .ge 31, 3) := by decide +kernel
theorem dX12_roots_39 : decode cX12_roots 39 = .ok (.iload_n 3, 1) := by decide +kernel
theorem dX12_roots_40 : decode cX12_roots 40 = .ok (.iload_n 2, 1) := by decide +kernel
theorem dX12_roots_41 : decode cX12_roots 41 = .ok (.iload 4, 2) := by decide +kernel
theorem dX12_roots_43 : decode cX12_roots 43 = .ok (.invokestatic 223, 3) := by decide +kernel
theorem dX12_roots_46 : decode cX12_roots 46 = .ok (.ifCond .eq 12, 3) := by decide +kernel
theorem dX12_roots_49 : decode cX12_roots 49 = .ok (.aload_n 0, 1) := by decide +kernel
theorem dX12_roots_50 : decode cX12_roots 50 = .ok (.iload 4, 2) := by decide +kernel
theorem dX12_roots_52 : decode cX12_roots 52 = .ok (.invokevirtual 363, 3) := by decide +kernel
theorem dX12_roots_55 : decode cX12_roots 55 = .ok (.goto 4, 3) := by decide +kernel
theorem dX12_roots_58 : decode cX12_roots 58 = .ok (.iconst 0, 1) := by decide +kernel
theorem dX12_roots_59 : decode cX12_roots 59 = .ok (.ior, 1) := by decide +kernel
theorem dX12_roots_60 : decode cX12_roots 60 = .ok (.istore_n 3, 1) := by decide +kernel
theorem dX12_roots_61 : decode cX12_roots 61 = .ok (.iinc 4 1, 3) := by decide +kernel
theorem dX12_roots_64 : decode cX12_roots 64 = .ok (.goto (-37), 3) := by decide +kernel
theorem dX12_roots_67 : decode cX12_roots 67 = .ok (.iload_n 3, 1) := by decide +kernel
theorem dX12_roots_68 : decode cX12_roots 68 = .ok (.iconst 1, 1) := by decide +kernel
theorem dX12_roots_69 : decode cX12_roots 69 = .ok (.aload_n 0, 1) := by decide +kernel
theorem dX12_roots_70 : decode cX12_roots 70 = .ok (.getfield 33, 3) := by decide +kernel
theorem dX12_roots_73 : decode cX12_roots 73 = .ok (.bipush 6, 2) := by decide +kernel
theorem dX12_roots_75 : decode cX12_roots 75 = .ok (.iaload, 1) := by decide +kernel
theorem dX12_roots_76 : decode cX12_roots 76 = .ok (.ishl, 1) := by decide +kernel
theorem dX12_roots_77 : decode cX12_roots 77 = .ok (.iconst 1, 1) := by decide +kernel
theorem dX12_roots_78 : decode cX12_roots 78 = .ok (.isub, 1) := by decide +kernel
theorem dX12_roots_79 : decode cX12_roots 79 = .ok (.if_icmp .ne 20, 3) := by decide +kernel
theorem dX12_roots_82 : decode cX12_roots 82 = .ok (.iload_n 1, 1) := by decide +kernel
theorem dX12_roots_83 : decode cX12_roots 83 = .ok (.ifCond .lt 14, 3) := by decide +kernel
theorem dX12_roots_86 : decode cX12_roots 86 = .ok (.iload_n 2, 1) := by decide +kernel
theorem dX12_roots_87 : decode cX12_roots 87 = .ok (.invokestatic 348, 3) := by decide +kernel
theorem dX12_roots_90 : decode cX12_roots 90 = .ok (.iload_n 1, 1) := by decide +kernel
theorem dX12_roots_91 : decode cX12_roots 91 = .ok (.invokestatic 348, 3) := by decide +kernel
theorem dX12_roots_94 : decode cX12_roots 94 = .ok (.if_icmp .ge 5, 3) := by decide +kernel
theorem dX12_roots_97 : decode cX12_roots 97 = .ok (.iload_n 2, 1) := by decide +kernel
theorem dX12_roots_98 : decode cX12_roots 98 = .ok (.istore_n 1, 1) := by decide +kernel
theorem dX12_roots_99 : decode cX12_roots 99 = .ok (.iinc 2 1, 3) := by decide +kernel
theorem dX12_roots_102 : decode cX12_roots 102 = .ok (.goto (-93), 3) := by decide +kernel
theorem dX12_roots_105 : decode cX12_roots 105 = .ok (.iload_n 1, 1) := by decide +kernel
theorem dX12_roots_106 : decode cX12_roots 106 = .ok (.ireturn, 1) := by decide +kernel
theorem dX12_spreads_0 : decode cX12_spreads 0 = .ok (.aload_n 0, 1) := by decide +kernel
theorem dX12_spreads_1 : decode cX12_spreads 1 = .ok (.getfield 33, 3) := by decide +kernel
theorem dX12_spreads_4 : decode cX12_spreads 4 = .ok (.bipush 124, 2) := by decide +kernel
theorem dX12_spreads_6 : decode cX12_spreads 6 = .ok (.iload_n 1, 1) := by decide +kernel
theorem dX12_spreads_7 : decode cX12_spreads 7 = .ok (.iadd, 1) := by decide +kernel
theorem dX12_spreads_8 : decode cX12_spreads 8 = .ok (.iaload, 1) := by decide +kernel
theorem dX12_spreads_9 : decode cX12_spreads 9 = .ok (.iconst 1, 1) := by decide +kernel
theorem dX12_spreads_10 : decode cX12_spreads 10 = .ok (.isub, 1) := by decide +kernel
theorem dX12_spreads_11 : decode cX12_spreads 11 = .ok (.istore_n 2, 1) := by decide +kernel
theorem dX12_spreads_12 : decode cX12_spreads 12 = .ok (.iconst 0, 1) := by decide +kernel
theorem dX12_spreads_13 : decode cX12_spreads 13 = .ok (.istore_n 3, 1) := by decide +kernel
theorem dX12_spreads_14 : decode cX12_spreads 14 = .ok (.iload_n 3, 1) := by decide +kernel
theorem dX12_spreads_15 : decode cX12_spreads 15 = .ok (.aload_n 0, 1) := by decide +kernel
theorem dX12_spreads_16 : decode cX12_spreads 16 = .ok (.getfield 33, 3) := by decide +kernel
theorem dX12_spreads_19 : decode cX12_spreads 19 = .ok (.iconst 3, 1) := by decide +kernel
theorem dX12_spreads_20 : decode cX12_spreads 20 = .ok (.iaload, 1) := by decide +kernel
theorem dX12_spreads_21 : decode cX12_spreads 21 = .ok (.if_icmp .ge 48, 3) := by decide +kernel
theorem dX12_spreads_24 : decode cX12_spreads 24 = .ok (.aload_n 0, 1) := by decide +kernel
theorem dX12_spreads_25 : decode cX12_spreads 25 = .ok (.getfield 69, 3) := by decide +kernel
theorem dX12_spreads_28 : decode cX12_spreads 28 = .ok (.iload_n 3, 1) := by decide +kernel
theorem dX12_spreads_29 : decode cX12_spreads 29 = .ok (.iload_n 2, 1) := by decide +kernel
theorem dX12_spreads_30 : decode cX12_spreads 30 = .ok (.ifCond .lt 29, 3) := by decide +kernel
theorem dX12_spreads_33 : decode cX12_spreads 33 = .ok (.aload_n 0, 1) := by decide +kernel
theorem dX12_spreads_34 : decode cX12_spreads 34 = .ok (.getfield 33, 3) := by decide +kernel
theorem dX12_spreads_37 : decode cX12_spreads 37 = .ok (.bipush 16, 2) := by decide +kernel
theorem dX12_spreads_39 : decode cX12_spreads 39 = .ok (.iload_n 3, 1) := by decide +kernel
theorem dX12_spreads_40 : decode cX12_spreads 40 = .ok (.iadd, 1) := by decide +kernel
theorem dX12_spreads_41 : decode cX12_spreads 41 = .ok (.iaload, 1) := by decide +kernel
theorem dX12_spreads_42 : decode cX12_spreads 42 = .ok (.aload_n 0, 1) := by decide +kernel
theorem dX12_spreads_43 : decode cX12_spreads 43 = .ok (.getfield 33, 3) := by decide +kernel
theorem dX12_spreads_46 : decode cX12_spreads 46 = .ok (.sipush 140, 3) := by decide +kernel
theorem dX12_spreads_49 : decode cX12_spreads 49 = .ok (.iload_n 1, 1) := by decide +kernel
theorem dX12_spreads_50 : decode cX12_spreads 50 = .ok (.iadd, 1) := by decide +kernel
theorem dX12_spreads_51 : decode cX12_spreads 51 = .ok (.iaload, 1) := by decide +kernel
theorem dX12_spreads_52 : decode cX12_spreads 52 = .ok (.if_icmp .ne 7, 3) := by decide +kernel
theorem dX12_spreads_55 : decode cX12_spreads 55 = .ok (.iload_n 2, 1) := by decide +kernel
theorem dX12_spreads_56 : decode cX12_spreads 56 = .ok (.goto 6, 3) := by decide +kernel
theorem dX12_spreads_59 : decode cX12_spreads 59 = .ok (.sipush 1000, 3) := by decide +kernel
theorem dX12_spreads_62 : decode cX12_spreads 62 = .ok (.iastore, 1) := by decide +kernel
theorem dX12_spreads_63 : decode cX12_spreads 63 = .ok (.iinc 3 1, 3) := by decide +kernel
theorem dX12_spreads_66 : decode cX12_spreads 66 = .ok (.goto (-52), 3) := by decide +kernel
theorem dX12_spreads_69 : decode cX12_spreads 69 = .ok (.iconst 0, 1) := by decide +kernel
theorem dX12_spreads_70 : decode cX12_spreads 70 = .ok (.istore_n 3, 1) := by decide +kernel
theorem dX12_spreads_71 : decode cX12_spreads 71 = .ok (.iload_n 3, 1) := by decide +kernel
theorem dX12_spreads_72 : decode cX12_spreads 72 = .ok (.bipush 6, 2) := by decide +kernel
theorem dX12_spreads_74 : decode cX12_spreads 74 = .ok (.if_icmp .ge 166, 3) := by decide +kernel
theorem dX12_spreads_77 : decode cX12_spreads 77 = .ok (.iconst 0, 1) := by decide +kernel
theorem dX12_spreads_78 : decode cX12_spreads 78 = .ok (.istore 4, 2) := by decide +kernel
theorem dX12_spreads_80 : decode cX12_spreads 80 = .ok (.iload 4, 2) := by decide +kernel
theorem dX12_spreads_82 : decode cX12_spreads 82 = .ok (.aload_n 0, 1) := by decide +kernel
theorem dX12_spreads_83 : decode cX12_spreads 83 = .ok (.getfield 33, 3) := by decide +kernel
theorem dX12_spreads_86 : decode cX12_spreads 86 = .ok (.iconst 3, 1) := by decide +kernel
theorem dX12_spreads_87 : decode cX12_spreads 87 = .ok (.iaload, 1) := by decide +kernel
theorem dX12_spreads_88 : decode cX12_spreads 88 = .ok (.if_icmp .ge 146, 3) := by decide +kernel
theorem dX12_spreads_91 : decode cX12_spreads 91 = .ok (.iconst 0, 1) := by decide +kernel
theorem dX12_spreads_92 : decode cX12_spreads 92 = .ok (.istore 5, 2) := by decide +kernel
theorem dX12_spreads_94 : decode cX12_spreads 94 = .ok (.iload 5, 2) := by decide +kernel
theorem dX12_spreads_96 : decode cX12_spreads 96 = .ok (.aload_n 0, 1) := by decide +kernel
theorem dX12_spreads_97 : decode cX12_spreads 97 = .ok (.getfield 33, 3) := by decide +kernel
theorem dX12_spreads_100 : decode cX12_spreads 100 = .ok (.iconst 3, 1) := by decide +kernel
theorem dX12_spreads_101 : decode cX12_spreads 101 = .ok (.iaload, 1) := by decide +kernel
theorem dX12_spreads_102 : decode cX12_spreads 102 = .ok (.if_icmp .ge 126, 3) := by decide +kernel
theorem dX12_spreads_105 : decode cX12_spreads 105 = .ok (.aload_n 0, 1) := by decide +kernel
theorem dX12_spreads_106 : decode cX12_spreads 106 = .ok (.getfield 33, 3) := by decide +kernel
theorem dX12_spreads_109 : decode cX12_spreads 109 = .ok (.bipush 16, 2) := by decide +kernel
theorem dX12_spreads_111 : decode cX12_spreads 111 = .ok (.iload 4, 2) := by decide +kernel
theorem dX12_spreads_113 : decode cX12_spreads 113 = .ok (.iadd, 1) := by decide +kernel
theorem dX12_spreads_114 : decode cX12_spreads 114 = .ok (.iaload, 1) := by decide +kernel
theorem dX12_spreads_115 : decode cX12_spreads 115 = .ok (.aload_n 0, 1) := by decide +kernel
theorem dX12_spreads_116 : decode cX12_spreads 116 = .ok (.getfield 33, 3) := by decide +kernel
theorem dX12_spreads_119 : decode cX12_spreads 119 = .ok (.bipush 16, 2) := by decide +kernel
theorem dX12_spreads_121 : decode cX12_spreads 121 = .ok (.iload 5, 2) := by decide +kernel
theorem dX12_spreads_123 : decode cX12_spreads 123 = .ok (.iadd, 1) := by decide +kernel
theorem dX12_spreads_124 : decode cX12_spreads 124 = .ok (.iaload, 1) := by decide +kernel
theorem dX12_spreads_125 : decode cX12_spreads 125 = .ok (.if_icmp .eq 37, 3) := by decide +kernel
theorem dX12_spreads_128 : decode cX12_spreads 128 = .ok (.aload_n 0, 1) := by decide +kernel
theorem dX12_spreads_129 : decode cX12_spreads 129 = .ok (.getfield 33, 3) := by decide +kernel
theorem dX12_spreads_132 : decode cX12_spreads 132 = .ok (.bipush 8, 2) := by decide +kernel
theorem dX12_spreads_134 : decode cX12_spreads 134 = .ok (.aload_n 0, 1) := by decide +kernel
theorem dX12_spreads_135 : decode cX12_spreads 135 = .ok (.getfield 33, 3) := by decide +kernel
theorem dX12_spreads_138 : decode cX12_spreads 138 = .ok (.bipush 16, 2) := by decide +kernel
theorem dX12_spreads_140 : decode cX12_spreads 140 = .ok (.iload 4, 2) := by decide +kernel
theorem dX12_spreads_142 : decode cX12_spreads 142 = .ok (.iadd, 1) := by decide +kernel
theorem dX12_spreads_143 : decode cX12_spreads 143 = .ok (.iaload, 1) := by decide +kernel
theorem dX12_spreads_144 : decode cX12_spreads 144 = .ok (.iadd, 1) := by decide +kernel
theorem dX12_spreads_145 : decode cX12_spreads 145 = .ok (.iaload, 1) := by decide +kernel
theorem dX12_spreads_146 : decode cX12_spreads 146 = .ok (.aload_n 0, 1) := by decide +kernel
theorem dX12_spreads_147 : decode cX12_spreads 147 = .ok (.getfield 33, 3) := by decide +kernel
theorem dX12_spreads_150 : decode cX12_spreads 150 = .ok (.bipush 16, 2) := by decide +kernel
theorem dX12_spreads_152 : decode cX12_spreads 152 = .ok (.iload 5, 2) := by decide +kernel
theorem dX12_spreads_154 : decode cX12_spreads 154 = .ok (.iadd, 1) := by decide +kernel
theorem dX12_spreads_155 : decode cX12_spreads 155 = .ok (.iaload, 1) := by decide +kernel
theorem dX12_spreads_156 : decode cX12_spreads 156 = .ok (.invokestatic 223, 3) := by decide +kernel
theorem dX12_spreads_159 : decode cX12_spreads 159 = .ok (.ifCond .eq 7, 3) := by decide +kernel
theorem dX12_spreads_162 : decode cX12_spreads 162 = .ok (.iconst 1, 1) := by decide +kernel
theorem dX12_spreads_163 : decode cX12_spreads 163 = .ok (.goto 4, 3) := by decide +kernel
theorem dX12_spreads_166 : decode cX12_spreads 166 = .ok (.iconst 0, 1) := by decide +kernel
theorem dX12_spreads_167 : decode cX12_spreads 167 = .ok (.istore 6, 2) := by decide +kernel
theorem dX12_spreads_169 : decode cX12_spreads 169 = .ok (.iload 6, 2) := by decide +kernel
theorem dX12_spreads_171 : decode cX12_spreads 171 = .ok (.ifCond .eq 51, 3) := by decide +kernel
theorem dX12_spreads_174 : decode cX12_spreads 174 = .ok (.aload_n 0, 1) := by decide +kernel
theorem dX12_spreads_175 : decode cX12_spreads 175 = .ok (.getfield 69, 3) := by decide +kernel
theorem dX12_spreads_178 : decode cX12_spreads 178 = .ok (.iload 5, 2) := by decide +kernel
theorem dX12_spreads_180 : decode cX12_spreads 180 = .ok (.iaload, 1) := by decide +kernel
theorem dX12_spreads_181 : decode cX12_spreads 181 = .ok (.sipush 1000, 3) := by decide +kernel
theorem dX12_spreads_184 : decode cX12_spreads 184 = .ok (.if_icmp .ge 38, 3) := by decide +kernel
theorem dX12_spreads_187 : decode cX12_spreads 187 = .ok (.aload_n 0, 1) := by decide +kernel
theorem dX12_spreads_188 : decode cX12_spreads 188 = .ok (.getfield 69, 3) := by decide +kernel
theorem dX12_spreads_191 : decode cX12_spreads 191 = .ok (.iload 5, 2) := by decide +kernel
theorem dX12_spreads_193 : decode cX12_spreads 193 = .ok (.iaload, 1) := by decide +kernel
theorem dX12_spreads_194 : decode cX12_spreads 194 = .ok (.iconst 1, 1) := by decide +kernel
theorem dX12_spreads_195 : decode cX12_spreads 195 = .ok (.iadd, 1) := by decide +kernel
theorem dX12_spreads_196 : decode cX12_spreads 196 = .ok (.aload_n 0, 1) := by decide +kernel
theorem dX12_spreads_197 : decode cX12_spreads 197 = .ok (.getfield 69, 3) := by decide +kernel
theorem dX12_spreads_200 : decode cX12_spreads 200 = .ok (.iload 4, 2) := by decide +kernel
theorem dX12_spreads_202 : decode cX12_spreads 202 = .ok (.iaload, 1) := by decide +kernel
theorem dX12_spreads_203 : decode cX12_spreads 203 = .ok (.if_icmp .ge 19, 3) := by decide +kernel
theorem dX12_spreads_206 : decode cX12_spreads 206 = .ok (.aload_n 0, 1) := by decide +kernel
theorem dX12_spreads_207 : decode cX12_spreads 207 = .ok (.getfield 69, 3) := by decide +kernel
theorem dX12_spreads_210 : decode cX12_spreads 210 = .ok (.iload 4, 2) := by decide +kernel
theorem dX12_spreads_212 : decode cX12_spreads 212 = .ok (.aload_n 0, 1) := by decide +kernel
theorem dX12_spreads_213 : decode cX12_spreads 213 = .ok (.getfield 69, 3) := by decide +kernel
theorem dX12_spreads_216 : decode cX12_spreads 216 = .ok (.iload 5, 2) := by decide +kernel
theorem dX12_spreads_218 : decode cX12_spreads 218 = .ok (.iaload, 1) := by decide +kernel
theorem dX12_spreads_219 : decode cX12_spreads 219 = .ok (.iconst 1, 1) := by decide +kernel
theorem dX12_spreads_220 : decode cX12_spreads 220 = .ok (.iadd, 1) := by decide +kernel
theorem dX12_spreads_221 : decode cX12_spreads 221 = .ok (.iastore, 1) := by decide +kernel
theorem dX12_spreads_222 : decode cX12_spreads 222 = .ok (.iinc 5 1, 3) := by decide +kernel
theorem dX12_spreads_225 : decode cX12_spreads 225 = .ok (.goto (-131), 3) := by decide +kernel
theorem dX12_spreads_228 : decode cX12_spreads 228 = .ok (.iinc 4 1, 3) := by decide +kernel
theorem dX12_spreads_231 : decode cX12_spreads 231 = .ok (.goto (-151), 3) := by decide +kernel
theorem dX12_spreads_234 : decode cX12_spreads 234 = .ok (.iinc 3 1, 3) := by decide +kernel
theorem dX12_spreads_237 : decode cX12_spreads 237 = .ok (.goto (-166), 3) := by decide +kernel
theorem dX12_spreads_240 : decode cX12_spreads 240 = .ok (.return_, 1) := by decide +kernel
theorem dX12_knows_0 : decode cX12_knows 0 = .ok (.aload_n 0, 1) := by decide +kernel
theorem dX12_knows_1 : decode cX12_knows 1 = .ok (.iconst 0, 1) := by decide +kernel
theorem dX12_knows_2 : decode cX12_knows 2 = .ok (.putfield 1, 3) := by decide +kernel
theorem dX12_knows_5 : decode cX12_knows 5 = .ok (.iload_n 1, 1) := by decide +kernel
theorem dX12_knows_6 : decode cX12_knows 6 = .ok (.iconst 0, 1) := by decide +kernel
theorem dX12_knows_7 : decode cX12_knows 7 = .ok (.aload_n 0, 1) := by decide +kernel
theorem dX12_knows_8 : decode cX12_knows 8 = .ok (.getfield 33, 3) := by decide +kernel
theorem dX12_knows_11 : decode cX12_knows 11 = .ok (.iconst 3, 1) := by decide +kernel
theorem dX12_knows_12 : decode cX12_knows 12 = .ok (.iaload, 1) := by decide +kernel
theorem dX12_knows_13 : decode cX12_knows 13 = .ok (.iconst 1, 1) := by decide +kernel
theorem dX12_knows_14 : decode cX12_knows 14 = .ok (.isub, 1) := by decide +kernel
theorem dX12_knows_15 : decode cX12_knows 15 = .ok (.invokestatic 187, 3) := by decide +kernel
theorem dX12_knows_18 : decode cX12_knows 18 = .ok (.ifCond .eq 11, 3) := by decide +kernel
theorem dX12_knows_21 : decode cX12_knows 21 = .ok (.aload_n 0, 1) := by decide +kernel
theorem dX12_knows_22 : decode cX12_knows 22 = .ok (.iload_n 2, 1) := by decide +kernel
theorem dX12_knows_23 : decode cX12_knows 23 = .ok (.invokevirtual 244, 3) := by decide +kernel
theorem dX12_knows_26 : decode cX12_knows 26 = .ok (.ifCond .ne 5, 3) := by decide +kernel
theorem dX12_knows_29 : decode cX12_knows 29 = .ok (.iconst (-1), 1) := by decide +kernel
theorem dX12_knows_30 : decode cX12_knows 30 = .ok (.ireturn, 1) := by decide +kernel
theorem dX12_knows_31 : decode cX12_knows 31 = .ok (.aload_n 0, 1) := by decide +kernel
theorem dX12_knows_32 : decode cX12_knows 32 = .ok (.iload_n 2, 1) := by decide +kernel
theorem dX12_knows_33 : decode cX12_knows 33 = .ok (.invokevirtual 366, 3) := by decide +kernel
theorem dX12_knows_36 : decode cX12_knows 36 = .ok (.aload_n 0, 1) := by decide +kernel
theorem dX12_knows_37 : decode cX12_knows 37 = .ok (.getfield 69, 3) := by decide +kernel
theorem dX12_knows_40 : decode cX12_knows 40 = .ok (.iload_n 1, 1) := by decide +kernel
theorem dX12_knows_41 : decode cX12_knows 41 = .ok (.iaload, 1) := by decide +kernel
theorem dX12_knows_42 : decode cX12_knows 42 = .ok (.sipush 1000, 3) := by decide +kernel
theorem dX12_knows_45 : decode cX12_knows 45 = .ok (.if_icmp .ge 12, 3) := by decide +kernel
theorem dX12_knows_48 : decode cX12_knows 48 = .ok (.aload_n 0, 1) := by decide +kernel
theorem dX12_knows_49 : decode cX12_knows 49 = .ok (.getfield 69, 3) := by decide +kernel
theorem dX12_knows_52 : decode cX12_knows 52 = .ok (.iload_n 1, 1) := by decide +kernel
theorem dX12_knows_53 : decode cX12_knows 53 = .ok (.iaload, 1) := by decide +kernel
theorem dX12_knows_54 : decode cX12_knows 54 = .ok (.goto 4, 3) := by decide +kernel
theorem dX12_knows_57 : decode cX12_knows 57 = .ok (.iconst (-1), 1) := by decide +kernel
theorem dX12_knows_58 : decode cX12_knows 58 = .ok (.ireturn, 1) := by decide +kernel
theorem dX12_heard_0 : decode cX12_heard 0 = .ok (.aload_n 0, 1) := by decide +kernel
theorem dX12_heard_1 : decode cX12_heard 1 = .ok (.iconst 0, 1) := by decide +kernel
theorem dX12_heard_2 : decode cX12_heard 2 = .ok (.putfield 1, 3) := by decide +kernel
theorem dX12_heard_5 : decode cX12_heard 5 = .ok (.aload_n 0, 1) := by decide +kernel
theorem dX12_heard_6 : decode cX12_heard 6 = .ok (.iload_n 1, 1) := by decide +kernel
theorem dX12_heard_7 : decode cX12_heard 7 = .ok (.invokevirtual 244, 3) := by decide +kernel
theorem dX12_heard_10 : decode cX12_heard 10 = .ok (.ifCond .ne 5, 3) := by decide +kernel
theorem dX12_heard_13 : decode cX12_heard 13 = .ok (.iconst (-1), 1) := by decide +kernel
theorem dX12_heard_14 : decode cX12_heard 14 = .ok (.ireturn, 1) := by decide +kernel
theorem dX12_heard_15 : decode cX12_heard 15 = .ok (.aload_n 0, 1) := by decide +kernel
theorem dX12_heard_16 : decode cX12_heard 16 = .ok (.iload_n 1, 1) := by decide +kernel
theorem dX12_heard_17 : decode cX12_heard 17 = .ok (.invokevirtual 366, 3) := by decide +kernel
theorem dX12_heard_20 : decode cX12_heard 20 = .ok (.iconst 0, 1) := by decide +kernel
theorem dX12_heard_21 : decode cX12_heard 21 = .ok (.istore_n 2, 1) := by decide +kernel
theorem dX12_heard_22 : decode cX12_heard 22 = .ok (.iconst 0, 1) := by decide +kernel
theorem dX12_heard_23 : decode cX12_heard 23 = .ok (.istore_n 3, 1) := by decide +kernel
theorem dX12_heard_24 : decode cX12_heard 24 = .ok (.iload_n 3, 1) := by decide +kernel
theorem dX12_heard_25 : decode cX12_heard 25 = .ok (.aload_n 0, 1) := by decide +kernel
theorem dX12_heard_26 : decode cX12_heard 26 = .ok (.getfield 33, 3) := by decide +kernel
theorem dX12_heard_29 : decode cX12_heard 29 = .ok (.iconst 3, 1) := by decide +kernel
theorem dX12_heard_30 : decode cX12_heard 30 = .ok (.iaload, 1) := by decide +kernel
theorem dX12_heard_31 : decode cX12_heard 31 = .ok (.if_icmp .ge 35, 3) := by decide +kernel
theorem dX12_heard_34 : decode cX12_heard 34 = .ok (.iload_n 2, 1) := by decide +kernel
theorem dX12_heard_35 : decode cX12_heard 35 = .ok (.aload_n 0, 1) := by decide +kernel
theorem dX12_heard_36 : decode cX12_heard 36 = .ok (.getfield 69, 3) := by decide +kernel
theorem dX12_heard_39 : decode cX12_heard 39 = .ok (.iload_n 3, 1) := by decide +kernel
theorem dX12_heard_40 : decode cX12_heard 40 = .ok (.iaload, 1) := by decide +kernel
theorem dX12_heard_41 : decode cX12_heard 41 = .ok (.aload_n 0, 1) := by decide +kernel
theorem dX12_heard_42 : decode cX12_heard 42 = .ok (.getfield 33, 3) := by decide +kernel
theorem dX12_heard_45 : decode cX12_heard 45 = .ok (.bipush 106, 2) := by decide +kernel
theorem dX12_heard_47 : decode cX12_heard 47 = .ok (.iaload, 1) := by decide +kernel
theorem dX12_heard_48 : decode cX12_heard 48 = .ok (.if_icmp .gt 9, 3) := by decide +kernel
theorem dX12_heard_51 : decode cX12_heard 51 = .ok (.iconst 1, 1) := by decide +kernel
theorem dX12_heard_52 : decode cX12_heard 52 = .ok (.iload_n 3, 1) := by decide +kernel
theorem dX12_heard_53 : decode cX12_heard 53 = .ok (.ishl, 1) := by decide +kernel
theorem dX12_heard_54 : decode cX12_heard 54 = .ok (.goto 4, 3) := by decide +kernel
theorem dX12_heard_57 : decode cX12_heard 57 = .ok (.iconst 0, 1) := by decide +kernel
theorem dX12_heard_58 : decode cX12_heard 58 = .ok (.ior, 1) := by decide +kernel
theorem dX12_heard_59 : decode cX12_heard 59 = .ok (.istore_n 2, 1) := by decide +kernel
theorem dX12_heard_60 : decode cX12_heard 60 = .ok (.iinc 3 1, 3) := by decide +kernel
theorem dX12_heard_63 : decode cX12_heard 63 = .ok (.goto (-39), 3) := by decide +kernel
theorem dX12_heard_66 : decode cX12_heard 66 = .ok (.iload_n 2, 1) := by decide +kernel
theorem dX12_heard_67 : decode cX12_heard 67 = .ok (.ireturn, 1) := by decide +kernel
theorem dX12_dry_0 : decode cX12_dry 0 = .ok (.aload_n 0, 1) := by decide +kernel
theorem dX12_dry_1 : decode cX12_dry 1 = .ok (.iconst 0, 1) := by decide +kernel
theorem dX12_dry_2 : decode cX12_dry 2 = .ok (.putfield 1, 3) := by decide +kernel
theorem dX12_dry_5 : decode cX12_dry 5 = .ok (.iconst 1, 1) := by decide +kernel
theorem dX12_dry_6 : decode cX12_dry 6 = .ok (.aload_n 0, 1) := by decide +kernel
theorem dX12_dry_7 : decode cX12_dry 7 = .ok (.getfield 33, 3) := by decide +kernel
theorem dX12_dry_10 : decode cX12_dry 10 = .ok (.iconst 1, 1) := by decide +kernel
theorem dX12_dry_11 : decode cX12_dry 11 = .ok (.iaload, 1) := by decide +kernel
theorem dX12_dry_12 : decode cX12_dry 12 = .ok (.ishl, 1) := by decide +kernel
theorem dX12_dry_13 : decode cX12_dry 13 = .ok (.iconst 1, 1) := by decide +kernel
theorem dX12_dry_14 : decode cX12_dry 14 = .ok (.isub, 1) := by decide +kernel
theorem dX12_dry_15 : decode cX12_dry 15 = .ok (.istore_n 1, 1) := by decide +kernel
theorem dX12_dry_16 : decode cX12_dry 16 = .ok (.iconst 0, 1) := by decide +kernel
theorem dX12_dry_17 : decode cX12_dry 17 = .ok (.istore_n 2, 1) := by decide +kernel
theorem dX12_dry_18 : decode cX12_dry 18 = .ok (.iload_n 2, 1) := by decide +kernel
theorem dX12_dry_19 : decode cX12_dry 19 = .ok (.aload_n 0, 1) := by decide +kernel
theorem dX12_dry_20 : decode cX12_dry 20 = .ok (.getfield 33, 3) := by decide +kernel
theorem dX12_dry_23 : decode cX12_dry 23 = .ok (.iconst 3, 1) := by decide +kernel
theorem dX12_dry_24 : decode cX12_dry 24 = .ok (.iaload, 1) := by decide +kernel
theorem dX12_dry_25 : decode cX12_dry 25 = .ok (.if_icmp .ge 25, 3) := by decide +kernel
theorem dX12_dry_28 : decode cX12_dry 28 = .ok (.iload_n 1, 1) := by decide +kernel
theorem dX12_dry_29 : decode cX12_dry 29 = .ok (.iconst 1, 1) := by decide +kernel
theorem dX12_dry_30 : decode cX12_dry 30 = .ok (.aload_n 0, 1) := by decide +kernel
theorem dX12_dry_31 : decode cX12_dry 31 = .ok (.getfield 33, 3) := by decide +kernel
theorem dX12_dry_34 : decode cX12_dry 34 = .ok (.bipush 16, 2) := by decide +kernel
theorem dX12_dry_36 : decode cX12_dry 36 = .ok (.iload_n 2, 1) := by decide +kernel
theorem dX12_dry_37 : decode cX12_dry 37 = .ok (.iadd, 1) := by decide +kernel
theorem dX12_dry_38 : decode cX12_dry 38 = .ok (.iaload, 1) := by decide +kernel
theorem dX12_dry_39 : decode cX12_dry 39 = .ok (.ishl, 1) := by decide +kernel
theorem dX12_dry_40 : decode cX12_dry 40 = .ok (.iconst (-1), 1) := by decide +kernel
theorem dX12_dry_41 : decode cX12_dry 41 = .ok (.ixor, 1) := by decide +kernel
theorem dX12_dry_42 : decode cX12_dry 42 = .ok (.iand, 1) := by decide +kernel
theorem dX12_dry_43 : decode cX12_dry 43 = .ok (.istore_n 1, 1) := by decide +kernel
theorem dX12_dry_44 : decode cX12_dry 44 = .ok (.iinc 2 1, 3) := by decide +kernel
theorem dX12_dry_47 : decode cX12_dry 47 = .ok (.goto (-29), 3) := by decide +kernel
theorem dX12_dry_50 : decode cX12_dry 50 = .ok (.iload_n 1, 1) := by decide +kernel
theorem dX12_dry_51 : decode cX12_dry 51 = .ok (.ireturn, 1) := by decide +kernel
theorem dX12_fits_0 : decode cX12_fits 0 = .ok (.iconst 0, 1) := by decide +kernel
theorem dX12_fits_1 : decode cX12_fits 1 = .ok (.istore 6, 2) := by decide +kernel
theorem dX12_fits_3 : decode cX12_fits 3 = .ok (.iload 6, 2) := by decide +kernel
theorem dX12_fits_5 : decode cX12_fits 5 = .ok (.aload_n 0, 1) := by decide +kernel
theorem dX12_fits_6 : decode cX12_fits 6 = .ok (.invokevirtual 260, 3) := by decide +kernel
theorem dX12_fits_9 : decode cX12_fits 9 = .ok (.if_icmp .ge 128, 3) := by decide +kernel
theorem dX12_fits_12 : decode cX12_fits 12 = .ok (.iconst 0, 1) := by decide +kernel
theorem dX12_fits_13 : decode cX12_fits 13 = .ok (.istore 7, 2) := by decide +kernel
theorem dX12_fits_15 : decode cX12_fits 15 = .ok (.iconst 0, 1) := by decide +kernel
theorem dX12_fits_16 : decode cX12_fits 16 = .ok (.istore 8, 2) := by decide +kernel
theorem dX12_fits_18 : decode cX12_fits 18 = .ok (.iload 8, 2) := by decide +kernel
theorem dX12_fits_20 : decode cX12_fits 20 = .ok (.aload_n 0, 1) := by decide +kernel
theorem dX12_fits_21 : decode cX12_fits 21 = .ok (.getfield 33, 3) := by decide +kernel
theorem dX12_fits_24 : decode cX12_fits 24 = .ok (.bipush 123, 2) := by decide +kernel
theorem dX12_fits_26 : decode cX12_fits 26 = .ok (.iaload, 1) := by decide +kernel
theorem dX12_fits_27 : decode cX12_fits 27 = .ok (.if_icmp .ge 97, 3) := by decide +kernel
theorem dX12_fits_30 : decode cX12_fits 30 = .ok (.sipush 148, 3) := by decide +kernel
theorem dX12_fits_33 : decode cX12_fits 33 = .ok (.iconst 4, 1) := by decide +kernel
theorem dX12_fits_34 : decode cX12_fits 34 = .ok (.iload 8, 2) := by decide +kernel
theorem dX12_fits_36 : decode cX12_fits 36 = .ok (.imul, 1) := by decide +kernel
theorem dX12_fits_37 : decode cX12_fits 37 = .ok (.iadd, 1) := by decide +kernel
theorem dX12_fits_38 : decode cX12_fits 38 = .ok (.istore 9, 2) := by decide +kernel
theorem dX12_fits_40 : decode cX12_fits 40 = .ok (.iload 7, 2) := by decide +kernel
theorem dX12_fits_42 : decode cX12_fits 42 = .ok (.ifCond .ne 69, 3) := by decide +kernel
theorem dX12_fits_45 : decode cX12_fits 45 = .ok (.aload_n 0, 1) := by decide +kernel
theorem dX12_fits_46 : decode cX12_fits 46 = .ok (.getfield 33, 3) := by decide +kernel
theorem dX12_fits_49 : decode cX12_fits 49 = .ok (.iload 9, 2) := by decide +kernel
theorem dX12_fits_51 : decode cX12_fits 51 = .ok (.iconst 1, 1) := by decide +kernel
theorem dX12_fits_52 : decode cX12_fits 52 = .ok (.iadd, 1) := by decide +kernel
theorem dX12_fits_53 : decode cX12_fits 53 = .ok (.iaload, 1) := by decide +kernel
theorem dX12_fits_54 : decode cX12_fits 54 = .ok (.iload_n 1, 1) := by decide +kernel
theorem dX12_fits_55 : decode cX12_fits 55 = .ok (.if_icmp .ne 60, 3) := by decide +kernel
theorem dX12_fits_58 : decode cX12_fits 58 = .ok (.aload_n 0, 1) := by decide +kernel
theorem dX12_fits_59 : decode cX12_fits 59 = .ok (.getfield 33, 3) := by decide +kernel
theorem dX12_fits_62 : decode cX12_fits 62 = .ok (.iload 9, 2) := by decide +kernel
theorem dX12_fits_64 : decode cX12_fits 64 = .ok (.iconst 2, 1) := by decide +kernel
theorem dX12_fits_65 : decode cX12_fits 65 = .ok (.iadd, 1) := by decide +kernel
theorem dX12_fits_66 : decode cX12_fits 66 = .ok (.iaload, 1) := by decide +kernel
theorem dX12_fits_67 : decode cX12_fits 67 = .ok (.iload_n 2, 1) := by decide +kernel
theorem dX12_fits_68 : decode cX12_fits 68 = .ok (.if_icmp .ne 47, 3) := by decide +kernel
theorem dX12_fits_71 : decode cX12_fits 71 = .ok (.aload_n 0, 1) := by decide +kernel
theorem dX12_fits_72 : decode cX12_fits 72 = .ok (.getfield 33, 3) := by decide +kernel
theorem dX12_fits_75 : decode cX12_fits 75 = .ok (.iload 9, 2) := by decide +kernel
theorem dX12_fits_77 : decode cX12_fits 77 = .ok (.iconst 3, 1) := by decide +kernel
theorem dX12_fits_78 : decode cX12_fits 78 = .ok (.iadd, 1) := by decide +kernel
theorem dX12_fits_79 : decode cX12_fits 79 = .ok (.iaload, 1) := by decide +kernel
theorem dX12_fits_80 : decode cX12_fits 80 = .ok (.iload_n 3, 1) := by decide +kernel
theorem dX12_fits_81 : decode cX12_fits 81 = .ok (.if_icmp .ne 34, 3) := by decide +kernel
theorem dX12_fits_84 : decode cX12_fits 84 = .ok (.aload_n 0, 1) := by decide +kernel
theorem dX12_fits_85 : decode cX12_fits 85 = .ok (.getfield 33, 3) := by decide +kernel
theorem dX12_fits_88 : decode cX12_fits 88 = .ok (.iload 9, 2) := by decide +kernel
theorem dX12_fits_90 : decode cX12_fits 90 = .ok (.iaload, 1) := by decide +kernel
theorem dX12_fits_91 : decode cX12_fits 91 = .ok (.iload 6, 2) := by decide +kernel
theorem dX12_fits_93 : decode cX12_fits 93 = .ok (.aload_n 0, 1) := by decide +kernel
theorem dX12_fits_94 : decode cX12_fits 94 = .ok (.getfield 33, 3) := by decide +kernel
theorem dX12_fits_97 : decode cX12_fits 97 = .ok (.iconst 0, 1) := by decide +kernel
theorem dX12_fits_98 : decode cX12_fits 98 = .ok (.iaload, 1) := by decide +kernel
theorem dX12_fits_99 : decode cX12_fits 99 = .ok (.imul, 1) := by decide +kernel
theorem dX12_fits_100 : decode cX12_fits 100 = .ok (.isub, 1) := by decide +kernel
theorem dX12_fits_101 : decode cX12_fits 101 = .ok (.iload 4, 2) := by decide +kernel
theorem dX12_fits_103 : decode cX12_fits 103 = .ok (.iload 5, 2) := by decide +kernel
theorem dX12_fits_105 : decode cX12_fits 105 = .ok (.invokestatic 187, 3) := by decide +kernel
theorem dX12_fits_108 : decode cX12_fits 108 = .ok (.ifCond .eq 7, 3) := by decide +kernel
theorem dX12_fits_111 : decode cX12_fits 111 = .ok (.iconst 1, 1) := by decide +kernel
theorem dX12_fits_112 : decode cX12_fits 112 = .ok (.goto 4, 3) := by decide +kernel
theorem dX12_fits_115 : decode cX12_fits 115 = .ok (.iconst 0, 1) := by decide +kernel
theorem dX12_fits_116 : decode cX12_fits 116 = .ok (.istore 7, 2) := by decide +kernel
theorem dX12_fits_118 : decode cX12_fits 118 = .ok (.iinc 8 1, 3) := by decide +kernel
theorem dX12_fits_121 : decode cX12_fits 121 = .ok (.goto (-103), 3) := by decide +kernel
theorem dX12_fits_124 : decode cX12_fits 124 = .ok (.iload 7, 2) := by decide +kernel
theorem dX12_fits_126 : decode cX12_fits 126 = .ok (.ifCond .ne 5, 3) := by decide +kernel
theorem dX12_fits_129 : decode cX12_fits 129 = .ok (.iconst 0, 1) := by decide +kernel
theorem dX12_fits_130 : decode cX12_fits 130 = .ok (.ireturn, 1) := by decide +kernel
theorem dX12_fits_131 : decode cX12_fits 131 = .ok (.iinc 6 1, 3) := by decide +kernel
theorem dX12_fits_134 : decode cX12_fits 134 = .ok (.goto (-131), 3) := by decide +kernel
theorem dX12_fits_137 : decode cX12_fits 137 = .ok (.iconst 1, 1) := by decide +kernel
theorem dX12_fits_138 : decode cX12_fits 138 = .ok (.ireturn, 1) := by decide +kernel
theorem dX12_looksForWindows_0 : decode cX12_looksForWindows 0 = .ok (.aload_n 0, 1) := by decide +kernel
theorem dX12_looksForWindows_1 : decode cX12_looksForWindows 1 = .ok (.iload_n 1, 1) := by decide +kernel
theorem dX12_looksForWindows_2 : decode cX12_looksForWindows 2 = .ok (.invokevirtual 251, 3) := by decide +kernel
theorem dX12_looksForWindows_5 : decode cX12_looksForWindows 5 = .ok (.ifCond .eq 19, 3) := by decide +kernel
theorem dX12_looksForWindows_8 : decode cX12_looksForWindows 8 = .ok (.aload_n 0, 1) := by decide +kernel
theorem dX12_looksForWindows_9 : decode cX12_looksForWindows 9 = .ok (.iload_n 2, 1) := by decide +kernel
theorem dX12_looksForWindows_10 : decode cX12_looksForWindows 10 = .ok (.invokevirtual 276, 3) := by decide +kernel
theorem dX12_looksForWindows_13 : decode cX12_looksForWindows 13 = .ok (.ifCond .eq 11, 3) := by decide +kernel
theorem dX12_looksForWindows_16 : decode cX12_looksForWindows 16 = .ok (.aload_n 0, 1) := by decide +kernel
theorem dX12_looksForWindows_17 : decode cX12_looksForWindows 17 = .ok (.iload_n 3, 1) := by decide +kernel
theorem dX12_looksForWindows_18 : decode cX12_looksForWindows 18 = .ok (.invokevirtual 254, 3) := by decide +kernel
theorem dX12_looksForWindows_21 : decode cX12_looksForWindows 21 = .ok (.ifCond .ne 5, 3) := by decide +kernel
theorem dX12_looksForWindows_24 : decode cX12_looksForWindows 24 = .ok (.iconst 0, 1) := by decide +kernel
theorem dX12_looksForWindows_25 : decode cX12_looksForWindows 25 = .ok (.ireturn, 1) := by decide +kernel
theorem dX12_looksForWindows_26 : decode cX12_looksForWindows 26 = .ok (.aload_n 0, 1) := by decide +kernel
theorem dX12_looksForWindows_27 : decode cX12_looksForWindows 27 = .ok (.iconst 0, 1) := by decide +kernel
theorem dX12_looksForWindows_28 : decode cX12_looksForWindows 28 = .ok (.putfield 369, 3) := by decide +kernel
theorem dX12_looksForWindows_31 : decode cX12_looksForWindows 31 = .ok (.aload_n 0, 1) := by decide +kernel
theorem dX12_looksForWindows_32 : decode cX12_looksForWindows 32 = .ok (.iconst (-1), 1) := by decide +kernel
theorem dX12_looksForWindows_33 : decode cX12_looksForWindows 33 = .ok (.putfield 372, 3) := by decide +kernel
theorem dX12_looksForWindows_36 : decode cX12_looksForWindows 36 = .ok (.iconst 0, 1) := by decide +kernel
theorem dX12_looksForWindows_37 : decode cX12_looksForWindows 37 = .ok (.istore 4, 2) := by decide +kernel
theorem dX12_looksForWindows_39 : decode cX12_looksForWindows 39 = .ok (.iload 4, 2) := by decide +kernel
theorem dX12_looksForWindows_41 : decode cX12_looksForWindows 41 = .ok (.aload_n 0, 1) := by decide +kernel
theorem dX12_looksForWindows_42 : decode cX12_looksForWindows 42 = .ok (.getfield 33, 3) := by decide +kernel
theorem dX12_looksForWindows_45 : decode cX12_looksForWindows 45 = .ok (.iconst 0, 1) := by decide +kernel
theorem dX12_looksForWindows_46 : decode cX12_looksForWindows 46 = .ok (.iaload, 1) := by decide +kernel
theorem dX12_looksForWindows_47 : decode cX12_looksForWindows 47 = .ok (.if_icmp .ge 84, 3) := by decide +kernel
theorem dX12_looksForWindows_50 : decode cX12_looksForWindows 50 = .ok (.iconst 0, 1) := by decide +kernel
theorem dX12_looksForWindows_51 : decode cX12_looksForWindows 51 = .ok (.istore 5, 2) := by decide +kernel
theorem dX12_looksForWindows_53 : decode cX12_looksForWindows 53 = .ok (.iload 5, 2) := by decide +kernel
theorem dX12_looksForWindows_55 : decode cX12_looksForWindows 55 = .ok (.iload 4, 2) := by decide +kernel
theorem dX12_looksForWindows_57 : decode cX12_looksForWindows 57 = .ok (.iadd, 1) := by decide +kernel
theorem dX12_looksForWindows_58 : decode cX12_looksForWindows 58 = .ok (.aload_n 0, 1) := by decide +kernel
theorem dX12_looksForWindows_59 : decode cX12_looksForWindows 59 = .ok (.getfield 33, 3) := by decide +kernel
theorem dX12_looksForWindows_62 : decode cX12_looksForWindows 62 = .ok (.iconst 0, 1) := by decide +kernel
theorem dX12_looksForWindows_63 : decode cX12_looksForWindows 63 = .ok (.iaload, 1) := by decide +kernel
theorem dX12_looksForWindows_64 : decode cX12_looksForWindows 64 = .ok (.if_icmp .ge 61, 3) := by decide +kernel
theorem dX12_looksForWindows_67 : decode cX12_looksForWindows 67 = .ok (.aload_n 0, 1) := by decide +kernel
theorem dX12_looksForWindows_68 : decode cX12_looksForWindows 68 = .ok (.iload_n 1, 1) := by decide +kernel
theorem dX12_looksForWindows_69 : decode cX12_looksForWindows 69 = .ok (.iload_n 2, 1) := by decide +kernel
theorem dX12_looksForWindows_70 : decode cX12_looksForWindows 70 = .ok (.iload_n 3, 1) := by decide +kernel
theorem dX12_looksForWindows_71 : decode cX12_looksForWindows 71 = .ok (.iload 5, 2) := by decide +kernel
theorem dX12_looksForWindows_73 : decode cX12_looksForWindows 73 = .ok (.iload 5, 2) := by decide +kernel
theorem dX12_looksForWindows_75 : decode cX12_looksForWindows 75 = .ok (.iload 4, 2) := by decide +kernel
theorem dX12_looksForWindows_77 : decode cX12_looksForWindows 77 = .ok (.iadd, 1) := by decide +kernel
theorem dX12_looksForWindows_78 : decode cX12_looksForWindows 78 = .ok (.invokevirtual 375, 3) := by decide +kernel
theorem dX12_looksForWindows_81 : decode cX12_looksForWindows 81 = .ok (.ifCond .ne 6, 3) := by decide +kernel
theorem dX12_looksForWindows_84 : decode cX12_looksForWindows 84 = .ok (.goto 35, 3) := by decide +kernel
theorem dX12_looksForWindows_87 : decode cX12_looksForWindows 87 = .ok (.aload_n 0, 1) := by decide +kernel
theorem dX12_looksForWindows_88 : decode cX12_looksForWindows 88 = .ok (.dup, 1) := by decide +kernel
theorem dX12_looksForWindows_89 : decode cX12_looksForWindows 89 = .ok (.getfield 369, 3) := by decide +kernel
theorem dX12_looksForWindows_92 : decode cX12_looksForWindows 92 = .ok (.iconst 1, 1) := by decide +kernel
theorem dX12_looksForWindows_93 : decode cX12_looksForWindows 93 = .ok (.iadd, 1) := by decide +kernel
theorem dX12_looksForWindows_94 : decode cX12_looksForWindows 94 = .ok (.putfield 369, 3) := by decide +kernel
theorem dX12_looksForWindows_97 : decode cX12_looksForWindows 97 = .ok (.aload_n 0, 1) := by decide +kernel
theorem dX12_looksForWindows_98 : decode cX12_looksForWindows 98 = .ok (.getfield 372, 3) := by decide +kernel
theorem dX12_looksForWindows_101 : decode cX12_looksForWindows 101 = .ok (.ifCond .ge 18, 3) := by decide +kernel
theorem dX12_looksForWindows_104 : decode cX12_looksForWindows 104 = .ok (.aload_n 0, 1) := by decide +kernel
theorem dX12_looksForWindows_105 : decode cX12_looksForWindows 105 = .ok (.bipush 100, 2) := by decide +kernel
theorem dX12_looksForWindows_107 : decode cX12_looksForWindows 107 = .ok (.iload 5, 2) := by decide +kernel
theorem dX12_looksForWindows_109 : decode cX12_looksForWindows 109 = .ok (.imul, 1) := by decide +kernel
theorem dX12_looksForWindows_110 : decode cX12_looksForWindows 110 = .ok (.iload 5, 2) := by decide +kernel
theorem dX12_looksForWindows_112 : decode cX12_looksForWindows 112 = .ok (.iadd, 1) := by decide +kernel
theorem dX12_looksForWindows_113 : decode cX12_looksForWindows 113 = .ok (.iload 4, 2) := by decide +kernel
theorem dX12_looksForWindows_115 : decode cX12_looksForWindows 115 = .ok (.iadd, 1) := by decide +kernel
theorem dX12_looksForWindows_116 : decode cX12_looksForWindows 116 = .ok (.putfield 372, 3) := by decide +kernel
theorem dX12_looksForWindows_119 : decode cX12_looksForWindows 119 = .ok (.iinc 5 1, 3) := by decide +kernel
theorem dX12_looksForWindows_122 : decode cX12_looksForWindows 122 = .ok (.goto (-69), 3) := by decide +kernel
theorem dX12_looksForWindows_125 : decode cX12_looksForWindows 125 = .ok (.iinc 4 1, 3) := by decide +kernel
theorem dX12_looksForWindows_128 : decode cX12_looksForWindows 128 = .ok (.goto (-89), 3) := by decide +kernel
theorem dX12_looksForWindows_131 : decode cX12_looksForWindows 131 = .ok (.iconst 1, 1) := by decide +kernel
theorem dX12_looksForWindows_132 : decode cX12_looksForWindows 132 = .ok (.ireturn, 1) := by decide +kernel
theorem dX12_windows_0 : decode cX12_windows 0 = .ok (.aload_n 0, 1) := by decide +kernel
theorem dX12_windows_1 : decode cX12_windows 1 = .ok (.iconst 0, 1) := by decide +kernel
theorem dX12_windows_2 : decode cX12_windows 2 = .ok (.putfield 1, 3) := by decide +kernel
theorem dX12_windows_5 : decode cX12_windows 5 = .ok (.aload_n 0, 1) := by decide +kernel
theorem dX12_windows_6 : decode cX12_windows 6 = .ok (.iload_n 1, 1) := by decide +kernel
theorem dX12_windows_7 : decode cX12_windows 7 = .ok (.iload_n 2, 1) := by decide +kernel
theorem dX12_windows_8 : decode cX12_windows 8 = .ok (.iload_n 3, 1) := by decide +kernel
theorem dX12_windows_9 : decode cX12_windows 9 = .ok (.invokevirtual 379, 3) := by decide +kernel
theorem dX12_windows_12 : decode cX12_windows 12 = .ok (.ifCond .eq 10, 3) := by decide +kernel
theorem dX12_windows_15 : decode cX12_windows 15 = .ok (.aload_n 0, 1) := by decide +kernel
theorem dX12_windows_16 : decode cX12_windows 16 = .ok (.getfield 369, 3) := by decide +kernel
theorem dX12_windows_19 : decode cX12_windows 19 = .ok (.goto 4, 3) := by decide +kernel
theorem dX12_windows_22 : decode cX12_windows 22 = .ok (.iconst (-1), 1) := by decide +kernel
theorem dX12_windows_23 : decode cX12_windows 23 = .ok (.ireturn, 1) := by decide +kernel
theorem dX12_shortest_0 : decode cX12_shortest 0 = .ok (.aload_n 0, 1) := by decide +kernel
theorem dX12_shortest_1 : decode cX12_shortest 1 = .ok (.iconst 0, 1) := by decide +kernel
theorem dX12_shortest_2 : decode cX12_shortest 2 = .ok (.putfield 1, 3) := by decide +kernel
theorem dX12_shortest_5 : decode cX12_shortest 5 = .ok (.aload_n 0, 1) := by decide +kernel
theorem dX12_shortest_6 : decode cX12_shortest 6 = .ok (.iload_n 1, 1) := by decide +kernel
theorem dX12_shortest_7 : decode cX12_shortest 7 = .ok (.iload_n 2, 1) := by decide +kernel
theorem dX12_shortest_8 : decode cX12_shortest 8 = .ok (.iload_n 3, 1) := by decide +kernel
theorem dX12_shortest_9 : decode cX12_shortest 9 = .ok (.invokevirtual 379, 3) := by decide +kernel
theorem dX12_shortest_12 : decode cX12_shortest 12 = .ok (.ifCond .eq 10, 3) := by decide +kernel
theorem dX12_shortest_15 : decode cX12_shortest 15 = .ok (.aload_n 0, 1) := by decide +kernel
theorem dX12_shortest_16 : decode cX12_shortest 16 = .ok (.getfield 372, 3) := by decide +kernel
theorem dX12_shortest_19 : decode cX12_shortest 19 = .ok (.goto 4, 3) := by decide +kernel
theorem dX12_shortest_22 : decode cX12_shortest 22 = .ok (.iconst (-1), 1) := by decide +kernel
theorem dX12_shortest_23 : decode cX12_shortest 23 = .ok (.ireturn, 1) := by decide +kernel
theorem dX12_draw_0 : decode cX12_draw 0 = .ok (.aload_n 0, 1) := by decide +kernel
theorem dX12_draw_1 : decode cX12_draw 1 = .ok (.aload_n 0, 1) := by decide +kernel
theorem dX12_draw_2 : decode cX12_draw 2 = .ok (.getfield 382, 3) := by decide +kernel
theorem dX12_draw_5 : decode cX12_draw 5 = .ok (.ldc_w 385, 3) := by decide +kernel
theorem dX12_draw_8 : decode cX12_draw 8 = .ok (.imul, 1) := by decide +kernel
theorem dX12_draw_9 : decode cX12_draw 9 = .ok (.sipush 12345, 3) := by decide +kernel
theorem dX12_draw_12 : decode cX12_draw 12 = .ok (.iadd, 1) := by decide +kernel
theorem dX12_draw_13 : decode cX12_draw 13 = .ok (.putfield 382, 3) := by decide +kernel
theorem dX12_draw_16 : decode cX12_draw 16 = .ok (.aload_n 0, 1) := by decide +kernel
theorem dX12_draw_17 : decode cX12_draw 17 = .ok (.getfield 382, 3) := by decide +kernel
theorem dX12_draw_20 : decode cX12_draw 20 = .ok (.bipush 8, 2) := by decide +kernel
theorem dX12_draw_22 : decode cX12_draw 22 = .ok (.iushr, 1) := by decide +kernel
theorem dX12_draw_23 : decode cX12_draw 23 = .ok (.iload_n 1, 1) := by decide +kernel
theorem dX12_draw_24 : decode cX12_draw 24 = .ok (.irem, 1) := by decide +kernel
theorem dX12_draw_25 : decode cX12_draw 25 = .ok (.ireturn, 1) := by decide +kernel
theorem dX12_draws_0 : decode cX12_draws 0 = .ok (.aload_n 0, 1) := by decide +kernel
theorem dX12_draws_1 : decode cX12_draws 1 = .ok (.iload_n 2, 1) := by decide +kernel
theorem dX12_draws_2 : decode cX12_draws 2 = .ok (.putfield 382, 3) := by decide +kernel
theorem dX12_draws_5 : decode cX12_draws 5 = .ok (.iconst 0, 1) := by decide +kernel
theorem dX12_draws_6 : decode cX12_draws 6 = .ok (.istore_n 3, 1) := by decide +kernel
theorem dX12_draws_7 : decode cX12_draws 7 = .ok (.iload_n 3, 1) := by decide +kernel
theorem dX12_draws_8 : decode cX12_draws 8 = .ok (.iload_n 1, 1) := by decide +kernel
theorem dX12_draws_9 : decode cX12_draws 9 = .ok (.if_icmp .ge 181, 3) := by decide +kernel
theorem dX12_draws_12 : decode cX12_draws 12 = .ok (.aload_n 0, 1) := by decide +kernel
theorem dX12_draws_13 : decode cX12_draws 13 = .ok (.invokevirtual 263, 3) := by decide +kernel
theorem dX12_draws_16 : decode cX12_draws 16 = .ok (.ifCond .ne 174, 3) := by decide +kernel
theorem dX12_draws_19 : decode cX12_draws 19 = .ok (.iconst 0, 1) := by decide +kernel
theorem dX12_draws_20 : decode cX12_draws 20 = .ok (.istore 4, 2) := by decide +kernel
theorem dX12_draws_22 : decode cX12_draws 22 = .ok (.iload 4, 2) := by decide +kernel
theorem dX12_draws_24 : decode cX12_draws 24 = .ok (.aload_n 0, 1) := by decide +kernel
theorem dX12_draws_25 : decode cX12_draws 25 = .ok (.getfield 33, 3) := by decide +kernel
theorem dX12_draws_28 : decode cX12_draws 28 = .ok (.iconst 4, 1) := by decide +kernel
theorem dX12_draws_29 : decode cX12_draws 29 = .ok (.iaload, 1) := by decide +kernel
theorem dX12_draws_30 : decode cX12_draws 30 = .ok (.if_icmp .ge 150, 3) := by decide +kernel
theorem dX12_draws_33 : decode cX12_draws 33 = .ok (.aload_n 0, 1) := by decide +kernel
theorem dX12_draws_34 : decode cX12_draws 34 = .ok (.iconst 3, 1) := by decide +kernel
theorem dX12_draws_35 : decode cX12_draws 35 = .ok (.invokevirtual 386, 3) := by decide +kernel
theorem dX12_draws_38 : decode cX12_draws 38 = .ok (.istore 5, 2) := by decide +kernel
theorem dX12_draws_40 : decode cX12_draws 40 = .ok (.iload 5, 2) := by decide +kernel
theorem dX12_draws_42 : decode cX12_draws 42 = .ok (.ifCond .ne 37, 3) := by decide +kernel
theorem dX12_draws_45 : decode cX12_draws 45 = .ok (.aload_n 0, 1) := by decide +kernel
theorem dX12_draws_46 : decode cX12_draws 46 = .ok (.aload_n 0, 1) := by decide +kernel
theorem dX12_draws_47 : decode cX12_draws 47 = .ok (.getfield 33, 3) := by decide +kernel
theorem dX12_draws_50 : decode cX12_draws 50 = .ok (.iconst 1, 1) := by decide +kernel
theorem dX12_draws_51 : decode cX12_draws 51 = .ok (.iaload, 1) := by decide +kernel
theorem dX12_draws_52 : decode cX12_draws 52 = .ok (.invokevirtual 386, 3) := by decide +kernel
