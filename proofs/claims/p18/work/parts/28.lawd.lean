theorem dl_18 : decode code 18 = .ok (.iload_n 3, 1) := by decide +kernel
theorem dl_19 : decode code 19 = .ok (.aload_n 0, 1) := by decide +kernel
theorem dl_20 : decode code 20 = .ok (.arraylength, 1) := by decide +kernel
theorem dl_21 : decode code 21 = .ok (.iconst 5, 1) := by decide +kernel
theorem dl_22 : decode code 22 = .ok (.isub, 1) := by decide +kernel
theorem dl_23 : decode code 23 = .ok (.if_icmp .gt 1342, 3) := by decide +kernel
theorem dl_26 : decode code 26 = .ok (.aload_n 0, 1) := by decide +kernel
theorem dl_27 : decode code 27 = .ok (.iload_n 3, 1) := by decide +kernel
theorem dl_28 : decode code 28 = .ok (.iaload, 1) := by decide +kernel
theorem dl_29 : decode code 29 = .ok (.bipush 63, 2) := by decide +kernel
theorem dl_31 : decode code 31 = .ok (.iand, 1) := by decide +kernel
theorem dl_32 : decode code 32 = .ok (.tableswitch 1327 0 36 #[164, 187, 210, 223, 236, 259, 292, 315, 348, 397, 430, 463, 496, 529, 572, 595, 618, 661, 730, 753, 766, 789, 822, 875, 918, 971, 994, 1027, 1050, 1073, 1106, 1129, 1152, 1195, 1238, 1291, 1304], 164) := by decide +kernel
theorem dl_196 : decode code 196 = .ok (.aload_n 1, 1) := by decide +kernel
theorem dl_197 : decode code 197 = .ok (.aload_n 0, 1) := by decide +kernel
theorem dl_198 : decode code 198 = .ok (.iload_n 3, 1) := by decide +kernel
theorem dl_199 : decode code 199 = .ok (.iconst 1, 1) := by decide +kernel
theorem dl_200 : decode code 200 = .ok (.iadd, 1) := by decide +kernel
theorem dl_201 : decode code 201 = .ok (.iaload, 1) := by decide +kernel
theorem dl_202 : decode code 202 = .ok (.invokevirtual 13, 3) := by decide +kernel
theorem dl_205 : decode code 205 = .ok (.pop, 1) := by decide +kernel
theorem dl_206 : decode code 206 = .ok (.aload_n 2, 1) := by decide +kernel
theorem dl_207 : decode code 207 = .ok (.aload_n 0, 1) := by decide +kernel
theorem dl_208 : decode code 208 = .ok (.iload_n 3, 1) := by decide +kernel
theorem dl_209 : decode code 209 = .ok (.iconst 1, 1) := by decide +kernel
theorem dl_210 : decode code 210 = .ok (.iadd, 1) := by decide +kernel
theorem dl_211 : decode code 211 = .ok (.iaload, 1) := by decide +kernel
theorem dl_212 : decode code 212 = .ok (.invokevirtual 17, 3) := by decide +kernel
theorem dl_215 : decode code 215 = .ok (.pop, 1) := by decide +kernel
theorem dl_216 : decode code 216 = .ok (.goto 1143, 3) := by decide +kernel
theorem dl_219 : decode code 219 = .ok (.aload_n 1, 1) := by decide +kernel
theorem dl_220 : decode code 220 = .ok (.aload_n 0, 1) := by decide +kernel
theorem dl_221 : decode code 221 = .ok (.iload_n 3, 1) := by decide +kernel
theorem dl_222 : decode code 222 = .ok (.iconst 1, 1) := by decide +kernel
theorem dl_223 : decode code 223 = .ok (.iadd, 1) := by decide +kernel
theorem dl_224 : decode code 224 = .ok (.iaload, 1) := by decide +kernel
theorem dl_225 : decode code 225 = .ok (.invokevirtual 18, 3) := by decide +kernel
theorem dl_228 : decode code 228 = .ok (.pop, 1) := by decide +kernel
theorem dl_229 : decode code 229 = .ok (.aload_n 2, 1) := by decide +kernel
theorem dl_230 : decode code 230 = .ok (.aload_n 0, 1) := by decide +kernel
theorem dl_231 : decode code 231 = .ok (.iload_n 3, 1) := by decide +kernel
theorem dl_232 : decode code 232 = .ok (.iconst 1, 1) := by decide +kernel
theorem dl_233 : decode code 233 = .ok (.iadd, 1) := by decide +kernel
theorem dl_234 : decode code 234 = .ok (.iaload, 1) := by decide +kernel
theorem dl_235 : decode code 235 = .ok (.invokevirtual 21, 3) := by decide +kernel
theorem dl_238 : decode code 238 = .ok (.pop, 1) := by decide +kernel
theorem dl_239 : decode code 239 = .ok (.goto 1120, 3) := by decide +kernel
theorem dl_242 : decode code 242 = .ok (.aload_n 1, 1) := by decide +kernel
theorem dl_243 : decode code 243 = .ok (.invokevirtual 22, 3) := by decide +kernel
theorem dl_246 : decode code 246 = .ok (.pop, 1) := by decide +kernel
theorem dl_247 : decode code 247 = .ok (.aload_n 2, 1) := by decide +kernel
theorem dl_248 : decode code 248 = .ok (.invokevirtual 26, 3) := by decide +kernel
theorem dl_251 : decode code 251 = .ok (.pop, 1) := by decide +kernel
theorem dl_252 : decode code 252 = .ok (.goto 1107, 3) := by decide +kernel
theorem dl_255 : decode code 255 = .ok (.aload_n 1, 1) := by decide +kernel
theorem dl_256 : decode code 256 = .ok (.invokevirtual 27, 3) := by decide +kernel
theorem dl_259 : decode code 259 = .ok (.pop, 1) := by decide +kernel
theorem dl_260 : decode code 260 = .ok (.aload_n 2, 1) := by decide +kernel
theorem dl_261 : decode code 261 = .ok (.invokevirtual 30, 3) := by decide +kernel
theorem dl_264 : decode code 264 = .ok (.pop, 1) := by decide +kernel
theorem dl_265 : decode code 265 = .ok (.goto 1094, 3) := by decide +kernel
theorem dl_268 : decode code 268 = .ok (.aload_n 1, 1) := by decide +kernel
theorem dl_269 : decode code 269 = .ok (.aload_n 0, 1) := by decide +kernel
theorem dl_270 : decode code 270 = .ok (.iload_n 3, 1) := by decide +kernel
theorem dl_271 : decode code 271 = .ok (.iconst 1, 1) := by decide +kernel
theorem dl_272 : decode code 272 = .ok (.iadd, 1) := by decide +kernel
theorem dl_273 : decode code 273 = .ok (.iaload, 1) := by decide +kernel
theorem dl_274 : decode code 274 = .ok (.invokevirtual 31, 3) := by decide +kernel
theorem dl_277 : decode code 277 = .ok (.pop, 1) := by decide +kernel
theorem dl_278 : decode code 278 = .ok (.aload_n 2, 1) := by decide +kernel
theorem dl_279 : decode code 279 = .ok (.aload_n 0, 1) := by decide +kernel
theorem dl_280 : decode code 280 = .ok (.iload_n 3, 1) := by decide +kernel
theorem dl_281 : decode code 281 = .ok (.iconst 1, 1) := by decide +kernel
theorem dl_282 : decode code 282 = .ok (.iadd, 1) := by decide +kernel
theorem dl_283 : decode code 283 = .ok (.iaload, 1) := by decide +kernel
theorem dl_284 : decode code 284 = .ok (.invokevirtual 34, 3) := by decide +kernel
theorem dl_287 : decode code 287 = .ok (.pop, 1) := by decide +kernel
theorem dl_288 : decode code 288 = .ok (.goto 1071, 3) := by decide +kernel
theorem dl_291 : decode code 291 = .ok (.aload_n 1, 1) := by decide +kernel
theorem dl_292 : decode code 292 = .ok (.aload_n 0, 1) := by decide +kernel
theorem dl_293 : decode code 293 = .ok (.iload_n 3, 1) := by decide +kernel
theorem dl_294 : decode code 294 = .ok (.iconst 1, 1) := by decide +kernel
theorem dl_295 : decode code 295 = .ok (.iadd, 1) := by decide +kernel
theorem dl_296 : decode code 296 = .ok (.iaload, 1) := by decide +kernel
theorem dl_297 : decode code 297 = .ok (.aload_n 0, 1) := by decide +kernel
theorem dl_298 : decode code 298 = .ok (.iload_n 3, 1) := by decide +kernel
theorem dl_299 : decode code 299 = .ok (.iconst 2, 1) := by decide +kernel
theorem dl_300 : decode code 300 = .ok (.iadd, 1) := by decide +kernel
theorem dl_301 : decode code 301 = .ok (.iaload, 1) := by decide +kernel
theorem dl_302 : decode code 302 = .ok (.invokevirtual 35, 3) := by decide +kernel
theorem dl_305 : decode code 305 = .ok (.pop, 1) := by decide +kernel
theorem dl_306 : decode code 306 = .ok (.aload_n 2, 1) := by decide +kernel
theorem dl_307 : decode code 307 = .ok (.aload_n 0, 1) := by decide +kernel
theorem dl_308 : decode code 308 = .ok (.iload_n 3, 1) := by decide +kernel
theorem dl_309 : decode code 309 = .ok (.iconst 1, 1) := by decide +kernel
theorem dl_310 : decode code 310 = .ok (.iadd, 1) := by decide +kernel
theorem dl_311 : decode code 311 = .ok (.iaload, 1) := by decide +kernel
theorem dl_312 : decode code 312 = .ok (.aload_n 0, 1) := by decide +kernel
theorem dl_313 : decode code 313 = .ok (.iload_n 3, 1) := by decide +kernel
theorem dl_314 : decode code 314 = .ok (.iconst 2, 1) := by decide +kernel
theorem dl_315 : decode code 315 = .ok (.iadd, 1) := by decide +kernel
theorem dl_316 : decode code 316 = .ok (.iaload, 1) := by decide +kernel
theorem dl_317 : decode code 317 = .ok (.invokevirtual 39, 3) := by decide +kernel
theorem dl_320 : decode code 320 = .ok (.pop, 1) := by decide +kernel
theorem dl_321 : decode code 321 = .ok (.goto 1038, 3) := by decide +kernel
theorem dl_324 : decode code 324 = .ok (.aload_n 1, 1) := by decide +kernel
theorem dl_325 : decode code 325 = .ok (.aload_n 0, 1) := by decide +kernel
theorem dl_326 : decode code 326 = .ok (.iload_n 3, 1) := by decide +kernel
theorem dl_327 : decode code 327 = .ok (.iconst 1, 1) := by decide +kernel
theorem dl_328 : decode code 328 = .ok (.iadd, 1) := by decide +kernel
theorem dl_329 : decode code 329 = .ok (.iaload, 1) := by decide +kernel
theorem dl_330 : decode code 330 = .ok (.invokevirtual 40, 3) := by decide +kernel
theorem dl_333 : decode code 333 = .ok (.pop, 1) := by decide +kernel
theorem dl_334 : decode code 334 = .ok (.aload_n 2, 1) := by decide +kernel
theorem dl_335 : decode code 335 = .ok (.aload_n 0, 1) := by decide +kernel
theorem dl_336 : decode code 336 = .ok (.iload_n 3, 1) := by decide +kernel
theorem dl_337 : decode code 337 = .ok (.iconst 1, 1) := by decide +kernel
theorem dl_338 : decode code 338 = .ok (.iadd, 1) := by decide +kernel
theorem dl_339 : decode code 339 = .ok (.iaload, 1) := by decide +kernel
theorem dl_340 : decode code 340 = .ok (.invokevirtual 43, 3) := by decide +kernel
theorem dl_343 : decode code 343 = .ok (.pop, 1) := by decide +kernel
theorem dl_344 : decode code 344 = .ok (.goto 1015, 3) := by decide +kernel
theorem dl_347 : decode code 347 = .ok (.aload_n 1, 1) := by decide +kernel
theorem dl_348 : decode code 348 = .ok (.aload_n 0, 1) := by decide +kernel
theorem dl_349 : decode code 349 = .ok (.iload_n 3, 1) := by decide +kernel
theorem dl_350 : decode code 350 = .ok (.iconst 1, 1) := by decide +kernel
theorem dl_351 : decode code 351 = .ok (.iadd, 1) := by decide +kernel
theorem dl_352 : decode code 352 = .ok (.iaload, 1) := by decide +kernel
theorem dl_353 : decode code 353 = .ok (.aload_n 0, 1) := by decide +kernel
theorem dl_354 : decode code 354 = .ok (.iload_n 3, 1) := by decide +kernel
theorem dl_355 : decode code 355 = .ok (.iconst 2, 1) := by decide +kernel
theorem dl_356 : decode code 356 = .ok (.iadd, 1) := by decide +kernel
theorem dl_357 : decode code 357 = .ok (.iaload, 1) := by decide +kernel
theorem dl_358 : decode code 358 = .ok (.invokevirtual 44, 3) := by decide +kernel
theorem dl_361 : decode code 361 = .ok (.pop, 1) := by decide +kernel
theorem dl_362 : decode code 362 = .ok (.aload_n 2, 1) := by decide +kernel
theorem dl_363 : decode code 363 = .ok (.aload_n 0, 1) := by decide +kernel
theorem dl_364 : decode code 364 = .ok (.iload_n 3, 1) := by decide +kernel
theorem dl_365 : decode code 365 = .ok (.iconst 1, 1) := by decide +kernel
theorem dl_366 : decode code 366 = .ok (.iadd, 1) := by decide +kernel
theorem dl_367 : decode code 367 = .ok (.iaload, 1) := by decide +kernel
theorem dl_368 : decode code 368 = .ok (.aload_n 0, 1) := by decide +kernel
theorem dl_369 : decode code 369 = .ok (.iload_n 3, 1) := by decide +kernel
theorem dl_370 : decode code 370 = .ok (.iconst 2, 1) := by decide +kernel
theorem dl_371 : decode code 371 = .ok (.iadd, 1) := by decide +kernel
theorem dl_372 : decode code 372 = .ok (.iaload, 1) := by decide +kernel
theorem dl_373 : decode code 373 = .ok (.invokevirtual 47, 3) := by decide +kernel
theorem dl_376 : decode code 376 = .ok (.pop, 1) := by decide +kernel
theorem dl_377 : decode code 377 = .ok (.goto 982, 3) := by decide +kernel
theorem dl_380 : decode code 380 = .ok (.aload_n 1, 1) := by decide +kernel
theorem dl_381 : decode code 381 = .ok (.aload_n 0, 1) := by decide +kernel
theorem dl_382 : decode code 382 = .ok (.iload_n 3, 1) := by decide +kernel
theorem dl_383 : decode code 383 = .ok (.iconst 1, 1) := by decide +kernel
theorem dl_384 : decode code 384 = .ok (.iadd, 1) := by decide +kernel
theorem dl_385 : decode code 385 = .ok (.iaload, 1) := by decide +kernel
theorem dl_386 : decode code 386 = .ok (.aload_n 0, 1) := by decide +kernel
theorem dl_387 : decode code 387 = .ok (.iload_n 3, 1) := by decide +kernel
theorem dl_388 : decode code 388 = .ok (.iconst 2, 1) := by decide +kernel
theorem dl_389 : decode code 389 = .ok (.iadd, 1) := by decide +kernel
theorem dl_390 : decode code 390 = .ok (.iaload, 1) := by decide +kernel
theorem dl_391 : decode code 391 = .ok (.ifCond .eq 7, 3) := by decide +kernel
theorem dl_394 : decode code 394 = .ok (.iconst 1, 1) := by decide +kernel
theorem dl_395 : decode code 395 = .ok (.goto 4, 3) := by decide +kernel
theorem dl_398 : decode code 398 = .ok (.iconst 0, 1) := by decide +kernel
theorem dl_399 : decode code 399 = .ok (.invokevirtual 48, 3) := by decide +kernel
theorem dl_402 : decode code 402 = .ok (.pop, 1) := by decide +kernel
theorem dl_403 : decode code 403 = .ok (.aload_n 2, 1) := by decide +kernel
theorem dl_404 : decode code 404 = .ok (.aload_n 0, 1) := by decide +kernel
theorem dl_405 : decode code 405 = .ok (.iload_n 3, 1) := by decide +kernel
theorem dl_406 : decode code 406 = .ok (.iconst 1, 1) := by decide +kernel
theorem dl_407 : decode code 407 = .ok (.iadd, 1) := by decide +kernel
theorem dl_408 : decode code 408 = .ok (.iaload, 1) := by decide +kernel
theorem dl_409 : decode code 409 = .ok (.aload_n 0, 1) := by decide +kernel
theorem dl_410 : decode code 410 = .ok (.iload_n 3, 1) := by decide +kernel
theorem dl_411 : decode code 411 = .ok (.iconst 2, 1) := by decide +kernel
theorem dl_412 : decode code 412 = .ok (.iadd, 1) := by decide +kernel
theorem dl_413 : decode code 413 = .ok (.iaload, 1) := by decide +kernel
theorem dl_414 : decode code 414 = .ok (.ifCond .eq 7, 3) := by decide +kernel
theorem dl_417 : decode code 417 = .ok (.iconst 1, 1) := by decide +kernel
theorem dl_418 : decode code 418 = .ok (.goto 4, 3) := by decide +kernel
theorem dl_421 : decode code 421 = .ok (.iconst 0, 1) := by decide +kernel
theorem dl_422 : decode code 422 = .ok (.invokevirtual 52, 3) := by decide +kernel
theorem dl_425 : decode code 425 = .ok (.pop, 1) := by decide +kernel
theorem dl_426 : decode code 426 = .ok (.goto 933, 3) := by decide +kernel
theorem dl_429 : decode code 429 = .ok (.aload_n 1, 1) := by decide +kernel
theorem dl_430 : decode code 430 = .ok (.aload_n 0, 1) := by decide +kernel
theorem dl_431 : decode code 431 = .ok (.iload_n 3, 1) := by decide +kernel
theorem dl_432 : decode code 432 = .ok (.iconst 1, 1) := by decide +kernel
theorem dl_433 : decode code 433 = .ok (.iadd, 1) := by decide +kernel
theorem dl_434 : decode code 434 = .ok (.iaload, 1) := by decide +kernel
theorem dl_435 : decode code 435 = .ok (.aload_n 0, 1) := by decide +kernel
theorem dl_436 : decode code 436 = .ok (.iload_n 3, 1) := by decide +kernel
theorem dl_437 : decode code 437 = .ok (.iconst 2, 1) := by decide +kernel
theorem dl_438 : decode code 438 = .ok (.iadd, 1) := by decide +kernel
theorem dl_439 : decode code 439 = .ok (.iaload, 1) := by decide +kernel
theorem dl_440 : decode code 440 = .ok (.invokevirtual 53, 3) := by decide +kernel
theorem dl_443 : decode code 443 = .ok (.pop, 1) := by decide +kernel
theorem dl_444 : decode code 444 = .ok (.aload_n 2, 1) := by decide +kernel
theorem dl_445 : decode code 445 = .ok (.aload_n 0, 1) := by decide +kernel
theorem dl_446 : decode code 446 = .ok (.iload_n 3, 1) := by decide +kernel
theorem dl_447 : decode code 447 = .ok (.iconst 1, 1) := by decide +kernel
theorem dl_448 : decode code 448 = .ok (.iadd, 1) := by decide +kernel
theorem dl_449 : decode code 449 = .ok (.iaload, 1) := by decide +kernel
theorem dl_450 : decode code 450 = .ok (.aload_n 0, 1) := by decide +kernel
theorem dl_451 : decode code 451 = .ok (.iload_n 3, 1) := by decide +kernel
theorem dl_452 : decode code 452 = .ok (.iconst 2, 1) := by decide +kernel
theorem dl_453 : decode code 453 = .ok (.iadd, 1) := by decide +kernel
theorem dl_454 : decode code 454 = .ok (.iaload, 1) := by decide +kernel
theorem dl_455 : decode code 455 = .ok (.invokevirtual 56, 3) := by decide +kernel
theorem dl_458 : decode code 458 = .ok (.pop, 1) := by decide +kernel
theorem dl_459 : decode code 459 = .ok (.goto 900, 3) := by decide +kernel
theorem dl_462 : decode code 462 = .ok (.aload_n 1, 1) := by decide +kernel
theorem dl_463 : decode code 463 = .ok (.aload_n 0, 1) := by decide +kernel
theorem dl_464 : decode code 464 = .ok (.iload_n 3, 1) := by decide +kernel
theorem dl_465 : decode code 465 = .ok (.iconst 1, 1) := by decide +kernel
theorem dl_466 : decode code 466 = .ok (.iadd, 1) := by decide +kernel
theorem dl_467 : decode code 467 = .ok (.iaload, 1) := by decide +kernel
theorem dl_468 : decode code 468 = .ok (.aload_n 0, 1) := by decide +kernel
theorem dl_469 : decode code 469 = .ok (.iload_n 3, 1) := by decide +kernel
theorem dl_470 : decode code 470 = .ok (.iconst 2, 1) := by decide +kernel
theorem dl_471 : decode code 471 = .ok (.iadd, 1) := by decide +kernel
theorem dl_472 : decode code 472 = .ok (.iaload, 1) := by decide +kernel
theorem dl_473 : decode code 473 = .ok (.invokevirtual 57, 3) := by decide +kernel
theorem dl_476 : decode code 476 = .ok (.pop, 1) := by decide +kernel
theorem dl_477 : decode code 477 = .ok (.aload_n 2, 1) := by decide +kernel
theorem dl_478 : decode code 478 = .ok (.aload_n 0, 1) := by decide +kernel
theorem dl_479 : decode code 479 = .ok (.iload_n 3, 1) := by decide +kernel
theorem dl_480 : decode code 480 = .ok (.iconst 1, 1) := by decide +kernel
theorem dl_481 : decode code 481 = .ok (.iadd, 1) := by decide +kernel
theorem dl_482 : decode code 482 = .ok (.iaload, 1) := by decide +kernel
theorem dl_483 : decode code 483 = .ok (.aload_n 0, 1) := by decide +kernel
theorem dl_484 : decode code 484 = .ok (.iload_n 3, 1) := by decide +kernel
theorem dl_485 : decode code 485 = .ok (.iconst 2, 1) := by decide +kernel
theorem dl_486 : decode code 486 = .ok (.iadd, 1) := by decide +kernel
theorem dl_487 : decode code 487 = .ok (.iaload, 1) := by decide +kernel
theorem dl_488 : decode code 488 = .ok (.invokevirtual 60, 3) := by decide +kernel
theorem dl_491 : decode code 491 = .ok (.pop, 1) := by decide +kernel
theorem dl_492 : decode code 492 = .ok (.goto 867, 3) := by decide +kernel
theorem dl_495 : decode code 495 = .ok (.aload_n 1, 1) := by decide +kernel
theorem dl_496 : decode code 496 = .ok (.aload_n 0, 1) := by decide +kernel
theorem dl_497 : decode code 497 = .ok (.iload_n 3, 1) := by decide +kernel
theorem dl_498 : decode code 498 = .ok (.iconst 1, 1) := by decide +kernel
theorem dl_499 : decode code 499 = .ok (.iadd, 1) := by decide +kernel
theorem dl_500 : decode code 500 = .ok (.iaload, 1) := by decide +kernel
theorem dl_501 : decode code 501 = .ok (.aload_n 0, 1) := by decide +kernel
theorem dl_502 : decode code 502 = .ok (.iload_n 3, 1) := by decide +kernel
theorem dl_503 : decode code 503 = .ok (.iconst 2, 1) := by decide +kernel
theorem dl_504 : decode code 504 = .ok (.iadd, 1) := by decide +kernel
theorem dl_505 : decode code 505 = .ok (.iaload, 1) := by decide +kernel
theorem dl_506 : decode code 506 = .ok (.invokevirtual 61, 3) := by decide +kernel
theorem dl_509 : decode code 509 = .ok (.pop, 1) := by decide +kernel
theorem dl_510 : decode code 510 = .ok (.aload_n 2, 1) := by decide +kernel
theorem dl_511 : decode code 511 = .ok (.aload_n 0, 1) := by decide +kernel
theorem dl_512 : decode code 512 = .ok (.iload_n 3, 1) := by decide +kernel
theorem dl_513 : decode code 513 = .ok (.iconst 1, 1) := by decide +kernel
theorem dl_514 : decode code 514 = .ok (.iadd, 1) := by decide +kernel
theorem dl_515 : decode code 515 = .ok (.iaload, 1) := by decide +kernel
theorem dl_516 : decode code 516 = .ok (.aload_n 0, 1) := by decide +kernel
theorem dl_517 : decode code 517 = .ok (.iload_n 3, 1) := by decide +kernel
theorem dl_518 : decode code 518 = .ok (.iconst 2, 1) := by decide +kernel
theorem dl_519 : decode code 519 = .ok (.iadd, 1) := by decide +kernel
theorem dl_520 : decode code 520 = .ok (.iaload, 1) := by decide +kernel
theorem dl_521 : decode code 521 = .ok (.invokevirtual 64, 3) := by decide +kernel
theorem dl_524 : decode code 524 = .ok (.pop, 1) := by decide +kernel
theorem dl_525 : decode code 525 = .ok (.goto 834, 3) := by decide +kernel
theorem dl_528 : decode code 528 = .ok (.aload_n 1, 1) := by decide +kernel
theorem dl_529 : decode code 529 = .ok (.aload_n 0, 1) := by decide +kernel
theorem dl_530 : decode code 530 = .ok (.iload_n 3, 1) := by decide +kernel
theorem dl_531 : decode code 531 = .ok (.iconst 1, 1) := by decide +kernel
theorem dl_532 : decode code 532 = .ok (.iadd, 1) := by decide +kernel
theorem dl_533 : decode code 533 = .ok (.iaload, 1) := by decide +kernel
theorem dl_534 : decode code 534 = .ok (.aload_n 0, 1) := by decide +kernel
theorem dl_535 : decode code 535 = .ok (.iload_n 3, 1) := by decide +kernel
theorem dl_536 : decode code 536 = .ok (.iconst 2, 1) := by decide +kernel
theorem dl_537 : decode code 537 = .ok (.iadd, 1) := by decide +kernel
theorem dl_538 : decode code 538 = .ok (.iaload, 1) := by decide +kernel
theorem dl_539 : decode code 539 = .ok (.invokevirtual 65, 3) := by decide +kernel
theorem dl_542 : decode code 542 = .ok (.pop, 1) := by decide +kernel
theorem dl_543 : decode code 543 = .ok (.aload_n 2, 1) := by decide +kernel
theorem dl_544 : decode code 544 = .ok (.aload_n 0, 1) := by decide +kernel
theorem dl_545 : decode code 545 = .ok (.iload_n 3, 1) := by decide +kernel
theorem dl_546 : decode code 546 = .ok (.iconst 1, 1) := by decide +kernel
theorem dl_547 : decode code 547 = .ok (.iadd, 1) := by decide +kernel
theorem dl_548 : decode code 548 = .ok (.iaload, 1) := by decide +kernel
theorem dl_549 : decode code 549 = .ok (.aload_n 0, 1) := by decide +kernel
theorem dl_550 : decode code 550 = .ok (.iload_n 3, 1) := by decide +kernel
theorem dl_551 : decode code 551 = .ok (.iconst 2, 1) := by decide +kernel
theorem dl_552 : decode code 552 = .ok (.iadd, 1) := by decide +kernel
theorem dl_553 : decode code 553 = .ok (.iaload, 1) := by decide +kernel
theorem dl_554 : decode code 554 = .ok (.invokevirtual 68, 3) := by decide +kernel
theorem dl_557 : decode code 557 = .ok (.pop, 1) := by decide +kernel
theorem dl_558 : decode code 558 = .ok (.goto 801, 3) := by decide +kernel
theorem dl_561 : decode code 561 = .ok (.aload_n 1, 1) := by decide +kernel
theorem dl_562 : decode code 562 = .ok (.aload_n 0, 1) := by decide +kernel
theorem dl_563 : decode code 563 = .ok (.iload_n 3, 1) := by decide +kernel
theorem dl_564 : decode code 564 = .ok (.iconst 1, 1) := by decide +kernel
theorem dl_565 : decode code 565 = .ok (.iadd, 1) := by decide +kernel
theorem dl_566 : decode code 566 = .ok (.iaload, 1) := by decide +kernel
theorem dl_567 : decode code 567 = .ok (.aload_n 0, 1) := by decide +kernel
theorem dl_568 : decode code 568 = .ok (.iload_n 3, 1) := by decide +kernel
theorem dl_569 : decode code 569 = .ok (.iconst 2, 1) := by decide +kernel
theorem dl_570 : decode code 570 = .ok (.iadd, 1) := by decide +kernel
theorem dl_571 : decode code 571 = .ok (.iaload, 1) := by decide +kernel
theorem dl_572 : decode code 572 = .ok (.aload_n 0, 1) := by decide +kernel
theorem dl_573 : decode code 573 = .ok (.iload_n 3, 1) := by decide +kernel
theorem dl_574 : decode code 574 = .ok (.iconst 3, 1) := by decide +kernel
theorem dl_575 : decode code 575 = .ok (.iadd, 1) := by decide +kernel
theorem dl_576 : decode code 576 = .ok (.iaload, 1) := by decide +kernel
theorem dl_577 : decode code 577 = .ok (.invokevirtual 69, 3) := by decide +kernel
theorem dl_580 : decode code 580 = .ok (.pop, 1) := by decide +kernel
theorem dl_581 : decode code 581 = .ok (.aload_n 2, 1) := by decide +kernel
theorem dl_582 : decode code 582 = .ok (.aload_n 0, 1) := by decide +kernel
theorem dl_583 : decode code 583 = .ok (.iload_n 3, 1) := by decide +kernel
theorem dl_584 : decode code 584 = .ok (.iconst 1, 1) := by decide +kernel
theorem dl_585 : decode code 585 = .ok (.iadd, 1) := by decide +kernel
theorem dl_586 : decode code 586 = .ok (.iaload, 1) := by decide +kernel
theorem dl_587 : decode code 587 = .ok (.aload_n 0, 1) := by decide +kernel
theorem dl_588 : decode code 588 = .ok (.iload_n 3, 1) := by decide +kernel
theorem dl_589 : decode code 589 = .ok (.iconst 2, 1) := by decide +kernel
theorem dl_590 : decode code 590 = .ok (.iadd, 1) := by decide +kernel
theorem dl_591 : decode code 591 = .ok (.iaload, 1) := by decide +kernel
theorem dl_592 : decode code 592 = .ok (.aload_n 0, 1) := by decide +kernel
theorem dl_593 : decode code 593 = .ok (.iload_n 3, 1) := by decide +kernel
theorem dl_594 : decode code 594 = .ok (.iconst 3, 1) := by decide +kernel
theorem dl_595 : decode code 595 = .ok (.iadd, 1) := by decide +kernel
theorem dl_596 : decode code 596 = .ok (.iaload, 1) := by decide +kernel
theorem dl_597 : decode code 597 = .ok (.invokevirtual 73, 3) := by decide +kernel
theorem dl_600 : decode code 600 = .ok (.pop, 1) := by decide +kernel
theorem dl_601 : decode code 601 = .ok (.goto 758, 3) := by decide +kernel
theorem dl_604 : decode code 604 = .ok (.aload_n 1, 1) := by decide +kernel
theorem dl_605 : decode code 605 = .ok (.aload_n 0, 1) := by decide +kernel
theorem dl_606 : decode code 606 = .ok (.iload_n 3, 1) := by decide +kernel
theorem dl_607 : decode code 607 = .ok (.iconst 1, 1) := by decide +kernel
theorem dl_608 : decode code 608 = .ok (.iadd, 1) := by decide +kernel
theorem dl_609 : decode code 609 = .ok (.iaload, 1) := by decide +kernel
theorem dl_610 : decode code 610 = .ok (.invokevirtual 74, 3) := by decide +kernel
theorem dl_613 : decode code 613 = .ok (.pop, 1) := by decide +kernel
theorem dl_614 : decode code 614 = .ok (.aload_n 2, 1) := by decide +kernel
theorem dl_615 : decode code 615 = .ok (.aload_n 0, 1) := by decide +kernel
theorem dl_616 : decode code 616 = .ok (.iload_n 3, 1) := by decide +kernel
theorem dl_617 : decode code 617 = .ok (.iconst 1, 1) := by decide +kernel
theorem dl_618 : decode code 618 = .ok (.iadd, 1) := by decide +kernel
theorem dl_619 : decode code 619 = .ok (.iaload, 1) := by decide +kernel
theorem dl_620 : decode code 620 = .ok (.invokevirtual 77, 3) := by decide +kernel
theorem dl_623 : decode code 623 = .ok (.pop, 1) := by decide +kernel
theorem dl_624 : decode code 624 = .ok (.goto 735, 3) := by decide +kernel
theorem dl_627 : decode code 627 = .ok (.aload_n 1, 1) := by decide +kernel
theorem dl_628 : decode code 628 = .ok (.aload_n 0, 1) := by decide +kernel
theorem dl_629 : decode code 629 = .ok (.iload_n 3, 1) := by decide +kernel
theorem dl_630 : decode code 630 = .ok (.iconst 1, 1) := by decide +kernel
theorem dl_631 : decode code 631 = .ok (.iadd, 1) := by decide +kernel
theorem dl_632 : decode code 632 = .ok (.iaload, 1) := by decide +kernel
theorem dl_633 : decode code 633 = .ok (.invokevirtual 78, 3) := by decide +kernel
theorem dl_636 : decode code 636 = .ok (.pop, 1) := by decide +kernel
theorem dl_637 : decode code 637 = .ok (.aload_n 2, 1) := by decide +kernel
theorem dl_638 : decode code 638 = .ok (.aload_n 0, 1) := by decide +kernel
theorem dl_639 : decode code 639 = .ok (.iload_n 3, 1) := by decide +kernel
theorem dl_640 : decode code 640 = .ok (.iconst 1, 1) := by decide +kernel
theorem dl_641 : decode code 641 = .ok (.iadd, 1) := by decide +kernel
theorem dl_642 : decode code 642 = .ok (.iaload, 1) := by decide +kernel
theorem dl_643 : decode code 643 = .ok (.invokevirtual 81, 3) := by decide +kernel
theorem dl_646 : decode code 646 = .ok (.pop, 1) := by decide +kernel
theorem dl_647 : decode code 647 = .ok (.goto 712, 3) := by decide +kernel
theorem dl_650 : decode code 650 = .ok (.aload_n 1, 1) := by decide +kernel
theorem dl_651 : decode code 651 = .ok (.aload_n 0, 1) := by decide +kernel
theorem dl_652 : decode code 652 = .ok (.iload_n 3, 1) := by decide +kernel
theorem dl_653 : decode code 653 = .ok (.iconst 1, 1) := by decide +kernel
theorem dl_654 : decode code 654 = .ok (.iadd, 1) := by decide +kernel
theorem dl_655 : decode code 655 = .ok (.iaload, 1) := by decide +kernel
theorem dl_656 : decode code 656 = .ok (.aload_n 0, 1) := by decide +kernel
theorem dl_657 : decode code 657 = .ok (.iload_n 3, 1) := by decide +kernel
theorem dl_658 : decode code 658 = .ok (.iconst 2, 1) := by decide +kernel
theorem dl_659 : decode code 659 = .ok (.iadd, 1) := by decide +kernel
theorem dl_660 : decode code 660 = .ok (.iaload, 1) := by decide +kernel
theorem dl_661 : decode code 661 = .ok (.aload_n 0, 1) := by decide +kernel
theorem dl_662 : decode code 662 = .ok (.iload_n 3, 1) := by decide +kernel
theorem dl_663 : decode code 663 = .ok (.iconst 3, 1) := by decide +kernel
theorem dl_664 : decode code 664 = .ok (.iadd, 1) := by decide +kernel
theorem dl_665 : decode code 665 = .ok (.iaload, 1) := by decide +kernel
theorem dl_666 : decode code 666 = .ok (.invokevirtual 82, 3) := by decide +kernel
theorem dl_669 : decode code 669 = .ok (.aload_n 2, 1) := by decide +kernel
theorem dl_670 : decode code 670 = .ok (.aload_n 0, 1) := by decide +kernel
theorem dl_671 : decode code 671 = .ok (.iload_n 3, 1) := by decide +kernel
theorem dl_672 : decode code 672 = .ok (.iconst 1, 1) := by decide +kernel
theorem dl_673 : decode code 673 = .ok (.iadd, 1) := by decide +kernel
theorem dl_674 : decode code 674 = .ok (.iaload, 1) := by decide +kernel
theorem dl_675 : decode code 675 = .ok (.aload_n 0, 1) := by decide +kernel
theorem dl_676 : decode code 676 = .ok (.iload_n 3, 1) := by decide +kernel
theorem dl_677 : decode code 677 = .ok (.iconst 2, 1) := by decide +kernel
theorem dl_678 : decode code 678 = .ok (.iadd, 1) := by decide +kernel
theorem dl_679 : decode code 679 = .ok (.iaload, 1) := by decide +kernel
theorem dl_680 : decode code 680 = .ok (.aload_n 0, 1) := by decide +kernel
theorem dl_681 : decode code 681 = .ok (.iload_n 3, 1) := by decide +kernel
theorem dl_682 : decode code 682 = .ok (.iconst 3, 1) := by decide +kernel
theorem dl_683 : decode code 683 = .ok (.iadd, 1) := by decide +kernel
theorem dl_684 : decode code 684 = .ok (.iaload, 1) := by decide +kernel
theorem dl_685 : decode code 685 = .ok (.invokevirtual 85, 3) := by decide +kernel
theorem dl_688 : decode code 688 = .ok (.if_icmp .eq 671, 3) := by decide +kernel
theorem dl_691 : decode code 691 = .ok (.iconst 0, 1) := by decide +kernel
theorem dl_692 : decode code 692 = .ok (.ireturn, 1) := by decide +kernel
theorem dl_693 : decode code 693 = .ok (.aload_n 1, 1) := by decide +kernel
theorem dl_694 : decode code 694 = .ok (.aload_n 0, 1) := by decide +kernel
theorem dl_695 : decode code 695 = .ok (.iload_n 3, 1) := by decide +kernel
theorem dl_696 : decode code 696 = .ok (.iconst 1, 1) := by decide +kernel
theorem dl_697 : decode code 697 = .ok (.iadd, 1) := by decide +kernel
theorem dl_698 : decode code 698 = .ok (.iaload, 1) := by decide +kernel
theorem dl_699 : decode code 699 = .ok (.aload_n 0, 1) := by decide +kernel
theorem dl_700 : decode code 700 = .ok (.iload_n 3, 1) := by decide +kernel
theorem dl_701 : decode code 701 = .ok (.iconst 2, 1) := by decide +kernel
theorem dl_702 : decode code 702 = .ok (.iadd, 1) := by decide +kernel
theorem dl_703 : decode code 703 = .ok (.iaload, 1) := by decide +kernel
theorem dl_704 : decode code 704 = .ok (.aload_n 0, 1) := by decide +kernel
theorem dl_705 : decode code 705 = .ok (.iload_n 3, 1) := by decide +kernel
theorem dl_706 : decode code 706 = .ok (.iconst 3, 1) := by decide +kernel
theorem dl_707 : decode code 707 = .ok (.iadd, 1) := by decide +kernel
theorem dl_708 : decode code 708 = .ok (.iaload, 1) := by decide +kernel
theorem dl_709 : decode code 709 = .ok (.aload_n 0, 1) := by decide +kernel
theorem dl_710 : decode code 710 = .ok (.iload_n 3, 1) := by decide +kernel
theorem dl_711 : decode code 711 = .ok (.iconst 4, 1) := by decide +kernel
theorem dl_712 : decode code 712 = .ok (.iadd, 1) := by decide +kernel
theorem dl_713 : decode code 713 = .ok (.iaload, 1) := by decide +kernel
theorem dl_714 : decode code 714 = .ok (.ifCond .eq 7, 3) := by decide +kernel
theorem dl_717 : decode code 717 = .ok (.iconst 1, 1) := by decide +kernel
theorem dl_718 : decode code 718 = .ok (.goto 4, 3) := by decide +kernel
theorem dl_721 : decode code 721 = .ok (.iconst 0, 1) := by decide +kernel
theorem dl_722 : decode code 722 = .ok (.invokevirtual 86, 3) := by decide +kernel
theorem dl_725 : decode code 725 = .ok (.pop, 1) := by decide +kernel
theorem dl_726 : decode code 726 = .ok (.aload_n 2, 1) := by decide +kernel
theorem dl_727 : decode code 727 = .ok (.aload_n 0, 1) := by decide +kernel
theorem dl_728 : decode code 728 = .ok (.iload_n 3, 1) := by decide +kernel
theorem dl_729 : decode code 729 = .ok (.iconst 1, 1) := by decide +kernel
theorem dl_730 : decode code 730 = .ok (.iadd, 1) := by decide +kernel
theorem dl_731 : decode code 731 = .ok (.iaload, 1) := by decide +kernel
theorem dl_732 : decode code 732 = .ok (.aload_n 0, 1) := by decide +kernel
theorem dl_733 : decode code 733 = .ok (.iload_n 3, 1) := by decide +kernel
theorem dl_734 : decode code 734 = .ok (.iconst 2, 1) := by decide +kernel
theorem dl_735 : decode code 735 = .ok (.iadd, 1) := by decide +kernel
theorem dl_736 : decode code 736 = .ok (.iaload, 1) := by decide +kernel
theorem dl_737 : decode code 737 = .ok (.aload_n 0, 1) := by decide +kernel
theorem dl_738 : decode code 738 = .ok (.iload_n 3, 1) := by decide +kernel
theorem dl_739 : decode code 739 = .ok (.iconst 3, 1) := by decide +kernel
theorem dl_740 : decode code 740 = .ok (.iadd, 1) := by decide +kernel
theorem dl_741 : decode code 741 = .ok (.iaload, 1) := by decide +kernel
theorem dl_742 : decode code 742 = .ok (.aload_n 0, 1) := by decide +kernel
theorem dl_743 : decode code 743 = .ok (.iload_n 3, 1) := by decide +kernel
theorem dl_744 : decode code 744 = .ok (.iconst 4, 1) := by decide +kernel
theorem dl_745 : decode code 745 = .ok (.iadd, 1) := by decide +kernel
theorem dl_746 : decode code 746 = .ok (.iaload, 1) := by decide +kernel
theorem dl_747 : decode code 747 = .ok (.ifCond .eq 7, 3) := by decide +kernel
theorem dl_750 : decode code 750 = .ok (.iconst 1, 1) := by decide +kernel
theorem dl_751 : decode code 751 = .ok (.goto 4, 3) := by decide +kernel
theorem dl_754 : decode code 754 = .ok (.iconst 0, 1) := by decide +kernel
theorem dl_755 : decode code 755 = .ok (.invokevirtual 90, 3) := by decide +kernel
theorem dl_758 : decode code 758 = .ok (.pop, 1) := by decide +kernel
theorem dl_759 : decode code 759 = .ok (.goto 600, 3) := by decide +kernel
theorem dl_762 : decode code 762 = .ok (.aload_n 1, 1) := by decide +kernel
theorem dl_763 : decode code 763 = .ok (.aload_n 0, 1) := by decide +kernel
theorem dl_764 : decode code 764 = .ok (.iload_n 3, 1) := by decide +kernel
theorem dl_765 : decode code 765 = .ok (.iconst 1, 1) := by decide +kernel
theorem dl_766 : decode code 766 = .ok (.iadd, 1) := by decide +kernel
theorem dl_767 : decode code 767 = .ok (.iaload, 1) := by decide +kernel
theorem dl_768 : decode code 768 = .ok (.invokevirtual 91, 3) := by decide +kernel
theorem dl_771 : decode code 771 = .ok (.pop, 1) := by decide +kernel
theorem dl_772 : decode code 772 = .ok (.aload_n 2, 1) := by decide +kernel
theorem dl_773 : decode code 773 = .ok (.aload_n 0, 1) := by decide +kernel
theorem dl_774 : decode code 774 = .ok (.iload_n 3, 1) := by decide +kernel
theorem dl_775 : decode code 775 = .ok (.iconst 1, 1) := by decide +kernel
theorem dl_776 : decode code 776 = .ok (.iadd, 1) := by decide +kernel
theorem dl_777 : decode code 777 = .ok (.iaload, 1) := by decide +kernel
theorem dl_778 : decode code 778 = .ok (.invokevirtual 94, 3) := by decide +kernel
theorem dl_781 : decode code 781 = .ok (.pop, 1) := by decide +kernel
theorem dl_782 : decode code 782 = .ok (.goto 577, 3) := by decide +kernel
theorem dl_785 : decode code 785 = .ok (.aload_n 1, 1) := by decide +kernel
theorem dl_786 : decode code 786 = .ok (.invokevirtual 95, 3) := by decide +kernel
theorem dl_789 : decode code 789 = .ok (.pop, 1) := by decide +kernel
theorem dl_790 : decode code 790 = .ok (.aload_n 2, 1) := by decide +kernel
theorem dl_791 : decode code 791 = .ok (.invokevirtual 98, 3) := by decide +kernel
theorem dl_794 : decode code 794 = .ok (.pop, 1) := by decide +kernel
theorem dl_795 : decode code 795 = .ok (.goto 564, 3) := by decide +kernel
theorem dl_798 : decode code 798 = .ok (.aload_n 1, 1) := by decide +kernel
theorem dl_799 : decode code 799 = .ok (.aload_n 0, 1) := by decide +kernel
theorem dl_800 : decode code 800 = .ok (.iload_n 3, 1) := by decide +kernel
theorem dl_801 : decode code 801 = .ok (.iconst 1, 1) := by decide +kernel
theorem dl_802 : decode code 802 = .ok (.iadd, 1) := by decide +kernel
theorem dl_803 : decode code 803 = .ok (.iaload, 1) := by decide +kernel
theorem dl_804 : decode code 804 = .ok (.invokevirtual 99, 3) := by decide +kernel
theorem dl_807 : decode code 807 = .ok (.pop, 1) := by decide +kernel
theorem dl_808 : decode code 808 = .ok (.aload_n 2, 1) := by decide +kernel
theorem dl_809 : decode code 809 = .ok (.aload_n 0, 1) := by decide +kernel
theorem dl_810 : decode code 810 = .ok (.iload_n 3, 1) := by decide +kernel
theorem dl_811 : decode code 811 = .ok (.iconst 1, 1) := by decide +kernel
theorem dl_812 : decode code 812 = .ok (.iadd, 1) := by decide +kernel
theorem dl_813 : decode code 813 = .ok (.iaload, 1) := by decide +kernel
theorem dl_814 : decode code 814 = .ok (.invokevirtual 102, 3) := by decide +kernel
theorem dl_817 : decode code 817 = .ok (.pop, 1) := by decide +kernel
theorem dl_818 : decode code 818 = .ok (.goto 541, 3) := by decide +kernel
theorem dl_821 : decode code 821 = .ok (.aload_n 1, 1) := by decide +kernel
theorem dl_822 : decode code 822 = .ok (.aload_n 0, 1) := by decide +kernel
theorem dl_823 : decode code 823 = .ok (.iload_n 3, 1) := by decide +kernel
theorem dl_824 : decode code 824 = .ok (.iconst 1, 1) := by decide +kernel
theorem dl_825 : decode code 825 = .ok (.iadd, 1) := by decide +kernel
theorem dl_826 : decode code 826 = .ok (.iaload, 1) := by decide +kernel
theorem dl_827 : decode code 827 = .ok (.aload_n 0, 1) := by decide +kernel
theorem dl_828 : decode code 828 = .ok (.iload_n 3, 1) := by decide +kernel
theorem dl_829 : decode code 829 = .ok (.iconst 2, 1) := by decide +kernel
theorem dl_830 : decode code 830 = .ok (.iadd, 1) := by decide +kernel
theorem dl_831 : decode code 831 = .ok (.iaload, 1) := by decide +kernel
theorem dl_832 : decode code 832 = .ok (.invokevirtual 103, 3) := by decide +kernel
theorem dl_835 : decode code 835 = .ok (.pop, 1) := by decide +kernel
theorem dl_836 : decode code 836 = .ok (.aload_n 2, 1) := by decide +kernel
theorem dl_837 : decode code 837 = .ok (.aload_n 0, 1) := by decide +kernel
theorem dl_838 : decode code 838 = .ok (.iload_n 3, 1) := by decide +kernel
theorem dl_839 : decode code 839 = .ok (.iconst 1, 1) := by decide +kernel
theorem dl_840 : decode code 840 = .ok (.iadd, 1) := by decide +kernel
theorem dl_841 : decode code 841 = .ok (.iaload, 1) := by decide +kernel
theorem dl_842 : decode code 842 = .ok (.aload_n 0, 1) := by decide +kernel
theorem dl_843 : decode code 843 = .ok (.iload_n 3, 1) := by decide +kernel
theorem dl_844 : decode code 844 = .ok (.iconst 2, 1) := by decide +kernel
theorem dl_845 : decode code 845 = .ok (.iadd, 1) := by decide +kernel
theorem dl_846 : decode code 846 = .ok (.iaload, 1) := by decide +kernel
theorem dl_847 : decode code 847 = .ok (.invokevirtual 106, 3) := by decide +kernel
theorem dl_850 : decode code 850 = .ok (.pop, 1) := by decide +kernel
theorem dl_851 : decode code 851 = .ok (.goto 508, 3) := by decide +kernel
theorem dl_854 : decode code 854 = .ok (.aload_n 1, 1) := by decide +kernel
theorem dl_855 : decode code 855 = .ok (.aload_n 0, 1) := by decide +kernel
theorem dl_856 : decode code 856 = .ok (.iload_n 3, 1) := by decide +kernel
theorem dl_857 : decode code 857 = .ok (.iconst 1, 1) := by decide +kernel
theorem dl_858 : decode code 858 = .ok (.iadd, 1) := by decide +kernel
theorem dl_859 : decode code 859 = .ok (.iaload, 1) := by decide +kernel
theorem dl_860 : decode code 860 = .ok (.aload_n 0, 1) := by decide +kernel
theorem dl_861 : decode code 861 = .ok (.iload_n 3, 1) := by decide +kernel
theorem dl_862 : decode code 862 = .ok (.iconst 2, 1) := by decide +kernel
theorem dl_863 : decode code 863 = .ok (.iadd, 1) := by decide +kernel
theorem dl_864 : decode code 864 = .ok (.iaload, 1) := by decide +kernel
theorem dl_865 : decode code 865 = .ok (.aload_n 0, 1) := by decide +kernel
theorem dl_866 : decode code 866 = .ok (.iload_n 3, 1) := by decide +kernel
theorem dl_867 : decode code 867 = .ok (.iconst 3, 1) := by decide +kernel
theorem dl_868 : decode code 868 = .ok (.iadd, 1) := by decide +kernel
theorem dl_869 : decode code 869 = .ok (.iaload, 1) := by decide +kernel
theorem dl_870 : decode code 870 = .ok (.aload_n 0, 1) := by decide +kernel
theorem dl_871 : decode code 871 = .ok (.iload_n 3, 1) := by decide +kernel
theorem dl_872 : decode code 872 = .ok (.iconst 4, 1) := by decide +kernel
theorem dl_873 : decode code 873 = .ok (.iadd, 1) := by decide +kernel
theorem dl_874 : decode code 874 = .ok (.iaload, 1) := by decide +kernel
theorem dl_875 : decode code 875 = .ok (.invokevirtual 107, 3) := by decide +kernel
theorem dl_878 : decode code 878 = .ok (.pop, 1) := by decide +kernel
theorem dl_879 : decode code 879 = .ok (.aload_n 2, 1) := by decide +kernel
theorem dl_880 : decode code 880 = .ok (.aload_n 0, 1) := by decide +kernel
theorem dl_881 : decode code 881 = .ok (.iload_n 3, 1) := by decide +kernel
theorem dl_882 : decode code 882 = .ok (.iconst 1, 1) := by decide +kernel
theorem dl_883 : decode code 883 = .ok (.iadd, 1) := by decide +kernel
theorem dl_884 : decode code 884 = .ok (.iaload, 1) := by decide +kernel
theorem dl_885 : decode code 885 = .ok (.aload_n 0, 1) := by decide +kernel
theorem dl_886 : decode code 886 = .ok (.iload_n 3, 1) := by decide +kernel
theorem dl_887 : decode code 887 = .ok (.iconst 2, 1) := by decide +kernel
theorem dl_888 : decode code 888 = .ok (.iadd, 1) := by decide +kernel
theorem dl_889 : decode code 889 = .ok (.iaload, 1) := by decide +kernel
theorem dl_890 : decode code 890 = .ok (.aload_n 0, 1) := by decide +kernel
theorem dl_891 : decode code 891 = .ok (.iload_n 3, 1) := by decide +kernel
theorem dl_892 : decode code 892 = .ok (.iconst 3, 1) := by decide +kernel
theorem dl_893 : decode code 893 = .ok (.iadd, 1) := by decide +kernel
theorem dl_894 : decode code 894 = .ok (.iaload, 1) := by decide +kernel
theorem dl_895 : decode code 895 = .ok (.aload_n 0, 1) := by decide +kernel
theorem dl_896 : decode code 896 = .ok (.iload_n 3, 1) := by decide +kernel
theorem dl_897 : decode code 897 = .ok (.iconst 4, 1) := by decide +kernel
theorem dl_898 : decode code 898 = .ok (.iadd, 1) := by decide +kernel
theorem dl_899 : decode code 899 = .ok (.iaload, 1) := by decide +kernel
theorem dl_900 : decode code 900 = .ok (.invokevirtual 111, 3) := by decide +kernel
theorem dl_903 : decode code 903 = .ok (.pop, 1) := by decide +kernel
theorem dl_904 : decode code 904 = .ok (.goto 455, 3) := by decide +kernel
theorem dl_907 : decode code 907 = .ok (.aload_n 1, 1) := by decide +kernel
theorem dl_908 : decode code 908 = .ok (.aload_n 0, 1) := by decide +kernel
theorem dl_909 : decode code 909 = .ok (.iload_n 3, 1) := by decide +kernel
theorem dl_910 : decode code 910 = .ok (.iconst 1, 1) := by decide +kernel
theorem dl_911 : decode code 911 = .ok (.iadd, 1) := by decide +kernel
theorem dl_912 : decode code 912 = .ok (.iaload, 1) := by decide +kernel
theorem dl_913 : decode code 913 = .ok (.aload_n 0, 1) := by decide +kernel
theorem dl_914 : decode code 914 = .ok (.iload_n 3, 1) := by decide +kernel
theorem dl_915 : decode code 915 = .ok (.iconst 2, 1) := by decide +kernel
theorem dl_916 : decode code 916 = .ok (.iadd, 1) := by decide +kernel
theorem dl_917 : decode code 917 = .ok (.iaload, 1) := by decide +kernel
theorem dl_918 : decode code 918 = .ok (.aload_n 0, 1) := by decide +kernel
theorem dl_919 : decode code 919 = .ok (.iload_n 3, 1) := by decide +kernel
theorem dl_920 : decode code 920 = .ok (.iconst 3, 1) := by decide +kernel
theorem dl_921 : decode code 921 = .ok (.iadd, 1) := by decide +kernel
theorem dl_922 : decode code 922 = .ok (.iaload, 1) := by decide +kernel
theorem dl_923 : decode code 923 = .ok (.invokevirtual 112, 3) := by decide +kernel
theorem dl_926 : decode code 926 = .ok (.pop, 1) := by decide +kernel
theorem dl_927 : decode code 927 = .ok (.aload_n 2, 1) := by decide +kernel
theorem dl_928 : decode code 928 = .ok (.aload_n 0, 1) := by decide +kernel
theorem dl_929 : decode code 929 = .ok (.iload_n 3, 1) := by decide +kernel
theorem dl_930 : decode code 930 = .ok (.iconst 1, 1) := by decide +kernel
theorem dl_931 : decode code 931 = .ok (.iadd, 1) := by decide +kernel
theorem dl_932 : decode code 932 = .ok (.iaload, 1) := by decide +kernel
theorem dl_933 : decode code 933 = .ok (.aload_n 0, 1) := by decide +kernel
theorem dl_934 : decode code 934 = .ok (.iload_n 3, 1) := by decide +kernel
theorem dl_935 : decode code 935 = .ok (.iconst 2, 1) := by decide +kernel
theorem dl_936 : decode code 936 = .ok (.iadd, 1) := by decide +kernel
theorem dl_937 : decode code 937 = .ok (.iaload, 1) := by decide +kernel
theorem dl_938 : decode code 938 = .ok (.aload_n 0, 1) := by decide +kernel
theorem dl_939 : decode code 939 = .ok (.iload_n 3, 1) := by decide +kernel
theorem dl_940 : decode code 940 = .ok (.iconst 3, 1) := by decide +kernel
theorem dl_941 : decode code 941 = .ok (.iadd, 1) := by decide +kernel
theorem dl_942 : decode code 942 = .ok (.iaload, 1) := by decide +kernel
theorem dl_943 : decode code 943 = .ok (.invokevirtual 115, 3) := by decide +kernel
theorem dl_946 : decode code 946 = .ok (.pop, 1) := by decide +kernel
theorem dl_947 : decode code 947 = .ok (.goto 412, 3) := by decide +kernel
theorem dl_950 : decode code 950 = .ok (.aload_n 1, 1) := by decide +kernel
theorem dl_951 : decode code 951 = .ok (.aload_n 0, 1) := by decide +kernel
theorem dl_952 : decode code 952 = .ok (.iload_n 3, 1) := by decide +kernel
theorem dl_953 : decode code 953 = .ok (.iconst 1, 1) := by decide +kernel
theorem dl_954 : decode code 954 = .ok (.iadd, 1) := by decide +kernel
theorem dl_955 : decode code 955 = .ok (.iaload, 1) := by decide +kernel
theorem dl_956 : decode code 956 = .ok (.aload_n 0, 1) := by decide +kernel
theorem dl_957 : decode code 957 = .ok (.iload_n 3, 1) := by decide +kernel
theorem dl_958 : decode code 958 = .ok (.iconst 2, 1) := by decide +kernel
theorem dl_959 : decode code 959 = .ok (.iadd, 1) := by decide +kernel
theorem dl_960 : decode code 960 = .ok (.iaload, 1) := by decide +kernel
theorem dl_961 : decode code 961 = .ok (.aload_n 0, 1) := by decide +kernel
theorem dl_962 : decode code 962 = .ok (.iload_n 3, 1) := by decide +kernel
theorem dl_963 : decode code 963 = .ok (.iconst 3, 1) := by decide +kernel
theorem dl_964 : decode code 964 = .ok (.iadd, 1) := by decide +kernel
theorem dl_965 : decode code 965 = .ok (.iaload, 1) := by decide +kernel
theorem dl_966 : decode code 966 = .ok (.aload_n 0, 1) := by decide +kernel
theorem dl_967 : decode code 967 = .ok (.iload_n 3, 1) := by decide +kernel
theorem dl_968 : decode code 968 = .ok (.iconst 4, 1) := by decide +kernel
theorem dl_969 : decode code 969 = .ok (.iadd, 1) := by decide +kernel
theorem dl_970 : decode code 970 = .ok (.iaload, 1) := by decide +kernel
theorem dl_971 : decode code 971 = .ok (.invokevirtual 116, 3) := by decide +kernel
theorem dl_974 : decode code 974 = .ok (.pop2, 1) := by decide +kernel
theorem dl_975 : decode code 975 = .ok (.aload_n 2, 1) := by decide +kernel
theorem dl_976 : decode code 976 = .ok (.aload_n 0, 1) := by decide +kernel
theorem dl_977 : decode code 977 = .ok (.iload_n 3, 1) := by decide +kernel
theorem dl_978 : decode code 978 = .ok (.iconst 1, 1) := by decide +kernel
theorem dl_979 : decode code 979 = .ok (.iadd, 1) := by decide +kernel
theorem dl_980 : decode code 980 = .ok (.iaload, 1) := by decide +kernel
theorem dl_981 : decode code 981 = .ok (.aload_n 0, 1) := by decide +kernel
theorem dl_982 : decode code 982 = .ok (.iload_n 3, 1) := by decide +kernel
theorem dl_983 : decode code 983 = .ok (.iconst 2, 1) := by decide +kernel
theorem dl_984 : decode code 984 = .ok (.iadd, 1) := by decide +kernel
theorem dl_985 : decode code 985 = .ok (.iaload, 1) := by decide +kernel
theorem dl_986 : decode code 986 = .ok (.aload_n 0, 1) := by decide +kernel
theorem dl_987 : decode code 987 = .ok (.iload_n 3, 1) := by decide +kernel
theorem dl_988 : decode code 988 = .ok (.iconst 3, 1) := by decide +kernel
theorem dl_989 : decode code 989 = .ok (.iadd, 1) := by decide +kernel
theorem dl_990 : decode code 990 = .ok (.iaload, 1) := by decide +kernel
theorem dl_991 : decode code 991 = .ok (.aload_n 0, 1) := by decide +kernel
theorem dl_992 : decode code 992 = .ok (.iload_n 3, 1) := by decide +kernel
theorem dl_993 : decode code 993 = .ok (.iconst 4, 1) := by decide +kernel
theorem dl_994 : decode code 994 = .ok (.iadd, 1) := by decide +kernel
theorem dl_995 : decode code 995 = .ok (.iaload, 1) := by decide +kernel
theorem dl_996 : decode code 996 = .ok (.invokevirtual 120, 3) := by decide +kernel
theorem dl_999 : decode code 999 = .ok (.pop2, 1) := by decide +kernel
theorem dl_1000 : decode code 1000 = .ok (.goto 359, 3) := by decide +kernel
theorem dl_1003 : decode code 1003 = .ok (.aload_n 1, 1) := by decide +kernel
theorem dl_1004 : decode code 1004 = .ok (.aload_n 0, 1) := by decide +kernel
theorem dl_1005 : decode code 1005 = .ok (.iload_n 3, 1) := by decide +kernel
theorem dl_1006 : decode code 1006 = .ok (.iconst 1, 1) := by decide +kernel
theorem dl_1007 : decode code 1007 = .ok (.iadd, 1) := by decide +kernel
theorem dl_1008 : decode code 1008 = .ok (.iaload, 1) := by decide +kernel
theorem dl_1009 : decode code 1009 = .ok (.invokevirtual 121, 3) := by decide +kernel
theorem dl_1012 : decode code 1012 = .ok (.pop, 1) := by decide +kernel
theorem dl_1013 : decode code 1013 = .ok (.aload_n 2, 1) := by decide +kernel
theorem dl_1014 : decode code 1014 = .ok (.aload_n 0, 1) := by decide +kernel
theorem dl_1015 : decode code 1015 = .ok (.iload_n 3, 1) := by decide +kernel
theorem dl_1016 : decode code 1016 = .ok (.iconst 1, 1) := by decide +kernel
theorem dl_1017 : decode code 1017 = .ok (.iadd, 1) := by decide +kernel
theorem dl_1018 : decode code 1018 = .ok (.iaload, 1) := by decide +kernel
theorem dl_1019 : decode code 1019 = .ok (.invokevirtual 124, 3) := by decide +kernel
theorem dl_1022 : decode code 1022 = .ok (.pop, 1) := by decide +kernel
theorem dl_1023 : decode code 1023 = .ok (.goto 336, 3) := by decide +kernel
theorem dl_1026 : decode code 1026 = .ok (.aload_n 1, 1) := by decide +kernel
theorem dl_1027 : decode code 1027 = .ok (.aload_n 0, 1) := by decide +kernel
theorem dl_1028 : decode code 1028 = .ok (.iload_n 3, 1) := by decide +kernel
theorem dl_1029 : decode code 1029 = .ok (.iconst 1, 1) := by decide +kernel
theorem dl_1030 : decode code 1030 = .ok (.iadd, 1) := by decide +kernel
theorem dl_1031 : decode code 1031 = .ok (.iaload, 1) := by decide +kernel
theorem dl_1032 : decode code 1032 = .ok (.aload_n 0, 1) := by decide +kernel
theorem dl_1033 : decode code 1033 = .ok (.iload_n 3, 1) := by decide +kernel
theorem dl_1034 : decode code 1034 = .ok (.iconst 2, 1) := by decide +kernel
theorem dl_1035 : decode code 1035 = .ok (.iadd, 1) := by decide +kernel
theorem dl_1036 : decode code 1036 = .ok (.iaload, 1) := by decide +kernel
theorem dl_1037 : decode code 1037 = .ok (.invokevirtual 125, 3) := by decide +kernel
theorem dl_1040 : decode code 1040 = .ok (.pop, 1) := by decide +kernel
theorem dl_1041 : decode code 1041 = .ok (.aload_n 2, 1) := by decide +kernel
theorem dl_1042 : decode code 1042 = .ok (.aload_n 0, 1) := by decide +kernel
theorem dl_1043 : decode code 1043 = .ok (.iload_n 3, 1) := by decide +kernel
theorem dl_1044 : decode code 1044 = .ok (.iconst 1, 1) := by decide +kernel
theorem dl_1045 : decode code 1045 = .ok (.iadd, 1) := by decide +kernel
theorem dl_1046 : decode code 1046 = .ok (.iaload, 1) := by decide +kernel
theorem dl_1047 : decode code 1047 = .ok (.aload_n 0, 1) := by decide +kernel
theorem dl_1048 : decode code 1048 = .ok (.iload_n 3, 1) := by decide +kernel
theorem dl_1049 : decode code 1049 = .ok (.iconst 2, 1) := by decide +kernel
theorem dl_1050 : decode code 1050 = .ok (.iadd, 1) := by decide +kernel
theorem dl_1051 : decode code 1051 = .ok (.iaload, 1) := by decide +kernel
theorem dl_1052 : decode code 1052 = .ok (.invokevirtual 128, 3) := by decide +kernel
theorem dl_1055 : decode code 1055 = .ok (.pop, 1) := by decide +kernel
theorem dl_1056 : decode code 1056 = .ok (.goto 303, 3) := by decide +kernel
theorem dl_1059 : decode code 1059 = .ok (.aload_n 1, 1) := by decide +kernel
theorem dl_1060 : decode code 1060 = .ok (.aload_n 0, 1) := by decide +kernel
theorem dl_1061 : decode code 1061 = .ok (.iload_n 3, 1) := by decide +kernel
theorem dl_1062 : decode code 1062 = .ok (.iconst 1, 1) := by decide +kernel
theorem dl_1063 : decode code 1063 = .ok (.iadd, 1) := by decide +kernel
theorem dl_1064 : decode code 1064 = .ok (.iaload, 1) := by decide +kernel
theorem dl_1065 : decode code 1065 = .ok (.invokevirtual 129, 3) := by decide +kernel
theorem dl_1068 : decode code 1068 = .ok (.pop, 1) := by decide +kernel
theorem dl_1069 : decode code 1069 = .ok (.aload_n 2, 1) := by decide +kernel
theorem dl_1070 : decode code 1070 = .ok (.aload_n 0, 1) := by decide +kernel
theorem dl_1071 : decode code 1071 = .ok (.iload_n 3, 1) := by decide +kernel
theorem dl_1072 : decode code 1072 = .ok (.iconst 1, 1) := by decide +kernel
theorem dl_1073 : decode code 1073 = .ok (.iadd, 1) := by decide +kernel
theorem dl_1074 : decode code 1074 = .ok (.iaload, 1) := by decide +kernel
theorem dl_1075 : decode code 1075 = .ok (.invokevirtual 132, 3) := by decide +kernel
theorem dl_1078 : decode code 1078 = .ok (.pop, 1) := by decide +kernel
theorem dl_1079 : decode code 1079 = .ok (.goto 280, 3) := by decide +kernel
theorem dl_1082 : decode code 1082 = .ok (.aload_n 1, 1) := by decide +kernel
theorem dl_1083 : decode code 1083 = .ok (.aload_n 0, 1) := by decide +kernel
theorem dl_1084 : decode code 1084 = .ok (.iload_n 3, 1) := by decide +kernel
theorem dl_1085 : decode code 1085 = .ok (.iconst 1, 1) := by decide +kernel
theorem dl_1086 : decode code 1086 = .ok (.iadd, 1) := by decide +kernel
theorem dl_1087 : decode code 1087 = .ok (.iaload, 1) := by decide +kernel
theorem dl_1088 : decode code 1088 = .ok (.invokevirtual 133, 3) := by decide +kernel
theorem dl_1091 : decode code 1091 = .ok (.pop, 1) := by decide +kernel
theorem dl_1092 : decode code 1092 = .ok (.aload_n 2, 1) := by decide +kernel
theorem dl_1093 : decode code 1093 = .ok (.aload_n 0, 1) := by decide +kernel
theorem dl_1094 : decode code 1094 = .ok (.iload_n 3, 1) := by decide +kernel
theorem dl_1095 : decode code 1095 = .ok (.iconst 1, 1) := by decide +kernel
theorem dl_1096 : decode code 1096 = .ok (.iadd, 1) := by decide +kernel
theorem dl_1097 : decode code 1097 = .ok (.iaload, 1) := by decide +kernel
theorem dl_1098 : decode code 1098 = .ok (.invokevirtual 136, 3) := by decide +kernel
theorem dl_1101 : decode code 1101 = .ok (.pop, 1) := by decide +kernel
theorem dl_1102 : decode code 1102 = .ok (.goto 257, 3) := by decide +kernel
theorem dl_1105 : decode code 1105 = .ok (.aload_n 1, 1) := by decide +kernel
theorem dl_1106 : decode code 1106 = .ok (.aload_n 0, 1) := by decide +kernel
theorem dl_1107 : decode code 1107 = .ok (.iload_n 3, 1) := by decide +kernel
theorem dl_1108 : decode code 1108 = .ok (.iconst 1, 1) := by decide +kernel
theorem dl_1109 : decode code 1109 = .ok (.iadd, 1) := by decide +kernel
theorem dl_1110 : decode code 1110 = .ok (.iaload, 1) := by decide +kernel
theorem dl_1111 : decode code 1111 = .ok (.aload_n 0, 1) := by decide +kernel
theorem dl_1112 : decode code 1112 = .ok (.iload_n 3, 1) := by decide +kernel
theorem dl_1113 : decode code 1113 = .ok (.iconst 2, 1) := by decide +kernel
theorem dl_1114 : decode code 1114 = .ok (.iadd, 1) := by decide +kernel
theorem dl_1115 : decode code 1115 = .ok (.iaload, 1) := by decide +kernel
theorem dl_1116 : decode code 1116 = .ok (.invokevirtual 137, 3) := by decide +kernel
theorem dl_1119 : decode code 1119 = .ok (.pop, 1) := by decide +kernel
theorem dl_1120 : decode code 1120 = .ok (.aload_n 2, 1) := by decide +kernel
theorem dl_1121 : decode code 1121 = .ok (.aload_n 0, 1) := by decide +kernel
theorem dl_1122 : decode code 1122 = .ok (.iload_n 3, 1) := by decide +kernel
theorem dl_1123 : decode code 1123 = .ok (.iconst 1, 1) := by decide +kernel
theorem dl_1124 : decode code 1124 = .ok (.iadd, 1) := by decide +kernel
theorem dl_1125 : decode code 1125 = .ok (.iaload, 1) := by decide +kernel
theorem dl_1126 : decode code 1126 = .ok (.aload_n 0, 1) := by decide +kernel
theorem dl_1127 : decode code 1127 = .ok (.iload_n 3, 1) := by decide +kernel
theorem dl_1128 : decode code 1128 = .ok (.iconst 2, 1) := by decide +kernel
theorem dl_1129 : decode code 1129 = .ok (.iadd, 1) := by decide +kernel
theorem dl_1130 : decode code 1130 = .ok (.iaload, 1) := by decide +kernel
theorem dl_1131 : decode code 1131 = .ok (.invokevirtual 140, 3) := by decide +kernel
theorem dl_1134 : decode code 1134 = .ok (.pop, 1) := by decide +kernel
theorem dl_1135 : decode code 1135 = .ok (.goto 224, 3) := by decide +kernel
theorem dl_1138 : decode code 1138 = .ok (.aload_n 1, 1) := by decide +kernel
theorem dl_1139 : decode code 1139 = .ok (.aload_n 0, 1) := by decide +kernel
theorem dl_1140 : decode code 1140 = .ok (.iload_n 3, 1) := by decide +kernel
theorem dl_1141 : decode code 1141 = .ok (.iconst 1, 1) := by decide +kernel
theorem dl_1142 : decode code 1142 = .ok (.iadd, 1) := by decide +kernel
theorem dl_1143 : decode code 1143 = .ok (.iaload, 1) := by decide +kernel
theorem dl_1144 : decode code 1144 = .ok (.invokevirtual 141, 3) := by decide +kernel
theorem dl_1147 : decode code 1147 = .ok (.pop, 1) := by decide +kernel
theorem dl_1148 : decode code 1148 = .ok (.aload_n 2, 1) := by decide +kernel
theorem dl_1149 : decode code 1149 = .ok (.aload_n 0, 1) := by decide +kernel
theorem dl_1150 : decode code 1150 = .ok (.iload_n 3, 1) := by decide +kernel
theorem dl_1151 : decode code 1151 = .ok (.iconst 1, 1) := by decide +kernel
theorem dl_1152 : decode code 1152 = .ok (.iadd, 1) := by decide +kernel
theorem dl_1153 : decode code 1153 = .ok (.iaload, 1) := by decide +kernel
theorem dl_1154 : decode code 1154 = .ok (.invokevirtual 144, 3) := by decide +kernel
theorem dl_1157 : decode code 1157 = .ok (.pop, 1) := by decide +kernel
theorem dl_1158 : decode code 1158 = .ok (.goto 201, 3) := by decide +kernel
theorem dl_1161 : decode code 1161 = .ok (.aload_n 1, 1) := by decide +kernel
theorem dl_1162 : decode code 1162 = .ok (.aload_n 0, 1) := by decide +kernel
theorem dl_1163 : decode code 1163 = .ok (.iload_n 3, 1) := by decide +kernel
theorem dl_1164 : decode code 1164 = .ok (.iconst 1, 1) := by decide +kernel
theorem dl_1165 : decode code 1165 = .ok (.iadd, 1) := by decide +kernel
theorem dl_1166 : decode code 1166 = .ok (.iaload, 1) := by decide +kernel
theorem dl_1167 : decode code 1167 = .ok (.invokevirtual 145, 3) := by decide +kernel
theorem dl_1170 : decode code 1170 = .ok (.pop, 1) := by decide +kernel
theorem dl_1171 : decode code 1171 = .ok (.aload_n 2, 1) := by decide +kernel
theorem dl_1172 : decode code 1172 = .ok (.aload_n 0, 1) := by decide +kernel
theorem dl_1173 : decode code 1173 = .ok (.iload_n 3, 1) := by decide +kernel
theorem dl_1174 : decode code 1174 = .ok (.iconst 1, 1) := by decide +kernel
theorem dl_1175 : decode code 1175 = .ok (.iadd, 1) := by decide +kernel
theorem dl_1176 : decode code 1176 = .ok (.iaload, 1) := by decide +kernel
theorem dl_1177 : decode code 1177 = .ok (.invokevirtual 148, 3) := by decide +kernel
theorem dl_1180 : decode code 1180 = .ok (.pop, 1) := by decide +kernel
theorem dl_1181 : decode code 1181 = .ok (.goto 178, 3) := by decide +kernel
theorem dl_1184 : decode code 1184 = .ok (.aload_n 1, 1) := by decide +kernel
theorem dl_1185 : decode code 1185 = .ok (.aload_n 0, 1) := by decide +kernel
theorem dl_1186 : decode code 1186 = .ok (.iload_n 3, 1) := by decide +kernel
theorem dl_1187 : decode code 1187 = .ok (.iconst 1, 1) := by decide +kernel
theorem dl_1188 : decode code 1188 = .ok (.iadd, 1) := by decide +kernel
theorem dl_1189 : decode code 1189 = .ok (.iaload, 1) := by decide +kernel
theorem dl_1190 : decode code 1190 = .ok (.aload_n 0, 1) := by decide +kernel
theorem dl_1191 : decode code 1191 = .ok (.iload_n 3, 1) := by decide +kernel
theorem dl_1192 : decode code 1192 = .ok (.iconst 2, 1) := by decide +kernel
theorem dl_1193 : decode code 1193 = .ok (.iadd, 1) := by decide +kernel
theorem dl_1194 : decode code 1194 = .ok (.iaload, 1) := by decide +kernel
theorem dl_1195 : decode code 1195 = .ok (.aload_n 0, 1) := by decide +kernel
theorem dl_1196 : decode code 1196 = .ok (.iload_n 3, 1) := by decide +kernel
theorem dl_1197 : decode code 1197 = .ok (.iconst 3, 1) := by decide +kernel
theorem dl_1198 : decode code 1198 = .ok (.iadd, 1) := by decide +kernel
theorem dl_1199 : decode code 1199 = .ok (.iaload, 1) := by decide +kernel
theorem dl_1200 : decode code 1200 = .ok (.invokevirtual 149, 3) := by decide +kernel
theorem dl_1203 : decode code 1203 = .ok (.pop, 1) := by decide +kernel
theorem dl_1204 : decode code 1204 = .ok (.aload_n 2, 1) := by decide +kernel
theorem dl_1205 : decode code 1205 = .ok (.aload_n 0, 1) := by decide +kernel
theorem dl_1206 : decode code 1206 = .ok (.iload_n 3, 1) := by decide +kernel
theorem dl_1207 : decode code 1207 = .ok (.iconst 1, 1) := by decide +kernel
theorem dl_1208 : decode code 1208 = .ok (.iadd, 1) := by decide +kernel
theorem dl_1209 : decode code 1209 = .ok (.iaload, 1) := by decide +kernel
theorem dl_1210 : decode code 1210 = .ok (.aload_n 0, 1) := by decide +kernel
theorem dl_1211 : decode code 1211 = .ok (.iload_n 3, 1) := by decide +kernel
theorem dl_1212 : decode code 1212 = .ok (.iconst 2, 1) := by decide +kernel
theorem dl_1213 : decode code 1213 = .ok (.iadd, 1) := by decide +kernel
theorem dl_1214 : decode code 1214 = .ok (.iaload, 1) := by decide +kernel
theorem dl_1215 : decode code 1215 = .ok (.aload_n 0, 1) := by decide +kernel
theorem dl_1216 : decode code 1216 = .ok (.iload_n 3, 1) := by decide +kernel
theorem dl_1217 : decode code 1217 = .ok (.iconst 3, 1) := by decide +kernel
theorem dl_1218 : decode code 1218 = .ok (.iadd, 1) := by decide +kernel
theorem dl_1219 : decode code 1219 = .ok (.iaload, 1) := by decide +kernel
theorem dl_1220 : decode code 1220 = .ok (.invokevirtual 152, 3) := by decide +kernel
theorem dl_1223 : decode code 1223 = .ok (.pop, 1) := by decide +kernel
theorem dl_1224 : decode code 1224 = .ok (.goto 135, 3) := by decide +kernel
theorem dl_1227 : decode code 1227 = .ok (.aload_n 1, 1) := by decide +kernel
theorem dl_1228 : decode code 1228 = .ok (.aload_n 0, 1) := by decide +kernel
theorem dl_1229 : decode code 1229 = .ok (.iload_n 3, 1) := by decide +kernel
theorem dl_1230 : decode code 1230 = .ok (.iconst 1, 1) := by decide +kernel
theorem dl_1231 : decode code 1231 = .ok (.iadd, 1) := by decide +kernel
theorem dl_1232 : decode code 1232 = .ok (.iaload, 1) := by decide +kernel
theorem dl_1233 : decode code 1233 = .ok (.aload_n 0, 1) := by decide +kernel
theorem dl_1234 : decode code 1234 = .ok (.iload_n 3, 1) := by decide +kernel
theorem dl_1235 : decode code 1235 = .ok (.iconst 2, 1) := by decide +kernel
theorem dl_1236 : decode code 1236 = .ok (.iadd, 1) := by decide +kernel
theorem dl_1237 : decode code 1237 = .ok (.iaload, 1) := by decide +kernel
theorem dl_1238 : decode code 1238 = .ok (.aload_n 0, 1) := by decide +kernel
theorem dl_1239 : decode code 1239 = .ok (.iload_n 3, 1) := by decide +kernel
theorem dl_1240 : decode code 1240 = .ok (.iconst 3, 1) := by decide +kernel
theorem dl_1241 : decode code 1241 = .ok (.iadd, 1) := by decide +kernel
theorem dl_1242 : decode code 1242 = .ok (.iaload, 1) := by decide +kernel
theorem dl_1243 : decode code 1243 = .ok (.invokevirtual 153, 3) := by decide +kernel
theorem dl_1246 : decode code 1246 = .ok (.pop, 1) := by decide +kernel
theorem dl_1247 : decode code 1247 = .ok (.aload_n 2, 1) := by decide +kernel
theorem dl_1248 : decode code 1248 = .ok (.aload_n 0, 1) := by decide +kernel
theorem dl_1249 : decode code 1249 = .ok (.iload_n 3, 1) := by decide +kernel
theorem dl_1250 : decode code 1250 = .ok (.iconst 1, 1) := by decide +kernel
theorem dl_1251 : decode code 1251 = .ok (.iadd, 1) := by decide +kernel
theorem dl_1252 : decode code 1252 = .ok (.iaload, 1) := by decide +kernel
theorem dl_1253 : decode code 1253 = .ok (.aload_n 0, 1) := by decide +kernel
theorem dl_1254 : decode code 1254 = .ok (.iload_n 3, 1) := by decide +kernel
theorem dl_1255 : decode code 1255 = .ok (.iconst 2, 1) := by decide +kernel
theorem dl_1256 : decode code 1256 = .ok (.iadd, 1) := by decide +kernel
theorem dl_1257 : decode code 1257 = .ok (.iaload, 1) := by decide +kernel
theorem dl_1258 : decode code 1258 = .ok (.aload_n 0, 1) := by decide +kernel
theorem dl_1259 : decode code 1259 = .ok (.iload_n 3, 1) := by decide +kernel
theorem dl_1260 : decode code 1260 = .ok (.iconst 3, 1) := by decide +kernel
theorem dl_1261 : decode code 1261 = .ok (.iadd, 1) := by decide +kernel
theorem dl_1262 : decode code 1262 = .ok (.iaload, 1) := by decide +kernel
theorem dl_1263 : decode code 1263 = .ok (.invokevirtual 156, 3) := by decide +kernel
theorem dl_1266 : decode code 1266 = .ok (.pop, 1) := by decide +kernel
theorem dl_1267 : decode code 1267 = .ok (.goto 92, 3) := by decide +kernel
theorem dl_1270 : decode code 1270 = .ok (.aload_n 1, 1) := by decide +kernel
theorem dl_1271 : decode code 1271 = .ok (.aload_n 0, 1) := by decide +kernel
theorem dl_1272 : decode code 1272 = .ok (.iload_n 3, 1) := by decide +kernel
theorem dl_1273 : decode code 1273 = .ok (.iconst 1, 1) := by decide +kernel
theorem dl_1274 : decode code 1274 = .ok (.iadd, 1) := by decide +kernel
theorem dl_1275 : decode code 1275 = .ok (.iaload, 1) := by decide +kernel
theorem dl_1276 : decode code 1276 = .ok (.aload_n 0, 1) := by decide +kernel
theorem dl_1277 : decode code 1277 = .ok (.iload_n 3, 1) := by decide +kernel
theorem dl_1278 : decode code 1278 = .ok (.iconst 2, 1) := by decide +kernel
theorem dl_1279 : decode code 1279 = .ok (.iadd, 1) := by decide +kernel
theorem dl_1280 : decode code 1280 = .ok (.iaload, 1) := by decide +kernel
theorem dl_1281 : decode code 1281 = .ok (.aload_n 0, 1) := by decide +kernel
theorem dl_1282 : decode code 1282 = .ok (.iload_n 3, 1) := by decide +kernel
theorem dl_1283 : decode code 1283 = .ok (.iconst 3, 1) := by decide +kernel
theorem dl_1284 : decode code 1284 = .ok (.iadd, 1) := by decide +kernel
theorem dl_1285 : decode code 1285 = .ok (.iaload, 1) := by decide +kernel
theorem dl_1286 : decode code 1286 = .ok (.aload_n 0, 1) := by decide +kernel
theorem dl_1287 : decode code 1287 = .ok (.iload_n 3, 1) := by decide +kernel
theorem dl_1288 : decode code 1288 = .ok (.iconst 4, 1) := by decide +kernel
theorem dl_1289 : decode code 1289 = .ok (.iadd, 1) := by decide +kernel
theorem dl_1290 : decode code 1290 = .ok (.iaload, 1) := by decide +kernel
theorem dl_1291 : decode code 1291 = .ok (.invokevirtual 157, 3) := by decide +kernel
theorem dl_1294 : decode code 1294 = .ok (.pop, 1) := by decide +kernel
theorem dl_1295 : decode code 1295 = .ok (.aload_n 2, 1) := by decide +kernel
theorem dl_1296 : decode code 1296 = .ok (.aload_n 0, 1) := by decide +kernel
theorem dl_1297 : decode code 1297 = .ok (.iload_n 3, 1) := by decide +kernel
theorem dl_1298 : decode code 1298 = .ok (.iconst 1, 1) := by decide +kernel
theorem dl_1299 : decode code 1299 = .ok (.iadd, 1) := by decide +kernel
theorem dl_1300 : decode code 1300 = .ok (.iaload, 1) := by decide +kernel
theorem dl_1301 : decode code 1301 = .ok (.aload_n 0, 1) := by decide +kernel
theorem dl_1302 : decode code 1302 = .ok (.iload_n 3, 1) := by decide +kernel
theorem dl_1303 : decode code 1303 = .ok (.iconst 2, 1) := by decide +kernel
theorem dl_1304 : decode code 1304 = .ok (.iadd, 1) := by decide +kernel
theorem dl_1305 : decode code 1305 = .ok (.iaload, 1) := by decide +kernel
theorem dl_1306 : decode code 1306 = .ok (.aload_n 0, 1) := by decide +kernel
theorem dl_1307 : decode code 1307 = .ok (.iload_n 3, 1) := by decide +kernel
theorem dl_1308 : decode code 1308 = .ok (.iconst 3, 1) := by decide +kernel
theorem dl_1309 : decode code 1309 = .ok (.iadd, 1) := by decide +kernel
theorem dl_1310 : decode code 1310 = .ok (.iaload, 1) := by decide +kernel
theorem dl_1311 : decode code 1311 = .ok (.aload_n 0, 1) := by decide +kernel
theorem dl_1312 : decode code 1312 = .ok (.iload_n 3, 1) := by decide +kernel
theorem dl_1313 : decode code 1313 = .ok (.iconst 4, 1) := by decide +kernel
theorem dl_1314 : decode code 1314 = .ok (.iadd, 1) := by decide +kernel
theorem dl_1315 : decode code 1315 = .ok (.iaload, 1) := by decide +kernel
theorem dl_1316 : decode code 1316 = .ok (.invokevirtual 160, 3) := by decide +kernel
theorem dl_1319 : decode code 1319 = .ok (.pop, 1) := by decide +kernel
theorem dl_1320 : decode code 1320 = .ok (.goto 39, 3) := by decide +kernel
theorem dl_1323 : decode code 1323 = .ok (.aload_n 1, 1) := by decide +kernel
theorem dl_1324 : decode code 1324 = .ok (.invokevirtual 161, 3) := by decide +kernel
theorem dl_1327 : decode code 1327 = .ok (.pop, 1) := by decide +kernel
theorem dl_1328 : decode code 1328 = .ok (.aload_n 2, 1) := by decide +kernel
theorem dl_1329 : decode code 1329 = .ok (.invokevirtual 164, 3) := by decide +kernel
theorem dl_1332 : decode code 1332 = .ok (.pop, 1) := by decide +kernel
theorem dl_1333 : decode code 1333 = .ok (.goto 26, 3) := by decide +kernel
theorem dl_1336 : decode code 1336 = .ok (.aload_n 1, 1) := by decide +kernel
theorem dl_1337 : decode code 1337 = .ok (.aload_n 0, 1) := by decide +kernel
theorem dl_1338 : decode code 1338 = .ok (.iload_n 3, 1) := by decide +kernel
theorem dl_1339 : decode code 1339 = .ok (.iconst 1, 1) := by decide +kernel
theorem dl_1340 : decode code 1340 = .ok (.iadd, 1) := by decide +kernel
theorem dl_1341 : decode code 1341 = .ok (.iaload, 1) := by decide +kernel
theorem dl_1342 : decode code 1342 = .ok (.invokevirtual 165, 3) := by decide +kernel
theorem dl_1345 : decode code 1345 = .ok (.pop, 1) := by decide +kernel
theorem dl_1346 : decode code 1346 = .ok (.aload_n 2, 1) := by decide +kernel
theorem dl_1347 : decode code 1347 = .ok (.aload_n 0, 1) := by decide +kernel
theorem dl_1348 : decode code 1348 = .ok (.iload_n 3, 1) := by decide +kernel
theorem dl_1349 : decode code 1349 = .ok (.iconst 1, 1) := by decide +kernel
theorem dl_1350 : decode code 1350 = .ok (.iadd, 1) := by decide +kernel
theorem dl_1351 : decode code 1351 = .ok (.iaload, 1) := by decide +kernel
theorem dl_1352 : decode code 1352 = .ok (.invokevirtual 168, 3) := by decide +kernel
theorem dl_1355 : decode code 1355 = .ok (.pop, 1) := by decide +kernel
theorem dl_1356 : decode code 1356 = .ok (.goto 3, 3) := by decide +kernel
theorem dl_1359 : decode code 1359 = .ok (.iinc 3 5, 3) := by decide +kernel
theorem dl_1362 : decode code 1362 = .ok (.goto (-1344), 3) := by decide +kernel
theorem dl_1365 : decode code 1365 = .ok (.iconst 1, 1) := by decide +kernel
theorem dl_1366 : decode code 1366 = .ok (.ireturn, 1) := by decide +kernel
