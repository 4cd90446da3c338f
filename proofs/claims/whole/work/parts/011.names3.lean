theorem dX6_init_232 : decode cX6_init 232 = .ok (.bipush 109, 2) := by decide +kernel
theorem dX6_init_234 : decode cX6_init 234 = .ok (.iconst 0, 1) := by decide +kernel
theorem dX6_init_235 : decode cX6_init 235 = .ok (.iconst 0, 1) := by decide +kernel
theorem dX6_init_236 : decode cX6_init 236 = .ok (.invokestatic 34, 3) := by decide +kernel
theorem dX6_init_239 : decode cX6_init 239 = .ok (.iastore, 1) := by decide +kernel
theorem dX6_init_240 : decode cX6_init 240 = .ok (.aload_n 0, 1) := by decide +kernel
theorem dX6_init_241 : decode cX6_init 241 = .ok (.getfield 13, 3) := by decide +kernel
theorem dX6_init_244 : decode cX6_init 244 = .ok (.bipush 9, 2) := by decide +kernel
theorem dX6_init_246 : decode cX6_init 246 = .ok (.bipush 117, 2) := by decide +kernel
theorem dX6_init_248 : decode cX6_init 248 = .ok (.bipush 110, 2) := by decide +kernel
theorem dX6_init_250 : decode cX6_init 250 = .ok (.bipush 116, 2) := by decide +kernel
theorem dX6_init_252 : decode cX6_init 252 = .ok (.bipush 105, 2) := by decide +kernel
theorem dX6_init_254 : decode cX6_init 254 = .ok (.bipush 108, 2) := by decide +kernel
theorem dX6_init_256 : decode cX6_init 256 = .ok (.iconst 0, 1) := by decide +kernel
theorem dX6_init_257 : decode cX6_init 257 = .ok (.invokestatic 34, 3) := by decide +kernel
theorem dX6_init_260 : decode cX6_init 260 = .ok (.iastore, 1) := by decide +kernel
theorem dX6_init_261 : decode cX6_init 261 = .ok (.aload_n 0, 1) := by decide +kernel
theorem dX6_init_262 : decode cX6_init 262 = .ok (.getfield 13, 3) := by decide +kernel
theorem dX6_init_265 : decode cX6_init 265 = .ok (.bipush 10, 2) := by decide +kernel
theorem dX6_init_267 : decode cX6_init 267 = .ok (.bipush 97, 2) := by decide +kernel
theorem dX6_init_269 : decode cX6_init 269 = .ok (.bipush 103, 2) := by decide +kernel
theorem dX6_init_271 : decode cX6_init 271 = .ok (.bipush 101, 2) := by decide +kernel
theorem dX6_init_273 : decode cX6_init 273 = .ok (.iconst 0, 1) := by decide +kernel
theorem dX6_init_274 : decode cX6_init 274 = .ok (.iconst 0, 1) := by decide +kernel
theorem dX6_init_275 : decode cX6_init 275 = .ok (.iconst 0, 1) := by decide +kernel
theorem dX6_init_276 : decode cX6_init 276 = .ok (.invokestatic 34, 3) := by decide +kernel
theorem dX6_init_279 : decode cX6_init 279 = .ok (.iastore, 1) := by decide +kernel
theorem dX6_init_280 : decode cX6_init 280 = .ok (.aload_n 0, 1) := by decide +kernel
theorem dX6_init_281 : decode cX6_init 281 = .ok (.getfield 13, 3) := by decide +kernel
theorem dX6_init_284 : decode cX6_init 284 = .ok (.bipush 11, 2) := by decide +kernel
theorem dX6_init_286 : decode cX6_init 286 = .ok (.bipush 105, 2) := by decide +kernel
theorem dX6_init_288 : decode cX6_init 288 = .ok (.bipush 110, 2) := by decide +kernel
theorem dX6_init_290 : decode cX6_init 290 = .ok (.bipush 99, 2) := by decide +kernel
theorem dX6_init_292 : decode cX6_init 292 = .ok (.bipush 111, 2) := by decide +kernel
theorem dX6_init_294 : decode cX6_init 294 = .ok (.bipush 109, 2) := by decide +kernel
theorem dX6_init_296 : decode cX6_init 296 = .ok (.bipush 101, 2) := by decide +kernel
theorem dX6_init_298 : decode cX6_init 298 = .ok (.invokestatic 34, 3) := by decide +kernel
theorem dX6_init_301 : decode cX6_init 301 = .ok (.iastore, 1) := by decide +kernel
theorem dX6_init_302 : decode cX6_init 302 = .ok (.aload_n 0, 1) := by decide +kernel
theorem dX6_init_303 : decode cX6_init 303 = .ok (.getfield 13, 3) := by decide +kernel
theorem dX6_init_306 : decode cX6_init 306 = .ok (.bipush 12, 2) := by decide +kernel
theorem dX6_init_308 : decode cX6_init 308 = .ok (.bipush 115, 2) := by decide +kernel
theorem dX6_init_310 : decode cX6_init 310 = .ok (.bipush 105, 2) := by decide +kernel
theorem dX6_init_312 : decode cX6_init 312 = .ok (.bipush 122, 2) := by decide +kernel
theorem dX6_init_314 : decode cX6_init 314 = .ok (.bipush 101, 2) := by decide +kernel
theorem dX6_init_316 : decode cX6_init 316 = .ok (.iconst 0, 1) := by decide +kernel
theorem dX6_init_317 : decode cX6_init 317 = .ok (.iconst 0, 1) := by decide +kernel
theorem dX6_init_318 : decode cX6_init 318 = .ok (.invokestatic 34, 3) := by decide +kernel
theorem dX6_init_321 : decode cX6_init 321 = .ok (.iastore, 1) := by decide +kernel
theorem dX6_init_322 : decode cX6_init 322 = .ok (.aload_n 0, 1) := by decide +kernel
theorem dX6_init_323 : decode cX6_init 323 = .ok (.getfield 13, 3) := by decide +kernel
theorem dX6_init_326 : decode cX6_init 326 = .ok (.bipush 13, 2) := by decide +kernel
theorem dX6_init_328 : decode cX6_init 328 = .ok (.bipush 99, 2) := by decide +kernel
theorem dX6_init_330 : decode cX6_init 330 = .ok (.bipush 111, 2) := by decide +kernel
theorem dX6_init_332 : decode cX6_init 332 = .ok (.bipush 117, 2) := by decide +kernel
theorem dX6_init_334 : decode cX6_init 334 = .ok (.bipush 110, 2) := by decide +kernel
theorem dX6_init_336 : decode cX6_init 336 = .ok (.bipush 116, 2) := by decide +kernel
theorem dX6_init_338 : decode cX6_init 338 = .ok (.iconst 0, 1) := by decide +kernel
theorem dX6_init_339 : decode cX6_init 339 = .ok (.invokestatic 34, 3) := by decide +kernel
theorem dX6_init_342 : decode cX6_init 342 = .ok (.iastore, 1) := by decide +kernel
theorem dX6_init_343 : decode cX6_init 343 = .ok (.aload_n 0, 1) := by decide +kernel
theorem dX6_init_344 : decode cX6_init 344 = .ok (.getfield 13, 3) := by decide +kernel
theorem dX6_init_347 : decode cX6_init 347 = .ok (.bipush 14, 2) := by decide +kernel
theorem dX6_init_349 : decode cX6_init 349 = .ok (.bipush 98, 2) := by decide +kernel
theorem dX6_init_351 : decode cX6_init 351 = .ok (.bipush 105, 2) := by decide +kernel
theorem dX6_init_353 : decode cX6_init 353 = .ok (.bipush 114, 2) := by decide +kernel
theorem dX6_init_355 : decode cX6_init 355 = .ok (.bipush 116, 2) := by decide +kernel
theorem dX6_init_357 : decode cX6_init 357 = .ok (.bipush 104, 2) := by decide +kernel
theorem dX6_init_359 : decode cX6_init 359 = .ok (.iconst 0, 1) := by decide +kernel
theorem dX6_init_360 : decode cX6_init 360 = .ok (.invokestatic 34, 3) := by decide +kernel
theorem dX6_init_363 : decode cX6_init 363 = .ok (.iastore, 1) := by decide +kernel
theorem dX6_init_364 : decode cX6_init 364 = .ok (.aload_n 0, 1) := by decide +kernel
theorem dX6_init_365 : decode cX6_init 365 = .ok (.getfield 13, 3) := by decide +kernel
theorem dX6_init_368 : decode cX6_init 368 = .ok (.bipush 15, 2) := by decide +kernel
theorem dX6_init_370 : decode cX6_init 370 = .ok (.bipush 101, 2) := by decide +kernel
theorem dX6_init_372 : decode cX6_init 372 = .ok (.bipush 110, 2) := by decide +kernel
theorem dX6_init_374 : decode cX6_init 374 = .ok (.bipush 116, 2) := by decide +kernel
theorem dX6_init_376 : decode cX6_init 376 = .ok (.bipush 114, 2) := by decide +kernel
theorem dX6_init_378 : decode cX6_init 378 = .ok (.bipush 121, 2) := by decide +kernel
theorem dX6_init_380 : decode cX6_init 380 = .ok (.iconst 0, 1) := by decide +kernel
theorem dX6_init_381 : decode cX6_init 381 = .ok (.invokestatic 34, 3) := by decide +kernel
theorem dX6_init_384 : decode cX6_init 384 = .ok (.iastore, 1) := by decide +kernel
theorem dX6_init_385 : decode cX6_init 385 = .ok (.aload_n 0, 1) := by decide +kernel
theorem dX6_init_386 : decode cX6_init 386 = .ok (.getfield 13, 3) := by decide +kernel
theorem dX6_init_389 : decode cX6_init 389 = .ok (.bipush 16, 2) := by decide +kernel
theorem dX6_init_391 : decode cX6_init 391 = .ok (.bipush 109, 2) := by decide +kernel
theorem dX6_init_393 : decode cX6_init 393 = .ok (.bipush 105, 2) := by decide +kernel
theorem dX6_init_395 : decode cX6_init 395 = .ok (.bipush 110, 2) := by decide +kernel
theorem dX6_init_397 : decode cX6_init 397 = .ok (.bipush 111, 2) := by decide +kernel
theorem dX6_init_399 : decode cX6_init 399 = .ok (.bipush 114, 2) := by decide +kernel
theorem dX6_init_401 : decode cX6_init 401 = .ok (.iconst 0, 1) := by decide +kernel
theorem dX6_init_402 : decode cX6_init 402 = .ok (.invokestatic 34, 3) := by decide +kernel
theorem dX6_init_405 : decode cX6_init 405 = .ok (.iastore, 1) := by decide +kernel
theorem dX6_init_406 : decode cX6_init 406 = .ok (.aload_n 0, 1) := by decide +kernel
theorem dX6_init_407 : decode cX6_init 407 = .ok (.getfield 13, 3) := by decide +kernel
theorem dX6_init_410 : decode cX6_init 410 = .ok (.bipush 17, 2) := by decide +kernel
theorem dX6_init_412 : decode cX6_init 412 = .ok (.bipush 115, 2) := by decide +kernel
theorem dX6_init_414 : decode cX6_init 414 = .ok (.bipush 101, 2) := by decide +kernel
theorem dX6_init_416 : decode cX6_init 416 = .ok (.bipush 110, 2) := by decide +kernel
theorem dX6_init_418 : decode cX6_init 418 = .ok (.bipush 105, 2) := by decide +kernel
theorem dX6_init_420 : decode cX6_init 420 = .ok (.bipush 111, 2) := by decide +kernel
theorem dX6_init_422 : decode cX6_init 422 = .ok (.bipush 114, 2) := by decide +kernel
theorem dX6_init_424 : decode cX6_init 424 = .ok (.invokestatic 34, 3) := by decide +kernel
theorem dX6_init_427 : decode cX6_init 427 = .ok (.iastore, 1) := by decide +kernel
theorem dX6_init_428 : decode cX6_init 428 = .ok (.aload_n 0, 1) := by decide +kernel
theorem dX6_init_429 : decode cX6_init 429 = .ok (.getfield 13, 3) := by decide +kernel
theorem dX6_init_432 : decode cX6_init 432 = .ok (.bipush 18, 2) := by decide +kernel
theorem dX6_init_434 : decode cX6_init 434 = .ok (.bipush 115, 2) := by decide +kernel
theorem dX6_init_436 : decode cX6_init 436 = .ok (.bipush 109, 2) := by decide +kernel
theorem dX6_init_438 : decode cX6_init 438 = .ok (.bipush 97, 2) := by decide +kernel
theorem dX6_init_440 : decode cX6_init 440 = .ok (.bipush 108, 2) := by decide +kernel
theorem dX6_init_442 : decode cX6_init 442 = .ok (.bipush 108, 2) := by decide +kernel
theorem dX6_init_444 : decode cX6_init 444 = .ok (.iconst 0, 1) := by decide +kernel
theorem dX6_init_445 : decode cX6_init 445 = .ok (.invokestatic 34, 3) := by decide +kernel
theorem dX6_init_448 : decode cX6_init 448 = .ok (.iastore, 1) := by decide +kernel
theorem dX6_init_449 : decode cX6_init 449 = .ok (.aload_n 0, 1) := by decide +kernel
theorem dX6_init_450 : decode cX6_init 450 = .ok (.getfield 13, 3) := by decide +kernel
theorem dX6_init_453 : decode cX6_init 453 = .ok (.bipush 19, 2) := by decide +kernel
theorem dX6_init_455 : decode cX6_init 455 = .ok (.bipush 108, 2) := by decide +kernel
theorem dX6_init_457 : decode cX6_init 457 = .ok (.bipush 97, 2) := by decide +kernel
theorem dX6_init_459 : decode cX6_init 459 = .ok (.bipush 114, 2) := by decide +kernel
theorem dX6_init_461 : decode cX6_init 461 = .ok (.bipush 103, 2) := by decide +kernel
theorem dX6_init_463 : decode cX6_init 463 = .ok (.bipush 101, 2) := by decide +kernel
theorem dX6_init_465 : decode cX6_init 465 = .ok (.iconst 0, 1) := by decide +kernel
theorem dX6_init_466 : decode cX6_init 466 = .ok (.invokestatic 34, 3) := by decide +kernel
theorem dX6_init_469 : decode cX6_init 469 = .ok (.iastore, 1) := by decide +kernel
theorem dX6_init_470 : decode cX6_init 470 = .ok (.aload_n 0, 1) := by decide +kernel
theorem dX6_init_471 : decode cX6_init 471 = .ok (.getfield 13, 3) := by decide +kernel
theorem dX6_init_474 : decode cX6_init 474 = .ok (.bipush 20, 2) := by decide +kernel
theorem dX6_init_476 : decode cX6_init 476 = .ok (.bipush 101, 2) := by decide +kernel
theorem dX6_init_478 : decode cX6_init 478 = .ok (.bipush 97, 2) := by decide +kernel
theorem dX6_init_480 : decode cX6_init 480 = .ok (.bipush 114, 2) := by decide +kernel
theorem dX6_init_482 : decode cX6_init 482 = .ok (.bipush 108, 2) := by decide +kernel
theorem dX6_init_484 : decode cX6_init 484 = .ok (.bipush 121, 2) := by decide +kernel
theorem dX6_init_486 : decode cX6_init 486 = .ok (.iconst 0, 1) := by decide +kernel
theorem dX6_init_487 : decode cX6_init 487 = .ok (.invokestatic 34, 3) := by decide +kernel
theorem dX6_init_490 : decode cX6_init 490 = .ok (.iastore, 1) := by decide +kernel
theorem dX6_init_491 : decode cX6_init 491 = .ok (.aload_n 0, 1) := by decide +kernel
theorem dX6_init_492 : decode cX6_init 492 = .ok (.getfield 13, 3) := by decide +kernel
theorem dX6_init_495 : decode cX6_init 495 = .ok (.bipush 21, 2) := by decide +kernel
theorem dX6_init_497 : decode cX6_init 497 = .ok (.bipush 108, 2) := by decide +kernel
theorem dX6_init_499 : decode cX6_init 499 = .ok (.bipush 97, 2) := by decide +kernel
theorem dX6_init_501 : decode cX6_init 501 = .ok (.bipush 116, 2) := by decide +kernel
theorem dX6_init_503 : decode cX6_init 503 = .ok (.bipush 101, 2) := by decide +kernel
theorem dX6_init_505 : decode cX6_init 505 = .ok (.iconst 0, 1) := by decide +kernel
theorem dX6_init_506 : decode cX6_init 506 = .ok (.iconst 0, 1) := by decide +kernel
theorem dX6_init_507 : decode cX6_init 507 = .ok (.invokestatic 34, 3) := by decide +kernel
theorem dX6_init_510 : decode cX6_init 510 = .ok (.iastore, 1) := by decide +kernel
theorem dX6_init_511 : decode cX6_init 511 = .ok (.aload_n 0, 1) := by decide +kernel
theorem dX6_init_512 : decode cX6_init 512 = .ok (.getfield 13, 3) := by decide +kernel
theorem dX6_init_515 : decode cX6_init 515 = .ok (.bipush 22, 2) := by decide +kernel
theorem dX6_init_517 : decode cX6_init 517 = .ok (.bipush 102, 2) := by decide +kernel
theorem dX6_init_519 : decode cX6_init 519 = .ok (.bipush 101, 2) := by decide +kernel
theorem dX6_init_521 : decode cX6_init 521 = .ok (.bipush 101, 2) := by decide +kernel
theorem dX6_init_523 : decode cX6_init 523 = .ok (.iconst 0, 1) := by decide +kernel
theorem dX6_init_524 : decode cX6_init 524 = .ok (.iconst 0, 1) := by decide +kernel
theorem dX6_init_525 : decode cX6_init 525 = .ok (.iconst 0, 1) := by decide +kernel
theorem dX6_init_526 : decode cX6_init 526 = .ok (.invokestatic 34, 3) := by decide +kernel
theorem dX6_init_529 : decode cX6_init 529 = .ok (.iastore, 1) := by decide +kernel
theorem dX6_init_530 : decode cX6_init 530 = .ok (.aload_n 0, 1) := by decide +kernel
theorem dX6_init_531 : decode cX6_init 531 = .ok (.getfield 13, 3) := by decide +kernel
theorem dX6_init_534 : decode cX6_init 534 = .ok (.bipush 23, 2) := by decide +kernel
theorem dX6_init_536 : decode cX6_init 536 = .ok (.bipush 114, 2) := by decide +kernel
theorem dX6_init_538 : decode cX6_init 538 = .ok (.bipush 97, 2) := by decide +kernel
theorem dX6_init_540 : decode cX6_init 540 = .ok (.bipush 116, 2) := by decide +kernel
theorem dX6_init_542 : decode cX6_init 542 = .ok (.bipush 101, 2) := by decide +kernel
theorem dX6_init_544 : decode cX6_init 544 = .ok (.iconst 0, 1) := by decide +kernel
theorem dX6_init_545 : decode cX6_init 545 = .ok (.iconst 0, 1) := by decide +kernel
theorem dX6_init_546 : decode cX6_init 546 = .ok (.invokestatic 34, 3) := by decide +kernel
theorem dX6_init_549 : decode cX6_init 549 = .ok (.iastore, 1) := by decide +kernel
theorem dX6_init_550 : decode cX6_init 550 = .ok (.aload_n 0, 1) := by decide +kernel
theorem dX6_init_551 : decode cX6_init 551 = .ok (.getfield 13, 3) := by decide +kernel
theorem dX6_init_554 : decode cX6_init 554 = .ok (.bipush 24, 2) := by decide +kernel
theorem dX6_init_556 : decode cX6_init 556 = .ok (.bipush 108, 2) := by decide +kernel
theorem dX6_init_558 : decode cX6_init 558 = .ok (.bipush 105, 2) := by decide +kernel
theorem dX6_init_560 : decode cX6_init 560 = .ok (.bipush 109, 2) := by decide +kernel
theorem dX6_init_562 : decode cX6_init 562 = .ok (.bipush 105, 2) := by decide +kernel
theorem dX6_init_564 : decode cX6_init 564 = .ok (.bipush 116, 2) := by decide +kernel
theorem dX6_init_566 : decode cX6_init 566 = .ok (.iconst 0, 1) := by decide +kernel
theorem dX6_init_567 : decode cX6_init 567 = .ok (.invokestatic 34, 3) := by decide +kernel
theorem dX6_init_570 : decode cX6_init 570 = .ok (.iastore, 1) := by decide +kernel
theorem dX6_init_571 : decode cX6_init 571 = .ok (.aload_n 0, 1) := by decide +kernel
theorem dX6_init_572 : decode cX6_init 572 = .ok (.getfield 13, 3) := by decide +kernel
theorem dX6_init_575 : decode cX6_init 575 = .ok (.bipush 25, 2) := by decide +kernel
theorem dX6_init_577 : decode cX6_init 577 = .ok (.bipush 103, 2) := by decide +kernel
theorem dX6_init_579 : decode cX6_init 579 = .ok (.bipush 114, 2) := by decide +kernel
theorem dX6_init_581 : decode cX6_init 581 = .ok (.bipush 97, 2) := by decide +kernel
theorem dX6_init_583 : decode cX6_init 583 = .ok (.bipush 100, 2) := by decide +kernel
theorem dX6_init_585 : decode cX6_init 585 = .ok (.bipush 101, 2) := by decide +kernel
theorem dX6_init_587 : decode cX6_init 587 = .ok (.iconst 0, 1) := by decide +kernel
theorem dX6_init_588 : decode cX6_init 588 = .ok (.invokestatic 34, 3) := by decide +kernel
theorem dX6_init_591 : decode cX6_init 591 = .ok (.iastore, 1) := by decide +kernel
theorem dX6_init_592 : decode cX6_init 592 = .ok (.return_, 1) := by decide +kernel
theorem dX6_then_0 : decode cX6_then 0 = .ok (.iload_n 1, 1) := by decide +kernel
theorem dX6_then_1 : decode cX6_then 1 = .ok (.ifCond .ne 7, 3) := by decide +kernel
theorem dX6_then_4 : decode cX6_then 4 = .ok (.iload_n 0, 1) := by decide +kernel
theorem dX6_then_5 : decode cX6_then 5 = .ok (.goto 12, 3) := by decide +kernel
theorem dX6_then_8 : decode cX6_then 8 = .ok (.bipush 27, 2) := by decide +kernel
theorem dX6_then_10 : decode cX6_then 10 = .ok (.iload_n 0, 1) := by decide +kernel
theorem dX6_then_11 : decode cX6_then 11 = .ok (.imul, 1) := by decide +kernel
theorem dX6_then_12 : decode cX6_then 12 = .ok (.iload_n 1, 1) := by decide +kernel
theorem dX6_then_13 : decode cX6_then 13 = .ok (.iadd, 1) := by decide +kernel
theorem dX6_then_14 : decode cX6_then 14 = .ok (.bipush 96, 2) := by decide +kernel
theorem dX6_then_16 : decode cX6_then 16 = .ok (.isub, 1) := by decide +kernel
theorem dX6_then_17 : decode cX6_then 17 = .ok (.ireturn, 1) := by decide +kernel
set_option maxRecDepth 20000 in
theorem ggX6_spell_X6_then : GoodIn wsX6_spell wsX6_then := goodIn_r _ [4] (by decide +kernel) (by decide +kernel)
set_option maxRecDepth 20000 in
theorem gX6_spell_X6_then : GoodIn wsX6_spell (va_wsS RX6 38 yX6_then wsX6_then) := goodIn_app (goodIn_of _ (by decide +kernel)) ggX6_spell_X6_then
theorem dX6_spell_0 : decode cX6_spell 0 = .ok (.iconst 0, 1) := by decide +kernel
theorem dX6_spell_1 : decode cX6_spell 1 = .ok (.iload_n 0, 1) := by decide +kernel
theorem dX6_spell_2 : decode cX6_spell 2 = .ok (.invokestatic 38, 3) := by decide +kernel
theorem dX6_spell_5 : decode cX6_spell 5 = .ok (.iload_n 1, 1) := by decide +kernel
theorem dX6_spell_6 : decode cX6_spell 6 = .ok (.invokestatic 38, 3) := by decide +kernel
theorem dX6_spell_9 : decode cX6_spell 9 = .ok (.iload_n 2, 1) := by decide +kernel
theorem dX6_spell_10 : decode cX6_spell 10 = .ok (.invokestatic 38, 3) := by decide +kernel
theorem dX6_spell_13 : decode cX6_spell 13 = .ok (.iload_n 3, 1) := by decide +kernel
theorem dX6_spell_14 : decode cX6_spell 14 = .ok (.invokestatic 38, 3) := by decide +kernel
theorem dX6_spell_17 : decode cX6_spell 17 = .ok (.iload 4, 2) := by decide +kernel
theorem dX6_spell_19 : decode cX6_spell 19 = .ok (.invokestatic 38, 3) := by decide +kernel
theorem dX6_spell_22 : decode cX6_spell 22 = .ok (.iload 5, 2) := by decide +kernel
theorem dX6_spell_24 : decode cX6_spell 24 = .ok (.invokestatic 38, 3) := by decide +kernel
theorem dX6_spell_27 : decode cX6_spell 27 = .ok (.ireturn, 1) := by decide +kernel
theorem dX6_in_0 : decode cX6_in 0 = .ok (.iload_n 0, 1) := by decide +kernel
theorem dX6_in_1 : decode cX6_in 1 = .ok (.iload_n 1, 1) := by decide +kernel
theorem dX6_in_2 : decode cX6_in 2 = .ok (.if_icmp .lt 12, 3) := by decide +kernel
theorem dX6_in_5 : decode cX6_in 5 = .ok (.iload_n 0, 1) := by decide +kernel
theorem dX6_in_6 : decode cX6_in 6 = .ok (.iload_n 2, 1) := by decide +kernel
theorem dX6_in_7 : decode cX6_in 7 = .ok (.if_icmp .gt 7, 3) := by decide +kernel
theorem dX6_in_10 : decode cX6_in 10 = .ok (.iconst 1, 1) := by decide +kernel
theorem dX6_in_11 : decode cX6_in 11 = .ok (.goto 4, 3) := by decide +kernel
theorem dX6_in_14 : decode cX6_in 14 = .ok (.iconst 0, 1) := by decide +kernel
theorem dX6_in_15 : decode cX6_in 15 = .ok (.ireturn, 1) := by decide +kernel
set_option maxRecDepth 20000 in
theorem ggX6_isSentence_X6_in : GoodIn wsX6_isSentence wsX6_in := goodIn_r _ [5] (by decide +kernel) (by decide +kernel)
set_option maxRecDepth 20000 in
theorem gX6_isSentence_X6_in : GoodIn wsX6_isSentence (va_wsS RX6 42 yX6_in wsX6_in) := goodIn_app (goodIn_of _ (by decide +kernel)) ggX6_isSentence_X6_in
theorem dX6_isSentence_0 : decode cX6_isSentence 0 = .ok (.iload_n 1, 1) := by decide +kernel
theorem dX6_isSentence_1 : decode cX6_isSentence 1 = .ok (.iconst 0, 1) := by decide +kernel
theorem dX6_isSentence_2 : decode cX6_isSentence 2 = .ok (.aload_n 0, 1) := by decide +kernel
theorem dX6_isSentence_3 : decode cX6_isSentence 3 = .ok (.getfield 7, 3) := by decide +kernel
theorem dX6_isSentence_6 : decode cX6_isSentence 6 = .ok (.bipush 56, 2) := by decide +kernel
theorem dX6_isSentence_8 : decode cX6_isSentence 8 = .ok (.iaload, 1) := by decide +kernel
theorem dX6_isSentence_9 : decode cX6_isSentence 9 = .ok (.iconst 1, 1) := by decide +kernel
theorem dX6_isSentence_10 : decode cX6_isSentence 10 = .ok (.isub, 1) := by decide +kernel
theorem dX6_isSentence_11 : decode cX6_isSentence 11 = .ok (.invokestatic 42, 3) := by decide +kernel
theorem dX6_isSentence_14 : decode cX6_isSentence 14 = .ok (.ireturn, 1) := by decide +kernel
set_option maxRecDepth 20000 in
theorem ggX6_isFact_X6_in : GoodIn wsX6_isFact wsX6_in := goodIn_r _ [4] (by decide +kernel) (by decide +kernel)
set_option maxRecDepth 20000 in
theorem gX6_isFact_X6_in : GoodIn wsX6_isFact (va_wsS RX6 42 yX6_in wsX6_in) := goodIn_app (goodIn_of _ (by decide +kernel)) ggX6_isFact_X6_in
theorem dX6_isFact_0 : decode cX6_isFact 0 = .ok (.iload_n 0, 1) := by decide +kernel
theorem dX6_isFact_1 : decode cX6_isFact 1 = .ok (.iconst 0, 1) := by decide +kernel
theorem dX6_isFact_2 : decode cX6_isFact 2 = .ok (.bipush 6, 2) := by decide +kernel
theorem dX6_isFact_4 : decode cX6_isFact 4 = .ok (.invokestatic 42, 3) := by decide +kernel
theorem dX6_isFact_7 : decode cX6_isFact 7 = .ok (.ireturn, 1) := by decide +kernel
set_option maxRecDepth 20000 in
theorem ggX6_isResult_X6_in : GoodIn wsX6_isResult wsX6_in := goodIn_r _ [4] (by decide +kernel) (by decide +kernel)
set_option maxRecDepth 20000 in
theorem gX6_isResult_X6_in : GoodIn wsX6_isResult (va_wsS RX6 42 yX6_in wsX6_in) := goodIn_app (goodIn_of _ (by decide +kernel)) ggX6_isResult_X6_in
theorem dX6_isResult_0 : decode cX6_isResult 0 = .ok (.iload_n 0, 1) := by decide +kernel
theorem dX6_isResult_1 : decode cX6_isResult 1 = .ok (.iconst 0, 1) := by decide +kernel
theorem dX6_isResult_2 : decode cX6_isResult 2 = .ok (.iconst 3, 1) := by decide +kernel
theorem dX6_isResult_3 : decode cX6_isResult 3 = .ok (.invokestatic 42, 3) := by decide +kernel
theorem dX6_isResult_6 : decode cX6_isResult 6 = .ok (.ireturn, 1) := by decide +kernel
theorem dX6_leastOf_0 : decode cX6_leastOf 0 = .ok (.iload_n 0, 1) := by decide +kernel
theorem dX6_leastOf_1 : decode cX6_leastOf 1 = .ok (.iconst 4, 1) := by decide +kernel
theorem dX6_leastOf_2 : decode cX6_leastOf 2 = .ok (.if_icmp .ge 9, 3) := by decide +kernel
theorem dX6_leastOf_5 : decode cX6_leastOf 5 = .ok (.sipush (-9999), 3) := by decide +kernel
theorem dX6_leastOf_8 : decode cX6_leastOf 8 = .ok (.goto 4, 3) := by decide +kernel
theorem dX6_leastOf_11 : decode cX6_leastOf 11 = .ok (.iconst 0, 1) := by decide +kernel
theorem dX6_leastOf_12 : decode cX6_leastOf 12 = .ok (.ireturn, 1) := by decide +kernel
theorem dX6_greatestOf_0 : decode cX6_greatestOf 0 = .ok (.iload_n 0, 1) := by decide +kernel
theorem dX6_greatestOf_1 : decode cX6_greatestOf 1 = .ok (.iconst 4, 1) := by decide +kernel
theorem dX6_greatestOf_2 : decode cX6_greatestOf 2 = .ok (.if_icmp .ge 9, 3) := by decide +kernel
theorem dX6_greatestOf_5 : decode cX6_greatestOf 5 = .ok (.sipush 9999, 3) := by decide +kernel
theorem dX6_greatestOf_8 : decode cX6_greatestOf 8 = .ok (.goto 5, 3) := by decide +kernel
theorem dX6_greatestOf_11 : decode cX6_greatestOf 11 = .ok (.ldc 46, 2) := by decide +kernel
theorem dX6_greatestOf_13 : decode cX6_greatestOf 13 = .ok (.ireturn, 1) := by decide +kernel
theorem dX6_of_0 : decode cX6_of 0 = .ok (.aload_n 0, 1) := by decide +kernel
theorem dX6_of_1 : decode cX6_of 1 = .ok (.getfield 7, 3) := by decide +kernel
theorem dX6_of_4 : decode cX6_of 4 = .ok (.bipush 57, 2) := by decide +kernel
theorem dX6_of_6 : decode cX6_of 6 = .ok (.bipush 66, 2) := by decide +kernel
theorem dX6_of_8 : decode cX6_of 8 = .ok (.iload_n 1, 1) := by decide +kernel
theorem dX6_of_9 : decode cX6_of 9 = .ok (.imul, 1) := by decide +kernel
theorem dX6_of_10 : decode cX6_of 10 = .ok (.iadd, 1) := by decide +kernel
theorem dX6_of_11 : decode cX6_of 11 = .ok (.iload_n 2, 1) := by decide +kernel
theorem dX6_of_12 : decode cX6_of 12 = .ok (.iadd, 1) := by decide +kernel
theorem dX6_of_13 : decode cX6_of 13 = .ok (.iaload, 1) := by decide +kernel
theorem dX6_of_14 : decode cX6_of 14 = .ok (.ireturn, 1) := by decide +kernel
theorem dX6_record_0 : decode cX6_record 0 = .ok (.aload_n 0, 1) := by decide +kernel
theorem dX6_record_1 : decode cX6_record 1 = .ok (.getfield 47, 3) := by decide +kernel
theorem dX6_record_4 : decode cX6_record 4 = .ok (.bipush 8, 2) := by decide +kernel
theorem dX6_record_6 : decode cX6_record 6 = .ok (.if_icmp .ne 46, 3) := by decide +kernel
theorem dX6_record_9 : decode cX6_record 9 = .ok (.sipush 1113, 3) := by decide +kernel
theorem dX6_record_12 : decode cX6_record 12 = .ok (.istore_n 1, 1) := by decide +kernel
theorem dX6_record_13 : decode cX6_record 13 = .ok (.iload_n 1, 1) := by decide +kernel
theorem dX6_record_14 : decode cX6_record 14 = .ok (.sipush 8904, 3) := by decide +kernel
theorem dX6_record_17 : decode cX6_record 17 = .ok (.if_icmp .ge 25, 3) := by decide +kernel
theorem dX6_record_20 : decode cX6_record 20 = .ok (.aload_n 0, 1) := by decide +kernel
theorem dX6_record_21 : decode cX6_record 21 = .ok (.getfield 16, 3) := by decide +kernel
theorem dX6_record_24 : decode cX6_record 24 = .ok (.iload_n 1, 1) := by decide +kernel
theorem dX6_record_25 : decode cX6_record 25 = .ok (.sipush 1113, 3) := by decide +kernel
theorem dX6_record_28 : decode cX6_record 28 = .ok (.isub, 1) := by decide +kernel
theorem dX6_record_29 : decode cX6_record 29 = .ok (.aload_n 0, 1) := by decide +kernel
theorem dX6_record_30 : decode cX6_record 30 = .ok (.getfield 16, 3) := by decide +kernel
theorem dX6_record_33 : decode cX6_record 33 = .ok (.iload_n 1, 1) := by decide +kernel
theorem dX6_record_34 : decode cX6_record 34 = .ok (.iaload, 1) := by decide +kernel
theorem dX6_record_35 : decode cX6_record 35 = .ok (.iastore, 1) := by decide +kernel
theorem dX6_record_36 : decode cX6_record 36 = .ok (.iinc 1 1, 3) := by decide +kernel
theorem dX6_record_39 : decode cX6_record 39 = .ok (.goto (-26), 3) := by decide +kernel
theorem dX6_record_42 : decode cX6_record 42 = .ok (.aload_n 0, 1) := by decide +kernel
theorem dX6_record_43 : decode cX6_record 43 = .ok (.dup, 1) := by decide +kernel
theorem dX6_record_44 : decode cX6_record 44 = .ok (.getfield 47, 3) := by decide +kernel
theorem dX6_record_47 : decode cX6_record 47 = .ok (.iconst 1, 1) := by decide +kernel
theorem dX6_record_48 : decode cX6_record 48 = .ok (.isub, 1) := by decide +kernel
theorem dX6_record_49 : decode cX6_record 49 = .ok (.putfield 47, 3) := by decide +kernel
theorem dX6_record_52 : decode cX6_record 52 = .ok (.iconst 0, 1) := by decide +kernel
theorem dX6_record_53 : decode cX6_record 53 = .ok (.istore_n 1, 1) := by decide +kernel
theorem dX6_record_54 : decode cX6_record 54 = .ok (.iload_n 1, 1) := by decide +kernel
theorem dX6_record_55 : decode cX6_record 55 = .ok (.sipush 1113, 3) := by decide +kernel
theorem dX6_record_58 : decode cX6_record 58 = .ok (.if_icmp .ge 30, 3) := by decide +kernel
theorem dX6_record_61 : decode cX6_record 61 = .ok (.aload_n 0, 1) := by decide +kernel
theorem dX6_record_62 : decode cX6_record 62 = .ok (.getfield 16, 3) := by decide +kernel
theorem dX6_record_65 : decode cX6_record 65 = .ok (.sipush 1113, 3) := by decide +kernel
theorem dX6_record_68 : decode cX6_record 68 = .ok (.aload_n 0, 1) := by decide +kernel
theorem dX6_record_69 : decode cX6_record 69 = .ok (.getfield 47, 3) := by decide +kernel
theorem dX6_record_72 : decode cX6_record 72 = .ok (.imul, 1) := by decide +kernel
theorem dX6_record_73 : decode cX6_record 73 = .ok (.iload_n 1, 1) := by decide +kernel
theorem dX6_record_74 : decode cX6_record 74 = .ok (.iadd, 1) := by decide +kernel
theorem dX6_record_75 : decode cX6_record 75 = .ok (.aload_n 0, 1) := by decide +kernel
theorem dX6_record_76 : decode cX6_record 76 = .ok (.getfield 7, 3) := by decide +kernel
theorem dX6_record_79 : decode cX6_record 79 = .ok (.iload_n 1, 1) := by decide +kernel
theorem dX6_record_80 : decode cX6_record 80 = .ok (.iaload, 1) := by decide +kernel
theorem dX6_record_81 : decode cX6_record 81 = .ok (.iastore, 1) := by decide +kernel
theorem dX6_record_82 : decode cX6_record 82 = .ok (.iinc 1 1, 3) := by decide +kernel
theorem dX6_record_85 : decode cX6_record 85 = .ok (.goto (-31), 3) := by decide +kernel
theorem dX6_record_88 : decode cX6_record 88 = .ok (.aload_n 0, 1) := by decide +kernel
theorem dX6_record_89 : decode cX6_record 89 = .ok (.dup, 1) := by decide +kernel
theorem dX6_record_90 : decode cX6_record 90 = .ok (.getfield 47, 3) := by decide +kernel
theorem dX6_record_93 : decode cX6_record 93 = .ok (.iconst 1, 1) := by decide +kernel
theorem dX6_record_94 : decode cX6_record 94 = .ok (.iadd, 1) := by decide +kernel
theorem dX6_record_95 : decode cX6_record 95 = .ok (.putfield 47, 3) := by decide +kernel
theorem dX6_record_98 : decode cX6_record 98 = .ok (.return_, 1) := by decide +kernel
theorem dX6_undo_0 : decode cX6_undo 0 = .ok (.aload_n 0, 1) := by decide +kernel
theorem dX6_undo_1 : decode cX6_undo 1 = .ok (.getfield 47, 3) := by decide +kernel
theorem dX6_undo_4 : decode cX6_undo 4 = .ok (.ifCond .ne 6, 3) := by decide +kernel
theorem dX6_undo_7 : decode cX6_undo 7 = .ok (.ldc 28, 2) := by decide +kernel
theorem dX6_undo_9 : decode cX6_undo 9 = .ok (.ireturn, 1) := by decide +kernel
theorem dX6_undo_10 : decode cX6_undo 10 = .ok (.aload_n 0, 1) := by decide +kernel
theorem dX6_undo_11 : decode cX6_undo 11 = .ok (.dup, 1) := by decide +kernel
theorem dX6_undo_12 : decode cX6_undo 12 = .ok (.getfield 47, 3) := by decide +kernel
theorem dX6_undo_15 : decode cX6_undo 15 = .ok (.iconst 1, 1) := by decide +kernel
theorem dX6_undo_16 : decode cX6_undo 16 = .ok (.isub, 1) := by decide +kernel
theorem dX6_undo_17 : decode cX6_undo 17 = .ok (.putfield 47, 3) := by decide +kernel
theorem dX6_undo_20 : decode cX6_undo 20 = .ok (.iconst 0, 1) := by decide +kernel
theorem dX6_undo_21 : decode cX6_undo 21 = .ok (.istore_n 1, 1) := by decide +kernel
theorem dX6_undo_22 : decode cX6_undo 22 = .ok (.iload_n 1, 1) := by decide +kernel
theorem dX6_undo_23 : decode cX6_undo 23 = .ok (.sipush 1113, 3) := by decide +kernel
theorem dX6_undo_26 : decode cX6_undo 26 = .ok (.if_icmp .ge 30, 3) := by decide +kernel
theorem dX6_undo_29 : decode cX6_undo 29 = .ok (.aload_n 0, 1) := by decide +kernel
theorem dX6_undo_30 : decode cX6_undo 30 = .ok (.getfield 7, 3) := by decide +kernel
theorem dX6_undo_33 : decode cX6_undo 33 = .ok (.iload_n 1, 1) := by decide +kernel
theorem dX6_undo_34 : decode cX6_undo 34 = .ok (.aload_n 0, 1) := by decide +kernel
theorem dX6_undo_35 : decode cX6_undo 35 = .ok (.getfield 16, 3) := by decide +kernel
theorem dX6_undo_38 : decode cX6_undo 38 = .ok (.sipush 1113, 3) := by decide +kernel
theorem dX6_undo_41 : decode cX6_undo 41 = .ok (.aload_n 0, 1) := by decide +kernel
theorem dX6_undo_42 : decode cX6_undo 42 = .ok (.getfield 47, 3) := by decide +kernel
theorem dX6_undo_45 : decode cX6_undo 45 = .ok (.imul, 1) := by decide +kernel
theorem dX6_undo_46 : decode cX6_undo 46 = .ok (.iload_n 1, 1) := by decide +kernel
theorem dX6_undo_47 : decode cX6_undo 47 = .ok (.iadd, 1) := by decide +kernel
theorem dX6_undo_48 : decode cX6_undo 48 = .ok (.iaload, 1) := by decide +kernel
theorem dX6_undo_49 : decode cX6_undo 49 = .ok (.iastore, 1) := by decide +kernel
theorem dX6_undo_50 : decode cX6_undo 50 = .ok (.iinc 1 1, 3) := by decide +kernel
theorem dX6_undo_53 : decode cX6_undo 53 = .ok (.goto (-31), 3) := by decide +kernel
theorem dX6_undo_56 : decode cX6_undo 56 = .ok (.aload_n 0, 1) := by decide +kernel
theorem dX6_undo_57 : decode cX6_undo 57 = .ok (.getfield 47, 3) := by decide +kernel
theorem dX6_undo_60 : decode cX6_undo 60 = .ok (.ireturn, 1) := by decide +kernel
theorem dX6_isLeap_0 : decode cX6_isLeap 0 = .ok (.iload_n 0, 1) := by decide +kernel
theorem dX6_isLeap_1 : decode cX6_isLeap 1 = .ok (.iconst 4, 1) := by decide +kernel
theorem dX6_isLeap_2 : decode cX6_isLeap 2 = .ok (.irem, 1) := by decide +kernel
theorem dX6_isLeap_3 : decode cX6_isLeap 3 = .ok (.ifCond .ne 10, 3) := by decide +kernel
theorem dX6_isLeap_6 : decode cX6_isLeap 6 = .ok (.iload_n 0, 1) := by decide +kernel
theorem dX6_isLeap_7 : decode cX6_isLeap 7 = .ok (.bipush 100, 2) := by decide +kernel
theorem dX6_isLeap_9 : decode cX6_isLeap 9 = .ok (.irem, 1) := by decide +kernel
theorem dX6_isLeap_10 : decode cX6_isLeap 10 = .ok (.ifCond .ne 11, 3) := by decide +kernel
theorem dX6_isLeap_13 : decode cX6_isLeap 13 = .ok (.iload_n 0, 1) := by decide +kernel
theorem dX6_isLeap_14 : decode cX6_isLeap 14 = .ok (.sipush 400, 3) := by decide +kernel
theorem dX6_isLeap_17 : decode cX6_isLeap 17 = .ok (.irem, 1) := by decide +kernel
theorem dX6_isLeap_18 : decode cX6_isLeap 18 = .ok (.ifCond .ne 7, 3) := by decide +kernel
theorem dX6_isLeap_21 : decode cX6_isLeap 21 = .ok (.iconst 1, 1) := by decide +kernel
theorem dX6_isLeap_22 : decode cX6_isLeap 22 = .ok (.goto 4, 3) := by decide +kernel
theorem dX6_isLeap_25 : decode cX6_isLeap 25 = .ok (.iconst 0, 1) := by decide +kernel
theorem dX6_isLeap_26 : decode cX6_isLeap 26 = .ok (.ireturn, 1) := by decide +kernel
set_option maxRecDepth 20000 in
theorem ggX6_daysOf_X6_isLeap : GoodIn wsX6_daysOf wsX6_isLeap := goodIn_r _ [4] (by decide +kernel) (by decide +kernel)
set_option maxRecDepth 20000 in
theorem gX6_daysOf_X6_isLeap : GoodIn wsX6_daysOf (va_wsS RX6 50 yX6_isLeap wsX6_isLeap) := goodIn_app (goodIn_of _ (by decide +kernel)) ggX6_daysOf_X6_isLeap
theorem dX6_daysOf_0 : decode cX6_daysOf 0 = .ok (.iload_n 1, 1) := by decide +kernel
theorem dX6_daysOf_1 : decode cX6_daysOf 1 = .ok (.iconst 2, 1) := by decide +kernel
theorem dX6_daysOf_2 : decode cX6_daysOf 2 = .ok (.if_icmp .ne 20, 3) := by decide +kernel
theorem dX6_daysOf_5 : decode cX6_daysOf 5 = .ok (.iload_n 0, 1) := by decide +kernel
theorem dX6_daysOf_6 : decode cX6_daysOf 6 = .ok (.invokestatic 50, 3) := by decide +kernel
theorem dX6_daysOf_9 : decode cX6_daysOf 9 = .ok (.ifCond .eq 8, 3) := by decide +kernel
theorem dX6_daysOf_12 : decode cX6_daysOf 12 = .ok (.bipush 29, 2) := by decide +kernel
theorem dX6_daysOf_14 : decode cX6_daysOf 14 = .ok (.goto 38, 3) := by decide +kernel
theorem dX6_daysOf_17 : decode cX6_daysOf 17 = .ok (.bipush 28, 2) := by decide +kernel
theorem dX6_daysOf_19 : decode cX6_daysOf 19 = .ok (.goto 33, 3) := by decide +kernel
theorem dX6_daysOf_22 : decode cX6_daysOf 22 = .ok (.iload_n 1, 1) := by decide +kernel
theorem dX6_daysOf_23 : decode cX6_daysOf 23 = .ok (.iconst 4, 1) := by decide +kernel
theorem dX6_daysOf_24 : decode cX6_daysOf 24 = .ok (.if_icmp .eq 21, 3) := by decide +kernel
theorem dX6_daysOf_27 : decode cX6_daysOf 27 = .ok (.iload_n 1, 1) := by decide +kernel
theorem dX6_daysOf_28 : decode cX6_daysOf 28 = .ok (.bipush 6, 2) := by decide +kernel
theorem dX6_daysOf_30 : decode cX6_daysOf 30 = .ok (.if_icmp .eq 15, 3) := by decide +kernel
theorem dX6_daysOf_33 : decode cX6_daysOf 33 = .ok (.iload_n 1, 1) := by decide +kernel
theorem dX6_daysOf_34 : decode cX6_daysOf 34 = .ok (.bipush 9, 2) := by decide +kernel
theorem dX6_daysOf_36 : decode cX6_daysOf 36 = .ok (.if_icmp .eq 9, 3) := by decide +kernel
theorem dX6_daysOf_39 : decode cX6_daysOf 39 = .ok (.iload_n 1, 1) := by decide +kernel
theorem dX6_daysOf_40 : decode cX6_daysOf 40 = .ok (.bipush 11, 2) := by decide +kernel
theorem dX6_daysOf_42 : decode cX6_daysOf 42 = .ok (.if_icmp .ne 8, 3) := by decide +kernel
theorem dX6_daysOf_45 : decode cX6_daysOf 45 = .ok (.bipush 30, 2) := by decide +kernel
theorem dX6_daysOf_47 : decode cX6_daysOf 47 = .ok (.goto 5, 3) := by decide +kernel
theorem dX6_daysOf_50 : decode cX6_daysOf 50 = .ok (.bipush 31, 2) := by decide +kernel
theorem dX6_daysOf_52 : decode cX6_daysOf 52 = .ok (.ireturn, 1) := by decide +kernel
set_option maxRecDepth 20000 in
theorem ggX6_isDate_X6_in : GoodIn wsX6_isDate wsX6_in := goodIn_r _ [4] (by decide +kernel) (by decide +kernel)
set_option maxRecDepth 20000 in
theorem gX6_isDate_X6_in : GoodIn wsX6_isDate (va_wsS RX6 42 yX6_in wsX6_in) := goodIn_app (goodIn_of _ (by decide +kernel)) ggX6_isDate_X6_in
set_option maxRecDepth 20000 in
theorem ggX6_isDate_X6_daysOf : GoodIn wsX6_isDate wsX6_daysOf := goodIn_r _ [7, 8, 9, 3, 10] (by decide +kernel) (by decide +kernel)
set_option maxRecDepth 20000 in
theorem gX6_isDate_X6_daysOf : GoodIn wsX6_isDate (va_wsS RX6 54 yX6_daysOf wsX6_daysOf) := goodIn_app (goodIn_of _ (by decide +kernel)) ggX6_isDate_X6_daysOf
theorem dX6_isDate_0 : decode cX6_isDate 0 = .ok (.iload_n 0, 1) := by decide +kernel
theorem dX6_isDate_1 : decode cX6_isDate 1 = .ok (.sipush 1900, 3) := by decide +kernel
theorem dX6_isDate_4 : decode cX6_isDate 4 = .ok (.sipush 2099, 3) := by decide +kernel
theorem dX6_isDate_7 : decode cX6_isDate 7 = .ok (.invokestatic 42, 3) := by decide +kernel
theorem dX6_isDate_10 : decode cX6_isDate 10 = .ok (.ifCond .eq 30, 3) := by decide +kernel
theorem dX6_isDate_13 : decode cX6_isDate 13 = .ok (.iload_n 1, 1) := by decide +kernel
theorem dX6_isDate_14 : decode cX6_isDate 14 = .ok (.iconst 1, 1) := by decide +kernel
theorem dX6_isDate_15 : decode cX6_isDate 15 = .ok (.bipush 12, 2) := by decide +kernel
theorem dX6_isDate_17 : decode cX6_isDate 17 = .ok (.invokestatic 42, 3) := by decide +kernel
theorem dX6_isDate_20 : decode cX6_isDate 20 = .ok (.ifCond .eq 20, 3) := by decide +kernel
theorem dX6_isDate_23 : decode cX6_isDate 23 = .ok (.iload_n 2, 1) := by decide +kernel
theorem dX6_isDate_24 : decode cX6_isDate 24 = .ok (.iconst 1, 1) := by decide +kernel
theorem dX6_isDate_25 : decode cX6_isDate 25 = .ok (.iload_n 0, 1) := by decide +kernel
theorem dX6_isDate_26 : decode cX6_isDate 26 = .ok (.iload_n 1, 1) := by decide +kernel
theorem dX6_isDate_27 : decode cX6_isDate 27 = .ok (.invokestatic 54, 3) := by decide +kernel
theorem dX6_isDate_30 : decode cX6_isDate 30 = .ok (.invokestatic 42, 3) := by decide +kernel
theorem dX6_isDate_33 : decode cX6_isDate 33 = .ok (.ifCond .eq 7, 3) := by decide +kernel
theorem dX6_isDate_36 : decode cX6_isDate 36 = .ok (.iconst 1, 1) := by decide +kernel
theorem dX6_isDate_37 : decode cX6_isDate 37 = .ok (.goto 4, 3) := by decide +kernel
theorem dX6_isDate_40 : decode cX6_isDate 40 = .ok (.iconst 0, 1) := by decide +kernel
theorem dX6_isDate_41 : decode cX6_isDate 41 = .ok (.ireturn, 1) := by decide +kernel
set_option maxRecDepth 20000 in
theorem ggX6_dayOf_X6_isLeap : GoodIn wsX6_dayOf wsX6_isLeap := goodIn_r _ [4] (by decide +kernel) (by decide +kernel)
set_option maxRecDepth 20000 in
theorem gX6_dayOf_X6_isLeap : GoodIn wsX6_dayOf (va_wsS RX6 50 yX6_isLeap wsX6_isLeap) := goodIn_app (goodIn_of _ (by decide +kernel)) ggX6_dayOf_X6_isLeap
set_option maxRecDepth 20000 in
theorem ggX6_dayOf_X6_daysOf : GoodIn wsX6_dayOf wsX6_daysOf := goodIn_r _ [7, 1, 2, 3, 4] (by decide +kernel) (by decide +kernel)
set_option maxRecDepth 20000 in
theorem gX6_dayOf_X6_daysOf : GoodIn wsX6_dayOf (va_wsS RX6 54 yX6_daysOf wsX6_daysOf) := goodIn_app (goodIn_of _ (by decide +kernel)) ggX6_dayOf_X6_daysOf
theorem dX6_dayOf_0 : decode cX6_dayOf 0 = .ok (.iload_n 2, 1) := by decide +kernel
theorem dX6_dayOf_1 : decode cX6_dayOf 1 = .ok (.iconst 1, 1) := by decide +kernel
theorem dX6_dayOf_2 : decode cX6_dayOf 2 = .ok (.isub, 1) := by decide +kernel
theorem dX6_dayOf_3 : decode cX6_dayOf 3 = .ok (.istore_n 3, 1) := by decide +kernel
theorem dX6_dayOf_4 : decode cX6_dayOf 4 = .ok (.sipush 1900, 3) := by decide +kernel
theorem dX6_dayOf_7 : decode cX6_dayOf 7 = .ok (.istore 4, 2) := by decide +kernel
theorem dX6_dayOf_9 : decode cX6_dayOf 9 = .ok (.iload 4, 2) := by decide +kernel
theorem dX6_dayOf_11 : decode cX6_dayOf 11 = .ok (.iload_n 0, 1) := by decide +kernel
theorem dX6_dayOf_12 : decode cX6_dayOf 12 = .ok (.if_icmp .ge 29, 3) := by decide +kernel
theorem dX6_dayOf_15 : decode cX6_dayOf 15 = .ok (.iload_n 3, 1) := by decide +kernel
theorem dX6_dayOf_16 : decode cX6_dayOf 16 = .ok (.iload 4, 2) := by decide +kernel
theorem dX6_dayOf_18 : decode cX6_dayOf 18 = .ok (.invokestatic 50, 3) := by decide +kernel
theorem dX6_dayOf_21 : decode cX6_dayOf 21 = .ok (.ifCond .eq 9, 3) := by decide +kernel
theorem dX6_dayOf_24 : decode cX6_dayOf 24 = .ok (.sipush 366, 3) := by decide +kernel
theorem dX6_dayOf_27 : decode cX6_dayOf 27 = .ok (.goto 6, 3) := by decide +kernel
theorem dX6_dayOf_30 : decode cX6_dayOf 30 = .ok (.sipush 365, 3) := by decide +kernel
theorem dX6_dayOf_33 : decode cX6_dayOf 33 = .ok (.iadd, 1) := by decide +kernel
theorem dX6_dayOf_34 : decode cX6_dayOf 34 = .ok (.istore_n 3, 1) := by decide +kernel
theorem dX6_dayOf_35 : decode cX6_dayOf 35 = .ok (.iinc 4 1, 3) := by decide +kernel
theorem dX6_dayOf_38 : decode cX6_dayOf 38 = .ok (.goto (-29), 3) := by decide +kernel
theorem dX6_dayOf_41 : decode cX6_dayOf 41 = .ok (.iconst 1, 1) := by decide +kernel
theorem dX6_dayOf_42 : decode cX6_dayOf 42 = .ok (.istore 4, 2) := by decide +kernel
theorem dX6_dayOf_44 : decode cX6_dayOf 44 = .ok (.iload 4, 2) := by decide +kernel
theorem dX6_dayOf_46 : decode cX6_dayOf 46 = .ok (.iload_n 1, 1) := by decide +kernel
theorem dX6_dayOf_47 : decode cX6_dayOf 47 = .ok (.if_icmp .ge 18, 3) := by decide +kernel
theorem dX6_dayOf_50 : decode cX6_dayOf 50 = .ok (.iload_n 3, 1) := by decide +kernel
theorem dX6_dayOf_51 : decode cX6_dayOf 51 = .ok (.iload_n 0, 1) := by decide +kernel
theorem dX6_dayOf_52 : decode cX6_dayOf 52 = .ok (.iload 4, 2) := by decide +kernel
theorem dX6_dayOf_54 : decode cX6_dayOf 54 = .ok (.invokestatic 54, 3) := by decide +kernel
theorem dX6_dayOf_57 : decode cX6_dayOf 57 = .ok (.iadd, 1) := by decide +kernel
theorem dX6_dayOf_58 : decode cX6_dayOf 58 = .ok (.istore_n 3, 1) := by decide +kernel
theorem dX6_dayOf_59 : decode cX6_dayOf 59 = .ok (.iinc 4 1, 3) := by decide +kernel
theorem dX6_dayOf_62 : decode cX6_dayOf 62 = .ok (.goto (-18), 3) := by decide +kernel
theorem dX6_dayOf_65 : decode cX6_dayOf 65 = .ok (.iload_n 3, 1) := by decide +kernel
theorem dX6_dayOf_66 : decode cX6_dayOf 66 = .ok (.ireturn, 1) := by decide +kernel
set_option maxRecDepth 20000 in
theorem ggX6_codeOf_X6_daysOf : GoodIn wsX6_codeOf wsX6_daysOf := goodIn_r _ [4, 5, 6, 3, 7] (by decide +kernel) (by decide +kernel)
set_option maxRecDepth 20000 in
theorem gX6_codeOf_X6_daysOf : GoodIn wsX6_codeOf (va_wsS RX6 54 yX6_daysOf wsX6_daysOf) := goodIn_app (goodIn_of _ (by decide +kernel)) ggX6_codeOf_X6_daysOf
theorem dX6_codeOf_0 : decode cX6_codeOf 0 = .ok (.iload_n 0, 1) := by decide +kernel
theorem dX6_codeOf_1 : decode cX6_codeOf 1 = .ok (.istore_n 1, 1) := by decide +kernel
theorem dX6_codeOf_2 : decode cX6_codeOf 2 = .ok (.sipush 1900, 3) := by decide +kernel
theorem dX6_codeOf_5 : decode cX6_codeOf 5 = .ok (.istore_n 2, 1) := by decide +kernel
theorem dX6_codeOf_6 : decode cX6_codeOf 6 = .ok (.iconst 1, 1) := by decide +kernel
theorem dX6_codeOf_7 : decode cX6_codeOf 7 = .ok (.istore_n 3, 1) := by decide +kernel
theorem dX6_codeOf_8 : decode cX6_codeOf 8 = .ok (.iload_n 1, 1) := by decide +kernel
theorem dX6_codeOf_9 : decode cX6_codeOf 9 = .ok (.iload_n 2, 1) := by decide +kernel
theorem dX6_codeOf_10 : decode cX6_codeOf 10 = .ok (.iload_n 3, 1) := by decide +kernel
theorem dX6_codeOf_11 : decode cX6_codeOf 11 = .ok (.invokestatic 54, 3) := by decide +kernel
theorem dX6_codeOf_14 : decode cX6_codeOf 14 = .ok (.if_icmp .lt 42, 3) := by decide +kernel
theorem dX6_codeOf_17 : decode cX6_codeOf 17 = .ok (.iload_n 1, 1) := by decide +kernel
theorem dX6_codeOf_18 : decode cX6_codeOf 18 = .ok (.iload_n 2, 1) := by decide +kernel
theorem dX6_codeOf_19 : decode cX6_codeOf 19 = .ok (.iload_n 3, 1) := by decide +kernel
theorem dX6_codeOf_20 : decode cX6_codeOf 20 = .ok (.invokestatic 54, 3) := by decide +kernel
theorem dX6_codeOf_23 : decode cX6_codeOf 23 = .ok (.isub, 1) := by decide +kernel
theorem dX6_codeOf_24 : decode cX6_codeOf 24 = .ok (.istore_n 1, 1) := by decide +kernel
theorem dX6_codeOf_25 : decode cX6_codeOf 25 = .ok (.iload_n 2, 1) := by decide +kernel
theorem dX6_codeOf_26 : decode cX6_codeOf 26 = .ok (.iload_n 3, 1) := by decide +kernel
theorem dX6_codeOf_27 : decode cX6_codeOf 27 = .ok (.bipush 12, 2) := by decide +kernel
theorem dX6_codeOf_29 : decode cX6_codeOf 29 = .ok (.if_icmp .ne 7, 3) := by decide +kernel
theorem dX6_codeOf_32 : decode cX6_codeOf 32 = .ok (.iconst 1, 1) := by decide +kernel
theorem dX6_codeOf_33 : decode cX6_codeOf 33 = .ok (.goto 4, 3) := by decide +kernel
theorem dX6_codeOf_36 : decode cX6_codeOf 36 = .ok (.iconst 0, 1) := by decide +kernel
theorem dX6_codeOf_37 : decode cX6_codeOf 37 = .ok (.iadd, 1) := by decide +kernel
theorem dX6_codeOf_38 : decode cX6_codeOf 38 = .ok (.istore_n 2, 1) := by decide +kernel
theorem dX6_codeOf_39 : decode cX6_codeOf 39 = .ok (.iload_n 3, 1) := by decide +kernel
theorem dX6_codeOf_40 : decode cX6_codeOf 40 = .ok (.bipush 12, 2) := by decide +kernel
theorem dX6_codeOf_42 : decode cX6_codeOf 42 = .ok (.if_icmp .ne 7, 3) := by decide +kernel
theorem dX6_codeOf_45 : decode cX6_codeOf 45 = .ok (.iconst 1, 1) := by decide +kernel
theorem dX6_codeOf_46 : decode cX6_codeOf 46 = .ok (.goto 6, 3) := by decide +kernel
theorem dX6_codeOf_49 : decode cX6_codeOf 49 = .ok (.iload_n 3, 1) := by decide +kernel
theorem dX6_codeOf_50 : decode cX6_codeOf 50 = .ok (.iconst 1, 1) := by decide +kernel
theorem dX6_codeOf_51 : decode cX6_codeOf 51 = .ok (.iadd, 1) := by decide +kernel
theorem dX6_codeOf_52 : decode cX6_codeOf 52 = .ok (.istore_n 3, 1) := by decide +kernel
theorem dX6_codeOf_53 : decode cX6_codeOf 53 = .ok (.goto (-45), 3) := by decide +kernel
theorem dX6_codeOf_56 : decode cX6_codeOf 56 = .ok (.sipush 10000, 3) := by decide +kernel
theorem dX6_codeOf_59 : decode cX6_codeOf 59 = .ok (.iload_n 2, 1) := by decide +kernel
theorem dX6_codeOf_60 : decode cX6_codeOf 60 = .ok (.imul, 1) := by decide +kernel
theorem dX6_codeOf_61 : decode cX6_codeOf 61 = .ok (.bipush 100, 2) := by decide +kernel
theorem dX6_codeOf_63 : decode cX6_codeOf 63 = .ok (.iload_n 3, 1) := by decide +kernel
theorem dX6_codeOf_64 : decode cX6_codeOf 64 = .ok (.imul, 1) := by decide +kernel
theorem dX6_codeOf_65 : decode cX6_codeOf 65 = .ok (.iadd, 1) := by decide +kernel
theorem dX6_codeOf_66 : decode cX6_codeOf 66 = .ok (.iload_n 1, 1) := by decide +kernel
theorem dX6_codeOf_67 : decode cX6_codeOf 67 = .ok (.iadd, 1) := by decide +kernel
theorem dX6_codeOf_68 : decode cX6_codeOf 68 = .ok (.iconst 1, 1) := by decide +kernel
theorem dX6_codeOf_69 : decode cX6_codeOf 69 = .ok (.iadd, 1) := by decide +kernel
theorem dX6_codeOf_70 : decode cX6_codeOf 70 = .ok (.ireturn, 1) := by decide +kernel
set_option maxRecDepth 20000 in
theorem ggX6_dayNumber_X6_isDate : GoodIn wsX6_dayNumber wsX6_isDate := goodIn_r _ [5, 6, 7, 4, 8, 9, 10, 11, 12, 13, 14] (by decide +kernel) (by decide +kernel)
set_option maxRecDepth 20000 in
theorem gX6_dayNumber_X6_isDate : GoodIn wsX6_dayNumber (va_wsS RX6 57 yX6_isDate wsX6_isDate) := goodIn_app (goodIn_of _ (by decide +kernel)) ggX6_dayNumber_X6_isDate
set_option maxRecDepth 20000 in
theorem ggX6_dayNumber_X6_dayOf : GoodIn wsX6_dayNumber wsX6_dayOf := goodIn_r _ [17, 12, 13, 4, 14, 9, 10, 11] (by decide +kernel) (by decide +kernel)
set_option maxRecDepth 20000 in
theorem gX6_dayNumber_X6_dayOf : GoodIn wsX6_dayNumber (va_wsS RX6 60 yX6_dayOf wsX6_dayOf) := goodIn_app (goodIn_of _ (by decide +kernel)) ggX6_dayNumber_X6_dayOf
theorem dX6_dayNumber_0 : decode cX6_dayNumber 0 = .ok (.iload_n 1, 1) := by decide +kernel
theorem dX6_dayNumber_1 : decode cX6_dayNumber 1 = .ok (.iload_n 2, 1) := by decide +kernel
theorem dX6_dayNumber_2 : decode cX6_dayNumber 2 = .ok (.iload_n 3, 1) := by decide +kernel
theorem dX6_dayNumber_3 : decode cX6_dayNumber 3 = .ok (.invokestatic 57, 3) := by decide +kernel
theorem dX6_dayNumber_6 : decode cX6_dayNumber 6 = .ok (.ifCond .eq 12, 3) := by decide +kernel
theorem dX6_dayNumber_9 : decode cX6_dayNumber 9 = .ok (.iload_n 1, 1) := by decide +kernel
theorem dX6_dayNumber_10 : decode cX6_dayNumber 10 = .ok (.iload_n 2, 1) := by decide +kernel
theorem dX6_dayNumber_11 : decode cX6_dayNumber 11 = .ok (.iload_n 3, 1) := by decide +kernel
theorem dX6_dayNumber_12 : decode cX6_dayNumber 12 = .ok (.invokestatic 60, 3) := by decide +kernel
theorem dX6_dayNumber_15 : decode cX6_dayNumber 15 = .ok (.goto 5, 3) := by decide +kernel
theorem dX6_dayNumber_18 : decode cX6_dayNumber 18 = .ok (.ldc 64, 2) := by decide +kernel
theorem dX6_dayNumber_20 : decode cX6_dayNumber 20 = .ok (.ireturn, 1) := by decide +kernel
set_option maxRecDepth 20000 in
theorem ggX6_dateOf_X6_in : GoodIn wsX6_dateOf wsX6_in := goodIn_r _ [6] (by decide +kernel) (by decide +kernel)
set_option maxRecDepth 20000 in
theorem gX6_dateOf_X6_in : GoodIn wsX6_dateOf (va_wsS RX6 42 yX6_in wsX6_in) := goodIn_app (goodIn_of _ (by decide +kernel)) ggX6_dateOf_X6_in
set_option maxRecDepth 20000 in
theorem ggX6_dateOf_X6_codeOf : GoodIn wsX6_dateOf wsX6_codeOf := goodIn_r _ [9, 10, 11, 5, 12, 13, 14, 15] (by decide +kernel) (by decide +kernel)
set_option maxRecDepth 20000 in
theorem gX6_dateOf_X6_codeOf : GoodIn wsX6_dateOf (va_wsS RX6 65 yX6_codeOf wsX6_codeOf) := goodIn_app (goodIn_of _ (by decide +kernel)) ggX6_dateOf_X6_codeOf
theorem dX6_dateOf_0 : decode cX6_dateOf 0 = .ok (.iload_n 1, 1) := by decide +kernel
theorem dX6_dateOf_1 : decode cX6_dateOf 1 = .ok (.iconst 0, 1) := by decide +kernel
theorem dX6_dateOf_2 : decode cX6_dateOf 2 = .ok (.ldc 46, 2) := by decide +kernel
theorem dX6_dateOf_4 : decode cX6_dateOf 4 = .ok (.invokestatic 42, 3) := by decide +kernel
theorem dX6_dateOf_7 : decode cX6_dateOf 7 = .ok (.ifCond .eq 10, 3) := by decide +kernel
theorem dX6_dateOf_10 : decode cX6_dateOf 10 = .ok (.iload_n 1, 1) := by decide +kernel
theorem dX6_dateOf_11 : decode cX6_dateOf 11 = .ok (.invokestatic 65, 3) := by decide +kernel
theorem dX6_dateOf_14 : decode cX6_dateOf 14 = .ok (.goto 5, 3) := by decide +kernel
theorem dX6_dateOf_17 : decode cX6_dateOf 17 = .ok (.ldc 64, 2) := by decide +kernel
theorem dX6_dateOf_19 : decode cX6_dateOf 19 = .ok (.ireturn, 1) := by decide +kernel
theorem dX6_add_0 : decode cX6_add 0 = .ok (.aload_n 0, 1) := by decide +kernel
theorem dX6_add_1 : decode cX6_add 1 = .ok (.getfield 7, 3) := by decide +kernel
theorem dX6_add_4 : decode cX6_add 4 = .ok (.bipush 7, 2) := by decide +kernel
theorem dX6_add_6 : decode cX6_add 6 = .ok (.iaload, 1) := by decide +kernel
theorem dX6_add_7 : decode cX6_add 7 = .ok (.istore_n 3, 1) := by decide +kernel
theorem dX6_add_8 : decode cX6_add 8 = .ok (.iload_n 3, 1) := by decide +kernel
theorem dX6_add_9 : decode cX6_add 9 = .ok (.bipush 24, 2) := by decide +kernel
theorem dX6_add_11 : decode cX6_add 11 = .ok (.if_icmp .ne 6, 3) := by decide +kernel
theorem dX6_add_14 : decode cX6_add 14 = .ok (.ldc 69, 2) := by decide +kernel
theorem dX6_add_16 : decode cX6_add 16 = .ok (.ireturn, 1) := by decide +kernel
theorem dX6_add_17 : decode cX6_add 17 = .ok (.aload_n 0, 1) := by decide +kernel
theorem dX6_add_18 : decode cX6_add 18 = .ok (.getfield 7, 3) := by decide +kernel
theorem dX6_add_21 : decode cX6_add 21 = .ok (.bipush 8, 2) := by decide +kernel
theorem dX6_add_23 : decode cX6_add 23 = .ok (.iload_n 3, 1) := by decide +kernel
theorem dX6_add_24 : decode cX6_add 24 = .ok (.iadd, 1) := by decide +kernel
theorem dX6_add_25 : decode cX6_add 25 = .ok (.iload_n 1, 1) := by decide +kernel
theorem dX6_add_26 : decode cX6_add 26 = .ok (.iastore, 1) := by decide +kernel
theorem dX6_add_27 : decode cX6_add 27 = .ok (.aload_n 0, 1) := by decide +kernel
theorem dX6_add_28 : decode cX6_add 28 = .ok (.getfield 7, 3) := by decide +kernel
theorem dX6_add_31 : decode cX6_add 31 = .ok (.bipush 32, 2) := by decide +kernel
theorem dX6_add_33 : decode cX6_add 33 = .ok (.iload_n 3, 1) := by decide +kernel
theorem dX6_add_34 : decode cX6_add 34 = .ok (.iadd, 1) := by decide +kernel
theorem dX6_add_35 : decode cX6_add 35 = .ok (.iload_n 2, 1) := by decide +kernel
theorem dX6_add_36 : decode cX6_add 36 = .ok (.iastore, 1) := by decide +kernel
theorem dX6_add_37 : decode cX6_add 37 = .ok (.aload_n 0, 1) := by decide +kernel
theorem dX6_add_38 : decode cX6_add 38 = .ok (.getfield 7, 3) := by decide +kernel
theorem dX6_add_41 : decode cX6_add 41 = .ok (.bipush 7, 2) := by decide +kernel
theorem dX6_add_43 : decode cX6_add 43 = .ok (.dup2, 1) := by decide +kernel
theorem dX6_add_44 : decode cX6_add 44 = .ok (.iaload, 1) := by decide +kernel
theorem dX6_add_45 : decode cX6_add 45 = .ok (.iconst 1, 1) := by decide +kernel
theorem dX6_add_46 : decode cX6_add 46 = .ok (.iadd, 1) := by decide +kernel
theorem dX6_add_47 : decode cX6_add 47 = .ok (.iastore, 1) := by decide +kernel
theorem dX6_add_48 : decode cX6_add 48 = .ok (.aload_n 0, 1) := by decide +kernel
theorem dX6_add_49 : decode cX6_add 49 = .ok (.getfield 7, 3) := by decide +kernel
theorem dX6_add_52 : decode cX6_add 52 = .ok (.bipush 7, 2) := by decide +kernel
theorem dX6_add_54 : decode cX6_add 54 = .ok (.iaload, 1) := by decide +kernel
theorem dX6_add_55 : decode cX6_add 55 = .ok (.ireturn, 1) := by decide +kernel
set_option maxRecDepth 20000 in
theorem ggX6_word_X6_in : GoodIn wsX6_word wsX6_in := goodIn_r _ [5] (by decide +kernel) (by decide +kernel)
set_option maxRecDepth 20000 in
theorem gX6_word_X6_in : GoodIn wsX6_word (va_wsS RX6 42 yX6_in wsX6_in) := goodIn_app (goodIn_of _ (by decide +kernel)) ggX6_word_X6_in
set_option maxRecDepth 20000 in
theorem ggX6_word_X6_add : GoodIn wsX6_word wsX6_add := goodIn_r _ [9, 10, 11, 12, 13, 14, 15, 16, 17, 18, 19, 20, 21, 22, 23, 24, 25] (by decide +kernel) (by decide +kernel)
set_option maxRecDepth 20000 in
theorem gX6_word_X6_add : GoodIn wsX6_word (wsV RX6 70 RX6 yX6_add wsX6_add) := goodIn_app (goodIn_of _ (by decide +kernel)) ggX6_word_X6_add
theorem dX6_word_0 : decode cX6_word 0 = .ok (.iload_n 1, 1) := by decide +kernel
theorem dX6_word_1 : decode cX6_word 1 = .ok (.iconst 0, 1) := by decide +kernel
theorem dX6_word_2 : decode cX6_word 2 = .ok (.bipush 25, 2) := by decide +kernel
theorem dX6_word_4 : decode cX6_word 4 = .ok (.invokestatic 42, 3) := by decide +kernel
theorem dX6_word_7 : decode cX6_word 7 = .ok (.ifCond .eq 12, 3) := by decide +kernel
theorem dX6_word_10 : decode cX6_word 10 = .ok (.aload_n 0, 1) := by decide +kernel
theorem dX6_word_11 : decode cX6_word 11 = .ok (.iconst 0, 1) := by decide +kernel
theorem dX6_word_12 : decode cX6_word 12 = .ok (.iload_n 1, 1) := by decide +kernel
theorem dX6_word_13 : decode cX6_word 13 = .ok (.invokevirtual 70, 3) := by decide +kernel
theorem dX6_word_16 : decode cX6_word 16 = .ok (.goto 5, 3) := by decide +kernel
theorem dX6_word_19 : decode cX6_word 19 = .ok (.ldc 64, 2) := by decide +kernel
theorem dX6_word_21 : decode cX6_word 21 = .ok (.ireturn, 1) := by decide +kernel
set_option maxRecDepth 20000 in
theorem ggX6_number_X6_in : GoodIn wsX6_number wsX6_in := goodIn_r _ [5] (by decide +kernel) (by decide +kernel)
set_option maxRecDepth 20000 in
theorem gX6_number_X6_in : GoodIn wsX6_number (va_wsS RX6 42 yX6_in wsX6_in) := goodIn_app (goodIn_of _ (by decide +kernel)) ggX6_number_X6_in
set_option maxRecDepth 20000 in
theorem ggX6_number_X6_add : GoodIn wsX6_number wsX6_add := goodIn_r _ [9, 10, 11, 12, 13, 14, 15, 16, 17, 18, 19, 20, 21, 22, 23, 24, 25] (by decide +kernel) (by decide +kernel)
set_option maxRecDepth 20000 in
theorem gX6_number_X6_add : GoodIn wsX6_number (wsV RX6 70 RX6 yX6_add wsX6_add) := goodIn_app (goodIn_of _ (by decide +kernel)) ggX6_number_X6_add
theorem dX6_number_0 : decode cX6_number 0 = .ok (.iload_n 1, 1) := by decide +kernel
theorem dX6_number_1 : decode cX6_number 1 = .ok (.sipush (-9999), 3) := by decide +kernel
theorem dX6_number_4 : decode cX6_number 4 = .ok (.sipush 9999, 3) := by decide +kernel
theorem dX6_number_7 : decode cX6_number 7 = .ok (.invokestatic 42, 3) := by decide +kernel
theorem dX6_number_10 : decode cX6_number 10 = .ok (.ifCond .eq 12, 3) := by decide +kernel
theorem dX6_number_13 : decode cX6_number 13 = .ok (.aload_n 0, 1) := by decide +kernel
theorem dX6_number_14 : decode cX6_number 14 = .ok (.iconst 1, 1) := by decide +kernel
theorem dX6_number_15 : decode cX6_number 15 = .ok (.iload_n 1, 1) := by decide +kernel
theorem dX6_number_16 : decode cX6_number 16 = .ok (.invokevirtual 70, 3) := by decide +kernel
theorem dX6_number_19 : decode cX6_number 19 = .ok (.goto 5, 3) := by decide +kernel
theorem dX6_number_22 : decode cX6_number 22 = .ok (.ldc 64, 2) := by decide +kernel
theorem dX6_number_24 : decode cX6_number 24 = .ok (.ireturn, 1) := by decide +kernel
set_option maxRecDepth 20000 in
theorem ggX6_date_X6_isDate : GoodIn wsX6_date wsX6_isDate := goodIn_r _ [5, 6, 7, 4, 8, 9, 10, 11, 12, 13, 14] (by decide +kernel) (by decide +kernel)
set_option maxRecDepth 20000 in
theorem gX6_date_X6_isDate : GoodIn wsX6_date (va_wsS RX6 57 yX6_isDate wsX6_isDate) := goodIn_app (goodIn_of _ (by decide +kernel)) ggX6_date_X6_isDate
set_option maxRecDepth 20000 in
theorem ggX6_date_X6_dayOf : GoodIn wsX6_date wsX6_dayOf := goodIn_r _ [17, 12, 13, 4, 14, 9, 10, 11] (by decide +kernel) (by decide +kernel)
set_option maxRecDepth 20000 in
theorem gX6_date_X6_dayOf : GoodIn wsX6_date (va_wsS RX6 60 yX6_dayOf wsX6_dayOf) := goodIn_app (goodIn_of _ (by decide +kernel)) ggX6_date_X6_dayOf
set_option maxRecDepth 20000 in
theorem ggX6_date_X6_add : GoodIn wsX6_date wsX6_add := goodIn_r _ [21, 22, 23, 24, 25, 26, 27, 28, 29, 30, 31, 32, 33, 34, 35, 36, 37] (by decide +kernel) (by decide +kernel)
set_option maxRecDepth 20000 in
theorem gX6_date_X6_add : GoodIn wsX6_date (wsV RX6 70 RX6 yX6_add wsX6_add) := goodIn_app (goodIn_of _ (by decide +kernel)) ggX6_date_X6_add
theorem dX6_date_0 : decode cX6_date 0 = .ok (.iload_n 1, 1) := by decide +kernel
theorem dX6_date_1 : decode cX6_date 1 = .ok (.iload_n 2, 1) := by decide +kernel
theorem dX6_date_2 : decode cX6_date 2 = .ok (.iload_n 3, 1) := by decide +kernel
theorem dX6_date_3 : decode cX6_date 3 = .ok (.invokestatic 57, 3) := by decide +kernel
theorem dX6_date_6 : decode cX6_date 6 = .ok (.ifCond .eq 17, 3) := by decide +kernel
theorem dX6_date_9 : decode cX6_date 9 = .ok (.aload_n 0, 1) := by decide +kernel
theorem dX6_date_10 : decode cX6_date 10 = .ok (.iconst 2, 1) := by decide +kernel
theorem dX6_date_11 : decode cX6_date 11 = .ok (.iload_n 1, 1) := by decide +kernel
theorem dX6_date_12 : decode cX6_date 12 = .ok (.iload_n 2, 1) := by decide +kernel
theorem dX6_date_13 : decode cX6_date 13 = .ok (.iload_n 3, 1) := by decide +kernel
theorem dX6_date_14 : decode cX6_date 14 = .ok (.invokestatic 60, 3) := by decide +kernel
theorem dX6_date_17 : decode cX6_date 17 = .ok (.invokevirtual 70, 3) := by decide +kernel
theorem dX6_date_20 : decode cX6_date 20 = .ok (.goto 5, 3) := by decide +kernel
theorem dX6_date_23 : decode cX6_date 23 = .ok (.ldc 64, 2) := by decide +kernel
theorem dX6_date_25 : decode cX6_date 25 = .ok (.ireturn, 1) := by decide +kernel
theorem dX6_back_0 : decode cX6_back 0 = .ok (.aload_n 0, 1) := by decide +kernel
theorem dX6_back_1 : decode cX6_back 1 = .ok (.getfield 7, 3) := by decide +kernel
theorem dX6_back_4 : decode cX6_back 4 = .ok (.bipush 7, 2) := by decide +kernel
theorem dX6_back_6 : decode cX6_back 6 = .ok (.iaload, 1) := by decide +kernel
theorem dX6_back_7 : decode cX6_back 7 = .ok (.ifCond .ne 6, 3) := by decide +kernel
theorem dX6_back_10 : decode cX6_back 10 = .ok (.ldc 73, 2) := by decide +kernel
theorem dX6_back_12 : decode cX6_back 12 = .ok (.ireturn, 1) := by decide +kernel
theorem dX6_back_13 : decode cX6_back 13 = .ok (.aload_n 0, 1) := by decide +kernel
theorem dX6_back_14 : decode cX6_back 14 = .ok (.getfield 7, 3) := by decide +kernel
theorem dX6_back_17 : decode cX6_back 17 = .ok (.bipush 7, 2) := by decide +kernel
theorem dX6_back_19 : decode cX6_back 19 = .ok (.dup2, 1) := by decide +kernel
theorem dX6_back_20 : decode cX6_back 20 = .ok (.iaload, 1) := by decide +kernel
theorem dX6_back_21 : decode cX6_back 21 = .ok (.iconst 1, 1) := by decide +kernel
theorem dX6_back_22 : decode cX6_back 22 = .ok (.isub, 1) := by decide +kernel
theorem dX6_back_23 : decode cX6_back 23 = .ok (.iastore, 1) := by decide +kernel
theorem dX6_back_24 : decode cX6_back 24 = .ok (.aload_n 0, 1) := by decide +kernel
theorem dX6_back_25 : decode cX6_back 25 = .ok (.getfield 7, 3) := by decide +kernel
theorem dX6_back_28 : decode cX6_back 28 = .ok (.bipush 7, 2) := by decide +kernel
theorem dX6_back_30 : decode cX6_back 30 = .ok (.iaload, 1) := by decide +kernel
theorem dX6_back_31 : decode cX6_back 31 = .ok (.ireturn, 1) := by decide +kernel
theorem dX6_clear_0 : decode cX6_clear 0 = .ok (.aload_n 0, 1) := by decide +kernel
theorem dX6_clear_1 : decode cX6_clear 1 = .ok (.getfield 7, 3) := by decide +kernel
theorem dX6_clear_4 : decode cX6_clear 4 = .ok (.bipush 7, 2) := by decide +kernel
theorem dX6_clear_6 : decode cX6_clear 6 = .ok (.iaload, 1) := by decide +kernel
theorem dX6_clear_7 : decode cX6_clear 7 = .ok (.istore_n 1, 1) := by decide +kernel
theorem dX6_clear_8 : decode cX6_clear 8 = .ok (.aload_n 0, 1) := by decide +kernel
theorem dX6_clear_9 : decode cX6_clear 9 = .ok (.getfield 7, 3) := by decide +kernel
theorem dX6_clear_12 : decode cX6_clear 12 = .ok (.bipush 7, 2) := by decide +kernel
theorem dX6_clear_14 : decode cX6_clear 14 = .ok (.iconst 0, 1) := by decide +kernel
theorem dX6_clear_15 : decode cX6_clear 15 = .ok (.iastore, 1) := by decide +kernel
theorem dX6_clear_16 : decode cX6_clear 16 = .ok (.iload_n 1, 1) := by decide +kernel
theorem dX6_clear_17 : decode cX6_clear 17 = .ok (.ireturn, 1) := by decide +kernel
theorem dX6_kindAt_0 : decode cX6_kindAt 0 = .ok (.aload_n 0, 1) := by decide +kernel
theorem dX6_kindAt_1 : decode cX6_kindAt 1 = .ok (.getfield 7, 3) := by decide +kernel
theorem dX6_kindAt_4 : decode cX6_kindAt 4 = .ok (.bipush 8, 2) := by decide +kernel
theorem dX6_kindAt_6 : decode cX6_kindAt 6 = .ok (.iload_n 1, 1) := by decide +kernel
theorem dX6_kindAt_7 : decode cX6_kindAt 7 = .ok (.iadd, 1) := by decide +kernel
theorem dX6_kindAt_8 : decode cX6_kindAt 8 = .ok (.iaload, 1) := by decide +kernel
theorem dX6_kindAt_9 : decode cX6_kindAt 9 = .ok (.ireturn, 1) := by decide +kernel
theorem dX6_valueAt_0 : decode cX6_valueAt 0 = .ok (.aload_n 0, 1) := by decide +kernel
theorem dX6_valueAt_1 : decode cX6_valueAt 1 = .ok (.getfield 7, 3) := by decide +kernel
theorem dX6_valueAt_4 : decode cX6_valueAt 4 = .ok (.bipush 32, 2) := by decide +kernel
theorem dX6_valueAt_6 : decode cX6_valueAt 6 = .ok (.iload_n 1, 1) := by decide +kernel
theorem dX6_valueAt_7 : decode cX6_valueAt 7 = .ok (.iadd, 1) := by decide +kernel
theorem dX6_valueAt_8 : decode cX6_valueAt 8 = .ok (.iaload, 1) := by decide +kernel
theorem dX6_valueAt_9 : decode cX6_valueAt 9 = .ok (.ireturn, 1) := by decide +kernel
set_option maxRecDepth 20000 in
theorem ggX6_behindWord_X6_in : GoodIn wsX6_behindWord wsX6_in := goodIn_r _ [7] (by decide +kernel) (by decide +kernel)
set_option maxRecDepth 20000 in
theorem gX6_behindWord_X6_in : GoodIn wsX6_behindWord (va_wsS RX6 42 yX6_in wsX6_in) := goodIn_app (goodIn_of _ (by decide +kernel)) ggX6_behindWord_X6_in
theorem dX6_behindWord_0 : decode cX6_behindWord 0 = .ok (.iload_n 2, 1) := by decide +kernel
theorem dX6_behindWord_1 : decode cX6_behindWord 1 = .ok (.bipush 16, 2) := by decide +kernel
theorem dX6_behindWord_3 : decode cX6_behindWord 3 = .ok (.bipush 21, 2) := by decide +kernel
theorem dX6_behindWord_5 : decode cX6_behindWord 5 = .ok (.invokestatic 42, 3) := by decide +kernel
theorem dX6_behindWord_8 : decode cX6_behindWord 8 = .ok (.istore_n 3, 1) := by decide +kernel
theorem dX6_behindWord_9 : decode cX6_behindWord 9 = .ok (.iload_n 2, 1) := by decide +kernel
theorem dX6_behindWord_10 : decode cX6_behindWord 10 = .ok (.bipush 10, 2) := by decide +kernel
theorem dX6_behindWord_12 : decode cX6_behindWord 12 = .ok (.bipush 15, 2) := by decide +kernel
theorem dX6_behindWord_14 : decode cX6_behindWord 14 = .ok (.invokestatic 42, 3) := by decide +kernel
theorem dX6_behindWord_17 : decode cX6_behindWord 17 = .ok (.istore 4, 2) := by decide +kernel
theorem dX6_behindWord_19 : decode cX6_behindWord 19 = .ok (.iload_n 2, 1) := by decide +kernel
theorem dX6_behindWord_20 : decode cX6_behindWord 20 = .ok (.bipush 22, 2) := by decide +kernel
theorem dX6_behindWord_22 : decode cX6_behindWord 22 = .ok (.bipush 25, 2) := by decide +kernel
theorem dX6_behindWord_24 : decode cX6_behindWord 24 = .ok (.invokestatic 42, 3) := by decide +kernel
theorem dX6_behindWord_27 : decode cX6_behindWord 27 = .ok (.istore 5, 2) := by decide +kernel
theorem dX6_behindWord_29 : decode cX6_behindWord 29 = .ok (.iload_n 2, 1) := by decide +kernel
theorem dX6_behindWord_30 : decode cX6_behindWord 30 = .ok (.iconst 5, 1) := by decide +kernel
theorem dX6_behindWord_31 : decode cX6_behindWord 31 = .ok (.if_icmp .eq 9, 3) := by decide +kernel
theorem dX6_behindWord_34 : decode cX6_behindWord 34 = .ok (.iload_n 2, 1) := by decide +kernel
theorem dX6_behindWord_35 : decode cX6_behindWord 35 = .ok (.bipush 6, 2) := by decide +kernel
theorem dX6_behindWord_37 : decode cX6_behindWord 37 = .ok (.if_icmp .ne 7, 3) := by decide +kernel
theorem dX6_behindWord_40 : decode cX6_behindWord 40 = .ok (.iconst 1, 1) := by decide +kernel
theorem dX6_behindWord_41 : decode cX6_behindWord 41 = .ok (.goto 4, 3) := by decide +kernel
theorem dX6_behindWord_44 : decode cX6_behindWord 44 = .ok (.iconst 0, 1) := by decide +kernel
theorem dX6_behindWord_45 : decode cX6_behindWord 45 = .ok (.istore 6, 2) := by decide +kernel
theorem dX6_behindWord_47 : decode cX6_behindWord 47 = .ok (.iload_n 1, 1) := by decide +kernel
theorem dX6_behindWord_48 : decode cX6_behindWord 48 = .ok (.tableswitch 291 0 12 #[68, 110, 122, 158, 185, 291, 197, 226, 239, 291, 252, 291, 277], 68) := by decide +kernel
theorem dX6_behindWord_116 : decode cX6_behindWord 116 = .ok (.aload_n 0, 1) := by decide +kernel
theorem dX6_behindWord_117 : decode cX6_behindWord 117 = .ok (.iload_n 2, 1) := by decide +kernel
theorem dX6_behindWord_118 : decode cX6_behindWord 118 = .ok (.ifCond .ne 7, 3) := by decide +kernel
theorem dX6_behindWord_121 : decode cX6_behindWord 121 = .ok (.iconst 1, 1) := by decide +kernel
theorem dX6_behindWord_122 : decode cX6_behindWord 122 = .ok (.goto 4, 3) := by decide +kernel
theorem dX6_behindWord_125 : decode cX6_behindWord 125 = .ok (.iconst 0, 1) := by decide +kernel
theorem dX6_behindWord_126 : decode cX6_behindWord 126 = .ok (.putfield 74, 3) := by decide +kernel
theorem dX6_behindWord_129 : decode cX6_behindWord 129 = .ok (.iload_n 3, 1) := by decide +kernel
theorem dX6_behindWord_130 : decode cX6_behindWord 130 = .ok (.ifCond .eq 7, 3) := by decide +kernel
theorem dX6_behindWord_133 : decode cX6_behindWord 133 = .ok (.iconst 1, 1) := by decide +kernel
theorem dX6_behindWord_134 : decode cX6_behindWord 134 = .ok (.goto 23, 3) := by decide +kernel
theorem dX6_behindWord_137 : decode cX6_behindWord 137 = .ok (.iload_n 2, 1) := by decide +kernel
theorem dX6_behindWord_138 : decode cX6_behindWord 138 = .ok (.ifCond .ne 7, 3) := by decide +kernel
theorem dX6_behindWord_141 : decode cX6_behindWord 141 = .ok (.iconst 2, 1) := by decide +kernel
theorem dX6_behindWord_142 : decode cX6_behindWord 142 = .ok (.goto 15, 3) := by decide +kernel
theorem dX6_behindWord_145 : decode cX6_behindWord 145 = .ok (.iload 5, 2) := by decide +kernel
theorem dX6_behindWord_147 : decode cX6_behindWord 147 = .ok (.ifCond .eq 8, 3) := by decide +kernel
theorem dX6_behindWord_150 : decode cX6_behindWord 150 = .ok (.bipush 8, 2) := by decide +kernel
theorem dX6_behindWord_152 : decode cX6_behindWord 152 = .ok (.goto 5, 3) := by decide +kernel
theorem dX6_behindWord_155 : decode cX6_behindWord 155 = .ok (.ldc 28, 2) := by decide +kernel
theorem dX6_behindWord_157 : decode cX6_behindWord 157 = .ok (.ireturn, 1) := by decide +kernel
theorem dX6_behindWord_158 : decode cX6_behindWord 158 = .ok (.iload_n 2, 1) := by decide +kernel
theorem dX6_behindWord_159 : decode cX6_behindWord 159 = .ok (.iconst 3, 1) := by decide +kernel
theorem dX6_behindWord_160 : decode cX6_behindWord 160 = .ok (.if_icmp .ne 7, 3) := by decide +kernel
theorem dX6_behindWord_163 : decode cX6_behindWord 163 = .ok (.iconst 2, 1) := by decide +kernel
theorem dX6_behindWord_164 : decode cX6_behindWord 164 = .ok (.goto 5, 3) := by decide +kernel
theorem dX6_behindWord_167 : decode cX6_behindWord 167 = .ok (.ldc 28, 2) := by decide +kernel
theorem dX6_behindWord_169 : decode cX6_behindWord 169 = .ok (.ireturn, 1) := by decide +kernel
theorem dX6_behindWord_170 : decode cX6_behindWord 170 = .ok (.aload_n 0, 1) := by decide +kernel
theorem dX6_behindWord_171 : decode cX6_behindWord 171 = .ok (.iload_n 2, 1) := by decide +kernel
theorem dX6_behindWord_172 : decode cX6_behindWord 172 = .ok (.bipush 13, 2) := by decide +kernel
theorem dX6_behindWord_174 : decode cX6_behindWord 174 = .ok (.if_icmp .le 7, 3) := by decide +kernel
theorem dX6_behindWord_177 : decode cX6_behindWord 177 = .ok (.iconst 1, 1) := by decide +kernel
theorem dX6_behindWord_178 : decode cX6_behindWord 178 = .ok (.goto 4, 3) := by decide +kernel
theorem dX6_behindWord_181 : decode cX6_behindWord 181 = .ok (.iconst 0, 1) := by decide +kernel
theorem dX6_behindWord_182 : decode cX6_behindWord 182 = .ok (.putfield 78, 3) := by decide +kernel
theorem dX6_behindWord_185 : decode cX6_behindWord 185 = .ok (.iload_n 3, 1) := by decide +kernel
theorem dX6_behindWord_186 : decode cX6_behindWord 186 = .ok (.ifCond .eq 8, 3) := by decide +kernel
theorem dX6_behindWord_189 : decode cX6_behindWord 189 = .ok (.bipush 6, 2) := by decide +kernel
theorem dX6_behindWord_191 : decode cX6_behindWord 191 = .ok (.goto 14, 3) := by decide +kernel
theorem dX6_behindWord_194 : decode cX6_behindWord 194 = .ok (.iload 4, 2) := by decide +kernel
theorem dX6_behindWord_196 : decode cX6_behindWord 196 = .ok (.ifCond .eq 7, 3) := by decide +kernel
theorem dX6_behindWord_199 : decode cX6_behindWord 199 = .ok (.iconst 3, 1) := by decide +kernel
theorem dX6_behindWord_200 : decode cX6_behindWord 200 = .ok (.goto 5, 3) := by decide +kernel
theorem dX6_behindWord_203 : decode cX6_behindWord 203 = .ok (.ldc 28, 2) := by decide +kernel
theorem dX6_behindWord_205 : decode cX6_behindWord 205 = .ok (.ireturn, 1) := by decide +kernel
theorem dX6_behindWord_206 : decode cX6_behindWord 206 = .ok (.iload_n 2, 1) := by decide +kernel
theorem dX6_behindWord_207 : decode cX6_behindWord 207 = .ok (.bipush 7, 2) := by decide +kernel
theorem dX6_behindWord_209 : decode cX6_behindWord 209 = .ok (.if_icmp .ne 7, 3) := by decide +kernel
theorem dX6_behindWord_212 : decode cX6_behindWord 212 = .ok (.iconst 4, 1) := by decide +kernel
theorem dX6_behindWord_213 : decode cX6_behindWord 213 = .ok (.goto 19, 3) := by decide +kernel
theorem dX6_behindWord_216 : decode cX6_behindWord 216 = .ok (.iload_n 2, 1) := by decide +kernel
theorem dX6_behindWord_217 : decode cX6_behindWord 217 = .ok (.iconst 4, 1) := by decide +kernel
theorem dX6_behindWord_218 : decode cX6_behindWord 218 = .ok (.if_icmp .eq 8, 3) := by decide +kernel
theorem dX6_behindWord_221 : decode cX6_behindWord 221 = .ok (.iload 6, 2) := by decide +kernel
theorem dX6_behindWord_223 : decode cX6_behindWord 223 = .ok (.ifCond .eq 7, 3) := by decide +kernel
theorem dX6_behindWord_226 : decode cX6_behindWord 226 = .ok (.iconst 5, 1) := by decide +kernel
theorem dX6_behindWord_227 : decode cX6_behindWord 227 = .ok (.goto 5, 3) := by decide +kernel
theorem dX6_behindWord_230 : decode cX6_behindWord 230 = .ok (.ldc 28, 2) := by decide +kernel
theorem dX6_behindWord_232 : decode cX6_behindWord 232 = .ok (.ireturn, 1) := by decide +kernel
theorem dX6_behindWord_233 : decode cX6_behindWord 233 = .ok (.iload 6, 2) := by decide +kernel
theorem dX6_behindWord_235 : decode cX6_behindWord 235 = .ok (.ifCond .eq 7, 3) := by decide +kernel
theorem dX6_behindWord_238 : decode cX6_behindWord 238 = .ok (.iconst 5, 1) := by decide +kernel
theorem dX6_behindWord_239 : decode cX6_behindWord 239 = .ok (.goto 5, 3) := by decide +kernel
theorem dX6_behindWord_242 : decode cX6_behindWord 242 = .ok (.ldc 28, 2) := by decide +kernel
theorem dX6_behindWord_244 : decode cX6_behindWord 244 = .ok (.ireturn, 1) := by decide +kernel
theorem dX6_behindWord_245 : decode cX6_behindWord 245 = .ok (.iload_n 2, 1) := by decide +kernel
theorem dX6_behindWord_246 : decode cX6_behindWord 246 = .ok (.iconst 1, 1) := by decide +kernel
theorem dX6_behindWord_247 : decode cX6_behindWord 247 = .ok (.if_icmp .ne 7, 3) := by decide +kernel
theorem dX6_behindWord_250 : decode cX6_behindWord 250 = .ok (.iconst 2, 1) := by decide +kernel
theorem dX6_behindWord_251 : decode cX6_behindWord 251 = .ok (.goto 22, 3) := by decide +kernel
theorem dX6_behindWord_254 : decode cX6_behindWord 254 = .ok (.iload_n 2, 1) := by decide +kernel
theorem dX6_behindWord_255 : decode cX6_behindWord 255 = .ok (.iconst 2, 1) := by decide +kernel
theorem dX6_behindWord_256 : decode cX6_behindWord 256 = .ok (.if_icmp .ne 15, 3) := by decide +kernel
theorem dX6_behindWord_259 : decode cX6_behindWord 259 = .ok (.aload_n 0, 1) := by decide +kernel
theorem dX6_behindWord_260 : decode cX6_behindWord 260 = .ok (.getfield 74, 3) := by decide +kernel
theorem dX6_behindWord_263 : decode cX6_behindWord 263 = .ok (.ifCond .eq 8, 3) := by decide +kernel
theorem dX6_behindWord_266 : decode cX6_behindWord 266 = .ok (.bipush 7, 2) := by decide +kernel
theorem dX6_behindWord_268 : decode cX6_behindWord 268 = .ok (.goto 5, 3) := by decide +kernel
theorem dX6_behindWord_271 : decode cX6_behindWord 271 = .ok (.ldc 28, 2) := by decide +kernel
theorem dX6_behindWord_273 : decode cX6_behindWord 273 = .ok (.ireturn, 1) := by decide +kernel
theorem dX6_behindWord_274 : decode cX6_behindWord 274 = .ok (.iload 5, 2) := by decide +kernel
theorem dX6_behindWord_276 : decode cX6_behindWord 276 = .ok (.ifCond .eq 8, 3) := by decide +kernel
theorem dX6_behindWord_279 : decode cX6_behindWord 279 = .ok (.bipush 8, 2) := by decide +kernel
theorem dX6_behindWord_281 : decode cX6_behindWord 281 = .ok (.goto 5, 3) := by decide +kernel
theorem dX6_behindWord_284 : decode cX6_behindWord 284 = .ok (.ldc 28, 2) := by decide +kernel
theorem dX6_behindWord_286 : decode cX6_behindWord 286 = .ok (.ireturn, 1) := by decide +kernel
theorem dX6_behindWord_287 : decode cX6_behindWord 287 = .ok (.iload_n 2, 1) := by decide +kernel
theorem dX6_behindWord_288 : decode cX6_behindWord 288 = .ok (.iconst 4, 1) := by decide +kernel
theorem dX6_behindWord_289 : decode cX6_behindWord 289 = .ok (.if_icmp .ne 8, 3) := by decide +kernel
theorem dX6_behindWord_292 : decode cX6_behindWord 292 = .ok (.bipush 9, 2) := by decide +kernel
theorem dX6_behindWord_294 : decode cX6_behindWord 294 = .ok (.goto 5, 3) := by decide +kernel
theorem dX6_behindWord_297 : decode cX6_behindWord 297 = .ok (.ldc 28, 2) := by decide +kernel
theorem dX6_behindWord_299 : decode cX6_behindWord 299 = .ok (.ireturn, 1) := by decide +kernel
theorem dX6_behindWord_300 : decode cX6_behindWord 300 = .ok (.iload_n 2, 1) := by decide +kernel
theorem dX6_behindWord_301 : decode cX6_behindWord 301 = .ok (.bipush 8, 2) := by decide +kernel
theorem dX6_behindWord_303 : decode cX6_behindWord 303 = .ok (.if_icmp .ne 8, 3) := by decide +kernel
theorem dX6_behindWord_306 : decode cX6_behindWord 306 = .ok (.bipush 11, 2) := by decide +kernel
theorem dX6_behindWord_308 : decode cX6_behindWord 308 = .ok (.goto 16, 3) := by decide +kernel
theorem dX6_behindWord_311 : decode cX6_behindWord 311 = .ok (.iload_n 2, 1) := by decide +kernel
theorem dX6_behindWord_312 : decode cX6_behindWord 312 = .ok (.bipush 9, 2) := by decide +kernel
theorem dX6_behindWord_314 : decode cX6_behindWord 314 = .ok (.if_icmp .ne 8, 3) := by decide +kernel
theorem dX6_behindWord_317 : decode cX6_behindWord 317 = .ok (.bipush 13, 2) := by decide +kernel
theorem dX6_behindWord_319 : decode cX6_behindWord 319 = .ok (.goto 5, 3) := by decide +kernel
theorem dX6_behindWord_322 : decode cX6_behindWord 322 = .ok (.ldc 28, 2) := by decide +kernel
theorem dX6_behindWord_324 : decode cX6_behindWord 324 = .ok (.ireturn, 1) := by decide +kernel
theorem dX6_behindWord_325 : decode cX6_behindWord 325 = .ok (.iload_n 2, 1) := by decide +kernel
theorem dX6_behindWord_326 : decode cX6_behindWord 326 = .ok (.bipush 9, 2) := by decide +kernel
theorem dX6_behindWord_328 : decode cX6_behindWord 328 = .ok (.if_icmp .ne 8, 3) := by decide +kernel
theorem dX6_behindWord_331 : decode cX6_behindWord 331 = .ok (.bipush 13, 2) := by decide +kernel
theorem dX6_behindWord_333 : decode cX6_behindWord 333 = .ok (.goto 5, 3) := by decide +kernel
theorem dX6_behindWord_336 : decode cX6_behindWord 336 = .ok (.ldc 28, 2) := by decide +kernel
theorem dX6_behindWord_338 : decode cX6_behindWord 338 = .ok (.ireturn, 1) := by decide +kernel
theorem dX6_behindWord_339 : decode cX6_behindWord 339 = .ok (.ldc 28, 2) := by decide +kernel
theorem dX6_behindWord_341 : decode cX6_behindWord 341 = .ok (.ireturn, 1) := by decide +kernel
set_option maxRecDepth 20000 in
theorem ggX6_behind_X6_kindAt : GoodIn wsX6_behind wsX6_kindAt := goodIn_r _ [7, 8, 21, 22, 23, 24, 25, 26, 27, 28, 29, 30, 31, 32, 33, 34] (by decide +kernel) (by decide +kernel)
set_option maxRecDepth 20000 in
theorem gX6_behind_X6_kindAt : GoodIn wsX6_behind (wsV RX6 81 RX6 yX6_kindAt wsX6_kindAt) := goodIn_app (goodIn_of _ (by decide +kernel)) ggX6_behind_X6_kindAt
set_option maxRecDepth 20000 in
theorem ggX6_behind_X6_valueAt : GoodIn wsX6_behind wsX6_valueAt := goodIn_r _ [12, 8, 21, 22, 23, 24, 25, 26, 27, 28, 29, 30, 31, 32, 33, 34] (by decide +kernel) (by decide +kernel)
set_option maxRecDepth 20000 in
theorem gX6_behind_X6_valueAt : GoodIn wsX6_behind (wsV RX6 84 RX6 yX6_valueAt wsX6_valueAt) := goodIn_app (goodIn_of _ (by decide +kernel)) ggX6_behind_X6_valueAt
set_option maxRecDepth 20000 in
theorem ggX6_behind_X6_behindWord : GoodIn wsX6_behind wsX6_behindWord := goodIn_r _ [16, 17, 2, 1, 18, 19, 6, 20, 21, 22, 23, 24, 25, 26, 27, 28, 29, 30, 31, 32, 33, 34] (by decide +kernel) (by decide +kernel)
set_option maxRecDepth 20000 in
theorem gX6_behind_X6_behindWord : GoodIn wsX6_behind (wsV RX6 87 RX6 yX6_behindWord wsX6_behindWord) := goodIn_app (goodIn_of _ (by decide +kernel)) ggX6_behind_X6_behindWord
theorem dX6_behind_0 : decode cX6_behind 0 = .ok (.aload_n 0, 1) := by decide +kernel
theorem dX6_behind_1 : decode cX6_behind 1 = .ok (.iload_n 2, 1) := by decide +kernel
theorem dX6_behind_2 : decode cX6_behind 2 = .ok (.invokevirtual 81, 3) := by decide +kernel
theorem dX6_behind_5 : decode cX6_behind 5 = .ok (.ifCond .ne 14, 3) := by decide +kernel
theorem dX6_behind_8 : decode cX6_behind 8 = .ok (.aload_n 0, 1) := by decide +kernel
theorem dX6_behind_9 : decode cX6_behind 9 = .ok (.iload_n 1, 1) := by decide +kernel
theorem dX6_behind_10 : decode cX6_behind 10 = .ok (.aload_n 0, 1) := by decide +kernel
theorem dX6_behind_11 : decode cX6_behind 11 = .ok (.iload_n 2, 1) := by decide +kernel
theorem dX6_behind_12 : decode cX6_behind 12 = .ok (.invokevirtual 84, 3) := by decide +kernel
theorem dX6_behind_15 : decode cX6_behind 15 = .ok (.invokevirtual 87, 3) := by decide +kernel
theorem dX6_behind_18 : decode cX6_behind 18 = .ok (.ireturn, 1) := by decide +kernel
theorem dX6_behind_19 : decode cX6_behind 19 = .ok (.aload_n 0, 1) := by decide +kernel
theorem dX6_behind_20 : decode cX6_behind 20 = .ok (.iload_n 2, 1) := by decide +kernel
theorem dX6_behind_21 : decode cX6_behind 21 = .ok (.invokevirtual 81, 3) := by decide +kernel
theorem dX6_behind_24 : decode cX6_behind 24 = .ok (.iconst 1, 1) := by decide +kernel
theorem dX6_behind_25 : decode cX6_behind 25 = .ok (.if_icmp .ne 34, 3) := by decide +kernel
theorem dX6_behind_28 : decode cX6_behind 28 = .ok (.iload_n 1, 1) := by decide +kernel
theorem dX6_behind_29 : decode cX6_behind 29 = .ok (.iconst 5, 1) := by decide +kernel
theorem dX6_behind_30 : decode cX6_behind 30 = .ok (.if_icmp .ne 15, 3) := by decide +kernel
theorem dX6_behind_33 : decode cX6_behind 33 = .ok (.aload_n 0, 1) := by decide +kernel
theorem dX6_behind_34 : decode cX6_behind 34 = .ok (.getfield 78, 3) := by decide +kernel
theorem dX6_behind_37 : decode cX6_behind 37 = .ok (.ifCond .ne 8, 3) := by decide +kernel
theorem dX6_behind_40 : decode cX6_behind 40 = .ok (.bipush 6, 2) := by decide +kernel
theorem dX6_behind_42 : decode cX6_behind 42 = .ok (.goto 16, 3) := by decide +kernel
theorem dX6_behind_45 : decode cX6_behind 45 = .ok (.iload_n 1, 1) := by decide +kernel
theorem dX6_behind_46 : decode cX6_behind 46 = .ok (.bipush 9, 2) := by decide +kernel
theorem dX6_behind_48 : decode cX6_behind 48 = .ok (.if_icmp .ne 8, 3) := by decide +kernel
theorem dX6_behind_51 : decode cX6_behind 51 = .ok (.bipush 10, 2) := by decide +kernel
theorem dX6_behind_53 : decode cX6_behind 53 = .ok (.goto 5, 3) := by decide +kernel
theorem dX6_behind_56 : decode cX6_behind 56 = .ok (.ldc 28, 2) := by decide +kernel
theorem dX6_behind_58 : decode cX6_behind 58 = .ok (.ireturn, 1) := by decide +kernel
theorem dX6_behind_59 : decode cX6_behind 59 = .ok (.iload_n 1, 1) := by decide +kernel
theorem dX6_behind_60 : decode cX6_behind 60 = .ok (.iconst 5, 1) := by decide +kernel
theorem dX6_behind_61 : decode cX6_behind 61 = .ok (.if_icmp .ne 15, 3) := by decide +kernel
theorem dX6_behind_64 : decode cX6_behind 64 = .ok (.aload_n 0, 1) := by decide +kernel
theorem dX6_behind_65 : decode cX6_behind 65 = .ok (.getfield 78, 3) := by decide +kernel
theorem dX6_behind_68 : decode cX6_behind 68 = .ok (.ifCond .eq 8, 3) := by decide +kernel
theorem dX6_behind_71 : decode cX6_behind 71 = .ok (.bipush 6, 2) := by decide +kernel
theorem dX6_behind_73 : decode cX6_behind 73 = .ok (.goto 27, 3) := by decide +kernel
theorem dX6_behind_76 : decode cX6_behind 76 = .ok (.iload_n 1, 1) := by decide +kernel
theorem dX6_behind_77 : decode cX6_behind 77 = .ok (.bipush 11, 2) := by decide +kernel
theorem dX6_behind_79 : decode cX6_behind 79 = .ok (.if_icmp .ne 8, 3) := by decide +kernel
theorem dX6_behind_82 : decode cX6_behind 82 = .ok (.bipush 12, 2) := by decide +kernel
theorem dX6_behind_84 : decode cX6_behind 84 = .ok (.goto 16, 3) := by decide +kernel
theorem dX6_behind_87 : decode cX6_behind 87 = .ok (.iload_n 1, 1) := by decide +kernel
theorem dX6_behind_88 : decode cX6_behind 88 = .ok (.bipush 13, 2) := by decide +kernel
theorem dX6_behind_90 : decode cX6_behind 90 = .ok (.if_icmp .ne 8, 3) := by decide +kernel
theorem dX6_behind_93 : decode cX6_behind 93 = .ok (.bipush 14, 2) := by decide +kernel
theorem dX6_behind_95 : decode cX6_behind 95 = .ok (.goto 5, 3) := by decide +kernel
theorem dX6_behind_98 : decode cX6_behind 98 = .ok (.ldc 28, 2) := by decide +kernel
theorem dX6_behind_100 : decode cX6_behind 100 = .ok (.ireturn, 1) := by decide +kernel
set_option maxRecDepth 20000 in
theorem ggX6_error_X6_behind : GoodIn wsX6_error wsX6_behind := goodIn_r _ [8, 9, 3, 10, 11, 12, 7, 13, 1, 14, 15, 16, 17, 18, 19, 20, 21, 2, 22, 23, 24, 25, 26, 27, 28, 29, 30, 31, 32, 33, 34, 35, 36, 37, 38] (by decide +kernel) (by decide +kernel)
set_option maxRecDepth 20000 in
theorem gX6_error_X6_behind : GoodIn wsX6_error (wsV RX6 90 RX6 yX6_behind wsX6_behind) := goodIn_app (goodIn_of _ (by decide +kernel)) ggX6_error_X6_behind
theorem dX6_error_0 : decode cX6_error 0 = .ok (.iconst 0, 1) := by decide +kernel
theorem dX6_error_1 : decode cX6_error 1 = .ok (.istore_n 1, 1) := by decide +kernel
theorem dX6_error_2 : decode cX6_error 2 = .ok (.iconst 0, 1) := by decide +kernel
theorem dX6_error_3 : decode cX6_error 3 = .ok (.istore_n 2, 1) := by decide +kernel
theorem dX6_error_4 : decode cX6_error 4 = .ok (.iload_n 2, 1) := by decide +kernel
theorem dX6_error_5 : decode cX6_error 5 = .ok (.aload_n 0, 1) := by decide +kernel
theorem dX6_error_6 : decode cX6_error 6 = .ok (.getfield 7, 3) := by decide +kernel
theorem dX6_error_9 : decode cX6_error 9 = .ok (.bipush 7, 2) := by decide +kernel
theorem dX6_error_11 : decode cX6_error 11 = .ok (.iaload, 1) := by decide +kernel
theorem dX6_error_12 : decode cX6_error 12 = .ok (.if_icmp .ge 22, 3) := by decide +kernel
theorem dX6_error_15 : decode cX6_error 15 = .ok (.aload_n 0, 1) := by decide +kernel
theorem dX6_error_16 : decode cX6_error 16 = .ok (.iload_n 1, 1) := by decide +kernel
theorem dX6_error_17 : decode cX6_error 17 = .ok (.iload_n 2, 1) := by decide +kernel
theorem dX6_error_18 : decode cX6_error 18 = .ok (.invokevirtual 90, 3) := by decide +kernel
theorem dX6_error_21 : decode cX6_error 21 = .ok (.istore_n 1, 1) := by decide +kernel
theorem dX6_error_22 : decode cX6_error 22 = .ok (.iload_n 1, 1) := by decide +kernel
theorem dX6_error_23 : decode cX6_error 23 = .ok (.ifCond .ge 5, 3) := by decide +kernel
theorem dX6_error_26 : decode cX6_error 26 = .ok (.iload_n 2, 1) := by decide +kernel
theorem dX6_error_27 : decode cX6_error 27 = .ok (.ireturn, 1) := by decide +kernel
theorem dX6_error_28 : decode cX6_error 28 = .ok (.iinc 2 1, 3) := by decide +kernel
theorem dX6_error_31 : decode cX6_error 31 = .ok (.goto (-27), 3) := by decide +kernel
theorem dX6_error_34 : decode cX6_error 34 = .ok (.iload_n 1, 1) := by decide +kernel
theorem dX6_error_35 : decode cX6_error 35 = .ok (.bipush 6, 2) := by decide +kernel
theorem dX6_error_37 : decode cX6_error 37 = .ok (.if_icmp .ne 10, 3) := by decide +kernel
theorem dX6_error_40 : decode cX6_error 40 = .ok (.aload_n 0, 1) := by decide +kernel
theorem dX6_error_41 : decode cX6_error 41 = .ok (.getfield 74, 3) := by decide +kernel
theorem dX6_error_44 : decode cX6_error 44 = .ok (.ifCond .eq 21, 3) := by decide +kernel
theorem dX6_error_47 : decode cX6_error 47 = .ok (.iload_n 1, 1) := by decide +kernel
theorem dX6_error_48 : decode cX6_error 48 = .ok (.bipush 10, 2) := by decide +kernel
theorem dX6_error_50 : decode cX6_error 50 = .ok (.if_icmp .eq 15, 3) := by decide +kernel
theorem dX6_error_53 : decode cX6_error 53 = .ok (.iload_n 1, 1) := by decide +kernel
theorem dX6_error_54 : decode cX6_error 54 = .ok (.bipush 12, 2) := by decide +kernel
theorem dX6_error_56 : decode cX6_error 56 = .ok (.if_icmp .eq 9, 3) := by decide +kernel
theorem dX6_error_59 : decode cX6_error 59 = .ok (.iload_n 1, 1) := by decide +kernel
theorem dX6_error_60 : decode cX6_error 60 = .ok (.bipush 14, 2) := by decide +kernel
theorem dX6_error_62 : decode cX6_error 62 = .ok (.if_icmp .ne 7, 3) := by decide +kernel
theorem dX6_error_65 : decode cX6_error 65 = .ok (.iconst 1, 1) := by decide +kernel
theorem dX6_error_66 : decode cX6_error 66 = .ok (.goto 4, 3) := by decide +kernel
theorem dX6_error_69 : decode cX6_error 69 = .ok (.iconst 0, 1) := by decide +kernel
theorem dX6_error_70 : decode cX6_error 70 = .ok (.istore_n 2, 1) := by decide +kernel
theorem dX6_error_71 : decode cX6_error 71 = .ok (.iload_n 2, 1) := by decide +kernel
theorem dX6_error_72 : decode cX6_error 72 = .ok (.ifCond .eq 8, 3) := by decide +kernel
theorem dX6_error_75 : decode cX6_error 75 = .ok (.ldc 28, 2) := by decide +kernel
theorem dX6_error_77 : decode cX6_error 77 = .ok (.goto 10, 3) := by decide +kernel
theorem dX6_error_80 : decode cX6_error 80 = .ok (.aload_n 0, 1) := by decide +kernel
theorem dX6_error_81 : decode cX6_error 81 = .ok (.getfield 7, 3) := by decide +kernel
theorem dX6_error_84 : decode cX6_error 84 = .ok (.bipush 7, 2) := by decide +kernel
theorem dX6_error_86 : decode cX6_error 86 = .ok (.iaload, 1) := by decide +kernel
theorem dX6_error_87 : decode cX6_error 87 = .ok (.ireturn, 1) := by decide +kernel
set_option maxRecDepth 20000 in
theorem ggX6_syntaxError_X6_error : GoodIn wsX6_syntaxError wsX6_error := goodIn_r _ [5, 6, 7, 8, 9, 10, 11, 4, 12, 13, 14, 15, 16, 17, 18, 19, 20, 21, 22, 23, 24, 25, 26, 27, 28, 29, 30, 31, 32, 33, 34, 35, 36, 37, 38, 39, 40, 41, 42] (by decide +kernel) (by decide +kernel)
set_option maxRecDepth 20000 in
theorem gX6_syntaxError_X6_error : GoodIn wsX6_syntaxError (wsV RX6 93 RX6 yX6_error wsX6_error) := goodIn_app (goodIn_of _ (by decide +kernel)) ggX6_syntaxError_X6_error
theorem dX6_syntaxError_0 : decode cX6_syntaxError 0 = .ok (.aload_n 0, 1) := by decide +kernel
theorem dX6_syntaxError_1 : decode cX6_syntaxError 1 = .ok (.invokevirtual 93, 3) := by decide +kernel
theorem dX6_syntaxError_4 : decode cX6_syntaxError 4 = .ok (.ireturn, 1) := by decide +kernel
theorem dX6_atLeast_0 : decode cX6_atLeast 0 = .ok (.aload_n 0, 1) := by decide +kernel
theorem dX6_atLeast_1 : decode cX6_atLeast 1 = .ok (.getfield 19, 3) := by decide +kernel
theorem dX6_atLeast_4 : decode cX6_atLeast 4 = .ok (.iload_n 1, 1) := by decide +kernel
theorem dX6_atLeast_5 : decode cX6_atLeast 5 = .ok (.iload_n 2, 1) := by decide +kernel
theorem dX6_atLeast_6 : decode cX6_atLeast 6 = .ok (.aload_n 0, 1) := by decide +kernel
theorem dX6_atLeast_7 : decode cX6_atLeast 7 = .ok (.getfield 19, 3) := by decide +kernel
theorem dX6_atLeast_10 : decode cX6_atLeast 10 = .ok (.iload_n 1, 1) := by decide +kernel
theorem dX6_atLeast_11 : decode cX6_atLeast 11 = .ok (.iaload, 1) := by decide +kernel
theorem dX6_atLeast_12 : decode cX6_atLeast 12 = .ok (.if_icmp .le 7, 3) := by decide +kernel
theorem dX6_atLeast_15 : decode cX6_atLeast 15 = .ok (.iload_n 2, 1) := by decide +kernel
theorem dX6_atLeast_16 : decode cX6_atLeast 16 = .ok (.goto 9, 3) := by decide +kernel
theorem dX6_atLeast_19 : decode cX6_atLeast 19 = .ok (.aload_n 0, 1) := by decide +kernel
theorem dX6_atLeast_20 : decode cX6_atLeast 20 = .ok (.getfield 19, 3) := by decide +kernel
theorem dX6_atLeast_23 : decode cX6_atLeast 23 = .ok (.iload_n 1, 1) := by decide +kernel
theorem dX6_atLeast_24 : decode cX6_atLeast 24 = .ok (.iaload, 1) := by decide +kernel
theorem dX6_atLeast_25 : decode cX6_atLeast 25 = .ok (.iastore, 1) := by decide +kernel
theorem dX6_atLeast_26 : decode cX6_atLeast 26 = .ok (.return_, 1) := by decide +kernel
theorem dX6_atMost_0 : decode cX6_atMost 0 = .ok (.aload_n 0, 1) := by decide +kernel
theorem dX6_atMost_1 : decode cX6_atMost 1 = .ok (.getfield 22, 3) := by decide +kernel
theorem dX6_atMost_4 : decode cX6_atMost 4 = .ok (.iload_n 1, 1) := by decide +kernel
theorem dX6_atMost_5 : decode cX6_atMost 5 = .ok (.iload_n 2, 1) := by decide +kernel
theorem dX6_atMost_6 : decode cX6_atMost 6 = .ok (.aload_n 0, 1) := by decide +kernel
theorem dX6_atMost_7 : decode cX6_atMost 7 = .ok (.getfield 22, 3) := by decide +kernel
theorem dX6_atMost_10 : decode cX6_atMost 10 = .ok (.iload_n 1, 1) := by decide +kernel
theorem dX6_atMost_11 : decode cX6_atMost 11 = .ok (.iaload, 1) := by decide +kernel
theorem dX6_atMost_12 : decode cX6_atMost 12 = .ok (.if_icmp .ge 7, 3) := by decide +kernel
theorem dX6_atMost_15 : decode cX6_atMost 15 = .ok (.iload_n 2, 1) := by decide +kernel
theorem dX6_atMost_16 : decode cX6_atMost 16 = .ok (.goto 9, 3) := by decide +kernel
theorem dX6_atMost_19 : decode cX6_atMost 19 = .ok (.aload_n 0, 1) := by decide +kernel
theorem dX6_atMost_20 : decode cX6_atMost 20 = .ok (.getfield 22, 3) := by decide +kernel
theorem dX6_atMost_23 : decode cX6_atMost 23 = .ok (.iload_n 1, 1) := by decide +kernel
theorem dX6_atMost_24 : decode cX6_atMost 24 = .ok (.iaload, 1) := by decide +kernel
theorem dX6_atMost_25 : decode cX6_atMost 25 = .ok (.iastore, 1) := by decide +kernel
theorem dX6_atMost_26 : decode cX6_atMost 26 = .ok (.return_, 1) := by decide +kernel
set_option maxRecDepth 20000 in
theorem ggX6_definitionOf_X6_of : GoodIn wsX6_definitionOf wsX6_of := goodIn_r _ [7, 1, 8, 9, 10, 11, 12, 13, 14, 15, 16, 17, 18, 19, 20, 21] (by decide +kernel) (by decide +kernel)
set_option maxRecDepth 20000 in
theorem gX6_definitionOf_X6_of : GoodIn wsX6_definitionOf (wsV RX6 97 RX6 yX6_of wsX6_of) := goodIn_app (goodIn_of _ (by decide +kernel)) ggX6_definitionOf_X6_of
theorem dX6_definitionOf_0 : decode cX6_definitionOf 0 = .ok (.iconst 0, 1) := by decide +kernel
theorem dX6_definitionOf_1 : decode cX6_definitionOf 1 = .ok (.istore_n 2, 1) := by decide +kernel
theorem dX6_definitionOf_2 : decode cX6_definitionOf 2 = .ok (.iload_n 2, 1) := by decide +kernel
theorem dX6_definitionOf_3 : decode cX6_definitionOf 3 = .ok (.aload_n 0, 1) := by decide +kernel
theorem dX6_definitionOf_4 : decode cX6_definitionOf 4 = .ok (.getfield 7, 3) := by decide +kernel
theorem dX6_definitionOf_7 : decode cX6_definitionOf 7 = .ok (.bipush 56, 2) := by decide +kernel
theorem dX6_definitionOf_9 : decode cX6_definitionOf 9 = .ok (.iaload, 1) := by decide +kernel
theorem dX6_definitionOf_10 : decode cX6_definitionOf 10 = .ok (.if_icmp .ge 25, 3) := by decide +kernel
theorem dX6_definitionOf_13 : decode cX6_definitionOf 13 = .ok (.aload_n 0, 1) := by decide +kernel
theorem dX6_definitionOf_14 : decode cX6_definitionOf 14 = .ok (.iload_n 2, 1) := by decide +kernel
theorem dX6_definitionOf_15 : decode cX6_definitionOf 15 = .ok (.bipush 49, 2) := by decide +kernel
theorem dX6_definitionOf_17 : decode cX6_definitionOf 17 = .ok (.invokevirtual 97, 3) := by decide +kernel
theorem dX6_definitionOf_20 : decode cX6_definitionOf 20 = .ok (.bipush 10, 2) := by decide +kernel
theorem dX6_definitionOf_22 : decode cX6_definitionOf 22 = .ok (.iload_n 1, 1) := by decide +kernel
theorem dX6_definitionOf_23 : decode cX6_definitionOf 23 = .ok (.iadd, 1) := by decide +kernel
theorem dX6_definitionOf_24 : decode cX6_definitionOf 24 = .ok (.if_icmp .ne 5, 3) := by decide +kernel
theorem dX6_definitionOf_27 : decode cX6_definitionOf 27 = .ok (.iload_n 2, 1) := by decide +kernel
theorem dX6_definitionOf_28 : decode cX6_definitionOf 28 = .ok (.ireturn, 1) := by decide +kernel
theorem dX6_definitionOf_29 : decode cX6_definitionOf 29 = .ok (.iinc 2 1, 3) := by decide +kernel
theorem dX6_definitionOf_32 : decode cX6_definitionOf 32 = .ok (.goto (-30), 3) := by decide +kernel
theorem dX6_definitionOf_35 : decode cX6_definitionOf 35 = .ok (.ldc 28, 2) := by decide +kernel
theorem dX6_definitionOf_37 : decode cX6_definitionOf 37 = .ok (.ireturn, 1) := by decide +kernel
set_option maxRecDepth 20000 in
theorem ggX6_narrow_X6_definitionOf : GoodIn wsX6_narrow wsX6_definitionOf := goodIn_r _ [6, 7, 8, 9, 10, 11, 5, 12, 23, 24, 25, 26, 27, 28, 29, 30, 31, 32, 33, 34, 35, 36] (by decide +kernel) (by decide +kernel)
set_option maxRecDepth 20000 in
theorem gX6_narrow_X6_definitionOf : GoodIn wsX6_narrow (wsV RX6 103 RX6 yX6_definitionOf wsX6_definitionOf) := goodIn_app (goodIn_of _ (by decide +kernel)) ggX6_narrow_X6_definitionOf
set_option maxRecDepth 20000 in
theorem ggX6_narrow_X6_of : GoodIn wsX6_narrow wsX6_of := goodIn_r _ [12, 7, 23, 24, 25, 26, 27, 28, 29, 30, 31, 32, 33, 34, 35, 36] (by decide +kernel) (by decide +kernel)
set_option maxRecDepth 20000 in
theorem gX6_narrow_X6_of : GoodIn wsX6_narrow (wsV RX6 97 RX6 yX6_of wsX6_of) := goodIn_app (goodIn_of _ (by decide +kernel)) ggX6_narrow_X6_of
set_option maxRecDepth 20000 in
theorem ggX6_narrow_X6_atLeast : GoodIn wsX6_narrow wsX6_atLeast := goodIn_r _ [16, 17, 23, 24, 25, 26, 27, 28, 29, 30, 31, 32, 33, 34, 35, 36] (by decide +kernel) (by decide +kernel)
set_option maxRecDepth 20000 in
theorem gX6_narrow_X6_atLeast : GoodIn wsX6_narrow (wsV RX6 106 RX6 yX6_atLeast wsX6_atLeast) := goodIn_app (goodIn_of _ (by decide +kernel)) ggX6_narrow_X6_atLeast
set_option maxRecDepth 20000 in
theorem ggX6_narrow_X6_atMost : GoodIn wsX6_narrow wsX6_atMost := goodIn_r _ [21, 22, 23, 24, 25, 26, 27, 28, 29, 30, 31, 32, 33, 34, 35, 36] (by decide +kernel) (by decide +kernel)
set_option maxRecDepth 20000 in
theorem gX6_narrow_X6_atMost : GoodIn wsX6_narrow (wsV RX6 110 RX6 yX6_atMost wsX6_atMost) := goodIn_app (goodIn_of _ (by decide +kernel)) ggX6_narrow_X6_atMost
theorem dX6_narrow_0 : decode cX6_narrow 0 = .ok (.aload_n 0, 1) := by decide +kernel
theorem dX6_narrow_1 : decode cX6_narrow 1 = .ok (.dup, 1) := by decide +kernel
theorem dX6_narrow_2 : decode cX6_narrow 2 = .ok (.getfield 100, 3) := by decide +kernel
theorem dX6_narrow_5 : decode cX6_narrow 5 = .ok (.iconst 1, 1) := by decide +kernel
theorem dX6_narrow_6 : decode cX6_narrow 6 = .ok (.iload_n 1, 1) := by decide +kernel
theorem dX6_narrow_7 : decode cX6_narrow 7 = .ok (.ishl, 1) := by decide +kernel
theorem dX6_narrow_8 : decode cX6_narrow 8 = .ok (.ior, 1) := by decide +kernel
theorem dX6_narrow_9 : decode cX6_narrow 9 = .ok (.putfield 100, 3) := by decide +kernel
theorem dX6_narrow_12 : decode cX6_narrow 12 = .ok (.aload_n 0, 1) := by decide +kernel
theorem dX6_narrow_13 : decode cX6_narrow 13 = .ok (.iload_n 1, 1) := by decide +kernel
theorem dX6_narrow_14 : decode cX6_narrow 14 = .ok (.invokevirtual 103, 3) := by decide +kernel
theorem dX6_narrow_17 : decode cX6_narrow 17 = .ok (.istore_n 2, 1) := by decide +kernel
theorem dX6_narrow_18 : decode cX6_narrow 18 = .ok (.iconst 0, 1) := by decide +kernel
theorem dX6_narrow_19 : decode cX6_narrow 19 = .ok (.istore_n 3, 1) := by decide +kernel
theorem dX6_narrow_20 : decode cX6_narrow 20 = .ok (.iload_n 3, 1) := by decide +kernel
theorem dX6_narrow_21 : decode cX6_narrow 21 = .ok (.bipush 7, 2) := by decide +kernel
theorem dX6_narrow_23 : decode cX6_narrow 23 = .ok (.if_icmp .ge 41, 3) := by decide +kernel
theorem dX6_narrow_26 : decode cX6_narrow 26 = .ok (.iload_n 2, 1) := by decide +kernel
theorem dX6_narrow_27 : decode cX6_narrow 27 = .ok (.ifCond .lt 37, 3) := by decide +kernel
theorem dX6_narrow_30 : decode cX6_narrow 30 = .ok (.aload_n 0, 1) := by decide +kernel
theorem dX6_narrow_31 : decode cX6_narrow 31 = .ok (.iload_n 3, 1) := by decide +kernel
theorem dX6_narrow_32 : decode cX6_narrow 32 = .ok (.aload_n 0, 1) := by decide +kernel
theorem dX6_narrow_33 : decode cX6_narrow 33 = .ok (.iload_n 2, 1) := by decide +kernel
theorem dX6_narrow_34 : decode cX6_narrow 34 = .ok (.bipush 52, 2) := by decide +kernel
theorem dX6_narrow_36 : decode cX6_narrow 36 = .ok (.iload_n 3, 1) := by decide +kernel
theorem dX6_narrow_37 : decode cX6_narrow 37 = .ok (.iadd, 1) := by decide +kernel
theorem dX6_narrow_38 : decode cX6_narrow 38 = .ok (.invokevirtual 97, 3) := by decide +kernel
theorem dX6_narrow_41 : decode cX6_narrow 41 = .ok (.invokevirtual 106, 3) := by decide +kernel
theorem dX6_narrow_44 : decode cX6_narrow 44 = .ok (.aload_n 0, 1) := by decide +kernel
theorem dX6_narrow_45 : decode cX6_narrow 45 = .ok (.iload_n 3, 1) := by decide +kernel
theorem dX6_narrow_46 : decode cX6_narrow 46 = .ok (.aload_n 0, 1) := by decide +kernel
theorem dX6_narrow_47 : decode cX6_narrow 47 = .ok (.iload_n 2, 1) := by decide +kernel
theorem dX6_narrow_48 : decode cX6_narrow 48 = .ok (.bipush 59, 2) := by decide +kernel
theorem dX6_narrow_50 : decode cX6_narrow 50 = .ok (.iload_n 3, 1) := by decide +kernel
theorem dX6_narrow_51 : decode cX6_narrow 51 = .ok (.iadd, 1) := by decide +kernel
theorem dX6_narrow_52 : decode cX6_narrow 52 = .ok (.invokevirtual 97, 3) := by decide +kernel
theorem dX6_narrow_55 : decode cX6_narrow 55 = .ok (.invokevirtual 110, 3) := by decide +kernel
theorem dX6_narrow_58 : decode cX6_narrow 58 = .ok (.iinc 3 1, 3) := by decide +kernel
theorem dX6_narrow_61 : decode cX6_narrow 61 = .ok (.goto (-41), 3) := by decide +kernel
theorem dX6_narrow_64 : decode cX6_narrow 64 = .ok (.return_, 1) := by decide +kernel
set_option maxRecDepth 20000 in
theorem ggX6_narrowFact_X6_valueAt : GoodIn wsX6_narrowFact wsX6_valueAt := goodIn_r _ [5, 6, 17, 18, 19, 20, 21, 22, 23, 24, 25, 26, 27, 28, 29, 30] (by decide +kernel) (by decide +kernel)
set_option maxRecDepth 20000 in
theorem gX6_narrowFact_X6_valueAt : GoodIn wsX6_narrowFact (wsV RX6 84 RX6 yX6_valueAt wsX6_valueAt) := goodIn_app (goodIn_of _ (by decide +kernel)) ggX6_narrowFact_X6_valueAt
set_option maxRecDepth 20000 in
theorem ggX6_narrowFact_X6_atLeast : GoodIn wsX6_narrowFact wsX6_atLeast := goodIn_r _ [10, 11, 17, 18, 19, 20, 21, 22, 23, 24, 25, 26, 27, 28, 29, 30] (by decide +kernel) (by decide +kernel)
set_option maxRecDepth 20000 in
theorem gX6_narrowFact_X6_atLeast : GoodIn wsX6_narrowFact (wsV RX6 106 RX6 yX6_atLeast wsX6_atLeast) := goodIn_app (goodIn_of _ (by decide +kernel)) ggX6_narrowFact_X6_atLeast
set_option maxRecDepth 20000 in
theorem ggX6_narrowFact_X6_atMost : GoodIn wsX6_narrowFact wsX6_atMost := goodIn_r _ [15, 16, 17, 18, 19, 20, 21, 22, 23, 24, 25, 26, 27, 28, 29, 30] (by decide +kernel) (by decide +kernel)
set_option maxRecDepth 20000 in
theorem gX6_narrowFact_X6_atMost : GoodIn wsX6_narrowFact (wsV RX6 110 RX6 yX6_atMost wsX6_atMost) := goodIn_app (goodIn_of _ (by decide +kernel)) ggX6_narrowFact_X6_atMost
theorem dX6_narrowFact_0 : decode cX6_narrowFact 0 = .ok (.aload_n 0, 1) := by decide +kernel
theorem dX6_narrowFact_1 : decode cX6_narrowFact 1 = .ok (.iload_n 1, 1) := by decide +kernel
theorem dX6_narrowFact_2 : decode cX6_narrowFact 2 = .ok (.invokevirtual 84, 3) := by decide +kernel
theorem dX6_narrowFact_5 : decode cX6_narrowFact 5 = .ok (.bipush 10, 2) := by decide +kernel
theorem dX6_narrowFact_7 : decode cX6_narrowFact 7 = .ok (.isub, 1) := by decide +kernel
theorem dX6_narrowFact_8 : decode cX6_narrowFact 8 = .ok (.istore_n 2, 1) := by decide +kernel
theorem dX6_narrowFact_9 : decode cX6_narrowFact 9 = .ok (.iload_n 1, 1) := by decide +kernel
theorem dX6_narrowFact_10 : decode cX6_narrowFact 10 = .ok (.iconst 1, 1) := by decide +kernel
theorem dX6_narrowFact_11 : decode cX6_narrowFact 11 = .ok (.iadd, 1) := by decide +kernel
theorem dX6_narrowFact_12 : decode cX6_narrowFact 12 = .ok (.istore_n 3, 1) := by decide +kernel
theorem dX6_narrowFact_13 : decode cX6_narrowFact 13 = .ok (.aload_n 0, 1) := by decide +kernel
theorem dX6_narrowFact_14 : decode cX6_narrowFact 14 = .ok (.iload_n 3, 1) := by decide +kernel
theorem dX6_narrowFact_15 : decode cX6_narrowFact 15 = .ok (.invokevirtual 84, 3) := by decide +kernel
theorem dX6_narrowFact_18 : decode cX6_narrowFact 18 = .ok (.bipush 7, 2) := by decide +kernel
theorem dX6_narrowFact_20 : decode cX6_narrowFact 20 = .ok (.if_icmp .ne 7, 3) := by decide +kernel
theorem dX6_narrowFact_23 : decode cX6_narrowFact 23 = .ok (.iconst 1, 1) := by decide +kernel
theorem dX6_narrowFact_24 : decode cX6_narrowFact 24 = .ok (.goto 4, 3) := by decide +kernel
theorem dX6_narrowFact_27 : decode cX6_narrowFact 27 = .ok (.iconst 0, 1) := by decide +kernel
theorem dX6_narrowFact_28 : decode cX6_narrowFact 28 = .ok (.istore 4, 2) := by decide +kernel
theorem dX6_narrowFact_30 : decode cX6_narrowFact 30 = .ok (.iload_n 3, 1) := by decide +kernel
theorem dX6_narrowFact_31 : decode cX6_narrowFact 31 = .ok (.iload 4, 2) := by decide +kernel
theorem dX6_narrowFact_33 : decode cX6_narrowFact 33 = .ok (.ifCond .eq 7, 3) := by decide +kernel
theorem dX6_narrowFact_36 : decode cX6_narrowFact 36 = .ok (.iconst 1, 1) := by decide +kernel
theorem dX6_narrowFact_37 : decode cX6_narrowFact 37 = .ok (.goto 4, 3) := by decide +kernel
theorem dX6_narrowFact_40 : decode cX6_narrowFact 40 = .ok (.iconst 0, 1) := by decide +kernel
theorem dX6_narrowFact_41 : decode cX6_narrowFact 41 = .ok (.iadd, 1) := by decide +kernel
theorem dX6_narrowFact_42 : decode cX6_narrowFact 42 = .ok (.istore_n 3, 1) := by decide +kernel
theorem dX6_narrowFact_43 : decode cX6_narrowFact 43 = .ok (.aload_n 0, 1) := by decide +kernel
theorem dX6_narrowFact_44 : decode cX6_narrowFact 44 = .ok (.iload_n 3, 1) := by decide +kernel
theorem dX6_narrowFact_45 : decode cX6_narrowFact 45 = .ok (.invokevirtual 84, 3) := by decide +kernel
theorem dX6_narrowFact_48 : decode cX6_narrowFact 48 = .ok (.istore 5, 2) := by decide +kernel
theorem dX6_narrowFact_50 : decode cX6_narrowFact 50 = .ok (.aload_n 0, 1) := by decide +kernel
theorem dX6_narrowFact_51 : decode cX6_narrowFact 51 = .ok (.iload_n 3, 1) := by decide +kernel
theorem dX6_narrowFact_52 : decode cX6_narrowFact 52 = .ok (.iconst 1, 1) := by decide +kernel
theorem dX6_narrowFact_53 : decode cX6_narrowFact 53 = .ok (.iadd, 1) := by decide +kernel
theorem dX6_narrowFact_54 : decode cX6_narrowFact 54 = .ok (.invokevirtual 84, 3) := by decide +kernel
theorem dX6_narrowFact_57 : decode cX6_narrowFact 57 = .ok (.istore 6, 2) := by decide +kernel
theorem dX6_narrowFact_59 : decode cX6_narrowFact 59 = .ok (.iload 5, 2) := by decide +kernel
theorem dX6_narrowFact_61 : decode cX6_narrowFact 61 = .ok (.iconst 4, 1) := by decide +kernel
theorem dX6_narrowFact_62 : decode cX6_narrowFact 62 = .ok (.if_icmp .ne 20, 3) := by decide +kernel
theorem dX6_narrowFact_65 : decode cX6_narrowFact 65 = .ok (.aload_n 0, 1) := by decide +kernel
theorem dX6_narrowFact_66 : decode cX6_narrowFact 66 = .ok (.iload_n 2, 1) := by decide +kernel
theorem dX6_narrowFact_67 : decode cX6_narrowFact 67 = .ok (.iload 6, 2) := by decide +kernel
theorem dX6_narrowFact_69 : decode cX6_narrowFact 69 = .ok (.invokevirtual 106, 3) := by decide +kernel
theorem dX6_narrowFact_72 : decode cX6_narrowFact 72 = .ok (.aload_n 0, 1) := by decide +kernel
theorem dX6_narrowFact_73 : decode cX6_narrowFact 73 = .ok (.iload_n 2, 1) := by decide +kernel
theorem dX6_narrowFact_74 : decode cX6_narrowFact 74 = .ok (.iload 6, 2) := by decide +kernel
theorem dX6_narrowFact_76 : decode cX6_narrowFact 76 = .ok (.invokevirtual 110, 3) := by decide +kernel
theorem dX6_narrowFact_79 : decode cX6_narrowFact 79 = .ok (.goto 60, 3) := by decide +kernel
theorem dX6_narrowFact_82 : decode cX6_narrowFact 82 = .ok (.iload 5, 2) := by decide +kernel
theorem dX6_narrowFact_84 : decode cX6_narrowFact 84 = .ok (.iconst 5, 1) := by decide +kernel
theorem dX6_narrowFact_85 : decode cX6_narrowFact 85 = .ok (.if_icmp .ne 7, 3) := by decide +kernel
theorem dX6_narrowFact_88 : decode cX6_narrowFact 88 = .ok (.iconst 1, 1) := by decide +kernel
theorem dX6_narrowFact_89 : decode cX6_narrowFact 89 = .ok (.goto 4, 3) := by decide +kernel
theorem dX6_narrowFact_92 : decode cX6_narrowFact 92 = .ok (.iconst 0, 1) := by decide +kernel
theorem dX6_narrowFact_93 : decode cX6_narrowFact 93 = .ok (.iload 4, 2) := by decide +kernel
theorem dX6_narrowFact_95 : decode cX6_narrowFact 95 = .ok (.if_icmp .ne 25, 3) := by decide +kernel
theorem dX6_narrowFact_98 : decode cX6_narrowFact 98 = .ok (.aload_n 0, 1) := by decide +kernel
theorem dX6_narrowFact_99 : decode cX6_narrowFact 99 = .ok (.iload_n 2, 1) := by decide +kernel
theorem dX6_narrowFact_100 : decode cX6_narrowFact 100 = .ok (.iload 4, 2) := by decide +kernel
theorem dX6_narrowFact_102 : decode cX6_narrowFact 102 = .ok (.ifCond .eq 8, 3) := by decide +kernel
theorem dX6_narrowFact_105 : decode cX6_narrowFact 105 = .ok (.iload 6, 2) := by decide +kernel
theorem dX6_narrowFact_107 : decode cX6_narrowFact 107 = .ok (.goto 7, 3) := by decide +kernel
theorem dX6_narrowFact_110 : decode cX6_narrowFact 110 = .ok (.iload 6, 2) := by decide +kernel
theorem dX6_narrowFact_112 : decode cX6_narrowFact 112 = .ok (.iconst 1, 1) := by decide +kernel
theorem dX6_narrowFact_113 : decode cX6_narrowFact 113 = .ok (.isub, 1) := by decide +kernel
theorem dX6_narrowFact_114 : decode cX6_narrowFact 114 = .ok (.invokevirtual 110, 3) := by decide +kernel
theorem dX6_narrowFact_117 : decode cX6_narrowFact 117 = .ok (.goto 22, 3) := by decide +kernel
theorem dX6_narrowFact_120 : decode cX6_narrowFact 120 = .ok (.aload_n 0, 1) := by decide +kernel
theorem dX6_narrowFact_121 : decode cX6_narrowFact 121 = .ok (.iload_n 2, 1) := by decide +kernel
theorem dX6_narrowFact_122 : decode cX6_narrowFact 122 = .ok (.iload 4, 2) := by decide +kernel
theorem dX6_narrowFact_124 : decode cX6_narrowFact 124 = .ok (.ifCond .eq 8, 3) := by decide +kernel
theorem dX6_narrowFact_127 : decode cX6_narrowFact 127 = .ok (.iload 6, 2) := by decide +kernel
theorem dX6_narrowFact_129 : decode cX6_narrowFact 129 = .ok (.goto 7, 3) := by decide +kernel
theorem dX6_narrowFact_132 : decode cX6_narrowFact 132 = .ok (.iload 6, 2) := by decide +kernel
theorem dX6_narrowFact_134 : decode cX6_narrowFact 134 = .ok (.iconst 1, 1) := by decide +kernel
theorem dX6_narrowFact_135 : decode cX6_narrowFact 135 = .ok (.iadd, 1) := by decide +kernel
theorem dX6_narrowFact_136 : decode cX6_narrowFact 136 = .ok (.invokevirtual 106, 3) := by decide +kernel
theorem dX6_narrowFact_139 : decode cX6_narrowFact 139 = .ok (.iload_n 3, 1) := by decide +kernel
theorem dX6_narrowFact_140 : decode cX6_narrowFact 140 = .ok (.iconst 2, 1) := by decide +kernel
theorem dX6_narrowFact_141 : decode cX6_narrowFact 141 = .ok (.iadd, 1) := by decide +kernel
theorem dX6_narrowFact_142 : decode cX6_narrowFact 142 = .ok (.ireturn, 1) := by decide +kernel
set_option maxRecDepth 20000 in
theorem ggX6_readSentence_X6_leastOf : GoodIn wsX6_readSentence wsX6_leastOf := goodIn_r _ [11] (by decide +kernel) (by decide +kernel)
set_option maxRecDepth 20000 in
theorem gX6_readSentence_X6_leastOf : GoodIn wsX6_readSentence (va_wsS RX6 113 yX6_leastOf wsX6_leastOf) := goodIn_app (goodIn_of _ (by decide +kernel)) ggX6_readSentence_X6_leastOf
set_option maxRecDepth 20000 in
theorem ggX6_readSentence_X6_greatestOf : GoodIn wsX6_readSentence wsX6_greatestOf := goodIn_r _ [14, 15] (by decide +kernel) (by decide +kernel)
set_option maxRecDepth 20000 in
theorem gX6_readSentence_X6_greatestOf : GoodIn wsX6_readSentence (va_wsS RX6 116 yX6_greatestOf wsX6_greatestOf) := goodIn_app (goodIn_of _ (by decide +kernel)) ggX6_readSentence_X6_greatestOf
set_option maxRecDepth 20000 in
theorem ggX6_readSentence_X6_valueAt : GoodIn wsX6_readSentence wsX6_valueAt := goodIn_r _ [19, 7, 51, 52, 53, 54, 55, 56, 57, 58, 59, 60, 61, 62, 63, 64] (by decide +kernel) (by decide +kernel)
set_option maxRecDepth 20000 in
theorem gX6_readSentence_X6_valueAt : GoodIn wsX6_readSentence (wsV RX6 84 RX6 yX6_valueAt wsX6_valueAt) := goodIn_app (goodIn_of _ (by decide +kernel)) ggX6_readSentence_X6_valueAt
set_option maxRecDepth 20000 in
theorem ggX6_readSentence_X6_in : GoodIn wsX6_readSentence wsX6_in := goodIn_r _ [22] (by decide +kernel) (by decide +kernel)
set_option maxRecDepth 20000 in
theorem gX6_readSentence_X6_in : GoodIn wsX6_readSentence (va_wsS RX6 42 yX6_in wsX6_in) := goodIn_app (goodIn_of _ (by decide +kernel)) ggX6_readSentence_X6_in
set_option maxRecDepth 20000 in
theorem ggX6_readSentence_X6_kindAt : GoodIn wsX6_readSentence wsX6_kindAt := goodIn_r _ [26, 7, 51, 52, 53, 54, 55, 56, 57, 58, 59, 60, 61, 62, 63, 64] (by decide +kernel) (by decide +kernel)
set_option maxRecDepth 20000 in
theorem gX6_readSentence_X6_kindAt : GoodIn wsX6_readSentence (wsV RX6 81 RX6 yX6_kindAt wsX6_kindAt) := goodIn_app (goodIn_of _ (by decide +kernel)) ggX6_readSentence_X6_kindAt
set_option maxRecDepth 20000 in
theorem ggX6_readSentence_X6_narrow : GoodIn wsX6_readSentence wsX6_narrow := goodIn_r _ [30, 3, 31, 32, 33, 10, 34, 7, 4, 35, 36, 37, 38, 39, 40, 41, 42, 1, 43, 44, 45, 46, 2, 51, 52, 53, 54, 55, 56, 57, 58, 59, 60, 61, 62, 63, 64] (by decide +kernel) (by decide +kernel)
set_option maxRecDepth 20000 in
theorem gX6_readSentence_X6_narrow : GoodIn wsX6_readSentence (wsV RX6 125 RX6 yX6_narrow wsX6_narrow) := goodIn_app (goodIn_of _ (by decide +kernel)) ggX6_readSentence_X6_narrow
set_option maxRecDepth 20000 in
theorem ggX6_readSentence_X6_narrowFact : GoodIn wsX6_readSentence wsX6_narrowFact := goodIn_r _ [50, 16, 17, 18, 10, 19, 7, 39, 40, 41, 42, 1, 43, 44, 45, 46, 2, 51, 52, 53, 54, 55, 56, 57, 58, 59, 60, 61, 62, 63, 64] (by decide +kernel) (by decide +kernel)
set_option maxRecDepth 20000 in
theorem gX6_readSentence_X6_narrowFact : GoodIn wsX6_readSentence (wsV RX6 129 RX6 yX6_narrowFact wsX6_narrowFact) := goodIn_app (goodIn_of _ (by decide +kernel)) ggX6_readSentence_X6_narrowFact
set_option maxRecDepth 20000 in
theorem ggX6_readSentence_X6_atLeast : GoodIn wsX6_readSentence wsX6_atLeast := goodIn_r _ [42, 1, 51, 52, 53, 54, 55, 56, 57, 58, 59, 60, 61, 62, 63, 64] (by decide +kernel) (by decide +kernel)
set_option maxRecDepth 20000 in
theorem gX6_readSentence_X6_atLeast : GoodIn wsX6_readSentence (wsV RX6 106 RX6 yX6_atLeast wsX6_atLeast) := goodIn_app (goodIn_of _ (by decide +kernel)) ggX6_readSentence_X6_atLeast
set_option maxRecDepth 20000 in
theorem ggX6_readSentence_X6_atMost : GoodIn wsX6_readSentence wsX6_atMost := goodIn_r _ [46, 2, 51, 52, 53, 54, 55, 56, 57, 58, 59, 60, 61, 62, 63, 64] (by decide +kernel) (by decide +kernel)
set_option maxRecDepth 20000 in
theorem gX6_readSentence_X6_atMost : GoodIn wsX6_readSentence (wsV RX6 110 RX6 yX6_atMost wsX6_atMost) := goodIn_app (goodIn_of _ (by decide +kernel)) ggX6_readSentence_X6_atMost
theorem dX6_readSentence_0 : decode cX6_readSentence 0 = .ok (.iconst 0, 1) := by decide +kernel
theorem dX6_readSentence_1 : decode cX6_readSentence 1 = .ok (.istore_n 1, 1) := by decide +kernel
theorem dX6_readSentence_2 : decode cX6_readSentence 2 = .ok (.iload_n 1, 1) := by decide +kernel
theorem dX6_readSentence_3 : decode cX6_readSentence 3 = .ok (.bipush 7, 2) := by decide +kernel
theorem dX6_readSentence_5 : decode cX6_readSentence 5 = .ok (.if_icmp .ge 29, 3) := by decide +kernel
theorem dX6_readSentence_8 : decode cX6_readSentence 8 = .ok (.aload_n 0, 1) := by decide +kernel
theorem dX6_readSentence_9 : decode cX6_readSentence 9 = .ok (.getfield 19, 3) := by decide +kernel
theorem dX6_readSentence_12 : decode cX6_readSentence 12 = .ok (.iload_n 1, 1) := by decide +kernel
theorem dX6_readSentence_13 : decode cX6_readSentence 13 = .ok (.iload_n 1, 1) := by decide +kernel
theorem dX6_readSentence_14 : decode cX6_readSentence 14 = .ok (.invokestatic 113, 3) := by decide +kernel
theorem dX6_readSentence_17 : decode cX6_readSentence 17 = .ok (.iastore, 1) := by decide +kernel
theorem dX6_readSentence_18 : decode cX6_readSentence 18 = .ok (.aload_n 0, 1) := by decide +kernel
theorem dX6_readSentence_19 : decode cX6_readSentence 19 = .ok (.getfield 22, 3) := by decide +kernel
theorem dX6_readSentence_22 : decode cX6_readSentence 22 = .ok (.iload_n 1, 1) := by decide +kernel
theorem dX6_readSentence_23 : decode cX6_readSentence 23 = .ok (.iload_n 1, 1) := by decide +kernel
theorem dX6_readSentence_24 : decode cX6_readSentence 24 = .ok (.invokestatic 116, 3) := by decide +kernel
theorem dX6_readSentence_27 : decode cX6_readSentence 27 = .ok (.iastore, 1) := by decide +kernel
theorem dX6_readSentence_28 : decode cX6_readSentence 28 = .ok (.iinc 1 1, 3) := by decide +kernel
theorem dX6_readSentence_31 : decode cX6_readSentence 31 = .ok (.goto (-29), 3) := by decide +kernel
theorem dX6_readSentence_34 : decode cX6_readSentence 34 = .ok (.aload_n 0, 1) := by decide +kernel
theorem dX6_readSentence_35 : decode cX6_readSentence 35 = .ok (.iconst 0, 1) := by decide +kernel
theorem dX6_readSentence_36 : decode cX6_readSentence 36 = .ok (.putfield 100, 3) := by decide +kernel
theorem dX6_readSentence_39 : decode cX6_readSentence 39 = .ok (.aload_n 0, 1) := by decide +kernel
theorem dX6_readSentence_40 : decode cX6_readSentence 40 = .ok (.ldc 28, 2) := by decide +kernel
theorem dX6_readSentence_42 : decode cX6_readSentence 42 = .ok (.putfield 119, 3) := by decide +kernel
theorem dX6_readSentence_45 : decode cX6_readSentence 45 = .ok (.iconst 0, 1) := by decide +kernel
theorem dX6_readSentence_46 : decode cX6_readSentence 46 = .ok (.istore_n 1, 1) := by decide +kernel
theorem dX6_readSentence_47 : decode cX6_readSentence 47 = .ok (.aload_n 0, 1) := by decide +kernel
theorem dX6_readSentence_48 : decode cX6_readSentence 48 = .ok (.iconst 0, 1) := by decide +kernel
theorem dX6_readSentence_49 : decode cX6_readSentence 49 = .ok (.invokevirtual 84, 3) := by decide +kernel
theorem dX6_readSentence_52 : decode cX6_readSentence 52 = .ok (.bipush 16, 2) := by decide +kernel
theorem dX6_readSentence_54 : decode cX6_readSentence 54 = .ok (.bipush 21, 2) := by decide +kernel
theorem dX6_readSentence_56 : decode cX6_readSentence 56 = .ok (.invokestatic 42, 3) := by decide +kernel
theorem dX6_readSentence_59 : decode cX6_readSentence 59 = .ok (.ifCond .eq 28, 3) := by decide +kernel
theorem dX6_readSentence_62 : decode cX6_readSentence 62 = .ok (.aload_n 0, 1) := by decide +kernel
theorem dX6_readSentence_63 : decode cX6_readSentence 63 = .ok (.iconst 0, 1) := by decide +kernel
theorem dX6_readSentence_64 : decode cX6_readSentence 64 = .ok (.invokevirtual 81, 3) := by decide +kernel
theorem dX6_readSentence_67 : decode cX6_readSentence 67 = .ok (.ifCond .ne 20, 3) := by decide +kernel
theorem dX6_readSentence_70 : decode cX6_readSentence 70 = .ok (.aload_n 0, 1) := by decide +kernel
theorem dX6_readSentence_71 : decode cX6_readSentence 71 = .ok (.aload_n 0, 1) := by decide +kernel
theorem dX6_readSentence_72 : decode cX6_readSentence 72 = .ok (.iconst 0, 1) := by decide +kernel
theorem dX6_readSentence_73 : decode cX6_readSentence 73 = .ok (.invokevirtual 84, 3) := by decide +kernel
theorem dX6_readSentence_76 : decode cX6_readSentence 76 = .ok (.bipush 6, 2) := by decide +kernel
theorem dX6_readSentence_78 : decode cX6_readSentence 78 = .ok (.isub, 1) := by decide +kernel
theorem dX6_readSentence_79 : decode cX6_readSentence 79 = .ok (.putfield 122, 3) := by decide +kernel
theorem dX6_readSentence_82 : decode cX6_readSentence 82 = .ok (.iconst 2, 1) := by decide +kernel
theorem dX6_readSentence_83 : decode cX6_readSentence 83 = .ok (.istore_n 1, 1) := by decide +kernel
theorem dX6_readSentence_84 : decode cX6_readSentence 84 = .ok (.goto 17, 3) := by decide +kernel
theorem dX6_readSentence_87 : decode cX6_readSentence 87 = .ok (.aload_n 0, 1) := by decide +kernel
theorem dX6_readSentence_88 : decode cX6_readSentence 88 = .ok (.iconst 0, 1) := by decide +kernel
theorem dX6_readSentence_89 : decode cX6_readSentence 89 = .ok (.invokevirtual 84, 3) := by decide +kernel
theorem dX6_readSentence_92 : decode cX6_readSentence 92 = .ok (.ifCond .ne 7, 3) := by decide +kernel
theorem dX6_readSentence_95 : decode cX6_readSentence 95 = .ok (.iconst 1, 1) := by decide +kernel
theorem dX6_readSentence_96 : decode cX6_readSentence 96 = .ok (.goto 4, 3) := by decide +kernel
theorem dX6_readSentence_99 : decode cX6_readSentence 99 = .ok (.iconst 0, 1) := by decide +kernel
theorem dX6_readSentence_100 : decode cX6_readSentence 100 = .ok (.istore_n 1, 1) := by decide +kernel
theorem dX6_readSentence_101 : decode cX6_readSentence 101 = .ok (.iload_n 1, 1) := by decide +kernel
theorem dX6_readSentence_102 : decode cX6_readSentence 102 = .ok (.aload_n 0, 1) := by decide +kernel
theorem dX6_readSentence_103 : decode cX6_readSentence 103 = .ok (.getfield 7, 3) := by decide +kernel
theorem dX6_readSentence_106 : decode cX6_readSentence 106 = .ok (.bipush 7, 2) := by decide +kernel
theorem dX6_readSentence_108 : decode cX6_readSentence 108 = .ok (.iaload, 1) := by decide +kernel
theorem dX6_readSentence_109 : decode cX6_readSentence 109 = .ok (.if_icmp .ge 146, 3) := by decide +kernel
theorem dX6_readSentence_112 : decode cX6_readSentence 112 = .ok (.aload_n 0, 1) := by decide +kernel
theorem dX6_readSentence_113 : decode cX6_readSentence 113 = .ok (.iload_n 1, 1) := by decide +kernel
theorem dX6_readSentence_114 : decode cX6_readSentence 114 = .ok (.invokevirtual 84, 3) := by decide +kernel
theorem dX6_readSentence_117 : decode cX6_readSentence 117 = .ok (.istore_n 2, 1) := by decide +kernel
theorem dX6_readSentence_118 : decode cX6_readSentence 118 = .ok (.iload_n 2, 1) := by decide +kernel
theorem dX6_readSentence_119 : decode cX6_readSentence 119 = .ok (.bipush 16, 2) := by decide +kernel
theorem dX6_readSentence_121 : decode cX6_readSentence 121 = .ok (.bipush 21, 2) := by decide +kernel
theorem dX6_readSentence_123 : decode cX6_readSentence 123 = .ok (.invokestatic 42, 3) := by decide +kernel
theorem dX6_readSentence_126 : decode cX6_readSentence 126 = .ok (.ifCond .eq 17, 3) := by decide +kernel
theorem dX6_readSentence_129 : decode cX6_readSentence 129 = .ok (.aload_n 0, 1) := by decide +kernel
theorem dX6_readSentence_130 : decode cX6_readSentence 130 = .ok (.iload_n 2, 1) := by decide +kernel
theorem dX6_readSentence_131 : decode cX6_readSentence 131 = .ok (.bipush 16, 2) := by decide +kernel
theorem dX6_readSentence_133 : decode cX6_readSentence 133 = .ok (.isub, 1) := by decide +kernel
theorem dX6_readSentence_134 : decode cX6_readSentence 134 = .ok (.invokevirtual 125, 3) := by decide +kernel
theorem dX6_readSentence_137 : decode cX6_readSentence 137 = .ok (.iinc 1 1, 3) := by decide +kernel
theorem dX6_readSentence_140 : decode cX6_readSentence 140 = .ok (.goto 112, 3) := by decide +kernel
theorem dX6_readSentence_143 : decode cX6_readSentence 143 = .ok (.iload_n 2, 1) := by decide +kernel
theorem dX6_readSentence_144 : decode cX6_readSentence 144 = .ok (.bipush 10, 2) := by decide +kernel
theorem dX6_readSentence_146 : decode cX6_readSentence 146 = .ok (.bipush 15, 2) := by decide +kernel
theorem dX6_readSentence_148 : decode cX6_readSentence 148 = .ok (.invokestatic 42, 3) := by decide +kernel
theorem dX6_readSentence_151 : decode cX6_readSentence 151 = .ok (.ifCond .eq 12, 3) := by decide +kernel
theorem dX6_readSentence_154 : decode cX6_readSentence 154 = .ok (.aload_n 0, 1) := by decide +kernel
theorem dX6_readSentence_155 : decode cX6_readSentence 155 = .ok (.iload_n 1, 1) := by decide +kernel
theorem dX6_readSentence_156 : decode cX6_readSentence 156 = .ok (.invokevirtual 129, 3) := by decide +kernel
theorem dX6_readSentence_159 : decode cX6_readSentence 159 = .ok (.istore_n 1, 1) := by decide +kernel
theorem dX6_readSentence_160 : decode cX6_readSentence 160 = .ok (.goto 92, 3) := by decide +kernel
theorem dX6_readSentence_163 : decode cX6_readSentence 163 = .ok (.iload_n 2, 1) := by decide +kernel
theorem dX6_readSentence_164 : decode cX6_readSentence 164 = .ok (.bipush 22, 2) := by decide +kernel
theorem dX6_readSentence_166 : decode cX6_readSentence 166 = .ok (.bipush 25, 2) := by decide +kernel
theorem dX6_readSentence_168 : decode cX6_readSentence 168 = .ok (.invokestatic 42, 3) := by decide +kernel
theorem dX6_readSentence_171 : decode cX6_readSentence 171 = .ok (.ifCond .eq 28, 3) := by decide +kernel
theorem dX6_readSentence_174 : decode cX6_readSentence 174 = .ok (.aload_n 0, 1) := by decide +kernel
theorem dX6_readSentence_175 : decode cX6_readSentence 175 = .ok (.iload_n 2, 1) := by decide +kernel
theorem dX6_readSentence_176 : decode cX6_readSentence 176 = .ok (.bipush 22, 2) := by decide +kernel
theorem dX6_readSentence_178 : decode cX6_readSentence 178 = .ok (.isub, 1) := by decide +kernel
theorem dX6_readSentence_179 : decode cX6_readSentence 179 = .ok (.putfield 122, 3) := by decide +kernel
theorem dX6_readSentence_182 : decode cX6_readSentence 182 = .ok (.aload_n 0, 1) := by decide +kernel
theorem dX6_readSentence_183 : decode cX6_readSentence 183 = .ok (.aload_n 0, 1) := by decide +kernel
theorem dX6_readSentence_184 : decode cX6_readSentence 184 = .ok (.iload_n 1, 1) := by decide +kernel
theorem dX6_readSentence_185 : decode cX6_readSentence 185 = .ok (.iconst 2, 1) := by decide +kernel
theorem dX6_readSentence_186 : decode cX6_readSentence 186 = .ok (.iadd, 1) := by decide +kernel
theorem dX6_readSentence_187 : decode cX6_readSentence 187 = .ok (.invokevirtual 84, 3) := by decide +kernel
theorem dX6_readSentence_190 : decode cX6_readSentence 190 = .ok (.putfield 119, 3) := by decide +kernel
theorem dX6_readSentence_193 : decode cX6_readSentence 193 = .ok (.iinc 1 3, 3) := by decide +kernel
theorem dX6_readSentence_196 : decode cX6_readSentence 196 = .ok (.goto 56, 3) := by decide +kernel
theorem dX6_readSentence_199 : decode cX6_readSentence 199 = .ok (.iload_n 2, 1) := by decide +kernel
theorem dX6_readSentence_200 : decode cX6_readSentence 200 = .ok (.bipush 8, 2) := by decide +kernel
theorem dX6_readSentence_202 : decode cX6_readSentence 202 = .ok (.if_icmp .ne 22, 3) := by decide +kernel
theorem dX6_readSentence_205 : decode cX6_readSentence 205 = .ok (.aload_n 0, 1) := by decide +kernel
theorem dX6_readSentence_206 : decode cX6_readSentence 206 = .ok (.bipush 6, 2) := by decide +kernel
theorem dX6_readSentence_208 : decode cX6_readSentence 208 = .ok (.aload_n 0, 1) := by decide +kernel
theorem dX6_readSentence_209 : decode cX6_readSentence 209 = .ok (.iload_n 1, 1) := by decide +kernel
theorem dX6_readSentence_210 : decode cX6_readSentence 210 = .ok (.iconst 1, 1) := by decide +kernel
theorem dX6_readSentence_211 : decode cX6_readSentence 211 = .ok (.iadd, 1) := by decide +kernel
theorem dX6_readSentence_212 : decode cX6_readSentence 212 = .ok (.invokevirtual 84, 3) := by decide +kernel
theorem dX6_readSentence_215 : decode cX6_readSentence 215 = .ok (.invokevirtual 106, 3) := by decide +kernel
theorem dX6_readSentence_218 : decode cX6_readSentence 218 = .ok (.iinc 1 2, 3) := by decide +kernel
theorem dX6_readSentence_221 : decode cX6_readSentence 221 = .ok (.goto 31, 3) := by decide +kernel
theorem dX6_readSentence_224 : decode cX6_readSentence 224 = .ok (.iload_n 2, 1) := by decide +kernel
theorem dX6_readSentence_225 : decode cX6_readSentence 225 = .ok (.bipush 9, 2) := by decide +kernel
theorem dX6_readSentence_227 : decode cX6_readSentence 227 = .ok (.if_icmp .ne 22, 3) := by decide +kernel
theorem dX6_readSentence_230 : decode cX6_readSentence 230 = .ok (.aload_n 0, 1) := by decide +kernel
theorem dX6_readSentence_231 : decode cX6_readSentence 231 = .ok (.bipush 6, 2) := by decide +kernel
theorem dX6_readSentence_233 : decode cX6_readSentence 233 = .ok (.aload_n 0, 1) := by decide +kernel
theorem dX6_readSentence_234 : decode cX6_readSentence 234 = .ok (.iload_n 1, 1) := by decide +kernel
theorem dX6_readSentence_235 : decode cX6_readSentence 235 = .ok (.iconst 1, 1) := by decide +kernel
theorem dX6_readSentence_236 : decode cX6_readSentence 236 = .ok (.iadd, 1) := by decide +kernel
theorem dX6_readSentence_237 : decode cX6_readSentence 237 = .ok (.invokevirtual 84, 3) := by decide +kernel
theorem dX6_readSentence_240 : decode cX6_readSentence 240 = .ok (.invokevirtual 110, 3) := by decide +kernel
theorem dX6_readSentence_243 : decode cX6_readSentence 243 = .ok (.iinc 1 2, 3) := by decide +kernel
theorem dX6_readSentence_246 : decode cX6_readSentence 246 = .ok (.goto 6, 3) := by decide +kernel
theorem dX6_readSentence_249 : decode cX6_readSentence 249 = .ok (.iinc 1 1, 3) := by decide +kernel
theorem dX6_readSentence_252 : decode cX6_readSentence 252 = .ok (.goto (-151), 3) := by decide +kernel
theorem dX6_readSentence_255 : decode cX6_readSentence 255 = .ok (.return_, 1) := by decide +kernel
set_option maxRecDepth 20000 in
theorem ggX6_canTell_X6_error : GoodIn wsX6_canTell wsX6_error := goodIn_r _ [10, 11, 12, 1, 13, 14, 15, 9, 16, 17, 18, 19, 20, 21, 22, 23, 24, 25, 26, 27, 28, 29, 30, 31, 32, 69, 70, 71, 72, 73, 74, 75, 76, 77, 78, 79, 80, 81, 82] (by decide +kernel) (by decide +kernel)
set_option maxRecDepth 20000 in
theorem gX6_canTell_X6_error : GoodIn wsX6_canTell (wsV RX6 93 RX6 yX6_error wsX6_error) := goodIn_app (goodIn_of _ (by decide +kernel)) ggX6_canTell_X6_error
set_option maxRecDepth 20000 in
theorem ggX6_canTell_X6_readSentence : GoodIn wsX6_canTell wsX6_readSentence := goodIn_r _ [36, 4, 5, 3, 1, 37, 2, 11, 38, 39, 9, 40, 41, 42, 43, 44, 22, 23, 24, 25, 30, 31, 32, 18, 19, 20, 21, 45, 46, 47, 48, 49, 50, 51, 52, 53, 54, 55, 56, 57, 58, 59, 60, 61, 62, 63, 64, 65, 66, 67, 68, 69, 70, 71, 72, 73, 74, 75, 76, 77, 78, 79, 80, 81, 82] (by decide +kernel) (by decide +kernel)
set_option maxRecDepth 20000 in
theorem gX6_canTell_X6_readSentence : GoodIn wsX6_canTell (wsV RX6 132 RX6 yX6_readSentence wsX6_readSentence) := goodIn_app (goodIn_of _ (by decide +kernel)) ggX6_canTell_X6_readSentence
set_option maxRecDepth 20000 in
theorem ggX6_canTell_X6_definitionOf : GoodIn wsX6_canTell wsX6_definitionOf := goodIn_r _ [52, 11, 1, 53, 54, 55, 9, 56, 69, 70, 71, 72, 73, 74, 75, 76, 77, 78, 79, 80, 81, 82] (by decide +kernel) (by decide +kernel)
set_option maxRecDepth 20000 in
theorem gX6_canTell_X6_definitionOf : GoodIn wsX6_canTell (wsV RX6 103 RX6 yX6_definitionOf wsX6_definitionOf) := goodIn_app (goodIn_of _ (by decide +kernel)) ggX6_canTell_X6_definitionOf
theorem dX6_canTell_0 : decode cX6_canTell 0 = .ok (.aload_n 0, 1) := by decide +kernel
theorem dX6_canTell_1 : decode cX6_canTell 1 = .ok (.invokevirtual 93, 3) := by decide +kernel
theorem dX6_canTell_4 : decode cX6_canTell 4 = .ok (.ldc 28, 2) := by decide +kernel
theorem dX6_canTell_6 : decode cX6_canTell 6 = .ok (.if_icmp .eq 5, 3) := by decide +kernel
theorem dX6_canTell_9 : decode cX6_canTell 9 = .ok (.iconst 0, 1) := by decide +kernel
theorem dX6_canTell_10 : decode cX6_canTell 10 = .ok (.ireturn, 1) := by decide +kernel
theorem dX6_canTell_11 : decode cX6_canTell 11 = .ok (.aload_n 0, 1) := by decide +kernel
theorem dX6_canTell_12 : decode cX6_canTell 12 = .ok (.invokevirtual 132, 3) := by decide +kernel
theorem dX6_canTell_15 : decode cX6_canTell 15 = .ok (.aload_n 0, 1) := by decide +kernel
theorem dX6_canTell_16 : decode cX6_canTell 16 = .ok (.getfield 122, 3) := by decide +kernel
theorem dX6_canTell_19 : decode cX6_canTell 19 = .ok (.bipush 10, 2) := by decide +kernel
theorem dX6_canTell_21 : decode cX6_canTell 21 = .ok (.if_icmp .lt 19, 3) := by decide +kernel
theorem dX6_canTell_24 : decode cX6_canTell 24 = .ok (.aload_n 0, 1) := by decide +kernel
theorem dX6_canTell_25 : decode cX6_canTell 25 = .ok (.aload_n 0, 1) := by decide +kernel
theorem dX6_canTell_26 : decode cX6_canTell 26 = .ok (.getfield 122, 3) := by decide +kernel
theorem dX6_canTell_29 : decode cX6_canTell 29 = .ok (.bipush 10, 2) := by decide +kernel
theorem dX6_canTell_31 : decode cX6_canTell 31 = .ok (.isub, 1) := by decide +kernel
theorem dX6_canTell_32 : decode cX6_canTell 32 = .ok (.invokevirtual 103, 3) := by decide +kernel
theorem dX6_canTell_35 : decode cX6_canTell 35 = .ok (.ldc 28, 2) := by decide +kernel
theorem dX6_canTell_37 : decode cX6_canTell 37 = .ok (.if_icmp .ne 7, 3) := by decide +kernel
theorem dX6_canTell_40 : decode cX6_canTell 40 = .ok (.iconst 1, 1) := by decide +kernel
theorem dX6_canTell_41 : decode cX6_canTell 41 = .ok (.goto 4, 3) := by decide +kernel
theorem dX6_canTell_44 : decode cX6_canTell 44 = .ok (.iconst 0, 1) := by decide +kernel
theorem dX6_canTell_45 : decode cX6_canTell 45 = .ok (.istore_n 1, 1) := by decide +kernel
theorem dX6_canTell_46 : decode cX6_canTell 46 = .ok (.iconst 0, 1) := by decide +kernel
theorem dX6_canTell_47 : decode cX6_canTell 47 = .ok (.istore_n 2, 1) := by decide +kernel
theorem dX6_canTell_48 : decode cX6_canTell 48 = .ok (.iload_n 2, 1) := by decide +kernel
theorem dX6_canTell_49 : decode cX6_canTell 49 = .ok (.bipush 6, 2) := by decide +kernel
theorem dX6_canTell_51 : decode cX6_canTell 51 = .ok (.if_icmp .ge 40, 3) := by decide +kernel
theorem dX6_canTell_54 : decode cX6_canTell 54 = .ok (.iload_n 1, 1) := by decide +kernel
theorem dX6_canTell_55 : decode cX6_canTell 55 = .ok (.ifCond .eq 28, 3) := by decide +kernel
theorem dX6_canTell_58 : decode cX6_canTell 58 = .ok (.aload_n 0, 1) := by decide +kernel
theorem dX6_canTell_59 : decode cX6_canTell 59 = .ok (.getfield 100, 3) := by decide +kernel
theorem dX6_canTell_62 : decode cX6_canTell 62 = .ok (.iload_n 2, 1) := by decide +kernel
theorem dX6_canTell_63 : decode cX6_canTell 63 = .ok (.ishr, 1) := by decide +kernel
theorem dX6_canTell_64 : decode cX6_canTell 64 = .ok (.iconst 1, 1) := by decide +kernel
theorem dX6_canTell_65 : decode cX6_canTell 65 = .ok (.iand, 1) := by decide +kernel
theorem dX6_canTell_66 : decode cX6_canTell 66 = .ok (.ifCond .eq 13, 3) := by decide +kernel
theorem dX6_canTell_69 : decode cX6_canTell 69 = .ok (.aload_n 0, 1) := by decide +kernel
theorem dX6_canTell_70 : decode cX6_canTell 70 = .ok (.iload_n 2, 1) := by decide +kernel
theorem dX6_canTell_71 : decode cX6_canTell 71 = .ok (.invokevirtual 103, 3) := by decide +kernel
theorem dX6_canTell_74 : decode cX6_canTell 74 = .ok (.ldc 28, 2) := by decide +kernel
theorem dX6_canTell_76 : decode cX6_canTell 76 = .ok (.if_icmp .eq 7, 3) := by decide +kernel
theorem dX6_canTell_79 : decode cX6_canTell 79 = .ok (.iconst 1, 1) := by decide +kernel
theorem dX6_canTell_80 : decode cX6_canTell 80 = .ok (.goto 4, 3) := by decide +kernel
theorem dX6_canTell_83 : decode cX6_canTell 83 = .ok (.iconst 0, 1) := by decide +kernel
theorem dX6_canTell_84 : decode cX6_canTell 84 = .ok (.istore_n 1, 1) := by decide +kernel
theorem dX6_canTell_85 : decode cX6_canTell 85 = .ok (.iinc 2 1, 3) := by decide +kernel
theorem dX6_canTell_88 : decode cX6_canTell 88 = .ok (.goto (-40), 3) := by decide +kernel
theorem dX6_canTell_91 : decode cX6_canTell 91 = .ok (.iconst 0, 1) := by decide +kernel
theorem dX6_canTell_92 : decode cX6_canTell 92 = .ok (.istore_n 2, 1) := by decide +kernel
theorem dX6_canTell_93 : decode cX6_canTell 93 = .ok (.iload_n 2, 1) := by decide +kernel
theorem dX6_canTell_94 : decode cX6_canTell 94 = .ok (.bipush 7, 2) := by decide +kernel
theorem dX6_canTell_96 : decode cX6_canTell 96 = .ok (.if_icmp .ge 34, 3) := by decide +kernel
theorem dX6_canTell_99 : decode cX6_canTell 99 = .ok (.iload_n 1, 1) := by decide +kernel
theorem dX6_canTell_100 : decode cX6_canTell 100 = .ok (.ifCond .eq 22, 3) := by decide +kernel
theorem dX6_canTell_103 : decode cX6_canTell 103 = .ok (.aload_n 0, 1) := by decide +kernel
theorem dX6_canTell_104 : decode cX6_canTell 104 = .ok (.getfield 19, 3) := by decide +kernel
theorem dX6_canTell_107 : decode cX6_canTell 107 = .ok (.iload_n 2, 1) := by decide +kernel
theorem dX6_canTell_108 : decode cX6_canTell 108 = .ok (.iaload, 1) := by decide +kernel
theorem dX6_canTell_109 : decode cX6_canTell 109 = .ok (.aload_n 0, 1) := by decide +kernel
theorem dX6_canTell_110 : decode cX6_canTell 110 = .ok (.getfield 22, 3) := by decide +kernel
theorem dX6_canTell_113 : decode cX6_canTell 113 = .ok (.iload_n 2, 1) := by decide +kernel
theorem dX6_canTell_114 : decode cX6_canTell 114 = .ok (.iaload, 1) := by decide +kernel
theorem dX6_canTell_115 : decode cX6_canTell 115 = .ok (.if_icmp .gt 7, 3) := by decide +kernel
theorem dX6_canTell_118 : decode cX6_canTell 118 = .ok (.iconst 1, 1) := by decide +kernel
theorem dX6_canTell_119 : decode cX6_canTell 119 = .ok (.goto 4, 3) := by decide +kernel
theorem dX6_canTell_122 : decode cX6_canTell 122 = .ok (.iconst 0, 1) := by decide +kernel
theorem dX6_canTell_123 : decode cX6_canTell 123 = .ok (.istore_n 1, 1) := by decide +kernel
theorem dX6_canTell_124 : decode cX6_canTell 124 = .ok (.iinc 2 1, 3) := by decide +kernel
theorem dX6_canTell_127 : decode cX6_canTell 127 = .ok (.goto (-34), 3) := by decide +kernel
theorem dX6_canTell_130 : decode cX6_canTell 130 = .ok (.iload_n 1, 1) := by decide +kernel
theorem dX6_canTell_131 : decode cX6_canTell 131 = .ok (.ireturn, 1) := by decide +kernel
set_option maxRecDepth 20000 in
theorem ggX6_tell_X6_canTell : GoodIn wsX6_tell wsX6_canTell := goodIn_r _ [13, 14, 4, 6, 7, 8, 15, 16, 17, 12, 18, 2, 19, 20, 21, 22, 23, 24, 25, 26, 27, 28, 29, 30, 31, 32, 33, 34, 35, 36, 37, 38, 39, 40, 41, 42, 43, 5, 44, 45, 46, 47, 48, 49, 50, 51, 52, 53, 54, 55, 56, 57, 58, 59, 60, 61, 62, 63, 64, 65, 66, 67, 68, 69, 70, 71, 72, 73, 74, 81, 82, 83, 84, 85, 86, 87, 88, 89, 90, 91, 92, 93, 94] (by decide +kernel) (by decide +kernel)
set_option maxRecDepth 20000 in
theorem gX6_tell_X6_canTell : GoodIn wsX6_tell (wsV RX6 135 RX6 yX6_canTell wsX6_canTell) := goodIn_app (goodIn_of _ (by decide +kernel)) ggX6_tell_X6_canTell
set_option maxRecDepth 20000 in
theorem ggX6_tell_X6_record : GoodIn wsX6_tell wsX6_record := goodIn_r _ [78, 79, 80, 2, 81, 82, 83, 84, 85, 86, 87, 88, 89, 90, 91, 92, 93, 94] (by decide +kernel) (by decide +kernel)
set_option maxRecDepth 20000 in
theorem gX6_tell_X6_record : GoodIn wsX6_tell (wsV RX6 139 RX6 yX6_record wsX6_record) := goodIn_app (goodIn_of _ (by decide +kernel)) ggX6_tell_X6_record
theorem dX6_tell_0 : decode cX6_tell 0 = .ok (.aload_n 0, 1) := by decide +kernel
theorem dX6_tell_1 : decode cX6_tell 1 = .ok (.invokevirtual 135, 3) := by decide +kernel
theorem dX6_tell_4 : decode cX6_tell 4 = .ok (.ifCond .ne 6, 3) := by decide +kernel
theorem dX6_tell_7 : decode cX6_tell 7 = .ok (.ldc 73, 2) := by decide +kernel
theorem dX6_tell_9 : decode cX6_tell 9 = .ok (.ireturn, 1) := by decide +kernel
theorem dX6_tell_10 : decode cX6_tell 10 = .ok (.aload_n 0, 1) := by decide +kernel
theorem dX6_tell_11 : decode cX6_tell 11 = .ok (.getfield 7, 3) := by decide +kernel
theorem dX6_tell_14 : decode cX6_tell 14 = .ok (.bipush 56, 2) := by decide +kernel
theorem dX6_tell_16 : decode cX6_tell 16 = .ok (.iaload, 1) := by decide +kernel
theorem dX6_tell_17 : decode cX6_tell 17 = .ok (.bipush 16, 2) := by decide +kernel
theorem dX6_tell_19 : decode cX6_tell 19 = .ok (.if_icmp .ne 6, 3) := by decide +kernel
theorem dX6_tell_22 : decode cX6_tell 22 = .ok (.ldc 69, 2) := by decide +kernel
theorem dX6_tell_24 : decode cX6_tell 24 = .ok (.ireturn, 1) := by decide +kernel
theorem dX6_tell_25 : decode cX6_tell 25 = .ok (.aload_n 0, 1) := by decide +kernel
theorem dX6_tell_26 : decode cX6_tell 26 = .ok (.invokevirtual 139, 3) := by decide +kernel
theorem dX6_tell_29 : decode cX6_tell 29 = .ok (.bipush 57, 2) := by decide +kernel
theorem dX6_tell_31 : decode cX6_tell 31 = .ok (.bipush 66, 2) := by decide +kernel
theorem dX6_tell_33 : decode cX6_tell 33 = .ok (.aload_n 0, 1) := by decide +kernel
theorem dX6_tell_34 : decode cX6_tell 34 = .ok (.getfield 7, 3) := by decide +kernel
theorem dX6_tell_37 : decode cX6_tell 37 = .ok (.bipush 56, 2) := by decide +kernel
theorem dX6_tell_39 : decode cX6_tell 39 = .ok (.iaload, 1) := by decide +kernel
theorem dX6_tell_40 : decode cX6_tell 40 = .ok (.imul, 1) := by decide +kernel
theorem dX6_tell_41 : decode cX6_tell 41 = .ok (.iadd, 1) := by decide +kernel
theorem dX6_tell_42 : decode cX6_tell 42 = .ok (.istore_n 1, 1) := by decide +kernel
theorem dX6_tell_43 : decode cX6_tell 43 = .ok (.iconst 0, 1) := by decide +kernel
theorem dX6_tell_44 : decode cX6_tell 44 = .ok (.istore_n 2, 1) := by decide +kernel
theorem dX6_tell_45 : decode cX6_tell 45 = .ok (.iload_n 2, 1) := by decide +kernel
theorem dX6_tell_46 : decode cX6_tell 46 = .ok (.bipush 49, 2) := by decide +kernel
theorem dX6_tell_48 : decode cX6_tell 48 = .ok (.if_icmp .ge 26, 3) := by decide +kernel
theorem dX6_tell_51 : decode cX6_tell 51 = .ok (.aload_n 0, 1) := by decide +kernel
theorem dX6_tell_52 : decode cX6_tell 52 = .ok (.getfield 7, 3) := by decide +kernel
theorem dX6_tell_55 : decode cX6_tell 55 = .ok (.iload_n 1, 1) := by decide +kernel
theorem dX6_tell_56 : decode cX6_tell 56 = .ok (.iload_n 2, 1) := by decide +kernel
theorem dX6_tell_57 : decode cX6_tell 57 = .ok (.iadd, 1) := by decide +kernel
theorem dX6_tell_58 : decode cX6_tell 58 = .ok (.aload_n 0, 1) := by decide +kernel
theorem dX6_tell_59 : decode cX6_tell 59 = .ok (.getfield 7, 3) := by decide +kernel
theorem dX6_tell_62 : decode cX6_tell 62 = .ok (.bipush 7, 2) := by decide +kernel
theorem dX6_tell_64 : decode cX6_tell 64 = .ok (.iload_n 2, 1) := by decide +kernel
theorem dX6_tell_65 : decode cX6_tell 65 = .ok (.iadd, 1) := by decide +kernel
theorem dX6_tell_66 : decode cX6_tell 66 = .ok (.iaload, 1) := by decide +kernel
theorem dX6_tell_67 : decode cX6_tell 67 = .ok (.iastore, 1) := by decide +kernel
theorem dX6_tell_68 : decode cX6_tell 68 = .ok (.iinc 2 1, 3) := by decide +kernel
theorem dX6_tell_71 : decode cX6_tell 71 = .ok (.goto (-26), 3) := by decide +kernel
theorem dX6_tell_74 : decode cX6_tell 74 = .ok (.aload_n 0, 1) := by decide +kernel
theorem dX6_tell_75 : decode cX6_tell 75 = .ok (.getfield 7, 3) := by decide +kernel
theorem dX6_tell_78 : decode cX6_tell 78 = .ok (.iload_n 1, 1) := by decide +kernel
theorem dX6_tell_79 : decode cX6_tell 79 = .ok (.bipush 49, 2) := by decide +kernel
theorem dX6_tell_81 : decode cX6_tell 81 = .ok (.iadd, 1) := by decide +kernel
theorem dX6_tell_82 : decode cX6_tell 82 = .ok (.aload_n 0, 1) := by decide +kernel
theorem dX6_tell_83 : decode cX6_tell 83 = .ok (.getfield 122, 3) := by decide +kernel
theorem dX6_tell_86 : decode cX6_tell 86 = .ok (.iastore, 1) := by decide +kernel
theorem dX6_tell_87 : decode cX6_tell 87 = .ok (.aload_n 0, 1) := by decide +kernel
theorem dX6_tell_88 : decode cX6_tell 88 = .ok (.getfield 7, 3) := by decide +kernel
theorem dX6_tell_91 : decode cX6_tell 91 = .ok (.iload_n 1, 1) := by decide +kernel
theorem dX6_tell_92 : decode cX6_tell 92 = .ok (.bipush 50, 2) := by decide +kernel
theorem dX6_tell_94 : decode cX6_tell 94 = .ok (.iadd, 1) := by decide +kernel
theorem dX6_tell_95 : decode cX6_tell 95 = .ok (.aload_n 0, 1) := by decide +kernel
theorem dX6_tell_96 : decode cX6_tell 96 = .ok (.getfield 119, 3) := by decide +kernel
theorem dX6_tell_99 : decode cX6_tell 99 = .ok (.iastore, 1) := by decide +kernel
theorem dX6_tell_100 : decode cX6_tell 100 = .ok (.aload_n 0, 1) := by decide +kernel
theorem dX6_tell_101 : decode cX6_tell 101 = .ok (.getfield 7, 3) := by decide +kernel
theorem dX6_tell_104 : decode cX6_tell 104 = .ok (.iload_n 1, 1) := by decide +kernel
theorem dX6_tell_105 : decode cX6_tell 105 = .ok (.bipush 51, 2) := by decide +kernel
theorem dX6_tell_107 : decode cX6_tell 107 = .ok (.iadd, 1) := by decide +kernel
theorem dX6_tell_108 : decode cX6_tell 108 = .ok (.aload_n 0, 1) := by decide +kernel
theorem dX6_tell_109 : decode cX6_tell 109 = .ok (.getfield 100, 3) := by decide +kernel
theorem dX6_tell_112 : decode cX6_tell 112 = .ok (.iastore, 1) := by decide +kernel
theorem dX6_tell_113 : decode cX6_tell 113 = .ok (.iconst 0, 1) := by decide +kernel
theorem dX6_tell_114 : decode cX6_tell 114 = .ok (.istore_n 2, 1) := by decide +kernel
theorem dX6_tell_115 : decode cX6_tell 115 = .ok (.iload_n 2, 1) := by decide +kernel
theorem dX6_tell_116 : decode cX6_tell 116 = .ok (.bipush 7, 2) := by decide +kernel
theorem dX6_tell_118 : decode cX6_tell 118 = .ok (.if_icmp .ge 43, 3) := by decide +kernel
theorem dX6_tell_121 : decode cX6_tell 121 = .ok (.aload_n 0, 1) := by decide +kernel
theorem dX6_tell_122 : decode cX6_tell 122 = .ok (.getfield 7, 3) := by decide +kernel
theorem dX6_tell_125 : decode cX6_tell 125 = .ok (.iload_n 1, 1) := by decide +kernel
theorem dX6_tell_126 : decode cX6_tell 126 = .ok (.bipush 52, 2) := by decide +kernel
theorem dX6_tell_128 : decode cX6_tell 128 = .ok (.iadd, 1) := by decide +kernel
theorem dX6_tell_129 : decode cX6_tell 129 = .ok (.iload_n 2, 1) := by decide +kernel
theorem dX6_tell_130 : decode cX6_tell 130 = .ok (.iadd, 1) := by decide +kernel
theorem dX6_tell_131 : decode cX6_tell 131 = .ok (.aload_n 0, 1) := by decide +kernel
theorem dX6_tell_132 : decode cX6_tell 132 = .ok (.getfield 19, 3) := by decide +kernel
theorem dX6_tell_135 : decode cX6_tell 135 = .ok (.iload_n 2, 1) := by decide +kernel
theorem dX6_tell_136 : decode cX6_tell 136 = .ok (.iaload, 1) := by decide +kernel
theorem dX6_tell_137 : decode cX6_tell 137 = .ok (.iastore, 1) := by decide +kernel
theorem dX6_tell_138 : decode cX6_tell 138 = .ok (.aload_n 0, 1) := by decide +kernel
theorem dX6_tell_139 : decode cX6_tell 139 = .ok (.getfield 7, 3) := by decide +kernel
theorem dX6_tell_142 : decode cX6_tell 142 = .ok (.iload_n 1, 1) := by decide +kernel
theorem dX6_tell_143 : decode cX6_tell 143 = .ok (.bipush 59, 2) := by decide +kernel
theorem dX6_tell_145 : decode cX6_tell 145 = .ok (.iadd, 1) := by decide +kernel
theorem dX6_tell_146 : decode cX6_tell 146 = .ok (.iload_n 2, 1) := by decide +kernel
theorem dX6_tell_147 : decode cX6_tell 147 = .ok (.iadd, 1) := by decide +kernel
theorem dX6_tell_148 : decode cX6_tell 148 = .ok (.aload_n 0, 1) := by decide +kernel
theorem dX6_tell_149 : decode cX6_tell 149 = .ok (.getfield 22, 3) := by decide +kernel
theorem dX6_tell_152 : decode cX6_tell 152 = .ok (.iload_n 2, 1) := by decide +kernel
theorem dX6_tell_153 : decode cX6_tell 153 = .ok (.iaload, 1) := by decide +kernel
theorem dX6_tell_154 : decode cX6_tell 154 = .ok (.iastore, 1) := by decide +kernel
theorem dX6_tell_155 : decode cX6_tell 155 = .ok (.iinc 2 1, 3) := by decide +kernel
theorem dX6_tell_158 : decode cX6_tell 158 = .ok (.goto (-43), 3) := by decide +kernel
theorem dX6_tell_161 : decode cX6_tell 161 = .ok (.aload_n 0, 1) := by decide +kernel
theorem dX6_tell_162 : decode cX6_tell 162 = .ok (.getfield 7, 3) := by decide +kernel
theorem dX6_tell_165 : decode cX6_tell 165 = .ok (.bipush 56, 2) := by decide +kernel
theorem dX6_tell_167 : decode cX6_tell 167 = .ok (.dup2, 1) := by decide +kernel
theorem dX6_tell_168 : decode cX6_tell 168 = .ok (.iaload, 1) := by decide +kernel
theorem dX6_tell_169 : decode cX6_tell 169 = .ok (.iconst 1, 1) := by decide +kernel
theorem dX6_tell_170 : decode cX6_tell 170 = .ok (.iadd, 1) := by decide +kernel
theorem dX6_tell_171 : decode cX6_tell 171 = .ok (.iastore, 1) := by decide +kernel
theorem dX6_tell_172 : decode cX6_tell 172 = .ok (.aload_n 0, 1) := by decide +kernel
theorem dX6_tell_173 : decode cX6_tell 173 = .ok (.getfield 7, 3) := by decide +kernel
theorem dX6_tell_176 : decode cX6_tell 176 = .ok (.bipush 7, 2) := by decide +kernel
theorem dX6_tell_178 : decode cX6_tell 178 = .ok (.iconst 0, 1) := by decide +kernel
theorem dX6_tell_179 : decode cX6_tell 179 = .ok (.iastore, 1) := by decide +kernel
theorem dX6_tell_180 : decode cX6_tell 180 = .ok (.aload_n 0, 1) := by decide +kernel
theorem dX6_tell_181 : decode cX6_tell 181 = .ok (.getfield 7, 3) := by decide +kernel
theorem dX6_tell_184 : decode cX6_tell 184 = .ok (.bipush 56, 2) := by decide +kernel
theorem dX6_tell_186 : decode cX6_tell 186 = .ok (.iaload, 1) := by decide +kernel
theorem dX6_tell_187 : decode cX6_tell 187 = .ok (.iconst 1, 1) := by decide +kernel
theorem dX6_tell_188 : decode cX6_tell 188 = .ok (.isub, 1) := by decide +kernel
theorem dX6_tell_189 : decode cX6_tell 189 = .ok (.ireturn, 1) := by decide +kernel
set_option maxRecDepth 20000 in
theorem ggX6_isUsed_X6_of : GoodIn wsX6_isUsed wsX6_of := goodIn_r _ [6, 1, 7, 8, 9, 10, 11, 12, 13, 14, 15, 16, 17, 18, 19, 20] (by decide +kernel) (by decide +kernel)
set_option maxRecDepth 20000 in
theorem gX6_isUsed_X6_of : GoodIn wsX6_isUsed (wsV RX6 97 RX6 yX6_of wsX6_of) := goodIn_app (goodIn_of _ (by decide +kernel)) ggX6_isUsed_X6_of
theorem dX6_isUsed_0 : decode cX6_isUsed 0 = .ok (.iconst 0, 1) := by decide +kernel
theorem dX6_isUsed_1 : decode cX6_isUsed 1 = .ok (.istore_n 2, 1) := by decide +kernel
theorem dX6_isUsed_2 : decode cX6_isUsed 2 = .ok (.iconst 0, 1) := by decide +kernel
theorem dX6_isUsed_3 : decode cX6_isUsed 3 = .ok (.istore_n 3, 1) := by decide +kernel
theorem dX6_isUsed_4 : decode cX6_isUsed 4 = .ok (.iload_n 3, 1) := by decide +kernel
theorem dX6_isUsed_5 : decode cX6_isUsed 5 = .ok (.aload_n 0, 1) := by decide +kernel
theorem dX6_isUsed_6 : decode cX6_isUsed 6 = .ok (.getfield 7, 3) := by decide +kernel
theorem dX6_isUsed_9 : decode cX6_isUsed 9 = .ok (.bipush 56, 2) := by decide +kernel
theorem dX6_isUsed_11 : decode cX6_isUsed 11 = .ok (.iaload, 1) := by decide +kernel
theorem dX6_isUsed_12 : decode cX6_isUsed 12 = .ok (.if_icmp .ge 34, 3) := by decide +kernel
theorem dX6_isUsed_15 : decode cX6_isUsed 15 = .ok (.iload_n 2, 1) := by decide +kernel
theorem dX6_isUsed_16 : decode cX6_isUsed 16 = .ok (.ifCond .ne 18, 3) := by decide +kernel
theorem dX6_isUsed_19 : decode cX6_isUsed 19 = .ok (.aload_n 0, 1) := by decide +kernel
theorem dX6_isUsed_20 : decode cX6_isUsed 20 = .ok (.iload_n 3, 1) := by decide +kernel
theorem dX6_isUsed_21 : decode cX6_isUsed 21 = .ok (.bipush 51, 2) := by decide +kernel
theorem dX6_isUsed_23 : decode cX6_isUsed 23 = .ok (.invokevirtual 97, 3) := by decide +kernel
theorem dX6_isUsed_26 : decode cX6_isUsed 26 = .ok (.iload_n 1, 1) := by decide +kernel
theorem dX6_isUsed_27 : decode cX6_isUsed 27 = .ok (.ishr, 1) := by decide +kernel
theorem dX6_isUsed_28 : decode cX6_isUsed 28 = .ok (.iconst 1, 1) := by decide +kernel
theorem dX6_isUsed_29 : decode cX6_isUsed 29 = .ok (.iand, 1) := by decide +kernel
theorem dX6_isUsed_30 : decode cX6_isUsed 30 = .ok (.iconst 1, 1) := by decide +kernel
theorem dX6_isUsed_31 : decode cX6_isUsed 31 = .ok (.if_icmp .ne 7, 3) := by decide +kernel
theorem dX6_isUsed_34 : decode cX6_isUsed 34 = .ok (.iconst 1, 1) := by decide +kernel
theorem dX6_isUsed_35 : decode cX6_isUsed 35 = .ok (.goto 4, 3) := by decide +kernel
theorem dX6_isUsed_38 : decode cX6_isUsed 38 = .ok (.iconst 0, 1) := by decide +kernel
theorem dX6_isUsed_39 : decode cX6_isUsed 39 = .ok (.istore_n 2, 1) := by decide +kernel
theorem dX6_isUsed_40 : decode cX6_isUsed 40 = .ok (.iinc 3 1, 3) := by decide +kernel
theorem dX6_isUsed_43 : decode cX6_isUsed 43 = .ok (.goto (-39), 3) := by decide +kernel
theorem dX6_isUsed_46 : decode cX6_isUsed 46 = .ok (.iload_n 2, 1) := by decide +kernel
theorem dX6_isUsed_47 : decode cX6_isUsed 47 = .ok (.ireturn, 1) := by decide +kernel
set_option maxRecDepth 20000 in
theorem ggX6_retract_X6_isSentence : GoodIn wsX6_retract wsX6_isSentence := goodIn_r _ [8, 3, 9, 10, 7, 11, 26, 27, 28, 29, 30, 31, 32, 33, 34, 35, 36, 37, 38, 39] (by decide +kernel) (by decide +kernel)
set_option maxRecDepth 20000 in
theorem gX6_retract_X6_isSentence : GoodIn wsX6_retract (wsV RX6 142 RX6 yX6_isSentence wsX6_isSentence) := goodIn_app (goodIn_of _ (by decide +kernel)) ggX6_retract_X6_isSentence
set_option maxRecDepth 20000 in
theorem ggX6_retract_X6_of : GoodIn wsX6_retract wsX6_of := goodIn_r _ [15, 3, 26, 27, 28, 29, 30, 31, 32, 33, 34, 35, 36, 37, 38, 39] (by decide +kernel) (by decide +kernel)
set_option maxRecDepth 20000 in
theorem gX6_retract_X6_of : GoodIn wsX6_retract (wsV RX6 97 RX6 yX6_of wsX6_of) := goodIn_app (goodIn_of _ (by decide +kernel)) ggX6_retract_X6_of
set_option maxRecDepth 20000 in
theorem ggX6_retract_X6_isUsed : GoodIn wsX6_retract wsX6_isUsed := goodIn_r _ [19, 3, 12, 13, 14, 7, 15, 26, 27, 28, 29, 30, 31, 32, 33, 34, 35, 36, 37, 38, 39] (by decide +kernel) (by decide +kernel)
set_option maxRecDepth 20000 in
theorem gX6_retract_X6_isUsed : GoodIn wsX6_retract (wsV RX6 146 RX6 yX6_isUsed wsX6_isUsed) := goodIn_app (goodIn_of _ (by decide +kernel)) ggX6_retract_X6_isUsed
set_option maxRecDepth 20000 in
theorem ggX6_retract_X6_record : GoodIn wsX6_retract wsX6_record := goodIn_r _ [23, 24, 25, 3, 26, 27, 28, 29, 30, 31, 32, 33, 34, 35, 36, 37, 38, 39] (by decide +kernel) (by decide +kernel)
set_option maxRecDepth 20000 in
theorem gX6_retract_X6_record : GoodIn wsX6_retract (wsV RX6 139 RX6 yX6_record wsX6_record) := goodIn_app (goodIn_of _ (by decide +kernel)) ggX6_retract_X6_record
theorem dX6_retract_0 : decode cX6_retract 0 = .ok (.aload_n 0, 1) := by decide +kernel
theorem dX6_retract_1 : decode cX6_retract 1 = .ok (.iload_n 1, 1) := by decide +kernel
theorem dX6_retract_2 : decode cX6_retract 2 = .ok (.invokevirtual 142, 3) := by decide +kernel
theorem dX6_retract_5 : decode cX6_retract 5 = .ok (.ifCond .ne 6, 3) := by decide +kernel
theorem dX6_retract_8 : decode cX6_retract 8 = .ok (.ldc 145, 2) := by decide +kernel
theorem dX6_retract_10 : decode cX6_retract 10 = .ok (.ireturn, 1) := by decide +kernel
theorem dX6_retract_11 : decode cX6_retract 11 = .ok (.aload_n 0, 1) := by decide +kernel
theorem dX6_retract_12 : decode cX6_retract 12 = .ok (.iload_n 1, 1) := by decide +kernel
theorem dX6_retract_13 : decode cX6_retract 13 = .ok (.bipush 49, 2) := by decide +kernel
theorem dX6_retract_15 : decode cX6_retract 15 = .ok (.invokevirtual 97, 3) := by decide +kernel
theorem dX6_retract_18 : decode cX6_retract 18 = .ok (.istore_n 2, 1) := by decide +kernel
theorem dX6_retract_19 : decode cX6_retract 19 = .ok (.iload_n 2, 1) := by decide +kernel
theorem dX6_retract_20 : decode cX6_retract 20 = .ok (.bipush 10, 2) := by decide +kernel
theorem dX6_retract_22 : decode cX6_retract 22 = .ok (.if_icmp .lt 17, 3) := by decide +kernel
theorem dX6_retract_25 : decode cX6_retract 25 = .ok (.aload_n 0, 1) := by decide +kernel
theorem dX6_retract_26 : decode cX6_retract 26 = .ok (.iload_n 2, 1) := by decide +kernel
theorem dX6_retract_27 : decode cX6_retract 27 = .ok (.bipush 10, 2) := by decide +kernel
theorem dX6_retract_29 : decode cX6_retract 29 = .ok (.isub, 1) := by decide +kernel
theorem dX6_retract_30 : decode cX6_retract 30 = .ok (.invokevirtual 146, 3) := by decide +kernel
theorem dX6_retract_33 : decode cX6_retract 33 = .ok (.ifCond .eq 6, 3) := by decide +kernel
theorem dX6_retract_36 : decode cX6_retract 36 = .ok (.ldc 73, 2) := by decide +kernel
theorem dX6_retract_38 : decode cX6_retract 38 = .ok (.ireturn, 1) := by decide +kernel
theorem dX6_retract_39 : decode cX6_retract 39 = .ok (.aload_n 0, 1) := by decide +kernel
theorem dX6_retract_40 : decode cX6_retract 40 = .ok (.invokevirtual 139, 3) := by decide +kernel
theorem dX6_retract_43 : decode cX6_retract 43 = .ok (.bipush 57, 2) := by decide +kernel
theorem dX6_retract_45 : decode cX6_retract 45 = .ok (.bipush 66, 2) := by decide +kernel
theorem dX6_retract_47 : decode cX6_retract 47 = .ok (.iload_n 1, 1) := by decide +kernel
theorem dX6_retract_48 : decode cX6_retract 48 = .ok (.imul, 1) := by decide +kernel
theorem dX6_retract_49 : decode cX6_retract 49 = .ok (.iadd, 1) := by decide +kernel
theorem dX6_retract_50 : decode cX6_retract 50 = .ok (.bipush 66, 2) := by decide +kernel
theorem dX6_retract_52 : decode cX6_retract 52 = .ok (.iadd, 1) := by decide +kernel
theorem dX6_retract_53 : decode cX6_retract 53 = .ok (.istore_n 3, 1) := by decide +kernel
theorem dX6_retract_54 : decode cX6_retract 54 = .ok (.iload_n 3, 1) := by decide +kernel
theorem dX6_retract_55 : decode cX6_retract 55 = .ok (.sipush 1113, 3) := by decide +kernel
theorem dX6_retract_58 : decode cX6_retract 58 = .ok (.if_icmp .ge 24, 3) := by decide +kernel
theorem dX6_retract_61 : decode cX6_retract 61 = .ok (.aload_n 0, 1) := by decide +kernel
theorem dX6_retract_62 : decode cX6_retract 62 = .ok (.getfield 7, 3) := by decide +kernel
theorem dX6_retract_65 : decode cX6_retract 65 = .ok (.iload_n 3, 1) := by decide +kernel
theorem dX6_retract_66 : decode cX6_retract 66 = .ok (.bipush 66, 2) := by decide +kernel
theorem dX6_retract_68 : decode cX6_retract 68 = .ok (.isub, 1) := by decide +kernel
theorem dX6_retract_69 : decode cX6_retract 69 = .ok (.aload_n 0, 1) := by decide +kernel
theorem dX6_retract_70 : decode cX6_retract 70 = .ok (.getfield 7, 3) := by decide +kernel
theorem dX6_retract_73 : decode cX6_retract 73 = .ok (.iload_n 3, 1) := by decide +kernel
theorem dX6_retract_74 : decode cX6_retract 74 = .ok (.iaload, 1) := by decide +kernel
theorem dX6_retract_75 : decode cX6_retract 75 = .ok (.iastore, 1) := by decide +kernel
theorem dX6_retract_76 : decode cX6_retract 76 = .ok (.iinc 3 1, 3) := by decide +kernel
theorem dX6_retract_79 : decode cX6_retract 79 = .ok (.goto (-25), 3) := by decide +kernel
theorem dX6_retract_82 : decode cX6_retract 82 = .ok (.aload_n 0, 1) := by decide +kernel
theorem dX6_retract_83 : decode cX6_retract 83 = .ok (.getfield 7, 3) := by decide +kernel
theorem dX6_retract_86 : decode cX6_retract 86 = .ok (.bipush 56, 2) := by decide +kernel
theorem dX6_retract_88 : decode cX6_retract 88 = .ok (.dup2, 1) := by decide +kernel
theorem dX6_retract_89 : decode cX6_retract 89 = .ok (.iaload, 1) := by decide +kernel
theorem dX6_retract_90 : decode cX6_retract 90 = .ok (.iconst 1, 1) := by decide +kernel
theorem dX6_retract_91 : decode cX6_retract 91 = .ok (.isub, 1) := by decide +kernel
theorem dX6_retract_92 : decode cX6_retract 92 = .ok (.iastore, 1) := by decide +kernel
theorem dX6_retract_93 : decode cX6_retract 93 = .ok (.aload_n 0, 1) := by decide +kernel
theorem dX6_retract_94 : decode cX6_retract 94 = .ok (.getfield 7, 3) := by decide +kernel
theorem dX6_retract_97 : decode cX6_retract 97 = .ok (.bipush 56, 2) := by decide +kernel
theorem dX6_retract_99 : decode cX6_retract 99 = .ok (.iaload, 1) := by decide +kernel
theorem dX6_retract_100 : decode cX6_retract 100 = .ok (.ireturn, 1) := by decide +kernel
set_option maxRecDepth 20000 in
theorem ggX6_isValue_X6_isFact : GoodIn wsX6_isValue wsX6_isFact := goodIn_r _ [4, 5, 6, 3, 7] (by decide +kernel) (by decide +kernel)
set_option maxRecDepth 20000 in
theorem gX6_isValue_X6_isFact : GoodIn wsX6_isValue (va_wsS RX6 149 yX6_isFact wsX6_isFact) := goodIn_app (goodIn_of _ (by decide +kernel)) ggX6_isValue_X6_isFact
set_option maxRecDepth 20000 in
theorem ggX6_isValue_X6_leastOf : GoodIn wsX6_isValue wsX6_leastOf := goodIn_r _ [10] (by decide +kernel) (by decide +kernel)
set_option maxRecDepth 20000 in
theorem gX6_isValue_X6_leastOf : GoodIn wsX6_isValue (va_wsS RX6 113 yX6_leastOf wsX6_leastOf) := goodIn_app (goodIn_of _ (by decide +kernel)) ggX6_isValue_X6_leastOf
set_option maxRecDepth 20000 in
theorem ggX6_isValue_X6_greatestOf : GoodIn wsX6_isValue wsX6_greatestOf := goodIn_r _ [13, 14] (by decide +kernel) (by decide +kernel)
set_option maxRecDepth 20000 in
theorem gX6_isValue_X6_greatestOf : GoodIn wsX6_isValue (va_wsS RX6 116 yX6_greatestOf wsX6_greatestOf) := goodIn_app (goodIn_of _ (by decide +kernel)) ggX6_isValue_X6_greatestOf
set_option maxRecDepth 20000 in
theorem ggX6_isValue_X6_in : GoodIn wsX6_isValue wsX6_in := goodIn_r _ [7] (by decide +kernel) (by decide +kernel)
set_option maxRecDepth 20000 in
theorem gX6_isValue_X6_in : GoodIn wsX6_isValue (va_wsS RX6 42 yX6_in wsX6_in) := goodIn_app (goodIn_of _ (by decide +kernel)) ggX6_isValue_X6_in
theorem dX6_isValue_0 : decode cX6_isValue 0 = .ok (.iload_n 0, 1) := by decide +kernel
theorem dX6_isValue_1 : decode cX6_isValue 1 = .ok (.invokestatic 149, 3) := by decide +kernel
theorem dX6_isValue_4 : decode cX6_isValue 4 = .ok (.ifCond .eq 22, 3) := by decide +kernel
theorem dX6_isValue_7 : decode cX6_isValue 7 = .ok (.iload_n 1, 1) := by decide +kernel
theorem dX6_isValue_8 : decode cX6_isValue 8 = .ok (.iload_n 0, 1) := by decide +kernel
theorem dX6_isValue_9 : decode cX6_isValue 9 = .ok (.invokestatic 113, 3) := by decide +kernel
theorem dX6_isValue_12 : decode cX6_isValue 12 = .ok (.iload_n 0, 1) := by decide +kernel
theorem dX6_isValue_13 : decode cX6_isValue 13 = .ok (.invokestatic 116, 3) := by decide +kernel
theorem dX6_isValue_16 : decode cX6_isValue 16 = .ok (.invokestatic 42, 3) := by decide +kernel
theorem dX6_isValue_19 : decode cX6_isValue 19 = .ok (.ifCond .eq 7, 3) := by decide +kernel
theorem dX6_isValue_22 : decode cX6_isValue 22 = .ok (.iconst 1, 1) := by decide +kernel
theorem dX6_isValue_23 : decode cX6_isValue 23 = .ok (.goto 4, 3) := by decide +kernel
theorem dX6_isValue_26 : decode cX6_isValue 26 = .ok (.iconst 0, 1) := by decide +kernel
theorem dX6_isValue_27 : decode cX6_isValue 27 = .ok (.ireturn, 1) := by decide +kernel
set_option maxRecDepth 20000 in
theorem ggX6_setFact_X6_isValue : GoodIn wsX6_setFact wsX6_isValue := goodIn_r _ [6, 7, 8, 5, 9, 10, 11, 12, 13, 14, 15, 16, 17, 18, 19] (by decide +kernel) (by decide +kernel)
set_option maxRecDepth 20000 in
theorem gX6_setFact_X6_isValue : GoodIn wsX6_setFact (va_wsS RX6 152 yX6_isValue wsX6_isValue) := goodIn_app (goodIn_of _ (by decide +kernel)) ggX6_setFact_X6_isValue
set_option maxRecDepth 20000 in
theorem ggX6_setFact_X6_record : GoodIn wsX6_setFact wsX6_record := goodIn_r _ [23, 24, 25, 2, 26, 27, 28, 29, 30, 31, 32, 33, 34, 35, 36, 37, 38, 39] (by decide +kernel) (by decide +kernel)
set_option maxRecDepth 20000 in
theorem gX6_setFact_X6_record : GoodIn wsX6_setFact (wsV RX6 139 RX6 yX6_record wsX6_record) := goodIn_app (goodIn_of _ (by decide +kernel)) ggX6_setFact_X6_record
theorem dX6_setFact_0 : decode cX6_setFact 0 = .ok (.iload_n 1, 1) := by decide +kernel
theorem dX6_setFact_1 : decode cX6_setFact 1 = .ok (.iload_n 2, 1) := by decide +kernel
theorem dX6_setFact_2 : decode cX6_setFact 2 = .ok (.invokestatic 152, 3) := by decide +kernel
theorem dX6_setFact_5 : decode cX6_setFact 5 = .ok (.ifCond .ne 6, 3) := by decide +kernel
theorem dX6_setFact_8 : decode cX6_setFact 8 = .ok (.ldc 64, 2) := by decide +kernel
theorem dX6_setFact_10 : decode cX6_setFact 10 = .ok (.ireturn, 1) := by decide +kernel
theorem dX6_setFact_11 : decode cX6_setFact 11 = .ok (.aload_n 0, 1) := by decide +kernel
theorem dX6_setFact_12 : decode cX6_setFact 12 = .ok (.invokevirtual 139, 3) := by decide +kernel
theorem dX6_setFact_15 : decode cX6_setFact 15 = .ok (.aload_n 0, 1) := by decide +kernel
theorem dX6_setFact_16 : decode cX6_setFact 16 = .ok (.getfield 7, 3) := by decide +kernel
theorem dX6_setFact_19 : decode cX6_setFact 19 = .ok (.iload_n 1, 1) := by decide +kernel
theorem dX6_setFact_20 : decode cX6_setFact 20 = .ok (.iaload, 1) := by decide +kernel
theorem dX6_setFact_21 : decode cX6_setFact 21 = .ok (.istore_n 3, 1) := by decide +kernel
theorem dX6_setFact_22 : decode cX6_setFact 22 = .ok (.aload_n 0, 1) := by decide +kernel
theorem dX6_setFact_23 : decode cX6_setFact 23 = .ok (.getfield 7, 3) := by decide +kernel
theorem dX6_setFact_26 : decode cX6_setFact 26 = .ok (.iload_n 1, 1) := by decide +kernel
theorem dX6_setFact_27 : decode cX6_setFact 27 = .ok (.iload_n 2, 1) := by decide +kernel
theorem dX6_setFact_28 : decode cX6_setFact 28 = .ok (.iastore, 1) := by decide +kernel
theorem dX6_setFact_29 : decode cX6_setFact 29 = .ok (.iload_n 3, 1) := by decide +kernel
theorem dX6_setFact_30 : decode cX6_setFact 30 = .ok (.ireturn, 1) := by decide +kernel
theorem dX6_sentences_0 : decode cX6_sentences 0 = .ok (.aload_n 0, 1) := by decide +kernel
theorem dX6_sentences_1 : decode cX6_sentences 1 = .ok (.getfield 7, 3) := by decide +kernel
theorem dX6_sentences_4 : decode cX6_sentences 4 = .ok (.bipush 56, 2) := by decide +kernel
theorem dX6_sentences_6 : decode cX6_sentences 6 = .ok (.iaload, 1) := by decide +kernel
theorem dX6_sentences_7 : decode cX6_sentences 7 = .ok (.ireturn, 1) := by decide +kernel
set_option maxRecDepth 20000 in
theorem ggX6_told_X6_isSentence : GoodIn wsX6_told wsX6_isSentence := goodIn_r _ [6, 7, 8, 9, 5, 10, 15, 16, 17, 18, 19, 20, 21, 22, 23, 24, 25, 26, 27, 28] (by decide +kernel) (by decide +kernel)
set_option maxRecDepth 20000 in
theorem gX6_told_X6_isSentence : GoodIn wsX6_told (wsV RX6 142 RX6 yX6_isSentence wsX6_isSentence) := goodIn_app (goodIn_of _ (by decide +kernel)) ggX6_told_X6_isSentence
set_option maxRecDepth 20000 in
theorem ggX6_told_X6_of : GoodIn wsX6_told wsX6_of := goodIn_r _ [14, 7, 15, 16, 17, 18, 19, 20, 21, 22, 23, 24, 25, 26, 27, 28] (by decide +kernel) (by decide +kernel)
set_option maxRecDepth 20000 in
theorem gX6_told_X6_of : GoodIn wsX6_told (wsV RX6 97 RX6 yX6_of wsX6_of) := goodIn_app (goodIn_of _ (by decide +kernel)) ggX6_told_X6_of
theorem dX6_told_0 : decode cX6_told 0 = .ok (.aload_n 0, 1) := by decide +kernel
theorem dX6_told_1 : decode cX6_told 1 = .ok (.iload_n 1, 1) := by decide +kernel
theorem dX6_told_2 : decode cX6_told 2 = .ok (.invokevirtual 142, 3) := by decide +kernel
theorem dX6_told_5 : decode cX6_told 5 = .ok (.ifCond .eq 12, 3) := by decide +kernel
theorem dX6_told_8 : decode cX6_told 8 = .ok (.aload_n 0, 1) := by decide +kernel
theorem dX6_told_9 : decode cX6_told 9 = .ok (.iload_n 1, 1) := by decide +kernel
theorem dX6_told_10 : decode cX6_told 10 = .ok (.iload_n 2, 1) := by decide +kernel
theorem dX6_told_11 : decode cX6_told 11 = .ok (.invokevirtual 97, 3) := by decide +kernel
theorem dX6_told_14 : decode cX6_told 14 = .ok (.goto 5, 3) := by decide +kernel
theorem dX6_told_17 : decode cX6_told 17 = .ok (.ldc 145, 2) := by decide +kernel
theorem dX6_told_19 : decode cX6_told 19 = .ok (.ireturn, 1) := by decide +kernel
set_option maxRecDepth 20000 in
theorem ggX6_about_X6_told : GoodIn wsX6_about wsX6_told := goodIn_r _ [5, 6, 7, 8, 9, 4, 10, 11, 12, 13, 14, 15, 16, 17, 18, 19, 20, 21, 22, 23, 24, 25, 26, 27, 28, 29, 30, 31, 32] (by decide +kernel) (by decide +kernel)
set_option maxRecDepth 20000 in
theorem gX6_about_X6_told : GoodIn wsX6_about (wsV RX6 156 RX6 yX6_told wsX6_told) := goodIn_app (goodIn_of _ (by decide +kernel)) ggX6_about_X6_told
theorem dX6_about_0 : decode cX6_about 0 = .ok (.aload_n 0, 1) := by decide +kernel
theorem dX6_about_1 : decode cX6_about 1 = .ok (.iload_n 1, 1) := by decide +kernel
theorem dX6_about_2 : decode cX6_about 2 = .ok (.bipush 49, 2) := by decide +kernel
theorem dX6_about_4 : decode cX6_about 4 = .ok (.invokevirtual 156, 3) := by decide +kernel
theorem dX6_about_7 : decode cX6_about 7 = .ok (.ireturn, 1) := by decide +kernel
set_option maxRecDepth 20000 in
theorem ggX6_gives_X6_told : GoodIn wsX6_gives wsX6_told := goodIn_r _ [5, 6, 7, 8, 9, 4, 10, 11, 12, 13, 14, 15, 16, 17, 18, 19, 20, 21, 22, 23, 24, 25, 26, 27, 28, 29, 30, 31, 32] (by decide +kernel) (by decide +kernel)
