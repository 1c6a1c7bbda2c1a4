theorem dl_0 : decode code 0 = .ok (.new 7, 3) := by decide +kernel
theorem dl_3 : decode code 3 = .ok (.dup, 1) := by decide +kernel
theorem dl_4 : decode code 4 = .ok (.invokespecial 9, 3) := by decide +kernel
theorem dl_7 : decode code 7 = .ok (.astore_n 1, 1) := by decide +kernel
theorem dl_8 : decode code 8 = .ok (.new 10, 3) := by decide +kernel
theorem dl_11 : decode code 11 = .ok (.dup, 1) := by decide +kernel
theorem dl_12 : decode code 12 = .ok (.invokespecial 12, 3) := by decide +kernel
theorem dl_15 : decode code 15 = .ok (.astore_n 2, 1) := by decide +kernel
theorem dl_16 : decode code 16 = .ok (.iconst 0, 1) := by decide +kernel
theorem dl_17 : decode code 17 = .ok (.istore_n 3, 1) := by decide +kernel
theorem dl_18 : decode code 18 = .ok (.iload_n 3, 1) := by decide +kernel
theorem dl_19 : decode code 19 = .ok (.aload_n 0, 1) := by decide +kernel
theorem dl_20 : decode code 20 = .ok (.arraylength, 1) := by decide +kernel
theorem dl_21 : decode code 21 = .ok (.bipush 6, 2) := by decide +kernel
theorem dl_23 : decode code 23 = .ok (.isub, 1) := by decide +kernel
theorem dl_24 : decode code 24 = .ok (.if_icmp .gt 1572, 3) := by decide +kernel
theorem dl_27 : decode code 27 = .ok (.aload_n 0, 1) := by decide +kernel
theorem dl_28 : decode code 28 = .ok (.iload_n 3, 1) := by decide +kernel
theorem dl_29 : decode code 29 = .ok (.iaload, 1) := by decide +kernel
theorem dl_30 : decode code 30 = .ok (.bipush 63, 2) := by decide +kernel
theorem dl_32 : decode code 32 = .ok (.iand, 1) := by decide +kernel
theorem dl_33 : decode code 33 = .ok (.tableswitch 1557 0 47 #[207, 250, 283, 316, 379, 402, 415, 438, 461, 494, 527, 550, 573, 596, 629, 642, 675, 708, 731, 764, 797, 820, 853, 896, 945, 994, 1054, 1107, 1130, 1163, 1186, 1199, 1212, 1235, 1248, 1261, 1295, 1338, 1371, 1404, 1417, 1430, 1443, 1456, 1469, 1508, 1521, 1534], 207) := by decide +kernel
theorem dl_240 : decode code 240 = .ok (.aload_n 1, 1) := by decide +kernel
theorem dl_241 : decode code 241 = .ok (.aload_n 0, 1) := by decide +kernel
theorem dl_242 : decode code 242 = .ok (.iload_n 3, 1) := by decide +kernel
theorem dl_243 : decode code 243 = .ok (.iconst 1, 1) := by decide +kernel
theorem dl_244 : decode code 244 = .ok (.iadd, 1) := by decide +kernel
theorem dl_245 : decode code 245 = .ok (.iaload, 1) := by decide +kernel
theorem dl_246 : decode code 246 = .ok (.aload_n 0, 1) := by decide +kernel
theorem dl_247 : decode code 247 = .ok (.iload_n 3, 1) := by decide +kernel
theorem dl_248 : decode code 248 = .ok (.iconst 2, 1) := by decide +kernel
theorem dl_249 : decode code 249 = .ok (.iadd, 1) := by decide +kernel
theorem dl_250 : decode code 250 = .ok (.iaload, 1) := by decide +kernel
theorem dl_251 : decode code 251 = .ok (.aload_n 0, 1) := by decide +kernel
theorem dl_252 : decode code 252 = .ok (.iload_n 3, 1) := by decide +kernel
theorem dl_253 : decode code 253 = .ok (.iconst 3, 1) := by decide +kernel
theorem dl_254 : decode code 254 = .ok (.iadd, 1) := by decide +kernel
theorem dl_255 : decode code 255 = .ok (.iaload, 1) := by decide +kernel
theorem dl_256 : decode code 256 = .ok (.invokevirtual 13, 3) := by decide +kernel
theorem dl_259 : decode code 259 = .ok (.aload_n 2, 1) := by decide +kernel
theorem dl_260 : decode code 260 = .ok (.aload_n 0, 1) := by decide +kernel
theorem dl_261 : decode code 261 = .ok (.iload_n 3, 1) := by decide +kernel
theorem dl_262 : decode code 262 = .ok (.iconst 1, 1) := by decide +kernel
theorem dl_263 : decode code 263 = .ok (.iadd, 1) := by decide +kernel
theorem dl_264 : decode code 264 = .ok (.iaload, 1) := by decide +kernel
theorem dl_265 : decode code 265 = .ok (.aload_n 0, 1) := by decide +kernel
theorem dl_266 : decode code 266 = .ok (.iload_n 3, 1) := by decide +kernel
theorem dl_267 : decode code 267 = .ok (.iconst 2, 1) := by decide +kernel
theorem dl_268 : decode code 268 = .ok (.iadd, 1) := by decide +kernel
theorem dl_269 : decode code 269 = .ok (.iaload, 1) := by decide +kernel
theorem dl_270 : decode code 270 = .ok (.aload_n 0, 1) := by decide +kernel
theorem dl_271 : decode code 271 = .ok (.iload_n 3, 1) := by decide +kernel
theorem dl_272 : decode code 272 = .ok (.iconst 3, 1) := by decide +kernel
theorem dl_273 : decode code 273 = .ok (.iadd, 1) := by decide +kernel
theorem dl_274 : decode code 274 = .ok (.iaload, 1) := by decide +kernel
theorem dl_275 : decode code 275 = .ok (.invokevirtual 17, 3) := by decide +kernel
theorem dl_278 : decode code 278 = .ok (.if_icmp .eq 1312, 3) := by decide +kernel
theorem dl_281 : decode code 281 = .ok (.iconst 0, 1) := by decide +kernel
theorem dl_282 : decode code 282 = .ok (.ireturn, 1) := by decide +kernel
theorem dl_283 : decode code 283 = .ok (.aload_n 1, 1) := by decide +kernel
theorem dl_284 : decode code 284 = .ok (.aload_n 0, 1) := by decide +kernel
theorem dl_285 : decode code 285 = .ok (.iload_n 3, 1) := by decide +kernel
theorem dl_286 : decode code 286 = .ok (.iconst 1, 1) := by decide +kernel
theorem dl_287 : decode code 287 = .ok (.iadd, 1) := by decide +kernel
theorem dl_288 : decode code 288 = .ok (.iaload, 1) := by decide +kernel
theorem dl_289 : decode code 289 = .ok (.aload_n 0, 1) := by decide +kernel
theorem dl_290 : decode code 290 = .ok (.iload_n 3, 1) := by decide +kernel
theorem dl_291 : decode code 291 = .ok (.iconst 2, 1) := by decide +kernel
theorem dl_292 : decode code 292 = .ok (.iadd, 1) := by decide +kernel
theorem dl_293 : decode code 293 = .ok (.iaload, 1) := by decide +kernel
theorem dl_294 : decode code 294 = .ok (.invokevirtual 18, 3) := by decide +kernel
theorem dl_297 : decode code 297 = .ok (.aload_n 2, 1) := by decide +kernel
theorem dl_298 : decode code 298 = .ok (.aload_n 0, 1) := by decide +kernel
theorem dl_299 : decode code 299 = .ok (.iload_n 3, 1) := by decide +kernel
theorem dl_300 : decode code 300 = .ok (.iconst 1, 1) := by decide +kernel
theorem dl_301 : decode code 301 = .ok (.iadd, 1) := by decide +kernel
theorem dl_302 : decode code 302 = .ok (.iaload, 1) := by decide +kernel
theorem dl_303 : decode code 303 = .ok (.aload_n 0, 1) := by decide +kernel
theorem dl_304 : decode code 304 = .ok (.iload_n 3, 1) := by decide +kernel
theorem dl_305 : decode code 305 = .ok (.iconst 2, 1) := by decide +kernel
theorem dl_306 : decode code 306 = .ok (.iadd, 1) := by decide +kernel
theorem dl_307 : decode code 307 = .ok (.iaload, 1) := by decide +kernel
theorem dl_308 : decode code 308 = .ok (.invokevirtual 22, 3) := by decide +kernel
theorem dl_311 : decode code 311 = .ok (.if_icmp .eq 1279, 3) := by decide +kernel
theorem dl_314 : decode code 314 = .ok (.iconst 0, 1) := by decide +kernel
theorem dl_315 : decode code 315 = .ok (.ireturn, 1) := by decide +kernel
theorem dl_316 : decode code 316 = .ok (.aload_n 1, 1) := by decide +kernel
theorem dl_317 : decode code 317 = .ok (.aload_n 0, 1) := by decide +kernel
theorem dl_318 : decode code 318 = .ok (.iload_n 3, 1) := by decide +kernel
theorem dl_319 : decode code 319 = .ok (.iconst 1, 1) := by decide +kernel
theorem dl_320 : decode code 320 = .ok (.iadd, 1) := by decide +kernel
theorem dl_321 : decode code 321 = .ok (.iaload, 1) := by decide +kernel
theorem dl_322 : decode code 322 = .ok (.aload_n 0, 1) := by decide +kernel
theorem dl_323 : decode code 323 = .ok (.iload_n 3, 1) := by decide +kernel
theorem dl_324 : decode code 324 = .ok (.iconst 2, 1) := by decide +kernel
theorem dl_325 : decode code 325 = .ok (.iadd, 1) := by decide +kernel
theorem dl_326 : decode code 326 = .ok (.iaload, 1) := by decide +kernel
theorem dl_327 : decode code 327 = .ok (.invokevirtual 23, 3) := by decide +kernel
theorem dl_330 : decode code 330 = .ok (.aload_n 2, 1) := by decide +kernel
theorem dl_331 : decode code 331 = .ok (.aload_n 0, 1) := by decide +kernel
theorem dl_332 : decode code 332 = .ok (.iload_n 3, 1) := by decide +kernel
theorem dl_333 : decode code 333 = .ok (.iconst 1, 1) := by decide +kernel
theorem dl_334 : decode code 334 = .ok (.iadd, 1) := by decide +kernel
theorem dl_335 : decode code 335 = .ok (.iaload, 1) := by decide +kernel
theorem dl_336 : decode code 336 = .ok (.aload_n 0, 1) := by decide +kernel
theorem dl_337 : decode code 337 = .ok (.iload_n 3, 1) := by decide +kernel
theorem dl_338 : decode code 338 = .ok (.iconst 2, 1) := by decide +kernel
theorem dl_339 : decode code 339 = .ok (.iadd, 1) := by decide +kernel
theorem dl_340 : decode code 340 = .ok (.iaload, 1) := by decide +kernel
theorem dl_341 : decode code 341 = .ok (.invokevirtual 27, 3) := by decide +kernel
theorem dl_344 : decode code 344 = .ok (.if_icmp .eq 1246, 3) := by decide +kernel
theorem dl_347 : decode code 347 = .ok (.iconst 0, 1) := by decide +kernel
theorem dl_348 : decode code 348 = .ok (.ireturn, 1) := by decide +kernel
theorem dl_349 : decode code 349 = .ok (.aload_n 1, 1) := by decide +kernel
theorem dl_350 : decode code 350 = .ok (.aload_n 0, 1) := by decide +kernel
theorem dl_351 : decode code 351 = .ok (.iload_n 3, 1) := by decide +kernel
theorem dl_352 : decode code 352 = .ok (.iconst 1, 1) := by decide +kernel
theorem dl_353 : decode code 353 = .ok (.iadd, 1) := by decide +kernel
theorem dl_354 : decode code 354 = .ok (.iaload, 1) := by decide +kernel
theorem dl_355 : decode code 355 = .ok (.aload_n 0, 1) := by decide +kernel
theorem dl_356 : decode code 356 = .ok (.iload_n 3, 1) := by decide +kernel
theorem dl_357 : decode code 357 = .ok (.iconst 2, 1) := by decide +kernel
theorem dl_358 : decode code 358 = .ok (.iadd, 1) := by decide +kernel
theorem dl_359 : decode code 359 = .ok (.iaload, 1) := by decide +kernel
theorem dl_360 : decode code 360 = .ok (.aload_n 0, 1) := by decide +kernel
theorem dl_361 : decode code 361 = .ok (.iload_n 3, 1) := by decide +kernel
theorem dl_362 : decode code 362 = .ok (.iconst 3, 1) := by decide +kernel
theorem dl_363 : decode code 363 = .ok (.iadd, 1) := by decide +kernel
theorem dl_364 : decode code 364 = .ok (.iaload, 1) := by decide +kernel
theorem dl_365 : decode code 365 = .ok (.aload_n 0, 1) := by decide +kernel
theorem dl_366 : decode code 366 = .ok (.iload_n 3, 1) := by decide +kernel
theorem dl_367 : decode code 367 = .ok (.iconst 4, 1) := by decide +kernel
theorem dl_368 : decode code 368 = .ok (.iadd, 1) := by decide +kernel
theorem dl_369 : decode code 369 = .ok (.iaload, 1) := by decide +kernel
theorem dl_370 : decode code 370 = .ok (.aload_n 0, 1) := by decide +kernel
theorem dl_371 : decode code 371 = .ok (.iload_n 3, 1) := by decide +kernel
theorem dl_372 : decode code 372 = .ok (.iconst 5, 1) := by decide +kernel
theorem dl_373 : decode code 373 = .ok (.iadd, 1) := by decide +kernel
theorem dl_374 : decode code 374 = .ok (.iaload, 1) := by decide +kernel
theorem dl_375 : decode code 375 = .ok (.invokevirtual 28, 3) := by decide +kernel
theorem dl_378 : decode code 378 = .ok (.aload_n 2, 1) := by decide +kernel
theorem dl_379 : decode code 379 = .ok (.aload_n 0, 1) := by decide +kernel
theorem dl_380 : decode code 380 = .ok (.iload_n 3, 1) := by decide +kernel
theorem dl_381 : decode code 381 = .ok (.iconst 1, 1) := by decide +kernel
theorem dl_382 : decode code 382 = .ok (.iadd, 1) := by decide +kernel
theorem dl_383 : decode code 383 = .ok (.iaload, 1) := by decide +kernel
theorem dl_384 : decode code 384 = .ok (.aload_n 0, 1) := by decide +kernel
theorem dl_385 : decode code 385 = .ok (.iload_n 3, 1) := by decide +kernel
theorem dl_386 : decode code 386 = .ok (.iconst 2, 1) := by decide +kernel
theorem dl_387 : decode code 387 = .ok (.iadd, 1) := by decide +kernel
theorem dl_388 : decode code 388 = .ok (.iaload, 1) := by decide +kernel
theorem dl_389 : decode code 389 = .ok (.aload_n 0, 1) := by decide +kernel
theorem dl_390 : decode code 390 = .ok (.iload_n 3, 1) := by decide +kernel
theorem dl_391 : decode code 391 = .ok (.iconst 3, 1) := by decide +kernel
theorem dl_392 : decode code 392 = .ok (.iadd, 1) := by decide +kernel
theorem dl_393 : decode code 393 = .ok (.iaload, 1) := by decide +kernel
theorem dl_394 : decode code 394 = .ok (.aload_n 0, 1) := by decide +kernel
theorem dl_395 : decode code 395 = .ok (.iload_n 3, 1) := by decide +kernel
theorem dl_396 : decode code 396 = .ok (.iconst 4, 1) := by decide +kernel
theorem dl_397 : decode code 397 = .ok (.iadd, 1) := by decide +kernel
theorem dl_398 : decode code 398 = .ok (.iaload, 1) := by decide +kernel
theorem dl_399 : decode code 399 = .ok (.aload_n 0, 1) := by decide +kernel
theorem dl_400 : decode code 400 = .ok (.iload_n 3, 1) := by decide +kernel
theorem dl_401 : decode code 401 = .ok (.iconst 5, 1) := by decide +kernel
theorem dl_402 : decode code 402 = .ok (.iadd, 1) := by decide +kernel
theorem dl_403 : decode code 403 = .ok (.iaload, 1) := by decide +kernel
theorem dl_404 : decode code 404 = .ok (.invokevirtual 32, 3) := by decide +kernel
theorem dl_407 : decode code 407 = .ok (.if_icmp .eq 1183, 3) := by decide +kernel
theorem dl_410 : decode code 410 = .ok (.iconst 0, 1) := by decide +kernel
theorem dl_411 : decode code 411 = .ok (.ireturn, 1) := by decide +kernel
theorem dl_412 : decode code 412 = .ok (.aload_n 1, 1) := by decide +kernel
theorem dl_413 : decode code 413 = .ok (.aload_n 0, 1) := by decide +kernel
theorem dl_414 : decode code 414 = .ok (.iload_n 3, 1) := by decide +kernel
theorem dl_415 : decode code 415 = .ok (.iconst 1, 1) := by decide +kernel
theorem dl_416 : decode code 416 = .ok (.iadd, 1) := by decide +kernel
theorem dl_417 : decode code 417 = .ok (.iaload, 1) := by decide +kernel
theorem dl_418 : decode code 418 = .ok (.invokevirtual 33, 3) := by decide +kernel
theorem dl_421 : decode code 421 = .ok (.aload_n 2, 1) := by decide +kernel
theorem dl_422 : decode code 422 = .ok (.aload_n 0, 1) := by decide +kernel
theorem dl_423 : decode code 423 = .ok (.iload_n 3, 1) := by decide +kernel
theorem dl_424 : decode code 424 = .ok (.iconst 1, 1) := by decide +kernel
theorem dl_425 : decode code 425 = .ok (.iadd, 1) := by decide +kernel
theorem dl_426 : decode code 426 = .ok (.iaload, 1) := by decide +kernel
theorem dl_427 : decode code 427 = .ok (.invokevirtual 37, 3) := by decide +kernel
theorem dl_430 : decode code 430 = .ok (.if_icmp .eq 1160, 3) := by decide +kernel
theorem dl_433 : decode code 433 = .ok (.iconst 0, 1) := by decide +kernel
theorem dl_434 : decode code 434 = .ok (.ireturn, 1) := by decide +kernel
theorem dl_435 : decode code 435 = .ok (.aload_n 1, 1) := by decide +kernel
theorem dl_436 : decode code 436 = .ok (.invokevirtual 38, 3) := by decide +kernel
theorem dl_439 : decode code 439 = .ok (.aload_n 2, 1) := by decide +kernel
theorem dl_440 : decode code 440 = .ok (.invokevirtual 42, 3) := by decide +kernel
theorem dl_443 : decode code 443 = .ok (.if_icmp .eq 1147, 3) := by decide +kernel
theorem dl_446 : decode code 446 = .ok (.iconst 0, 1) := by decide +kernel
theorem dl_447 : decode code 447 = .ok (.ireturn, 1) := by decide +kernel
theorem dl_448 : decode code 448 = .ok (.aload_n 1, 1) := by decide +kernel
theorem dl_449 : decode code 449 = .ok (.aload_n 0, 1) := by decide +kernel
theorem dl_450 : decode code 450 = .ok (.iload_n 3, 1) := by decide +kernel
theorem dl_451 : decode code 451 = .ok (.iconst 1, 1) := by decide +kernel
theorem dl_452 : decode code 452 = .ok (.iadd, 1) := by decide +kernel
theorem dl_453 : decode code 453 = .ok (.iaload, 1) := by decide +kernel
theorem dl_454 : decode code 454 = .ok (.invokevirtual 43, 3) := by decide +kernel
theorem dl_457 : decode code 457 = .ok (.aload_n 2, 1) := by decide +kernel
theorem dl_458 : decode code 458 = .ok (.aload_n 0, 1) := by decide +kernel
theorem dl_459 : decode code 459 = .ok (.iload_n 3, 1) := by decide +kernel
theorem dl_460 : decode code 460 = .ok (.iconst 1, 1) := by decide +kernel
theorem dl_461 : decode code 461 = .ok (.iadd, 1) := by decide +kernel
theorem dl_462 : decode code 462 = .ok (.iaload, 1) := by decide +kernel
theorem dl_463 : decode code 463 = .ok (.invokevirtual 46, 3) := by decide +kernel
theorem dl_466 : decode code 466 = .ok (.if_icmp .eq 1124, 3) := by decide +kernel
theorem dl_469 : decode code 469 = .ok (.iconst 0, 1) := by decide +kernel
theorem dl_470 : decode code 470 = .ok (.ireturn, 1) := by decide +kernel
theorem dl_471 : decode code 471 = .ok (.aload_n 1, 1) := by decide +kernel
theorem dl_472 : decode code 472 = .ok (.aload_n 0, 1) := by decide +kernel
theorem dl_473 : decode code 473 = .ok (.iload_n 3, 1) := by decide +kernel
theorem dl_474 : decode code 474 = .ok (.iconst 1, 1) := by decide +kernel
theorem dl_475 : decode code 475 = .ok (.iadd, 1) := by decide +kernel
theorem dl_476 : decode code 476 = .ok (.iaload, 1) := by decide +kernel
theorem dl_477 : decode code 477 = .ok (.invokevirtual 47, 3) := by decide +kernel
theorem dl_480 : decode code 480 = .ok (.aload_n 2, 1) := by decide +kernel
theorem dl_481 : decode code 481 = .ok (.aload_n 0, 1) := by decide +kernel
theorem dl_482 : decode code 482 = .ok (.iload_n 3, 1) := by decide +kernel
theorem dl_483 : decode code 483 = .ok (.iconst 1, 1) := by decide +kernel
theorem dl_484 : decode code 484 = .ok (.iadd, 1) := by decide +kernel
theorem dl_485 : decode code 485 = .ok (.iaload, 1) := by decide +kernel
theorem dl_486 : decode code 486 = .ok (.invokevirtual 51, 3) := by decide +kernel
theorem dl_489 : decode code 489 = .ok (.if_icmp .eq 1101, 3) := by decide +kernel
theorem dl_492 : decode code 492 = .ok (.iconst 0, 1) := by decide +kernel
theorem dl_493 : decode code 493 = .ok (.ireturn, 1) := by decide +kernel
theorem dl_494 : decode code 494 = .ok (.aload_n 1, 1) := by decide +kernel
theorem dl_495 : decode code 495 = .ok (.aload_n 0, 1) := by decide +kernel
theorem dl_496 : decode code 496 = .ok (.iload_n 3, 1) := by decide +kernel
theorem dl_497 : decode code 497 = .ok (.iconst 1, 1) := by decide +kernel
theorem dl_498 : decode code 498 = .ok (.iadd, 1) := by decide +kernel
theorem dl_499 : decode code 499 = .ok (.iaload, 1) := by decide +kernel
theorem dl_500 : decode code 500 = .ok (.aload_n 0, 1) := by decide +kernel
theorem dl_501 : decode code 501 = .ok (.iload_n 3, 1) := by decide +kernel
theorem dl_502 : decode code 502 = .ok (.iconst 2, 1) := by decide +kernel
theorem dl_503 : decode code 503 = .ok (.iadd, 1) := by decide +kernel
theorem dl_504 : decode code 504 = .ok (.iaload, 1) := by decide +kernel
theorem dl_505 : decode code 505 = .ok (.invokevirtual 52, 3) := by decide +kernel
theorem dl_508 : decode code 508 = .ok (.aload_n 2, 1) := by decide +kernel
theorem dl_509 : decode code 509 = .ok (.aload_n 0, 1) := by decide +kernel
theorem dl_510 : decode code 510 = .ok (.iload_n 3, 1) := by decide +kernel
theorem dl_511 : decode code 511 = .ok (.iconst 1, 1) := by decide +kernel
theorem dl_512 : decode code 512 = .ok (.iadd, 1) := by decide +kernel
theorem dl_513 : decode code 513 = .ok (.iaload, 1) := by decide +kernel
theorem dl_514 : decode code 514 = .ok (.aload_n 0, 1) := by decide +kernel
theorem dl_515 : decode code 515 = .ok (.iload_n 3, 1) := by decide +kernel
theorem dl_516 : decode code 516 = .ok (.iconst 2, 1) := by decide +kernel
theorem dl_517 : decode code 517 = .ok (.iadd, 1) := by decide +kernel
theorem dl_518 : decode code 518 = .ok (.iaload, 1) := by decide +kernel
theorem dl_519 : decode code 519 = .ok (.invokevirtual 55, 3) := by decide +kernel
theorem dl_522 : decode code 522 = .ok (.if_icmp .eq 1068, 3) := by decide +kernel
theorem dl_525 : decode code 525 = .ok (.iconst 0, 1) := by decide +kernel
theorem dl_526 : decode code 526 = .ok (.ireturn, 1) := by decide +kernel
theorem dl_527 : decode code 527 = .ok (.aload_n 1, 1) := by decide +kernel
theorem dl_528 : decode code 528 = .ok (.aload_n 0, 1) := by decide +kernel
theorem dl_529 : decode code 529 = .ok (.iload_n 3, 1) := by decide +kernel
theorem dl_530 : decode code 530 = .ok (.iconst 1, 1) := by decide +kernel
theorem dl_531 : decode code 531 = .ok (.iadd, 1) := by decide +kernel
theorem dl_532 : decode code 532 = .ok (.iaload, 1) := by decide +kernel
theorem dl_533 : decode code 533 = .ok (.aload_n 0, 1) := by decide +kernel
theorem dl_534 : decode code 534 = .ok (.iload_n 3, 1) := by decide +kernel
theorem dl_535 : decode code 535 = .ok (.iconst 2, 1) := by decide +kernel
theorem dl_536 : decode code 536 = .ok (.iadd, 1) := by decide +kernel
theorem dl_537 : decode code 537 = .ok (.iaload, 1) := by decide +kernel
theorem dl_538 : decode code 538 = .ok (.invokevirtual 56, 3) := by decide +kernel
theorem dl_541 : decode code 541 = .ok (.aload_n 2, 1) := by decide +kernel
theorem dl_542 : decode code 542 = .ok (.aload_n 0, 1) := by decide +kernel
theorem dl_543 : decode code 543 = .ok (.iload_n 3, 1) := by decide +kernel
theorem dl_544 : decode code 544 = .ok (.iconst 1, 1) := by decide +kernel
theorem dl_545 : decode code 545 = .ok (.iadd, 1) := by decide +kernel
theorem dl_546 : decode code 546 = .ok (.iaload, 1) := by decide +kernel
theorem dl_547 : decode code 547 = .ok (.aload_n 0, 1) := by decide +kernel
theorem dl_548 : decode code 548 = .ok (.iload_n 3, 1) := by decide +kernel
theorem dl_549 : decode code 549 = .ok (.iconst 2, 1) := by decide +kernel
theorem dl_550 : decode code 550 = .ok (.iadd, 1) := by decide +kernel
theorem dl_551 : decode code 551 = .ok (.iaload, 1) := by decide +kernel
theorem dl_552 : decode code 552 = .ok (.invokevirtual 59, 3) := by decide +kernel
theorem dl_555 : decode code 555 = .ok (.if_icmp .eq 1035, 3) := by decide +kernel
theorem dl_558 : decode code 558 = .ok (.iconst 0, 1) := by decide +kernel
theorem dl_559 : decode code 559 = .ok (.ireturn, 1) := by decide +kernel
theorem dl_560 : decode code 560 = .ok (.aload_n 1, 1) := by decide +kernel
theorem dl_561 : decode code 561 = .ok (.aload_n 0, 1) := by decide +kernel
theorem dl_562 : decode code 562 = .ok (.iload_n 3, 1) := by decide +kernel
theorem dl_563 : decode code 563 = .ok (.iconst 1, 1) := by decide +kernel
theorem dl_564 : decode code 564 = .ok (.iadd, 1) := by decide +kernel
theorem dl_565 : decode code 565 = .ok (.iaload, 1) := by decide +kernel
theorem dl_566 : decode code 566 = .ok (.invokevirtual 60, 3) := by decide +kernel
theorem dl_569 : decode code 569 = .ok (.aload_n 2, 1) := by decide +kernel
theorem dl_570 : decode code 570 = .ok (.aload_n 0, 1) := by decide +kernel
theorem dl_571 : decode code 571 = .ok (.iload_n 3, 1) := by decide +kernel
theorem dl_572 : decode code 572 = .ok (.iconst 1, 1) := by decide +kernel
theorem dl_573 : decode code 573 = .ok (.iadd, 1) := by decide +kernel
theorem dl_574 : decode code 574 = .ok (.iaload, 1) := by decide +kernel
theorem dl_575 : decode code 575 = .ok (.invokevirtual 63, 3) := by decide +kernel
theorem dl_578 : decode code 578 = .ok (.if_icmp .eq 1012, 3) := by decide +kernel
theorem dl_581 : decode code 581 = .ok (.iconst 0, 1) := by decide +kernel
theorem dl_582 : decode code 582 = .ok (.ireturn, 1) := by decide +kernel
theorem dl_583 : decode code 583 = .ok (.aload_n 1, 1) := by decide +kernel
theorem dl_584 : decode code 584 = .ok (.aload_n 0, 1) := by decide +kernel
theorem dl_585 : decode code 585 = .ok (.iload_n 3, 1) := by decide +kernel
theorem dl_586 : decode code 586 = .ok (.iconst 1, 1) := by decide +kernel
theorem dl_587 : decode code 587 = .ok (.iadd, 1) := by decide +kernel
theorem dl_588 : decode code 588 = .ok (.iaload, 1) := by decide +kernel
theorem dl_589 : decode code 589 = .ok (.invokevirtual 64, 3) := by decide +kernel
theorem dl_592 : decode code 592 = .ok (.aload_n 2, 1) := by decide +kernel
theorem dl_593 : decode code 593 = .ok (.aload_n 0, 1) := by decide +kernel
theorem dl_594 : decode code 594 = .ok (.iload_n 3, 1) := by decide +kernel
theorem dl_595 : decode code 595 = .ok (.iconst 1, 1) := by decide +kernel
theorem dl_596 : decode code 596 = .ok (.iadd, 1) := by decide +kernel
theorem dl_597 : decode code 597 = .ok (.iaload, 1) := by decide +kernel
theorem dl_598 : decode code 598 = .ok (.invokevirtual 67, 3) := by decide +kernel
theorem dl_601 : decode code 601 = .ok (.if_icmp .eq 989, 3) := by decide +kernel
theorem dl_604 : decode code 604 = .ok (.iconst 0, 1) := by decide +kernel
theorem dl_605 : decode code 605 = .ok (.ireturn, 1) := by decide +kernel
theorem dl_606 : decode code 606 = .ok (.aload_n 1, 1) := by decide +kernel
theorem dl_607 : decode code 607 = .ok (.aload_n 0, 1) := by decide +kernel
theorem dl_608 : decode code 608 = .ok (.iload_n 3, 1) := by decide +kernel
theorem dl_609 : decode code 609 = .ok (.iconst 1, 1) := by decide +kernel
theorem dl_610 : decode code 610 = .ok (.iadd, 1) := by decide +kernel
theorem dl_611 : decode code 611 = .ok (.iaload, 1) := by decide +kernel
theorem dl_612 : decode code 612 = .ok (.invokevirtual 68, 3) := by decide +kernel
theorem dl_615 : decode code 615 = .ok (.aload_n 2, 1) := by decide +kernel
theorem dl_616 : decode code 616 = .ok (.aload_n 0, 1) := by decide +kernel
theorem dl_617 : decode code 617 = .ok (.iload_n 3, 1) := by decide +kernel
theorem dl_618 : decode code 618 = .ok (.iconst 1, 1) := by decide +kernel
theorem dl_619 : decode code 619 = .ok (.iadd, 1) := by decide +kernel
theorem dl_620 : decode code 620 = .ok (.iaload, 1) := by decide +kernel
theorem dl_621 : decode code 621 = .ok (.invokevirtual 71, 3) := by decide +kernel
theorem dl_624 : decode code 624 = .ok (.if_icmp .eq 966, 3) := by decide +kernel
theorem dl_627 : decode code 627 = .ok (.iconst 0, 1) := by decide +kernel
theorem dl_628 : decode code 628 = .ok (.ireturn, 1) := by decide +kernel
theorem dl_629 : decode code 629 = .ok (.aload_n 1, 1) := by decide +kernel
theorem dl_630 : decode code 630 = .ok (.aload_n 0, 1) := by decide +kernel
theorem dl_631 : decode code 631 = .ok (.iload_n 3, 1) := by decide +kernel
theorem dl_632 : decode code 632 = .ok (.iconst 1, 1) := by decide +kernel
theorem dl_633 : decode code 633 = .ok (.iadd, 1) := by decide +kernel
theorem dl_634 : decode code 634 = .ok (.iaload, 1) := by decide +kernel
theorem dl_635 : decode code 635 = .ok (.aload_n 0, 1) := by decide +kernel
theorem dl_636 : decode code 636 = .ok (.iload_n 3, 1) := by decide +kernel
theorem dl_637 : decode code 637 = .ok (.iconst 2, 1) := by decide +kernel
theorem dl_638 : decode code 638 = .ok (.iadd, 1) := by decide +kernel
theorem dl_639 : decode code 639 = .ok (.iaload, 1) := by decide +kernel
theorem dl_640 : decode code 640 = .ok (.invokevirtual 72, 3) := by decide +kernel
theorem dl_643 : decode code 643 = .ok (.aload_n 2, 1) := by decide +kernel
theorem dl_644 : decode code 644 = .ok (.aload_n 0, 1) := by decide +kernel
theorem dl_645 : decode code 645 = .ok (.iload_n 3, 1) := by decide +kernel
theorem dl_646 : decode code 646 = .ok (.iconst 1, 1) := by decide +kernel
theorem dl_647 : decode code 647 = .ok (.iadd, 1) := by decide +kernel
theorem dl_648 : decode code 648 = .ok (.iaload, 1) := by decide +kernel
theorem dl_649 : decode code 649 = .ok (.aload_n 0, 1) := by decide +kernel
theorem dl_650 : decode code 650 = .ok (.iload_n 3, 1) := by decide +kernel
theorem dl_651 : decode code 651 = .ok (.iconst 2, 1) := by decide +kernel
theorem dl_652 : decode code 652 = .ok (.iadd, 1) := by decide +kernel
theorem dl_653 : decode code 653 = .ok (.iaload, 1) := by decide +kernel
theorem dl_654 : decode code 654 = .ok (.invokevirtual 75, 3) := by decide +kernel
theorem dl_657 : decode code 657 = .ok (.if_icmp .eq 933, 3) := by decide +kernel
theorem dl_660 : decode code 660 = .ok (.iconst 0, 1) := by decide +kernel
theorem dl_661 : decode code 661 = .ok (.ireturn, 1) := by decide +kernel
theorem dl_662 : decode code 662 = .ok (.aload_n 1, 1) := by decide +kernel
theorem dl_663 : decode code 663 = .ok (.invokevirtual 76, 3) := by decide +kernel
theorem dl_666 : decode code 666 = .ok (.aload_n 2, 1) := by decide +kernel
theorem dl_667 : decode code 667 = .ok (.invokevirtual 79, 3) := by decide +kernel
theorem dl_670 : decode code 670 = .ok (.if_icmp .eq 920, 3) := by decide +kernel
theorem dl_673 : decode code 673 = .ok (.iconst 0, 1) := by decide +kernel
theorem dl_674 : decode code 674 = .ok (.ireturn, 1) := by decide +kernel
theorem dl_675 : decode code 675 = .ok (.aload_n 1, 1) := by decide +kernel
theorem dl_676 : decode code 676 = .ok (.aload_n 0, 1) := by decide +kernel
theorem dl_677 : decode code 677 = .ok (.iload_n 3, 1) := by decide +kernel
theorem dl_678 : decode code 678 = .ok (.iconst 1, 1) := by decide +kernel
theorem dl_679 : decode code 679 = .ok (.iadd, 1) := by decide +kernel
theorem dl_680 : decode code 680 = .ok (.iaload, 1) := by decide +kernel
theorem dl_681 : decode code 681 = .ok (.aload_n 0, 1) := by decide +kernel
theorem dl_682 : decode code 682 = .ok (.iload_n 3, 1) := by decide +kernel
theorem dl_683 : decode code 683 = .ok (.iconst 2, 1) := by decide +kernel
theorem dl_684 : decode code 684 = .ok (.iadd, 1) := by decide +kernel
theorem dl_685 : decode code 685 = .ok (.iaload, 1) := by decide +kernel
theorem dl_686 : decode code 686 = .ok (.invokevirtual 80, 3) := by decide +kernel
theorem dl_689 : decode code 689 = .ok (.aload_n 2, 1) := by decide +kernel
theorem dl_690 : decode code 690 = .ok (.aload_n 0, 1) := by decide +kernel
theorem dl_691 : decode code 691 = .ok (.iload_n 3, 1) := by decide +kernel
theorem dl_692 : decode code 692 = .ok (.iconst 1, 1) := by decide +kernel
theorem dl_693 : decode code 693 = .ok (.iadd, 1) := by decide +kernel
theorem dl_694 : decode code 694 = .ok (.iaload, 1) := by decide +kernel
theorem dl_695 : decode code 695 = .ok (.aload_n 0, 1) := by decide +kernel
theorem dl_696 : decode code 696 = .ok (.iload_n 3, 1) := by decide +kernel
theorem dl_697 : decode code 697 = .ok (.iconst 2, 1) := by decide +kernel
theorem dl_698 : decode code 698 = .ok (.iadd, 1) := by decide +kernel
theorem dl_699 : decode code 699 = .ok (.iaload, 1) := by decide +kernel
theorem dl_700 : decode code 700 = .ok (.invokevirtual 83, 3) := by decide +kernel
theorem dl_703 : decode code 703 = .ok (.if_icmp .eq 887, 3) := by decide +kernel
theorem dl_706 : decode code 706 = .ok (.iconst 0, 1) := by decide +kernel
theorem dl_707 : decode code 707 = .ok (.ireturn, 1) := by decide +kernel
theorem dl_708 : decode code 708 = .ok (.aload_n 1, 1) := by decide +kernel
theorem dl_709 : decode code 709 = .ok (.aload_n 0, 1) := by decide +kernel
theorem dl_710 : decode code 710 = .ok (.iload_n 3, 1) := by decide +kernel
theorem dl_711 : decode code 711 = .ok (.iconst 1, 1) := by decide +kernel
theorem dl_712 : decode code 712 = .ok (.iadd, 1) := by decide +kernel
theorem dl_713 : decode code 713 = .ok (.iaload, 1) := by decide +kernel
theorem dl_714 : decode code 714 = .ok (.aload_n 0, 1) := by decide +kernel
theorem dl_715 : decode code 715 = .ok (.iload_n 3, 1) := by decide +kernel
theorem dl_716 : decode code 716 = .ok (.iconst 2, 1) := by decide +kernel
theorem dl_717 : decode code 717 = .ok (.iadd, 1) := by decide +kernel
theorem dl_718 : decode code 718 = .ok (.iaload, 1) := by decide +kernel
theorem dl_719 : decode code 719 = .ok (.invokevirtual 84, 3) := by decide +kernel
theorem dl_722 : decode code 722 = .ok (.aload_n 2, 1) := by decide +kernel
theorem dl_723 : decode code 723 = .ok (.aload_n 0, 1) := by decide +kernel
theorem dl_724 : decode code 724 = .ok (.iload_n 3, 1) := by decide +kernel
theorem dl_725 : decode code 725 = .ok (.iconst 1, 1) := by decide +kernel
theorem dl_726 : decode code 726 = .ok (.iadd, 1) := by decide +kernel
theorem dl_727 : decode code 727 = .ok (.iaload, 1) := by decide +kernel
theorem dl_728 : decode code 728 = .ok (.aload_n 0, 1) := by decide +kernel
theorem dl_729 : decode code 729 = .ok (.iload_n 3, 1) := by decide +kernel
theorem dl_730 : decode code 730 = .ok (.iconst 2, 1) := by decide +kernel
theorem dl_731 : decode code 731 = .ok (.iadd, 1) := by decide +kernel
theorem dl_732 : decode code 732 = .ok (.iaload, 1) := by decide +kernel
theorem dl_733 : decode code 733 = .ok (.invokevirtual 87, 3) := by decide +kernel
theorem dl_736 : decode code 736 = .ok (.if_icmp .eq 854, 3) := by decide +kernel
theorem dl_739 : decode code 739 = .ok (.iconst 0, 1) := by decide +kernel
theorem dl_740 : decode code 740 = .ok (.ireturn, 1) := by decide +kernel
theorem dl_741 : decode code 741 = .ok (.aload_n 1, 1) := by decide +kernel
theorem dl_742 : decode code 742 = .ok (.aload_n 0, 1) := by decide +kernel
theorem dl_743 : decode code 743 = .ok (.iload_n 3, 1) := by decide +kernel
theorem dl_744 : decode code 744 = .ok (.iconst 1, 1) := by decide +kernel
theorem dl_745 : decode code 745 = .ok (.iadd, 1) := by decide +kernel
theorem dl_746 : decode code 746 = .ok (.iaload, 1) := by decide +kernel
theorem dl_747 : decode code 747 = .ok (.invokevirtual 88, 3) := by decide +kernel
theorem dl_750 : decode code 750 = .ok (.aload_n 2, 1) := by decide +kernel
theorem dl_751 : decode code 751 = .ok (.aload_n 0, 1) := by decide +kernel
theorem dl_752 : decode code 752 = .ok (.iload_n 3, 1) := by decide +kernel
theorem dl_753 : decode code 753 = .ok (.iconst 1, 1) := by decide +kernel
theorem dl_754 : decode code 754 = .ok (.iadd, 1) := by decide +kernel
theorem dl_755 : decode code 755 = .ok (.iaload, 1) := by decide +kernel
theorem dl_756 : decode code 756 = .ok (.invokevirtual 91, 3) := by decide +kernel
theorem dl_759 : decode code 759 = .ok (.if_icmp .eq 831, 3) := by decide +kernel
theorem dl_762 : decode code 762 = .ok (.iconst 0, 1) := by decide +kernel
theorem dl_763 : decode code 763 = .ok (.ireturn, 1) := by decide +kernel
theorem dl_764 : decode code 764 = .ok (.aload_n 1, 1) := by decide +kernel
theorem dl_765 : decode code 765 = .ok (.aload_n 0, 1) := by decide +kernel
theorem dl_766 : decode code 766 = .ok (.iload_n 3, 1) := by decide +kernel
theorem dl_767 : decode code 767 = .ok (.iconst 1, 1) := by decide +kernel
theorem dl_768 : decode code 768 = .ok (.iadd, 1) := by decide +kernel
theorem dl_769 : decode code 769 = .ok (.iaload, 1) := by decide +kernel
theorem dl_770 : decode code 770 = .ok (.aload_n 0, 1) := by decide +kernel
theorem dl_771 : decode code 771 = .ok (.iload_n 3, 1) := by decide +kernel
theorem dl_772 : decode code 772 = .ok (.iconst 2, 1) := by decide +kernel
theorem dl_773 : decode code 773 = .ok (.iadd, 1) := by decide +kernel
theorem dl_774 : decode code 774 = .ok (.iaload, 1) := by decide +kernel
theorem dl_775 : decode code 775 = .ok (.invokevirtual 92, 3) := by decide +kernel
theorem dl_778 : decode code 778 = .ok (.aload_n 2, 1) := by decide +kernel
theorem dl_779 : decode code 779 = .ok (.aload_n 0, 1) := by decide +kernel
theorem dl_780 : decode code 780 = .ok (.iload_n 3, 1) := by decide +kernel
theorem dl_781 : decode code 781 = .ok (.iconst 1, 1) := by decide +kernel
theorem dl_782 : decode code 782 = .ok (.iadd, 1) := by decide +kernel
theorem dl_783 : decode code 783 = .ok (.iaload, 1) := by decide +kernel
theorem dl_784 : decode code 784 = .ok (.aload_n 0, 1) := by decide +kernel
theorem dl_785 : decode code 785 = .ok (.iload_n 3, 1) := by decide +kernel
theorem dl_786 : decode code 786 = .ok (.iconst 2, 1) := by decide +kernel
theorem dl_787 : decode code 787 = .ok (.iadd, 1) := by decide +kernel
theorem dl_788 : decode code 788 = .ok (.iaload, 1) := by decide +kernel
theorem dl_789 : decode code 789 = .ok (.invokevirtual 95, 3) := by decide +kernel
theorem dl_792 : decode code 792 = .ok (.if_icmp .eq 798, 3) := by decide +kernel
theorem dl_795 : decode code 795 = .ok (.iconst 0, 1) := by decide +kernel
theorem dl_796 : decode code 796 = .ok (.ireturn, 1) := by decide +kernel
theorem dl_797 : decode code 797 = .ok (.aload_n 1, 1) := by decide +kernel
theorem dl_798 : decode code 798 = .ok (.aload_n 0, 1) := by decide +kernel
theorem dl_799 : decode code 799 = .ok (.iload_n 3, 1) := by decide +kernel
theorem dl_800 : decode code 800 = .ok (.iconst 1, 1) := by decide +kernel
theorem dl_801 : decode code 801 = .ok (.iadd, 1) := by decide +kernel
theorem dl_802 : decode code 802 = .ok (.iaload, 1) := by decide +kernel
theorem dl_803 : decode code 803 = .ok (.aload_n 0, 1) := by decide +kernel
theorem dl_804 : decode code 804 = .ok (.iload_n 3, 1) := by decide +kernel
theorem dl_805 : decode code 805 = .ok (.iconst 2, 1) := by decide +kernel
theorem dl_806 : decode code 806 = .ok (.iadd, 1) := by decide +kernel
theorem dl_807 : decode code 807 = .ok (.iaload, 1) := by decide +kernel
theorem dl_808 : decode code 808 = .ok (.invokevirtual 96, 3) := by decide +kernel
theorem dl_811 : decode code 811 = .ok (.aload_n 2, 1) := by decide +kernel
theorem dl_812 : decode code 812 = .ok (.aload_n 0, 1) := by decide +kernel
theorem dl_813 : decode code 813 = .ok (.iload_n 3, 1) := by decide +kernel
theorem dl_814 : decode code 814 = .ok (.iconst 1, 1) := by decide +kernel
theorem dl_815 : decode code 815 = .ok (.iadd, 1) := by decide +kernel
theorem dl_816 : decode code 816 = .ok (.iaload, 1) := by decide +kernel
theorem dl_817 : decode code 817 = .ok (.aload_n 0, 1) := by decide +kernel
theorem dl_818 : decode code 818 = .ok (.iload_n 3, 1) := by decide +kernel
theorem dl_819 : decode code 819 = .ok (.iconst 2, 1) := by decide +kernel
theorem dl_820 : decode code 820 = .ok (.iadd, 1) := by decide +kernel
theorem dl_821 : decode code 821 = .ok (.iaload, 1) := by decide +kernel
theorem dl_822 : decode code 822 = .ok (.invokevirtual 99, 3) := by decide +kernel
theorem dl_825 : decode code 825 = .ok (.if_icmp .eq 765, 3) := by decide +kernel
theorem dl_828 : decode code 828 = .ok (.iconst 0, 1) := by decide +kernel
theorem dl_829 : decode code 829 = .ok (.ireturn, 1) := by decide +kernel
theorem dl_830 : decode code 830 = .ok (.aload_n 1, 1) := by decide +kernel
theorem dl_831 : decode code 831 = .ok (.aload_n 0, 1) := by decide +kernel
theorem dl_832 : decode code 832 = .ok (.iload_n 3, 1) := by decide +kernel
theorem dl_833 : decode code 833 = .ok (.iconst 1, 1) := by decide +kernel
theorem dl_834 : decode code 834 = .ok (.iadd, 1) := by decide +kernel
theorem dl_835 : decode code 835 = .ok (.iaload, 1) := by decide +kernel
theorem dl_836 : decode code 836 = .ok (.invokevirtual 100, 3) := by decide +kernel
theorem dl_839 : decode code 839 = .ok (.aload_n 2, 1) := by decide +kernel
theorem dl_840 : decode code 840 = .ok (.aload_n 0, 1) := by decide +kernel
theorem dl_841 : decode code 841 = .ok (.iload_n 3, 1) := by decide +kernel
theorem dl_842 : decode code 842 = .ok (.iconst 1, 1) := by decide +kernel
theorem dl_843 : decode code 843 = .ok (.iadd, 1) := by decide +kernel
theorem dl_844 : decode code 844 = .ok (.iaload, 1) := by decide +kernel
theorem dl_845 : decode code 845 = .ok (.invokevirtual 103, 3) := by decide +kernel
theorem dl_848 : decode code 848 = .ok (.if_icmp .eq 742, 3) := by decide +kernel
theorem dl_851 : decode code 851 = .ok (.iconst 0, 1) := by decide +kernel
theorem dl_852 : decode code 852 = .ok (.ireturn, 1) := by decide +kernel
theorem dl_853 : decode code 853 = .ok (.aload_n 1, 1) := by decide +kernel
theorem dl_854 : decode code 854 = .ok (.aload_n 0, 1) := by decide +kernel
theorem dl_855 : decode code 855 = .ok (.iload_n 3, 1) := by decide +kernel
theorem dl_856 : decode code 856 = .ok (.iconst 1, 1) := by decide +kernel
theorem dl_857 : decode code 857 = .ok (.iadd, 1) := by decide +kernel
theorem dl_858 : decode code 858 = .ok (.iaload, 1) := by decide +kernel
theorem dl_859 : decode code 859 = .ok (.aload_n 0, 1) := by decide +kernel
theorem dl_860 : decode code 860 = .ok (.iload_n 3, 1) := by decide +kernel
theorem dl_861 : decode code 861 = .ok (.iconst 2, 1) := by decide +kernel
theorem dl_862 : decode code 862 = .ok (.iadd, 1) := by decide +kernel
theorem dl_863 : decode code 863 = .ok (.iaload, 1) := by decide +kernel
theorem dl_864 : decode code 864 = .ok (.invokevirtual 104, 3) := by decide +kernel
theorem dl_867 : decode code 867 = .ok (.aload_n 2, 1) := by decide +kernel
theorem dl_868 : decode code 868 = .ok (.aload_n 0, 1) := by decide +kernel
theorem dl_869 : decode code 869 = .ok (.iload_n 3, 1) := by decide +kernel
theorem dl_870 : decode code 870 = .ok (.iconst 1, 1) := by decide +kernel
theorem dl_871 : decode code 871 = .ok (.iadd, 1) := by decide +kernel
theorem dl_872 : decode code 872 = .ok (.iaload, 1) := by decide +kernel
theorem dl_873 : decode code 873 = .ok (.aload_n 0, 1) := by decide +kernel
theorem dl_874 : decode code 874 = .ok (.iload_n 3, 1) := by decide +kernel
theorem dl_875 : decode code 875 = .ok (.iconst 2, 1) := by decide +kernel
theorem dl_876 : decode code 876 = .ok (.iadd, 1) := by decide +kernel
theorem dl_877 : decode code 877 = .ok (.iaload, 1) := by decide +kernel
theorem dl_878 : decode code 878 = .ok (.invokevirtual 107, 3) := by decide +kernel
theorem dl_881 : decode code 881 = .ok (.if_icmp .eq 709, 3) := by decide +kernel
theorem dl_884 : decode code 884 = .ok (.iconst 0, 1) := by decide +kernel
theorem dl_885 : decode code 885 = .ok (.ireturn, 1) := by decide +kernel
theorem dl_886 : decode code 886 = .ok (.aload_n 1, 1) := by decide +kernel
theorem dl_887 : decode code 887 = .ok (.aload_n 0, 1) := by decide +kernel
theorem dl_888 : decode code 888 = .ok (.iload_n 3, 1) := by decide +kernel
theorem dl_889 : decode code 889 = .ok (.iconst 1, 1) := by decide +kernel
theorem dl_890 : decode code 890 = .ok (.iadd, 1) := by decide +kernel
theorem dl_891 : decode code 891 = .ok (.iaload, 1) := by decide +kernel
theorem dl_892 : decode code 892 = .ok (.aload_n 0, 1) := by decide +kernel
theorem dl_893 : decode code 893 = .ok (.iload_n 3, 1) := by decide +kernel
theorem dl_894 : decode code 894 = .ok (.iconst 2, 1) := by decide +kernel
theorem dl_895 : decode code 895 = .ok (.iadd, 1) := by decide +kernel
theorem dl_896 : decode code 896 = .ok (.iaload, 1) := by decide +kernel
theorem dl_897 : decode code 897 = .ok (.aload_n 0, 1) := by decide +kernel
theorem dl_898 : decode code 898 = .ok (.iload_n 3, 1) := by decide +kernel
theorem dl_899 : decode code 899 = .ok (.iconst 3, 1) := by decide +kernel
theorem dl_900 : decode code 900 = .ok (.iadd, 1) := by decide +kernel
theorem dl_901 : decode code 901 = .ok (.iaload, 1) := by decide +kernel
theorem dl_902 : decode code 902 = .ok (.invokevirtual 108, 3) := by decide +kernel
theorem dl_905 : decode code 905 = .ok (.aload_n 2, 1) := by decide +kernel
theorem dl_906 : decode code 906 = .ok (.aload_n 0, 1) := by decide +kernel
theorem dl_907 : decode code 907 = .ok (.iload_n 3, 1) := by decide +kernel
theorem dl_908 : decode code 908 = .ok (.iconst 1, 1) := by decide +kernel
theorem dl_909 : decode code 909 = .ok (.iadd, 1) := by decide +kernel
theorem dl_910 : decode code 910 = .ok (.iaload, 1) := by decide +kernel
theorem dl_911 : decode code 911 = .ok (.aload_n 0, 1) := by decide +kernel
theorem dl_912 : decode code 912 = .ok (.iload_n 3, 1) := by decide +kernel
theorem dl_913 : decode code 913 = .ok (.iconst 2, 1) := by decide +kernel
theorem dl_914 : decode code 914 = .ok (.iadd, 1) := by decide +kernel
theorem dl_915 : decode code 915 = .ok (.iaload, 1) := by decide +kernel
theorem dl_916 : decode code 916 = .ok (.aload_n 0, 1) := by decide +kernel
theorem dl_917 : decode code 917 = .ok (.iload_n 3, 1) := by decide +kernel
theorem dl_918 : decode code 918 = .ok (.iconst 3, 1) := by decide +kernel
theorem dl_919 : decode code 919 = .ok (.iadd, 1) := by decide +kernel
theorem dl_920 : decode code 920 = .ok (.iaload, 1) := by decide +kernel
theorem dl_921 : decode code 921 = .ok (.invokevirtual 112, 3) := by decide +kernel
theorem dl_924 : decode code 924 = .ok (.if_icmp .eq 666, 3) := by decide +kernel
theorem dl_927 : decode code 927 = .ok (.iconst 0, 1) := by decide +kernel
theorem dl_928 : decode code 928 = .ok (.ireturn, 1) := by decide +kernel
theorem dl_929 : decode code 929 = .ok (.aload_n 1, 1) := by decide +kernel
theorem dl_930 : decode code 930 = .ok (.aload_n 0, 1) := by decide +kernel
theorem dl_931 : decode code 931 = .ok (.iload_n 3, 1) := by decide +kernel
theorem dl_932 : decode code 932 = .ok (.iconst 1, 1) := by decide +kernel
theorem dl_933 : decode code 933 = .ok (.iadd, 1) := by decide +kernel
theorem dl_934 : decode code 934 = .ok (.iaload, 1) := by decide +kernel
theorem dl_935 : decode code 935 = .ok (.aload_n 0, 1) := by decide +kernel
theorem dl_936 : decode code 936 = .ok (.iload_n 3, 1) := by decide +kernel
theorem dl_937 : decode code 937 = .ok (.iconst 2, 1) := by decide +kernel
theorem dl_938 : decode code 938 = .ok (.iadd, 1) := by decide +kernel
theorem dl_939 : decode code 939 = .ok (.iaload, 1) := by decide +kernel
theorem dl_940 : decode code 940 = .ok (.ifCond .eq 7, 3) := by decide +kernel
theorem dl_943 : decode code 943 = .ok (.iconst 1, 1) := by decide +kernel
theorem dl_944 : decode code 944 = .ok (.goto 4, 3) := by decide +kernel
theorem dl_947 : decode code 947 = .ok (.iconst 0, 1) := by decide +kernel
theorem dl_948 : decode code 948 = .ok (.invokevirtual 113, 3) := by decide +kernel
theorem dl_951 : decode code 951 = .ok (.aload_n 2, 1) := by decide +kernel
theorem dl_952 : decode code 952 = .ok (.aload_n 0, 1) := by decide +kernel
theorem dl_953 : decode code 953 = .ok (.iload_n 3, 1) := by decide +kernel
theorem dl_954 : decode code 954 = .ok (.iconst 1, 1) := by decide +kernel
theorem dl_955 : decode code 955 = .ok (.iadd, 1) := by decide +kernel
theorem dl_956 : decode code 956 = .ok (.iaload, 1) := by decide +kernel
theorem dl_957 : decode code 957 = .ok (.aload_n 0, 1) := by decide +kernel
theorem dl_958 : decode code 958 = .ok (.iload_n 3, 1) := by decide +kernel
theorem dl_959 : decode code 959 = .ok (.iconst 2, 1) := by decide +kernel
theorem dl_960 : decode code 960 = .ok (.iadd, 1) := by decide +kernel
theorem dl_961 : decode code 961 = .ok (.iaload, 1) := by decide +kernel
theorem dl_962 : decode code 962 = .ok (.ifCond .eq 7, 3) := by decide +kernel
theorem dl_965 : decode code 965 = .ok (.iconst 1, 1) := by decide +kernel
theorem dl_966 : decode code 966 = .ok (.goto 4, 3) := by decide +kernel
theorem dl_969 : decode code 969 = .ok (.iconst 0, 1) := by decide +kernel
theorem dl_970 : decode code 970 = .ok (.invokevirtual 117, 3) := by decide +kernel
theorem dl_973 : decode code 973 = .ok (.if_icmp .eq 617, 3) := by decide +kernel
theorem dl_976 : decode code 976 = .ok (.iconst 0, 1) := by decide +kernel
theorem dl_977 : decode code 977 = .ok (.ireturn, 1) := by decide +kernel
theorem dl_978 : decode code 978 = .ok (.aload_n 1, 1) := by decide +kernel
theorem dl_979 : decode code 979 = .ok (.aload_n 0, 1) := by decide +kernel
theorem dl_980 : decode code 980 = .ok (.iload_n 3, 1) := by decide +kernel
theorem dl_981 : decode code 981 = .ok (.iconst 1, 1) := by decide +kernel
theorem dl_982 : decode code 982 = .ok (.iadd, 1) := by decide +kernel
theorem dl_983 : decode code 983 = .ok (.iaload, 1) := by decide +kernel
theorem dl_984 : decode code 984 = .ok (.aload_n 0, 1) := by decide +kernel
theorem dl_985 : decode code 985 = .ok (.iload_n 3, 1) := by decide +kernel
theorem dl_986 : decode code 986 = .ok (.iconst 2, 1) := by decide +kernel
theorem dl_987 : decode code 987 = .ok (.iadd, 1) := by decide +kernel
theorem dl_988 : decode code 988 = .ok (.iaload, 1) := by decide +kernel
theorem dl_989 : decode code 989 = .ok (.ifCond .eq 7, 3) := by decide +kernel
theorem dl_992 : decode code 992 = .ok (.iconst 1, 1) := by decide +kernel
theorem dl_993 : decode code 993 = .ok (.goto 4, 3) := by decide +kernel
theorem dl_996 : decode code 996 = .ok (.iconst 0, 1) := by decide +kernel
theorem dl_997 : decode code 997 = .ok (.invokevirtual 118, 3) := by decide +kernel
theorem dl_1000 : decode code 1000 = .ok (.aload_n 2, 1) := by decide +kernel
theorem dl_1001 : decode code 1001 = .ok (.aload_n 0, 1) := by decide +kernel
theorem dl_1002 : decode code 1002 = .ok (.iload_n 3, 1) := by decide +kernel
theorem dl_1003 : decode code 1003 = .ok (.iconst 1, 1) := by decide +kernel
theorem dl_1004 : decode code 1004 = .ok (.iadd, 1) := by decide +kernel
theorem dl_1005 : decode code 1005 = .ok (.iaload, 1) := by decide +kernel
theorem dl_1006 : decode code 1006 = .ok (.aload_n 0, 1) := by decide +kernel
theorem dl_1007 : decode code 1007 = .ok (.iload_n 3, 1) := by decide +kernel
theorem dl_1008 : decode code 1008 = .ok (.iconst 2, 1) := by decide +kernel
theorem dl_1009 : decode code 1009 = .ok (.iadd, 1) := by decide +kernel
theorem dl_1010 : decode code 1010 = .ok (.iaload, 1) := by decide +kernel
theorem dl_1011 : decode code 1011 = .ok (.ifCond .eq 7, 3) := by decide +kernel
theorem dl_1014 : decode code 1014 = .ok (.iconst 1, 1) := by decide +kernel
theorem dl_1015 : decode code 1015 = .ok (.goto 4, 3) := by decide +kernel
theorem dl_1018 : decode code 1018 = .ok (.iconst 0, 1) := by decide +kernel
theorem dl_1019 : decode code 1019 = .ok (.invokevirtual 121, 3) := by decide +kernel
theorem dl_1022 : decode code 1022 = .ok (.if_icmp .eq 568, 3) := by decide +kernel
theorem dl_1025 : decode code 1025 = .ok (.iconst 0, 1) := by decide +kernel
theorem dl_1026 : decode code 1026 = .ok (.ireturn, 1) := by decide +kernel
theorem dl_1027 : decode code 1027 = .ok (.aload_n 1, 1) := by decide +kernel
theorem dl_1028 : decode code 1028 = .ok (.aload_n 0, 1) := by decide +kernel
theorem dl_1029 : decode code 1029 = .ok (.iload_n 3, 1) := by decide +kernel
theorem dl_1030 : decode code 1030 = .ok (.iconst 1, 1) := by decide +kernel
theorem dl_1031 : decode code 1031 = .ok (.iadd, 1) := by decide +kernel
theorem dl_1032 : decode code 1032 = .ok (.iaload, 1) := by decide +kernel
theorem dl_1033 : decode code 1033 = .ok (.aload_n 0, 1) := by decide +kernel
theorem dl_1034 : decode code 1034 = .ok (.iload_n 3, 1) := by decide +kernel
theorem dl_1035 : decode code 1035 = .ok (.iconst 2, 1) := by decide +kernel
theorem dl_1036 : decode code 1036 = .ok (.iadd, 1) := by decide +kernel
theorem dl_1037 : decode code 1037 = .ok (.iaload, 1) := by decide +kernel
theorem dl_1038 : decode code 1038 = .ok (.aload_n 0, 1) := by decide +kernel
theorem dl_1039 : decode code 1039 = .ok (.iload_n 3, 1) := by decide +kernel
theorem dl_1040 : decode code 1040 = .ok (.iconst 3, 1) := by decide +kernel
theorem dl_1041 : decode code 1041 = .ok (.iadd, 1) := by decide +kernel
theorem dl_1042 : decode code 1042 = .ok (.iaload, 1) := by decide +kernel
theorem dl_1043 : decode code 1043 = .ok (.ifCond .eq 7, 3) := by decide +kernel
theorem dl_1046 : decode code 1046 = .ok (.iconst 1, 1) := by decide +kernel
theorem dl_1047 : decode code 1047 = .ok (.goto 4, 3) := by decide +kernel
theorem dl_1050 : decode code 1050 = .ok (.iconst 0, 1) := by decide +kernel
theorem dl_1051 : decode code 1051 = .ok (.invokevirtual 122, 3) := by decide +kernel
theorem dl_1054 : decode code 1054 = .ok (.aload_n 2, 1) := by decide +kernel
theorem dl_1055 : decode code 1055 = .ok (.aload_n 0, 1) := by decide +kernel
theorem dl_1056 : decode code 1056 = .ok (.iload_n 3, 1) := by decide +kernel
theorem dl_1057 : decode code 1057 = .ok (.iconst 1, 1) := by decide +kernel
theorem dl_1058 : decode code 1058 = .ok (.iadd, 1) := by decide +kernel
theorem dl_1059 : decode code 1059 = .ok (.iaload, 1) := by decide +kernel
theorem dl_1060 : decode code 1060 = .ok (.aload_n 0, 1) := by decide +kernel
theorem dl_1061 : decode code 1061 = .ok (.iload_n 3, 1) := by decide +kernel
theorem dl_1062 : decode code 1062 = .ok (.iconst 2, 1) := by decide +kernel
theorem dl_1063 : decode code 1063 = .ok (.iadd, 1) := by decide +kernel
theorem dl_1064 : decode code 1064 = .ok (.iaload, 1) := by decide +kernel
theorem dl_1065 : decode code 1065 = .ok (.aload_n 0, 1) := by decide +kernel
theorem dl_1066 : decode code 1066 = .ok (.iload_n 3, 1) := by decide +kernel
theorem dl_1067 : decode code 1067 = .ok (.iconst 3, 1) := by decide +kernel
theorem dl_1068 : decode code 1068 = .ok (.iadd, 1) := by decide +kernel
theorem dl_1069 : decode code 1069 = .ok (.iaload, 1) := by decide +kernel
theorem dl_1070 : decode code 1070 = .ok (.ifCond .eq 7, 3) := by decide +kernel
theorem dl_1073 : decode code 1073 = .ok (.iconst 1, 1) := by decide +kernel
theorem dl_1074 : decode code 1074 = .ok (.goto 4, 3) := by decide +kernel
theorem dl_1077 : decode code 1077 = .ok (.iconst 0, 1) := by decide +kernel
theorem dl_1078 : decode code 1078 = .ok (.invokevirtual 126, 3) := by decide +kernel
theorem dl_1081 : decode code 1081 = .ok (.lcmp, 1) := by decide +kernel
theorem dl_1082 : decode code 1082 = .ok (.ifCond .eq 508, 3) := by decide +kernel
theorem dl_1085 : decode code 1085 = .ok (.iconst 0, 1) := by decide +kernel
theorem dl_1086 : decode code 1086 = .ok (.ireturn, 1) := by decide +kernel
theorem dl_1087 : decode code 1087 = .ok (.aload_n 1, 1) := by decide +kernel
theorem dl_1088 : decode code 1088 = .ok (.aload_n 0, 1) := by decide +kernel
theorem dl_1089 : decode code 1089 = .ok (.iload_n 3, 1) := by decide +kernel
theorem dl_1090 : decode code 1090 = .ok (.iconst 1, 1) := by decide +kernel
theorem dl_1091 : decode code 1091 = .ok (.iadd, 1) := by decide +kernel
theorem dl_1092 : decode code 1092 = .ok (.iaload, 1) := by decide +kernel
theorem dl_1093 : decode code 1093 = .ok (.aload_n 0, 1) := by decide +kernel
theorem dl_1094 : decode code 1094 = .ok (.iload_n 3, 1) := by decide +kernel
theorem dl_1095 : decode code 1095 = .ok (.iconst 2, 1) := by decide +kernel
theorem dl_1096 : decode code 1096 = .ok (.iadd, 1) := by decide +kernel
theorem dl_1097 : decode code 1097 = .ok (.iaload, 1) := by decide +kernel
theorem dl_1098 : decode code 1098 = .ok (.aload_n 0, 1) := by decide +kernel
theorem dl_1099 : decode code 1099 = .ok (.iload_n 3, 1) := by decide +kernel
theorem dl_1100 : decode code 1100 = .ok (.iconst 3, 1) := by decide +kernel
theorem dl_1101 : decode code 1101 = .ok (.iadd, 1) := by decide +kernel
theorem dl_1102 : decode code 1102 = .ok (.iaload, 1) := by decide +kernel
theorem dl_1103 : decode code 1103 = .ok (.aload_n 0, 1) := by decide +kernel
theorem dl_1104 : decode code 1104 = .ok (.iload_n 3, 1) := by decide +kernel
theorem dl_1105 : decode code 1105 = .ok (.iconst 4, 1) := by decide +kernel
theorem dl_1106 : decode code 1106 = .ok (.iadd, 1) := by decide +kernel
theorem dl_1107 : decode code 1107 = .ok (.iaload, 1) := by decide +kernel
theorem dl_1108 : decode code 1108 = .ok (.invokevirtual 127, 3) := by decide +kernel
theorem dl_1111 : decode code 1111 = .ok (.aload_n 2, 1) := by decide +kernel
theorem dl_1112 : decode code 1112 = .ok (.aload_n 0, 1) := by decide +kernel
theorem dl_1113 : decode code 1113 = .ok (.iload_n 3, 1) := by decide +kernel
theorem dl_1114 : decode code 1114 = .ok (.iconst 1, 1) := by decide +kernel
theorem dl_1115 : decode code 1115 = .ok (.iadd, 1) := by decide +kernel
theorem dl_1116 : decode code 1116 = .ok (.iaload, 1) := by decide +kernel
theorem dl_1117 : decode code 1117 = .ok (.aload_n 0, 1) := by decide +kernel
theorem dl_1118 : decode code 1118 = .ok (.iload_n 3, 1) := by decide +kernel
theorem dl_1119 : decode code 1119 = .ok (.iconst 2, 1) := by decide +kernel
theorem dl_1120 : decode code 1120 = .ok (.iadd, 1) := by decide +kernel
theorem dl_1121 : decode code 1121 = .ok (.iaload, 1) := by decide +kernel
theorem dl_1122 : decode code 1122 = .ok (.aload_n 0, 1) := by decide +kernel
theorem dl_1123 : decode code 1123 = .ok (.iload_n 3, 1) := by decide +kernel
theorem dl_1124 : decode code 1124 = .ok (.iconst 3, 1) := by decide +kernel
theorem dl_1125 : decode code 1125 = .ok (.iadd, 1) := by decide +kernel
theorem dl_1126 : decode code 1126 = .ok (.iaload, 1) := by decide +kernel
theorem dl_1127 : decode code 1127 = .ok (.aload_n 0, 1) := by decide +kernel
theorem dl_1128 : decode code 1128 = .ok (.iload_n 3, 1) := by decide +kernel
theorem dl_1129 : decode code 1129 = .ok (.iconst 4, 1) := by decide +kernel
theorem dl_1130 : decode code 1130 = .ok (.iadd, 1) := by decide +kernel
theorem dl_1131 : decode code 1131 = .ok (.iaload, 1) := by decide +kernel
theorem dl_1132 : decode code 1132 = .ok (.invokevirtual 131, 3) := by decide +kernel
theorem dl_1135 : decode code 1135 = .ok (.if_icmp .eq 455, 3) := by decide +kernel
theorem dl_1138 : decode code 1138 = .ok (.iconst 0, 1) := by decide +kernel
theorem dl_1139 : decode code 1139 = .ok (.ireturn, 1) := by decide +kernel
theorem dl_1140 : decode code 1140 = .ok (.aload_n 1, 1) := by decide +kernel
theorem dl_1141 : decode code 1141 = .ok (.aload_n 0, 1) := by decide +kernel
theorem dl_1142 : decode code 1142 = .ok (.iload_n 3, 1) := by decide +kernel
theorem dl_1143 : decode code 1143 = .ok (.iconst 1, 1) := by decide +kernel
theorem dl_1144 : decode code 1144 = .ok (.iadd, 1) := by decide +kernel
theorem dl_1145 : decode code 1145 = .ok (.iaload, 1) := by decide +kernel
theorem dl_1146 : decode code 1146 = .ok (.invokevirtual 132, 3) := by decide +kernel
theorem dl_1149 : decode code 1149 = .ok (.aload_n 2, 1) := by decide +kernel
theorem dl_1150 : decode code 1150 = .ok (.aload_n 0, 1) := by decide +kernel
theorem dl_1151 : decode code 1151 = .ok (.iload_n 3, 1) := by decide +kernel
theorem dl_1152 : decode code 1152 = .ok (.iconst 1, 1) := by decide +kernel
theorem dl_1153 : decode code 1153 = .ok (.iadd, 1) := by decide +kernel
theorem dl_1154 : decode code 1154 = .ok (.iaload, 1) := by decide +kernel
theorem dl_1155 : decode code 1155 = .ok (.invokevirtual 135, 3) := by decide +kernel
theorem dl_1158 : decode code 1158 = .ok (.if_icmp .eq 432, 3) := by decide +kernel
theorem dl_1161 : decode code 1161 = .ok (.iconst 0, 1) := by decide +kernel
theorem dl_1162 : decode code 1162 = .ok (.ireturn, 1) := by decide +kernel
theorem dl_1163 : decode code 1163 = .ok (.aload_n 1, 1) := by decide +kernel
theorem dl_1164 : decode code 1164 = .ok (.aload_n 0, 1) := by decide +kernel
theorem dl_1165 : decode code 1165 = .ok (.iload_n 3, 1) := by decide +kernel
theorem dl_1166 : decode code 1166 = .ok (.iconst 1, 1) := by decide +kernel
theorem dl_1167 : decode code 1167 = .ok (.iadd, 1) := by decide +kernel
theorem dl_1168 : decode code 1168 = .ok (.iaload, 1) := by decide +kernel
theorem dl_1169 : decode code 1169 = .ok (.aload_n 0, 1) := by decide +kernel
theorem dl_1170 : decode code 1170 = .ok (.iload_n 3, 1) := by decide +kernel
theorem dl_1171 : decode code 1171 = .ok (.iconst 2, 1) := by decide +kernel
theorem dl_1172 : decode code 1172 = .ok (.iadd, 1) := by decide +kernel
theorem dl_1173 : decode code 1173 = .ok (.iaload, 1) := by decide +kernel
theorem dl_1174 : decode code 1174 = .ok (.invokevirtual 136, 3) := by decide +kernel
theorem dl_1177 : decode code 1177 = .ok (.aload_n 2, 1) := by decide +kernel
theorem dl_1178 : decode code 1178 = .ok (.aload_n 0, 1) := by decide +kernel
theorem dl_1179 : decode code 1179 = .ok (.iload_n 3, 1) := by decide +kernel
theorem dl_1180 : decode code 1180 = .ok (.iconst 1, 1) := by decide +kernel
theorem dl_1181 : decode code 1181 = .ok (.iadd, 1) := by decide +kernel
theorem dl_1182 : decode code 1182 = .ok (.iaload, 1) := by decide +kernel
theorem dl_1183 : decode code 1183 = .ok (.aload_n 0, 1) := by decide +kernel
theorem dl_1184 : decode code 1184 = .ok (.iload_n 3, 1) := by decide +kernel
theorem dl_1185 : decode code 1185 = .ok (.iconst 2, 1) := by decide +kernel
theorem dl_1186 : decode code 1186 = .ok (.iadd, 1) := by decide +kernel
theorem dl_1187 : decode code 1187 = .ok (.iaload, 1) := by decide +kernel
theorem dl_1188 : decode code 1188 = .ok (.invokevirtual 139, 3) := by decide +kernel
theorem dl_1191 : decode code 1191 = .ok (.if_icmp .eq 399, 3) := by decide +kernel
theorem dl_1194 : decode code 1194 = .ok (.iconst 0, 1) := by decide +kernel
theorem dl_1195 : decode code 1195 = .ok (.ireturn, 1) := by decide +kernel
theorem dl_1196 : decode code 1196 = .ok (.aload_n 1, 1) := by decide +kernel
theorem dl_1197 : decode code 1197 = .ok (.aload_n 0, 1) := by decide +kernel
theorem dl_1198 : decode code 1198 = .ok (.iload_n 3, 1) := by decide +kernel
theorem dl_1199 : decode code 1199 = .ok (.iconst 1, 1) := by decide +kernel
theorem dl_1200 : decode code 1200 = .ok (.iadd, 1) := by decide +kernel
theorem dl_1201 : decode code 1201 = .ok (.iaload, 1) := by decide +kernel
theorem dl_1202 : decode code 1202 = .ok (.invokevirtual 140, 3) := by decide +kernel
theorem dl_1205 : decode code 1205 = .ok (.aload_n 2, 1) := by decide +kernel
theorem dl_1206 : decode code 1206 = .ok (.aload_n 0, 1) := by decide +kernel
theorem dl_1207 : decode code 1207 = .ok (.iload_n 3, 1) := by decide +kernel
theorem dl_1208 : decode code 1208 = .ok (.iconst 1, 1) := by decide +kernel
theorem dl_1209 : decode code 1209 = .ok (.iadd, 1) := by decide +kernel
theorem dl_1210 : decode code 1210 = .ok (.iaload, 1) := by decide +kernel
theorem dl_1211 : decode code 1211 = .ok (.invokevirtual 143, 3) := by decide +kernel
theorem dl_1214 : decode code 1214 = .ok (.if_icmp .eq 376, 3) := by decide +kernel
theorem dl_1217 : decode code 1217 = .ok (.iconst 0, 1) := by decide +kernel
theorem dl_1218 : decode code 1218 = .ok (.ireturn, 1) := by decide +kernel
theorem dl_1219 : decode code 1219 = .ok (.aload_n 1, 1) := by decide +kernel
theorem dl_1220 : decode code 1220 = .ok (.invokevirtual 144, 3) := by decide +kernel
theorem dl_1223 : decode code 1223 = .ok (.aload_n 2, 1) := by decide +kernel
theorem dl_1224 : decode code 1224 = .ok (.invokevirtual 147, 3) := by decide +kernel
theorem dl_1227 : decode code 1227 = .ok (.if_icmp .eq 363, 3) := by decide +kernel
theorem dl_1230 : decode code 1230 = .ok (.iconst 0, 1) := by decide +kernel
theorem dl_1231 : decode code 1231 = .ok (.ireturn, 1) := by decide +kernel
theorem dl_1232 : decode code 1232 = .ok (.aload_n 1, 1) := by decide +kernel
theorem dl_1233 : decode code 1233 = .ok (.invokevirtual 148, 3) := by decide +kernel
theorem dl_1236 : decode code 1236 = .ok (.aload_n 2, 1) := by decide +kernel
theorem dl_1237 : decode code 1237 = .ok (.invokevirtual 151, 3) := by decide +kernel
theorem dl_1240 : decode code 1240 = .ok (.if_icmp .eq 350, 3) := by decide +kernel
theorem dl_1243 : decode code 1243 = .ok (.iconst 0, 1) := by decide +kernel
theorem dl_1244 : decode code 1244 = .ok (.ireturn, 1) := by decide +kernel
theorem dl_1245 : decode code 1245 = .ok (.aload_n 1, 1) := by decide +kernel
theorem dl_1246 : decode code 1246 = .ok (.aload_n 0, 1) := by decide +kernel
theorem dl_1247 : decode code 1247 = .ok (.iload_n 3, 1) := by decide +kernel
theorem dl_1248 : decode code 1248 = .ok (.iconst 1, 1) := by decide +kernel
theorem dl_1249 : decode code 1249 = .ok (.iadd, 1) := by decide +kernel
theorem dl_1250 : decode code 1250 = .ok (.iaload, 1) := by decide +kernel
theorem dl_1251 : decode code 1251 = .ok (.invokevirtual 152, 3) := by decide +kernel
theorem dl_1254 : decode code 1254 = .ok (.aload_n 2, 1) := by decide +kernel
theorem dl_1255 : decode code 1255 = .ok (.aload_n 0, 1) := by decide +kernel
theorem dl_1256 : decode code 1256 = .ok (.iload_n 3, 1) := by decide +kernel
theorem dl_1257 : decode code 1257 = .ok (.iconst 1, 1) := by decide +kernel
theorem dl_1258 : decode code 1258 = .ok (.iadd, 1) := by decide +kernel
theorem dl_1259 : decode code 1259 = .ok (.iaload, 1) := by decide +kernel
theorem dl_1260 : decode code 1260 = .ok (.invokevirtual 155, 3) := by decide +kernel
theorem dl_1263 : decode code 1263 = .ok (.if_icmp .eq 327, 3) := by decide +kernel
theorem dl_1266 : decode code 1266 = .ok (.iconst 0, 1) := by decide +kernel
theorem dl_1267 : decode code 1267 = .ok (.ireturn, 1) := by decide +kernel
theorem dl_1268 : decode code 1268 = .ok (.aload_n 1, 1) := by decide +kernel
theorem dl_1269 : decode code 1269 = .ok (.invokevirtual 156, 3) := by decide +kernel
theorem dl_1272 : decode code 1272 = .ok (.aload_n 2, 1) := by decide +kernel
theorem dl_1273 : decode code 1273 = .ok (.invokevirtual 159, 3) := by decide +kernel
theorem dl_1276 : decode code 1276 = .ok (.if_icmp .eq 314, 3) := by decide +kernel
theorem dl_1279 : decode code 1279 = .ok (.iconst 0, 1) := by decide +kernel
theorem dl_1280 : decode code 1280 = .ok (.ireturn, 1) := by decide +kernel
theorem dl_1281 : decode code 1281 = .ok (.aload_n 1, 1) := by decide +kernel
theorem dl_1282 : decode code 1282 = .ok (.invokevirtual 160, 3) := by decide +kernel
theorem dl_1285 : decode code 1285 = .ok (.aload_n 2, 1) := by decide +kernel
theorem dl_1286 : decode code 1286 = .ok (.invokevirtual 163, 3) := by decide +kernel
theorem dl_1289 : decode code 1289 = .ok (.if_icmp .eq 301, 3) := by decide +kernel
theorem dl_1292 : decode code 1292 = .ok (.iconst 0, 1) := by decide +kernel
theorem dl_1293 : decode code 1293 = .ok (.ireturn, 1) := by decide +kernel
theorem dl_1294 : decode code 1294 = .ok (.aload_n 1, 1) := by decide +kernel
theorem dl_1295 : decode code 1295 = .ok (.aload_n 0, 1) := by decide +kernel
theorem dl_1296 : decode code 1296 = .ok (.iload_n 3, 1) := by decide +kernel
theorem dl_1297 : decode code 1297 = .ok (.iconst 1, 1) := by decide +kernel
theorem dl_1298 : decode code 1298 = .ok (.iadd, 1) := by decide +kernel
theorem dl_1299 : decode code 1299 = .ok (.iaload, 1) := by decide +kernel
theorem dl_1300 : decode code 1300 = .ok (.aload_n 0, 1) := by decide +kernel
theorem dl_1301 : decode code 1301 = .ok (.iload_n 3, 1) := by decide +kernel
theorem dl_1302 : decode code 1302 = .ok (.iconst 2, 1) := by decide +kernel
theorem dl_1303 : decode code 1303 = .ok (.iadd, 1) := by decide +kernel
theorem dl_1304 : decode code 1304 = .ok (.iaload, 1) := by decide +kernel
theorem dl_1305 : decode code 1305 = .ok (.invokevirtual 164, 3) := by decide +kernel
theorem dl_1308 : decode code 1308 = .ok (.aload_n 2, 1) := by decide +kernel
theorem dl_1309 : decode code 1309 = .ok (.aload_n 0, 1) := by decide +kernel
theorem dl_1310 : decode code 1310 = .ok (.iload_n 3, 1) := by decide +kernel
theorem dl_1311 : decode code 1311 = .ok (.iconst 1, 1) := by decide +kernel
theorem dl_1312 : decode code 1312 = .ok (.iadd, 1) := by decide +kernel
theorem dl_1313 : decode code 1313 = .ok (.iaload, 1) := by decide +kernel
theorem dl_1314 : decode code 1314 = .ok (.aload_n 0, 1) := by decide +kernel
theorem dl_1315 : decode code 1315 = .ok (.iload_n 3, 1) := by decide +kernel
theorem dl_1316 : decode code 1316 = .ok (.iconst 2, 1) := by decide +kernel
theorem dl_1317 : decode code 1317 = .ok (.iadd, 1) := by decide +kernel
theorem dl_1318 : decode code 1318 = .ok (.iaload, 1) := by decide +kernel
theorem dl_1319 : decode code 1319 = .ok (.invokevirtual 168, 3) := by decide +kernel
theorem dl_1322 : decode code 1322 = .ok (.lcmp, 1) := by decide +kernel
theorem dl_1323 : decode code 1323 = .ok (.ifCond .eq 267, 3) := by decide +kernel
theorem dl_1326 : decode code 1326 = .ok (.iconst 0, 1) := by decide +kernel
theorem dl_1327 : decode code 1327 = .ok (.ireturn, 1) := by decide +kernel
theorem dl_1328 : decode code 1328 = .ok (.aload_n 1, 1) := by decide +kernel
theorem dl_1329 : decode code 1329 = .ok (.aload_n 0, 1) := by decide +kernel
theorem dl_1330 : decode code 1330 = .ok (.iload_n 3, 1) := by decide +kernel
theorem dl_1331 : decode code 1331 = .ok (.iconst 1, 1) := by decide +kernel
theorem dl_1332 : decode code 1332 = .ok (.iadd, 1) := by decide +kernel
theorem dl_1333 : decode code 1333 = .ok (.iaload, 1) := by decide +kernel
theorem dl_1334 : decode code 1334 = .ok (.aload_n 0, 1) := by decide +kernel
theorem dl_1335 : decode code 1335 = .ok (.iload_n 3, 1) := by decide +kernel
theorem dl_1336 : decode code 1336 = .ok (.iconst 2, 1) := by decide +kernel
theorem dl_1337 : decode code 1337 = .ok (.iadd, 1) := by decide +kernel
theorem dl_1338 : decode code 1338 = .ok (.iaload, 1) := by decide +kernel
theorem dl_1339 : decode code 1339 = .ok (.aload_n 0, 1) := by decide +kernel
theorem dl_1340 : decode code 1340 = .ok (.iload_n 3, 1) := by decide +kernel
theorem dl_1341 : decode code 1341 = .ok (.iconst 3, 1) := by decide +kernel
theorem dl_1342 : decode code 1342 = .ok (.iadd, 1) := by decide +kernel
theorem dl_1343 : decode code 1343 = .ok (.iaload, 1) := by decide +kernel
theorem dl_1344 : decode code 1344 = .ok (.invokevirtual 169, 3) := by decide +kernel
theorem dl_1347 : decode code 1347 = .ok (.aload_n 2, 1) := by decide +kernel
theorem dl_1348 : decode code 1348 = .ok (.aload_n 0, 1) := by decide +kernel
theorem dl_1349 : decode code 1349 = .ok (.iload_n 3, 1) := by decide +kernel
theorem dl_1350 : decode code 1350 = .ok (.iconst 1, 1) := by decide +kernel
theorem dl_1351 : decode code 1351 = .ok (.iadd, 1) := by decide +kernel
theorem dl_1352 : decode code 1352 = .ok (.iaload, 1) := by decide +kernel
theorem dl_1353 : decode code 1353 = .ok (.aload_n 0, 1) := by decide +kernel
theorem dl_1354 : decode code 1354 = .ok (.iload_n 3, 1) := by decide +kernel
theorem dl_1355 : decode code 1355 = .ok (.iconst 2, 1) := by decide +kernel
theorem dl_1356 : decode code 1356 = .ok (.iadd, 1) := by decide +kernel
theorem dl_1357 : decode code 1357 = .ok (.iaload, 1) := by decide +kernel
theorem dl_1358 : decode code 1358 = .ok (.aload_n 0, 1) := by decide +kernel
theorem dl_1359 : decode code 1359 = .ok (.iload_n 3, 1) := by decide +kernel
theorem dl_1360 : decode code 1360 = .ok (.iconst 3, 1) := by decide +kernel
theorem dl_1361 : decode code 1361 = .ok (.iadd, 1) := by decide +kernel
theorem dl_1362 : decode code 1362 = .ok (.iaload, 1) := by decide +kernel
theorem dl_1363 : decode code 1363 = .ok (.invokevirtual 172, 3) := by decide +kernel
theorem dl_1366 : decode code 1366 = .ok (.if_icmp .eq 224, 3) := by decide +kernel
theorem dl_1369 : decode code 1369 = .ok (.iconst 0, 1) := by decide +kernel
theorem dl_1370 : decode code 1370 = .ok (.ireturn, 1) := by decide +kernel
theorem dl_1371 : decode code 1371 = .ok (.aload_n 1, 1) := by decide +kernel
theorem dl_1372 : decode code 1372 = .ok (.aload_n 0, 1) := by decide +kernel
theorem dl_1373 : decode code 1373 = .ok (.iload_n 3, 1) := by decide +kernel
theorem dl_1374 : decode code 1374 = .ok (.iconst 1, 1) := by decide +kernel
theorem dl_1375 : decode code 1375 = .ok (.iadd, 1) := by decide +kernel
theorem dl_1376 : decode code 1376 = .ok (.iaload, 1) := by decide +kernel
theorem dl_1377 : decode code 1377 = .ok (.aload_n 0, 1) := by decide +kernel
theorem dl_1378 : decode code 1378 = .ok (.iload_n 3, 1) := by decide +kernel
theorem dl_1379 : decode code 1379 = .ok (.iconst 2, 1) := by decide +kernel
theorem dl_1380 : decode code 1380 = .ok (.iadd, 1) := by decide +kernel
theorem dl_1381 : decode code 1381 = .ok (.iaload, 1) := by decide +kernel
theorem dl_1382 : decode code 1382 = .ok (.invokevirtual 173, 3) := by decide +kernel
theorem dl_1385 : decode code 1385 = .ok (.aload_n 2, 1) := by decide +kernel
theorem dl_1386 : decode code 1386 = .ok (.aload_n 0, 1) := by decide +kernel
theorem dl_1387 : decode code 1387 = .ok (.iload_n 3, 1) := by decide +kernel
theorem dl_1388 : decode code 1388 = .ok (.iconst 1, 1) := by decide +kernel
theorem dl_1389 : decode code 1389 = .ok (.iadd, 1) := by decide +kernel
theorem dl_1390 : decode code 1390 = .ok (.iaload, 1) := by decide +kernel
theorem dl_1391 : decode code 1391 = .ok (.aload_n 0, 1) := by decide +kernel
theorem dl_1392 : decode code 1392 = .ok (.iload_n 3, 1) := by decide +kernel
theorem dl_1393 : decode code 1393 = .ok (.iconst 2, 1) := by decide +kernel
theorem dl_1394 : decode code 1394 = .ok (.iadd, 1) := by decide +kernel
theorem dl_1395 : decode code 1395 = .ok (.iaload, 1) := by decide +kernel
theorem dl_1396 : decode code 1396 = .ok (.invokevirtual 176, 3) := by decide +kernel
theorem dl_1399 : decode code 1399 = .ok (.if_icmp .eq 191, 3) := by decide +kernel
theorem dl_1402 : decode code 1402 = .ok (.iconst 0, 1) := by decide +kernel
theorem dl_1403 : decode code 1403 = .ok (.ireturn, 1) := by decide +kernel
theorem dl_1404 : decode code 1404 = .ok (.aload_n 1, 1) := by decide +kernel
theorem dl_1405 : decode code 1405 = .ok (.aload_n 0, 1) := by decide +kernel
theorem dl_1406 : decode code 1406 = .ok (.iload_n 3, 1) := by decide +kernel
theorem dl_1407 : decode code 1407 = .ok (.iconst 1, 1) := by decide +kernel
theorem dl_1408 : decode code 1408 = .ok (.iadd, 1) := by decide +kernel
theorem dl_1409 : decode code 1409 = .ok (.iaload, 1) := by decide +kernel
theorem dl_1410 : decode code 1410 = .ok (.aload_n 0, 1) := by decide +kernel
theorem dl_1411 : decode code 1411 = .ok (.iload_n 3, 1) := by decide +kernel
theorem dl_1412 : decode code 1412 = .ok (.iconst 2, 1) := by decide +kernel
theorem dl_1413 : decode code 1413 = .ok (.iadd, 1) := by decide +kernel
theorem dl_1414 : decode code 1414 = .ok (.iaload, 1) := by decide +kernel
theorem dl_1415 : decode code 1415 = .ok (.invokevirtual 177, 3) := by decide +kernel
theorem dl_1418 : decode code 1418 = .ok (.aload_n 2, 1) := by decide +kernel
theorem dl_1419 : decode code 1419 = .ok (.aload_n 0, 1) := by decide +kernel
theorem dl_1420 : decode code 1420 = .ok (.iload_n 3, 1) := by decide +kernel
theorem dl_1421 : decode code 1421 = .ok (.iconst 1, 1) := by decide +kernel
theorem dl_1422 : decode code 1422 = .ok (.iadd, 1) := by decide +kernel
theorem dl_1423 : decode code 1423 = .ok (.iaload, 1) := by decide +kernel
theorem dl_1424 : decode code 1424 = .ok (.aload_n 0, 1) := by decide +kernel
theorem dl_1425 : decode code 1425 = .ok (.iload_n 3, 1) := by decide +kernel
theorem dl_1426 : decode code 1426 = .ok (.iconst 2, 1) := by decide +kernel
theorem dl_1427 : decode code 1427 = .ok (.iadd, 1) := by decide +kernel
theorem dl_1428 : decode code 1428 = .ok (.iaload, 1) := by decide +kernel
theorem dl_1429 : decode code 1429 = .ok (.invokevirtual 180, 3) := by decide +kernel
theorem dl_1432 : decode code 1432 = .ok (.if_icmp .eq 158, 3) := by decide +kernel
theorem dl_1435 : decode code 1435 = .ok (.iconst 0, 1) := by decide +kernel
theorem dl_1436 : decode code 1436 = .ok (.ireturn, 1) := by decide +kernel
theorem dl_1437 : decode code 1437 = .ok (.aload_n 1, 1) := by decide +kernel
theorem dl_1438 : decode code 1438 = .ok (.invokevirtual 181, 3) := by decide +kernel
theorem dl_1441 : decode code 1441 = .ok (.aload_n 2, 1) := by decide +kernel
theorem dl_1442 : decode code 1442 = .ok (.invokevirtual 184, 3) := by decide +kernel
theorem dl_1445 : decode code 1445 = .ok (.if_icmp .eq 145, 3) := by decide +kernel
theorem dl_1448 : decode code 1448 = .ok (.iconst 0, 1) := by decide +kernel
theorem dl_1449 : decode code 1449 = .ok (.ireturn, 1) := by decide +kernel
theorem dl_1450 : decode code 1450 = .ok (.aload_n 1, 1) := by decide +kernel
theorem dl_1451 : decode code 1451 = .ok (.invokevirtual 185, 3) := by decide +kernel
theorem dl_1454 : decode code 1454 = .ok (.aload_n 2, 1) := by decide +kernel
theorem dl_1455 : decode code 1455 = .ok (.invokevirtual 188, 3) := by decide +kernel
theorem dl_1458 : decode code 1458 = .ok (.if_icmp .eq 132, 3) := by decide +kernel
theorem dl_1461 : decode code 1461 = .ok (.iconst 0, 1) := by decide +kernel
theorem dl_1462 : decode code 1462 = .ok (.ireturn, 1) := by decide +kernel
theorem dl_1463 : decode code 1463 = .ok (.aload_n 1, 1) := by decide +kernel
theorem dl_1464 : decode code 1464 = .ok (.invokevirtual 189, 3) := by decide +kernel
theorem dl_1467 : decode code 1467 = .ok (.aload_n 2, 1) := by decide +kernel
theorem dl_1468 : decode code 1468 = .ok (.invokevirtual 192, 3) := by decide +kernel
theorem dl_1471 : decode code 1471 = .ok (.if_icmp .eq 119, 3) := by decide +kernel
theorem dl_1474 : decode code 1474 = .ok (.iconst 0, 1) := by decide +kernel
theorem dl_1475 : decode code 1475 = .ok (.ireturn, 1) := by decide +kernel
theorem dl_1476 : decode code 1476 = .ok (.aload_n 1, 1) := by decide +kernel
theorem dl_1477 : decode code 1477 = .ok (.invokevirtual 193, 3) := by decide +kernel
theorem dl_1480 : decode code 1480 = .ok (.aload_n 2, 1) := by decide +kernel
theorem dl_1481 : decode code 1481 = .ok (.invokevirtual 196, 3) := by decide +kernel
theorem dl_1484 : decode code 1484 = .ok (.if_icmp .eq 106, 3) := by decide +kernel
theorem dl_1487 : decode code 1487 = .ok (.iconst 0, 1) := by decide +kernel
theorem dl_1488 : decode code 1488 = .ok (.ireturn, 1) := by decide +kernel
theorem dl_1489 : decode code 1489 = .ok (.aload_n 1, 1) := by decide +kernel
theorem dl_1490 : decode code 1490 = .ok (.invokevirtual 197, 3) := by decide +kernel
theorem dl_1493 : decode code 1493 = .ok (.aload_n 2, 1) := by decide +kernel
theorem dl_1494 : decode code 1494 = .ok (.invokevirtual 200, 3) := by decide +kernel
theorem dl_1497 : decode code 1497 = .ok (.if_icmp .eq 93, 3) := by decide +kernel
theorem dl_1500 : decode code 1500 = .ok (.iconst 0, 1) := by decide +kernel
theorem dl_1501 : decode code 1501 = .ok (.ireturn, 1) := by decide +kernel
theorem dl_1502 : decode code 1502 = .ok (.aload_n 1, 1) := by decide +kernel
theorem dl_1503 : decode code 1503 = .ok (.aload_n 0, 1) := by decide +kernel
theorem dl_1504 : decode code 1504 = .ok (.iload_n 3, 1) := by decide +kernel
theorem dl_1505 : decode code 1505 = .ok (.iconst 1, 1) := by decide +kernel
theorem dl_1506 : decode code 1506 = .ok (.iadd, 1) := by decide +kernel
theorem dl_1507 : decode code 1507 = .ok (.iaload, 1) := by decide +kernel
theorem dl_1508 : decode code 1508 = .ok (.ifCond .eq 7, 3) := by decide +kernel
theorem dl_1511 : decode code 1511 = .ok (.iconst 1, 1) := by decide +kernel
theorem dl_1512 : decode code 1512 = .ok (.goto 4, 3) := by decide +kernel
theorem dl_1515 : decode code 1515 = .ok (.iconst 0, 1) := by decide +kernel
theorem dl_1516 : decode code 1516 = .ok (.invokevirtual 201, 3) := by decide +kernel
theorem dl_1519 : decode code 1519 = .ok (.aload_n 2, 1) := by decide +kernel
theorem dl_1520 : decode code 1520 = .ok (.aload_n 0, 1) := by decide +kernel
theorem dl_1521 : decode code 1521 = .ok (.iload_n 3, 1) := by decide +kernel
theorem dl_1522 : decode code 1522 = .ok (.iconst 1, 1) := by decide +kernel
theorem dl_1523 : decode code 1523 = .ok (.iadd, 1) := by decide +kernel
theorem dl_1524 : decode code 1524 = .ok (.iaload, 1) := by decide +kernel
theorem dl_1525 : decode code 1525 = .ok (.ifCond .eq 7, 3) := by decide +kernel
theorem dl_1528 : decode code 1528 = .ok (.iconst 1, 1) := by decide +kernel
theorem dl_1529 : decode code 1529 = .ok (.goto 4, 3) := by decide +kernel
theorem dl_1532 : decode code 1532 = .ok (.iconst 0, 1) := by decide +kernel
theorem dl_1533 : decode code 1533 = .ok (.invokevirtual 205, 3) := by decide +kernel
theorem dl_1536 : decode code 1536 = .ok (.if_icmp .eq 54, 3) := by decide +kernel
theorem dl_1539 : decode code 1539 = .ok (.iconst 0, 1) := by decide +kernel
theorem dl_1540 : decode code 1540 = .ok (.ireturn, 1) := by decide +kernel
theorem dl_1541 : decode code 1541 = .ok (.aload_n 1, 1) := by decide +kernel
theorem dl_1542 : decode code 1542 = .ok (.invokevirtual 206, 3) := by decide +kernel
theorem dl_1545 : decode code 1545 = .ok (.aload_n 2, 1) := by decide +kernel
theorem dl_1546 : decode code 1546 = .ok (.invokevirtual 209, 3) := by decide +kernel
theorem dl_1549 : decode code 1549 = .ok (.if_icmp .eq 41, 3) := by decide +kernel
theorem dl_1552 : decode code 1552 = .ok (.iconst 0, 1) := by decide +kernel
theorem dl_1553 : decode code 1553 = .ok (.ireturn, 1) := by decide +kernel
theorem dl_1554 : decode code 1554 = .ok (.aload_n 1, 1) := by decide +kernel
theorem dl_1555 : decode code 1555 = .ok (.invokevirtual 210, 3) := by decide +kernel
theorem dl_1558 : decode code 1558 = .ok (.aload_n 2, 1) := by decide +kernel
theorem dl_1559 : decode code 1559 = .ok (.invokevirtual 213, 3) := by decide +kernel
theorem dl_1562 : decode code 1562 = .ok (.if_icmp .eq 28, 3) := by decide +kernel
theorem dl_1565 : decode code 1565 = .ok (.iconst 0, 1) := by decide +kernel
theorem dl_1566 : decode code 1566 = .ok (.ireturn, 1) := by decide +kernel
theorem dl_1567 : decode code 1567 = .ok (.aload_n 1, 1) := by decide +kernel
theorem dl_1568 : decode code 1568 = .ok (.aload_n 0, 1) := by decide +kernel
theorem dl_1569 : decode code 1569 = .ok (.iload_n 3, 1) := by decide +kernel
theorem dl_1570 : decode code 1570 = .ok (.iconst 1, 1) := by decide +kernel
theorem dl_1571 : decode code 1571 = .ok (.iadd, 1) := by decide +kernel
theorem dl_1572 : decode code 1572 = .ok (.iaload, 1) := by decide +kernel
theorem dl_1573 : decode code 1573 = .ok (.invokevirtual 214, 3) := by decide +kernel
theorem dl_1576 : decode code 1576 = .ok (.aload_n 2, 1) := by decide +kernel
theorem dl_1577 : decode code 1577 = .ok (.aload_n 0, 1) := by decide +kernel
theorem dl_1578 : decode code 1578 = .ok (.iload_n 3, 1) := by decide +kernel
theorem dl_1579 : decode code 1579 = .ok (.iconst 1, 1) := by decide +kernel
theorem dl_1580 : decode code 1580 = .ok (.iadd, 1) := by decide +kernel
theorem dl_1581 : decode code 1581 = .ok (.iaload, 1) := by decide +kernel
theorem dl_1582 : decode code 1582 = .ok (.invokevirtual 217, 3) := by decide +kernel
theorem dl_1585 : decode code 1585 = .ok (.if_icmp .eq 5, 3) := by decide +kernel
theorem dl_1588 : decode code 1588 = .ok (.iconst 0, 1) := by decide +kernel
theorem dl_1589 : decode code 1589 = .ok (.ireturn, 1) := by decide +kernel
theorem dl_1590 : decode code 1590 = .ok (.iinc 3 6, 3) := by decide +kernel
theorem dl_1593 : decode code 1593 = .ok (.goto (-1575), 3) := by decide +kernel
theorem dl_1596 : decode code 1596 = .ok (.iconst 1, 1) := by decide +kernel
theorem dl_1597 : decode code 1597 = .ok (.ireturn, 1) := by decide +kernel
