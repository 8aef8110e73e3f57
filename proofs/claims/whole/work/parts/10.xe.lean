/-! decode rows -/
theorem d_W_law_0 : decode code 0 = .ok (.new 7, 3) := by decide +kernel
theorem d_W_law_3 : decode code 3 = .ok (.dup, 1) := by decide +kernel
theorem d_W_law_4 : decode code 4 = .ok (.invokespecial 9, 3) := by decide +kernel
theorem d_W_law_7 : decode code 7 = .ok (.astore_n 1, 1) := by decide +kernel
theorem d_W_law_8 : decode code 8 = .ok (.new 10, 3) := by decide +kernel
theorem d_W_law_11 : decode code 11 = .ok (.dup, 1) := by decide +kernel
theorem d_W_law_12 : decode code 12 = .ok (.invokespecial 12, 3) := by decide +kernel
theorem d_W_law_15 : decode code 15 = .ok (.astore_n 2, 1) := by decide +kernel
theorem d_W_law_16 : decode code 16 = .ok (.iconst 0, 1) := by decide +kernel
theorem d_W_law_17 : decode code 17 = .ok (.istore_n 3, 1) := by decide +kernel
theorem d_W_law_18 : decode code 18 = .ok (.iload_n 3, 1) := by decide +kernel
theorem d_W_law_19 : decode code 19 = .ok (.aload_n 0, 1) := by decide +kernel
theorem d_W_law_20 : decode code 20 = .ok (.arraylength, 1) := by decide +kernel
theorem d_W_law_21 : decode code 21 = .ok (.bipush 7, 2) := by decide +kernel
theorem d_W_law_23 : decode code 23 = .ok (.isub, 1) := by decide +kernel
theorem d_W_law_24 : decode code 24 = .ok (.if_icmp .gt 1805, 3) := by decide +kernel
theorem d_W_law_27 : decode code 27 = .ok (.aload_n 0, 1) := by decide +kernel
theorem d_W_law_28 : decode code 28 = .ok (.iload_n 3, 1) := by decide +kernel
theorem d_W_law_29 : decode code 29 = .ok (.iaload, 1) := by decide +kernel
theorem d_W_law_30 : decode code 30 = .ok (.bipush 63, 2) := by decide +kernel
theorem d_W_law_32 : decode code 32 = .ok (.iand, 1) := by decide +kernel
theorem d_W_law_33 : decode code 33 = .ok (.tableswitch 1790 0 48 #[211, 264, 297, 340, 383, 426, 449, 472, 495, 528, 561, 584, 617, 650, 673, 716, 739, 772, 805, 838, 913, 956, 989, 1022, 1055, 1098, 1131, 1174, 1207, 1240, 1263, 1286, 1309, 1332, 1355, 1398, 1431, 1464, 1477, 1500, 1513, 1556, 1599, 1662, 1695, 1718, 1741, 1754, 1767], 211) := by decide +kernel
theorem d_W_law_244 : decode code 244 = .ok (.aload_n 1, 1) := by decide +kernel
theorem d_W_law_245 : decode code 245 = .ok (.aload_n 0, 1) := by decide +kernel
theorem d_W_law_246 : decode code 246 = .ok (.iload_n 3, 1) := by decide +kernel
theorem d_W_law_247 : decode code 247 = .ok (.iconst 1, 1) := by decide +kernel
theorem d_W_law_248 : decode code 248 = .ok (.iadd, 1) := by decide +kernel
theorem d_W_law_249 : decode code 249 = .ok (.iaload, 1) := by decide +kernel
theorem d_W_law_250 : decode code 250 = .ok (.aload_n 0, 1) := by decide +kernel
theorem d_W_law_251 : decode code 251 = .ok (.iload_n 3, 1) := by decide +kernel
theorem d_W_law_252 : decode code 252 = .ok (.iconst 2, 1) := by decide +kernel
theorem d_W_law_253 : decode code 253 = .ok (.iadd, 1) := by decide +kernel
theorem d_W_law_254 : decode code 254 = .ok (.iaload, 1) := by decide +kernel
theorem d_W_law_255 : decode code 255 = .ok (.aload_n 0, 1) := by decide +kernel
theorem d_W_law_256 : decode code 256 = .ok (.iload_n 3, 1) := by decide +kernel
theorem d_W_law_257 : decode code 257 = .ok (.iconst 3, 1) := by decide +kernel
theorem d_W_law_258 : decode code 258 = .ok (.iadd, 1) := by decide +kernel
theorem d_W_law_259 : decode code 259 = .ok (.iaload, 1) := by decide +kernel
theorem d_W_law_260 : decode code 260 = .ok (.aload_n 0, 1) := by decide +kernel
theorem d_W_law_261 : decode code 261 = .ok (.iload_n 3, 1) := by decide +kernel
theorem d_W_law_262 : decode code 262 = .ok (.iconst 4, 1) := by decide +kernel
theorem d_W_law_263 : decode code 263 = .ok (.iadd, 1) := by decide +kernel
theorem d_W_law_264 : decode code 264 = .ok (.iaload, 1) := by decide +kernel
theorem d_W_law_265 : decode code 265 = .ok (.invokevirtual 13, 3) := by decide +kernel
theorem d_W_law_268 : decode code 268 = .ok (.aload_n 2, 1) := by decide +kernel
theorem d_W_law_269 : decode code 269 = .ok (.aload_n 0, 1) := by decide +kernel
theorem d_W_law_270 : decode code 270 = .ok (.iload_n 3, 1) := by decide +kernel
theorem d_W_law_271 : decode code 271 = .ok (.iconst 1, 1) := by decide +kernel
theorem d_W_law_272 : decode code 272 = .ok (.iadd, 1) := by decide +kernel
theorem d_W_law_273 : decode code 273 = .ok (.iaload, 1) := by decide +kernel
theorem d_W_law_274 : decode code 274 = .ok (.aload_n 0, 1) := by decide +kernel
theorem d_W_law_275 : decode code 275 = .ok (.iload_n 3, 1) := by decide +kernel
theorem d_W_law_276 : decode code 276 = .ok (.iconst 2, 1) := by decide +kernel
theorem d_W_law_277 : decode code 277 = .ok (.iadd, 1) := by decide +kernel
theorem d_W_law_278 : decode code 278 = .ok (.iaload, 1) := by decide +kernel
theorem d_W_law_279 : decode code 279 = .ok (.aload_n 0, 1) := by decide +kernel
theorem d_W_law_280 : decode code 280 = .ok (.iload_n 3, 1) := by decide +kernel
theorem d_W_law_281 : decode code 281 = .ok (.iconst 3, 1) := by decide +kernel
theorem d_W_law_282 : decode code 282 = .ok (.iadd, 1) := by decide +kernel
theorem d_W_law_283 : decode code 283 = .ok (.iaload, 1) := by decide +kernel
theorem d_W_law_284 : decode code 284 = .ok (.aload_n 0, 1) := by decide +kernel
theorem d_W_law_285 : decode code 285 = .ok (.iload_n 3, 1) := by decide +kernel
theorem d_W_law_286 : decode code 286 = .ok (.iconst 4, 1) := by decide +kernel
theorem d_W_law_287 : decode code 287 = .ok (.iadd, 1) := by decide +kernel
theorem d_W_law_288 : decode code 288 = .ok (.iaload, 1) := by decide +kernel
theorem d_W_law_289 : decode code 289 = .ok (.invokevirtual 17, 3) := by decide +kernel
theorem d_W_law_292 : decode code 292 = .ok (.if_icmp .eq 1531, 3) := by decide +kernel
theorem d_W_law_295 : decode code 295 = .ok (.iconst 0, 1) := by decide +kernel
theorem d_W_law_296 : decode code 296 = .ok (.ireturn, 1) := by decide +kernel
theorem d_W_law_297 : decode code 297 = .ok (.aload_n 1, 1) := by decide +kernel
theorem d_W_law_298 : decode code 298 = .ok (.aload_n 0, 1) := by decide +kernel
theorem d_W_law_299 : decode code 299 = .ok (.iload_n 3, 1) := by decide +kernel
theorem d_W_law_300 : decode code 300 = .ok (.iconst 1, 1) := by decide +kernel
theorem d_W_law_301 : decode code 301 = .ok (.iadd, 1) := by decide +kernel
theorem d_W_law_302 : decode code 302 = .ok (.iaload, 1) := by decide +kernel
theorem d_W_law_303 : decode code 303 = .ok (.aload_n 0, 1) := by decide +kernel
theorem d_W_law_304 : decode code 304 = .ok (.iload_n 3, 1) := by decide +kernel
theorem d_W_law_305 : decode code 305 = .ok (.iconst 2, 1) := by decide +kernel
theorem d_W_law_306 : decode code 306 = .ok (.iadd, 1) := by decide +kernel
theorem d_W_law_307 : decode code 307 = .ok (.iaload, 1) := by decide +kernel
theorem d_W_law_308 : decode code 308 = .ok (.invokevirtual 18, 3) := by decide +kernel
theorem d_W_law_311 : decode code 311 = .ok (.aload_n 2, 1) := by decide +kernel
theorem d_W_law_312 : decode code 312 = .ok (.aload_n 0, 1) := by decide +kernel
theorem d_W_law_313 : decode code 313 = .ok (.iload_n 3, 1) := by decide +kernel
theorem d_W_law_314 : decode code 314 = .ok (.iconst 1, 1) := by decide +kernel
theorem d_W_law_315 : decode code 315 = .ok (.iadd, 1) := by decide +kernel
theorem d_W_law_316 : decode code 316 = .ok (.iaload, 1) := by decide +kernel
theorem d_W_law_317 : decode code 317 = .ok (.aload_n 0, 1) := by decide +kernel
theorem d_W_law_318 : decode code 318 = .ok (.iload_n 3, 1) := by decide +kernel
theorem d_W_law_319 : decode code 319 = .ok (.iconst 2, 1) := by decide +kernel
theorem d_W_law_320 : decode code 320 = .ok (.iadd, 1) := by decide +kernel
theorem d_W_law_321 : decode code 321 = .ok (.iaload, 1) := by decide +kernel
theorem d_W_law_322 : decode code 322 = .ok (.invokevirtual 22, 3) := by decide +kernel
theorem d_W_law_325 : decode code 325 = .ok (.if_icmp .eq 1498, 3) := by decide +kernel
theorem d_W_law_328 : decode code 328 = .ok (.iconst 0, 1) := by decide +kernel
theorem d_W_law_329 : decode code 329 = .ok (.ireturn, 1) := by decide +kernel
theorem d_W_law_330 : decode code 330 = .ok (.aload_n 1, 1) := by decide +kernel
theorem d_W_law_331 : decode code 331 = .ok (.aload_n 0, 1) := by decide +kernel
theorem d_W_law_332 : decode code 332 = .ok (.iload_n 3, 1) := by decide +kernel
theorem d_W_law_333 : decode code 333 = .ok (.iconst 1, 1) := by decide +kernel
theorem d_W_law_334 : decode code 334 = .ok (.iadd, 1) := by decide +kernel
theorem d_W_law_335 : decode code 335 = .ok (.iaload, 1) := by decide +kernel
theorem d_W_law_336 : decode code 336 = .ok (.aload_n 0, 1) := by decide +kernel
theorem d_W_law_337 : decode code 337 = .ok (.iload_n 3, 1) := by decide +kernel
theorem d_W_law_338 : decode code 338 = .ok (.iconst 2, 1) := by decide +kernel
theorem d_W_law_339 : decode code 339 = .ok (.iadd, 1) := by decide +kernel
theorem d_W_law_340 : decode code 340 = .ok (.iaload, 1) := by decide +kernel
theorem d_W_law_341 : decode code 341 = .ok (.aload_n 0, 1) := by decide +kernel
theorem d_W_law_342 : decode code 342 = .ok (.iload_n 3, 1) := by decide +kernel
theorem d_W_law_343 : decode code 343 = .ok (.iconst 3, 1) := by decide +kernel
theorem d_W_law_344 : decode code 344 = .ok (.iadd, 1) := by decide +kernel
theorem d_W_law_345 : decode code 345 = .ok (.iaload, 1) := by decide +kernel
theorem d_W_law_346 : decode code 346 = .ok (.invokevirtual 23, 3) := by decide +kernel
theorem d_W_law_349 : decode code 349 = .ok (.aload_n 2, 1) := by decide +kernel
theorem d_W_law_350 : decode code 350 = .ok (.aload_n 0, 1) := by decide +kernel
theorem d_W_law_351 : decode code 351 = .ok (.iload_n 3, 1) := by decide +kernel
theorem d_W_law_352 : decode code 352 = .ok (.iconst 1, 1) := by decide +kernel
theorem d_W_law_353 : decode code 353 = .ok (.iadd, 1) := by decide +kernel
theorem d_W_law_354 : decode code 354 = .ok (.iaload, 1) := by decide +kernel
theorem d_W_law_355 : decode code 355 = .ok (.aload_n 0, 1) := by decide +kernel
theorem d_W_law_356 : decode code 356 = .ok (.iload_n 3, 1) := by decide +kernel
theorem d_W_law_357 : decode code 357 = .ok (.iconst 2, 1) := by decide +kernel
theorem d_W_law_358 : decode code 358 = .ok (.iadd, 1) := by decide +kernel
theorem d_W_law_359 : decode code 359 = .ok (.iaload, 1) := by decide +kernel
theorem d_W_law_360 : decode code 360 = .ok (.aload_n 0, 1) := by decide +kernel
theorem d_W_law_361 : decode code 361 = .ok (.iload_n 3, 1) := by decide +kernel
theorem d_W_law_362 : decode code 362 = .ok (.iconst 3, 1) := by decide +kernel
theorem d_W_law_363 : decode code 363 = .ok (.iadd, 1) := by decide +kernel
theorem d_W_law_364 : decode code 364 = .ok (.iaload, 1) := by decide +kernel
theorem d_W_law_365 : decode code 365 = .ok (.invokevirtual 27, 3) := by decide +kernel
theorem d_W_law_368 : decode code 368 = .ok (.if_icmp .eq 1455, 3) := by decide +kernel
theorem d_W_law_371 : decode code 371 = .ok (.iconst 0, 1) := by decide +kernel
theorem d_W_law_372 : decode code 372 = .ok (.ireturn, 1) := by decide +kernel
theorem d_W_law_373 : decode code 373 = .ok (.aload_n 1, 1) := by decide +kernel
theorem d_W_law_374 : decode code 374 = .ok (.aload_n 0, 1) := by decide +kernel
theorem d_W_law_375 : decode code 375 = .ok (.iload_n 3, 1) := by decide +kernel
theorem d_W_law_376 : decode code 376 = .ok (.iconst 1, 1) := by decide +kernel
theorem d_W_law_377 : decode code 377 = .ok (.iadd, 1) := by decide +kernel
theorem d_W_law_378 : decode code 378 = .ok (.iaload, 1) := by decide +kernel
theorem d_W_law_379 : decode code 379 = .ok (.aload_n 0, 1) := by decide +kernel
theorem d_W_law_380 : decode code 380 = .ok (.iload_n 3, 1) := by decide +kernel
theorem d_W_law_381 : decode code 381 = .ok (.iconst 2, 1) := by decide +kernel
theorem d_W_law_382 : decode code 382 = .ok (.iadd, 1) := by decide +kernel
theorem d_W_law_383 : decode code 383 = .ok (.iaload, 1) := by decide +kernel
theorem d_W_law_384 : decode code 384 = .ok (.aload_n 0, 1) := by decide +kernel
theorem d_W_law_385 : decode code 385 = .ok (.iload_n 3, 1) := by decide +kernel
theorem d_W_law_386 : decode code 386 = .ok (.iconst 3, 1) := by decide +kernel
theorem d_W_law_387 : decode code 387 = .ok (.iadd, 1) := by decide +kernel
theorem d_W_law_388 : decode code 388 = .ok (.iaload, 1) := by decide +kernel
theorem d_W_law_389 : decode code 389 = .ok (.invokevirtual 28, 3) := by decide +kernel
theorem d_W_law_392 : decode code 392 = .ok (.aload_n 2, 1) := by decide +kernel
theorem d_W_law_393 : decode code 393 = .ok (.aload_n 0, 1) := by decide +kernel
theorem d_W_law_394 : decode code 394 = .ok (.iload_n 3, 1) := by decide +kernel
theorem d_W_law_395 : decode code 395 = .ok (.iconst 1, 1) := by decide +kernel
theorem d_W_law_396 : decode code 396 = .ok (.iadd, 1) := by decide +kernel
theorem d_W_law_397 : decode code 397 = .ok (.iaload, 1) := by decide +kernel
theorem d_W_law_398 : decode code 398 = .ok (.aload_n 0, 1) := by decide +kernel
theorem d_W_law_399 : decode code 399 = .ok (.iload_n 3, 1) := by decide +kernel
theorem d_W_law_400 : decode code 400 = .ok (.iconst 2, 1) := by decide +kernel
theorem d_W_law_401 : decode code 401 = .ok (.iadd, 1) := by decide +kernel
theorem d_W_law_402 : decode code 402 = .ok (.iaload, 1) := by decide +kernel
theorem d_W_law_403 : decode code 403 = .ok (.aload_n 0, 1) := by decide +kernel
theorem d_W_law_404 : decode code 404 = .ok (.iload_n 3, 1) := by decide +kernel
theorem d_W_law_405 : decode code 405 = .ok (.iconst 3, 1) := by decide +kernel
theorem d_W_law_406 : decode code 406 = .ok (.iadd, 1) := by decide +kernel
theorem d_W_law_407 : decode code 407 = .ok (.iaload, 1) := by decide +kernel
theorem d_W_law_408 : decode code 408 = .ok (.invokevirtual 31, 3) := by decide +kernel
theorem d_W_law_411 : decode code 411 = .ok (.if_icmp .eq 1412, 3) := by decide +kernel
theorem d_W_law_414 : decode code 414 = .ok (.iconst 0, 1) := by decide +kernel
theorem d_W_law_415 : decode code 415 = .ok (.ireturn, 1) := by decide +kernel
theorem d_W_law_416 : decode code 416 = .ok (.aload_n 1, 1) := by decide +kernel
theorem d_W_law_417 : decode code 417 = .ok (.aload_n 0, 1) := by decide +kernel
theorem d_W_law_418 : decode code 418 = .ok (.iload_n 3, 1) := by decide +kernel
theorem d_W_law_419 : decode code 419 = .ok (.iconst 1, 1) := by decide +kernel
theorem d_W_law_420 : decode code 420 = .ok (.iadd, 1) := by decide +kernel
theorem d_W_law_421 : decode code 421 = .ok (.iaload, 1) := by decide +kernel
theorem d_W_law_422 : decode code 422 = .ok (.aload_n 0, 1) := by decide +kernel
theorem d_W_law_423 : decode code 423 = .ok (.iload_n 3, 1) := by decide +kernel
theorem d_W_law_424 : decode code 424 = .ok (.iconst 2, 1) := by decide +kernel
theorem d_W_law_425 : decode code 425 = .ok (.iadd, 1) := by decide +kernel
theorem d_W_law_426 : decode code 426 = .ok (.iaload, 1) := by decide +kernel
theorem d_W_law_427 : decode code 427 = .ok (.aload_n 0, 1) := by decide +kernel
theorem d_W_law_428 : decode code 428 = .ok (.iload_n 3, 1) := by decide +kernel
theorem d_W_law_429 : decode code 429 = .ok (.iconst 3, 1) := by decide +kernel
theorem d_W_law_430 : decode code 430 = .ok (.iadd, 1) := by decide +kernel
theorem d_W_law_431 : decode code 431 = .ok (.iaload, 1) := by decide +kernel
theorem d_W_law_432 : decode code 432 = .ok (.invokevirtual 32, 3) := by decide +kernel
theorem d_W_law_435 : decode code 435 = .ok (.aload_n 2, 1) := by decide +kernel
theorem d_W_law_436 : decode code 436 = .ok (.aload_n 0, 1) := by decide +kernel
theorem d_W_law_437 : decode code 437 = .ok (.iload_n 3, 1) := by decide +kernel
theorem d_W_law_438 : decode code 438 = .ok (.iconst 1, 1) := by decide +kernel
theorem d_W_law_439 : decode code 439 = .ok (.iadd, 1) := by decide +kernel
theorem d_W_law_440 : decode code 440 = .ok (.iaload, 1) := by decide +kernel
theorem d_W_law_441 : decode code 441 = .ok (.aload_n 0, 1) := by decide +kernel
theorem d_W_law_442 : decode code 442 = .ok (.iload_n 3, 1) := by decide +kernel
theorem d_W_law_443 : decode code 443 = .ok (.iconst 2, 1) := by decide +kernel
theorem d_W_law_444 : decode code 444 = .ok (.iadd, 1) := by decide +kernel
theorem d_W_law_445 : decode code 445 = .ok (.iaload, 1) := by decide +kernel
theorem d_W_law_446 : decode code 446 = .ok (.aload_n 0, 1) := by decide +kernel
theorem d_W_law_447 : decode code 447 = .ok (.iload_n 3, 1) := by decide +kernel
theorem d_W_law_448 : decode code 448 = .ok (.iconst 3, 1) := by decide +kernel
theorem d_W_law_449 : decode code 449 = .ok (.iadd, 1) := by decide +kernel
theorem d_W_law_450 : decode code 450 = .ok (.iaload, 1) := by decide +kernel
theorem d_W_law_451 : decode code 451 = .ok (.invokevirtual 35, 3) := by decide +kernel
theorem d_W_law_454 : decode code 454 = .ok (.if_icmp .eq 1369, 3) := by decide +kernel
theorem d_W_law_457 : decode code 457 = .ok (.iconst 0, 1) := by decide +kernel
theorem d_W_law_458 : decode code 458 = .ok (.ireturn, 1) := by decide +kernel
theorem d_W_law_459 : decode code 459 = .ok (.aload_n 1, 1) := by decide +kernel
theorem d_W_law_460 : decode code 460 = .ok (.aload_n 0, 1) := by decide +kernel
theorem d_W_law_461 : decode code 461 = .ok (.iload_n 3, 1) := by decide +kernel
theorem d_W_law_462 : decode code 462 = .ok (.iconst 1, 1) := by decide +kernel
theorem d_W_law_463 : decode code 463 = .ok (.iadd, 1) := by decide +kernel
theorem d_W_law_464 : decode code 464 = .ok (.iaload, 1) := by decide +kernel
theorem d_W_law_465 : decode code 465 = .ok (.invokevirtual 36, 3) := by decide +kernel
theorem d_W_law_468 : decode code 468 = .ok (.aload_n 2, 1) := by decide +kernel
theorem d_W_law_469 : decode code 469 = .ok (.aload_n 0, 1) := by decide +kernel
theorem d_W_law_470 : decode code 470 = .ok (.iload_n 3, 1) := by decide +kernel
theorem d_W_law_471 : decode code 471 = .ok (.iconst 1, 1) := by decide +kernel
theorem d_W_law_472 : decode code 472 = .ok (.iadd, 1) := by decide +kernel
theorem d_W_law_473 : decode code 473 = .ok (.iaload, 1) := by decide +kernel
theorem d_W_law_474 : decode code 474 = .ok (.invokevirtual 40, 3) := by decide +kernel
theorem d_W_law_477 : decode code 477 = .ok (.if_icmp .eq 1346, 3) := by decide +kernel
theorem d_W_law_480 : decode code 480 = .ok (.iconst 0, 1) := by decide +kernel
theorem d_W_law_481 : decode code 481 = .ok (.ireturn, 1) := by decide +kernel
theorem d_W_law_482 : decode code 482 = .ok (.aload_n 1, 1) := by decide +kernel
theorem d_W_law_483 : decode code 483 = .ok (.aload_n 0, 1) := by decide +kernel
theorem d_W_law_484 : decode code 484 = .ok (.iload_n 3, 1) := by decide +kernel
theorem d_W_law_485 : decode code 485 = .ok (.iconst 1, 1) := by decide +kernel
theorem d_W_law_486 : decode code 486 = .ok (.iadd, 1) := by decide +kernel
theorem d_W_law_487 : decode code 487 = .ok (.iaload, 1) := by decide +kernel
theorem d_W_law_488 : decode code 488 = .ok (.invokevirtual 41, 3) := by decide +kernel
theorem d_W_law_491 : decode code 491 = .ok (.aload_n 2, 1) := by decide +kernel
theorem d_W_law_492 : decode code 492 = .ok (.aload_n 0, 1) := by decide +kernel
theorem d_W_law_493 : decode code 493 = .ok (.iload_n 3, 1) := by decide +kernel
theorem d_W_law_494 : decode code 494 = .ok (.iconst 1, 1) := by decide +kernel
theorem d_W_law_495 : decode code 495 = .ok (.iadd, 1) := by decide +kernel
theorem d_W_law_496 : decode code 496 = .ok (.iaload, 1) := by decide +kernel
theorem d_W_law_497 : decode code 497 = .ok (.invokevirtual 44, 3) := by decide +kernel
theorem d_W_law_500 : decode code 500 = .ok (.if_icmp .eq 1323, 3) := by decide +kernel
theorem d_W_law_503 : decode code 503 = .ok (.iconst 0, 1) := by decide +kernel
theorem d_W_law_504 : decode code 504 = .ok (.ireturn, 1) := by decide +kernel
theorem d_W_law_505 : decode code 505 = .ok (.aload_n 1, 1) := by decide +kernel
theorem d_W_law_506 : decode code 506 = .ok (.aload_n 0, 1) := by decide +kernel
theorem d_W_law_507 : decode code 507 = .ok (.iload_n 3, 1) := by decide +kernel
theorem d_W_law_508 : decode code 508 = .ok (.iconst 1, 1) := by decide +kernel
theorem d_W_law_509 : decode code 509 = .ok (.iadd, 1) := by decide +kernel
theorem d_W_law_510 : decode code 510 = .ok (.iaload, 1) := by decide +kernel
theorem d_W_law_511 : decode code 511 = .ok (.invokevirtual 45, 3) := by decide +kernel
theorem d_W_law_514 : decode code 514 = .ok (.aload_n 2, 1) := by decide +kernel
theorem d_W_law_515 : decode code 515 = .ok (.aload_n 0, 1) := by decide +kernel
theorem d_W_law_516 : decode code 516 = .ok (.iload_n 3, 1) := by decide +kernel
theorem d_W_law_517 : decode code 517 = .ok (.iconst 1, 1) := by decide +kernel
theorem d_W_law_518 : decode code 518 = .ok (.iadd, 1) := by decide +kernel
theorem d_W_law_519 : decode code 519 = .ok (.iaload, 1) := by decide +kernel
theorem d_W_law_520 : decode code 520 = .ok (.invokevirtual 48, 3) := by decide +kernel
theorem d_W_law_523 : decode code 523 = .ok (.if_icmp .eq 1300, 3) := by decide +kernel
theorem d_W_law_526 : decode code 526 = .ok (.iconst 0, 1) := by decide +kernel
theorem d_W_law_527 : decode code 527 = .ok (.ireturn, 1) := by decide +kernel
theorem d_W_law_528 : decode code 528 = .ok (.aload_n 1, 1) := by decide +kernel
theorem d_W_law_529 : decode code 529 = .ok (.aload_n 0, 1) := by decide +kernel
theorem d_W_law_530 : decode code 530 = .ok (.iload_n 3, 1) := by decide +kernel
theorem d_W_law_531 : decode code 531 = .ok (.iconst 1, 1) := by decide +kernel
theorem d_W_law_532 : decode code 532 = .ok (.iadd, 1) := by decide +kernel
theorem d_W_law_533 : decode code 533 = .ok (.iaload, 1) := by decide +kernel
theorem d_W_law_534 : decode code 534 = .ok (.aload_n 0, 1) := by decide +kernel
theorem d_W_law_535 : decode code 535 = .ok (.iload_n 3, 1) := by decide +kernel
theorem d_W_law_536 : decode code 536 = .ok (.iconst 2, 1) := by decide +kernel
theorem d_W_law_537 : decode code 537 = .ok (.iadd, 1) := by decide +kernel
theorem d_W_law_538 : decode code 538 = .ok (.iaload, 1) := by decide +kernel
theorem d_W_law_539 : decode code 539 = .ok (.invokevirtual 49, 3) := by decide +kernel
theorem d_W_law_542 : decode code 542 = .ok (.aload_n 2, 1) := by decide +kernel
theorem d_W_law_543 : decode code 543 = .ok (.aload_n 0, 1) := by decide +kernel
theorem d_W_law_544 : decode code 544 = .ok (.iload_n 3, 1) := by decide +kernel
theorem d_W_law_545 : decode code 545 = .ok (.iconst 1, 1) := by decide +kernel
theorem d_W_law_546 : decode code 546 = .ok (.iadd, 1) := by decide +kernel
theorem d_W_law_547 : decode code 547 = .ok (.iaload, 1) := by decide +kernel
theorem d_W_law_548 : decode code 548 = .ok (.aload_n 0, 1) := by decide +kernel
theorem d_W_law_549 : decode code 549 = .ok (.iload_n 3, 1) := by decide +kernel
theorem d_W_law_550 : decode code 550 = .ok (.iconst 2, 1) := by decide +kernel
theorem d_W_law_551 : decode code 551 = .ok (.iadd, 1) := by decide +kernel
theorem d_W_law_552 : decode code 552 = .ok (.iaload, 1) := by decide +kernel
theorem d_W_law_553 : decode code 553 = .ok (.invokevirtual 52, 3) := by decide +kernel
theorem d_W_law_556 : decode code 556 = .ok (.if_icmp .eq 1267, 3) := by decide +kernel
theorem d_W_law_559 : decode code 559 = .ok (.iconst 0, 1) := by decide +kernel
theorem d_W_law_560 : decode code 560 = .ok (.ireturn, 1) := by decide +kernel
theorem d_W_law_561 : decode code 561 = .ok (.aload_n 1, 1) := by decide +kernel
theorem d_W_law_562 : decode code 562 = .ok (.aload_n 0, 1) := by decide +kernel
theorem d_W_law_563 : decode code 563 = .ok (.iload_n 3, 1) := by decide +kernel
theorem d_W_law_564 : decode code 564 = .ok (.iconst 1, 1) := by decide +kernel
theorem d_W_law_565 : decode code 565 = .ok (.iadd, 1) := by decide +kernel
theorem d_W_law_566 : decode code 566 = .ok (.iaload, 1) := by decide +kernel
theorem d_W_law_567 : decode code 567 = .ok (.aload_n 0, 1) := by decide +kernel
theorem d_W_law_568 : decode code 568 = .ok (.iload_n 3, 1) := by decide +kernel
theorem d_W_law_569 : decode code 569 = .ok (.iconst 2, 1) := by decide +kernel
theorem d_W_law_570 : decode code 570 = .ok (.iadd, 1) := by decide +kernel
theorem d_W_law_571 : decode code 571 = .ok (.iaload, 1) := by decide +kernel
theorem d_W_law_572 : decode code 572 = .ok (.invokevirtual 53, 3) := by decide +kernel
theorem d_W_law_575 : decode code 575 = .ok (.aload_n 2, 1) := by decide +kernel
theorem d_W_law_576 : decode code 576 = .ok (.aload_n 0, 1) := by decide +kernel
theorem d_W_law_577 : decode code 577 = .ok (.iload_n 3, 1) := by decide +kernel
theorem d_W_law_578 : decode code 578 = .ok (.iconst 1, 1) := by decide +kernel
theorem d_W_law_579 : decode code 579 = .ok (.iadd, 1) := by decide +kernel
theorem d_W_law_580 : decode code 580 = .ok (.iaload, 1) := by decide +kernel
theorem d_W_law_581 : decode code 581 = .ok (.aload_n 0, 1) := by decide +kernel
theorem d_W_law_582 : decode code 582 = .ok (.iload_n 3, 1) := by decide +kernel
theorem d_W_law_583 : decode code 583 = .ok (.iconst 2, 1) := by decide +kernel
theorem d_W_law_584 : decode code 584 = .ok (.iadd, 1) := by decide +kernel
theorem d_W_law_585 : decode code 585 = .ok (.iaload, 1) := by decide +kernel
theorem d_W_law_586 : decode code 586 = .ok (.invokevirtual 56, 3) := by decide +kernel
theorem d_W_law_589 : decode code 589 = .ok (.if_icmp .eq 1234, 3) := by decide +kernel
theorem d_W_law_592 : decode code 592 = .ok (.iconst 0, 1) := by decide +kernel
theorem d_W_law_593 : decode code 593 = .ok (.ireturn, 1) := by decide +kernel
theorem d_W_law_594 : decode code 594 = .ok (.aload_n 1, 1) := by decide +kernel
theorem d_W_law_595 : decode code 595 = .ok (.aload_n 0, 1) := by decide +kernel
theorem d_W_law_596 : decode code 596 = .ok (.iload_n 3, 1) := by decide +kernel
theorem d_W_law_597 : decode code 597 = .ok (.iconst 1, 1) := by decide +kernel
theorem d_W_law_598 : decode code 598 = .ok (.iadd, 1) := by decide +kernel
theorem d_W_law_599 : decode code 599 = .ok (.iaload, 1) := by decide +kernel
theorem d_W_law_600 : decode code 600 = .ok (.invokevirtual 57, 3) := by decide +kernel
theorem d_W_law_603 : decode code 603 = .ok (.aload_n 2, 1) := by decide +kernel
theorem d_W_law_604 : decode code 604 = .ok (.aload_n 0, 1) := by decide +kernel
theorem d_W_law_605 : decode code 605 = .ok (.iload_n 3, 1) := by decide +kernel
theorem d_W_law_606 : decode code 606 = .ok (.iconst 1, 1) := by decide +kernel
theorem d_W_law_607 : decode code 607 = .ok (.iadd, 1) := by decide +kernel
theorem d_W_law_608 : decode code 608 = .ok (.iaload, 1) := by decide +kernel
theorem d_W_law_609 : decode code 609 = .ok (.invokevirtual 60, 3) := by decide +kernel
theorem d_W_law_612 : decode code 612 = .ok (.if_icmp .eq 1211, 3) := by decide +kernel
theorem d_W_law_615 : decode code 615 = .ok (.iconst 0, 1) := by decide +kernel
theorem d_W_law_616 : decode code 616 = .ok (.ireturn, 1) := by decide +kernel
theorem d_W_law_617 : decode code 617 = .ok (.aload_n 1, 1) := by decide +kernel
theorem d_W_law_618 : decode code 618 = .ok (.aload_n 0, 1) := by decide +kernel
theorem d_W_law_619 : decode code 619 = .ok (.iload_n 3, 1) := by decide +kernel
theorem d_W_law_620 : decode code 620 = .ok (.iconst 1, 1) := by decide +kernel
theorem d_W_law_621 : decode code 621 = .ok (.iadd, 1) := by decide +kernel
theorem d_W_law_622 : decode code 622 = .ok (.iaload, 1) := by decide +kernel
theorem d_W_law_623 : decode code 623 = .ok (.aload_n 0, 1) := by decide +kernel
theorem d_W_law_624 : decode code 624 = .ok (.iload_n 3, 1) := by decide +kernel
theorem d_W_law_625 : decode code 625 = .ok (.iconst 2, 1) := by decide +kernel
theorem d_W_law_626 : decode code 626 = .ok (.iadd, 1) := by decide +kernel
theorem d_W_law_627 : decode code 627 = .ok (.iaload, 1) := by decide +kernel
theorem d_W_law_628 : decode code 628 = .ok (.invokevirtual 61, 3) := by decide +kernel
theorem d_W_law_631 : decode code 631 = .ok (.aload_n 2, 1) := by decide +kernel
theorem d_W_law_632 : decode code 632 = .ok (.aload_n 0, 1) := by decide +kernel
theorem d_W_law_633 : decode code 633 = .ok (.iload_n 3, 1) := by decide +kernel
theorem d_W_law_634 : decode code 634 = .ok (.iconst 1, 1) := by decide +kernel
theorem d_W_law_635 : decode code 635 = .ok (.iadd, 1) := by decide +kernel
theorem d_W_law_636 : decode code 636 = .ok (.iaload, 1) := by decide +kernel
theorem d_W_law_637 : decode code 637 = .ok (.aload_n 0, 1) := by decide +kernel
theorem d_W_law_638 : decode code 638 = .ok (.iload_n 3, 1) := by decide +kernel
theorem d_W_law_639 : decode code 639 = .ok (.iconst 2, 1) := by decide +kernel
theorem d_W_law_640 : decode code 640 = .ok (.iadd, 1) := by decide +kernel
theorem d_W_law_641 : decode code 641 = .ok (.iaload, 1) := by decide +kernel
theorem d_W_law_642 : decode code 642 = .ok (.invokevirtual 64, 3) := by decide +kernel
theorem d_W_law_645 : decode code 645 = .ok (.if_icmp .eq 1178, 3) := by decide +kernel
theorem d_W_law_648 : decode code 648 = .ok (.iconst 0, 1) := by decide +kernel
theorem d_W_law_649 : decode code 649 = .ok (.ireturn, 1) := by decide +kernel
theorem d_W_law_650 : decode code 650 = .ok (.aload_n 1, 1) := by decide +kernel
theorem d_W_law_651 : decode code 651 = .ok (.aload_n 0, 1) := by decide +kernel
theorem d_W_law_652 : decode code 652 = .ok (.iload_n 3, 1) := by decide +kernel
theorem d_W_law_653 : decode code 653 = .ok (.iconst 1, 1) := by decide +kernel
theorem d_W_law_654 : decode code 654 = .ok (.iadd, 1) := by decide +kernel
theorem d_W_law_655 : decode code 655 = .ok (.iaload, 1) := by decide +kernel
theorem d_W_law_656 : decode code 656 = .ok (.aload_n 0, 1) := by decide +kernel
theorem d_W_law_657 : decode code 657 = .ok (.iload_n 3, 1) := by decide +kernel
theorem d_W_law_658 : decode code 658 = .ok (.iconst 2, 1) := by decide +kernel
theorem d_W_law_659 : decode code 659 = .ok (.iadd, 1) := by decide +kernel
theorem d_W_law_660 : decode code 660 = .ok (.iaload, 1) := by decide +kernel
theorem d_W_law_661 : decode code 661 = .ok (.invokevirtual 65, 3) := by decide +kernel
theorem d_W_law_664 : decode code 664 = .ok (.aload_n 2, 1) := by decide +kernel
theorem d_W_law_665 : decode code 665 = .ok (.aload_n 0, 1) := by decide +kernel
theorem d_W_law_666 : decode code 666 = .ok (.iload_n 3, 1) := by decide +kernel
theorem d_W_law_667 : decode code 667 = .ok (.iconst 1, 1) := by decide +kernel
theorem d_W_law_668 : decode code 668 = .ok (.iadd, 1) := by decide +kernel
theorem d_W_law_669 : decode code 669 = .ok (.iaload, 1) := by decide +kernel
theorem d_W_law_670 : decode code 670 = .ok (.aload_n 0, 1) := by decide +kernel
theorem d_W_law_671 : decode code 671 = .ok (.iload_n 3, 1) := by decide +kernel
theorem d_W_law_672 : decode code 672 = .ok (.iconst 2, 1) := by decide +kernel
theorem d_W_law_673 : decode code 673 = .ok (.iadd, 1) := by decide +kernel
theorem d_W_law_674 : decode code 674 = .ok (.iaload, 1) := by decide +kernel
theorem d_W_law_675 : decode code 675 = .ok (.invokevirtual 68, 3) := by decide +kernel
theorem d_W_law_678 : decode code 678 = .ok (.if_icmp .eq 1145, 3) := by decide +kernel
theorem d_W_law_681 : decode code 681 = .ok (.iconst 0, 1) := by decide +kernel
theorem d_W_law_682 : decode code 682 = .ok (.ireturn, 1) := by decide +kernel
theorem d_W_law_683 : decode code 683 = .ok (.aload_n 1, 1) := by decide +kernel
theorem d_W_law_684 : decode code 684 = .ok (.aload_n 0, 1) := by decide +kernel
theorem d_W_law_685 : decode code 685 = .ok (.iload_n 3, 1) := by decide +kernel
theorem d_W_law_686 : decode code 686 = .ok (.iconst 1, 1) := by decide +kernel
theorem d_W_law_687 : decode code 687 = .ok (.iadd, 1) := by decide +kernel
theorem d_W_law_688 : decode code 688 = .ok (.iaload, 1) := by decide +kernel
theorem d_W_law_689 : decode code 689 = .ok (.invokevirtual 69, 3) := by decide +kernel
theorem d_W_law_692 : decode code 692 = .ok (.aload_n 2, 1) := by decide +kernel
theorem d_W_law_693 : decode code 693 = .ok (.aload_n 0, 1) := by decide +kernel
theorem d_W_law_694 : decode code 694 = .ok (.iload_n 3, 1) := by decide +kernel
theorem d_W_law_695 : decode code 695 = .ok (.iconst 1, 1) := by decide +kernel
theorem d_W_law_696 : decode code 696 = .ok (.iadd, 1) := by decide +kernel
theorem d_W_law_697 : decode code 697 = .ok (.iaload, 1) := by decide +kernel
theorem d_W_law_698 : decode code 698 = .ok (.invokevirtual 72, 3) := by decide +kernel
theorem d_W_law_701 : decode code 701 = .ok (.if_icmp .eq 1122, 3) := by decide +kernel
theorem d_W_law_704 : decode code 704 = .ok (.iconst 0, 1) := by decide +kernel
theorem d_W_law_705 : decode code 705 = .ok (.ireturn, 1) := by decide +kernel
theorem d_W_law_706 : decode code 706 = .ok (.aload_n 1, 1) := by decide +kernel
theorem d_W_law_707 : decode code 707 = .ok (.aload_n 0, 1) := by decide +kernel
theorem d_W_law_708 : decode code 708 = .ok (.iload_n 3, 1) := by decide +kernel
theorem d_W_law_709 : decode code 709 = .ok (.iconst 1, 1) := by decide +kernel
theorem d_W_law_710 : decode code 710 = .ok (.iadd, 1) := by decide +kernel
theorem d_W_law_711 : decode code 711 = .ok (.iaload, 1) := by decide +kernel
theorem d_W_law_712 : decode code 712 = .ok (.aload_n 0, 1) := by decide +kernel
theorem d_W_law_713 : decode code 713 = .ok (.iload_n 3, 1) := by decide +kernel
theorem d_W_law_714 : decode code 714 = .ok (.iconst 2, 1) := by decide +kernel
theorem d_W_law_715 : decode code 715 = .ok (.iadd, 1) := by decide +kernel
theorem d_W_law_716 : decode code 716 = .ok (.iaload, 1) := by decide +kernel
theorem d_W_law_717 : decode code 717 = .ok (.aload_n 0, 1) := by decide +kernel
theorem d_W_law_718 : decode code 718 = .ok (.iload_n 3, 1) := by decide +kernel
theorem d_W_law_719 : decode code 719 = .ok (.iconst 3, 1) := by decide +kernel
theorem d_W_law_720 : decode code 720 = .ok (.iadd, 1) := by decide +kernel
theorem d_W_law_721 : decode code 721 = .ok (.iaload, 1) := by decide +kernel
theorem d_W_law_722 : decode code 722 = .ok (.invokevirtual 73, 3) := by decide +kernel
theorem d_W_law_725 : decode code 725 = .ok (.aload_n 2, 1) := by decide +kernel
theorem d_W_law_726 : decode code 726 = .ok (.aload_n 0, 1) := by decide +kernel
theorem d_W_law_727 : decode code 727 = .ok (.iload_n 3, 1) := by decide +kernel
theorem d_W_law_728 : decode code 728 = .ok (.iconst 1, 1) := by decide +kernel
theorem d_W_law_729 : decode code 729 = .ok (.iadd, 1) := by decide +kernel
theorem d_W_law_730 : decode code 730 = .ok (.iaload, 1) := by decide +kernel
theorem d_W_law_731 : decode code 731 = .ok (.aload_n 0, 1) := by decide +kernel
theorem d_W_law_732 : decode code 732 = .ok (.iload_n 3, 1) := by decide +kernel
theorem d_W_law_733 : decode code 733 = .ok (.iconst 2, 1) := by decide +kernel
theorem d_W_law_734 : decode code 734 = .ok (.iadd, 1) := by decide +kernel
theorem d_W_law_735 : decode code 735 = .ok (.iaload, 1) := by decide +kernel
theorem d_W_law_736 : decode code 736 = .ok (.aload_n 0, 1) := by decide +kernel
theorem d_W_law_737 : decode code 737 = .ok (.iload_n 3, 1) := by decide +kernel
theorem d_W_law_738 : decode code 738 = .ok (.iconst 3, 1) := by decide +kernel
theorem d_W_law_739 : decode code 739 = .ok (.iadd, 1) := by decide +kernel
theorem d_W_law_740 : decode code 740 = .ok (.iaload, 1) := by decide +kernel
theorem d_W_law_741 : decode code 741 = .ok (.invokevirtual 76, 3) := by decide +kernel
theorem d_W_law_744 : decode code 744 = .ok (.if_icmp .eq 1079, 3) := by decide +kernel
theorem d_W_law_747 : decode code 747 = .ok (.iconst 0, 1) := by decide +kernel
theorem d_W_law_748 : decode code 748 = .ok (.ireturn, 1) := by decide +kernel
theorem d_W_law_749 : decode code 749 = .ok (.aload_n 1, 1) := by decide +kernel
theorem d_W_law_750 : decode code 750 = .ok (.aload_n 0, 1) := by decide +kernel
theorem d_W_law_751 : decode code 751 = .ok (.iload_n 3, 1) := by decide +kernel
theorem d_W_law_752 : decode code 752 = .ok (.iconst 1, 1) := by decide +kernel
theorem d_W_law_753 : decode code 753 = .ok (.iadd, 1) := by decide +kernel
theorem d_W_law_754 : decode code 754 = .ok (.iaload, 1) := by decide +kernel
theorem d_W_law_755 : decode code 755 = .ok (.invokevirtual 77, 3) := by decide +kernel
theorem d_W_law_758 : decode code 758 = .ok (.aload_n 2, 1) := by decide +kernel
theorem d_W_law_759 : decode code 759 = .ok (.aload_n 0, 1) := by decide +kernel
theorem d_W_law_760 : decode code 760 = .ok (.iload_n 3, 1) := by decide +kernel
theorem d_W_law_761 : decode code 761 = .ok (.iconst 1, 1) := by decide +kernel
theorem d_W_law_762 : decode code 762 = .ok (.iadd, 1) := by decide +kernel
theorem d_W_law_763 : decode code 763 = .ok (.iaload, 1) := by decide +kernel
theorem d_W_law_764 : decode code 764 = .ok (.invokevirtual 80, 3) := by decide +kernel
theorem d_W_law_767 : decode code 767 = .ok (.if_icmp .eq 1056, 3) := by decide +kernel
theorem d_W_law_770 : decode code 770 = .ok (.iconst 0, 1) := by decide +kernel
theorem d_W_law_771 : decode code 771 = .ok (.ireturn, 1) := by decide +kernel
theorem d_W_law_772 : decode code 772 = .ok (.aload_n 1, 1) := by decide +kernel
theorem d_W_law_773 : decode code 773 = .ok (.aload_n 0, 1) := by decide +kernel
theorem d_W_law_774 : decode code 774 = .ok (.iload_n 3, 1) := by decide +kernel
theorem d_W_law_775 : decode code 775 = .ok (.iconst 1, 1) := by decide +kernel
theorem d_W_law_776 : decode code 776 = .ok (.iadd, 1) := by decide +kernel
theorem d_W_law_777 : decode code 777 = .ok (.iaload, 1) := by decide +kernel
theorem d_W_law_778 : decode code 778 = .ok (.aload_n 0, 1) := by decide +kernel
theorem d_W_law_779 : decode code 779 = .ok (.iload_n 3, 1) := by decide +kernel
theorem d_W_law_780 : decode code 780 = .ok (.iconst 2, 1) := by decide +kernel
theorem d_W_law_781 : decode code 781 = .ok (.iadd, 1) := by decide +kernel
theorem d_W_law_782 : decode code 782 = .ok (.iaload, 1) := by decide +kernel
theorem d_W_law_783 : decode code 783 = .ok (.invokevirtual 81, 3) := by decide +kernel
theorem d_W_law_786 : decode code 786 = .ok (.aload_n 2, 1) := by decide +kernel
theorem d_W_law_787 : decode code 787 = .ok (.aload_n 0, 1) := by decide +kernel
theorem d_W_law_788 : decode code 788 = .ok (.iload_n 3, 1) := by decide +kernel
theorem d_W_law_789 : decode code 789 = .ok (.iconst 1, 1) := by decide +kernel
theorem d_W_law_790 : decode code 790 = .ok (.iadd, 1) := by decide +kernel
theorem d_W_law_791 : decode code 791 = .ok (.iaload, 1) := by decide +kernel
theorem d_W_law_792 : decode code 792 = .ok (.aload_n 0, 1) := by decide +kernel
theorem d_W_law_793 : decode code 793 = .ok (.iload_n 3, 1) := by decide +kernel
theorem d_W_law_794 : decode code 794 = .ok (.iconst 2, 1) := by decide +kernel
theorem d_W_law_795 : decode code 795 = .ok (.iadd, 1) := by decide +kernel
theorem d_W_law_796 : decode code 796 = .ok (.iaload, 1) := by decide +kernel
theorem d_W_law_797 : decode code 797 = .ok (.invokevirtual 84, 3) := by decide +kernel
theorem d_W_law_800 : decode code 800 = .ok (.if_icmp .eq 1023, 3) := by decide +kernel
theorem d_W_law_803 : decode code 803 = .ok (.iconst 0, 1) := by decide +kernel
theorem d_W_law_804 : decode code 804 = .ok (.ireturn, 1) := by decide +kernel
theorem d_W_law_805 : decode code 805 = .ok (.aload_n 1, 1) := by decide +kernel
theorem d_W_law_806 : decode code 806 = .ok (.aload_n 0, 1) := by decide +kernel
theorem d_W_law_807 : decode code 807 = .ok (.iload_n 3, 1) := by decide +kernel
theorem d_W_law_808 : decode code 808 = .ok (.iconst 1, 1) := by decide +kernel
theorem d_W_law_809 : decode code 809 = .ok (.iadd, 1) := by decide +kernel
theorem d_W_law_810 : decode code 810 = .ok (.iaload, 1) := by decide +kernel
theorem d_W_law_811 : decode code 811 = .ok (.aload_n 0, 1) := by decide +kernel
theorem d_W_law_812 : decode code 812 = .ok (.iload_n 3, 1) := by decide +kernel
theorem d_W_law_813 : decode code 813 = .ok (.iconst 2, 1) := by decide +kernel
theorem d_W_law_814 : decode code 814 = .ok (.iadd, 1) := by decide +kernel
theorem d_W_law_815 : decode code 815 = .ok (.iaload, 1) := by decide +kernel
theorem d_W_law_816 : decode code 816 = .ok (.invokevirtual 85, 3) := by decide +kernel
theorem d_W_law_819 : decode code 819 = .ok (.aload_n 2, 1) := by decide +kernel
theorem d_W_law_820 : decode code 820 = .ok (.aload_n 0, 1) := by decide +kernel
theorem d_W_law_821 : decode code 821 = .ok (.iload_n 3, 1) := by decide +kernel
theorem d_W_law_822 : decode code 822 = .ok (.iconst 1, 1) := by decide +kernel
theorem d_W_law_823 : decode code 823 = .ok (.iadd, 1) := by decide +kernel
theorem d_W_law_824 : decode code 824 = .ok (.iaload, 1) := by decide +kernel
theorem d_W_law_825 : decode code 825 = .ok (.aload_n 0, 1) := by decide +kernel
theorem d_W_law_826 : decode code 826 = .ok (.iload_n 3, 1) := by decide +kernel
theorem d_W_law_827 : decode code 827 = .ok (.iconst 2, 1) := by decide +kernel
theorem d_W_law_828 : decode code 828 = .ok (.iadd, 1) := by decide +kernel
theorem d_W_law_829 : decode code 829 = .ok (.iaload, 1) := by decide +kernel
theorem d_W_law_830 : decode code 830 = .ok (.invokevirtual 88, 3) := by decide +kernel
theorem d_W_law_833 : decode code 833 = .ok (.if_icmp .eq 990, 3) := by decide +kernel
theorem d_W_law_836 : decode code 836 = .ok (.iconst 0, 1) := by decide +kernel
theorem d_W_law_837 : decode code 837 = .ok (.ireturn, 1) := by decide +kernel
theorem d_W_law_838 : decode code 838 = .ok (.aload_n 1, 1) := by decide +kernel
theorem d_W_law_839 : decode code 839 = .ok (.aload_n 0, 1) := by decide +kernel
theorem d_W_law_840 : decode code 840 = .ok (.iload_n 3, 1) := by decide +kernel
theorem d_W_law_841 : decode code 841 = .ok (.iconst 1, 1) := by decide +kernel
theorem d_W_law_842 : decode code 842 = .ok (.iadd, 1) := by decide +kernel
theorem d_W_law_843 : decode code 843 = .ok (.iaload, 1) := by decide +kernel
theorem d_W_law_844 : decode code 844 = .ok (.aload_n 0, 1) := by decide +kernel
theorem d_W_law_845 : decode code 845 = .ok (.iload_n 3, 1) := by decide +kernel
theorem d_W_law_846 : decode code 846 = .ok (.iconst 2, 1) := by decide +kernel
theorem d_W_law_847 : decode code 847 = .ok (.iadd, 1) := by decide +kernel
theorem d_W_law_848 : decode code 848 = .ok (.iaload, 1) := by decide +kernel
theorem d_W_law_849 : decode code 849 = .ok (.invokevirtual 89, 3) := by decide +kernel
theorem d_W_law_852 : decode code 852 = .ok (.aload_n 2, 1) := by decide +kernel
theorem d_W_law_853 : decode code 853 = .ok (.aload_n 0, 1) := by decide +kernel
theorem d_W_law_854 : decode code 854 = .ok (.iload_n 3, 1) := by decide +kernel
theorem d_W_law_855 : decode code 855 = .ok (.iconst 1, 1) := by decide +kernel
theorem d_W_law_856 : decode code 856 = .ok (.iadd, 1) := by decide +kernel
theorem d_W_law_857 : decode code 857 = .ok (.iaload, 1) := by decide +kernel
theorem d_W_law_858 : decode code 858 = .ok (.aload_n 0, 1) := by decide +kernel
theorem d_W_law_859 : decode code 859 = .ok (.iload_n 3, 1) := by decide +kernel
theorem d_W_law_860 : decode code 860 = .ok (.iconst 2, 1) := by decide +kernel
theorem d_W_law_861 : decode code 861 = .ok (.iadd, 1) := by decide +kernel
theorem d_W_law_862 : decode code 862 = .ok (.iaload, 1) := by decide +kernel
theorem d_W_law_863 : decode code 863 = .ok (.invokevirtual 92, 3) := by decide +kernel
theorem d_W_law_866 : decode code 866 = .ok (.if_icmp .eq 957, 3) := by decide +kernel
theorem d_W_law_869 : decode code 869 = .ok (.iconst 0, 1) := by decide +kernel
theorem d_W_law_870 : decode code 870 = .ok (.ireturn, 1) := by decide +kernel
theorem d_W_law_871 : decode code 871 = .ok (.aload_n 1, 1) := by decide +kernel
theorem d_W_law_872 : decode code 872 = .ok (.aload_n 0, 1) := by decide +kernel
theorem d_W_law_873 : decode code 873 = .ok (.iload_n 3, 1) := by decide +kernel
theorem d_W_law_874 : decode code 874 = .ok (.iconst 1, 1) := by decide +kernel
theorem d_W_law_875 : decode code 875 = .ok (.iadd, 1) := by decide +kernel
theorem d_W_law_876 : decode code 876 = .ok (.iaload, 1) := by decide +kernel
theorem d_W_law_877 : decode code 877 = .ok (.aload_n 0, 1) := by decide +kernel
theorem d_W_law_878 : decode code 878 = .ok (.iload_n 3, 1) := by decide +kernel
theorem d_W_law_879 : decode code 879 = .ok (.iconst 2, 1) := by decide +kernel
theorem d_W_law_880 : decode code 880 = .ok (.iadd, 1) := by decide +kernel
theorem d_W_law_881 : decode code 881 = .ok (.iaload, 1) := by decide +kernel
theorem d_W_law_882 : decode code 882 = .ok (.aload_n 0, 1) := by decide +kernel
theorem d_W_law_883 : decode code 883 = .ok (.iload_n 3, 1) := by decide +kernel
theorem d_W_law_884 : decode code 884 = .ok (.iconst 3, 1) := by decide +kernel
theorem d_W_law_885 : decode code 885 = .ok (.iadd, 1) := by decide +kernel
theorem d_W_law_886 : decode code 886 = .ok (.iaload, 1) := by decide +kernel
theorem d_W_law_887 : decode code 887 = .ok (.aload_n 0, 1) := by decide +kernel
theorem d_W_law_888 : decode code 888 = .ok (.iload_n 3, 1) := by decide +kernel
theorem d_W_law_889 : decode code 889 = .ok (.iconst 4, 1) := by decide +kernel
theorem d_W_law_890 : decode code 890 = .ok (.iadd, 1) := by decide +kernel
theorem d_W_law_891 : decode code 891 = .ok (.iaload, 1) := by decide +kernel
theorem d_W_law_892 : decode code 892 = .ok (.aload_n 0, 1) := by decide +kernel
theorem d_W_law_893 : decode code 893 = .ok (.iload_n 3, 1) := by decide +kernel
theorem d_W_law_894 : decode code 894 = .ok (.iconst 5, 1) := by decide +kernel
theorem d_W_law_895 : decode code 895 = .ok (.iadd, 1) := by decide +kernel
theorem d_W_law_896 : decode code 896 = .ok (.iaload, 1) := by decide +kernel
theorem d_W_law_897 : decode code 897 = .ok (.aload_n 0, 1) := by decide +kernel
theorem d_W_law_898 : decode code 898 = .ok (.iload_n 3, 1) := by decide +kernel
theorem d_W_law_899 : decode code 899 = .ok (.bipush 6, 2) := by decide +kernel
theorem d_W_law_901 : decode code 901 = .ok (.iadd, 1) := by decide +kernel
theorem d_W_law_902 : decode code 902 = .ok (.iaload, 1) := by decide +kernel
theorem d_W_law_903 : decode code 903 = .ok (.invokevirtual 93, 3) := by decide +kernel
theorem d_W_law_906 : decode code 906 = .ok (.aload_n 2, 1) := by decide +kernel
theorem d_W_law_907 : decode code 907 = .ok (.aload_n 0, 1) := by decide +kernel
theorem d_W_law_908 : decode code 908 = .ok (.iload_n 3, 1) := by decide +kernel
theorem d_W_law_909 : decode code 909 = .ok (.iconst 1, 1) := by decide +kernel
theorem d_W_law_910 : decode code 910 = .ok (.iadd, 1) := by decide +kernel
theorem d_W_law_911 : decode code 911 = .ok (.iaload, 1) := by decide +kernel
theorem d_W_law_912 : decode code 912 = .ok (.aload_n 0, 1) := by decide +kernel
theorem d_W_law_913 : decode code 913 = .ok (.iload_n 3, 1) := by decide +kernel
theorem d_W_law_914 : decode code 914 = .ok (.iconst 2, 1) := by decide +kernel
theorem d_W_law_915 : decode code 915 = .ok (.iadd, 1) := by decide +kernel
theorem d_W_law_916 : decode code 916 = .ok (.iaload, 1) := by decide +kernel
theorem d_W_law_917 : decode code 917 = .ok (.aload_n 0, 1) := by decide +kernel
theorem d_W_law_918 : decode code 918 = .ok (.iload_n 3, 1) := by decide +kernel
theorem d_W_law_919 : decode code 919 = .ok (.iconst 3, 1) := by decide +kernel
theorem d_W_law_920 : decode code 920 = .ok (.iadd, 1) := by decide +kernel
theorem d_W_law_921 : decode code 921 = .ok (.iaload, 1) := by decide +kernel
theorem d_W_law_922 : decode code 922 = .ok (.aload_n 0, 1) := by decide +kernel
theorem d_W_law_923 : decode code 923 = .ok (.iload_n 3, 1) := by decide +kernel
theorem d_W_law_924 : decode code 924 = .ok (.iconst 4, 1) := by decide +kernel
theorem d_W_law_925 : decode code 925 = .ok (.iadd, 1) := by decide +kernel
theorem d_W_law_926 : decode code 926 = .ok (.iaload, 1) := by decide +kernel
theorem d_W_law_927 : decode code 927 = .ok (.aload_n 0, 1) := by decide +kernel
theorem d_W_law_928 : decode code 928 = .ok (.iload_n 3, 1) := by decide +kernel
theorem d_W_law_929 : decode code 929 = .ok (.iconst 5, 1) := by decide +kernel
theorem d_W_law_930 : decode code 930 = .ok (.iadd, 1) := by decide +kernel
theorem d_W_law_931 : decode code 931 = .ok (.iaload, 1) := by decide +kernel
theorem d_W_law_932 : decode code 932 = .ok (.aload_n 0, 1) := by decide +kernel
theorem d_W_law_933 : decode code 933 = .ok (.iload_n 3, 1) := by decide +kernel
theorem d_W_law_934 : decode code 934 = .ok (.bipush 6, 2) := by decide +kernel
theorem d_W_law_936 : decode code 936 = .ok (.iadd, 1) := by decide +kernel
theorem d_W_law_937 : decode code 937 = .ok (.iaload, 1) := by decide +kernel
theorem d_W_law_938 : decode code 938 = .ok (.invokevirtual 97, 3) := by decide +kernel
theorem d_W_law_941 : decode code 941 = .ok (.if_icmp .eq 882, 3) := by decide +kernel
theorem d_W_law_944 : decode code 944 = .ok (.iconst 0, 1) := by decide +kernel
theorem d_W_law_945 : decode code 945 = .ok (.ireturn, 1) := by decide +kernel
theorem d_W_law_946 : decode code 946 = .ok (.aload_n 1, 1) := by decide +kernel
theorem d_W_law_947 : decode code 947 = .ok (.aload_n 0, 1) := by decide +kernel
theorem d_W_law_948 : decode code 948 = .ok (.iload_n 3, 1) := by decide +kernel
theorem d_W_law_949 : decode code 949 = .ok (.iconst 1, 1) := by decide +kernel
theorem d_W_law_950 : decode code 950 = .ok (.iadd, 1) := by decide +kernel
theorem d_W_law_951 : decode code 951 = .ok (.iaload, 1) := by decide +kernel
theorem d_W_law_952 : decode code 952 = .ok (.aload_n 0, 1) := by decide +kernel
theorem d_W_law_953 : decode code 953 = .ok (.iload_n 3, 1) := by decide +kernel
theorem d_W_law_954 : decode code 954 = .ok (.iconst 2, 1) := by decide +kernel
theorem d_W_law_955 : decode code 955 = .ok (.iadd, 1) := by decide +kernel
theorem d_W_law_956 : decode code 956 = .ok (.iaload, 1) := by decide +kernel
theorem d_W_law_957 : decode code 957 = .ok (.aload_n 0, 1) := by decide +kernel
theorem d_W_law_958 : decode code 958 = .ok (.iload_n 3, 1) := by decide +kernel
theorem d_W_law_959 : decode code 959 = .ok (.iconst 3, 1) := by decide +kernel
theorem d_W_law_960 : decode code 960 = .ok (.iadd, 1) := by decide +kernel
theorem d_W_law_961 : decode code 961 = .ok (.iaload, 1) := by decide +kernel
theorem d_W_law_962 : decode code 962 = .ok (.invokevirtual 98, 3) := by decide +kernel
theorem d_W_law_965 : decode code 965 = .ok (.aload_n 2, 1) := by decide +kernel
theorem d_W_law_966 : decode code 966 = .ok (.aload_n 0, 1) := by decide +kernel
theorem d_W_law_967 : decode code 967 = .ok (.iload_n 3, 1) := by decide +kernel
theorem d_W_law_968 : decode code 968 = .ok (.iconst 1, 1) := by decide +kernel
theorem d_W_law_969 : decode code 969 = .ok (.iadd, 1) := by decide +kernel
theorem d_W_law_970 : decode code 970 = .ok (.iaload, 1) := by decide +kernel
theorem d_W_law_971 : decode code 971 = .ok (.aload_n 0, 1) := by decide +kernel
theorem d_W_law_972 : decode code 972 = .ok (.iload_n 3, 1) := by decide +kernel
theorem d_W_law_973 : decode code 973 = .ok (.iconst 2, 1) := by decide +kernel
theorem d_W_law_974 : decode code 974 = .ok (.iadd, 1) := by decide +kernel
theorem d_W_law_975 : decode code 975 = .ok (.iaload, 1) := by decide +kernel
theorem d_W_law_976 : decode code 976 = .ok (.aload_n 0, 1) := by decide +kernel
theorem d_W_law_977 : decode code 977 = .ok (.iload_n 3, 1) := by decide +kernel
theorem d_W_law_978 : decode code 978 = .ok (.iconst 3, 1) := by decide +kernel
theorem d_W_law_979 : decode code 979 = .ok (.iadd, 1) := by decide +kernel
theorem d_W_law_980 : decode code 980 = .ok (.iaload, 1) := by decide +kernel
theorem d_W_law_981 : decode code 981 = .ok (.invokevirtual 101, 3) := by decide +kernel
theorem d_W_law_984 : decode code 984 = .ok (.if_icmp .eq 839, 3) := by decide +kernel
theorem d_W_law_987 : decode code 987 = .ok (.iconst 0, 1) := by decide +kernel
theorem d_W_law_988 : decode code 988 = .ok (.ireturn, 1) := by decide +kernel
theorem d_W_law_989 : decode code 989 = .ok (.aload_n 1, 1) := by decide +kernel
theorem d_W_law_990 : decode code 990 = .ok (.aload_n 0, 1) := by decide +kernel
theorem d_W_law_991 : decode code 991 = .ok (.iload_n 3, 1) := by decide +kernel
theorem d_W_law_992 : decode code 992 = .ok (.iconst 1, 1) := by decide +kernel
theorem d_W_law_993 : decode code 993 = .ok (.iadd, 1) := by decide +kernel
theorem d_W_law_994 : decode code 994 = .ok (.iaload, 1) := by decide +kernel
theorem d_W_law_995 : decode code 995 = .ok (.aload_n 0, 1) := by decide +kernel
theorem d_W_law_996 : decode code 996 = .ok (.iload_n 3, 1) := by decide +kernel
theorem d_W_law_997 : decode code 997 = .ok (.iconst 2, 1) := by decide +kernel
theorem d_W_law_998 : decode code 998 = .ok (.iadd, 1) := by decide +kernel
theorem d_W_law_999 : decode code 999 = .ok (.iaload, 1) := by decide +kernel
theorem d_W_law_1000 : decode code 1000 = .ok (.invokevirtual 102, 3) := by decide +kernel
theorem d_W_law_1003 : decode code 1003 = .ok (.aload_n 2, 1) := by decide +kernel
theorem d_W_law_1004 : decode code 1004 = .ok (.aload_n 0, 1) := by decide +kernel
theorem d_W_law_1005 : decode code 1005 = .ok (.iload_n 3, 1) := by decide +kernel
theorem d_W_law_1006 : decode code 1006 = .ok (.iconst 1, 1) := by decide +kernel
theorem d_W_law_1007 : decode code 1007 = .ok (.iadd, 1) := by decide +kernel
theorem d_W_law_1008 : decode code 1008 = .ok (.iaload, 1) := by decide +kernel
theorem d_W_law_1009 : decode code 1009 = .ok (.aload_n 0, 1) := by decide +kernel
theorem d_W_law_1010 : decode code 1010 = .ok (.iload_n 3, 1) := by decide +kernel
theorem d_W_law_1011 : decode code 1011 = .ok (.iconst 2, 1) := by decide +kernel
theorem d_W_law_1012 : decode code 1012 = .ok (.iadd, 1) := by decide +kernel
theorem d_W_law_1013 : decode code 1013 = .ok (.iaload, 1) := by decide +kernel
theorem d_W_law_1014 : decode code 1014 = .ok (.invokevirtual 105, 3) := by decide +kernel
theorem d_W_law_1017 : decode code 1017 = .ok (.if_icmp .eq 806, 3) := by decide +kernel
theorem d_W_law_1020 : decode code 1020 = .ok (.iconst 0, 1) := by decide +kernel
theorem d_W_law_1021 : decode code 1021 = .ok (.ireturn, 1) := by decide +kernel
theorem d_W_law_1022 : decode code 1022 = .ok (.aload_n 1, 1) := by decide +kernel
theorem d_W_law_1023 : decode code 1023 = .ok (.aload_n 0, 1) := by decide +kernel
theorem d_W_law_1024 : decode code 1024 = .ok (.iload_n 3, 1) := by decide +kernel
theorem d_W_law_1025 : decode code 1025 = .ok (.iconst 1, 1) := by decide +kernel
theorem d_W_law_1026 : decode code 1026 = .ok (.iadd, 1) := by decide +kernel
theorem d_W_law_1027 : decode code 1027 = .ok (.iaload, 1) := by decide +kernel
theorem d_W_law_1028 : decode code 1028 = .ok (.aload_n 0, 1) := by decide +kernel
theorem d_W_law_1029 : decode code 1029 = .ok (.iload_n 3, 1) := by decide +kernel
theorem d_W_law_1030 : decode code 1030 = .ok (.iconst 2, 1) := by decide +kernel
theorem d_W_law_1031 : decode code 1031 = .ok (.iadd, 1) := by decide +kernel
theorem d_W_law_1032 : decode code 1032 = .ok (.iaload, 1) := by decide +kernel
theorem d_W_law_1033 : decode code 1033 = .ok (.invokevirtual 106, 3) := by decide +kernel
theorem d_W_law_1036 : decode code 1036 = .ok (.aload_n 2, 1) := by decide +kernel
theorem d_W_law_1037 : decode code 1037 = .ok (.aload_n 0, 1) := by decide +kernel
theorem d_W_law_1038 : decode code 1038 = .ok (.iload_n 3, 1) := by decide +kernel
theorem d_W_law_1039 : decode code 1039 = .ok (.iconst 1, 1) := by decide +kernel
theorem d_W_law_1040 : decode code 1040 = .ok (.iadd, 1) := by decide +kernel
theorem d_W_law_1041 : decode code 1041 = .ok (.iaload, 1) := by decide +kernel
theorem d_W_law_1042 : decode code 1042 = .ok (.aload_n 0, 1) := by decide +kernel
theorem d_W_law_1043 : decode code 1043 = .ok (.iload_n 3, 1) := by decide +kernel
theorem d_W_law_1044 : decode code 1044 = .ok (.iconst 2, 1) := by decide +kernel
theorem d_W_law_1045 : decode code 1045 = .ok (.iadd, 1) := by decide +kernel
theorem d_W_law_1046 : decode code 1046 = .ok (.iaload, 1) := by decide +kernel
theorem d_W_law_1047 : decode code 1047 = .ok (.invokevirtual 109, 3) := by decide +kernel
theorem d_W_law_1050 : decode code 1050 = .ok (.if_icmp .eq 773, 3) := by decide +kernel
theorem d_W_law_1053 : decode code 1053 = .ok (.iconst 0, 1) := by decide +kernel
theorem d_W_law_1054 : decode code 1054 = .ok (.ireturn, 1) := by decide +kernel
theorem d_W_law_1055 : decode code 1055 = .ok (.aload_n 1, 1) := by decide +kernel
theorem d_W_law_1056 : decode code 1056 = .ok (.aload_n 0, 1) := by decide +kernel
theorem d_W_law_1057 : decode code 1057 = .ok (.iload_n 3, 1) := by decide +kernel
theorem d_W_law_1058 : decode code 1058 = .ok (.iconst 1, 1) := by decide +kernel
theorem d_W_law_1059 : decode code 1059 = .ok (.iadd, 1) := by decide +kernel
theorem d_W_law_1060 : decode code 1060 = .ok (.iaload, 1) := by decide +kernel
theorem d_W_law_1061 : decode code 1061 = .ok (.aload_n 0, 1) := by decide +kernel
theorem d_W_law_1062 : decode code 1062 = .ok (.iload_n 3, 1) := by decide +kernel
theorem d_W_law_1063 : decode code 1063 = .ok (.iconst 2, 1) := by decide +kernel
theorem d_W_law_1064 : decode code 1064 = .ok (.iadd, 1) := by decide +kernel
theorem d_W_law_1065 : decode code 1065 = .ok (.iaload, 1) := by decide +kernel
theorem d_W_law_1066 : decode code 1066 = .ok (.invokevirtual 110, 3) := by decide +kernel
theorem d_W_law_1069 : decode code 1069 = .ok (.aload_n 2, 1) := by decide +kernel
theorem d_W_law_1070 : decode code 1070 = .ok (.aload_n 0, 1) := by decide +kernel
theorem d_W_law_1071 : decode code 1071 = .ok (.iload_n 3, 1) := by decide +kernel
theorem d_W_law_1072 : decode code 1072 = .ok (.iconst 1, 1) := by decide +kernel
theorem d_W_law_1073 : decode code 1073 = .ok (.iadd, 1) := by decide +kernel
theorem d_W_law_1074 : decode code 1074 = .ok (.iaload, 1) := by decide +kernel
theorem d_W_law_1075 : decode code 1075 = .ok (.aload_n 0, 1) := by decide +kernel
theorem d_W_law_1076 : decode code 1076 = .ok (.iload_n 3, 1) := by decide +kernel
theorem d_W_law_1077 : decode code 1077 = .ok (.iconst 2, 1) := by decide +kernel
theorem d_W_law_1078 : decode code 1078 = .ok (.iadd, 1) := by decide +kernel
theorem d_W_law_1079 : decode code 1079 = .ok (.iaload, 1) := by decide +kernel
theorem d_W_law_1080 : decode code 1080 = .ok (.invokevirtual 113, 3) := by decide +kernel
theorem d_W_law_1083 : decode code 1083 = .ok (.if_icmp .eq 740, 3) := by decide +kernel
theorem d_W_law_1086 : decode code 1086 = .ok (.iconst 0, 1) := by decide +kernel
theorem d_W_law_1087 : decode code 1087 = .ok (.ireturn, 1) := by decide +kernel
theorem d_W_law_1088 : decode code 1088 = .ok (.aload_n 1, 1) := by decide +kernel
theorem d_W_law_1089 : decode code 1089 = .ok (.aload_n 0, 1) := by decide +kernel
theorem d_W_law_1090 : decode code 1090 = .ok (.iload_n 3, 1) := by decide +kernel
theorem d_W_law_1091 : decode code 1091 = .ok (.iconst 1, 1) := by decide +kernel
theorem d_W_law_1092 : decode code 1092 = .ok (.iadd, 1) := by decide +kernel
theorem d_W_law_1093 : decode code 1093 = .ok (.iaload, 1) := by decide +kernel
theorem d_W_law_1094 : decode code 1094 = .ok (.aload_n 0, 1) := by decide +kernel
theorem d_W_law_1095 : decode code 1095 = .ok (.iload_n 3, 1) := by decide +kernel
theorem d_W_law_1096 : decode code 1096 = .ok (.iconst 2, 1) := by decide +kernel
theorem d_W_law_1097 : decode code 1097 = .ok (.iadd, 1) := by decide +kernel
theorem d_W_law_1098 : decode code 1098 = .ok (.iaload, 1) := by decide +kernel
theorem d_W_law_1099 : decode code 1099 = .ok (.aload_n 0, 1) := by decide +kernel
theorem d_W_law_1100 : decode code 1100 = .ok (.iload_n 3, 1) := by decide +kernel
theorem d_W_law_1101 : decode code 1101 = .ok (.iconst 3, 1) := by decide +kernel
theorem d_W_law_1102 : decode code 1102 = .ok (.iadd, 1) := by decide +kernel
theorem d_W_law_1103 : decode code 1103 = .ok (.iaload, 1) := by decide +kernel
theorem d_W_law_1104 : decode code 1104 = .ok (.invokevirtual 114, 3) := by decide +kernel
theorem d_W_law_1107 : decode code 1107 = .ok (.aload_n 2, 1) := by decide +kernel
theorem d_W_law_1108 : decode code 1108 = .ok (.aload_n 0, 1) := by decide +kernel
theorem d_W_law_1109 : decode code 1109 = .ok (.iload_n 3, 1) := by decide +kernel
theorem d_W_law_1110 : decode code 1110 = .ok (.iconst 1, 1) := by decide +kernel
theorem d_W_law_1111 : decode code 1111 = .ok (.iadd, 1) := by decide +kernel
theorem d_W_law_1112 : decode code 1112 = .ok (.iaload, 1) := by decide +kernel
theorem d_W_law_1113 : decode code 1113 = .ok (.aload_n 0, 1) := by decide +kernel
theorem d_W_law_1114 : decode code 1114 = .ok (.iload_n 3, 1) := by decide +kernel
theorem d_W_law_1115 : decode code 1115 = .ok (.iconst 2, 1) := by decide +kernel
theorem d_W_law_1116 : decode code 1116 = .ok (.iadd, 1) := by decide +kernel
theorem d_W_law_1117 : decode code 1117 = .ok (.iaload, 1) := by decide +kernel
theorem d_W_law_1118 : decode code 1118 = .ok (.aload_n 0, 1) := by decide +kernel
theorem d_W_law_1119 : decode code 1119 = .ok (.iload_n 3, 1) := by decide +kernel
theorem d_W_law_1120 : decode code 1120 = .ok (.iconst 3, 1) := by decide +kernel
theorem d_W_law_1121 : decode code 1121 = .ok (.iadd, 1) := by decide +kernel
theorem d_W_law_1122 : decode code 1122 = .ok (.iaload, 1) := by decide +kernel
theorem d_W_law_1123 : decode code 1123 = .ok (.invokevirtual 117, 3) := by decide +kernel
theorem d_W_law_1126 : decode code 1126 = .ok (.if_icmp .eq 697, 3) := by decide +kernel
theorem d_W_law_1129 : decode code 1129 = .ok (.iconst 0, 1) := by decide +kernel
theorem d_W_law_1130 : decode code 1130 = .ok (.ireturn, 1) := by decide +kernel
theorem d_W_law_1131 : decode code 1131 = .ok (.aload_n 1, 1) := by decide +kernel
theorem d_W_law_1132 : decode code 1132 = .ok (.aload_n 0, 1) := by decide +kernel
theorem d_W_law_1133 : decode code 1133 = .ok (.iload_n 3, 1) := by decide +kernel
theorem d_W_law_1134 : decode code 1134 = .ok (.iconst 1, 1) := by decide +kernel
theorem d_W_law_1135 : decode code 1135 = .ok (.iadd, 1) := by decide +kernel
theorem d_W_law_1136 : decode code 1136 = .ok (.iaload, 1) := by decide +kernel
theorem d_W_law_1137 : decode code 1137 = .ok (.aload_n 0, 1) := by decide +kernel
theorem d_W_law_1138 : decode code 1138 = .ok (.iload_n 3, 1) := by decide +kernel
theorem d_W_law_1139 : decode code 1139 = .ok (.iconst 2, 1) := by decide +kernel
theorem d_W_law_1140 : decode code 1140 = .ok (.iadd, 1) := by decide +kernel
theorem d_W_law_1141 : decode code 1141 = .ok (.iaload, 1) := by decide +kernel
theorem d_W_law_1142 : decode code 1142 = .ok (.invokevirtual 118, 3) := by decide +kernel
theorem d_W_law_1145 : decode code 1145 = .ok (.aload_n 2, 1) := by decide +kernel
theorem d_W_law_1146 : decode code 1146 = .ok (.aload_n 0, 1) := by decide +kernel
theorem d_W_law_1147 : decode code 1147 = .ok (.iload_n 3, 1) := by decide +kernel
theorem d_W_law_1148 : decode code 1148 = .ok (.iconst 1, 1) := by decide +kernel
theorem d_W_law_1149 : decode code 1149 = .ok (.iadd, 1) := by decide +kernel
theorem d_W_law_1150 : decode code 1150 = .ok (.iaload, 1) := by decide +kernel
theorem d_W_law_1151 : decode code 1151 = .ok (.aload_n 0, 1) := by decide +kernel
theorem d_W_law_1152 : decode code 1152 = .ok (.iload_n 3, 1) := by decide +kernel
theorem d_W_law_1153 : decode code 1153 = .ok (.iconst 2, 1) := by decide +kernel
theorem d_W_law_1154 : decode code 1154 = .ok (.iadd, 1) := by decide +kernel
theorem d_W_law_1155 : decode code 1155 = .ok (.iaload, 1) := by decide +kernel
theorem d_W_law_1156 : decode code 1156 = .ok (.invokevirtual 121, 3) := by decide +kernel
theorem d_W_law_1159 : decode code 1159 = .ok (.if_icmp .eq 664, 3) := by decide +kernel
theorem d_W_law_1162 : decode code 1162 = .ok (.iconst 0, 1) := by decide +kernel
theorem d_W_law_1163 : decode code 1163 = .ok (.ireturn, 1) := by decide +kernel
theorem d_W_law_1164 : decode code 1164 = .ok (.aload_n 1, 1) := by decide +kernel
theorem d_W_law_1165 : decode code 1165 = .ok (.aload_n 0, 1) := by decide +kernel
theorem d_W_law_1166 : decode code 1166 = .ok (.iload_n 3, 1) := by decide +kernel
theorem d_W_law_1167 : decode code 1167 = .ok (.iconst 1, 1) := by decide +kernel
theorem d_W_law_1168 : decode code 1168 = .ok (.iadd, 1) := by decide +kernel
theorem d_W_law_1169 : decode code 1169 = .ok (.iaload, 1) := by decide +kernel
theorem d_W_law_1170 : decode code 1170 = .ok (.aload_n 0, 1) := by decide +kernel
theorem d_W_law_1171 : decode code 1171 = .ok (.iload_n 3, 1) := by decide +kernel
theorem d_W_law_1172 : decode code 1172 = .ok (.iconst 2, 1) := by decide +kernel
theorem d_W_law_1173 : decode code 1173 = .ok (.iadd, 1) := by decide +kernel
theorem d_W_law_1174 : decode code 1174 = .ok (.iaload, 1) := by decide +kernel
theorem d_W_law_1175 : decode code 1175 = .ok (.aload_n 0, 1) := by decide +kernel
theorem d_W_law_1176 : decode code 1176 = .ok (.iload_n 3, 1) := by decide +kernel
theorem d_W_law_1177 : decode code 1177 = .ok (.iconst 3, 1) := by decide +kernel
theorem d_W_law_1178 : decode code 1178 = .ok (.iadd, 1) := by decide +kernel
theorem d_W_law_1179 : decode code 1179 = .ok (.iaload, 1) := by decide +kernel
theorem d_W_law_1180 : decode code 1180 = .ok (.invokevirtual 122, 3) := by decide +kernel
theorem d_W_law_1183 : decode code 1183 = .ok (.aload_n 2, 1) := by decide +kernel
theorem d_W_law_1184 : decode code 1184 = .ok (.aload_n 0, 1) := by decide +kernel
theorem d_W_law_1185 : decode code 1185 = .ok (.iload_n 3, 1) := by decide +kernel
theorem d_W_law_1186 : decode code 1186 = .ok (.iconst 1, 1) := by decide +kernel
theorem d_W_law_1187 : decode code 1187 = .ok (.iadd, 1) := by decide +kernel
theorem d_W_law_1188 : decode code 1188 = .ok (.iaload, 1) := by decide +kernel
theorem d_W_law_1189 : decode code 1189 = .ok (.aload_n 0, 1) := by decide +kernel
theorem d_W_law_1190 : decode code 1190 = .ok (.iload_n 3, 1) := by decide +kernel
theorem d_W_law_1191 : decode code 1191 = .ok (.iconst 2, 1) := by decide +kernel
theorem d_W_law_1192 : decode code 1192 = .ok (.iadd, 1) := by decide +kernel
theorem d_W_law_1193 : decode code 1193 = .ok (.iaload, 1) := by decide +kernel
theorem d_W_law_1194 : decode code 1194 = .ok (.aload_n 0, 1) := by decide +kernel
theorem d_W_law_1195 : decode code 1195 = .ok (.iload_n 3, 1) := by decide +kernel
theorem d_W_law_1196 : decode code 1196 = .ok (.iconst 3, 1) := by decide +kernel
theorem d_W_law_1197 : decode code 1197 = .ok (.iadd, 1) := by decide +kernel
theorem d_W_law_1198 : decode code 1198 = .ok (.iaload, 1) := by decide +kernel
theorem d_W_law_1199 : decode code 1199 = .ok (.invokevirtual 125, 3) := by decide +kernel
theorem d_W_law_1202 : decode code 1202 = .ok (.if_icmp .eq 621, 3) := by decide +kernel
theorem d_W_law_1205 : decode code 1205 = .ok (.iconst 0, 1) := by decide +kernel
theorem d_W_law_1206 : decode code 1206 = .ok (.ireturn, 1) := by decide +kernel
theorem d_W_law_1207 : decode code 1207 = .ok (.aload_n 1, 1) := by decide +kernel
theorem d_W_law_1208 : decode code 1208 = .ok (.aload_n 0, 1) := by decide +kernel
theorem d_W_law_1209 : decode code 1209 = .ok (.iload_n 3, 1) := by decide +kernel
theorem d_W_law_1210 : decode code 1210 = .ok (.iconst 1, 1) := by decide +kernel
theorem d_W_law_1211 : decode code 1211 = .ok (.iadd, 1) := by decide +kernel
theorem d_W_law_1212 : decode code 1212 = .ok (.iaload, 1) := by decide +kernel
theorem d_W_law_1213 : decode code 1213 = .ok (.aload_n 0, 1) := by decide +kernel
theorem d_W_law_1214 : decode code 1214 = .ok (.iload_n 3, 1) := by decide +kernel
theorem d_W_law_1215 : decode code 1215 = .ok (.iconst 2, 1) := by decide +kernel
theorem d_W_law_1216 : decode code 1216 = .ok (.iadd, 1) := by decide +kernel
theorem d_W_law_1217 : decode code 1217 = .ok (.iaload, 1) := by decide +kernel
theorem d_W_law_1218 : decode code 1218 = .ok (.invokevirtual 126, 3) := by decide +kernel
theorem d_W_law_1221 : decode code 1221 = .ok (.aload_n 2, 1) := by decide +kernel
theorem d_W_law_1222 : decode code 1222 = .ok (.aload_n 0, 1) := by decide +kernel
theorem d_W_law_1223 : decode code 1223 = .ok (.iload_n 3, 1) := by decide +kernel
theorem d_W_law_1224 : decode code 1224 = .ok (.iconst 1, 1) := by decide +kernel
theorem d_W_law_1225 : decode code 1225 = .ok (.iadd, 1) := by decide +kernel
theorem d_W_law_1226 : decode code 1226 = .ok (.iaload, 1) := by decide +kernel
theorem d_W_law_1227 : decode code 1227 = .ok (.aload_n 0, 1) := by decide +kernel
theorem d_W_law_1228 : decode code 1228 = .ok (.iload_n 3, 1) := by decide +kernel
theorem d_W_law_1229 : decode code 1229 = .ok (.iconst 2, 1) := by decide +kernel
theorem d_W_law_1230 : decode code 1230 = .ok (.iadd, 1) := by decide +kernel
theorem d_W_law_1231 : decode code 1231 = .ok (.iaload, 1) := by decide +kernel
theorem d_W_law_1232 : decode code 1232 = .ok (.invokevirtual 129, 3) := by decide +kernel
theorem d_W_law_1235 : decode code 1235 = .ok (.if_icmp .eq 588, 3) := by decide +kernel
theorem d_W_law_1238 : decode code 1238 = .ok (.iconst 0, 1) := by decide +kernel
theorem d_W_law_1239 : decode code 1239 = .ok (.ireturn, 1) := by decide +kernel
theorem d_W_law_1240 : decode code 1240 = .ok (.aload_n 1, 1) := by decide +kernel
theorem d_W_law_1241 : decode code 1241 = .ok (.aload_n 0, 1) := by decide +kernel
theorem d_W_law_1242 : decode code 1242 = .ok (.iload_n 3, 1) := by decide +kernel
theorem d_W_law_1243 : decode code 1243 = .ok (.iconst 1, 1) := by decide +kernel
theorem d_W_law_1244 : decode code 1244 = .ok (.iadd, 1) := by decide +kernel
theorem d_W_law_1245 : decode code 1245 = .ok (.iaload, 1) := by decide +kernel
theorem d_W_law_1246 : decode code 1246 = .ok (.aload_n 0, 1) := by decide +kernel
theorem d_W_law_1247 : decode code 1247 = .ok (.iload_n 3, 1) := by decide +kernel
theorem d_W_law_1248 : decode code 1248 = .ok (.iconst 2, 1) := by decide +kernel
theorem d_W_law_1249 : decode code 1249 = .ok (.iadd, 1) := by decide +kernel
theorem d_W_law_1250 : decode code 1250 = .ok (.iaload, 1) := by decide +kernel
theorem d_W_law_1251 : decode code 1251 = .ok (.invokevirtual 130, 3) := by decide +kernel
theorem d_W_law_1254 : decode code 1254 = .ok (.aload_n 2, 1) := by decide +kernel
theorem d_W_law_1255 : decode code 1255 = .ok (.aload_n 0, 1) := by decide +kernel
theorem d_W_law_1256 : decode code 1256 = .ok (.iload_n 3, 1) := by decide +kernel
theorem d_W_law_1257 : decode code 1257 = .ok (.iconst 1, 1) := by decide +kernel
theorem d_W_law_1258 : decode code 1258 = .ok (.iadd, 1) := by decide +kernel
theorem d_W_law_1259 : decode code 1259 = .ok (.iaload, 1) := by decide +kernel
theorem d_W_law_1260 : decode code 1260 = .ok (.aload_n 0, 1) := by decide +kernel
theorem d_W_law_1261 : decode code 1261 = .ok (.iload_n 3, 1) := by decide +kernel
theorem d_W_law_1262 : decode code 1262 = .ok (.iconst 2, 1) := by decide +kernel
theorem d_W_law_1263 : decode code 1263 = .ok (.iadd, 1) := by decide +kernel
theorem d_W_law_1264 : decode code 1264 = .ok (.iaload, 1) := by decide +kernel
theorem d_W_law_1265 : decode code 1265 = .ok (.invokevirtual 133, 3) := by decide +kernel
theorem d_W_law_1268 : decode code 1268 = .ok (.if_icmp .eq 555, 3) := by decide +kernel
theorem d_W_law_1271 : decode code 1271 = .ok (.iconst 0, 1) := by decide +kernel
theorem d_W_law_1272 : decode code 1272 = .ok (.ireturn, 1) := by decide +kernel
theorem d_W_law_1273 : decode code 1273 = .ok (.aload_n 1, 1) := by decide +kernel
theorem d_W_law_1274 : decode code 1274 = .ok (.aload_n 0, 1) := by decide +kernel
theorem d_W_law_1275 : decode code 1275 = .ok (.iload_n 3, 1) := by decide +kernel
theorem d_W_law_1276 : decode code 1276 = .ok (.iconst 1, 1) := by decide +kernel
theorem d_W_law_1277 : decode code 1277 = .ok (.iadd, 1) := by decide +kernel
theorem d_W_law_1278 : decode code 1278 = .ok (.iaload, 1) := by decide +kernel
theorem d_W_law_1279 : decode code 1279 = .ok (.invokevirtual 134, 3) := by decide +kernel
theorem d_W_law_1282 : decode code 1282 = .ok (.aload_n 2, 1) := by decide +kernel
theorem d_W_law_1283 : decode code 1283 = .ok (.aload_n 0, 1) := by decide +kernel
theorem d_W_law_1284 : decode code 1284 = .ok (.iload_n 3, 1) := by decide +kernel
theorem d_W_law_1285 : decode code 1285 = .ok (.iconst 1, 1) := by decide +kernel
theorem d_W_law_1286 : decode code 1286 = .ok (.iadd, 1) := by decide +kernel
theorem d_W_law_1287 : decode code 1287 = .ok (.iaload, 1) := by decide +kernel
theorem d_W_law_1288 : decode code 1288 = .ok (.invokevirtual 137, 3) := by decide +kernel
theorem d_W_law_1291 : decode code 1291 = .ok (.if_icmp .eq 532, 3) := by decide +kernel
theorem d_W_law_1294 : decode code 1294 = .ok (.iconst 0, 1) := by decide +kernel
theorem d_W_law_1295 : decode code 1295 = .ok (.ireturn, 1) := by decide +kernel
theorem d_W_law_1296 : decode code 1296 = .ok (.aload_n 1, 1) := by decide +kernel
theorem d_W_law_1297 : decode code 1297 = .ok (.aload_n 0, 1) := by decide +kernel
theorem d_W_law_1298 : decode code 1298 = .ok (.iload_n 3, 1) := by decide +kernel
theorem d_W_law_1299 : decode code 1299 = .ok (.iconst 1, 1) := by decide +kernel
theorem d_W_law_1300 : decode code 1300 = .ok (.iadd, 1) := by decide +kernel
theorem d_W_law_1301 : decode code 1301 = .ok (.iaload, 1) := by decide +kernel
theorem d_W_law_1302 : decode code 1302 = .ok (.invokevirtual 138, 3) := by decide +kernel
theorem d_W_law_1305 : decode code 1305 = .ok (.aload_n 2, 1) := by decide +kernel
theorem d_W_law_1306 : decode code 1306 = .ok (.aload_n 0, 1) := by decide +kernel
theorem d_W_law_1307 : decode code 1307 = .ok (.iload_n 3, 1) := by decide +kernel
theorem d_W_law_1308 : decode code 1308 = .ok (.iconst 1, 1) := by decide +kernel
theorem d_W_law_1309 : decode code 1309 = .ok (.iadd, 1) := by decide +kernel
theorem d_W_law_1310 : decode code 1310 = .ok (.iaload, 1) := by decide +kernel
theorem d_W_law_1311 : decode code 1311 = .ok (.invokevirtual 141, 3) := by decide +kernel
theorem d_W_law_1314 : decode code 1314 = .ok (.if_icmp .eq 509, 3) := by decide +kernel
theorem d_W_law_1317 : decode code 1317 = .ok (.iconst 0, 1) := by decide +kernel
theorem d_W_law_1318 : decode code 1318 = .ok (.ireturn, 1) := by decide +kernel
theorem d_W_law_1319 : decode code 1319 = .ok (.aload_n 1, 1) := by decide +kernel
theorem d_W_law_1320 : decode code 1320 = .ok (.aload_n 0, 1) := by decide +kernel
theorem d_W_law_1321 : decode code 1321 = .ok (.iload_n 3, 1) := by decide +kernel
theorem d_W_law_1322 : decode code 1322 = .ok (.iconst 1, 1) := by decide +kernel
theorem d_W_law_1323 : decode code 1323 = .ok (.iadd, 1) := by decide +kernel
theorem d_W_law_1324 : decode code 1324 = .ok (.iaload, 1) := by decide +kernel
theorem d_W_law_1325 : decode code 1325 = .ok (.invokevirtual 142, 3) := by decide +kernel
theorem d_W_law_1328 : decode code 1328 = .ok (.aload_n 2, 1) := by decide +kernel
theorem d_W_law_1329 : decode code 1329 = .ok (.aload_n 0, 1) := by decide +kernel
theorem d_W_law_1330 : decode code 1330 = .ok (.iload_n 3, 1) := by decide +kernel
theorem d_W_law_1331 : decode code 1331 = .ok (.iconst 1, 1) := by decide +kernel
theorem d_W_law_1332 : decode code 1332 = .ok (.iadd, 1) := by decide +kernel
theorem d_W_law_1333 : decode code 1333 = .ok (.iaload, 1) := by decide +kernel
theorem d_W_law_1334 : decode code 1334 = .ok (.invokevirtual 145, 3) := by decide +kernel
theorem d_W_law_1337 : decode code 1337 = .ok (.if_icmp .eq 486, 3) := by decide +kernel
theorem d_W_law_1340 : decode code 1340 = .ok (.iconst 0, 1) := by decide +kernel
theorem d_W_law_1341 : decode code 1341 = .ok (.ireturn, 1) := by decide +kernel
theorem d_W_law_1342 : decode code 1342 = .ok (.aload_n 1, 1) := by decide +kernel
theorem d_W_law_1343 : decode code 1343 = .ok (.aload_n 0, 1) := by decide +kernel
theorem d_W_law_1344 : decode code 1344 = .ok (.iload_n 3, 1) := by decide +kernel
theorem d_W_law_1345 : decode code 1345 = .ok (.iconst 1, 1) := by decide +kernel
theorem d_W_law_1346 : decode code 1346 = .ok (.iadd, 1) := by decide +kernel
theorem d_W_law_1347 : decode code 1347 = .ok (.iaload, 1) := by decide +kernel
theorem d_W_law_1348 : decode code 1348 = .ok (.invokevirtual 146, 3) := by decide +kernel
theorem d_W_law_1351 : decode code 1351 = .ok (.aload_n 2, 1) := by decide +kernel
theorem d_W_law_1352 : decode code 1352 = .ok (.aload_n 0, 1) := by decide +kernel
theorem d_W_law_1353 : decode code 1353 = .ok (.iload_n 3, 1) := by decide +kernel
theorem d_W_law_1354 : decode code 1354 = .ok (.iconst 1, 1) := by decide +kernel
theorem d_W_law_1355 : decode code 1355 = .ok (.iadd, 1) := by decide +kernel
theorem d_W_law_1356 : decode code 1356 = .ok (.iaload, 1) := by decide +kernel
theorem d_W_law_1357 : decode code 1357 = .ok (.invokevirtual 149, 3) := by decide +kernel
theorem d_W_law_1360 : decode code 1360 = .ok (.if_icmp .eq 463, 3) := by decide +kernel
theorem d_W_law_1363 : decode code 1363 = .ok (.iconst 0, 1) := by decide +kernel
theorem d_W_law_1364 : decode code 1364 = .ok (.ireturn, 1) := by decide +kernel
theorem d_W_law_1365 : decode code 1365 = .ok (.aload_n 1, 1) := by decide +kernel
theorem d_W_law_1366 : decode code 1366 = .ok (.aload_n 0, 1) := by decide +kernel
theorem d_W_law_1367 : decode code 1367 = .ok (.iload_n 3, 1) := by decide +kernel
theorem d_W_law_1368 : decode code 1368 = .ok (.iconst 1, 1) := by decide +kernel
theorem d_W_law_1369 : decode code 1369 = .ok (.iadd, 1) := by decide +kernel
theorem d_W_law_1370 : decode code 1370 = .ok (.iaload, 1) := by decide +kernel
theorem d_W_law_1371 : decode code 1371 = .ok (.invokevirtual 150, 3) := by decide +kernel
theorem d_W_law_1374 : decode code 1374 = .ok (.aload_n 2, 1) := by decide +kernel
theorem d_W_law_1375 : decode code 1375 = .ok (.aload_n 0, 1) := by decide +kernel
theorem d_W_law_1376 : decode code 1376 = .ok (.iload_n 3, 1) := by decide +kernel
theorem d_W_law_1377 : decode code 1377 = .ok (.iconst 1, 1) := by decide +kernel
theorem d_W_law_1378 : decode code 1378 = .ok (.iadd, 1) := by decide +kernel
theorem d_W_law_1379 : decode code 1379 = .ok (.iaload, 1) := by decide +kernel
theorem d_W_law_1380 : decode code 1380 = .ok (.invokevirtual 153, 3) := by decide +kernel
theorem d_W_law_1383 : decode code 1383 = .ok (.if_icmp .eq 440, 3) := by decide +kernel
theorem d_W_law_1386 : decode code 1386 = .ok (.iconst 0, 1) := by decide +kernel
theorem d_W_law_1387 : decode code 1387 = .ok (.ireturn, 1) := by decide +kernel
theorem d_W_law_1388 : decode code 1388 = .ok (.aload_n 1, 1) := by decide +kernel
theorem d_W_law_1389 : decode code 1389 = .ok (.aload_n 0, 1) := by decide +kernel
theorem d_W_law_1390 : decode code 1390 = .ok (.iload_n 3, 1) := by decide +kernel
theorem d_W_law_1391 : decode code 1391 = .ok (.iconst 1, 1) := by decide +kernel
theorem d_W_law_1392 : decode code 1392 = .ok (.iadd, 1) := by decide +kernel
theorem d_W_law_1393 : decode code 1393 = .ok (.iaload, 1) := by decide +kernel
theorem d_W_law_1394 : decode code 1394 = .ok (.aload_n 0, 1) := by decide +kernel
theorem d_W_law_1395 : decode code 1395 = .ok (.iload_n 3, 1) := by decide +kernel
theorem d_W_law_1396 : decode code 1396 = .ok (.iconst 2, 1) := by decide +kernel
theorem d_W_law_1397 : decode code 1397 = .ok (.iadd, 1) := by decide +kernel
theorem d_W_law_1398 : decode code 1398 = .ok (.iaload, 1) := by decide +kernel
theorem d_W_law_1399 : decode code 1399 = .ok (.aload_n 0, 1) := by decide +kernel
theorem d_W_law_1400 : decode code 1400 = .ok (.iload_n 3, 1) := by decide +kernel
theorem d_W_law_1401 : decode code 1401 = .ok (.iconst 3, 1) := by decide +kernel
theorem d_W_law_1402 : decode code 1402 = .ok (.iadd, 1) := by decide +kernel
theorem d_W_law_1403 : decode code 1403 = .ok (.iaload, 1) := by decide +kernel
theorem d_W_law_1404 : decode code 1404 = .ok (.invokevirtual 154, 3) := by decide +kernel
theorem d_W_law_1407 : decode code 1407 = .ok (.aload_n 2, 1) := by decide +kernel
theorem d_W_law_1408 : decode code 1408 = .ok (.aload_n 0, 1) := by decide +kernel
theorem d_W_law_1409 : decode code 1409 = .ok (.iload_n 3, 1) := by decide +kernel
theorem d_W_law_1410 : decode code 1410 = .ok (.iconst 1, 1) := by decide +kernel
theorem d_W_law_1411 : decode code 1411 = .ok (.iadd, 1) := by decide +kernel
theorem d_W_law_1412 : decode code 1412 = .ok (.iaload, 1) := by decide +kernel
theorem d_W_law_1413 : decode code 1413 = .ok (.aload_n 0, 1) := by decide +kernel
theorem d_W_law_1414 : decode code 1414 = .ok (.iload_n 3, 1) := by decide +kernel
theorem d_W_law_1415 : decode code 1415 = .ok (.iconst 2, 1) := by decide +kernel
theorem d_W_law_1416 : decode code 1416 = .ok (.iadd, 1) := by decide +kernel
theorem d_W_law_1417 : decode code 1417 = .ok (.iaload, 1) := by decide +kernel
theorem d_W_law_1418 : decode code 1418 = .ok (.aload_n 0, 1) := by decide +kernel
theorem d_W_law_1419 : decode code 1419 = .ok (.iload_n 3, 1) := by decide +kernel
theorem d_W_law_1420 : decode code 1420 = .ok (.iconst 3, 1) := by decide +kernel
theorem d_W_law_1421 : decode code 1421 = .ok (.iadd, 1) := by decide +kernel
theorem d_W_law_1422 : decode code 1422 = .ok (.iaload, 1) := by decide +kernel
theorem d_W_law_1423 : decode code 1423 = .ok (.invokevirtual 157, 3) := by decide +kernel
theorem d_W_law_1426 : decode code 1426 = .ok (.if_icmp .eq 397, 3) := by decide +kernel
theorem d_W_law_1429 : decode code 1429 = .ok (.iconst 0, 1) := by decide +kernel
theorem d_W_law_1430 : decode code 1430 = .ok (.ireturn, 1) := by decide +kernel
theorem d_W_law_1431 : decode code 1431 = .ok (.aload_n 1, 1) := by decide +kernel
theorem d_W_law_1432 : decode code 1432 = .ok (.aload_n 0, 1) := by decide +kernel
theorem d_W_law_1433 : decode code 1433 = .ok (.iload_n 3, 1) := by decide +kernel
theorem d_W_law_1434 : decode code 1434 = .ok (.iconst 1, 1) := by decide +kernel
theorem d_W_law_1435 : decode code 1435 = .ok (.iadd, 1) := by decide +kernel
theorem d_W_law_1436 : decode code 1436 = .ok (.iaload, 1) := by decide +kernel
theorem d_W_law_1437 : decode code 1437 = .ok (.aload_n 0, 1) := by decide +kernel
theorem d_W_law_1438 : decode code 1438 = .ok (.iload_n 3, 1) := by decide +kernel
theorem d_W_law_1439 : decode code 1439 = .ok (.iconst 2, 1) := by decide +kernel
theorem d_W_law_1440 : decode code 1440 = .ok (.iadd, 1) := by decide +kernel
theorem d_W_law_1441 : decode code 1441 = .ok (.iaload, 1) := by decide +kernel
theorem d_W_law_1442 : decode code 1442 = .ok (.invokevirtual 158, 3) := by decide +kernel
theorem d_W_law_1445 : decode code 1445 = .ok (.aload_n 2, 1) := by decide +kernel
theorem d_W_law_1446 : decode code 1446 = .ok (.aload_n 0, 1) := by decide +kernel
theorem d_W_law_1447 : decode code 1447 = .ok (.iload_n 3, 1) := by decide +kernel
theorem d_W_law_1448 : decode code 1448 = .ok (.iconst 1, 1) := by decide +kernel
theorem d_W_law_1449 : decode code 1449 = .ok (.iadd, 1) := by decide +kernel
theorem d_W_law_1450 : decode code 1450 = .ok (.iaload, 1) := by decide +kernel
theorem d_W_law_1451 : decode code 1451 = .ok (.aload_n 0, 1) := by decide +kernel
theorem d_W_law_1452 : decode code 1452 = .ok (.iload_n 3, 1) := by decide +kernel
theorem d_W_law_1453 : decode code 1453 = .ok (.iconst 2, 1) := by decide +kernel
theorem d_W_law_1454 : decode code 1454 = .ok (.iadd, 1) := by decide +kernel
theorem d_W_law_1455 : decode code 1455 = .ok (.iaload, 1) := by decide +kernel
theorem d_W_law_1456 : decode code 1456 = .ok (.invokevirtual 161, 3) := by decide +kernel
theorem d_W_law_1459 : decode code 1459 = .ok (.if_icmp .eq 364, 3) := by decide +kernel
theorem d_W_law_1462 : decode code 1462 = .ok (.iconst 0, 1) := by decide +kernel
theorem d_W_law_1463 : decode code 1463 = .ok (.ireturn, 1) := by decide +kernel
theorem d_W_law_1464 : decode code 1464 = .ok (.aload_n 1, 1) := by decide +kernel
theorem d_W_law_1465 : decode code 1465 = .ok (.aload_n 0, 1) := by decide +kernel
theorem d_W_law_1466 : decode code 1466 = .ok (.iload_n 3, 1) := by decide +kernel
theorem d_W_law_1467 : decode code 1467 = .ok (.iconst 1, 1) := by decide +kernel
theorem d_W_law_1468 : decode code 1468 = .ok (.iadd, 1) := by decide +kernel
theorem d_W_law_1469 : decode code 1469 = .ok (.iaload, 1) := by decide +kernel
theorem d_W_law_1470 : decode code 1470 = .ok (.aload_n 0, 1) := by decide +kernel
theorem d_W_law_1471 : decode code 1471 = .ok (.iload_n 3, 1) := by decide +kernel
theorem d_W_law_1472 : decode code 1472 = .ok (.iconst 2, 1) := by decide +kernel
theorem d_W_law_1473 : decode code 1473 = .ok (.iadd, 1) := by decide +kernel
theorem d_W_law_1474 : decode code 1474 = .ok (.iaload, 1) := by decide +kernel
theorem d_W_law_1475 : decode code 1475 = .ok (.invokevirtual 162, 3) := by decide +kernel
theorem d_W_law_1478 : decode code 1478 = .ok (.aload_n 2, 1) := by decide +kernel
theorem d_W_law_1479 : decode code 1479 = .ok (.aload_n 0, 1) := by decide +kernel
theorem d_W_law_1480 : decode code 1480 = .ok (.iload_n 3, 1) := by decide +kernel
theorem d_W_law_1481 : decode code 1481 = .ok (.iconst 1, 1) := by decide +kernel
theorem d_W_law_1482 : decode code 1482 = .ok (.iadd, 1) := by decide +kernel
theorem d_W_law_1483 : decode code 1483 = .ok (.iaload, 1) := by decide +kernel
theorem d_W_law_1484 : decode code 1484 = .ok (.aload_n 0, 1) := by decide +kernel
theorem d_W_law_1485 : decode code 1485 = .ok (.iload_n 3, 1) := by decide +kernel
theorem d_W_law_1486 : decode code 1486 = .ok (.iconst 2, 1) := by decide +kernel
theorem d_W_law_1487 : decode code 1487 = .ok (.iadd, 1) := by decide +kernel
theorem d_W_law_1488 : decode code 1488 = .ok (.iaload, 1) := by decide +kernel
theorem d_W_law_1489 : decode code 1489 = .ok (.invokevirtual 165, 3) := by decide +kernel
theorem d_W_law_1492 : decode code 1492 = .ok (.if_icmp .eq 331, 3) := by decide +kernel
theorem d_W_law_1495 : decode code 1495 = .ok (.iconst 0, 1) := by decide +kernel
theorem d_W_law_1496 : decode code 1496 = .ok (.ireturn, 1) := by decide +kernel
theorem d_W_law_1497 : decode code 1497 = .ok (.aload_n 1, 1) := by decide +kernel
theorem d_W_law_1498 : decode code 1498 = .ok (.invokevirtual 166, 3) := by decide +kernel
theorem d_W_law_1501 : decode code 1501 = .ok (.aload_n 2, 1) := by decide +kernel
theorem d_W_law_1502 : decode code 1502 = .ok (.invokevirtual 170, 3) := by decide +kernel
theorem d_W_law_1505 : decode code 1505 = .ok (.if_icmp .eq 318, 3) := by decide +kernel
theorem d_W_law_1508 : decode code 1508 = .ok (.iconst 0, 1) := by decide +kernel
theorem d_W_law_1509 : decode code 1509 = .ok (.ireturn, 1) := by decide +kernel
theorem d_W_law_1510 : decode code 1510 = .ok (.aload_n 1, 1) := by decide +kernel
theorem d_W_law_1511 : decode code 1511 = .ok (.aload_n 0, 1) := by decide +kernel
theorem d_W_law_1512 : decode code 1512 = .ok (.iload_n 3, 1) := by decide +kernel
theorem d_W_law_1513 : decode code 1513 = .ok (.iconst 1, 1) := by decide +kernel
theorem d_W_law_1514 : decode code 1514 = .ok (.iadd, 1) := by decide +kernel
theorem d_W_law_1515 : decode code 1515 = .ok (.iaload, 1) := by decide +kernel
theorem d_W_law_1516 : decode code 1516 = .ok (.invokevirtual 171, 3) := by decide +kernel
theorem d_W_law_1519 : decode code 1519 = .ok (.aload_n 2, 1) := by decide +kernel
theorem d_W_law_1520 : decode code 1520 = .ok (.aload_n 0, 1) := by decide +kernel
theorem d_W_law_1521 : decode code 1521 = .ok (.iload_n 3, 1) := by decide +kernel
theorem d_W_law_1522 : decode code 1522 = .ok (.iconst 1, 1) := by decide +kernel
theorem d_W_law_1523 : decode code 1523 = .ok (.iadd, 1) := by decide +kernel
theorem d_W_law_1524 : decode code 1524 = .ok (.iaload, 1) := by decide +kernel
theorem d_W_law_1525 : decode code 1525 = .ok (.invokevirtual 174, 3) := by decide +kernel
theorem d_W_law_1528 : decode code 1528 = .ok (.if_icmp .eq 295, 3) := by decide +kernel
theorem d_W_law_1531 : decode code 1531 = .ok (.iconst 0, 1) := by decide +kernel
theorem d_W_law_1532 : decode code 1532 = .ok (.ireturn, 1) := by decide +kernel
theorem d_W_law_1533 : decode code 1533 = .ok (.aload_n 1, 1) := by decide +kernel
theorem d_W_law_1534 : decode code 1534 = .ok (.invokevirtual 175, 3) := by decide +kernel
theorem d_W_law_1537 : decode code 1537 = .ok (.aload_n 2, 1) := by decide +kernel
theorem d_W_law_1538 : decode code 1538 = .ok (.invokevirtual 178, 3) := by decide +kernel
theorem d_W_law_1541 : decode code 1541 = .ok (.if_icmp .eq 282, 3) := by decide +kernel
theorem d_W_law_1544 : decode code 1544 = .ok (.iconst 0, 1) := by decide +kernel
theorem d_W_law_1545 : decode code 1545 = .ok (.ireturn, 1) := by decide +kernel
theorem d_W_law_1546 : decode code 1546 = .ok (.aload_n 1, 1) := by decide +kernel
theorem d_W_law_1547 : decode code 1547 = .ok (.aload_n 0, 1) := by decide +kernel
theorem d_W_law_1548 : decode code 1548 = .ok (.iload_n 3, 1) := by decide +kernel
theorem d_W_law_1549 : decode code 1549 = .ok (.iconst 1, 1) := by decide +kernel
theorem d_W_law_1550 : decode code 1550 = .ok (.iadd, 1) := by decide +kernel
theorem d_W_law_1551 : decode code 1551 = .ok (.iaload, 1) := by decide +kernel
theorem d_W_law_1552 : decode code 1552 = .ok (.aload_n 0, 1) := by decide +kernel
theorem d_W_law_1553 : decode code 1553 = .ok (.iload_n 3, 1) := by decide +kernel
theorem d_W_law_1554 : decode code 1554 = .ok (.iconst 2, 1) := by decide +kernel
theorem d_W_law_1555 : decode code 1555 = .ok (.iadd, 1) := by decide +kernel
theorem d_W_law_1556 : decode code 1556 = .ok (.iaload, 1) := by decide +kernel
theorem d_W_law_1557 : decode code 1557 = .ok (.aload_n 0, 1) := by decide +kernel
theorem d_W_law_1558 : decode code 1558 = .ok (.iload_n 3, 1) := by decide +kernel
theorem d_W_law_1559 : decode code 1559 = .ok (.iconst 3, 1) := by decide +kernel
theorem d_W_law_1560 : decode code 1560 = .ok (.iadd, 1) := by decide +kernel
theorem d_W_law_1561 : decode code 1561 = .ok (.iaload, 1) := by decide +kernel
theorem d_W_law_1562 : decode code 1562 = .ok (.invokevirtual 179, 3) := by decide +kernel
theorem d_W_law_1565 : decode code 1565 = .ok (.aload_n 2, 1) := by decide +kernel
theorem d_W_law_1566 : decode code 1566 = .ok (.aload_n 0, 1) := by decide +kernel
theorem d_W_law_1567 : decode code 1567 = .ok (.iload_n 3, 1) := by decide +kernel
theorem d_W_law_1568 : decode code 1568 = .ok (.iconst 1, 1) := by decide +kernel
theorem d_W_law_1569 : decode code 1569 = .ok (.iadd, 1) := by decide +kernel
theorem d_W_law_1570 : decode code 1570 = .ok (.iaload, 1) := by decide +kernel
theorem d_W_law_1571 : decode code 1571 = .ok (.aload_n 0, 1) := by decide +kernel
theorem d_W_law_1572 : decode code 1572 = .ok (.iload_n 3, 1) := by decide +kernel
theorem d_W_law_1573 : decode code 1573 = .ok (.iconst 2, 1) := by decide +kernel
theorem d_W_law_1574 : decode code 1574 = .ok (.iadd, 1) := by decide +kernel
theorem d_W_law_1575 : decode code 1575 = .ok (.iaload, 1) := by decide +kernel
theorem d_W_law_1576 : decode code 1576 = .ok (.aload_n 0, 1) := by decide +kernel
theorem d_W_law_1577 : decode code 1577 = .ok (.iload_n 3, 1) := by decide +kernel
theorem d_W_law_1578 : decode code 1578 = .ok (.iconst 3, 1) := by decide +kernel
theorem d_W_law_1579 : decode code 1579 = .ok (.iadd, 1) := by decide +kernel
theorem d_W_law_1580 : decode code 1580 = .ok (.iaload, 1) := by decide +kernel
theorem d_W_law_1581 : decode code 1581 = .ok (.invokevirtual 182, 3) := by decide +kernel
theorem d_W_law_1584 : decode code 1584 = .ok (.if_icmp .eq 239, 3) := by decide +kernel
theorem d_W_law_1587 : decode code 1587 = .ok (.iconst 0, 1) := by decide +kernel
theorem d_W_law_1588 : decode code 1588 = .ok (.ireturn, 1) := by decide +kernel
theorem d_W_law_1589 : decode code 1589 = .ok (.aload_n 1, 1) := by decide +kernel
theorem d_W_law_1590 : decode code 1590 = .ok (.aload_n 0, 1) := by decide +kernel
theorem d_W_law_1591 : decode code 1591 = .ok (.iload_n 3, 1) := by decide +kernel
theorem d_W_law_1592 : decode code 1592 = .ok (.iconst 1, 1) := by decide +kernel
theorem d_W_law_1593 : decode code 1593 = .ok (.iadd, 1) := by decide +kernel
theorem d_W_law_1594 : decode code 1594 = .ok (.iaload, 1) := by decide +kernel
theorem d_W_law_1595 : decode code 1595 = .ok (.aload_n 0, 1) := by decide +kernel
theorem d_W_law_1596 : decode code 1596 = .ok (.iload_n 3, 1) := by decide +kernel
theorem d_W_law_1597 : decode code 1597 = .ok (.iconst 2, 1) := by decide +kernel
theorem d_W_law_1598 : decode code 1598 = .ok (.iadd, 1) := by decide +kernel
theorem d_W_law_1599 : decode code 1599 = .ok (.iaload, 1) := by decide +kernel
theorem d_W_law_1600 : decode code 1600 = .ok (.aload_n 0, 1) := by decide +kernel
theorem d_W_law_1601 : decode code 1601 = .ok (.iload_n 3, 1) := by decide +kernel
theorem d_W_law_1602 : decode code 1602 = .ok (.iconst 3, 1) := by decide +kernel
theorem d_W_law_1603 : decode code 1603 = .ok (.iadd, 1) := by decide +kernel
theorem d_W_law_1604 : decode code 1604 = .ok (.iaload, 1) := by decide +kernel
theorem d_W_law_1605 : decode code 1605 = .ok (.invokevirtual 183, 3) := by decide +kernel
theorem d_W_law_1608 : decode code 1608 = .ok (.aload_n 2, 1) := by decide +kernel
theorem d_W_law_1609 : decode code 1609 = .ok (.aload_n 0, 1) := by decide +kernel
theorem d_W_law_1610 : decode code 1610 = .ok (.iload_n 3, 1) := by decide +kernel
theorem d_W_law_1611 : decode code 1611 = .ok (.iconst 1, 1) := by decide +kernel
theorem d_W_law_1612 : decode code 1612 = .ok (.iadd, 1) := by decide +kernel
theorem d_W_law_1613 : decode code 1613 = .ok (.iaload, 1) := by decide +kernel
theorem d_W_law_1614 : decode code 1614 = .ok (.aload_n 0, 1) := by decide +kernel
theorem d_W_law_1615 : decode code 1615 = .ok (.iload_n 3, 1) := by decide +kernel
theorem d_W_law_1616 : decode code 1616 = .ok (.iconst 2, 1) := by decide +kernel
theorem d_W_law_1617 : decode code 1617 = .ok (.iadd, 1) := by decide +kernel
theorem d_W_law_1618 : decode code 1618 = .ok (.iaload, 1) := by decide +kernel
theorem d_W_law_1619 : decode code 1619 = .ok (.aload_n 0, 1) := by decide +kernel
theorem d_W_law_1620 : decode code 1620 = .ok (.iload_n 3, 1) := by decide +kernel
theorem d_W_law_1621 : decode code 1621 = .ok (.iconst 3, 1) := by decide +kernel
theorem d_W_law_1622 : decode code 1622 = .ok (.iadd, 1) := by decide +kernel
theorem d_W_law_1623 : decode code 1623 = .ok (.iaload, 1) := by decide +kernel
theorem d_W_law_1624 : decode code 1624 = .ok (.invokevirtual 186, 3) := by decide +kernel
theorem d_W_law_1627 : decode code 1627 = .ok (.if_icmp .eq 196, 3) := by decide +kernel
theorem d_W_law_1630 : decode code 1630 = .ok (.iconst 0, 1) := by decide +kernel
theorem d_W_law_1631 : decode code 1631 = .ok (.ireturn, 1) := by decide +kernel
theorem d_W_law_1632 : decode code 1632 = .ok (.aload_n 1, 1) := by decide +kernel
theorem d_W_law_1633 : decode code 1633 = .ok (.aload_n 0, 1) := by decide +kernel
theorem d_W_law_1634 : decode code 1634 = .ok (.iload_n 3, 1) := by decide +kernel
theorem d_W_law_1635 : decode code 1635 = .ok (.iconst 1, 1) := by decide +kernel
theorem d_W_law_1636 : decode code 1636 = .ok (.iadd, 1) := by decide +kernel
theorem d_W_law_1637 : decode code 1637 = .ok (.iaload, 1) := by decide +kernel
theorem d_W_law_1638 : decode code 1638 = .ok (.aload_n 0, 1) := by decide +kernel
theorem d_W_law_1639 : decode code 1639 = .ok (.iload_n 3, 1) := by decide +kernel
theorem d_W_law_1640 : decode code 1640 = .ok (.iconst 2, 1) := by decide +kernel
theorem d_W_law_1641 : decode code 1641 = .ok (.iadd, 1) := by decide +kernel
theorem d_W_law_1642 : decode code 1642 = .ok (.iaload, 1) := by decide +kernel
theorem d_W_law_1643 : decode code 1643 = .ok (.aload_n 0, 1) := by decide +kernel
theorem d_W_law_1644 : decode code 1644 = .ok (.iload_n 3, 1) := by decide +kernel
theorem d_W_law_1645 : decode code 1645 = .ok (.iconst 3, 1) := by decide +kernel
theorem d_W_law_1646 : decode code 1646 = .ok (.iadd, 1) := by decide +kernel
theorem d_W_law_1647 : decode code 1647 = .ok (.iaload, 1) := by decide +kernel
theorem d_W_law_1648 : decode code 1648 = .ok (.aload_n 0, 1) := by decide +kernel
theorem d_W_law_1649 : decode code 1649 = .ok (.iload_n 3, 1) := by decide +kernel
theorem d_W_law_1650 : decode code 1650 = .ok (.iconst 4, 1) := by decide +kernel
theorem d_W_law_1651 : decode code 1651 = .ok (.iadd, 1) := by decide +kernel
theorem d_W_law_1652 : decode code 1652 = .ok (.iaload, 1) := by decide +kernel
theorem d_W_law_1653 : decode code 1653 = .ok (.aload_n 0, 1) := by decide +kernel
theorem d_W_law_1654 : decode code 1654 = .ok (.iload_n 3, 1) := by decide +kernel
theorem d_W_law_1655 : decode code 1655 = .ok (.iconst 5, 1) := by decide +kernel
theorem d_W_law_1656 : decode code 1656 = .ok (.iadd, 1) := by decide +kernel
theorem d_W_law_1657 : decode code 1657 = .ok (.iaload, 1) := by decide +kernel
theorem d_W_law_1658 : decode code 1658 = .ok (.invokevirtual 187, 3) := by decide +kernel
theorem d_W_law_1661 : decode code 1661 = .ok (.aload_n 2, 1) := by decide +kernel
theorem d_W_law_1662 : decode code 1662 = .ok (.aload_n 0, 1) := by decide +kernel
theorem d_W_law_1663 : decode code 1663 = .ok (.iload_n 3, 1) := by decide +kernel
theorem d_W_law_1664 : decode code 1664 = .ok (.iconst 1, 1) := by decide +kernel
theorem d_W_law_1665 : decode code 1665 = .ok (.iadd, 1) := by decide +kernel
theorem d_W_law_1666 : decode code 1666 = .ok (.iaload, 1) := by decide +kernel
theorem d_W_law_1667 : decode code 1667 = .ok (.aload_n 0, 1) := by decide +kernel
theorem d_W_law_1668 : decode code 1668 = .ok (.iload_n 3, 1) := by decide +kernel
theorem d_W_law_1669 : decode code 1669 = .ok (.iconst 2, 1) := by decide +kernel
theorem d_W_law_1670 : decode code 1670 = .ok (.iadd, 1) := by decide +kernel
theorem d_W_law_1671 : decode code 1671 = .ok (.iaload, 1) := by decide +kernel
theorem d_W_law_1672 : decode code 1672 = .ok (.aload_n 0, 1) := by decide +kernel
theorem d_W_law_1673 : decode code 1673 = .ok (.iload_n 3, 1) := by decide +kernel
theorem d_W_law_1674 : decode code 1674 = .ok (.iconst 3, 1) := by decide +kernel
theorem d_W_law_1675 : decode code 1675 = .ok (.iadd, 1) := by decide +kernel
theorem d_W_law_1676 : decode code 1676 = .ok (.iaload, 1) := by decide +kernel
theorem d_W_law_1677 : decode code 1677 = .ok (.aload_n 0, 1) := by decide +kernel
theorem d_W_law_1678 : decode code 1678 = .ok (.iload_n 3, 1) := by decide +kernel
theorem d_W_law_1679 : decode code 1679 = .ok (.iconst 4, 1) := by decide +kernel
theorem d_W_law_1680 : decode code 1680 = .ok (.iadd, 1) := by decide +kernel
theorem d_W_law_1681 : decode code 1681 = .ok (.iaload, 1) := by decide +kernel
theorem d_W_law_1682 : decode code 1682 = .ok (.aload_n 0, 1) := by decide +kernel
theorem d_W_law_1683 : decode code 1683 = .ok (.iload_n 3, 1) := by decide +kernel
theorem d_W_law_1684 : decode code 1684 = .ok (.iconst 5, 1) := by decide +kernel
theorem d_W_law_1685 : decode code 1685 = .ok (.iadd, 1) := by decide +kernel
theorem d_W_law_1686 : decode code 1686 = .ok (.iaload, 1) := by decide +kernel
theorem d_W_law_1687 : decode code 1687 = .ok (.invokevirtual 191, 3) := by decide +kernel
theorem d_W_law_1690 : decode code 1690 = .ok (.if_icmp .eq 133, 3) := by decide +kernel
theorem d_W_law_1693 : decode code 1693 = .ok (.iconst 0, 1) := by decide +kernel
theorem d_W_law_1694 : decode code 1694 = .ok (.ireturn, 1) := by decide +kernel
theorem d_W_law_1695 : decode code 1695 = .ok (.aload_n 1, 1) := by decide +kernel
theorem d_W_law_1696 : decode code 1696 = .ok (.aload_n 0, 1) := by decide +kernel
theorem d_W_law_1697 : decode code 1697 = .ok (.iload_n 3, 1) := by decide +kernel
theorem d_W_law_1698 : decode code 1698 = .ok (.iconst 1, 1) := by decide +kernel
theorem d_W_law_1699 : decode code 1699 = .ok (.iadd, 1) := by decide +kernel
theorem d_W_law_1700 : decode code 1700 = .ok (.iaload, 1) := by decide +kernel
theorem d_W_law_1701 : decode code 1701 = .ok (.aload_n 0, 1) := by decide +kernel
theorem d_W_law_1702 : decode code 1702 = .ok (.iload_n 3, 1) := by decide +kernel
theorem d_W_law_1703 : decode code 1703 = .ok (.iconst 2, 1) := by decide +kernel
theorem d_W_law_1704 : decode code 1704 = .ok (.iadd, 1) := by decide +kernel
theorem d_W_law_1705 : decode code 1705 = .ok (.iaload, 1) := by decide +kernel
theorem d_W_law_1706 : decode code 1706 = .ok (.invokevirtual 192, 3) := by decide +kernel
theorem d_W_law_1709 : decode code 1709 = .ok (.aload_n 2, 1) := by decide +kernel
theorem d_W_law_1710 : decode code 1710 = .ok (.aload_n 0, 1) := by decide +kernel
theorem d_W_law_1711 : decode code 1711 = .ok (.iload_n 3, 1) := by decide +kernel
theorem d_W_law_1712 : decode code 1712 = .ok (.iconst 1, 1) := by decide +kernel
theorem d_W_law_1713 : decode code 1713 = .ok (.iadd, 1) := by decide +kernel
theorem d_W_law_1714 : decode code 1714 = .ok (.iaload, 1) := by decide +kernel
theorem d_W_law_1715 : decode code 1715 = .ok (.aload_n 0, 1) := by decide +kernel
theorem d_W_law_1716 : decode code 1716 = .ok (.iload_n 3, 1) := by decide +kernel
theorem d_W_law_1717 : decode code 1717 = .ok (.iconst 2, 1) := by decide +kernel
theorem d_W_law_1718 : decode code 1718 = .ok (.iadd, 1) := by decide +kernel
theorem d_W_law_1719 : decode code 1719 = .ok (.iaload, 1) := by decide +kernel
theorem d_W_law_1720 : decode code 1720 = .ok (.invokevirtual 195, 3) := by decide +kernel
theorem d_W_law_1723 : decode code 1723 = .ok (.if_icmp .eq 100, 3) := by decide +kernel
theorem d_W_law_1726 : decode code 1726 = .ok (.iconst 0, 1) := by decide +kernel
theorem d_W_law_1727 : decode code 1727 = .ok (.ireturn, 1) := by decide +kernel
theorem d_W_law_1728 : decode code 1728 = .ok (.aload_n 1, 1) := by decide +kernel
theorem d_W_law_1729 : decode code 1729 = .ok (.aload_n 0, 1) := by decide +kernel
theorem d_W_law_1730 : decode code 1730 = .ok (.iload_n 3, 1) := by decide +kernel
theorem d_W_law_1731 : decode code 1731 = .ok (.iconst 1, 1) := by decide +kernel
theorem d_W_law_1732 : decode code 1732 = .ok (.iadd, 1) := by decide +kernel
theorem d_W_law_1733 : decode code 1733 = .ok (.iaload, 1) := by decide +kernel
theorem d_W_law_1734 : decode code 1734 = .ok (.invokevirtual 196, 3) := by decide +kernel
theorem d_W_law_1737 : decode code 1737 = .ok (.aload_n 2, 1) := by decide +kernel
theorem d_W_law_1738 : decode code 1738 = .ok (.aload_n 0, 1) := by decide +kernel
theorem d_W_law_1739 : decode code 1739 = .ok (.iload_n 3, 1) := by decide +kernel
theorem d_W_law_1740 : decode code 1740 = .ok (.iconst 1, 1) := by decide +kernel
theorem d_W_law_1741 : decode code 1741 = .ok (.iadd, 1) := by decide +kernel
theorem d_W_law_1742 : decode code 1742 = .ok (.iaload, 1) := by decide +kernel
theorem d_W_law_1743 : decode code 1743 = .ok (.invokevirtual 199, 3) := by decide +kernel
theorem d_W_law_1746 : decode code 1746 = .ok (.if_icmp .eq 77, 3) := by decide +kernel
theorem d_W_law_1749 : decode code 1749 = .ok (.iconst 0, 1) := by decide +kernel
theorem d_W_law_1750 : decode code 1750 = .ok (.ireturn, 1) := by decide +kernel
theorem d_W_law_1751 : decode code 1751 = .ok (.aload_n 1, 1) := by decide +kernel
theorem d_W_law_1752 : decode code 1752 = .ok (.aload_n 0, 1) := by decide +kernel
theorem d_W_law_1753 : decode code 1753 = .ok (.iload_n 3, 1) := by decide +kernel
theorem d_W_law_1754 : decode code 1754 = .ok (.iconst 1, 1) := by decide +kernel
theorem d_W_law_1755 : decode code 1755 = .ok (.iadd, 1) := by decide +kernel
theorem d_W_law_1756 : decode code 1756 = .ok (.iaload, 1) := by decide +kernel
theorem d_W_law_1757 : decode code 1757 = .ok (.invokevirtual 200, 3) := by decide +kernel
theorem d_W_law_1760 : decode code 1760 = .ok (.aload_n 2, 1) := by decide +kernel
theorem d_W_law_1761 : decode code 1761 = .ok (.aload_n 0, 1) := by decide +kernel
theorem d_W_law_1762 : decode code 1762 = .ok (.iload_n 3, 1) := by decide +kernel
theorem d_W_law_1763 : decode code 1763 = .ok (.iconst 1, 1) := by decide +kernel
theorem d_W_law_1764 : decode code 1764 = .ok (.iadd, 1) := by decide +kernel
theorem d_W_law_1765 : decode code 1765 = .ok (.iaload, 1) := by decide +kernel
theorem d_W_law_1766 : decode code 1766 = .ok (.invokevirtual 203, 3) := by decide +kernel
theorem d_W_law_1769 : decode code 1769 = .ok (.if_icmp .eq 54, 3) := by decide +kernel
theorem d_W_law_1772 : decode code 1772 = .ok (.iconst 0, 1) := by decide +kernel
theorem d_W_law_1773 : decode code 1773 = .ok (.ireturn, 1) := by decide +kernel
theorem d_W_law_1774 : decode code 1774 = .ok (.aload_n 1, 1) := by decide +kernel
theorem d_W_law_1775 : decode code 1775 = .ok (.invokevirtual 204, 3) := by decide +kernel
theorem d_W_law_1778 : decode code 1778 = .ok (.aload_n 2, 1) := by decide +kernel
theorem d_W_law_1779 : decode code 1779 = .ok (.invokevirtual 207, 3) := by decide +kernel
theorem d_W_law_1782 : decode code 1782 = .ok (.if_icmp .eq 41, 3) := by decide +kernel
theorem d_W_law_1785 : decode code 1785 = .ok (.iconst 0, 1) := by decide +kernel
theorem d_W_law_1786 : decode code 1786 = .ok (.ireturn, 1) := by decide +kernel
theorem d_W_law_1787 : decode code 1787 = .ok (.aload_n 1, 1) := by decide +kernel
theorem d_W_law_1788 : decode code 1788 = .ok (.invokevirtual 208, 3) := by decide +kernel
theorem d_W_law_1791 : decode code 1791 = .ok (.aload_n 2, 1) := by decide +kernel
theorem d_W_law_1792 : decode code 1792 = .ok (.invokevirtual 211, 3) := by decide +kernel
theorem d_W_law_1795 : decode code 1795 = .ok (.if_icmp .eq 28, 3) := by decide +kernel
theorem d_W_law_1798 : decode code 1798 = .ok (.iconst 0, 1) := by decide +kernel
theorem d_W_law_1799 : decode code 1799 = .ok (.ireturn, 1) := by decide +kernel
theorem d_W_law_1800 : decode code 1800 = .ok (.aload_n 1, 1) := by decide +kernel
theorem d_W_law_1801 : decode code 1801 = .ok (.aload_n 0, 1) := by decide +kernel
theorem d_W_law_1802 : decode code 1802 = .ok (.iload_n 3, 1) := by decide +kernel
theorem d_W_law_1803 : decode code 1803 = .ok (.iconst 1, 1) := by decide +kernel
theorem d_W_law_1804 : decode code 1804 = .ok (.iadd, 1) := by decide +kernel
theorem d_W_law_1805 : decode code 1805 = .ok (.iaload, 1) := by decide +kernel
theorem d_W_law_1806 : decode code 1806 = .ok (.invokevirtual 212, 3) := by decide +kernel
theorem d_W_law_1809 : decode code 1809 = .ok (.aload_n 2, 1) := by decide +kernel
theorem d_W_law_1810 : decode code 1810 = .ok (.aload_n 0, 1) := by decide +kernel
theorem d_W_law_1811 : decode code 1811 = .ok (.iload_n 3, 1) := by decide +kernel
theorem d_W_law_1812 : decode code 1812 = .ok (.iconst 1, 1) := by decide +kernel
theorem d_W_law_1813 : decode code 1813 = .ok (.iadd, 1) := by decide +kernel
theorem d_W_law_1814 : decode code 1814 = .ok (.iaload, 1) := by decide +kernel
theorem d_W_law_1815 : decode code 1815 = .ok (.invokevirtual 215, 3) := by decide +kernel
theorem d_W_law_1818 : decode code 1818 = .ok (.if_icmp .eq 5, 3) := by decide +kernel
theorem d_W_law_1821 : decode code 1821 = .ok (.iconst 0, 1) := by decide +kernel
theorem d_W_law_1822 : decode code 1822 = .ok (.ireturn, 1) := by decide +kernel
theorem d_W_law_1823 : decode code 1823 = .ok (.iinc 3 7, 3) := by decide +kernel
theorem d_W_law_1826 : decode code 1826 = .ok (.goto (-1808), 3) := by decide +kernel
theorem d_W_law_1829 : decode code 1829 = .ok (.iconst 1, 1) := by decide +kernel
theorem d_W_law_1830 : decode code 1830 = .ok (.ireturn, 1) := by decide +kernel
