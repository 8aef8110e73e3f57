/-! which instruction stands where -/
theorem c_W_law_0 : cT 281 0 = o_new 3 9 9 [.null, .null, .null, .int 0, .null, .null, .null, .null, .int 0] := rfl
theorem c_W_law_3 : cT 281 3 = o_dup 4 := rfl
theorem c_W_law_4 : cT 281 4 = o_ca 7 9 1 1 false (some 9) := rfl
theorem c_W_law_7 : cT 281 7 = o_as 8 1 := rfl
theorem c_W_law_8 : cT 281 8 = o_new 11 10 28 [.null, .null, .null, .int 0, .null, .int 0, .null, .int 0, .null, .null, .null, .null, .int 0, .int 0, .int 0, .int 0, .int 0, .int 0, .int 0, .null, .null, .int 0, .int 0, .null, .null, .null, .null, .null] := rfl
theorem c_W_law_11 : cT 281 11 = o_dup 12 := rfl
theorem c_W_law_12 : cT 281 12 = o_ca 15 10 1 2 false (some 10) := rfl
theorem c_W_law_15 : cT 281 15 = o_as 16 2 := rfl
theorem c_W_law_16 : cT 281 16 = o_ci 17 0 := rfl
theorem c_W_law_17 : cT 281 17 = o_is 18 3 := rfl
theorem c_W_law_18 : cT 281 18 = o_il 19 3 := rfl
theorem c_W_law_19 : cT 281 19 = o_al 20 0 := rfl
theorem c_W_law_20 : cT 281 20 = o_len 21 := rfl
theorem c_W_law_21 : cT 281 21 = o_ci 23 7 := rfl
theorem c_W_law_23 : cT 281 23 = o_isub 24 := rfl
theorem c_W_law_24 : cT 281 24 = o_icgt 27 1829 := rfl
theorem c_W_law_27 : cT 281 27 = o_al 28 0 := rfl
theorem c_W_law_28 : cT 281 28 = o_il 29 3 := rfl
theorem c_W_law_29 : cT 281 29 = o_ial 30 := rfl
theorem c_W_law_30 : cT 281 30 = o_ci 32 63 := rfl
theorem c_W_law_32 : cT 281 32 = o_iand 33 := rfl
theorem c_W_law_33 : cT 281 33 = o_sw 1823 [(0, 244), (1, 297), (2, 330), (3, 373), (4, 416), (5, 459), (6, 482), (7, 505), (8, 528), (9, 561), (10, 594), (11, 617), (12, 650), (13, 683), (14, 706), (15, 749), (16, 772), (17, 805), (18, 838), (19, 871), (20, 946), (21, 989), (22, 1022), (23, 1055), (24, 1088), (25, 1131), (26, 1164), (27, 1207), (28, 1240), (29, 1273), (30, 1296), (31, 1319), (32, 1342), (33, 1365), (34, 1388), (35, 1431), (36, 1464), (37, 1497), (38, 1510), (39, 1533), (40, 1546), (41, 1589), (42, 1632), (43, 1695), (44, 1728), (45, 1751), (46, 1774), (47, 1787), (48, 1800)] := rfl
theorem c_W_law_244 : cT 281 244 = o_al 245 1 := rfl
theorem c_W_law_245 : cT 281 245 = o_al 246 0 := rfl
theorem c_W_law_246 : cT 281 246 = o_il 247 3 := rfl
theorem c_W_law_247 : cT 281 247 = o_ci 248 1 := rfl
theorem c_W_law_248 : cT 281 248 = o_iadd 249 := rfl
theorem c_W_law_249 : cT 281 249 = o_ial 250 := rfl
theorem c_W_law_250 : cT 281 250 = o_al 251 0 := rfl
theorem c_W_law_251 : cT 281 251 = o_il 252 3 := rfl
theorem c_W_law_252 : cT 281 252 = o_ci 253 2 := rfl
theorem c_W_law_253 : cT 281 253 = o_iadd 254 := rfl
theorem c_W_law_254 : cT 281 254 = o_ial 255 := rfl
theorem c_W_law_255 : cT 281 255 = o_al 256 0 := rfl
theorem c_W_law_256 : cT 281 256 = o_il 257 3 := rfl
theorem c_W_law_257 : cT 281 257 = o_ci 258 3 := rfl
theorem c_W_law_258 : cT 281 258 = o_iadd 259 := rfl
theorem c_W_law_259 : cT 281 259 = o_ial 260 := rfl
theorem c_W_law_260 : cT 281 260 = o_al 261 0 := rfl
theorem c_W_law_261 : cT 281 261 = o_il 262 3 := rfl
theorem c_W_law_262 : cT 281 262 = o_ci 263 4 := rfl
theorem c_W_law_263 : cT 281 263 = o_iadd 264 := rfl
theorem c_W_law_264 : cT 281 264 = o_ial 265 := rfl
theorem c_W_law_265 : cT 281 265 = o_ca 268 16 5 6 false (some 9) := rfl
theorem c_W_law_268 : cT 281 268 = o_al 269 2 := rfl
theorem c_W_law_269 : cT 281 269 = o_al 270 0 := rfl
theorem c_W_law_270 : cT 281 270 = o_il 271 3 := rfl
theorem c_W_law_271 : cT 281 271 = o_ci 272 1 := rfl
theorem c_W_law_272 : cT 281 272 = o_iadd 273 := rfl
theorem c_W_law_273 : cT 281 273 = o_ial 274 := rfl
theorem c_W_law_274 : cT 281 274 = o_al 275 0 := rfl
theorem c_W_law_275 : cT 281 275 = o_il 276 3 := rfl
theorem c_W_law_276 : cT 281 276 = o_ci 277 2 := rfl
theorem c_W_law_277 : cT 281 277 = o_iadd 278 := rfl
theorem c_W_law_278 : cT 281 278 = o_ial 279 := rfl
theorem c_W_law_279 : cT 281 279 = o_al 280 0 := rfl
theorem c_W_law_280 : cT 281 280 = o_il 281 3 := rfl
theorem c_W_law_281 : cT 281 281 = o_ci 282 3 := rfl
theorem c_W_law_282 : cT 281 282 = o_iadd 283 := rfl
theorem c_W_law_283 : cT 281 283 = o_ial 284 := rfl
theorem c_W_law_284 : cT 281 284 = o_al 285 0 := rfl
theorem c_W_law_285 : cT 281 285 = o_il 286 3 := rfl
theorem c_W_law_286 : cT 281 286 = o_ci 287 4 := rfl
theorem c_W_law_287 : cT 281 287 = o_iadd 288 := rfl
theorem c_W_law_288 : cT 281 288 = o_ial 289 := rfl
theorem c_W_law_289 : cT 281 289 = o_ca 292 20 5 6 false (some 10) := rfl
theorem c_W_law_292 : cT 281 292 = o_iceq 295 1823 := rfl
theorem c_W_law_295 : cT 281 295 = o_ci 296 0 := rfl
theorem c_W_law_296 : cT 281 296 = o_iret .boolean := rfl
theorem c_W_law_297 : cT 281 297 = o_al 298 1 := rfl
theorem c_W_law_298 : cT 281 298 = o_al 299 0 := rfl
theorem c_W_law_299 : cT 281 299 = o_il 300 3 := rfl
theorem c_W_law_300 : cT 281 300 = o_ci 301 1 := rfl
theorem c_W_law_301 : cT 281 301 = o_iadd 302 := rfl
theorem c_W_law_302 : cT 281 302 = o_ial 303 := rfl
theorem c_W_law_303 : cT 281 303 = o_al 304 0 := rfl
theorem c_W_law_304 : cT 281 304 = o_il 305 3 := rfl
theorem c_W_law_305 : cT 281 305 = o_ci 306 2 := rfl
theorem c_W_law_306 : cT 281 306 = o_iadd 307 := rfl
theorem c_W_law_307 : cT 281 307 = o_ial 308 := rfl
theorem c_W_law_308 : cT 281 308 = o_ca 311 28 3 3 false (some 9) := rfl
theorem c_W_law_311 : cT 281 311 = o_al 312 2 := rfl
theorem c_W_law_312 : cT 281 312 = o_al 313 0 := rfl
theorem c_W_law_313 : cT 281 313 = o_il 314 3 := rfl
theorem c_W_law_314 : cT 281 314 = o_ci 315 1 := rfl
theorem c_W_law_315 : cT 281 315 = o_iadd 316 := rfl
theorem c_W_law_316 : cT 281 316 = o_ial 317 := rfl
theorem c_W_law_317 : cT 281 317 = o_al 318 0 := rfl
theorem c_W_law_318 : cT 281 318 = o_il 319 3 := rfl
theorem c_W_law_319 : cT 281 319 = o_ci 320 2 := rfl
theorem c_W_law_320 : cT 281 320 = o_iadd 321 := rfl
theorem c_W_law_321 : cT 281 321 = o_ial 322 := rfl
theorem c_W_law_322 : cT 281 322 = o_ca 325 36 3 3 false (some 10) := rfl
theorem c_W_law_325 : cT 281 325 = o_iceq 328 1823 := rfl
theorem c_W_law_328 : cT 281 328 = o_ci 329 0 := rfl
theorem c_W_law_329 : cT 281 329 = o_iret .boolean := rfl
theorem c_W_law_330 : cT 281 330 = o_al 331 1 := rfl
theorem c_W_law_331 : cT 281 331 = o_al 332 0 := rfl
theorem c_W_law_332 : cT 281 332 = o_il 333 3 := rfl
theorem c_W_law_333 : cT 281 333 = o_ci 334 1 := rfl
theorem c_W_law_334 : cT 281 334 = o_iadd 335 := rfl
theorem c_W_law_335 : cT 281 335 = o_ial 336 := rfl
theorem c_W_law_336 : cT 281 336 = o_al 337 0 := rfl
theorem c_W_law_337 : cT 281 337 = o_il 338 3 := rfl
theorem c_W_law_338 : cT 281 338 = o_ci 339 2 := rfl
theorem c_W_law_339 : cT 281 339 = o_iadd 340 := rfl
theorem c_W_law_340 : cT 281 340 = o_ial 341 := rfl
theorem c_W_law_341 : cT 281 341 = o_al 342 0 := rfl
theorem c_W_law_342 : cT 281 342 = o_il 343 3 := rfl
theorem c_W_law_343 : cT 281 343 = o_ci 344 3 := rfl
theorem c_W_law_344 : cT 281 344 = o_iadd 345 := rfl
theorem c_W_law_345 : cT 281 345 = o_ial 346 := rfl
theorem c_W_law_346 : cT 281 346 = o_ca 349 39 4 4 false (some 9) := rfl
theorem c_W_law_349 : cT 281 349 = o_al 350 2 := rfl
theorem c_W_law_350 : cT 281 350 = o_al 351 0 := rfl
theorem c_W_law_351 : cT 281 351 = o_il 352 3 := rfl
theorem c_W_law_352 : cT 281 352 = o_ci 353 1 := rfl
theorem c_W_law_353 : cT 281 353 = o_iadd 354 := rfl
theorem c_W_law_354 : cT 281 354 = o_ial 355 := rfl
theorem c_W_law_355 : cT 281 355 = o_al 356 0 := rfl
theorem c_W_law_356 : cT 281 356 = o_il 357 3 := rfl
theorem c_W_law_357 : cT 281 357 = o_ci 358 2 := rfl
theorem c_W_law_358 : cT 281 358 = o_iadd 359 := rfl
theorem c_W_law_359 : cT 281 359 = o_ial 360 := rfl
theorem c_W_law_360 : cT 281 360 = o_al 361 0 := rfl
theorem c_W_law_361 : cT 281 361 = o_il 362 3 := rfl
theorem c_W_law_362 : cT 281 362 = o_ci 363 3 := rfl
theorem c_W_law_363 : cT 281 363 = o_iadd 364 := rfl
theorem c_W_law_364 : cT 281 364 = o_ial 365 := rfl
theorem c_W_law_365 : cT 281 365 = o_ca 368 40 4 6 false (some 10) := rfl
theorem c_W_law_368 : cT 281 368 = o_iceq 371 1823 := rfl
theorem c_W_law_371 : cT 281 371 = o_ci 372 0 := rfl
theorem c_W_law_372 : cT 281 372 = o_iret .boolean := rfl
theorem c_W_law_373 : cT 281 373 = o_al 374 1 := rfl
theorem c_W_law_374 : cT 281 374 = o_al 375 0 := rfl
theorem c_W_law_375 : cT 281 375 = o_il 376 3 := rfl
theorem c_W_law_376 : cT 281 376 = o_ci 377 1 := rfl
theorem c_W_law_377 : cT 281 377 = o_iadd 378 := rfl
theorem c_W_law_378 : cT 281 378 = o_ial 379 := rfl
theorem c_W_law_379 : cT 281 379 = o_al 380 0 := rfl
theorem c_W_law_380 : cT 281 380 = o_il 381 3 := rfl
theorem c_W_law_381 : cT 281 381 = o_ci 382 2 := rfl
theorem c_W_law_382 : cT 281 382 = o_iadd 383 := rfl
theorem c_W_law_383 : cT 281 383 = o_ial 384 := rfl
theorem c_W_law_384 : cT 281 384 = o_al 385 0 := rfl
theorem c_W_law_385 : cT 281 385 = o_il 386 3 := rfl
theorem c_W_law_386 : cT 281 386 = o_ci 387 3 := rfl
theorem c_W_law_387 : cT 281 387 = o_iadd 388 := rfl
theorem c_W_law_388 : cT 281 388 = o_ial 389 := rfl
theorem c_W_law_389 : cT 281 389 = o_ca 392 42 4 4 false (some 9) := rfl
theorem c_W_law_392 : cT 281 392 = o_al 393 2 := rfl
theorem c_W_law_393 : cT 281 393 = o_al 394 0 := rfl
theorem c_W_law_394 : cT 281 394 = o_il 395 3 := rfl
theorem c_W_law_395 : cT 281 395 = o_ci 396 1 := rfl
theorem c_W_law_396 : cT 281 396 = o_iadd 397 := rfl
theorem c_W_law_397 : cT 281 397 = o_ial 398 := rfl
theorem c_W_law_398 : cT 281 398 = o_al 399 0 := rfl
theorem c_W_law_399 : cT 281 399 = o_il 400 3 := rfl
theorem c_W_law_400 : cT 281 400 = o_ci 401 2 := rfl
theorem c_W_law_401 : cT 281 401 = o_iadd 402 := rfl
theorem c_W_law_402 : cT 281 402 = o_ial 403 := rfl
theorem c_W_law_403 : cT 281 403 = o_al 404 0 := rfl
theorem c_W_law_404 : cT 281 404 = o_il 405 3 := rfl
theorem c_W_law_405 : cT 281 405 = o_ci 406 3 := rfl
theorem c_W_law_406 : cT 281 406 = o_iadd 407 := rfl
theorem c_W_law_407 : cT 281 407 = o_ial 408 := rfl
theorem c_W_law_408 : cT 281 408 = o_ca 411 43 4 5 false (some 10) := rfl
theorem c_W_law_411 : cT 281 411 = o_iceq 414 1823 := rfl
theorem c_W_law_414 : cT 281 414 = o_ci 415 0 := rfl
theorem c_W_law_415 : cT 281 415 = o_iret .boolean := rfl
theorem c_W_law_416 : cT 281 416 = o_al 417 1 := rfl
theorem c_W_law_417 : cT 281 417 = o_al 418 0 := rfl
theorem c_W_law_418 : cT 281 418 = o_il 419 3 := rfl
theorem c_W_law_419 : cT 281 419 = o_ci 420 1 := rfl
theorem c_W_law_420 : cT 281 420 = o_iadd 421 := rfl
theorem c_W_law_421 : cT 281 421 = o_ial 422 := rfl
theorem c_W_law_422 : cT 281 422 = o_al 423 0 := rfl
theorem c_W_law_423 : cT 281 423 = o_il 424 3 := rfl
theorem c_W_law_424 : cT 281 424 = o_ci 425 2 := rfl
theorem c_W_law_425 : cT 281 425 = o_iadd 426 := rfl
theorem c_W_law_426 : cT 281 426 = o_ial 427 := rfl
theorem c_W_law_427 : cT 281 427 = o_al 428 0 := rfl
theorem c_W_law_428 : cT 281 428 = o_il 429 3 := rfl
theorem c_W_law_429 : cT 281 429 = o_ci 430 3 := rfl
theorem c_W_law_430 : cT 281 430 = o_iadd 431 := rfl
theorem c_W_law_431 : cT 281 431 = o_ial 432 := rfl
theorem c_W_law_432 : cT 281 432 = o_ca 435 44 4 4 false (some 9) := rfl
theorem c_W_law_435 : cT 281 435 = o_al 436 2 := rfl
theorem c_W_law_436 : cT 281 436 = o_al 437 0 := rfl
theorem c_W_law_437 : cT 281 437 = o_il 438 3 := rfl
theorem c_W_law_438 : cT 281 438 = o_ci 439 1 := rfl
theorem c_W_law_439 : cT 281 439 = o_iadd 440 := rfl
theorem c_W_law_440 : cT 281 440 = o_ial 441 := rfl
theorem c_W_law_441 : cT 281 441 = o_al 442 0 := rfl
theorem c_W_law_442 : cT 281 442 = o_il 443 3 := rfl
theorem c_W_law_443 : cT 281 443 = o_ci 444 2 := rfl
theorem c_W_law_444 : cT 281 444 = o_iadd 445 := rfl
theorem c_W_law_445 : cT 281 445 = o_ial 446 := rfl
theorem c_W_law_446 : cT 281 446 = o_al 447 0 := rfl
theorem c_W_law_447 : cT 281 447 = o_il 448 3 := rfl
theorem c_W_law_448 : cT 281 448 = o_ci 449 3 := rfl
theorem c_W_law_449 : cT 281 449 = o_iadd 450 := rfl
theorem c_W_law_450 : cT 281 450 = o_ial 451 := rfl
theorem c_W_law_451 : cT 281 451 = o_ca 454 45 4 5 false (some 10) := rfl
theorem c_W_law_454 : cT 281 454 = o_iceq 457 1823 := rfl
theorem c_W_law_457 : cT 281 457 = o_ci 458 0 := rfl
theorem c_W_law_458 : cT 281 458 = o_iret .boolean := rfl
theorem c_W_law_459 : cT 281 459 = o_al 460 1 := rfl
theorem c_W_law_460 : cT 281 460 = o_al 461 0 := rfl
theorem c_W_law_461 : cT 281 461 = o_il 462 3 := rfl
theorem c_W_law_462 : cT 281 462 = o_ci 463 1 := rfl
theorem c_W_law_463 : cT 281 463 = o_iadd 464 := rfl
theorem c_W_law_464 : cT 281 464 = o_ial 465 := rfl
theorem c_W_law_465 : cT 281 465 = o_ca 468 50 2 2 false (some 9) := rfl
theorem c_W_law_468 : cT 281 468 = o_al 469 2 := rfl
theorem c_W_law_469 : cT 281 469 = o_al 470 0 := rfl
theorem c_W_law_470 : cT 281 470 = o_il 471 3 := rfl
theorem c_W_law_471 : cT 281 471 = o_ci 472 1 := rfl
theorem c_W_law_472 : cT 281 472 = o_iadd 473 := rfl
theorem c_W_law_473 : cT 281 473 = o_ial 474 := rfl
theorem c_W_law_474 : cT 281 474 = o_ca 477 52 2 2 false (some 10) := rfl
theorem c_W_law_477 : cT 281 477 = o_iceq 480 1823 := rfl
theorem c_W_law_480 : cT 281 480 = o_ci 481 0 := rfl
theorem c_W_law_481 : cT 281 481 = o_iret .boolean := rfl
theorem c_W_law_482 : cT 281 482 = o_al 483 1 := rfl
theorem c_W_law_483 : cT 281 483 = o_al 484 0 := rfl
theorem c_W_law_484 : cT 281 484 = o_il 485 3 := rfl
theorem c_W_law_485 : cT 281 485 = o_ci 486 1 := rfl
theorem c_W_law_486 : cT 281 486 = o_iadd 487 := rfl
theorem c_W_law_487 : cT 281 487 = o_ial 488 := rfl
theorem c_W_law_488 : cT 281 488 = o_ca 491 53 2 2 false (some 9) := rfl
theorem c_W_law_491 : cT 281 491 = o_al 492 2 := rfl
theorem c_W_law_492 : cT 281 492 = o_al 493 0 := rfl
theorem c_W_law_493 : cT 281 493 = o_il 494 3 := rfl
theorem c_W_law_494 : cT 281 494 = o_ci 495 1 := rfl
theorem c_W_law_495 : cT 281 495 = o_iadd 496 := rfl
theorem c_W_law_496 : cT 281 496 = o_ial 497 := rfl
theorem c_W_law_497 : cT 281 497 = o_ca 500 54 2 2 false (some 10) := rfl
theorem c_W_law_500 : cT 281 500 = o_iceq 503 1823 := rfl
theorem c_W_law_503 : cT 281 503 = o_ci 504 0 := rfl
theorem c_W_law_504 : cT 281 504 = o_iret .boolean := rfl
theorem c_W_law_505 : cT 281 505 = o_al 506 1 := rfl
theorem c_W_law_506 : cT 281 506 = o_al 507 0 := rfl
theorem c_W_law_507 : cT 281 507 = o_il 508 3 := rfl
theorem c_W_law_508 : cT 281 508 = o_ci 509 1 := rfl
theorem c_W_law_509 : cT 281 509 = o_iadd 510 := rfl
theorem c_W_law_510 : cT 281 510 = o_ial 511 := rfl
theorem c_W_law_511 : cT 281 511 = o_ca 514 56 2 2 false (some 9) := rfl
theorem c_W_law_514 : cT 281 514 = o_al 515 2 := rfl
theorem c_W_law_515 : cT 281 515 = o_al 516 0 := rfl
theorem c_W_law_516 : cT 281 516 = o_il 517 3 := rfl
theorem c_W_law_517 : cT 281 517 = o_ci 518 1 := rfl
theorem c_W_law_518 : cT 281 518 = o_iadd 519 := rfl
theorem c_W_law_519 : cT 281 519 = o_ial 520 := rfl
theorem c_W_law_520 : cT 281 520 = o_ca 523 57 2 2 false (some 10) := rfl
theorem c_W_law_523 : cT 281 523 = o_iceq 526 1823 := rfl
theorem c_W_law_526 : cT 281 526 = o_ci 527 0 := rfl
theorem c_W_law_527 : cT 281 527 = o_iret .boolean := rfl
theorem c_W_law_528 : cT 281 528 = o_al 529 1 := rfl
theorem c_W_law_529 : cT 281 529 = o_al 530 0 := rfl
theorem c_W_law_530 : cT 281 530 = o_il 531 3 := rfl
theorem c_W_law_531 : cT 281 531 = o_ci 532 1 := rfl
theorem c_W_law_532 : cT 281 532 = o_iadd 533 := rfl
theorem c_W_law_533 : cT 281 533 = o_ial 534 := rfl
theorem c_W_law_534 : cT 281 534 = o_al 535 0 := rfl
theorem c_W_law_535 : cT 281 535 = o_il 536 3 := rfl
theorem c_W_law_536 : cT 281 536 = o_ci 537 2 := rfl
theorem c_W_law_537 : cT 281 537 = o_iadd 538 := rfl
theorem c_W_law_538 : cT 281 538 = o_ial 539 := rfl
theorem c_W_law_539 : cT 281 539 = o_ca 542 61 3 3 false (some 9) := rfl
theorem c_W_law_542 : cT 281 542 = o_al 543 2 := rfl
theorem c_W_law_543 : cT 281 543 = o_al 544 0 := rfl
theorem c_W_law_544 : cT 281 544 = o_il 545 3 := rfl
theorem c_W_law_545 : cT 281 545 = o_ci 546 1 := rfl
theorem c_W_law_546 : cT 281 546 = o_iadd 547 := rfl
theorem c_W_law_547 : cT 281 547 = o_ial 548 := rfl
theorem c_W_law_548 : cT 281 548 = o_al 549 0 := rfl
theorem c_W_law_549 : cT 281 549 = o_il 550 3 := rfl
theorem c_W_law_550 : cT 281 550 = o_ci 551 2 := rfl
theorem c_W_law_551 : cT 281 551 = o_iadd 552 := rfl
theorem c_W_law_552 : cT 281 552 = o_ial 553 := rfl
theorem c_W_law_553 : cT 281 553 = o_ca 556 65 3 3 false (some 10) := rfl
theorem c_W_law_556 : cT 281 556 = o_iceq 559 1823 := rfl
theorem c_W_law_559 : cT 281 559 = o_ci 560 0 := rfl
theorem c_W_law_560 : cT 281 560 = o_iret .boolean := rfl
theorem c_W_law_561 : cT 281 561 = o_al 562 1 := rfl
theorem c_W_law_562 : cT 281 562 = o_al 563 0 := rfl
theorem c_W_law_563 : cT 281 563 = o_il 564 3 := rfl
theorem c_W_law_564 : cT 281 564 = o_ci 565 1 := rfl
theorem c_W_law_565 : cT 281 565 = o_iadd 566 := rfl
theorem c_W_law_566 : cT 281 566 = o_ial 567 := rfl
theorem c_W_law_567 : cT 281 567 = o_al 568 0 := rfl
theorem c_W_law_568 : cT 281 568 = o_il 569 3 := rfl
theorem c_W_law_569 : cT 281 569 = o_ci 570 2 := rfl
theorem c_W_law_570 : cT 281 570 = o_iadd 571 := rfl
theorem c_W_law_571 : cT 281 571 = o_ial 572 := rfl
theorem c_W_law_572 : cT 281 572 = o_ca 575 66 3 3 false (some 9) := rfl
theorem c_W_law_575 : cT 281 575 = o_al 576 2 := rfl
theorem c_W_law_576 : cT 281 576 = o_al 577 0 := rfl
theorem c_W_law_577 : cT 281 577 = o_il 578 3 := rfl
theorem c_W_law_578 : cT 281 578 = o_ci 579 1 := rfl
theorem c_W_law_579 : cT 281 579 = o_iadd 580 := rfl
theorem c_W_law_580 : cT 281 580 = o_ial 581 := rfl
theorem c_W_law_581 : cT 281 581 = o_al 582 0 := rfl
theorem c_W_law_582 : cT 281 582 = o_il 583 3 := rfl
theorem c_W_law_583 : cT 281 583 = o_ci 584 2 := rfl
theorem c_W_law_584 : cT 281 584 = o_iadd 585 := rfl
theorem c_W_law_585 : cT 281 585 = o_ial 586 := rfl
theorem c_W_law_586 : cT 281 586 = o_ca 589 67 3 4 false (some 10) := rfl
theorem c_W_law_589 : cT 281 589 = o_iceq 592 1823 := rfl
theorem c_W_law_592 : cT 281 592 = o_ci 593 0 := rfl
theorem c_W_law_593 : cT 281 593 = o_iret .boolean := rfl
theorem c_W_law_594 : cT 281 594 = o_al 595 1 := rfl
theorem c_W_law_595 : cT 281 595 = o_al 596 0 := rfl
theorem c_W_law_596 : cT 281 596 = o_il 597 3 := rfl
theorem c_W_law_597 : cT 281 597 = o_ci 598 1 := rfl
theorem c_W_law_598 : cT 281 598 = o_iadd 599 := rfl
theorem c_W_law_599 : cT 281 599 = o_ial 600 := rfl
theorem c_W_law_600 : cT 281 600 = o_ca 603 68 2 3 false (some 9) := rfl
theorem c_W_law_603 : cT 281 603 = o_al 604 2 := rfl
theorem c_W_law_604 : cT 281 604 = o_al 605 0 := rfl
theorem c_W_law_605 : cT 281 605 = o_il 606 3 := rfl
theorem c_W_law_606 : cT 281 606 = o_ci 607 1 := rfl
theorem c_W_law_607 : cT 281 607 = o_iadd 608 := rfl
theorem c_W_law_608 : cT 281 608 = o_ial 609 := rfl
theorem c_W_law_609 : cT 281 609 = o_ca 612 69 2 3 false (some 10) := rfl
theorem c_W_law_612 : cT 281 612 = o_iceq 615 1823 := rfl
theorem c_W_law_615 : cT 281 615 = o_ci 616 0 := rfl
theorem c_W_law_616 : cT 281 616 = o_iret .boolean := rfl
theorem c_W_law_617 : cT 281 617 = o_al 618 1 := rfl
theorem c_W_law_618 : cT 281 618 = o_al 619 0 := rfl
theorem c_W_law_619 : cT 281 619 = o_il 620 3 := rfl
theorem c_W_law_620 : cT 281 620 = o_ci 621 1 := rfl
theorem c_W_law_621 : cT 281 621 = o_iadd 622 := rfl
theorem c_W_law_622 : cT 281 622 = o_ial 623 := rfl
theorem c_W_law_623 : cT 281 623 = o_al 624 0 := rfl
theorem c_W_law_624 : cT 281 624 = o_il 625 3 := rfl
theorem c_W_law_625 : cT 281 625 = o_ci 626 2 := rfl
theorem c_W_law_626 : cT 281 626 = o_iadd 627 := rfl
theorem c_W_law_627 : cT 281 627 = o_ial 628 := rfl
theorem c_W_law_628 : cT 281 628 = o_ca 631 71 3 3 false (some 9) := rfl
theorem c_W_law_631 : cT 281 631 = o_al 632 2 := rfl
theorem c_W_law_632 : cT 281 632 = o_al 633 0 := rfl
theorem c_W_law_633 : cT 281 633 = o_il 634 3 := rfl
theorem c_W_law_634 : cT 281 634 = o_ci 635 1 := rfl
theorem c_W_law_635 : cT 281 635 = o_iadd 636 := rfl
theorem c_W_law_636 : cT 281 636 = o_ial 637 := rfl
theorem c_W_law_637 : cT 281 637 = o_al 638 0 := rfl
theorem c_W_law_638 : cT 281 638 = o_il 639 3 := rfl
theorem c_W_law_639 : cT 281 639 = o_ci 640 2 := rfl
theorem c_W_law_640 : cT 281 640 = o_iadd 641 := rfl
theorem c_W_law_641 : cT 281 641 = o_ial 642 := rfl
theorem c_W_law_642 : cT 281 642 = o_ca 645 73 3 3 false (some 10) := rfl
theorem c_W_law_645 : cT 281 645 = o_iceq 648 1823 := rfl
theorem c_W_law_648 : cT 281 648 = o_ci 649 0 := rfl
theorem c_W_law_649 : cT 281 649 = o_iret .boolean := rfl
theorem c_W_law_650 : cT 281 650 = o_al 651 1 := rfl
theorem c_W_law_651 : cT 281 651 = o_al 652 0 := rfl
theorem c_W_law_652 : cT 281 652 = o_il 653 3 := rfl
theorem c_W_law_653 : cT 281 653 = o_ci 654 1 := rfl
theorem c_W_law_654 : cT 281 654 = o_iadd 655 := rfl
theorem c_W_law_655 : cT 281 655 = o_ial 656 := rfl
theorem c_W_law_656 : cT 281 656 = o_al 657 0 := rfl
theorem c_W_law_657 : cT 281 657 = o_il 658 3 := rfl
theorem c_W_law_658 : cT 281 658 = o_ci 659 2 := rfl
theorem c_W_law_659 : cT 281 659 = o_iadd 660 := rfl
theorem c_W_law_660 : cT 281 660 = o_ial 661 := rfl
theorem c_W_law_661 : cT 281 661 = o_ca 664 87 3 3 false (some 9) := rfl
theorem c_W_law_664 : cT 281 664 = o_al 665 2 := rfl
theorem c_W_law_665 : cT 281 665 = o_al 666 0 := rfl
theorem c_W_law_666 : cT 281 666 = o_il 667 3 := rfl
theorem c_W_law_667 : cT 281 667 = o_ci 668 1 := rfl
theorem c_W_law_668 : cT 281 668 = o_iadd 669 := rfl
theorem c_W_law_669 : cT 281 669 = o_ial 670 := rfl
theorem c_W_law_670 : cT 281 670 = o_al 671 0 := rfl
theorem c_W_law_671 : cT 281 671 = o_il 672 3 := rfl
theorem c_W_law_672 : cT 281 672 = o_ci 673 2 := rfl
theorem c_W_law_673 : cT 281 673 = o_iadd 674 := rfl
theorem c_W_law_674 : cT 281 674 = o_ial 675 := rfl
theorem c_W_law_675 : cT 281 675 = o_ca 678 94 3 3 false (some 10) := rfl
theorem c_W_law_678 : cT 281 678 = o_iceq 681 1823 := rfl
theorem c_W_law_681 : cT 281 681 = o_ci 682 0 := rfl
theorem c_W_law_682 : cT 281 682 = o_iret .boolean := rfl
theorem c_W_law_683 : cT 281 683 = o_al 684 1 := rfl
theorem c_W_law_684 : cT 281 684 = o_al 685 0 := rfl
theorem c_W_law_685 : cT 281 685 = o_il 686 3 := rfl
theorem c_W_law_686 : cT 281 686 = o_ci 687 1 := rfl
theorem c_W_law_687 : cT 281 687 = o_iadd 688 := rfl
theorem c_W_law_688 : cT 281 688 = o_ial 689 := rfl
theorem c_W_law_689 : cT 281 689 = o_ca 692 96 2 2 false (some 9) := rfl
theorem c_W_law_692 : cT 281 692 = o_al 693 2 := rfl
theorem c_W_law_693 : cT 281 693 = o_al 694 0 := rfl
theorem c_W_law_694 : cT 281 694 = o_il 695 3 := rfl
theorem c_W_law_695 : cT 281 695 = o_ci 696 1 := rfl
theorem c_W_law_696 : cT 281 696 = o_iadd 697 := rfl
theorem c_W_law_697 : cT 281 697 = o_ial 698 := rfl
theorem c_W_law_698 : cT 281 698 = o_ca 701 97 2 6 false (some 10) := rfl
theorem c_W_law_701 : cT 281 701 = o_iceq 704 1823 := rfl
theorem c_W_law_704 : cT 281 704 = o_ci 705 0 := rfl
theorem c_W_law_705 : cT 281 705 = o_iret .boolean := rfl
theorem c_W_law_706 : cT 281 706 = o_al 707 1 := rfl
theorem c_W_law_707 : cT 281 707 = o_al 708 0 := rfl
theorem c_W_law_708 : cT 281 708 = o_il 709 3 := rfl
theorem c_W_law_709 : cT 281 709 = o_ci 710 1 := rfl
theorem c_W_law_710 : cT 281 710 = o_iadd 711 := rfl
theorem c_W_law_711 : cT 281 711 = o_ial 712 := rfl
theorem c_W_law_712 : cT 281 712 = o_al 713 0 := rfl
theorem c_W_law_713 : cT 281 713 = o_il 714 3 := rfl
theorem c_W_law_714 : cT 281 714 = o_ci 715 2 := rfl
theorem c_W_law_715 : cT 281 715 = o_iadd 716 := rfl
theorem c_W_law_716 : cT 281 716 = o_ial 717 := rfl
theorem c_W_law_717 : cT 281 717 = o_al 718 0 := rfl
theorem c_W_law_718 : cT 281 718 = o_il 719 3 := rfl
theorem c_W_law_719 : cT 281 719 = o_ci 720 3 := rfl
theorem c_W_law_720 : cT 281 720 = o_iadd 721 := rfl
theorem c_W_law_721 : cT 281 721 = o_ial 722 := rfl
theorem c_W_law_722 : cT 281 722 = o_ca 725 100 4 4 false (some 9) := rfl
theorem c_W_law_725 : cT 281 725 = o_al 726 2 := rfl
theorem c_W_law_726 : cT 281 726 = o_al 727 0 := rfl
theorem c_W_law_727 : cT 281 727 = o_il 728 3 := rfl
theorem c_W_law_728 : cT 281 728 = o_ci 729 1 := rfl
theorem c_W_law_729 : cT 281 729 = o_iadd 730 := rfl
theorem c_W_law_730 : cT 281 730 = o_ial 731 := rfl
theorem c_W_law_731 : cT 281 731 = o_al 732 0 := rfl
theorem c_W_law_732 : cT 281 732 = o_il 733 3 := rfl
theorem c_W_law_733 : cT 281 733 = o_ci 734 2 := rfl
theorem c_W_law_734 : cT 281 734 = o_iadd 735 := rfl
theorem c_W_law_735 : cT 281 735 = o_ial 736 := rfl
theorem c_W_law_736 : cT 281 736 = o_al 737 0 := rfl
theorem c_W_law_737 : cT 281 737 = o_il 738 3 := rfl
theorem c_W_law_738 : cT 281 738 = o_ci 739 3 := rfl
theorem c_W_law_739 : cT 281 739 = o_iadd 740 := rfl
theorem c_W_law_740 : cT 281 740 = o_ial 741 := rfl
theorem c_W_law_741 : cT 281 741 = o_ca 744 101 4 6 false (some 10) := rfl
theorem c_W_law_744 : cT 281 744 = o_iceq 747 1823 := rfl
theorem c_W_law_747 : cT 281 747 = o_ci 748 0 := rfl
theorem c_W_law_748 : cT 281 748 = o_iret .boolean := rfl
theorem c_W_law_749 : cT 281 749 = o_al 750 1 := rfl
theorem c_W_law_750 : cT 281 750 = o_al 751 0 := rfl
theorem c_W_law_751 : cT 281 751 = o_il 752 3 := rfl
theorem c_W_law_752 : cT 281 752 = o_ci 753 1 := rfl
theorem c_W_law_753 : cT 281 753 = o_iadd 754 := rfl
theorem c_W_law_754 : cT 281 754 = o_ial 755 := rfl
theorem c_W_law_755 : cT 281 755 = o_ca 758 102 2 2 false (some 9) := rfl
theorem c_W_law_758 : cT 281 758 = o_al 759 2 := rfl
theorem c_W_law_759 : cT 281 759 = o_al 760 0 := rfl
theorem c_W_law_760 : cT 281 760 = o_il 761 3 := rfl
theorem c_W_law_761 : cT 281 761 = o_ci 762 1 := rfl
theorem c_W_law_762 : cT 281 762 = o_iadd 763 := rfl
theorem c_W_law_763 : cT 281 763 = o_ial 764 := rfl
theorem c_W_law_764 : cT 281 764 = o_ca 767 103 2 2 false (some 10) := rfl
theorem c_W_law_767 : cT 281 767 = o_iceq 770 1823 := rfl
theorem c_W_law_770 : cT 281 770 = o_ci 771 0 := rfl
theorem c_W_law_771 : cT 281 771 = o_iret .boolean := rfl
theorem c_W_law_772 : cT 281 772 = o_al 773 1 := rfl
theorem c_W_law_773 : cT 281 773 = o_al 774 0 := rfl
theorem c_W_law_774 : cT 281 774 = o_il 775 3 := rfl
theorem c_W_law_775 : cT 281 775 = o_ci 776 1 := rfl
theorem c_W_law_776 : cT 281 776 = o_iadd 777 := rfl
theorem c_W_law_777 : cT 281 777 = o_ial 778 := rfl
theorem c_W_law_778 : cT 281 778 = o_al 779 0 := rfl
theorem c_W_law_779 : cT 281 779 = o_il 780 3 := rfl
theorem c_W_law_780 : cT 281 780 = o_ci 781 2 := rfl
theorem c_W_law_781 : cT 281 781 = o_iadd 782 := rfl
theorem c_W_law_782 : cT 281 782 = o_ial 783 := rfl
theorem c_W_law_783 : cT 281 783 = o_ca 786 139 3 5 false (some 9) := rfl
theorem c_W_law_786 : cT 281 786 = o_al 787 2 := rfl
theorem c_W_law_787 : cT 281 787 = o_al 788 0 := rfl
theorem c_W_law_788 : cT 281 788 = o_il 789 3 := rfl
theorem c_W_law_789 : cT 281 789 = o_ci 790 1 := rfl
theorem c_W_law_790 : cT 281 790 = o_iadd 791 := rfl
theorem c_W_law_791 : cT 281 791 = o_ial 792 := rfl
theorem c_W_law_792 : cT 281 792 = o_al 793 0 := rfl
theorem c_W_law_793 : cT 281 793 = o_il 794 3 := rfl
theorem c_W_law_794 : cT 281 794 = o_ci 795 2 := rfl
theorem c_W_law_795 : cT 281 795 = o_iadd 796 := rfl
theorem c_W_law_796 : cT 281 796 = o_ial 797 := rfl
theorem c_W_law_797 : cT 281 797 = o_ca 800 154 3 8 false (some 10) := rfl
theorem c_W_law_800 : cT 281 800 = o_iceq 803 1823 := rfl
theorem c_W_law_803 : cT 281 803 = o_ci 804 0 := rfl
theorem c_W_law_804 : cT 281 804 = o_iret .boolean := rfl
theorem c_W_law_805 : cT 281 805 = o_al 806 1 := rfl
theorem c_W_law_806 : cT 281 806 = o_al 807 0 := rfl
theorem c_W_law_807 : cT 281 807 = o_il 808 3 := rfl
theorem c_W_law_808 : cT 281 808 = o_ci 809 1 := rfl
theorem c_W_law_809 : cT 281 809 = o_iadd 810 := rfl
theorem c_W_law_810 : cT 281 810 = o_ial 811 := rfl
theorem c_W_law_811 : cT 281 811 = o_al 812 0 := rfl
theorem c_W_law_812 : cT 281 812 = o_il 813 3 := rfl
theorem c_W_law_813 : cT 281 813 = o_ci 814 2 := rfl
theorem c_W_law_814 : cT 281 814 = o_iadd 815 := rfl
theorem c_W_law_815 : cT 281 815 = o_ial 816 := rfl
theorem c_W_law_816 : cT 281 816 = o_ca 819 155 3 4 false (some 9) := rfl
theorem c_W_law_819 : cT 281 819 = o_al 820 2 := rfl
theorem c_W_law_820 : cT 281 820 = o_al 821 0 := rfl
theorem c_W_law_821 : cT 281 821 = o_il 822 3 := rfl
theorem c_W_law_822 : cT 281 822 = o_ci 823 1 := rfl
theorem c_W_law_823 : cT 281 823 = o_iadd 824 := rfl
theorem c_W_law_824 : cT 281 824 = o_ial 825 := rfl
theorem c_W_law_825 : cT 281 825 = o_al 826 0 := rfl
theorem c_W_law_826 : cT 281 826 = o_il 827 3 := rfl
theorem c_W_law_827 : cT 281 827 = o_ci 828 2 := rfl
theorem c_W_law_828 : cT 281 828 = o_iadd 829 := rfl
theorem c_W_law_829 : cT 281 829 = o_ial 830 := rfl
theorem c_W_law_830 : cT 281 830 = o_ca 833 156 3 3 false (some 10) := rfl
theorem c_W_law_833 : cT 281 833 = o_iceq 836 1823 := rfl
theorem c_W_law_836 : cT 281 836 = o_ci 837 0 := rfl
theorem c_W_law_837 : cT 281 837 = o_iret .boolean := rfl
theorem c_W_law_838 : cT 281 838 = o_al 839 1 := rfl
theorem c_W_law_839 : cT 281 839 = o_al 840 0 := rfl
theorem c_W_law_840 : cT 281 840 = o_il 841 3 := rfl
theorem c_W_law_841 : cT 281 841 = o_ci 842 1 := rfl
theorem c_W_law_842 : cT 281 842 = o_iadd 843 := rfl
theorem c_W_law_843 : cT 281 843 = o_ial 844 := rfl
theorem c_W_law_844 : cT 281 844 = o_al 845 0 := rfl
theorem c_W_law_845 : cT 281 845 = o_il 846 3 := rfl
theorem c_W_law_846 : cT 281 846 = o_ci 847 2 := rfl
theorem c_W_law_847 : cT 281 847 = o_iadd 848 := rfl
theorem c_W_law_848 : cT 281 848 = o_ial 849 := rfl
theorem c_W_law_849 : cT 281 849 = o_ca 852 157 3 3 false (some 9) := rfl
theorem c_W_law_852 : cT 281 852 = o_al 853 2 := rfl
theorem c_W_law_853 : cT 281 853 = o_al 854 0 := rfl
theorem c_W_law_854 : cT 281 854 = o_il 855 3 := rfl
theorem c_W_law_855 : cT 281 855 = o_ci 856 1 := rfl
theorem c_W_law_856 : cT 281 856 = o_iadd 857 := rfl
theorem c_W_law_857 : cT 281 857 = o_ial 858 := rfl
theorem c_W_law_858 : cT 281 858 = o_al 859 0 := rfl
theorem c_W_law_859 : cT 281 859 = o_il 860 3 := rfl
theorem c_W_law_860 : cT 281 860 = o_ci 861 2 := rfl
theorem c_W_law_861 : cT 281 861 = o_iadd 862 := rfl
theorem c_W_law_862 : cT 281 862 = o_ial 863 := rfl
theorem c_W_law_863 : cT 281 863 = o_ca 866 158 3 4 false (some 10) := rfl
theorem c_W_law_866 : cT 281 866 = o_iceq 869 1823 := rfl
theorem c_W_law_869 : cT 281 869 = o_ci 870 0 := rfl
theorem c_W_law_870 : cT 281 870 = o_iret .boolean := rfl
theorem c_W_law_871 : cT 281 871 = o_al 872 1 := rfl
theorem c_W_law_872 : cT 281 872 = o_al 873 0 := rfl
theorem c_W_law_873 : cT 281 873 = o_il 874 3 := rfl
theorem c_W_law_874 : cT 281 874 = o_ci 875 1 := rfl
theorem c_W_law_875 : cT 281 875 = o_iadd 876 := rfl
theorem c_W_law_876 : cT 281 876 = o_ial 877 := rfl
theorem c_W_law_877 : cT 281 877 = o_al 878 0 := rfl
theorem c_W_law_878 : cT 281 878 = o_il 879 3 := rfl
theorem c_W_law_879 : cT 281 879 = o_ci 880 2 := rfl
theorem c_W_law_880 : cT 281 880 = o_iadd 881 := rfl
theorem c_W_law_881 : cT 281 881 = o_ial 882 := rfl
theorem c_W_law_882 : cT 281 882 = o_al 883 0 := rfl
theorem c_W_law_883 : cT 281 883 = o_il 884 3 := rfl
theorem c_W_law_884 : cT 281 884 = o_ci 885 3 := rfl
theorem c_W_law_885 : cT 281 885 = o_iadd 886 := rfl
theorem c_W_law_886 : cT 281 886 = o_ial 887 := rfl
theorem c_W_law_887 : cT 281 887 = o_al 888 0 := rfl
theorem c_W_law_888 : cT 281 888 = o_il 889 3 := rfl
theorem c_W_law_889 : cT 281 889 = o_ci 890 4 := rfl
theorem c_W_law_890 : cT 281 890 = o_iadd 891 := rfl
theorem c_W_law_891 : cT 281 891 = o_ial 892 := rfl
theorem c_W_law_892 : cT 281 892 = o_al 893 0 := rfl
theorem c_W_law_893 : cT 281 893 = o_il 894 3 := rfl
theorem c_W_law_894 : cT 281 894 = o_ci 895 5 := rfl
theorem c_W_law_895 : cT 281 895 = o_iadd 896 := rfl
theorem c_W_law_896 : cT 281 896 = o_ial 897 := rfl
theorem c_W_law_897 : cT 281 897 = o_al 898 0 := rfl
theorem c_W_law_898 : cT 281 898 = o_il 899 3 := rfl
theorem c_W_law_899 : cT 281 899 = o_ci 901 6 := rfl
theorem c_W_law_901 : cT 281 901 = o_iadd 902 := rfl
theorem c_W_law_902 : cT 281 902 = o_ial 903 := rfl
theorem c_W_law_903 : cT 281 903 = o_ca 906 159 7 7 false (some 9) := rfl
theorem c_W_law_906 : cT 281 906 = o_al 907 2 := rfl
theorem c_W_law_907 : cT 281 907 = o_al 908 0 := rfl
theorem c_W_law_908 : cT 281 908 = o_il 909 3 := rfl
theorem c_W_law_909 : cT 281 909 = o_ci 910 1 := rfl
theorem c_W_law_910 : cT 281 910 = o_iadd 911 := rfl
theorem c_W_law_911 : cT 281 911 = o_ial 912 := rfl
theorem c_W_law_912 : cT 281 912 = o_al 913 0 := rfl
theorem c_W_law_913 : cT 281 913 = o_il 914 3 := rfl
theorem c_W_law_914 : cT 281 914 = o_ci 915 2 := rfl
theorem c_W_law_915 : cT 281 915 = o_iadd 916 := rfl
theorem c_W_law_916 : cT 281 916 = o_ial 917 := rfl
theorem c_W_law_917 : cT 281 917 = o_al 918 0 := rfl
theorem c_W_law_918 : cT 281 918 = o_il 919 3 := rfl
theorem c_W_law_919 : cT 281 919 = o_ci 920 3 := rfl
theorem c_W_law_920 : cT 281 920 = o_iadd 921 := rfl
theorem c_W_law_921 : cT 281 921 = o_ial 922 := rfl
theorem c_W_law_922 : cT 281 922 = o_al 923 0 := rfl
theorem c_W_law_923 : cT 281 923 = o_il 924 3 := rfl
theorem c_W_law_924 : cT 281 924 = o_ci 925 4 := rfl
theorem c_W_law_925 : cT 281 925 = o_iadd 926 := rfl
theorem c_W_law_926 : cT 281 926 = o_ial 927 := rfl
theorem c_W_law_927 : cT 281 927 = o_al 928 0 := rfl
theorem c_W_law_928 : cT 281 928 = o_il 929 3 := rfl
theorem c_W_law_929 : cT 281 929 = o_ci 930 5 := rfl
theorem c_W_law_930 : cT 281 930 = o_iadd 931 := rfl
theorem c_W_law_931 : cT 281 931 = o_ial 932 := rfl
theorem c_W_law_932 : cT 281 932 = o_al 933 0 := rfl
theorem c_W_law_933 : cT 281 933 = o_il 934 3 := rfl
theorem c_W_law_934 : cT 281 934 = o_ci 936 6 := rfl
theorem c_W_law_936 : cT 281 936 = o_iadd 937 := rfl
theorem c_W_law_937 : cT 281 937 = o_ial 938 := rfl
theorem c_W_law_938 : cT 281 938 = o_ca 941 160 7 7 false (some 10) := rfl
theorem c_W_law_941 : cT 281 941 = o_iceq 944 1823 := rfl
theorem c_W_law_944 : cT 281 944 = o_ci 945 0 := rfl
theorem c_W_law_945 : cT 281 945 = o_iret .boolean := rfl
theorem c_W_law_946 : cT 281 946 = o_al 947 1 := rfl
theorem c_W_law_947 : cT 281 947 = o_al 948 0 := rfl
theorem c_W_law_948 : cT 281 948 = o_il 949 3 := rfl
theorem c_W_law_949 : cT 281 949 = o_ci 950 1 := rfl
theorem c_W_law_950 : cT 281 950 = o_iadd 951 := rfl
theorem c_W_law_951 : cT 281 951 = o_ial 952 := rfl
theorem c_W_law_952 : cT 281 952 = o_al 953 0 := rfl
theorem c_W_law_953 : cT 281 953 = o_il 954 3 := rfl
theorem c_W_law_954 : cT 281 954 = o_ci 955 2 := rfl
theorem c_W_law_955 : cT 281 955 = o_iadd 956 := rfl
theorem c_W_law_956 : cT 281 956 = o_ial 957 := rfl
theorem c_W_law_957 : cT 281 957 = o_al 958 0 := rfl
theorem c_W_law_958 : cT 281 958 = o_il 959 3 := rfl
theorem c_W_law_959 : cT 281 959 = o_ci 960 3 := rfl
theorem c_W_law_960 : cT 281 960 = o_iadd 961 := rfl
theorem c_W_law_961 : cT 281 961 = o_ial 962 := rfl
theorem c_W_law_962 : cT 281 962 = o_ca 965 162 4 4 false (some 9) := rfl
theorem c_W_law_965 : cT 281 965 = o_al 966 2 := rfl
theorem c_W_law_966 : cT 281 966 = o_al 967 0 := rfl
theorem c_W_law_967 : cT 281 967 = o_il 968 3 := rfl
theorem c_W_law_968 : cT 281 968 = o_ci 969 1 := rfl
theorem c_W_law_969 : cT 281 969 = o_iadd 970 := rfl
theorem c_W_law_970 : cT 281 970 = o_ial 971 := rfl
theorem c_W_law_971 : cT 281 971 = o_al 972 0 := rfl
theorem c_W_law_972 : cT 281 972 = o_il 973 3 := rfl
theorem c_W_law_973 : cT 281 973 = o_ci 974 2 := rfl
theorem c_W_law_974 : cT 281 974 = o_iadd 975 := rfl
theorem c_W_law_975 : cT 281 975 = o_ial 976 := rfl
theorem c_W_law_976 : cT 281 976 = o_al 977 0 := rfl
theorem c_W_law_977 : cT 281 977 = o_il 978 3 := rfl
theorem c_W_law_978 : cT 281 978 = o_ci 979 3 := rfl
theorem c_W_law_979 : cT 281 979 = o_iadd 980 := rfl
theorem c_W_law_980 : cT 281 980 = o_ial 981 := rfl
theorem c_W_law_981 : cT 281 981 = o_ca 984 163 4 7 false (some 10) := rfl
theorem c_W_law_984 : cT 281 984 = o_iceq 987 1823 := rfl
theorem c_W_law_987 : cT 281 987 = o_ci 988 0 := rfl
theorem c_W_law_988 : cT 281 988 = o_iret .boolean := rfl
theorem c_W_law_989 : cT 281 989 = o_al 990 1 := rfl
theorem c_W_law_990 : cT 281 990 = o_al 991 0 := rfl
theorem c_W_law_991 : cT 281 991 = o_il 992 3 := rfl
theorem c_W_law_992 : cT 281 992 = o_ci 993 1 := rfl
theorem c_W_law_993 : cT 281 993 = o_iadd 994 := rfl
theorem c_W_law_994 : cT 281 994 = o_ial 995 := rfl
theorem c_W_law_995 : cT 281 995 = o_al 996 0 := rfl
theorem c_W_law_996 : cT 281 996 = o_il 997 3 := rfl
theorem c_W_law_997 : cT 281 997 = o_ci 998 2 := rfl
theorem c_W_law_998 : cT 281 998 = o_iadd 999 := rfl
theorem c_W_law_999 : cT 281 999 = o_ial 1000 := rfl
theorem c_W_law_1000 : cT 281 1000 = o_ca 1003 166 3 3 false (some 9) := rfl
theorem c_W_law_1003 : cT 281 1003 = o_al 1004 2 := rfl
theorem c_W_law_1004 : cT 281 1004 = o_al 1005 0 := rfl
theorem c_W_law_1005 : cT 281 1005 = o_il 1006 3 := rfl
theorem c_W_law_1006 : cT 281 1006 = o_ci 1007 1 := rfl
theorem c_W_law_1007 : cT 281 1007 = o_iadd 1008 := rfl
theorem c_W_law_1008 : cT 281 1008 = o_ial 1009 := rfl
theorem c_W_law_1009 : cT 281 1009 = o_al 1010 0 := rfl
theorem c_W_law_1010 : cT 281 1010 = o_il 1011 3 := rfl
theorem c_W_law_1011 : cT 281 1011 = o_ci 1012 2 := rfl
theorem c_W_law_1012 : cT 281 1012 = o_iadd 1013 := rfl
theorem c_W_law_1013 : cT 281 1013 = o_ial 1014 := rfl
theorem c_W_law_1014 : cT 281 1014 = o_ca 1017 167 3 5 false (some 10) := rfl
theorem c_W_law_1017 : cT 281 1017 = o_iceq 1020 1823 := rfl
theorem c_W_law_1020 : cT 281 1020 = o_ci 1021 0 := rfl
theorem c_W_law_1021 : cT 281 1021 = o_iret .boolean := rfl
theorem c_W_law_1022 : cT 281 1022 = o_al 1023 1 := rfl
theorem c_W_law_1023 : cT 281 1023 = o_al 1024 0 := rfl
theorem c_W_law_1024 : cT 281 1024 = o_il 1025 3 := rfl
theorem c_W_law_1025 : cT 281 1025 = o_ci 1026 1 := rfl
theorem c_W_law_1026 : cT 281 1026 = o_iadd 1027 := rfl
theorem c_W_law_1027 : cT 281 1027 = o_ial 1028 := rfl
theorem c_W_law_1028 : cT 281 1028 = o_al 1029 0 := rfl
theorem c_W_law_1029 : cT 281 1029 = o_il 1030 3 := rfl
theorem c_W_law_1030 : cT 281 1030 = o_ci 1031 2 := rfl
theorem c_W_law_1031 : cT 281 1031 = o_iadd 1032 := rfl
theorem c_W_law_1032 : cT 281 1032 = o_ial 1033 := rfl
theorem c_W_law_1033 : cT 281 1033 = o_ca 1036 168 3 3 false (some 9) := rfl
theorem c_W_law_1036 : cT 281 1036 = o_al 1037 2 := rfl
theorem c_W_law_1037 : cT 281 1037 = o_al 1038 0 := rfl
theorem c_W_law_1038 : cT 281 1038 = o_il 1039 3 := rfl
theorem c_W_law_1039 : cT 281 1039 = o_ci 1040 1 := rfl
theorem c_W_law_1040 : cT 281 1040 = o_iadd 1041 := rfl
theorem c_W_law_1041 : cT 281 1041 = o_ial 1042 := rfl
theorem c_W_law_1042 : cT 281 1042 = o_al 1043 0 := rfl
theorem c_W_law_1043 : cT 281 1043 = o_il 1044 3 := rfl
theorem c_W_law_1044 : cT 281 1044 = o_ci 1045 2 := rfl
theorem c_W_law_1045 : cT 281 1045 = o_iadd 1046 := rfl
theorem c_W_law_1046 : cT 281 1046 = o_ial 1047 := rfl
theorem c_W_law_1047 : cT 281 1047 = o_ca 1050 170 3 4 false (some 10) := rfl
theorem c_W_law_1050 : cT 281 1050 = o_iceq 1053 1823 := rfl
theorem c_W_law_1053 : cT 281 1053 = o_ci 1054 0 := rfl
theorem c_W_law_1054 : cT 281 1054 = o_iret .boolean := rfl
theorem c_W_law_1055 : cT 281 1055 = o_al 1056 1 := rfl
theorem c_W_law_1056 : cT 281 1056 = o_al 1057 0 := rfl
theorem c_W_law_1057 : cT 281 1057 = o_il 1058 3 := rfl
theorem c_W_law_1058 : cT 281 1058 = o_ci 1059 1 := rfl
theorem c_W_law_1059 : cT 281 1059 = o_iadd 1060 := rfl
theorem c_W_law_1060 : cT 281 1060 = o_ial 1061 := rfl
theorem c_W_law_1061 : cT 281 1061 = o_al 1062 0 := rfl
theorem c_W_law_1062 : cT 281 1062 = o_il 1063 3 := rfl
theorem c_W_law_1063 : cT 281 1063 = o_ci 1064 2 := rfl
theorem c_W_law_1064 : cT 281 1064 = o_iadd 1065 := rfl
theorem c_W_law_1065 : cT 281 1065 = o_ial 1066 := rfl
theorem c_W_law_1066 : cT 281 1066 = o_ca 1069 171 3 3 false (some 9) := rfl
theorem c_W_law_1069 : cT 281 1069 = o_al 1070 2 := rfl
theorem c_W_law_1070 : cT 281 1070 = o_al 1071 0 := rfl
theorem c_W_law_1071 : cT 281 1071 = o_il 1072 3 := rfl
theorem c_W_law_1072 : cT 281 1072 = o_ci 1073 1 := rfl
theorem c_W_law_1073 : cT 281 1073 = o_iadd 1074 := rfl
theorem c_W_law_1074 : cT 281 1074 = o_ial 1075 := rfl
theorem c_W_law_1075 : cT 281 1075 = o_al 1076 0 := rfl
theorem c_W_law_1076 : cT 281 1076 = o_il 1077 3 := rfl
theorem c_W_law_1077 : cT 281 1077 = o_ci 1078 2 := rfl
theorem c_W_law_1078 : cT 281 1078 = o_iadd 1079 := rfl
theorem c_W_law_1079 : cT 281 1079 = o_ial 1080 := rfl
theorem c_W_law_1080 : cT 281 1080 = o_ca 1083 172 3 4 false (some 10) := rfl
theorem c_W_law_1083 : cT 281 1083 = o_iceq 1086 1823 := rfl
theorem c_W_law_1086 : cT 281 1086 = o_ci 1087 0 := rfl
theorem c_W_law_1087 : cT 281 1087 = o_iret .boolean := rfl
theorem c_W_law_1088 : cT 281 1088 = o_al 1089 1 := rfl
theorem c_W_law_1089 : cT 281 1089 = o_al 1090 0 := rfl
theorem c_W_law_1090 : cT 281 1090 = o_il 1091 3 := rfl
theorem c_W_law_1091 : cT 281 1091 = o_ci 1092 1 := rfl
theorem c_W_law_1092 : cT 281 1092 = o_iadd 1093 := rfl
theorem c_W_law_1093 : cT 281 1093 = o_ial 1094 := rfl
theorem c_W_law_1094 : cT 281 1094 = o_al 1095 0 := rfl
theorem c_W_law_1095 : cT 281 1095 = o_il 1096 3 := rfl
theorem c_W_law_1096 : cT 281 1096 = o_ci 1097 2 := rfl
theorem c_W_law_1097 : cT 281 1097 = o_iadd 1098 := rfl
theorem c_W_law_1098 : cT 281 1098 = o_ial 1099 := rfl
theorem c_W_law_1099 : cT 281 1099 = o_al 1100 0 := rfl
theorem c_W_law_1100 : cT 281 1100 = o_il 1101 3 := rfl
theorem c_W_law_1101 : cT 281 1101 = o_ci 1102 3 := rfl
theorem c_W_law_1102 : cT 281 1102 = o_iadd 1103 := rfl
theorem c_W_law_1103 : cT 281 1103 = o_ial 1104 := rfl
theorem c_W_law_1104 : cT 281 1104 = o_ca 1107 173 4 6 false (some 9) := rfl
theorem c_W_law_1107 : cT 281 1107 = o_al 1108 2 := rfl
theorem c_W_law_1108 : cT 281 1108 = o_al 1109 0 := rfl
theorem c_W_law_1109 : cT 281 1109 = o_il 1110 3 := rfl
theorem c_W_law_1110 : cT 281 1110 = o_ci 1111 1 := rfl
theorem c_W_law_1111 : cT 281 1111 = o_iadd 1112 := rfl
theorem c_W_law_1112 : cT 281 1112 = o_ial 1113 := rfl
theorem c_W_law_1113 : cT 281 1113 = o_al 1114 0 := rfl
theorem c_W_law_1114 : cT 281 1114 = o_il 1115 3 := rfl
theorem c_W_law_1115 : cT 281 1115 = o_ci 1116 2 := rfl
theorem c_W_law_1116 : cT 281 1116 = o_iadd 1117 := rfl
theorem c_W_law_1117 : cT 281 1117 = o_ial 1118 := rfl
theorem c_W_law_1118 : cT 281 1118 = o_al 1119 0 := rfl
theorem c_W_law_1119 : cT 281 1119 = o_il 1120 3 := rfl
theorem c_W_law_1120 : cT 281 1120 = o_ci 1121 3 := rfl
theorem c_W_law_1121 : cT 281 1121 = o_iadd 1122 := rfl
theorem c_W_law_1122 : cT 281 1122 = o_ial 1123 := rfl
theorem c_W_law_1123 : cT 281 1123 = o_ca 1126 174 4 6 false (some 10) := rfl
theorem c_W_law_1126 : cT 281 1126 = o_iceq 1129 1823 := rfl
theorem c_W_law_1129 : cT 281 1129 = o_ci 1130 0 := rfl
theorem c_W_law_1130 : cT 281 1130 = o_iret .boolean := rfl
theorem c_W_law_1131 : cT 281 1131 = o_al 1132 1 := rfl
theorem c_W_law_1132 : cT 281 1132 = o_al 1133 0 := rfl
theorem c_W_law_1133 : cT 281 1133 = o_il 1134 3 := rfl
theorem c_W_law_1134 : cT 281 1134 = o_ci 1135 1 := rfl
theorem c_W_law_1135 : cT 281 1135 = o_iadd 1136 := rfl
theorem c_W_law_1136 : cT 281 1136 = o_ial 1137 := rfl
theorem c_W_law_1137 : cT 281 1137 = o_al 1138 0 := rfl
theorem c_W_law_1138 : cT 281 1138 = o_il 1139 3 := rfl
theorem c_W_law_1139 : cT 281 1139 = o_ci 1140 2 := rfl
theorem c_W_law_1140 : cT 281 1140 = o_iadd 1141 := rfl
theorem c_W_law_1141 : cT 281 1141 = o_ial 1142 := rfl
theorem c_W_law_1142 : cT 281 1142 = o_ca 1145 175 3 3 false (some 9) := rfl
theorem c_W_law_1145 : cT 281 1145 = o_al 1146 2 := rfl
theorem c_W_law_1146 : cT 281 1146 = o_al 1147 0 := rfl
theorem c_W_law_1147 : cT 281 1147 = o_il 1148 3 := rfl
theorem c_W_law_1148 : cT 281 1148 = o_ci 1149 1 := rfl
theorem c_W_law_1149 : cT 281 1149 = o_iadd 1150 := rfl
theorem c_W_law_1150 : cT 281 1150 = o_ial 1151 := rfl
theorem c_W_law_1151 : cT 281 1151 = o_al 1152 0 := rfl
theorem c_W_law_1152 : cT 281 1152 = o_il 1153 3 := rfl
theorem c_W_law_1153 : cT 281 1153 = o_ci 1154 2 := rfl
theorem c_W_law_1154 : cT 281 1154 = o_iadd 1155 := rfl
theorem c_W_law_1155 : cT 281 1155 = o_ial 1156 := rfl
theorem c_W_law_1156 : cT 281 1156 = o_ca 1159 176 3 3 false (some 10) := rfl
theorem c_W_law_1159 : cT 281 1159 = o_iceq 1162 1823 := rfl
theorem c_W_law_1162 : cT 281 1162 = o_ci 1163 0 := rfl
theorem c_W_law_1163 : cT 281 1163 = o_iret .boolean := rfl
theorem c_W_law_1164 : cT 281 1164 = o_al 1165 1 := rfl
theorem c_W_law_1165 : cT 281 1165 = o_al 1166 0 := rfl
theorem c_W_law_1166 : cT 281 1166 = o_il 1167 3 := rfl
theorem c_W_law_1167 : cT 281 1167 = o_ci 1168 1 := rfl
theorem c_W_law_1168 : cT 281 1168 = o_iadd 1169 := rfl
theorem c_W_law_1169 : cT 281 1169 = o_ial 1170 := rfl
theorem c_W_law_1170 : cT 281 1170 = o_al 1171 0 := rfl
theorem c_W_law_1171 : cT 281 1171 = o_il 1172 3 := rfl
theorem c_W_law_1172 : cT 281 1172 = o_ci 1173 2 := rfl
theorem c_W_law_1173 : cT 281 1173 = o_iadd 1174 := rfl
theorem c_W_law_1174 : cT 281 1174 = o_ial 1175 := rfl
theorem c_W_law_1175 : cT 281 1175 = o_al 1176 0 := rfl
theorem c_W_law_1176 : cT 281 1176 = o_il 1177 3 := rfl
theorem c_W_law_1177 : cT 281 1177 = o_ci 1178 3 := rfl
theorem c_W_law_1178 : cT 281 1178 = o_iadd 1179 := rfl
theorem c_W_law_1179 : cT 281 1179 = o_ial 1180 := rfl
theorem c_W_law_1180 : cT 281 1180 = o_ca 1183 179 4 5 false (some 9) := rfl
theorem c_W_law_1183 : cT 281 1183 = o_al 1184 2 := rfl
theorem c_W_law_1184 : cT 281 1184 = o_al 1185 0 := rfl
theorem c_W_law_1185 : cT 281 1185 = o_il 1186 3 := rfl
theorem c_W_law_1186 : cT 281 1186 = o_ci 1187 1 := rfl
theorem c_W_law_1187 : cT 281 1187 = o_iadd 1188 := rfl
theorem c_W_law_1188 : cT 281 1188 = o_ial 1189 := rfl
theorem c_W_law_1189 : cT 281 1189 = o_al 1190 0 := rfl
theorem c_W_law_1190 : cT 281 1190 = o_il 1191 3 := rfl
theorem c_W_law_1191 : cT 281 1191 = o_ci 1192 2 := rfl
theorem c_W_law_1192 : cT 281 1192 = o_iadd 1193 := rfl
theorem c_W_law_1193 : cT 281 1193 = o_ial 1194 := rfl
theorem c_W_law_1194 : cT 281 1194 = o_al 1195 0 := rfl
theorem c_W_law_1195 : cT 281 1195 = o_il 1196 3 := rfl
theorem c_W_law_1196 : cT 281 1196 = o_ci 1197 3 := rfl
theorem c_W_law_1197 : cT 281 1197 = o_iadd 1198 := rfl
theorem c_W_law_1198 : cT 281 1198 = o_ial 1199 := rfl
theorem c_W_law_1199 : cT 281 1199 = o_ca 1202 184 4 5 false (some 10) := rfl
theorem c_W_law_1202 : cT 281 1202 = o_iceq 1205 1823 := rfl
theorem c_W_law_1205 : cT 281 1205 = o_ci 1206 0 := rfl
theorem c_W_law_1206 : cT 281 1206 = o_iret .boolean := rfl
theorem c_W_law_1207 : cT 281 1207 = o_al 1208 1 := rfl
theorem c_W_law_1208 : cT 281 1208 = o_al 1209 0 := rfl
theorem c_W_law_1209 : cT 281 1209 = o_il 1210 3 := rfl
theorem c_W_law_1210 : cT 281 1210 = o_ci 1211 1 := rfl
theorem c_W_law_1211 : cT 281 1211 = o_iadd 1212 := rfl
theorem c_W_law_1212 : cT 281 1212 = o_ial 1213 := rfl
theorem c_W_law_1213 : cT 281 1213 = o_al 1214 0 := rfl
theorem c_W_law_1214 : cT 281 1214 = o_il 1215 3 := rfl
theorem c_W_law_1215 : cT 281 1215 = o_ci 1216 2 := rfl
theorem c_W_law_1216 : cT 281 1216 = o_iadd 1217 := rfl
theorem c_W_law_1217 : cT 281 1217 = o_ial 1218 := rfl
theorem c_W_law_1218 : cT 281 1218 = o_ca 1221 185 3 3 false (some 9) := rfl
theorem c_W_law_1221 : cT 281 1221 = o_al 1222 2 := rfl
theorem c_W_law_1222 : cT 281 1222 = o_al 1223 0 := rfl
theorem c_W_law_1223 : cT 281 1223 = o_il 1224 3 := rfl
theorem c_W_law_1224 : cT 281 1224 = o_ci 1225 1 := rfl
theorem c_W_law_1225 : cT 281 1225 = o_iadd 1226 := rfl
theorem c_W_law_1226 : cT 281 1226 = o_ial 1227 := rfl
theorem c_W_law_1227 : cT 281 1227 = o_al 1228 0 := rfl
theorem c_W_law_1228 : cT 281 1228 = o_il 1229 3 := rfl
theorem c_W_law_1229 : cT 281 1229 = o_ci 1230 2 := rfl
theorem c_W_law_1230 : cT 281 1230 = o_iadd 1231 := rfl
theorem c_W_law_1231 : cT 281 1231 = o_ial 1232 := rfl
theorem c_W_law_1232 : cT 281 1232 = o_ca 1235 187 3 5 false (some 10) := rfl
theorem c_W_law_1235 : cT 281 1235 = o_iceq 1238 1823 := rfl
theorem c_W_law_1238 : cT 281 1238 = o_ci 1239 0 := rfl
theorem c_W_law_1239 : cT 281 1239 = o_iret .boolean := rfl
theorem c_W_law_1240 : cT 281 1240 = o_al 1241 1 := rfl
theorem c_W_law_1241 : cT 281 1241 = o_al 1242 0 := rfl
theorem c_W_law_1242 : cT 281 1242 = o_il 1243 3 := rfl
theorem c_W_law_1243 : cT 281 1243 = o_ci 1244 1 := rfl
theorem c_W_law_1244 : cT 281 1244 = o_iadd 1245 := rfl
theorem c_W_law_1245 : cT 281 1245 = o_ial 1246 := rfl
theorem c_W_law_1246 : cT 281 1246 = o_al 1247 0 := rfl
theorem c_W_law_1247 : cT 281 1247 = o_il 1248 3 := rfl
theorem c_W_law_1248 : cT 281 1248 = o_ci 1249 2 := rfl
theorem c_W_law_1249 : cT 281 1249 = o_iadd 1250 := rfl
theorem c_W_law_1250 : cT 281 1250 = o_ial 1251 := rfl
theorem c_W_law_1251 : cT 281 1251 = o_ca 1254 188 3 3 false (some 9) := rfl
theorem c_W_law_1254 : cT 281 1254 = o_al 1255 2 := rfl
theorem c_W_law_1255 : cT 281 1255 = o_al 1256 0 := rfl
theorem c_W_law_1256 : cT 281 1256 = o_il 1257 3 := rfl
theorem c_W_law_1257 : cT 281 1257 = o_ci 1258 1 := rfl
theorem c_W_law_1258 : cT 281 1258 = o_iadd 1259 := rfl
theorem c_W_law_1259 : cT 281 1259 = o_ial 1260 := rfl
theorem c_W_law_1260 : cT 281 1260 = o_al 1261 0 := rfl
theorem c_W_law_1261 : cT 281 1261 = o_il 1262 3 := rfl
theorem c_W_law_1262 : cT 281 1262 = o_ci 1263 2 := rfl
theorem c_W_law_1263 : cT 281 1263 = o_iadd 1264 := rfl
theorem c_W_law_1264 : cT 281 1264 = o_ial 1265 := rfl
theorem c_W_law_1265 : cT 281 1265 = o_ca 1268 189 3 3 false (some 10) := rfl
theorem c_W_law_1268 : cT 281 1268 = o_iceq 1271 1823 := rfl
theorem c_W_law_1271 : cT 281 1271 = o_ci 1272 0 := rfl
theorem c_W_law_1272 : cT 281 1272 = o_iret .boolean := rfl
theorem c_W_law_1273 : cT 281 1273 = o_al 1274 1 := rfl
theorem c_W_law_1274 : cT 281 1274 = o_al 1275 0 := rfl
theorem c_W_law_1275 : cT 281 1275 = o_il 1276 3 := rfl
theorem c_W_law_1276 : cT 281 1276 = o_ci 1277 1 := rfl
theorem c_W_law_1277 : cT 281 1277 = o_iadd 1278 := rfl
theorem c_W_law_1278 : cT 281 1278 = o_ial 1279 := rfl
theorem c_W_law_1279 : cT 281 1279 = o_ca 1282 193 2 2 false (some 9) := rfl
theorem c_W_law_1282 : cT 281 1282 = o_al 1283 2 := rfl
theorem c_W_law_1283 : cT 281 1283 = o_al 1284 0 := rfl
theorem c_W_law_1284 : cT 281 1284 = o_il 1285 3 := rfl
theorem c_W_law_1285 : cT 281 1285 = o_ci 1286 1 := rfl
theorem c_W_law_1286 : cT 281 1286 = o_iadd 1287 := rfl
theorem c_W_law_1287 : cT 281 1287 = o_ial 1288 := rfl
theorem c_W_law_1288 : cT 281 1288 = o_ca 1291 197 2 2 false (some 10) := rfl
theorem c_W_law_1291 : cT 281 1291 = o_iceq 1294 1823 := rfl
theorem c_W_law_1294 : cT 281 1294 = o_ci 1295 0 := rfl
theorem c_W_law_1295 : cT 281 1295 = o_iret .boolean := rfl
theorem c_W_law_1296 : cT 281 1296 = o_al 1297 1 := rfl
theorem c_W_law_1297 : cT 281 1297 = o_al 1298 0 := rfl
theorem c_W_law_1298 : cT 281 1298 = o_il 1299 3 := rfl
theorem c_W_law_1299 : cT 281 1299 = o_ci 1300 1 := rfl
theorem c_W_law_1300 : cT 281 1300 = o_iadd 1301 := rfl
theorem c_W_law_1301 : cT 281 1301 = o_ial 1302 := rfl
theorem c_W_law_1302 : cT 281 1302 = o_ca 1305 199 2 2 false (some 9) := rfl
theorem c_W_law_1305 : cT 281 1305 = o_al 1306 2 := rfl
theorem c_W_law_1306 : cT 281 1306 = o_al 1307 0 := rfl
theorem c_W_law_1307 : cT 281 1307 = o_il 1308 3 := rfl
theorem c_W_law_1308 : cT 281 1308 = o_ci 1309 1 := rfl
theorem c_W_law_1309 : cT 281 1309 = o_iadd 1310 := rfl
theorem c_W_law_1310 : cT 281 1310 = o_ial 1311 := rfl
theorem c_W_law_1311 : cT 281 1311 = o_ca 1314 200 2 2 false (some 10) := rfl
theorem c_W_law_1314 : cT 281 1314 = o_iceq 1317 1823 := rfl
theorem c_W_law_1317 : cT 281 1317 = o_ci 1318 0 := rfl
theorem c_W_law_1318 : cT 281 1318 = o_iret .boolean := rfl
theorem c_W_law_1319 : cT 281 1319 = o_al 1320 1 := rfl
theorem c_W_law_1320 : cT 281 1320 = o_al 1321 0 := rfl
theorem c_W_law_1321 : cT 281 1321 = o_il 1322 3 := rfl
theorem c_W_law_1322 : cT 281 1322 = o_ci 1323 1 := rfl
theorem c_W_law_1323 : cT 281 1323 = o_iadd 1324 := rfl
theorem c_W_law_1324 : cT 281 1324 = o_ial 1325 := rfl
theorem c_W_law_1325 : cT 281 1325 = o_ca 1328 201 2 2 false (some 9) := rfl
theorem c_W_law_1328 : cT 281 1328 = o_al 1329 2 := rfl
theorem c_W_law_1329 : cT 281 1329 = o_al 1330 0 := rfl
theorem c_W_law_1330 : cT 281 1330 = o_il 1331 3 := rfl
theorem c_W_law_1331 : cT 281 1331 = o_ci 1332 1 := rfl
theorem c_W_law_1332 : cT 281 1332 = o_iadd 1333 := rfl
theorem c_W_law_1333 : cT 281 1333 = o_ial 1334 := rfl
theorem c_W_law_1334 : cT 281 1334 = o_ca 1337 202 2 2 false (some 10) := rfl
theorem c_W_law_1337 : cT 281 1337 = o_iceq 1340 1823 := rfl
theorem c_W_law_1340 : cT 281 1340 = o_ci 1341 0 := rfl
theorem c_W_law_1341 : cT 281 1341 = o_iret .boolean := rfl
theorem c_W_law_1342 : cT 281 1342 = o_al 1343 1 := rfl
theorem c_W_law_1343 : cT 281 1343 = o_al 1344 0 := rfl
theorem c_W_law_1344 : cT 281 1344 = o_il 1345 3 := rfl
theorem c_W_law_1345 : cT 281 1345 = o_ci 1346 1 := rfl
theorem c_W_law_1346 : cT 281 1346 = o_iadd 1347 := rfl
theorem c_W_law_1347 : cT 281 1347 = o_ial 1348 := rfl
theorem c_W_law_1348 : cT 281 1348 = o_ca 1351 207 2 3 false (some 9) := rfl
theorem c_W_law_1351 : cT 281 1351 = o_al 1352 2 := rfl
theorem c_W_law_1352 : cT 281 1352 = o_al 1353 0 := rfl
theorem c_W_law_1353 : cT 281 1353 = o_il 1354 3 := rfl
theorem c_W_law_1354 : cT 281 1354 = o_ci 1355 1 := rfl
theorem c_W_law_1355 : cT 281 1355 = o_iadd 1356 := rfl
theorem c_W_law_1356 : cT 281 1356 = o_ial 1357 := rfl
theorem c_W_law_1357 : cT 281 1357 = o_ca 1360 208 2 6 false (some 10) := rfl
theorem c_W_law_1360 : cT 281 1360 = o_iceq 1363 1823 := rfl
theorem c_W_law_1363 : cT 281 1363 = o_ci 1364 0 := rfl
theorem c_W_law_1364 : cT 281 1364 = o_iret .boolean := rfl
theorem c_W_law_1365 : cT 281 1365 = o_al 1366 1 := rfl
theorem c_W_law_1366 : cT 281 1366 = o_al 1367 0 := rfl
theorem c_W_law_1367 : cT 281 1367 = o_il 1368 3 := rfl
theorem c_W_law_1368 : cT 281 1368 = o_ci 1369 1 := rfl
theorem c_W_law_1369 : cT 281 1369 = o_iadd 1370 := rfl
theorem c_W_law_1370 : cT 281 1370 = o_ial 1371 := rfl
theorem c_W_law_1371 : cT 281 1371 = o_ca 1374 220 2 3 false (some 9) := rfl
theorem c_W_law_1374 : cT 281 1374 = o_al 1375 2 := rfl
theorem c_W_law_1375 : cT 281 1375 = o_al 1376 0 := rfl
theorem c_W_law_1376 : cT 281 1376 = o_il 1377 3 := rfl
theorem c_W_law_1377 : cT 281 1377 = o_ci 1378 1 := rfl
theorem c_W_law_1378 : cT 281 1378 = o_iadd 1379 := rfl
theorem c_W_law_1379 : cT 281 1379 = o_ial 1380 := rfl
theorem c_W_law_1380 : cT 281 1380 = o_ca 1383 226 2 3 false (some 10) := rfl
theorem c_W_law_1383 : cT 281 1383 = o_iceq 1386 1823 := rfl
theorem c_W_law_1386 : cT 281 1386 = o_ci 1387 0 := rfl
theorem c_W_law_1387 : cT 281 1387 = o_iret .boolean := rfl
theorem c_W_law_1388 : cT 281 1388 = o_al 1389 1 := rfl
theorem c_W_law_1389 : cT 281 1389 = o_al 1390 0 := rfl
theorem c_W_law_1390 : cT 281 1390 = o_il 1391 3 := rfl
theorem c_W_law_1391 : cT 281 1391 = o_ci 1392 1 := rfl
theorem c_W_law_1392 : cT 281 1392 = o_iadd 1393 := rfl
theorem c_W_law_1393 : cT 281 1393 = o_ial 1394 := rfl
theorem c_W_law_1394 : cT 281 1394 = o_al 1395 0 := rfl
theorem c_W_law_1395 : cT 281 1395 = o_il 1396 3 := rfl
theorem c_W_law_1396 : cT 281 1396 = o_ci 1397 2 := rfl
theorem c_W_law_1397 : cT 281 1397 = o_iadd 1398 := rfl
theorem c_W_law_1398 : cT 281 1398 = o_ial 1399 := rfl
theorem c_W_law_1399 : cT 281 1399 = o_al 1400 0 := rfl
theorem c_W_law_1400 : cT 281 1400 = o_il 1401 3 := rfl
theorem c_W_law_1401 : cT 281 1401 = o_ci 1402 3 := rfl
theorem c_W_law_1402 : cT 281 1402 = o_iadd 1403 := rfl
theorem c_W_law_1403 : cT 281 1403 = o_ial 1404 := rfl
theorem c_W_law_1404 : cT 281 1404 = o_ca 1407 227 4 4 false (some 9) := rfl
theorem c_W_law_1407 : cT 281 1407 = o_al 1408 2 := rfl
theorem c_W_law_1408 : cT 281 1408 = o_al 1409 0 := rfl
theorem c_W_law_1409 : cT 281 1409 = o_il 1410 3 := rfl
theorem c_W_law_1410 : cT 281 1410 = o_ci 1411 1 := rfl
theorem c_W_law_1411 : cT 281 1411 = o_iadd 1412 := rfl
theorem c_W_law_1412 : cT 281 1412 = o_ial 1413 := rfl
theorem c_W_law_1413 : cT 281 1413 = o_al 1414 0 := rfl
theorem c_W_law_1414 : cT 281 1414 = o_il 1415 3 := rfl
theorem c_W_law_1415 : cT 281 1415 = o_ci 1416 2 := rfl
theorem c_W_law_1416 : cT 281 1416 = o_iadd 1417 := rfl
theorem c_W_law_1417 : cT 281 1417 = o_ial 1418 := rfl
theorem c_W_law_1418 : cT 281 1418 = o_al 1419 0 := rfl
theorem c_W_law_1419 : cT 281 1419 = o_il 1420 3 := rfl
theorem c_W_law_1420 : cT 281 1420 = o_ci 1421 3 := rfl
theorem c_W_law_1421 : cT 281 1421 = o_iadd 1422 := rfl
theorem c_W_law_1422 : cT 281 1422 = o_ial 1423 := rfl
theorem c_W_law_1423 : cT 281 1423 = o_ca 1426 228 4 5 false (some 10) := rfl
theorem c_W_law_1426 : cT 281 1426 = o_iceq 1429 1823 := rfl
theorem c_W_law_1429 : cT 281 1429 = o_ci 1430 0 := rfl
theorem c_W_law_1430 : cT 281 1430 = o_iret .boolean := rfl
theorem c_W_law_1431 : cT 281 1431 = o_al 1432 1 := rfl
theorem c_W_law_1432 : cT 281 1432 = o_al 1433 0 := rfl
theorem c_W_law_1433 : cT 281 1433 = o_il 1434 3 := rfl
theorem c_W_law_1434 : cT 281 1434 = o_ci 1435 1 := rfl
theorem c_W_law_1435 : cT 281 1435 = o_iadd 1436 := rfl
theorem c_W_law_1436 : cT 281 1436 = o_ial 1437 := rfl
theorem c_W_law_1437 : cT 281 1437 = o_al 1438 0 := rfl
theorem c_W_law_1438 : cT 281 1438 = o_il 1439 3 := rfl
theorem c_W_law_1439 : cT 281 1439 = o_ci 1440 2 := rfl
theorem c_W_law_1440 : cT 281 1440 = o_iadd 1441 := rfl
theorem c_W_law_1441 : cT 281 1441 = o_ial 1442 := rfl
theorem c_W_law_1442 : cT 281 1442 = o_ca 1445 231 3 5 false (some 9) := rfl
theorem c_W_law_1445 : cT 281 1445 = o_al 1446 2 := rfl
theorem c_W_law_1446 : cT 281 1446 = o_al 1447 0 := rfl
theorem c_W_law_1447 : cT 281 1447 = o_il 1448 3 := rfl
theorem c_W_law_1448 : cT 281 1448 = o_ci 1449 1 := rfl
theorem c_W_law_1449 : cT 281 1449 = o_iadd 1450 := rfl
theorem c_W_law_1450 : cT 281 1450 = o_ial 1451 := rfl
theorem c_W_law_1451 : cT 281 1451 = o_al 1452 0 := rfl
theorem c_W_law_1452 : cT 281 1452 = o_il 1453 3 := rfl
theorem c_W_law_1453 : cT 281 1453 = o_ci 1454 2 := rfl
theorem c_W_law_1454 : cT 281 1454 = o_iadd 1455 := rfl
theorem c_W_law_1455 : cT 281 1455 = o_ial 1456 := rfl
theorem c_W_law_1456 : cT 281 1456 = o_ca 1459 232 3 9 false (some 10) := rfl
theorem c_W_law_1459 : cT 281 1459 = o_iceq 1462 1823 := rfl
theorem c_W_law_1462 : cT 281 1462 = o_ci 1463 0 := rfl
theorem c_W_law_1463 : cT 281 1463 = o_iret .boolean := rfl
theorem c_W_law_1464 : cT 281 1464 = o_al 1465 1 := rfl
theorem c_W_law_1465 : cT 281 1465 = o_al 1466 0 := rfl
theorem c_W_law_1466 : cT 281 1466 = o_il 1467 3 := rfl
theorem c_W_law_1467 : cT 281 1467 = o_ci 1468 1 := rfl
theorem c_W_law_1468 : cT 281 1468 = o_iadd 1469 := rfl
theorem c_W_law_1469 : cT 281 1469 = o_ial 1470 := rfl
theorem c_W_law_1470 : cT 281 1470 = o_al 1471 0 := rfl
theorem c_W_law_1471 : cT 281 1471 = o_il 1472 3 := rfl
theorem c_W_law_1472 : cT 281 1472 = o_ci 1473 2 := rfl
theorem c_W_law_1473 : cT 281 1473 = o_iadd 1474 := rfl
theorem c_W_law_1474 : cT 281 1474 = o_ial 1475 := rfl
theorem c_W_law_1475 : cT 281 1475 = o_ca 1478 233 3 3 false (some 9) := rfl
theorem c_W_law_1478 : cT 281 1478 = o_al 1479 2 := rfl
theorem c_W_law_1479 : cT 281 1479 = o_al 1480 0 := rfl
theorem c_W_law_1480 : cT 281 1480 = o_il 1481 3 := rfl
theorem c_W_law_1481 : cT 281 1481 = o_ci 1482 1 := rfl
theorem c_W_law_1482 : cT 281 1482 = o_iadd 1483 := rfl
theorem c_W_law_1483 : cT 281 1483 = o_ial 1484 := rfl
theorem c_W_law_1484 : cT 281 1484 = o_al 1485 0 := rfl
theorem c_W_law_1485 : cT 281 1485 = o_il 1486 3 := rfl
theorem c_W_law_1486 : cT 281 1486 = o_ci 1487 2 := rfl
theorem c_W_law_1487 : cT 281 1487 = o_iadd 1488 := rfl
theorem c_W_law_1488 : cT 281 1488 = o_ial 1489 := rfl
theorem c_W_law_1489 : cT 281 1489 = o_ca 1492 234 3 4 false (some 10) := rfl
theorem c_W_law_1492 : cT 281 1492 = o_iceq 1495 1823 := rfl
theorem c_W_law_1495 : cT 281 1495 = o_ci 1496 0 := rfl
theorem c_W_law_1496 : cT 281 1496 = o_iret .boolean := rfl
theorem c_W_law_1497 : cT 281 1497 = o_al 1498 1 := rfl
theorem c_W_law_1498 : cT 281 1498 = o_ca 1501 235 1 1 false (some 9) := rfl
theorem c_W_law_1501 : cT 281 1501 = o_al 1502 2 := rfl
theorem c_W_law_1502 : cT 281 1502 = o_ca 1505 236 1 3 false (some 10) := rfl
theorem c_W_law_1505 : cT 281 1505 = o_iceq 1508 1823 := rfl
theorem c_W_law_1508 : cT 281 1508 = o_ci 1509 0 := rfl
theorem c_W_law_1509 : cT 281 1509 = o_iret .boolean := rfl
theorem c_W_law_1510 : cT 281 1510 = o_al 1511 1 := rfl
theorem c_W_law_1511 : cT 281 1511 = o_al 1512 0 := rfl
theorem c_W_law_1512 : cT 281 1512 = o_il 1513 3 := rfl
theorem c_W_law_1513 : cT 281 1513 = o_ci 1514 1 := rfl
theorem c_W_law_1514 : cT 281 1514 = o_iadd 1515 := rfl
theorem c_W_law_1515 : cT 281 1515 = o_ial 1516 := rfl
theorem c_W_law_1516 : cT 281 1516 = o_ca 1519 237 2 3 false (some 9) := rfl
theorem c_W_law_1519 : cT 281 1519 = o_al 1520 2 := rfl
theorem c_W_law_1520 : cT 281 1520 = o_al 1521 0 := rfl
theorem c_W_law_1521 : cT 281 1521 = o_il 1522 3 := rfl
theorem c_W_law_1522 : cT 281 1522 = o_ci 1523 1 := rfl
theorem c_W_law_1523 : cT 281 1523 = o_iadd 1524 := rfl
theorem c_W_law_1524 : cT 281 1524 = o_ial 1525 := rfl
theorem c_W_law_1525 : cT 281 1525 = o_ca 1528 238 2 3 false (some 10) := rfl
theorem c_W_law_1528 : cT 281 1528 = o_iceq 1531 1823 := rfl
theorem c_W_law_1531 : cT 281 1531 = o_ci 1532 0 := rfl
theorem c_W_law_1532 : cT 281 1532 = o_iret .boolean := rfl
theorem c_W_law_1533 : cT 281 1533 = o_al 1534 1 := rfl
theorem c_W_law_1534 : cT 281 1534 = o_ca 1537 241 1 2 false (some 9) := rfl
theorem c_W_law_1537 : cT 281 1537 = o_al 1538 2 := rfl
theorem c_W_law_1538 : cT 281 1538 = o_ca 1541 243 1 5 false (some 10) := rfl
theorem c_W_law_1541 : cT 281 1541 = o_iceq 1544 1823 := rfl
theorem c_W_law_1544 : cT 281 1544 = o_ci 1545 0 := rfl
theorem c_W_law_1545 : cT 281 1545 = o_iret .boolean := rfl
theorem c_W_law_1546 : cT 281 1546 = o_al 1547 1 := rfl
theorem c_W_law_1547 : cT 281 1547 = o_al 1548 0 := rfl
theorem c_W_law_1548 : cT 281 1548 = o_il 1549 3 := rfl
theorem c_W_law_1549 : cT 281 1549 = o_ci 1550 1 := rfl
theorem c_W_law_1550 : cT 281 1550 = o_iadd 1551 := rfl
theorem c_W_law_1551 : cT 281 1551 = o_ial 1552 := rfl
theorem c_W_law_1552 : cT 281 1552 = o_al 1553 0 := rfl
theorem c_W_law_1553 : cT 281 1553 = o_il 1554 3 := rfl
theorem c_W_law_1554 : cT 281 1554 = o_ci 1555 2 := rfl
theorem c_W_law_1555 : cT 281 1555 = o_iadd 1556 := rfl
theorem c_W_law_1556 : cT 281 1556 = o_ial 1557 := rfl
theorem c_W_law_1557 : cT 281 1557 = o_al 1558 0 := rfl
theorem c_W_law_1558 : cT 281 1558 = o_il 1559 3 := rfl
theorem c_W_law_1559 : cT 281 1559 = o_ci 1560 3 := rfl
theorem c_W_law_1560 : cT 281 1560 = o_iadd 1561 := rfl
theorem c_W_law_1561 : cT 281 1561 = o_ial 1562 := rfl
theorem c_W_law_1562 : cT 281 1562 = o_ca 1565 247 4 6 false (some 9) := rfl
theorem c_W_law_1565 : cT 281 1565 = o_al 1566 2 := rfl
theorem c_W_law_1566 : cT 281 1566 = o_al 1567 0 := rfl
theorem c_W_law_1567 : cT 281 1567 = o_il 1568 3 := rfl
theorem c_W_law_1568 : cT 281 1568 = o_ci 1569 1 := rfl
theorem c_W_law_1569 : cT 281 1569 = o_iadd 1570 := rfl
theorem c_W_law_1570 : cT 281 1570 = o_ial 1571 := rfl
theorem c_W_law_1571 : cT 281 1571 = o_al 1572 0 := rfl
theorem c_W_law_1572 : cT 281 1572 = o_il 1573 3 := rfl
theorem c_W_law_1573 : cT 281 1573 = o_ci 1574 2 := rfl
theorem c_W_law_1574 : cT 281 1574 = o_iadd 1575 := rfl
theorem c_W_law_1575 : cT 281 1575 = o_ial 1576 := rfl
theorem c_W_law_1576 : cT 281 1576 = o_al 1577 0 := rfl
theorem c_W_law_1577 : cT 281 1577 = o_il 1578 3 := rfl
theorem c_W_law_1578 : cT 281 1578 = o_ci 1579 3 := rfl
theorem c_W_law_1579 : cT 281 1579 = o_iadd 1580 := rfl
theorem c_W_law_1580 : cT 281 1580 = o_ial 1581 := rfl
theorem c_W_law_1581 : cT 281 1581 = o_ca 1584 249 4 5 false (some 10) := rfl
theorem c_W_law_1584 : cT 281 1584 = o_iceq 1587 1823 := rfl
theorem c_W_law_1587 : cT 281 1587 = o_ci 1588 0 := rfl
theorem c_W_law_1588 : cT 281 1588 = o_iret .boolean := rfl
theorem c_W_law_1589 : cT 281 1589 = o_al 1590 1 := rfl
theorem c_W_law_1590 : cT 281 1590 = o_al 1591 0 := rfl
theorem c_W_law_1591 : cT 281 1591 = o_il 1592 3 := rfl
theorem c_W_law_1592 : cT 281 1592 = o_ci 1593 1 := rfl
theorem c_W_law_1593 : cT 281 1593 = o_iadd 1594 := rfl
theorem c_W_law_1594 : cT 281 1594 = o_ial 1595 := rfl
theorem c_W_law_1595 : cT 281 1595 = o_al 1596 0 := rfl
theorem c_W_law_1596 : cT 281 1596 = o_il 1597 3 := rfl
theorem c_W_law_1597 : cT 281 1597 = o_ci 1598 2 := rfl
theorem c_W_law_1598 : cT 281 1598 = o_iadd 1599 := rfl
theorem c_W_law_1599 : cT 281 1599 = o_ial 1600 := rfl
theorem c_W_law_1600 : cT 281 1600 = o_al 1601 0 := rfl
theorem c_W_law_1601 : cT 281 1601 = o_il 1602 3 := rfl
theorem c_W_law_1602 : cT 281 1602 = o_ci 1603 3 := rfl
theorem c_W_law_1603 : cT 281 1603 = o_iadd 1604 := rfl
theorem c_W_law_1604 : cT 281 1604 = o_ial 1605 := rfl
theorem c_W_law_1605 : cT 281 1605 = o_ca 1608 253 4 5 false (some 9) := rfl
theorem c_W_law_1608 : cT 281 1608 = o_al 1609 2 := rfl
theorem c_W_law_1609 : cT 281 1609 = o_al 1610 0 := rfl
theorem c_W_law_1610 : cT 281 1610 = o_il 1611 3 := rfl
theorem c_W_law_1611 : cT 281 1611 = o_ci 1612 1 := rfl
theorem c_W_law_1612 : cT 281 1612 = o_iadd 1613 := rfl
theorem c_W_law_1613 : cT 281 1613 = o_ial 1614 := rfl
theorem c_W_law_1614 : cT 281 1614 = o_al 1615 0 := rfl
theorem c_W_law_1615 : cT 281 1615 = o_il 1616 3 := rfl
theorem c_W_law_1616 : cT 281 1616 = o_ci 1617 2 := rfl
theorem c_W_law_1617 : cT 281 1617 = o_iadd 1618 := rfl
theorem c_W_law_1618 : cT 281 1618 = o_ial 1619 := rfl
theorem c_W_law_1619 : cT 281 1619 = o_al 1620 0 := rfl
theorem c_W_law_1620 : cT 281 1620 = o_il 1621 3 := rfl
theorem c_W_law_1621 : cT 281 1621 = o_ci 1622 3 := rfl
theorem c_W_law_1622 : cT 281 1622 = o_iadd 1623 := rfl
theorem c_W_law_1623 : cT 281 1623 = o_ial 1624 := rfl
theorem c_W_law_1624 : cT 281 1624 = o_ca 1627 254 4 7 false (some 10) := rfl
theorem c_W_law_1627 : cT 281 1627 = o_iceq 1630 1823 := rfl
theorem c_W_law_1630 : cT 281 1630 = o_ci 1631 0 := rfl
theorem c_W_law_1631 : cT 281 1631 = o_iret .boolean := rfl
theorem c_W_law_1632 : cT 281 1632 = o_al 1633 1 := rfl
theorem c_W_law_1633 : cT 281 1633 = o_al 1634 0 := rfl
theorem c_W_law_1634 : cT 281 1634 = o_il 1635 3 := rfl
theorem c_W_law_1635 : cT 281 1635 = o_ci 1636 1 := rfl
theorem c_W_law_1636 : cT 281 1636 = o_iadd 1637 := rfl
theorem c_W_law_1637 : cT 281 1637 = o_ial 1638 := rfl
theorem c_W_law_1638 : cT 281 1638 = o_al 1639 0 := rfl
theorem c_W_law_1639 : cT 281 1639 = o_il 1640 3 := rfl
theorem c_W_law_1640 : cT 281 1640 = o_ci 1641 2 := rfl
theorem c_W_law_1641 : cT 281 1641 = o_iadd 1642 := rfl
theorem c_W_law_1642 : cT 281 1642 = o_ial 1643 := rfl
theorem c_W_law_1643 : cT 281 1643 = o_al 1644 0 := rfl
theorem c_W_law_1644 : cT 281 1644 = o_il 1645 3 := rfl
theorem c_W_law_1645 : cT 281 1645 = o_ci 1646 3 := rfl
theorem c_W_law_1646 : cT 281 1646 = o_iadd 1647 := rfl
theorem c_W_law_1647 : cT 281 1647 = o_ial 1648 := rfl
theorem c_W_law_1648 : cT 281 1648 = o_al 1649 0 := rfl
theorem c_W_law_1649 : cT 281 1649 = o_il 1650 3 := rfl
theorem c_W_law_1650 : cT 281 1650 = o_ci 1651 4 := rfl
theorem c_W_law_1651 : cT 281 1651 = o_iadd 1652 := rfl
theorem c_W_law_1652 : cT 281 1652 = o_ial 1653 := rfl
theorem c_W_law_1653 : cT 281 1653 = o_al 1654 0 := rfl
theorem c_W_law_1654 : cT 281 1654 = o_il 1655 3 := rfl
theorem c_W_law_1655 : cT 281 1655 = o_ci 1656 5 := rfl
theorem c_W_law_1656 : cT 281 1656 = o_iadd 1657 := rfl
theorem c_W_law_1657 : cT 281 1657 = o_ial 1658 := rfl
theorem c_W_law_1658 : cT 281 1658 = o_ca 1661 256 6 8 false (some 9) := rfl
theorem c_W_law_1661 : cT 281 1661 = o_al 1662 2 := rfl
theorem c_W_law_1662 : cT 281 1662 = o_al 1663 0 := rfl
theorem c_W_law_1663 : cT 281 1663 = o_il 1664 3 := rfl
theorem c_W_law_1664 : cT 281 1664 = o_ci 1665 1 := rfl
theorem c_W_law_1665 : cT 281 1665 = o_iadd 1666 := rfl
theorem c_W_law_1666 : cT 281 1666 = o_ial 1667 := rfl
theorem c_W_law_1667 : cT 281 1667 = o_al 1668 0 := rfl
theorem c_W_law_1668 : cT 281 1668 = o_il 1669 3 := rfl
theorem c_W_law_1669 : cT 281 1669 = o_ci 1670 2 := rfl
theorem c_W_law_1670 : cT 281 1670 = o_iadd 1671 := rfl
theorem c_W_law_1671 : cT 281 1671 = o_ial 1672 := rfl
theorem c_W_law_1672 : cT 281 1672 = o_al 1673 0 := rfl
theorem c_W_law_1673 : cT 281 1673 = o_il 1674 3 := rfl
theorem c_W_law_1674 : cT 281 1674 = o_ci 1675 3 := rfl
theorem c_W_law_1675 : cT 281 1675 = o_iadd 1676 := rfl
theorem c_W_law_1676 : cT 281 1676 = o_ial 1677 := rfl
theorem c_W_law_1677 : cT 281 1677 = o_al 1678 0 := rfl
theorem c_W_law_1678 : cT 281 1678 = o_il 1679 3 := rfl
theorem c_W_law_1679 : cT 281 1679 = o_ci 1680 4 := rfl
theorem c_W_law_1680 : cT 281 1680 = o_iadd 1681 := rfl
theorem c_W_law_1681 : cT 281 1681 = o_ial 1682 := rfl
theorem c_W_law_1682 : cT 281 1682 = o_al 1683 0 := rfl
theorem c_W_law_1683 : cT 281 1683 = o_il 1684 3 := rfl
theorem c_W_law_1684 : cT 281 1684 = o_ci 1685 5 := rfl
theorem c_W_law_1685 : cT 281 1685 = o_iadd 1686 := rfl
theorem c_W_law_1686 : cT 281 1686 = o_ial 1687 := rfl
theorem c_W_law_1687 : cT 281 1687 = o_ca 1690 257 6 7 false (some 10) := rfl
theorem c_W_law_1690 : cT 281 1690 = o_iceq 1693 1823 := rfl
theorem c_W_law_1693 : cT 281 1693 = o_ci 1694 0 := rfl
theorem c_W_law_1694 : cT 281 1694 = o_iret .boolean := rfl
theorem c_W_law_1695 : cT 281 1695 = o_al 1696 1 := rfl
theorem c_W_law_1696 : cT 281 1696 = o_al 1697 0 := rfl
theorem c_W_law_1697 : cT 281 1697 = o_il 1698 3 := rfl
theorem c_W_law_1698 : cT 281 1698 = o_ci 1699 1 := rfl
theorem c_W_law_1699 : cT 281 1699 = o_iadd 1700 := rfl
theorem c_W_law_1700 : cT 281 1700 = o_ial 1701 := rfl
theorem c_W_law_1701 : cT 281 1701 = o_al 1702 0 := rfl
theorem c_W_law_1702 : cT 281 1702 = o_il 1703 3 := rfl
theorem c_W_law_1703 : cT 281 1703 = o_ci 1704 2 := rfl
theorem c_W_law_1704 : cT 281 1704 = o_iadd 1705 := rfl
theorem c_W_law_1705 : cT 281 1705 = o_ial 1706 := rfl
theorem c_W_law_1706 : cT 281 1706 = o_ca 1709 259 3 6 false (some 9) := rfl
theorem c_W_law_1709 : cT 281 1709 = o_al 1710 2 := rfl
theorem c_W_law_1710 : cT 281 1710 = o_al 1711 0 := rfl
theorem c_W_law_1711 : cT 281 1711 = o_il 1712 3 := rfl
theorem c_W_law_1712 : cT 281 1712 = o_ci 1713 1 := rfl
theorem c_W_law_1713 : cT 281 1713 = o_iadd 1714 := rfl
theorem c_W_law_1714 : cT 281 1714 = o_ial 1715 := rfl
theorem c_W_law_1715 : cT 281 1715 = o_al 1716 0 := rfl
theorem c_W_law_1716 : cT 281 1716 = o_il 1717 3 := rfl
theorem c_W_law_1717 : cT 281 1717 = o_ci 1718 2 := rfl
theorem c_W_law_1718 : cT 281 1718 = o_iadd 1719 := rfl
theorem c_W_law_1719 : cT 281 1719 = o_ial 1720 := rfl
theorem c_W_law_1720 : cT 281 1720 = o_ca 1723 260 3 7 false (some 10) := rfl
theorem c_W_law_1723 : cT 281 1723 = o_iceq 1726 1823 := rfl
theorem c_W_law_1726 : cT 281 1726 = o_ci 1727 0 := rfl
theorem c_W_law_1727 : cT 281 1727 = o_iret .boolean := rfl
theorem c_W_law_1728 : cT 281 1728 = o_al 1729 1 := rfl
theorem c_W_law_1729 : cT 281 1729 = o_al 1730 0 := rfl
theorem c_W_law_1730 : cT 281 1730 = o_il 1731 3 := rfl
theorem c_W_law_1731 : cT 281 1731 = o_ci 1732 1 := rfl
theorem c_W_law_1732 : cT 281 1732 = o_iadd 1733 := rfl
theorem c_W_law_1733 : cT 281 1733 = o_ial 1734 := rfl
theorem c_W_law_1734 : cT 281 1734 = o_ca 1737 261 2 2 false (some 9) := rfl
theorem c_W_law_1737 : cT 281 1737 = o_al 1738 2 := rfl
theorem c_W_law_1738 : cT 281 1738 = o_al 1739 0 := rfl
theorem c_W_law_1739 : cT 281 1739 = o_il 1740 3 := rfl
theorem c_W_law_1740 : cT 281 1740 = o_ci 1741 1 := rfl
theorem c_W_law_1741 : cT 281 1741 = o_iadd 1742 := rfl
theorem c_W_law_1742 : cT 281 1742 = o_ial 1743 := rfl
theorem c_W_law_1743 : cT 281 1743 = o_ca 1746 262 2 2 false (some 10) := rfl
theorem c_W_law_1746 : cT 281 1746 = o_iceq 1749 1823 := rfl
theorem c_W_law_1749 : cT 281 1749 = o_ci 1750 0 := rfl
theorem c_W_law_1750 : cT 281 1750 = o_iret .boolean := rfl
theorem c_W_law_1751 : cT 281 1751 = o_al 1752 1 := rfl
theorem c_W_law_1752 : cT 281 1752 = o_al 1753 0 := rfl
theorem c_W_law_1753 : cT 281 1753 = o_il 1754 3 := rfl
theorem c_W_law_1754 : cT 281 1754 = o_ci 1755 1 := rfl
theorem c_W_law_1755 : cT 281 1755 = o_iadd 1756 := rfl
theorem c_W_law_1756 : cT 281 1756 = o_ial 1757 := rfl
theorem c_W_law_1757 : cT 281 1757 = o_ca 1760 270 2 4 false (some 9) := rfl
theorem c_W_law_1760 : cT 281 1760 = o_al 1761 2 := rfl
theorem c_W_law_1761 : cT 281 1761 = o_al 1762 0 := rfl
theorem c_W_law_1762 : cT 281 1762 = o_il 1763 3 := rfl
theorem c_W_law_1763 : cT 281 1763 = o_ci 1764 1 := rfl
theorem c_W_law_1764 : cT 281 1764 = o_iadd 1765 := rfl
theorem c_W_law_1765 : cT 281 1765 = o_ial 1766 := rfl
theorem c_W_law_1766 : cT 281 1766 = o_ca 1769 273 2 6 false (some 10) := rfl
theorem c_W_law_1769 : cT 281 1769 = o_iceq 1772 1823 := rfl
theorem c_W_law_1772 : cT 281 1772 = o_ci 1773 0 := rfl
theorem c_W_law_1773 : cT 281 1773 = o_iret .boolean := rfl
theorem c_W_law_1774 : cT 281 1774 = o_al 1775 1 := rfl
theorem c_W_law_1775 : cT 281 1775 = o_ca 1778 274 1 1 false (some 9) := rfl
theorem c_W_law_1778 : cT 281 1778 = o_al 1779 2 := rfl
theorem c_W_law_1779 : cT 281 1779 = o_ca 1782 275 1 2 false (some 10) := rfl
theorem c_W_law_1782 : cT 281 1782 = o_iceq 1785 1823 := rfl
theorem c_W_law_1785 : cT 281 1785 = o_ci 1786 0 := rfl
theorem c_W_law_1786 : cT 281 1786 = o_iret .boolean := rfl
theorem c_W_law_1787 : cT 281 1787 = o_al 1788 1 := rfl
theorem c_W_law_1788 : cT 281 1788 = o_ca 1791 276 1 1 false (some 9) := rfl
theorem c_W_law_1791 : cT 281 1791 = o_al 1792 2 := rfl
theorem c_W_law_1792 : cT 281 1792 = o_ca 1795 277 1 2 false (some 10) := rfl
theorem c_W_law_1795 : cT 281 1795 = o_iceq 1798 1823 := rfl
theorem c_W_law_1798 : cT 281 1798 = o_ci 1799 0 := rfl
theorem c_W_law_1799 : cT 281 1799 = o_iret .boolean := rfl
theorem c_W_law_1800 : cT 281 1800 = o_al 1801 1 := rfl
theorem c_W_law_1801 : cT 281 1801 = o_al 1802 0 := rfl
theorem c_W_law_1802 : cT 281 1802 = o_il 1803 3 := rfl
theorem c_W_law_1803 : cT 281 1803 = o_ci 1804 1 := rfl
theorem c_W_law_1804 : cT 281 1804 = o_iadd 1805 := rfl
theorem c_W_law_1805 : cT 281 1805 = o_ial 1806 := rfl
theorem c_W_law_1806 : cT 281 1806 = o_ca 1809 279 2 2 false (some 9) := rfl
theorem c_W_law_1809 : cT 281 1809 = o_al 1810 2 := rfl
theorem c_W_law_1810 : cT 281 1810 = o_al 1811 0 := rfl
theorem c_W_law_1811 : cT 281 1811 = o_il 1812 3 := rfl
theorem c_W_law_1812 : cT 281 1812 = o_ci 1813 1 := rfl
theorem c_W_law_1813 : cT 281 1813 = o_iadd 1814 := rfl
theorem c_W_law_1814 : cT 281 1814 = o_ial 1815 := rfl
theorem c_W_law_1815 : cT 281 1815 = o_ca 1818 280 2 4 false (some 10) := rfl
theorem c_W_law_1818 : cT 281 1818 = o_iceq 1821 1823 := rfl
theorem c_W_law_1821 : cT 281 1821 = o_ci 1822 0 := rfl
theorem c_W_law_1822 : cT 281 1822 = o_iret .boolean := rfl
theorem c_W_law_1823 : cT 281 1823 = o_inc 1826 3 7 := rfl
theorem c_W_law_1826 : cT 281 1826 = o_goto 18 := rfl
theorem c_W_law_1829 : cT 281 1829 = o_ci 1830 1 := rfl
theorem c_W_law_1830 : cT 281 1830 = o_iret .boolean := rfl
