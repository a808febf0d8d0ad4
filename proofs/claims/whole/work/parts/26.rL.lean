theorem dL_law_0 : decode code 0 = .ok (.new 7, 3) := by decide +kernel
theorem dL_law_3 : decode code 3 = .ok (.dup, 1) := by decide +kernel
theorem dL_law_4 : decode code 4 = .ok (.invokespecial 9, 3) := by decide +kernel
theorem dL_law_7 : decode code 7 = .ok (.astore_n 1, 1) := by decide +kernel
theorem dL_law_8 : decode code 8 = .ok (.new 10, 3) := by decide +kernel
theorem dL_law_11 : decode code 11 = .ok (.dup, 1) := by decide +kernel
theorem dL_law_12 : decode code 12 = .ok (.invokespecial 12, 3) := by decide +kernel
theorem dL_law_15 : decode code 15 = .ok (.astore_n 2, 1) := by decide +kernel
theorem dL_law_16 : decode code 16 = .ok (.iconst 0, 1) := by decide +kernel
theorem dL_law_17 : decode code 17 = .ok (.istore_n 3, 1) := by decide +kernel
theorem dL_law_18 : decode code 18 = .ok (.iload_n 3, 1) := by decide +kernel
theorem dL_law_19 : decode code 19 = .ok (.aload_n 0, 1) := by decide +kernel
theorem dL_law_20 : decode code 20 = .ok (.arraylength, 1) := by decide +kernel
theorem dL_law_21 : decode code 21 = .ok (.bipush 6, 2) := by decide +kernel
theorem dL_law_23 : decode code 23 = .ok (.isub, 1) := by decide +kernel
theorem dL_law_24 : decode code 24 = .ok (.if_icmp .gt 1582, 3) := by decide +kernel
theorem dL_law_27 : decode code 27 = .ok (.aload_n 0, 1) := by decide +kernel
theorem dL_law_28 : decode code 28 = .ok (.iload_n 3, 1) := by decide +kernel
theorem dL_law_29 : decode code 29 = .ok (.iaload, 1) := by decide +kernel
theorem dL_law_30 : decode code 30 = .ok (.bipush 63, 2) := by decide +kernel
theorem dL_law_32 : decode code 32 = .ok (.iand, 1) := by decide +kernel
theorem dL_law_33 : decode code 33 = .ok (.tableswitch 1567 0 43 #[191, 254, 277, 300, 333, 366, 389, 402, 425, 458, 481, 514, 547, 570, 603, 626, 659, 692, 735, 768, 811, 845, 868, 891, 914, 937, 960, 983, 1006, 1030, 1063, 1086, 1119, 1152, 1195, 1238, 1271, 1315, 1338, 1381, 1455, 1498, 1521, 1544], 191) := by decide +kernel
theorem dL_law_224 : decode code 224 = .ok (.aload_n 1, 1) := by decide +kernel
theorem dL_law_225 : decode code 225 = .ok (.aload_n 0, 1) := by decide +kernel
theorem dL_law_226 : decode code 226 = .ok (.iload_n 3, 1) := by decide +kernel
theorem dL_law_227 : decode code 227 = .ok (.iconst 1, 1) := by decide +kernel
theorem dL_law_228 : decode code 228 = .ok (.iadd, 1) := by decide +kernel
theorem dL_law_229 : decode code 229 = .ok (.iaload, 1) := by decide +kernel
theorem dL_law_230 : decode code 230 = .ok (.aload_n 0, 1) := by decide +kernel
theorem dL_law_231 : decode code 231 = .ok (.iload_n 3, 1) := by decide +kernel
theorem dL_law_232 : decode code 232 = .ok (.iconst 2, 1) := by decide +kernel
theorem dL_law_233 : decode code 233 = .ok (.iadd, 1) := by decide +kernel
theorem dL_law_234 : decode code 234 = .ok (.iaload, 1) := by decide +kernel
theorem dL_law_235 : decode code 235 = .ok (.aload_n 0, 1) := by decide +kernel
theorem dL_law_236 : decode code 236 = .ok (.iload_n 3, 1) := by decide +kernel
theorem dL_law_237 : decode code 237 = .ok (.iconst 3, 1) := by decide +kernel
theorem dL_law_238 : decode code 238 = .ok (.iadd, 1) := by decide +kernel
theorem dL_law_239 : decode code 239 = .ok (.iaload, 1) := by decide +kernel
theorem dL_law_240 : decode code 240 = .ok (.aload_n 0, 1) := by decide +kernel
theorem dL_law_241 : decode code 241 = .ok (.iload_n 3, 1) := by decide +kernel
theorem dL_law_242 : decode code 242 = .ok (.iconst 4, 1) := by decide +kernel
theorem dL_law_243 : decode code 243 = .ok (.iadd, 1) := by decide +kernel
theorem dL_law_244 : decode code 244 = .ok (.iaload, 1) := by decide +kernel
theorem dL_law_245 : decode code 245 = .ok (.aload_n 0, 1) := by decide +kernel
theorem dL_law_246 : decode code 246 = .ok (.iload_n 3, 1) := by decide +kernel
theorem dL_law_247 : decode code 247 = .ok (.iconst 5, 1) := by decide +kernel
theorem dL_law_248 : decode code 248 = .ok (.iadd, 1) := by decide +kernel
theorem dL_law_249 : decode code 249 = .ok (.iaload, 1) := by decide +kernel
theorem dL_law_250 : decode code 250 = .ok (.invokevirtual 13, 3) := by decide +kernel
theorem dL_law_253 : decode code 253 = .ok (.aload_n 2, 1) := by decide +kernel
theorem dL_law_254 : decode code 254 = .ok (.aload_n 0, 1) := by decide +kernel
theorem dL_law_255 : decode code 255 = .ok (.iload_n 3, 1) := by decide +kernel
theorem dL_law_256 : decode code 256 = .ok (.iconst 1, 1) := by decide +kernel
theorem dL_law_257 : decode code 257 = .ok (.iadd, 1) := by decide +kernel
theorem dL_law_258 : decode code 258 = .ok (.iaload, 1) := by decide +kernel
theorem dL_law_259 : decode code 259 = .ok (.aload_n 0, 1) := by decide +kernel
theorem dL_law_260 : decode code 260 = .ok (.iload_n 3, 1) := by decide +kernel
theorem dL_law_261 : decode code 261 = .ok (.iconst 2, 1) := by decide +kernel
theorem dL_law_262 : decode code 262 = .ok (.iadd, 1) := by decide +kernel
theorem dL_law_263 : decode code 263 = .ok (.iaload, 1) := by decide +kernel
theorem dL_law_264 : decode code 264 = .ok (.aload_n 0, 1) := by decide +kernel
theorem dL_law_265 : decode code 265 = .ok (.iload_n 3, 1) := by decide +kernel
theorem dL_law_266 : decode code 266 = .ok (.iconst 3, 1) := by decide +kernel
theorem dL_law_267 : decode code 267 = .ok (.iadd, 1) := by decide +kernel
theorem dL_law_268 : decode code 268 = .ok (.iaload, 1) := by decide +kernel
theorem dL_law_269 : decode code 269 = .ok (.aload_n 0, 1) := by decide +kernel
theorem dL_law_270 : decode code 270 = .ok (.iload_n 3, 1) := by decide +kernel
theorem dL_law_271 : decode code 271 = .ok (.iconst 4, 1) := by decide +kernel
theorem dL_law_272 : decode code 272 = .ok (.iadd, 1) := by decide +kernel
theorem dL_law_273 : decode code 273 = .ok (.iaload, 1) := by decide +kernel
theorem dL_law_274 : decode code 274 = .ok (.aload_n 0, 1) := by decide +kernel
theorem dL_law_275 : decode code 275 = .ok (.iload_n 3, 1) := by decide +kernel
theorem dL_law_276 : decode code 276 = .ok (.iconst 5, 1) := by decide +kernel
theorem dL_law_277 : decode code 277 = .ok (.iadd, 1) := by decide +kernel
theorem dL_law_278 : decode code 278 = .ok (.iaload, 1) := by decide +kernel
theorem dL_law_279 : decode code 279 = .ok (.invokevirtual 17, 3) := by decide +kernel
theorem dL_law_282 : decode code 282 = .ok (.if_icmp .eq 1318, 3) := by decide +kernel
theorem dL_law_285 : decode code 285 = .ok (.iconst 0, 1) := by decide +kernel
theorem dL_law_286 : decode code 286 = .ok (.ireturn, 1) := by decide +kernel
theorem dL_law_287 : decode code 287 = .ok (.aload_n 1, 1) := by decide +kernel
theorem dL_law_288 : decode code 288 = .ok (.aload_n 0, 1) := by decide +kernel
theorem dL_law_289 : decode code 289 = .ok (.iload_n 3, 1) := by decide +kernel
theorem dL_law_290 : decode code 290 = .ok (.iconst 1, 1) := by decide +kernel
theorem dL_law_291 : decode code 291 = .ok (.iadd, 1) := by decide +kernel
theorem dL_law_292 : decode code 292 = .ok (.iaload, 1) := by decide +kernel
theorem dL_law_293 : decode code 293 = .ok (.invokevirtual 18, 3) := by decide +kernel
theorem dL_law_296 : decode code 296 = .ok (.aload_n 2, 1) := by decide +kernel
theorem dL_law_297 : decode code 297 = .ok (.aload_n 0, 1) := by decide +kernel
theorem dL_law_298 : decode code 298 = .ok (.iload_n 3, 1) := by decide +kernel
theorem dL_law_299 : decode code 299 = .ok (.iconst 1, 1) := by decide +kernel
theorem dL_law_300 : decode code 300 = .ok (.iadd, 1) := by decide +kernel
theorem dL_law_301 : decode code 301 = .ok (.iaload, 1) := by decide +kernel
theorem dL_law_302 : decode code 302 = .ok (.invokevirtual 22, 3) := by decide +kernel
theorem dL_law_305 : decode code 305 = .ok (.if_icmp .eq 1295, 3) := by decide +kernel
theorem dL_law_308 : decode code 308 = .ok (.iconst 0, 1) := by decide +kernel
theorem dL_law_309 : decode code 309 = .ok (.ireturn, 1) := by decide +kernel
theorem dL_law_310 : decode code 310 = .ok (.aload_n 1, 1) := by decide +kernel
theorem dL_law_311 : decode code 311 = .ok (.aload_n 0, 1) := by decide +kernel
theorem dL_law_312 : decode code 312 = .ok (.iload_n 3, 1) := by decide +kernel
theorem dL_law_313 : decode code 313 = .ok (.iconst 1, 1) := by decide +kernel
theorem dL_law_314 : decode code 314 = .ok (.iadd, 1) := by decide +kernel
theorem dL_law_315 : decode code 315 = .ok (.iaload, 1) := by decide +kernel
theorem dL_law_316 : decode code 316 = .ok (.invokevirtual 23, 3) := by decide +kernel
theorem dL_law_319 : decode code 319 = .ok (.aload_n 2, 1) := by decide +kernel
theorem dL_law_320 : decode code 320 = .ok (.aload_n 0, 1) := by decide +kernel
theorem dL_law_321 : decode code 321 = .ok (.iload_n 3, 1) := by decide +kernel
theorem dL_law_322 : decode code 322 = .ok (.iconst 1, 1) := by decide +kernel
theorem dL_law_323 : decode code 323 = .ok (.iadd, 1) := by decide +kernel
theorem dL_law_324 : decode code 324 = .ok (.iaload, 1) := by decide +kernel
theorem dL_law_325 : decode code 325 = .ok (.invokevirtual 26, 3) := by decide +kernel
theorem dL_law_328 : decode code 328 = .ok (.if_icmp .eq 1272, 3) := by decide +kernel
theorem dL_law_331 : decode code 331 = .ok (.iconst 0, 1) := by decide +kernel
theorem dL_law_332 : decode code 332 = .ok (.ireturn, 1) := by decide +kernel
theorem dL_law_333 : decode code 333 = .ok (.aload_n 1, 1) := by decide +kernel
theorem dL_law_334 : decode code 334 = .ok (.aload_n 0, 1) := by decide +kernel
theorem dL_law_335 : decode code 335 = .ok (.iload_n 3, 1) := by decide +kernel
theorem dL_law_336 : decode code 336 = .ok (.iconst 1, 1) := by decide +kernel
theorem dL_law_337 : decode code 337 = .ok (.iadd, 1) := by decide +kernel
theorem dL_law_338 : decode code 338 = .ok (.iaload, 1) := by decide +kernel
theorem dL_law_339 : decode code 339 = .ok (.aload_n 0, 1) := by decide +kernel
theorem dL_law_340 : decode code 340 = .ok (.iload_n 3, 1) := by decide +kernel
theorem dL_law_341 : decode code 341 = .ok (.iconst 2, 1) := by decide +kernel
theorem dL_law_342 : decode code 342 = .ok (.iadd, 1) := by decide +kernel
theorem dL_law_343 : decode code 343 = .ok (.iaload, 1) := by decide +kernel
theorem dL_law_344 : decode code 344 = .ok (.invokevirtual 27, 3) := by decide +kernel
theorem dL_law_347 : decode code 347 = .ok (.aload_n 2, 1) := by decide +kernel
theorem dL_law_348 : decode code 348 = .ok (.aload_n 0, 1) := by decide +kernel
theorem dL_law_349 : decode code 349 = .ok (.iload_n 3, 1) := by decide +kernel
theorem dL_law_350 : decode code 350 = .ok (.iconst 1, 1) := by decide +kernel
theorem dL_law_351 : decode code 351 = .ok (.iadd, 1) := by decide +kernel
theorem dL_law_352 : decode code 352 = .ok (.iaload, 1) := by decide +kernel
theorem dL_law_353 : decode code 353 = .ok (.aload_n 0, 1) := by decide +kernel
theorem dL_law_354 : decode code 354 = .ok (.iload_n 3, 1) := by decide +kernel
theorem dL_law_355 : decode code 355 = .ok (.iconst 2, 1) := by decide +kernel
theorem dL_law_356 : decode code 356 = .ok (.iadd, 1) := by decide +kernel
theorem dL_law_357 : decode code 357 = .ok (.iaload, 1) := by decide +kernel
theorem dL_law_358 : decode code 358 = .ok (.invokevirtual 31, 3) := by decide +kernel
theorem dL_law_361 : decode code 361 = .ok (.if_icmp .eq 1239, 3) := by decide +kernel
theorem dL_law_364 : decode code 364 = .ok (.iconst 0, 1) := by decide +kernel
theorem dL_law_365 : decode code 365 = .ok (.ireturn, 1) := by decide +kernel
theorem dL_law_366 : decode code 366 = .ok (.aload_n 1, 1) := by decide +kernel
theorem dL_law_367 : decode code 367 = .ok (.aload_n 0, 1) := by decide +kernel
theorem dL_law_368 : decode code 368 = .ok (.iload_n 3, 1) := by decide +kernel
theorem dL_law_369 : decode code 369 = .ok (.iconst 1, 1) := by decide +kernel
theorem dL_law_370 : decode code 370 = .ok (.iadd, 1) := by decide +kernel
theorem dL_law_371 : decode code 371 = .ok (.iaload, 1) := by decide +kernel
theorem dL_law_372 : decode code 372 = .ok (.aload_n 0, 1) := by decide +kernel
theorem dL_law_373 : decode code 373 = .ok (.iload_n 3, 1) := by decide +kernel
theorem dL_law_374 : decode code 374 = .ok (.iconst 2, 1) := by decide +kernel
theorem dL_law_375 : decode code 375 = .ok (.iadd, 1) := by decide +kernel
theorem dL_law_376 : decode code 376 = .ok (.iaload, 1) := by decide +kernel
theorem dL_law_377 : decode code 377 = .ok (.invokevirtual 32, 3) := by decide +kernel
theorem dL_law_380 : decode code 380 = .ok (.aload_n 2, 1) := by decide +kernel
theorem dL_law_381 : decode code 381 = .ok (.aload_n 0, 1) := by decide +kernel
theorem dL_law_382 : decode code 382 = .ok (.iload_n 3, 1) := by decide +kernel
theorem dL_law_383 : decode code 383 = .ok (.iconst 1, 1) := by decide +kernel
theorem dL_law_384 : decode code 384 = .ok (.iadd, 1) := by decide +kernel
theorem dL_law_385 : decode code 385 = .ok (.iaload, 1) := by decide +kernel
theorem dL_law_386 : decode code 386 = .ok (.aload_n 0, 1) := by decide +kernel
theorem dL_law_387 : decode code 387 = .ok (.iload_n 3, 1) := by decide +kernel
theorem dL_law_388 : decode code 388 = .ok (.iconst 2, 1) := by decide +kernel
theorem dL_law_389 : decode code 389 = .ok (.iadd, 1) := by decide +kernel
theorem dL_law_390 : decode code 390 = .ok (.iaload, 1) := by decide +kernel
theorem dL_law_391 : decode code 391 = .ok (.invokevirtual 35, 3) := by decide +kernel
theorem dL_law_394 : decode code 394 = .ok (.if_icmp .eq 1206, 3) := by decide +kernel
theorem dL_law_397 : decode code 397 = .ok (.iconst 0, 1) := by decide +kernel
theorem dL_law_398 : decode code 398 = .ok (.ireturn, 1) := by decide +kernel
theorem dL_law_399 : decode code 399 = .ok (.aload_n 1, 1) := by decide +kernel
theorem dL_law_400 : decode code 400 = .ok (.aload_n 0, 1) := by decide +kernel
theorem dL_law_401 : decode code 401 = .ok (.iload_n 3, 1) := by decide +kernel
theorem dL_law_402 : decode code 402 = .ok (.iconst 1, 1) := by decide +kernel
theorem dL_law_403 : decode code 403 = .ok (.iadd, 1) := by decide +kernel
theorem dL_law_404 : decode code 404 = .ok (.iaload, 1) := by decide +kernel
theorem dL_law_405 : decode code 405 = .ok (.invokevirtual 36, 3) := by decide +kernel
theorem dL_law_408 : decode code 408 = .ok (.aload_n 2, 1) := by decide +kernel
theorem dL_law_409 : decode code 409 = .ok (.aload_n 0, 1) := by decide +kernel
theorem dL_law_410 : decode code 410 = .ok (.iload_n 3, 1) := by decide +kernel
theorem dL_law_411 : decode code 411 = .ok (.iconst 1, 1) := by decide +kernel
theorem dL_law_412 : decode code 412 = .ok (.iadd, 1) := by decide +kernel
theorem dL_law_413 : decode code 413 = .ok (.iaload, 1) := by decide +kernel
theorem dL_law_414 : decode code 414 = .ok (.invokevirtual 39, 3) := by decide +kernel
theorem dL_law_417 : decode code 417 = .ok (.if_icmp .eq 1183, 3) := by decide +kernel
theorem dL_law_420 : decode code 420 = .ok (.iconst 0, 1) := by decide +kernel
theorem dL_law_421 : decode code 421 = .ok (.ireturn, 1) := by decide +kernel
theorem dL_law_422 : decode code 422 = .ok (.aload_n 1, 1) := by decide +kernel
theorem dL_law_423 : decode code 423 = .ok (.invokevirtual 40, 3) := by decide +kernel
theorem dL_law_426 : decode code 426 = .ok (.aload_n 2, 1) := by decide +kernel
theorem dL_law_427 : decode code 427 = .ok (.invokevirtual 44, 3) := by decide +kernel
theorem dL_law_430 : decode code 430 = .ok (.if_icmp .eq 1170, 3) := by decide +kernel
theorem dL_law_433 : decode code 433 = .ok (.iconst 0, 1) := by decide +kernel
theorem dL_law_434 : decode code 434 = .ok (.ireturn, 1) := by decide +kernel
theorem dL_law_435 : decode code 435 = .ok (.aload_n 1, 1) := by decide +kernel
theorem dL_law_436 : decode code 436 = .ok (.aload_n 0, 1) := by decide +kernel
theorem dL_law_437 : decode code 437 = .ok (.iload_n 3, 1) := by decide +kernel
theorem dL_law_438 : decode code 438 = .ok (.iconst 1, 1) := by decide +kernel
theorem dL_law_439 : decode code 439 = .ok (.iadd, 1) := by decide +kernel
theorem dL_law_440 : decode code 440 = .ok (.iaload, 1) := by decide +kernel
theorem dL_law_441 : decode code 441 = .ok (.invokevirtual 45, 3) := by decide +kernel
theorem dL_law_444 : decode code 444 = .ok (.aload_n 2, 1) := by decide +kernel
theorem dL_law_445 : decode code 445 = .ok (.aload_n 0, 1) := by decide +kernel
theorem dL_law_446 : decode code 446 = .ok (.iload_n 3, 1) := by decide +kernel
theorem dL_law_447 : decode code 447 = .ok (.iconst 1, 1) := by decide +kernel
theorem dL_law_448 : decode code 448 = .ok (.iadd, 1) := by decide +kernel
theorem dL_law_449 : decode code 449 = .ok (.iaload, 1) := by decide +kernel
theorem dL_law_450 : decode code 450 = .ok (.invokevirtual 48, 3) := by decide +kernel
theorem dL_law_453 : decode code 453 = .ok (.if_icmp .eq 1147, 3) := by decide +kernel
theorem dL_law_456 : decode code 456 = .ok (.iconst 0, 1) := by decide +kernel
theorem dL_law_457 : decode code 457 = .ok (.ireturn, 1) := by decide +kernel
theorem dL_law_458 : decode code 458 = .ok (.aload_n 1, 1) := by decide +kernel
theorem dL_law_459 : decode code 459 = .ok (.aload_n 0, 1) := by decide +kernel
theorem dL_law_460 : decode code 460 = .ok (.iload_n 3, 1) := by decide +kernel
theorem dL_law_461 : decode code 461 = .ok (.iconst 1, 1) := by decide +kernel
theorem dL_law_462 : decode code 462 = .ok (.iadd, 1) := by decide +kernel
theorem dL_law_463 : decode code 463 = .ok (.iaload, 1) := by decide +kernel
theorem dL_law_464 : decode code 464 = .ok (.aload_n 0, 1) := by decide +kernel
theorem dL_law_465 : decode code 465 = .ok (.iload_n 3, 1) := by decide +kernel
theorem dL_law_466 : decode code 466 = .ok (.iconst 2, 1) := by decide +kernel
theorem dL_law_467 : decode code 467 = .ok (.iadd, 1) := by decide +kernel
theorem dL_law_468 : decode code 468 = .ok (.iaload, 1) := by decide +kernel
theorem dL_law_469 : decode code 469 = .ok (.invokevirtual 49, 3) := by decide +kernel
theorem dL_law_472 : decode code 472 = .ok (.aload_n 2, 1) := by decide +kernel
theorem dL_law_473 : decode code 473 = .ok (.aload_n 0, 1) := by decide +kernel
theorem dL_law_474 : decode code 474 = .ok (.iload_n 3, 1) := by decide +kernel
theorem dL_law_475 : decode code 475 = .ok (.iconst 1, 1) := by decide +kernel
theorem dL_law_476 : decode code 476 = .ok (.iadd, 1) := by decide +kernel
theorem dL_law_477 : decode code 477 = .ok (.iaload, 1) := by decide +kernel
theorem dL_law_478 : decode code 478 = .ok (.aload_n 0, 1) := by decide +kernel
theorem dL_law_479 : decode code 479 = .ok (.iload_n 3, 1) := by decide +kernel
theorem dL_law_480 : decode code 480 = .ok (.iconst 2, 1) := by decide +kernel
theorem dL_law_481 : decode code 481 = .ok (.iadd, 1) := by decide +kernel
theorem dL_law_482 : decode code 482 = .ok (.iaload, 1) := by decide +kernel
theorem dL_law_483 : decode code 483 = .ok (.invokevirtual 52, 3) := by decide +kernel
theorem dL_law_486 : decode code 486 = .ok (.if_icmp .eq 1114, 3) := by decide +kernel
theorem dL_law_489 : decode code 489 = .ok (.iconst 0, 1) := by decide +kernel
theorem dL_law_490 : decode code 490 = .ok (.ireturn, 1) := by decide +kernel
theorem dL_law_491 : decode code 491 = .ok (.aload_n 1, 1) := by decide +kernel
theorem dL_law_492 : decode code 492 = .ok (.aload_n 0, 1) := by decide +kernel
theorem dL_law_493 : decode code 493 = .ok (.iload_n 3, 1) := by decide +kernel
theorem dL_law_494 : decode code 494 = .ok (.iconst 1, 1) := by decide +kernel
theorem dL_law_495 : decode code 495 = .ok (.iadd, 1) := by decide +kernel
theorem dL_law_496 : decode code 496 = .ok (.iaload, 1) := by decide +kernel
theorem dL_law_497 : decode code 497 = .ok (.invokevirtual 53, 3) := by decide +kernel
theorem dL_law_500 : decode code 500 = .ok (.aload_n 2, 1) := by decide +kernel
theorem dL_law_501 : decode code 501 = .ok (.aload_n 0, 1) := by decide +kernel
theorem dL_law_502 : decode code 502 = .ok (.iload_n 3, 1) := by decide +kernel
theorem dL_law_503 : decode code 503 = .ok (.iconst 1, 1) := by decide +kernel
theorem dL_law_504 : decode code 504 = .ok (.iadd, 1) := by decide +kernel
theorem dL_law_505 : decode code 505 = .ok (.iaload, 1) := by decide +kernel
theorem dL_law_506 : decode code 506 = .ok (.invokevirtual 56, 3) := by decide +kernel
theorem dL_law_509 : decode code 509 = .ok (.if_icmp .eq 1091, 3) := by decide +kernel
theorem dL_law_512 : decode code 512 = .ok (.iconst 0, 1) := by decide +kernel
theorem dL_law_513 : decode code 513 = .ok (.ireturn, 1) := by decide +kernel
theorem dL_law_514 : decode code 514 = .ok (.aload_n 1, 1) := by decide +kernel
theorem dL_law_515 : decode code 515 = .ok (.aload_n 0, 1) := by decide +kernel
theorem dL_law_516 : decode code 516 = .ok (.iload_n 3, 1) := by decide +kernel
theorem dL_law_517 : decode code 517 = .ok (.iconst 1, 1) := by decide +kernel
theorem dL_law_518 : decode code 518 = .ok (.iadd, 1) := by decide +kernel
theorem dL_law_519 : decode code 519 = .ok (.iaload, 1) := by decide +kernel
theorem dL_law_520 : decode code 520 = .ok (.aload_n 0, 1) := by decide +kernel
theorem dL_law_521 : decode code 521 = .ok (.iload_n 3, 1) := by decide +kernel
theorem dL_law_522 : decode code 522 = .ok (.iconst 2, 1) := by decide +kernel
theorem dL_law_523 : decode code 523 = .ok (.iadd, 1) := by decide +kernel
theorem dL_law_524 : decode code 524 = .ok (.iaload, 1) := by decide +kernel
theorem dL_law_525 : decode code 525 = .ok (.invokevirtual 57, 3) := by decide +kernel
theorem dL_law_528 : decode code 528 = .ok (.aload_n 2, 1) := by decide +kernel
theorem dL_law_529 : decode code 529 = .ok (.aload_n 0, 1) := by decide +kernel
theorem dL_law_530 : decode code 530 = .ok (.iload_n 3, 1) := by decide +kernel
theorem dL_law_531 : decode code 531 = .ok (.iconst 1, 1) := by decide +kernel
theorem dL_law_532 : decode code 532 = .ok (.iadd, 1) := by decide +kernel
theorem dL_law_533 : decode code 533 = .ok (.iaload, 1) := by decide +kernel
theorem dL_law_534 : decode code 534 = .ok (.aload_n 0, 1) := by decide +kernel
theorem dL_law_535 : decode code 535 = .ok (.iload_n 3, 1) := by decide +kernel
theorem dL_law_536 : decode code 536 = .ok (.iconst 2, 1) := by decide +kernel
theorem dL_law_537 : decode code 537 = .ok (.iadd, 1) := by decide +kernel
theorem dL_law_538 : decode code 538 = .ok (.iaload, 1) := by decide +kernel
theorem dL_law_539 : decode code 539 = .ok (.invokevirtual 60, 3) := by decide +kernel
theorem dL_law_542 : decode code 542 = .ok (.if_icmp .eq 1058, 3) := by decide +kernel
theorem dL_law_545 : decode code 545 = .ok (.iconst 0, 1) := by decide +kernel
theorem dL_law_546 : decode code 546 = .ok (.ireturn, 1) := by decide +kernel
theorem dL_law_547 : decode code 547 = .ok (.aload_n 1, 1) := by decide +kernel
theorem dL_law_548 : decode code 548 = .ok (.aload_n 0, 1) := by decide +kernel
theorem dL_law_549 : decode code 549 = .ok (.iload_n 3, 1) := by decide +kernel
theorem dL_law_550 : decode code 550 = .ok (.iconst 1, 1) := by decide +kernel
theorem dL_law_551 : decode code 551 = .ok (.iadd, 1) := by decide +kernel
theorem dL_law_552 : decode code 552 = .ok (.iaload, 1) := by decide +kernel
theorem dL_law_553 : decode code 553 = .ok (.aload_n 0, 1) := by decide +kernel
theorem dL_law_554 : decode code 554 = .ok (.iload_n 3, 1) := by decide +kernel
theorem dL_law_555 : decode code 555 = .ok (.iconst 2, 1) := by decide +kernel
theorem dL_law_556 : decode code 556 = .ok (.iadd, 1) := by decide +kernel
theorem dL_law_557 : decode code 557 = .ok (.iaload, 1) := by decide +kernel
theorem dL_law_558 : decode code 558 = .ok (.invokevirtual 61, 3) := by decide +kernel
theorem dL_law_561 : decode code 561 = .ok (.aload_n 2, 1) := by decide +kernel
theorem dL_law_562 : decode code 562 = .ok (.aload_n 0, 1) := by decide +kernel
theorem dL_law_563 : decode code 563 = .ok (.iload_n 3, 1) := by decide +kernel
theorem dL_law_564 : decode code 564 = .ok (.iconst 1, 1) := by decide +kernel
theorem dL_law_565 : decode code 565 = .ok (.iadd, 1) := by decide +kernel
theorem dL_law_566 : decode code 566 = .ok (.iaload, 1) := by decide +kernel
theorem dL_law_567 : decode code 567 = .ok (.aload_n 0, 1) := by decide +kernel
theorem dL_law_568 : decode code 568 = .ok (.iload_n 3, 1) := by decide +kernel
theorem dL_law_569 : decode code 569 = .ok (.iconst 2, 1) := by decide +kernel
theorem dL_law_570 : decode code 570 = .ok (.iadd, 1) := by decide +kernel
theorem dL_law_571 : decode code 571 = .ok (.iaload, 1) := by decide +kernel
theorem dL_law_572 : decode code 572 = .ok (.invokevirtual 64, 3) := by decide +kernel
theorem dL_law_575 : decode code 575 = .ok (.if_icmp .eq 1025, 3) := by decide +kernel
theorem dL_law_578 : decode code 578 = .ok (.iconst 0, 1) := by decide +kernel
theorem dL_law_579 : decode code 579 = .ok (.ireturn, 1) := by decide +kernel
theorem dL_law_580 : decode code 580 = .ok (.aload_n 1, 1) := by decide +kernel
theorem dL_law_581 : decode code 581 = .ok (.aload_n 0, 1) := by decide +kernel
theorem dL_law_582 : decode code 582 = .ok (.iload_n 3, 1) := by decide +kernel
theorem dL_law_583 : decode code 583 = .ok (.iconst 1, 1) := by decide +kernel
theorem dL_law_584 : decode code 584 = .ok (.iadd, 1) := by decide +kernel
theorem dL_law_585 : decode code 585 = .ok (.iaload, 1) := by decide +kernel
theorem dL_law_586 : decode code 586 = .ok (.invokevirtual 65, 3) := by decide +kernel
theorem dL_law_589 : decode code 589 = .ok (.aload_n 2, 1) := by decide +kernel
theorem dL_law_590 : decode code 590 = .ok (.aload_n 0, 1) := by decide +kernel
theorem dL_law_591 : decode code 591 = .ok (.iload_n 3, 1) := by decide +kernel
theorem dL_law_592 : decode code 592 = .ok (.iconst 1, 1) := by decide +kernel
theorem dL_law_593 : decode code 593 = .ok (.iadd, 1) := by decide +kernel
theorem dL_law_594 : decode code 594 = .ok (.iaload, 1) := by decide +kernel
theorem dL_law_595 : decode code 595 = .ok (.invokevirtual 68, 3) := by decide +kernel
theorem dL_law_598 : decode code 598 = .ok (.if_icmp .eq 1002, 3) := by decide +kernel
theorem dL_law_601 : decode code 601 = .ok (.iconst 0, 1) := by decide +kernel
theorem dL_law_602 : decode code 602 = .ok (.ireturn, 1) := by decide +kernel
theorem dL_law_603 : decode code 603 = .ok (.aload_n 1, 1) := by decide +kernel
theorem dL_law_604 : decode code 604 = .ok (.aload_n 0, 1) := by decide +kernel
theorem dL_law_605 : decode code 605 = .ok (.iload_n 3, 1) := by decide +kernel
theorem dL_law_606 : decode code 606 = .ok (.iconst 1, 1) := by decide +kernel
theorem dL_law_607 : decode code 607 = .ok (.iadd, 1) := by decide +kernel
theorem dL_law_608 : decode code 608 = .ok (.iaload, 1) := by decide +kernel
theorem dL_law_609 : decode code 609 = .ok (.aload_n 0, 1) := by decide +kernel
theorem dL_law_610 : decode code 610 = .ok (.iload_n 3, 1) := by decide +kernel
theorem dL_law_611 : decode code 611 = .ok (.iconst 2, 1) := by decide +kernel
theorem dL_law_612 : decode code 612 = .ok (.iadd, 1) := by decide +kernel
theorem dL_law_613 : decode code 613 = .ok (.iaload, 1) := by decide +kernel
theorem dL_law_614 : decode code 614 = .ok (.invokevirtual 69, 3) := by decide +kernel
theorem dL_law_617 : decode code 617 = .ok (.aload_n 2, 1) := by decide +kernel
theorem dL_law_618 : decode code 618 = .ok (.aload_n 0, 1) := by decide +kernel
theorem dL_law_619 : decode code 619 = .ok (.iload_n 3, 1) := by decide +kernel
theorem dL_law_620 : decode code 620 = .ok (.iconst 1, 1) := by decide +kernel
theorem dL_law_621 : decode code 621 = .ok (.iadd, 1) := by decide +kernel
theorem dL_law_622 : decode code 622 = .ok (.iaload, 1) := by decide +kernel
theorem dL_law_623 : decode code 623 = .ok (.aload_n 0, 1) := by decide +kernel
theorem dL_law_624 : decode code 624 = .ok (.iload_n 3, 1) := by decide +kernel
theorem dL_law_625 : decode code 625 = .ok (.iconst 2, 1) := by decide +kernel
theorem dL_law_626 : decode code 626 = .ok (.iadd, 1) := by decide +kernel
theorem dL_law_627 : decode code 627 = .ok (.iaload, 1) := by decide +kernel
theorem dL_law_628 : decode code 628 = .ok (.invokevirtual 72, 3) := by decide +kernel
theorem dL_law_631 : decode code 631 = .ok (.if_icmp .eq 969, 3) := by decide +kernel
theorem dL_law_634 : decode code 634 = .ok (.iconst 0, 1) := by decide +kernel
theorem dL_law_635 : decode code 635 = .ok (.ireturn, 1) := by decide +kernel
theorem dL_law_636 : decode code 636 = .ok (.aload_n 1, 1) := by decide +kernel
theorem dL_law_637 : decode code 637 = .ok (.aload_n 0, 1) := by decide +kernel
theorem dL_law_638 : decode code 638 = .ok (.iload_n 3, 1) := by decide +kernel
theorem dL_law_639 : decode code 639 = .ok (.iconst 1, 1) := by decide +kernel
theorem dL_law_640 : decode code 640 = .ok (.iadd, 1) := by decide +kernel
theorem dL_law_641 : decode code 641 = .ok (.iaload, 1) := by decide +kernel
theorem dL_law_642 : decode code 642 = .ok (.invokevirtual 73, 3) := by decide +kernel
theorem dL_law_645 : decode code 645 = .ok (.aload_n 2, 1) := by decide +kernel
theorem dL_law_646 : decode code 646 = .ok (.aload_n 0, 1) := by decide +kernel
theorem dL_law_647 : decode code 647 = .ok (.iload_n 3, 1) := by decide +kernel
theorem dL_law_648 : decode code 648 = .ok (.iconst 1, 1) := by decide +kernel
theorem dL_law_649 : decode code 649 = .ok (.iadd, 1) := by decide +kernel
theorem dL_law_650 : decode code 650 = .ok (.iaload, 1) := by decide +kernel
theorem dL_law_651 : decode code 651 = .ok (.invokevirtual 76, 3) := by decide +kernel
theorem dL_law_654 : decode code 654 = .ok (.if_icmp .eq 946, 3) := by decide +kernel
theorem dL_law_657 : decode code 657 = .ok (.iconst 0, 1) := by decide +kernel
theorem dL_law_658 : decode code 658 = .ok (.ireturn, 1) := by decide +kernel
theorem dL_law_659 : decode code 659 = .ok (.aload_n 1, 1) := by decide +kernel
theorem dL_law_660 : decode code 660 = .ok (.aload_n 0, 1) := by decide +kernel
theorem dL_law_661 : decode code 661 = .ok (.iload_n 3, 1) := by decide +kernel
theorem dL_law_662 : decode code 662 = .ok (.iconst 1, 1) := by decide +kernel
theorem dL_law_663 : decode code 663 = .ok (.iadd, 1) := by decide +kernel
theorem dL_law_664 : decode code 664 = .ok (.iaload, 1) := by decide +kernel
theorem dL_law_665 : decode code 665 = .ok (.aload_n 0, 1) := by decide +kernel
theorem dL_law_666 : decode code 666 = .ok (.iload_n 3, 1) := by decide +kernel
theorem dL_law_667 : decode code 667 = .ok (.iconst 2, 1) := by decide +kernel
theorem dL_law_668 : decode code 668 = .ok (.iadd, 1) := by decide +kernel
theorem dL_law_669 : decode code 669 = .ok (.iaload, 1) := by decide +kernel
theorem dL_law_670 : decode code 670 = .ok (.invokevirtual 77, 3) := by decide +kernel
theorem dL_law_673 : decode code 673 = .ok (.aload_n 2, 1) := by decide +kernel
theorem dL_law_674 : decode code 674 = .ok (.aload_n 0, 1) := by decide +kernel
theorem dL_law_675 : decode code 675 = .ok (.iload_n 3, 1) := by decide +kernel
theorem dL_law_676 : decode code 676 = .ok (.iconst 1, 1) := by decide +kernel
theorem dL_law_677 : decode code 677 = .ok (.iadd, 1) := by decide +kernel
theorem dL_law_678 : decode code 678 = .ok (.iaload, 1) := by decide +kernel
theorem dL_law_679 : decode code 679 = .ok (.aload_n 0, 1) := by decide +kernel
theorem dL_law_680 : decode code 680 = .ok (.iload_n 3, 1) := by decide +kernel
theorem dL_law_681 : decode code 681 = .ok (.iconst 2, 1) := by decide +kernel
theorem dL_law_682 : decode code 682 = .ok (.iadd, 1) := by decide +kernel
theorem dL_law_683 : decode code 683 = .ok (.iaload, 1) := by decide +kernel
theorem dL_law_684 : decode code 684 = .ok (.invokevirtual 80, 3) := by decide +kernel
theorem dL_law_687 : decode code 687 = .ok (.if_icmp .eq 913, 3) := by decide +kernel
theorem dL_law_690 : decode code 690 = .ok (.iconst 0, 1) := by decide +kernel
theorem dL_law_691 : decode code 691 = .ok (.ireturn, 1) := by decide +kernel
theorem dL_law_692 : decode code 692 = .ok (.aload_n 1, 1) := by decide +kernel
theorem dL_law_693 : decode code 693 = .ok (.aload_n 0, 1) := by decide +kernel
theorem dL_law_694 : decode code 694 = .ok (.iload_n 3, 1) := by decide +kernel
theorem dL_law_695 : decode code 695 = .ok (.iconst 1, 1) := by decide +kernel
theorem dL_law_696 : decode code 696 = .ok (.iadd, 1) := by decide +kernel
theorem dL_law_697 : decode code 697 = .ok (.iaload, 1) := by decide +kernel
theorem dL_law_698 : decode code 698 = .ok (.aload_n 0, 1) := by decide +kernel
theorem dL_law_699 : decode code 699 = .ok (.iload_n 3, 1) := by decide +kernel
theorem dL_law_700 : decode code 700 = .ok (.iconst 2, 1) := by decide +kernel
theorem dL_law_701 : decode code 701 = .ok (.iadd, 1) := by decide +kernel
theorem dL_law_702 : decode code 702 = .ok (.iaload, 1) := by decide +kernel
theorem dL_law_703 : decode code 703 = .ok (.invokevirtual 81, 3) := by decide +kernel
theorem dL_law_706 : decode code 706 = .ok (.aload_n 2, 1) := by decide +kernel
theorem dL_law_707 : decode code 707 = .ok (.aload_n 0, 1) := by decide +kernel
theorem dL_law_708 : decode code 708 = .ok (.iload_n 3, 1) := by decide +kernel
theorem dL_law_709 : decode code 709 = .ok (.iconst 1, 1) := by decide +kernel
theorem dL_law_710 : decode code 710 = .ok (.iadd, 1) := by decide +kernel
theorem dL_law_711 : decode code 711 = .ok (.iaload, 1) := by decide +kernel
theorem dL_law_712 : decode code 712 = .ok (.aload_n 0, 1) := by decide +kernel
theorem dL_law_713 : decode code 713 = .ok (.iload_n 3, 1) := by decide +kernel
theorem dL_law_714 : decode code 714 = .ok (.iconst 2, 1) := by decide +kernel
theorem dL_law_715 : decode code 715 = .ok (.iadd, 1) := by decide +kernel
theorem dL_law_716 : decode code 716 = .ok (.iaload, 1) := by decide +kernel
theorem dL_law_717 : decode code 717 = .ok (.invokevirtual 84, 3) := by decide +kernel
theorem dL_law_720 : decode code 720 = .ok (.if_icmp .eq 880, 3) := by decide +kernel
theorem dL_law_723 : decode code 723 = .ok (.iconst 0, 1) := by decide +kernel
theorem dL_law_724 : decode code 724 = .ok (.ireturn, 1) := by decide +kernel
theorem dL_law_725 : decode code 725 = .ok (.aload_n 1, 1) := by decide +kernel
theorem dL_law_726 : decode code 726 = .ok (.aload_n 0, 1) := by decide +kernel
theorem dL_law_727 : decode code 727 = .ok (.iload_n 3, 1) := by decide +kernel
theorem dL_law_728 : decode code 728 = .ok (.iconst 1, 1) := by decide +kernel
theorem dL_law_729 : decode code 729 = .ok (.iadd, 1) := by decide +kernel
theorem dL_law_730 : decode code 730 = .ok (.iaload, 1) := by decide +kernel
theorem dL_law_731 : decode code 731 = .ok (.aload_n 0, 1) := by decide +kernel
theorem dL_law_732 : decode code 732 = .ok (.iload_n 3, 1) := by decide +kernel
theorem dL_law_733 : decode code 733 = .ok (.iconst 2, 1) := by decide +kernel
theorem dL_law_734 : decode code 734 = .ok (.iadd, 1) := by decide +kernel
theorem dL_law_735 : decode code 735 = .ok (.iaload, 1) := by decide +kernel
theorem dL_law_736 : decode code 736 = .ok (.aload_n 0, 1) := by decide +kernel
theorem dL_law_737 : decode code 737 = .ok (.iload_n 3, 1) := by decide +kernel
theorem dL_law_738 : decode code 738 = .ok (.iconst 3, 1) := by decide +kernel
theorem dL_law_739 : decode code 739 = .ok (.iadd, 1) := by decide +kernel
theorem dL_law_740 : decode code 740 = .ok (.iaload, 1) := by decide +kernel
theorem dL_law_741 : decode code 741 = .ok (.invokevirtual 85, 3) := by decide +kernel
theorem dL_law_744 : decode code 744 = .ok (.aload_n 2, 1) := by decide +kernel
theorem dL_law_745 : decode code 745 = .ok (.aload_n 0, 1) := by decide +kernel
theorem dL_law_746 : decode code 746 = .ok (.iload_n 3, 1) := by decide +kernel
theorem dL_law_747 : decode code 747 = .ok (.iconst 1, 1) := by decide +kernel
theorem dL_law_748 : decode code 748 = .ok (.iadd, 1) := by decide +kernel
theorem dL_law_749 : decode code 749 = .ok (.iaload, 1) := by decide +kernel
theorem dL_law_750 : decode code 750 = .ok (.aload_n 0, 1) := by decide +kernel
theorem dL_law_751 : decode code 751 = .ok (.iload_n 3, 1) := by decide +kernel
theorem dL_law_752 : decode code 752 = .ok (.iconst 2, 1) := by decide +kernel
theorem dL_law_753 : decode code 753 = .ok (.iadd, 1) := by decide +kernel
theorem dL_law_754 : decode code 754 = .ok (.iaload, 1) := by decide +kernel
theorem dL_law_755 : decode code 755 = .ok (.aload_n 0, 1) := by decide +kernel
theorem dL_law_756 : decode code 756 = .ok (.iload_n 3, 1) := by decide +kernel
theorem dL_law_757 : decode code 757 = .ok (.iconst 3, 1) := by decide +kernel
theorem dL_law_758 : decode code 758 = .ok (.iadd, 1) := by decide +kernel
theorem dL_law_759 : decode code 759 = .ok (.iaload, 1) := by decide +kernel
theorem dL_law_760 : decode code 760 = .ok (.invokevirtual 89, 3) := by decide +kernel
theorem dL_law_763 : decode code 763 = .ok (.if_icmp .eq 837, 3) := by decide +kernel
theorem dL_law_766 : decode code 766 = .ok (.iconst 0, 1) := by decide +kernel
theorem dL_law_767 : decode code 767 = .ok (.ireturn, 1) := by decide +kernel
theorem dL_law_768 : decode code 768 = .ok (.aload_n 1, 1) := by decide +kernel
theorem dL_law_769 : decode code 769 = .ok (.aload_n 0, 1) := by decide +kernel
theorem dL_law_770 : decode code 770 = .ok (.iload_n 3, 1) := by decide +kernel
theorem dL_law_771 : decode code 771 = .ok (.iconst 1, 1) := by decide +kernel
theorem dL_law_772 : decode code 772 = .ok (.iadd, 1) := by decide +kernel
theorem dL_law_773 : decode code 773 = .ok (.iaload, 1) := by decide +kernel
theorem dL_law_774 : decode code 774 = .ok (.aload_n 0, 1) := by decide +kernel
theorem dL_law_775 : decode code 775 = .ok (.iload_n 3, 1) := by decide +kernel
theorem dL_law_776 : decode code 776 = .ok (.iconst 2, 1) := by decide +kernel
theorem dL_law_777 : decode code 777 = .ok (.iadd, 1) := by decide +kernel
theorem dL_law_778 : decode code 778 = .ok (.iaload, 1) := by decide +kernel
theorem dL_law_779 : decode code 779 = .ok (.invokevirtual 90, 3) := by decide +kernel
theorem dL_law_782 : decode code 782 = .ok (.aload_n 2, 1) := by decide +kernel
theorem dL_law_783 : decode code 783 = .ok (.aload_n 0, 1) := by decide +kernel
theorem dL_law_784 : decode code 784 = .ok (.iload_n 3, 1) := by decide +kernel
theorem dL_law_785 : decode code 785 = .ok (.iconst 1, 1) := by decide +kernel
theorem dL_law_786 : decode code 786 = .ok (.iadd, 1) := by decide +kernel
theorem dL_law_787 : decode code 787 = .ok (.iaload, 1) := by decide +kernel
theorem dL_law_788 : decode code 788 = .ok (.aload_n 0, 1) := by decide +kernel
theorem dL_law_789 : decode code 789 = .ok (.iload_n 3, 1) := by decide +kernel
theorem dL_law_790 : decode code 790 = .ok (.iconst 2, 1) := by decide +kernel
theorem dL_law_791 : decode code 791 = .ok (.iadd, 1) := by decide +kernel
theorem dL_law_792 : decode code 792 = .ok (.iaload, 1) := by decide +kernel
theorem dL_law_793 : decode code 793 = .ok (.invokevirtual 93, 3) := by decide +kernel
theorem dL_law_796 : decode code 796 = .ok (.if_icmp .eq 804, 3) := by decide +kernel
theorem dL_law_799 : decode code 799 = .ok (.iconst 0, 1) := by decide +kernel
theorem dL_law_800 : decode code 800 = .ok (.ireturn, 1) := by decide +kernel
theorem dL_law_801 : decode code 801 = .ok (.aload_n 1, 1) := by decide +kernel
theorem dL_law_802 : decode code 802 = .ok (.aload_n 0, 1) := by decide +kernel
theorem dL_law_803 : decode code 803 = .ok (.iload_n 3, 1) := by decide +kernel
theorem dL_law_804 : decode code 804 = .ok (.iconst 1, 1) := by decide +kernel
theorem dL_law_805 : decode code 805 = .ok (.iadd, 1) := by decide +kernel
theorem dL_law_806 : decode code 806 = .ok (.iaload, 1) := by decide +kernel
theorem dL_law_807 : decode code 807 = .ok (.aload_n 0, 1) := by decide +kernel
theorem dL_law_808 : decode code 808 = .ok (.iload_n 3, 1) := by decide +kernel
theorem dL_law_809 : decode code 809 = .ok (.iconst 2, 1) := by decide +kernel
theorem dL_law_810 : decode code 810 = .ok (.iadd, 1) := by decide +kernel
theorem dL_law_811 : decode code 811 = .ok (.iaload, 1) := by decide +kernel
theorem dL_law_812 : decode code 812 = .ok (.aload_n 0, 1) := by decide +kernel
theorem dL_law_813 : decode code 813 = .ok (.iload_n 3, 1) := by decide +kernel
theorem dL_law_814 : decode code 814 = .ok (.iconst 3, 1) := by decide +kernel
theorem dL_law_815 : decode code 815 = .ok (.iadd, 1) := by decide +kernel
theorem dL_law_816 : decode code 816 = .ok (.iaload, 1) := by decide +kernel
theorem dL_law_817 : decode code 817 = .ok (.invokevirtual 94, 3) := by decide +kernel
theorem dL_law_820 : decode code 820 = .ok (.aload_n 2, 1) := by decide +kernel
theorem dL_law_821 : decode code 821 = .ok (.aload_n 0, 1) := by decide +kernel
theorem dL_law_822 : decode code 822 = .ok (.iload_n 3, 1) := by decide +kernel
theorem dL_law_823 : decode code 823 = .ok (.iconst 1, 1) := by decide +kernel
theorem dL_law_824 : decode code 824 = .ok (.iadd, 1) := by decide +kernel
theorem dL_law_825 : decode code 825 = .ok (.iaload, 1) := by decide +kernel
theorem dL_law_826 : decode code 826 = .ok (.aload_n 0, 1) := by decide +kernel
theorem dL_law_827 : decode code 827 = .ok (.iload_n 3, 1) := by decide +kernel
theorem dL_law_828 : decode code 828 = .ok (.iconst 2, 1) := by decide +kernel
theorem dL_law_829 : decode code 829 = .ok (.iadd, 1) := by decide +kernel
theorem dL_law_830 : decode code 830 = .ok (.iaload, 1) := by decide +kernel
theorem dL_law_831 : decode code 831 = .ok (.aload_n 0, 1) := by decide +kernel
theorem dL_law_832 : decode code 832 = .ok (.iload_n 3, 1) := by decide +kernel
theorem dL_law_833 : decode code 833 = .ok (.iconst 3, 1) := by decide +kernel
theorem dL_law_834 : decode code 834 = .ok (.iadd, 1) := by decide +kernel
theorem dL_law_835 : decode code 835 = .ok (.iaload, 1) := by decide +kernel
theorem dL_law_836 : decode code 836 = .ok (.invokevirtual 97, 3) := by decide +kernel
theorem dL_law_839 : decode code 839 = .ok (.if_icmp .eq 761, 3) := by decide +kernel
theorem dL_law_842 : decode code 842 = .ok (.iconst 0, 1) := by decide +kernel
theorem dL_law_843 : decode code 843 = .ok (.ireturn, 1) := by decide +kernel
theorem dL_law_844 : decode code 844 = .ok (.aload_n 1, 1) := by decide +kernel
theorem dL_law_845 : decode code 845 = .ok (.aload_n 0, 1) := by decide +kernel
theorem dL_law_846 : decode code 846 = .ok (.iload_n 3, 1) := by decide +kernel
theorem dL_law_847 : decode code 847 = .ok (.iconst 1, 1) := by decide +kernel
theorem dL_law_848 : decode code 848 = .ok (.iadd, 1) := by decide +kernel
theorem dL_law_849 : decode code 849 = .ok (.iaload, 1) := by decide +kernel
theorem dL_law_850 : decode code 850 = .ok (.aload_n 0, 1) := by decide +kernel
theorem dL_law_851 : decode code 851 = .ok (.iload_n 3, 1) := by decide +kernel
theorem dL_law_852 : decode code 852 = .ok (.iconst 2, 1) := by decide +kernel
theorem dL_law_853 : decode code 853 = .ok (.iadd, 1) := by decide +kernel
theorem dL_law_854 : decode code 854 = .ok (.iaload, 1) := by decide +kernel
theorem dL_law_855 : decode code 855 = .ok (.invokevirtual 98, 3) := by decide +kernel
theorem dL_law_858 : decode code 858 = .ok (.aload_n 2, 1) := by decide +kernel
theorem dL_law_859 : decode code 859 = .ok (.aload_n 0, 1) := by decide +kernel
theorem dL_law_860 : decode code 860 = .ok (.iload_n 3, 1) := by decide +kernel
theorem dL_law_861 : decode code 861 = .ok (.iconst 1, 1) := by decide +kernel
theorem dL_law_862 : decode code 862 = .ok (.iadd, 1) := by decide +kernel
theorem dL_law_863 : decode code 863 = .ok (.iaload, 1) := by decide +kernel
theorem dL_law_864 : decode code 864 = .ok (.aload_n 0, 1) := by decide +kernel
theorem dL_law_865 : decode code 865 = .ok (.iload_n 3, 1) := by decide +kernel
theorem dL_law_866 : decode code 866 = .ok (.iconst 2, 1) := by decide +kernel
theorem dL_law_867 : decode code 867 = .ok (.iadd, 1) := by decide +kernel
theorem dL_law_868 : decode code 868 = .ok (.iaload, 1) := by decide +kernel
theorem dL_law_869 : decode code 869 = .ok (.invokevirtual 102, 3) := by decide +kernel
theorem dL_law_872 : decode code 872 = .ok (.lcmp, 1) := by decide +kernel
theorem dL_law_873 : decode code 873 = .ok (.ifCond .eq 727, 3) := by decide +kernel
theorem dL_law_876 : decode code 876 = .ok (.iconst 0, 1) := by decide +kernel
theorem dL_law_877 : decode code 877 = .ok (.ireturn, 1) := by decide +kernel
theorem dL_law_878 : decode code 878 = .ok (.aload_n 1, 1) := by decide +kernel
theorem dL_law_879 : decode code 879 = .ok (.aload_n 0, 1) := by decide +kernel
theorem dL_law_880 : decode code 880 = .ok (.iload_n 3, 1) := by decide +kernel
theorem dL_law_881 : decode code 881 = .ok (.iconst 1, 1) := by decide +kernel
theorem dL_law_882 : decode code 882 = .ok (.iadd, 1) := by decide +kernel
theorem dL_law_883 : decode code 883 = .ok (.iaload, 1) := by decide +kernel
theorem dL_law_884 : decode code 884 = .ok (.invokevirtual 103, 3) := by decide +kernel
theorem dL_law_887 : decode code 887 = .ok (.aload_n 2, 1) := by decide +kernel
theorem dL_law_888 : decode code 888 = .ok (.aload_n 0, 1) := by decide +kernel
theorem dL_law_889 : decode code 889 = .ok (.iload_n 3, 1) := by decide +kernel
theorem dL_law_890 : decode code 890 = .ok (.iconst 1, 1) := by decide +kernel
theorem dL_law_891 : decode code 891 = .ok (.iadd, 1) := by decide +kernel
theorem dL_law_892 : decode code 892 = .ok (.iaload, 1) := by decide +kernel
theorem dL_law_893 : decode code 893 = .ok (.invokevirtual 106, 3) := by decide +kernel
theorem dL_law_896 : decode code 896 = .ok (.if_icmp .eq 704, 3) := by decide +kernel
theorem dL_law_899 : decode code 899 = .ok (.iconst 0, 1) := by decide +kernel
theorem dL_law_900 : decode code 900 = .ok (.ireturn, 1) := by decide +kernel
theorem dL_law_901 : decode code 901 = .ok (.aload_n 1, 1) := by decide +kernel
theorem dL_law_902 : decode code 902 = .ok (.aload_n 0, 1) := by decide +kernel
theorem dL_law_903 : decode code 903 = .ok (.iload_n 3, 1) := by decide +kernel
theorem dL_law_904 : decode code 904 = .ok (.iconst 1, 1) := by decide +kernel
theorem dL_law_905 : decode code 905 = .ok (.iadd, 1) := by decide +kernel
theorem dL_law_906 : decode code 906 = .ok (.iaload, 1) := by decide +kernel
theorem dL_law_907 : decode code 907 = .ok (.invokevirtual 107, 3) := by decide +kernel
theorem dL_law_910 : decode code 910 = .ok (.aload_n 2, 1) := by decide +kernel
theorem dL_law_911 : decode code 911 = .ok (.aload_n 0, 1) := by decide +kernel
theorem dL_law_912 : decode code 912 = .ok (.iload_n 3, 1) := by decide +kernel
theorem dL_law_913 : decode code 913 = .ok (.iconst 1, 1) := by decide +kernel
theorem dL_law_914 : decode code 914 = .ok (.iadd, 1) := by decide +kernel
theorem dL_law_915 : decode code 915 = .ok (.iaload, 1) := by decide +kernel
theorem dL_law_916 : decode code 916 = .ok (.invokevirtual 110, 3) := by decide +kernel
theorem dL_law_919 : decode code 919 = .ok (.if_icmp .eq 681, 3) := by decide +kernel
theorem dL_law_922 : decode code 922 = .ok (.iconst 0, 1) := by decide +kernel
theorem dL_law_923 : decode code 923 = .ok (.ireturn, 1) := by decide +kernel
theorem dL_law_924 : decode code 924 = .ok (.aload_n 1, 1) := by decide +kernel
theorem dL_law_925 : decode code 925 = .ok (.aload_n 0, 1) := by decide +kernel
theorem dL_law_926 : decode code 926 = .ok (.iload_n 3, 1) := by decide +kernel
theorem dL_law_927 : decode code 927 = .ok (.iconst 1, 1) := by decide +kernel
theorem dL_law_928 : decode code 928 = .ok (.iadd, 1) := by decide +kernel
theorem dL_law_929 : decode code 929 = .ok (.iaload, 1) := by decide +kernel
theorem dL_law_930 : decode code 930 = .ok (.invokevirtual 111, 3) := by decide +kernel
theorem dL_law_933 : decode code 933 = .ok (.aload_n 2, 1) := by decide +kernel
theorem dL_law_934 : decode code 934 = .ok (.aload_n 0, 1) := by decide +kernel
theorem dL_law_935 : decode code 935 = .ok (.iload_n 3, 1) := by decide +kernel
theorem dL_law_936 : decode code 936 = .ok (.iconst 1, 1) := by decide +kernel
theorem dL_law_937 : decode code 937 = .ok (.iadd, 1) := by decide +kernel
theorem dL_law_938 : decode code 938 = .ok (.iaload, 1) := by decide +kernel
theorem dL_law_939 : decode code 939 = .ok (.invokevirtual 114, 3) := by decide +kernel
theorem dL_law_942 : decode code 942 = .ok (.if_icmp .eq 658, 3) := by decide +kernel
theorem dL_law_945 : decode code 945 = .ok (.iconst 0, 1) := by decide +kernel
theorem dL_law_946 : decode code 946 = .ok (.ireturn, 1) := by decide +kernel
theorem dL_law_947 : decode code 947 = .ok (.aload_n 1, 1) := by decide +kernel
theorem dL_law_948 : decode code 948 = .ok (.aload_n 0, 1) := by decide +kernel
theorem dL_law_949 : decode code 949 = .ok (.iload_n 3, 1) := by decide +kernel
theorem dL_law_950 : decode code 950 = .ok (.iconst 1, 1) := by decide +kernel
theorem dL_law_951 : decode code 951 = .ok (.iadd, 1) := by decide +kernel
theorem dL_law_952 : decode code 952 = .ok (.iaload, 1) := by decide +kernel
theorem dL_law_953 : decode code 953 = .ok (.invokevirtual 115, 3) := by decide +kernel
theorem dL_law_956 : decode code 956 = .ok (.aload_n 2, 1) := by decide +kernel
theorem dL_law_957 : decode code 957 = .ok (.aload_n 0, 1) := by decide +kernel
theorem dL_law_958 : decode code 958 = .ok (.iload_n 3, 1) := by decide +kernel
theorem dL_law_959 : decode code 959 = .ok (.iconst 1, 1) := by decide +kernel
theorem dL_law_960 : decode code 960 = .ok (.iadd, 1) := by decide +kernel
theorem dL_law_961 : decode code 961 = .ok (.iaload, 1) := by decide +kernel
theorem dL_law_962 : decode code 962 = .ok (.invokevirtual 118, 3) := by decide +kernel
theorem dL_law_965 : decode code 965 = .ok (.if_icmp .eq 635, 3) := by decide +kernel
theorem dL_law_968 : decode code 968 = .ok (.iconst 0, 1) := by decide +kernel
theorem dL_law_969 : decode code 969 = .ok (.ireturn, 1) := by decide +kernel
theorem dL_law_970 : decode code 970 = .ok (.aload_n 1, 1) := by decide +kernel
theorem dL_law_971 : decode code 971 = .ok (.aload_n 0, 1) := by decide +kernel
theorem dL_law_972 : decode code 972 = .ok (.iload_n 3, 1) := by decide +kernel
theorem dL_law_973 : decode code 973 = .ok (.iconst 1, 1) := by decide +kernel
theorem dL_law_974 : decode code 974 = .ok (.iadd, 1) := by decide +kernel
theorem dL_law_975 : decode code 975 = .ok (.iaload, 1) := by decide +kernel
theorem dL_law_976 : decode code 976 = .ok (.invokevirtual 119, 3) := by decide +kernel
theorem dL_law_979 : decode code 979 = .ok (.aload_n 2, 1) := by decide +kernel
theorem dL_law_980 : decode code 980 = .ok (.aload_n 0, 1) := by decide +kernel
theorem dL_law_981 : decode code 981 = .ok (.iload_n 3, 1) := by decide +kernel
theorem dL_law_982 : decode code 982 = .ok (.iconst 1, 1) := by decide +kernel
theorem dL_law_983 : decode code 983 = .ok (.iadd, 1) := by decide +kernel
theorem dL_law_984 : decode code 984 = .ok (.iaload, 1) := by decide +kernel
theorem dL_law_985 : decode code 985 = .ok (.invokevirtual 122, 3) := by decide +kernel
theorem dL_law_988 : decode code 988 = .ok (.if_icmp .eq 612, 3) := by decide +kernel
theorem dL_law_991 : decode code 991 = .ok (.iconst 0, 1) := by decide +kernel
theorem dL_law_992 : decode code 992 = .ok (.ireturn, 1) := by decide +kernel
theorem dL_law_993 : decode code 993 = .ok (.aload_n 1, 1) := by decide +kernel
theorem dL_law_994 : decode code 994 = .ok (.aload_n 0, 1) := by decide +kernel
theorem dL_law_995 : decode code 995 = .ok (.iload_n 3, 1) := by decide +kernel
theorem dL_law_996 : decode code 996 = .ok (.iconst 1, 1) := by decide +kernel
theorem dL_law_997 : decode code 997 = .ok (.iadd, 1) := by decide +kernel
theorem dL_law_998 : decode code 998 = .ok (.iaload, 1) := by decide +kernel
theorem dL_law_999 : decode code 999 = .ok (.invokevirtual 123, 3) := by decide +kernel
theorem dL_law_1002 : decode code 1002 = .ok (.aload_n 2, 1) := by decide +kernel
theorem dL_law_1003 : decode code 1003 = .ok (.aload_n 0, 1) := by decide +kernel
theorem dL_law_1004 : decode code 1004 = .ok (.iload_n 3, 1) := by decide +kernel
theorem dL_law_1005 : decode code 1005 = .ok (.iconst 1, 1) := by decide +kernel
theorem dL_law_1006 : decode code 1006 = .ok (.iadd, 1) := by decide +kernel
theorem dL_law_1007 : decode code 1007 = .ok (.iaload, 1) := by decide +kernel
theorem dL_law_1008 : decode code 1008 = .ok (.invokevirtual 126, 3) := by decide +kernel
theorem dL_law_1011 : decode code 1011 = .ok (.if_icmp .eq 589, 3) := by decide +kernel
theorem dL_law_1014 : decode code 1014 = .ok (.iconst 0, 1) := by decide +kernel
theorem dL_law_1015 : decode code 1015 = .ok (.ireturn, 1) := by decide +kernel
theorem dL_law_1016 : decode code 1016 = .ok (.aload_n 1, 1) := by decide +kernel
theorem dL_law_1017 : decode code 1017 = .ok (.aload_n 0, 1) := by decide +kernel
theorem dL_law_1018 : decode code 1018 = .ok (.iload_n 3, 1) := by decide +kernel
theorem dL_law_1019 : decode code 1019 = .ok (.iconst 1, 1) := by decide +kernel
theorem dL_law_1020 : decode code 1020 = .ok (.iadd, 1) := by decide +kernel
theorem dL_law_1021 : decode code 1021 = .ok (.iaload, 1) := by decide +kernel
theorem dL_law_1022 : decode code 1022 = .ok (.invokevirtual 127, 3) := by decide +kernel
theorem dL_law_1025 : decode code 1025 = .ok (.aload_n 2, 1) := by decide +kernel
theorem dL_law_1026 : decode code 1026 = .ok (.aload_n 0, 1) := by decide +kernel
theorem dL_law_1027 : decode code 1027 = .ok (.iload_n 3, 1) := by decide +kernel
theorem dL_law_1028 : decode code 1028 = .ok (.iconst 1, 1) := by decide +kernel
theorem dL_law_1029 : decode code 1029 = .ok (.iadd, 1) := by decide +kernel
theorem dL_law_1030 : decode code 1030 = .ok (.iaload, 1) := by decide +kernel
theorem dL_law_1031 : decode code 1031 = .ok (.invokevirtual 130, 3) := by decide +kernel
theorem dL_law_1034 : decode code 1034 = .ok (.if_icmp .eq 566, 3) := by decide +kernel
theorem dL_law_1037 : decode code 1037 = .ok (.iconst 0, 1) := by decide +kernel
theorem dL_law_1038 : decode code 1038 = .ok (.ireturn, 1) := by decide +kernel
theorem dL_law_1039 : decode code 1039 = .ok (.aload_n 1, 1) := by decide +kernel
theorem dL_law_1040 : decode code 1040 = .ok (.aload_n 0, 1) := by decide +kernel
theorem dL_law_1041 : decode code 1041 = .ok (.iload_n 3, 1) := by decide +kernel
theorem dL_law_1042 : decode code 1042 = .ok (.iconst 1, 1) := by decide +kernel
theorem dL_law_1043 : decode code 1043 = .ok (.iadd, 1) := by decide +kernel
theorem dL_law_1044 : decode code 1044 = .ok (.iaload, 1) := by decide +kernel
theorem dL_law_1045 : decode code 1045 = .ok (.invokevirtual 131, 3) := by decide +kernel
theorem dL_law_1048 : decode code 1048 = .ok (.aload_n 2, 1) := by decide +kernel
theorem dL_law_1049 : decode code 1049 = .ok (.aload_n 0, 1) := by decide +kernel
theorem dL_law_1050 : decode code 1050 = .ok (.iload_n 3, 1) := by decide +kernel
theorem dL_law_1051 : decode code 1051 = .ok (.iconst 1, 1) := by decide +kernel
theorem dL_law_1052 : decode code 1052 = .ok (.iadd, 1) := by decide +kernel
theorem dL_law_1053 : decode code 1053 = .ok (.iaload, 1) := by decide +kernel
theorem dL_law_1054 : decode code 1054 = .ok (.invokevirtual 135, 3) := by decide +kernel
theorem dL_law_1057 : decode code 1057 = .ok (.lcmp, 1) := by decide +kernel
theorem dL_law_1058 : decode code 1058 = .ok (.ifCond .eq 542, 3) := by decide +kernel
theorem dL_law_1061 : decode code 1061 = .ok (.iconst 0, 1) := by decide +kernel
theorem dL_law_1062 : decode code 1062 = .ok (.ireturn, 1) := by decide +kernel
theorem dL_law_1063 : decode code 1063 = .ok (.aload_n 1, 1) := by decide +kernel
theorem dL_law_1064 : decode code 1064 = .ok (.aload_n 0, 1) := by decide +kernel
theorem dL_law_1065 : decode code 1065 = .ok (.iload_n 3, 1) := by decide +kernel
theorem dL_law_1066 : decode code 1066 = .ok (.iconst 1, 1) := by decide +kernel
theorem dL_law_1067 : decode code 1067 = .ok (.iadd, 1) := by decide +kernel
theorem dL_law_1068 : decode code 1068 = .ok (.iaload, 1) := by decide +kernel
theorem dL_law_1069 : decode code 1069 = .ok (.aload_n 0, 1) := by decide +kernel
theorem dL_law_1070 : decode code 1070 = .ok (.iload_n 3, 1) := by decide +kernel
theorem dL_law_1071 : decode code 1071 = .ok (.iconst 2, 1) := by decide +kernel
theorem dL_law_1072 : decode code 1072 = .ok (.iadd, 1) := by decide +kernel
theorem dL_law_1073 : decode code 1073 = .ok (.iaload, 1) := by decide +kernel
theorem dL_law_1074 : decode code 1074 = .ok (.invokevirtual 136, 3) := by decide +kernel
theorem dL_law_1077 : decode code 1077 = .ok (.aload_n 2, 1) := by decide +kernel
theorem dL_law_1078 : decode code 1078 = .ok (.aload_n 0, 1) := by decide +kernel
theorem dL_law_1079 : decode code 1079 = .ok (.iload_n 3, 1) := by decide +kernel
theorem dL_law_1080 : decode code 1080 = .ok (.iconst 1, 1) := by decide +kernel
theorem dL_law_1081 : decode code 1081 = .ok (.iadd, 1) := by decide +kernel
theorem dL_law_1082 : decode code 1082 = .ok (.iaload, 1) := by decide +kernel
theorem dL_law_1083 : decode code 1083 = .ok (.aload_n 0, 1) := by decide +kernel
theorem dL_law_1084 : decode code 1084 = .ok (.iload_n 3, 1) := by decide +kernel
theorem dL_law_1085 : decode code 1085 = .ok (.iconst 2, 1) := by decide +kernel
theorem dL_law_1086 : decode code 1086 = .ok (.iadd, 1) := by decide +kernel
theorem dL_law_1087 : decode code 1087 = .ok (.iaload, 1) := by decide +kernel
theorem dL_law_1088 : decode code 1088 = .ok (.invokevirtual 139, 3) := by decide +kernel
theorem dL_law_1091 : decode code 1091 = .ok (.if_icmp .eq 509, 3) := by decide +kernel
theorem dL_law_1094 : decode code 1094 = .ok (.iconst 0, 1) := by decide +kernel
theorem dL_law_1095 : decode code 1095 = .ok (.ireturn, 1) := by decide +kernel
theorem dL_law_1096 : decode code 1096 = .ok (.aload_n 1, 1) := by decide +kernel
theorem dL_law_1097 : decode code 1097 = .ok (.aload_n 0, 1) := by decide +kernel
theorem dL_law_1098 : decode code 1098 = .ok (.iload_n 3, 1) := by decide +kernel
theorem dL_law_1099 : decode code 1099 = .ok (.iconst 1, 1) := by decide +kernel
theorem dL_law_1100 : decode code 1100 = .ok (.iadd, 1) := by decide +kernel
theorem dL_law_1101 : decode code 1101 = .ok (.iaload, 1) := by decide +kernel
theorem dL_law_1102 : decode code 1102 = .ok (.invokevirtual 140, 3) := by decide +kernel
theorem dL_law_1105 : decode code 1105 = .ok (.aload_n 2, 1) := by decide +kernel
theorem dL_law_1106 : decode code 1106 = .ok (.aload_n 0, 1) := by decide +kernel
theorem dL_law_1107 : decode code 1107 = .ok (.iload_n 3, 1) := by decide +kernel
theorem dL_law_1108 : decode code 1108 = .ok (.iconst 1, 1) := by decide +kernel
theorem dL_law_1109 : decode code 1109 = .ok (.iadd, 1) := by decide +kernel
theorem dL_law_1110 : decode code 1110 = .ok (.iaload, 1) := by decide +kernel
theorem dL_law_1111 : decode code 1111 = .ok (.invokevirtual 143, 3) := by decide +kernel
theorem dL_law_1114 : decode code 1114 = .ok (.if_icmp .eq 486, 3) := by decide +kernel
theorem dL_law_1117 : decode code 1117 = .ok (.iconst 0, 1) := by decide +kernel
theorem dL_law_1118 : decode code 1118 = .ok (.ireturn, 1) := by decide +kernel
theorem dL_law_1119 : decode code 1119 = .ok (.aload_n 1, 1) := by decide +kernel
theorem dL_law_1120 : decode code 1120 = .ok (.aload_n 0, 1) := by decide +kernel
theorem dL_law_1121 : decode code 1121 = .ok (.iload_n 3, 1) := by decide +kernel
theorem dL_law_1122 : decode code 1122 = .ok (.iconst 1, 1) := by decide +kernel
theorem dL_law_1123 : decode code 1123 = .ok (.iadd, 1) := by decide +kernel
theorem dL_law_1124 : decode code 1124 = .ok (.iaload, 1) := by decide +kernel
theorem dL_law_1125 : decode code 1125 = .ok (.aload_n 0, 1) := by decide +kernel
theorem dL_law_1126 : decode code 1126 = .ok (.iload_n 3, 1) := by decide +kernel
theorem dL_law_1127 : decode code 1127 = .ok (.iconst 2, 1) := by decide +kernel
theorem dL_law_1128 : decode code 1128 = .ok (.iadd, 1) := by decide +kernel
theorem dL_law_1129 : decode code 1129 = .ok (.iaload, 1) := by decide +kernel
theorem dL_law_1130 : decode code 1130 = .ok (.invokevirtual 144, 3) := by decide +kernel
theorem dL_law_1133 : decode code 1133 = .ok (.aload_n 2, 1) := by decide +kernel
theorem dL_law_1134 : decode code 1134 = .ok (.aload_n 0, 1) := by decide +kernel
theorem dL_law_1135 : decode code 1135 = .ok (.iload_n 3, 1) := by decide +kernel
theorem dL_law_1136 : decode code 1136 = .ok (.iconst 1, 1) := by decide +kernel
theorem dL_law_1137 : decode code 1137 = .ok (.iadd, 1) := by decide +kernel
theorem dL_law_1138 : decode code 1138 = .ok (.iaload, 1) := by decide +kernel
theorem dL_law_1139 : decode code 1139 = .ok (.aload_n 0, 1) := by decide +kernel
theorem dL_law_1140 : decode code 1140 = .ok (.iload_n 3, 1) := by decide +kernel
theorem dL_law_1141 : decode code 1141 = .ok (.iconst 2, 1) := by decide +kernel
theorem dL_law_1142 : decode code 1142 = .ok (.iadd, 1) := by decide +kernel
theorem dL_law_1143 : decode code 1143 = .ok (.iaload, 1) := by decide +kernel
theorem dL_law_1144 : decode code 1144 = .ok (.invokevirtual 147, 3) := by decide +kernel
theorem dL_law_1147 : decode code 1147 = .ok (.if_icmp .eq 453, 3) := by decide +kernel
theorem dL_law_1150 : decode code 1150 = .ok (.iconst 0, 1) := by decide +kernel
theorem dL_law_1151 : decode code 1151 = .ok (.ireturn, 1) := by decide +kernel
theorem dL_law_1152 : decode code 1152 = .ok (.aload_n 1, 1) := by decide +kernel
theorem dL_law_1153 : decode code 1153 = .ok (.aload_n 0, 1) := by decide +kernel
theorem dL_law_1154 : decode code 1154 = .ok (.iload_n 3, 1) := by decide +kernel
theorem dL_law_1155 : decode code 1155 = .ok (.iconst 1, 1) := by decide +kernel
theorem dL_law_1156 : decode code 1156 = .ok (.iadd, 1) := by decide +kernel
theorem dL_law_1157 : decode code 1157 = .ok (.iaload, 1) := by decide +kernel
theorem dL_law_1158 : decode code 1158 = .ok (.aload_n 0, 1) := by decide +kernel
theorem dL_law_1159 : decode code 1159 = .ok (.iload_n 3, 1) := by decide +kernel
theorem dL_law_1160 : decode code 1160 = .ok (.iconst 2, 1) := by decide +kernel
theorem dL_law_1161 : decode code 1161 = .ok (.iadd, 1) := by decide +kernel
theorem dL_law_1162 : decode code 1162 = .ok (.iaload, 1) := by decide +kernel
theorem dL_law_1163 : decode code 1163 = .ok (.invokevirtual 148, 3) := by decide +kernel
theorem dL_law_1166 : decode code 1166 = .ok (.aload_n 2, 1) := by decide +kernel
theorem dL_law_1167 : decode code 1167 = .ok (.aload_n 0, 1) := by decide +kernel
theorem dL_law_1168 : decode code 1168 = .ok (.iload_n 3, 1) := by decide +kernel
theorem dL_law_1169 : decode code 1169 = .ok (.iconst 1, 1) := by decide +kernel
theorem dL_law_1170 : decode code 1170 = .ok (.iadd, 1) := by decide +kernel
theorem dL_law_1171 : decode code 1171 = .ok (.iaload, 1) := by decide +kernel
theorem dL_law_1172 : decode code 1172 = .ok (.aload_n 0, 1) := by decide +kernel
theorem dL_law_1173 : decode code 1173 = .ok (.iload_n 3, 1) := by decide +kernel
theorem dL_law_1174 : decode code 1174 = .ok (.iconst 2, 1) := by decide +kernel
theorem dL_law_1175 : decode code 1175 = .ok (.iadd, 1) := by decide +kernel
theorem dL_law_1176 : decode code 1176 = .ok (.iaload, 1) := by decide +kernel
theorem dL_law_1177 : decode code 1177 = .ok (.invokevirtual 151, 3) := by decide +kernel
theorem dL_law_1180 : decode code 1180 = .ok (.if_icmp .eq 420, 3) := by decide +kernel
theorem dL_law_1183 : decode code 1183 = .ok (.iconst 0, 1) := by decide +kernel
theorem dL_law_1184 : decode code 1184 = .ok (.ireturn, 1) := by decide +kernel
theorem dL_law_1185 : decode code 1185 = .ok (.aload_n 1, 1) := by decide +kernel
theorem dL_law_1186 : decode code 1186 = .ok (.aload_n 0, 1) := by decide +kernel
theorem dL_law_1187 : decode code 1187 = .ok (.iload_n 3, 1) := by decide +kernel
theorem dL_law_1188 : decode code 1188 = .ok (.iconst 1, 1) := by decide +kernel
theorem dL_law_1189 : decode code 1189 = .ok (.iadd, 1) := by decide +kernel
theorem dL_law_1190 : decode code 1190 = .ok (.iaload, 1) := by decide +kernel
theorem dL_law_1191 : decode code 1191 = .ok (.aload_n 0, 1) := by decide +kernel
theorem dL_law_1192 : decode code 1192 = .ok (.iload_n 3, 1) := by decide +kernel
theorem dL_law_1193 : decode code 1193 = .ok (.iconst 2, 1) := by decide +kernel
theorem dL_law_1194 : decode code 1194 = .ok (.iadd, 1) := by decide +kernel
theorem dL_law_1195 : decode code 1195 = .ok (.iaload, 1) := by decide +kernel
theorem dL_law_1196 : decode code 1196 = .ok (.aload_n 0, 1) := by decide +kernel
theorem dL_law_1197 : decode code 1197 = .ok (.iload_n 3, 1) := by decide +kernel
theorem dL_law_1198 : decode code 1198 = .ok (.iconst 3, 1) := by decide +kernel
theorem dL_law_1199 : decode code 1199 = .ok (.iadd, 1) := by decide +kernel
theorem dL_law_1200 : decode code 1200 = .ok (.iaload, 1) := by decide +kernel
theorem dL_law_1201 : decode code 1201 = .ok (.invokevirtual 152, 3) := by decide +kernel
theorem dL_law_1204 : decode code 1204 = .ok (.aload_n 2, 1) := by decide +kernel
theorem dL_law_1205 : decode code 1205 = .ok (.aload_n 0, 1) := by decide +kernel
theorem dL_law_1206 : decode code 1206 = .ok (.iload_n 3, 1) := by decide +kernel
theorem dL_law_1207 : decode code 1207 = .ok (.iconst 1, 1) := by decide +kernel
theorem dL_law_1208 : decode code 1208 = .ok (.iadd, 1) := by decide +kernel
theorem dL_law_1209 : decode code 1209 = .ok (.iaload, 1) := by decide +kernel
theorem dL_law_1210 : decode code 1210 = .ok (.aload_n 0, 1) := by decide +kernel
theorem dL_law_1211 : decode code 1211 = .ok (.iload_n 3, 1) := by decide +kernel
theorem dL_law_1212 : decode code 1212 = .ok (.iconst 2, 1) := by decide +kernel
theorem dL_law_1213 : decode code 1213 = .ok (.iadd, 1) := by decide +kernel
theorem dL_law_1214 : decode code 1214 = .ok (.iaload, 1) := by decide +kernel
theorem dL_law_1215 : decode code 1215 = .ok (.aload_n 0, 1) := by decide +kernel
theorem dL_law_1216 : decode code 1216 = .ok (.iload_n 3, 1) := by decide +kernel
theorem dL_law_1217 : decode code 1217 = .ok (.iconst 3, 1) := by decide +kernel
theorem dL_law_1218 : decode code 1218 = .ok (.iadd, 1) := by decide +kernel
theorem dL_law_1219 : decode code 1219 = .ok (.iaload, 1) := by decide +kernel
theorem dL_law_1220 : decode code 1220 = .ok (.invokevirtual 155, 3) := by decide +kernel
theorem dL_law_1223 : decode code 1223 = .ok (.if_icmp .eq 377, 3) := by decide +kernel
theorem dL_law_1226 : decode code 1226 = .ok (.iconst 0, 1) := by decide +kernel
theorem dL_law_1227 : decode code 1227 = .ok (.ireturn, 1) := by decide +kernel
theorem dL_law_1228 : decode code 1228 = .ok (.aload_n 1, 1) := by decide +kernel
theorem dL_law_1229 : decode code 1229 = .ok (.aload_n 0, 1) := by decide +kernel
theorem dL_law_1230 : decode code 1230 = .ok (.iload_n 3, 1) := by decide +kernel
theorem dL_law_1231 : decode code 1231 = .ok (.iconst 1, 1) := by decide +kernel
theorem dL_law_1232 : decode code 1232 = .ok (.iadd, 1) := by decide +kernel
theorem dL_law_1233 : decode code 1233 = .ok (.iaload, 1) := by decide +kernel
theorem dL_law_1234 : decode code 1234 = .ok (.aload_n 0, 1) := by decide +kernel
theorem dL_law_1235 : decode code 1235 = .ok (.iload_n 3, 1) := by decide +kernel
theorem dL_law_1236 : decode code 1236 = .ok (.iconst 2, 1) := by decide +kernel
theorem dL_law_1237 : decode code 1237 = .ok (.iadd, 1) := by decide +kernel
theorem dL_law_1238 : decode code 1238 = .ok (.iaload, 1) := by decide +kernel
theorem dL_law_1239 : decode code 1239 = .ok (.aload_n 0, 1) := by decide +kernel
theorem dL_law_1240 : decode code 1240 = .ok (.iload_n 3, 1) := by decide +kernel
theorem dL_law_1241 : decode code 1241 = .ok (.iconst 3, 1) := by decide +kernel
theorem dL_law_1242 : decode code 1242 = .ok (.iadd, 1) := by decide +kernel
theorem dL_law_1243 : decode code 1243 = .ok (.iaload, 1) := by decide +kernel
theorem dL_law_1244 : decode code 1244 = .ok (.invokevirtual 156, 3) := by decide +kernel
theorem dL_law_1247 : decode code 1247 = .ok (.aload_n 2, 1) := by decide +kernel
theorem dL_law_1248 : decode code 1248 = .ok (.aload_n 0, 1) := by decide +kernel
theorem dL_law_1249 : decode code 1249 = .ok (.iload_n 3, 1) := by decide +kernel
theorem dL_law_1250 : decode code 1250 = .ok (.iconst 1, 1) := by decide +kernel
theorem dL_law_1251 : decode code 1251 = .ok (.iadd, 1) := by decide +kernel
theorem dL_law_1252 : decode code 1252 = .ok (.iaload, 1) := by decide +kernel
theorem dL_law_1253 : decode code 1253 = .ok (.aload_n 0, 1) := by decide +kernel
theorem dL_law_1254 : decode code 1254 = .ok (.iload_n 3, 1) := by decide +kernel
theorem dL_law_1255 : decode code 1255 = .ok (.iconst 2, 1) := by decide +kernel
theorem dL_law_1256 : decode code 1256 = .ok (.iadd, 1) := by decide +kernel
theorem dL_law_1257 : decode code 1257 = .ok (.iaload, 1) := by decide +kernel
theorem dL_law_1258 : decode code 1258 = .ok (.aload_n 0, 1) := by decide +kernel
theorem dL_law_1259 : decode code 1259 = .ok (.iload_n 3, 1) := by decide +kernel
theorem dL_law_1260 : decode code 1260 = .ok (.iconst 3, 1) := by decide +kernel
theorem dL_law_1261 : decode code 1261 = .ok (.iadd, 1) := by decide +kernel
theorem dL_law_1262 : decode code 1262 = .ok (.iaload, 1) := by decide +kernel
theorem dL_law_1263 : decode code 1263 = .ok (.invokevirtual 159, 3) := by decide +kernel
theorem dL_law_1266 : decode code 1266 = .ok (.if_icmp .eq 334, 3) := by decide +kernel
theorem dL_law_1269 : decode code 1269 = .ok (.iconst 0, 1) := by decide +kernel
theorem dL_law_1270 : decode code 1270 = .ok (.ireturn, 1) := by decide +kernel
theorem dL_law_1271 : decode code 1271 = .ok (.aload_n 1, 1) := by decide +kernel
theorem dL_law_1272 : decode code 1272 = .ok (.aload_n 0, 1) := by decide +kernel
theorem dL_law_1273 : decode code 1273 = .ok (.iload_n 3, 1) := by decide +kernel
theorem dL_law_1274 : decode code 1274 = .ok (.iconst 1, 1) := by decide +kernel
theorem dL_law_1275 : decode code 1275 = .ok (.iadd, 1) := by decide +kernel
theorem dL_law_1276 : decode code 1276 = .ok (.iaload, 1) := by decide +kernel
theorem dL_law_1277 : decode code 1277 = .ok (.aload_n 0, 1) := by decide +kernel
theorem dL_law_1278 : decode code 1278 = .ok (.iload_n 3, 1) := by decide +kernel
theorem dL_law_1279 : decode code 1279 = .ok (.iconst 2, 1) := by decide +kernel
theorem dL_law_1280 : decode code 1280 = .ok (.iadd, 1) := by decide +kernel
theorem dL_law_1281 : decode code 1281 = .ok (.iaload, 1) := by decide +kernel
theorem dL_law_1282 : decode code 1282 = .ok (.invokevirtual 160, 3) := by decide +kernel
theorem dL_law_1285 : decode code 1285 = .ok (.aload_n 2, 1) := by decide +kernel
theorem dL_law_1286 : decode code 1286 = .ok (.aload_n 0, 1) := by decide +kernel
theorem dL_law_1287 : decode code 1287 = .ok (.iload_n 3, 1) := by decide +kernel
theorem dL_law_1288 : decode code 1288 = .ok (.iconst 1, 1) := by decide +kernel
theorem dL_law_1289 : decode code 1289 = .ok (.iadd, 1) := by decide +kernel
theorem dL_law_1290 : decode code 1290 = .ok (.iaload, 1) := by decide +kernel
theorem dL_law_1291 : decode code 1291 = .ok (.aload_n 0, 1) := by decide +kernel
theorem dL_law_1292 : decode code 1292 = .ok (.iload_n 3, 1) := by decide +kernel
theorem dL_law_1293 : decode code 1293 = .ok (.iconst 2, 1) := by decide +kernel
theorem dL_law_1294 : decode code 1294 = .ok (.iadd, 1) := by decide +kernel
theorem dL_law_1295 : decode code 1295 = .ok (.iaload, 1) := by decide +kernel
theorem dL_law_1296 : decode code 1296 = .ok (.invokevirtual 163, 3) := by decide +kernel
theorem dL_law_1299 : decode code 1299 = .ok (.if_icmp .eq 301, 3) := by decide +kernel
theorem dL_law_1302 : decode code 1302 = .ok (.iconst 0, 1) := by decide +kernel
theorem dL_law_1303 : decode code 1303 = .ok (.ireturn, 1) := by decide +kernel
theorem dL_law_1304 : decode code 1304 = .ok (.aload_n 1, 1) := by decide +kernel
theorem dL_law_1305 : decode code 1305 = .ok (.aload_n 0, 1) := by decide +kernel
theorem dL_law_1306 : decode code 1306 = .ok (.iload_n 3, 1) := by decide +kernel
theorem dL_law_1307 : decode code 1307 = .ok (.iconst 1, 1) := by decide +kernel
theorem dL_law_1308 : decode code 1308 = .ok (.iadd, 1) := by decide +kernel
theorem dL_law_1309 : decode code 1309 = .ok (.iaload, 1) := by decide +kernel
theorem dL_law_1310 : decode code 1310 = .ok (.aload_n 0, 1) := by decide +kernel
theorem dL_law_1311 : decode code 1311 = .ok (.iload_n 3, 1) := by decide +kernel
theorem dL_law_1312 : decode code 1312 = .ok (.iconst 2, 1) := by decide +kernel
theorem dL_law_1313 : decode code 1313 = .ok (.iadd, 1) := by decide +kernel
theorem dL_law_1314 : decode code 1314 = .ok (.iaload, 1) := by decide +kernel
theorem dL_law_1315 : decode code 1315 = .ok (.aload_n 0, 1) := by decide +kernel
theorem dL_law_1316 : decode code 1316 = .ok (.iload_n 3, 1) := by decide +kernel
theorem dL_law_1317 : decode code 1317 = .ok (.iconst 3, 1) := by decide +kernel
theorem dL_law_1318 : decode code 1318 = .ok (.iadd, 1) := by decide +kernel
theorem dL_law_1319 : decode code 1319 = .ok (.iaload, 1) := by decide +kernel
theorem dL_law_1320 : decode code 1320 = .ok (.invokevirtual 164, 3) := by decide +kernel
theorem dL_law_1323 : decode code 1323 = .ok (.aload_n 2, 1) := by decide +kernel
theorem dL_law_1324 : decode code 1324 = .ok (.aload_n 0, 1) := by decide +kernel
theorem dL_law_1325 : decode code 1325 = .ok (.iload_n 3, 1) := by decide +kernel
theorem dL_law_1326 : decode code 1326 = .ok (.iconst 1, 1) := by decide +kernel
theorem dL_law_1327 : decode code 1327 = .ok (.iadd, 1) := by decide +kernel
theorem dL_law_1328 : decode code 1328 = .ok (.iaload, 1) := by decide +kernel
theorem dL_law_1329 : decode code 1329 = .ok (.aload_n 0, 1) := by decide +kernel
theorem dL_law_1330 : decode code 1330 = .ok (.iload_n 3, 1) := by decide +kernel
theorem dL_law_1331 : decode code 1331 = .ok (.iconst 2, 1) := by decide +kernel
theorem dL_law_1332 : decode code 1332 = .ok (.iadd, 1) := by decide +kernel
theorem dL_law_1333 : decode code 1333 = .ok (.iaload, 1) := by decide +kernel
theorem dL_law_1334 : decode code 1334 = .ok (.aload_n 0, 1) := by decide +kernel
theorem dL_law_1335 : decode code 1335 = .ok (.iload_n 3, 1) := by decide +kernel
theorem dL_law_1336 : decode code 1336 = .ok (.iconst 3, 1) := by decide +kernel
theorem dL_law_1337 : decode code 1337 = .ok (.iadd, 1) := by decide +kernel
theorem dL_law_1338 : decode code 1338 = .ok (.iaload, 1) := by decide +kernel
theorem dL_law_1339 : decode code 1339 = .ok (.invokevirtual 168, 3) := by decide +kernel
theorem dL_law_1342 : decode code 1342 = .ok (.lcmp, 1) := by decide +kernel
theorem dL_law_1343 : decode code 1343 = .ok (.ifCond .eq 257, 3) := by decide +kernel
theorem dL_law_1346 : decode code 1346 = .ok (.iconst 0, 1) := by decide +kernel
theorem dL_law_1347 : decode code 1347 = .ok (.ireturn, 1) := by decide +kernel
theorem dL_law_1348 : decode code 1348 = .ok (.aload_n 1, 1) := by decide +kernel
theorem dL_law_1349 : decode code 1349 = .ok (.aload_n 0, 1) := by decide +kernel
theorem dL_law_1350 : decode code 1350 = .ok (.iload_n 3, 1) := by decide +kernel
theorem dL_law_1351 : decode code 1351 = .ok (.iconst 1, 1) := by decide +kernel
theorem dL_law_1352 : decode code 1352 = .ok (.iadd, 1) := by decide +kernel
theorem dL_law_1353 : decode code 1353 = .ok (.iaload, 1) := by decide +kernel
theorem dL_law_1354 : decode code 1354 = .ok (.invokevirtual 169, 3) := by decide +kernel
theorem dL_law_1357 : decode code 1357 = .ok (.aload_n 2, 1) := by decide +kernel
theorem dL_law_1358 : decode code 1358 = .ok (.aload_n 0, 1) := by decide +kernel
theorem dL_law_1359 : decode code 1359 = .ok (.iload_n 3, 1) := by decide +kernel
theorem dL_law_1360 : decode code 1360 = .ok (.iconst 1, 1) := by decide +kernel
theorem dL_law_1361 : decode code 1361 = .ok (.iadd, 1) := by decide +kernel
theorem dL_law_1362 : decode code 1362 = .ok (.iaload, 1) := by decide +kernel
theorem dL_law_1363 : decode code 1363 = .ok (.invokevirtual 172, 3) := by decide +kernel
theorem dL_law_1366 : decode code 1366 = .ok (.if_icmp .eq 234, 3) := by decide +kernel
theorem dL_law_1369 : decode code 1369 = .ok (.iconst 0, 1) := by decide +kernel
theorem dL_law_1370 : decode code 1370 = .ok (.ireturn, 1) := by decide +kernel
theorem dL_law_1371 : decode code 1371 = .ok (.aload_n 1, 1) := by decide +kernel
theorem dL_law_1372 : decode code 1372 = .ok (.aload_n 0, 1) := by decide +kernel
theorem dL_law_1373 : decode code 1373 = .ok (.iload_n 3, 1) := by decide +kernel
theorem dL_law_1374 : decode code 1374 = .ok (.iconst 1, 1) := by decide +kernel
theorem dL_law_1375 : decode code 1375 = .ok (.iadd, 1) := by decide +kernel
theorem dL_law_1376 : decode code 1376 = .ok (.iaload, 1) := by decide +kernel
theorem dL_law_1377 : decode code 1377 = .ok (.aload_n 0, 1) := by decide +kernel
theorem dL_law_1378 : decode code 1378 = .ok (.iload_n 3, 1) := by decide +kernel
theorem dL_law_1379 : decode code 1379 = .ok (.iconst 2, 1) := by decide +kernel
theorem dL_law_1380 : decode code 1380 = .ok (.iadd, 1) := by decide +kernel
theorem dL_law_1381 : decode code 1381 = .ok (.iaload, 1) := by decide +kernel
theorem dL_law_1382 : decode code 1382 = .ok (.aload_n 0, 1) := by decide +kernel
theorem dL_law_1383 : decode code 1383 = .ok (.iload_n 3, 1) := by decide +kernel
theorem dL_law_1384 : decode code 1384 = .ok (.iconst 3, 1) := by decide +kernel
theorem dL_law_1385 : decode code 1385 = .ok (.iadd, 1) := by decide +kernel
theorem dL_law_1386 : decode code 1386 = .ok (.iaload, 1) := by decide +kernel
theorem dL_law_1387 : decode code 1387 = .ok (.invokevirtual 173, 3) := by decide +kernel
theorem dL_law_1390 : decode code 1390 = .ok (.aload_n 2, 1) := by decide +kernel
theorem dL_law_1391 : decode code 1391 = .ok (.aload_n 0, 1) := by decide +kernel
theorem dL_law_1392 : decode code 1392 = .ok (.iload_n 3, 1) := by decide +kernel
theorem dL_law_1393 : decode code 1393 = .ok (.iconst 1, 1) := by decide +kernel
theorem dL_law_1394 : decode code 1394 = .ok (.iadd, 1) := by decide +kernel
theorem dL_law_1395 : decode code 1395 = .ok (.iaload, 1) := by decide +kernel
theorem dL_law_1396 : decode code 1396 = .ok (.aload_n 0, 1) := by decide +kernel
theorem dL_law_1397 : decode code 1397 = .ok (.iload_n 3, 1) := by decide +kernel
theorem dL_law_1398 : decode code 1398 = .ok (.iconst 2, 1) := by decide +kernel
theorem dL_law_1399 : decode code 1399 = .ok (.iadd, 1) := by decide +kernel
theorem dL_law_1400 : decode code 1400 = .ok (.iaload, 1) := by decide +kernel
theorem dL_law_1401 : decode code 1401 = .ok (.aload_n 0, 1) := by decide +kernel
theorem dL_law_1402 : decode code 1402 = .ok (.iload_n 3, 1) := by decide +kernel
theorem dL_law_1403 : decode code 1403 = .ok (.iconst 3, 1) := by decide +kernel
theorem dL_law_1404 : decode code 1404 = .ok (.iadd, 1) := by decide +kernel
theorem dL_law_1405 : decode code 1405 = .ok (.iaload, 1) := by decide +kernel
theorem dL_law_1406 : decode code 1406 = .ok (.invokevirtual 176, 3) := by decide +kernel
theorem dL_law_1409 : decode code 1409 = .ok (.if_icmp .eq 191, 3) := by decide +kernel
theorem dL_law_1412 : decode code 1412 = .ok (.iconst 0, 1) := by decide +kernel
theorem dL_law_1413 : decode code 1413 = .ok (.ireturn, 1) := by decide +kernel
theorem dL_law_1414 : decode code 1414 = .ok (.aload_n 1, 1) := by decide +kernel
theorem dL_law_1415 : decode code 1415 = .ok (.aload_n 0, 1) := by decide +kernel
theorem dL_law_1416 : decode code 1416 = .ok (.iload_n 3, 1) := by decide +kernel
theorem dL_law_1417 : decode code 1417 = .ok (.iconst 1, 1) := by decide +kernel
theorem dL_law_1418 : decode code 1418 = .ok (.iadd, 1) := by decide +kernel
theorem dL_law_1419 : decode code 1419 = .ok (.iaload, 1) := by decide +kernel
theorem dL_law_1420 : decode code 1420 = .ok (.aload_n 0, 1) := by decide +kernel
theorem dL_law_1421 : decode code 1421 = .ok (.iload_n 3, 1) := by decide +kernel
theorem dL_law_1422 : decode code 1422 = .ok (.iconst 2, 1) := by decide +kernel
theorem dL_law_1423 : decode code 1423 = .ok (.iadd, 1) := by decide +kernel
theorem dL_law_1424 : decode code 1424 = .ok (.iaload, 1) := by decide +kernel
theorem dL_law_1425 : decode code 1425 = .ok (.aload_n 0, 1) := by decide +kernel
theorem dL_law_1426 : decode code 1426 = .ok (.iload_n 3, 1) := by decide +kernel
theorem dL_law_1427 : decode code 1427 = .ok (.iconst 3, 1) := by decide +kernel
theorem dL_law_1428 : decode code 1428 = .ok (.iadd, 1) := by decide +kernel
theorem dL_law_1429 : decode code 1429 = .ok (.iaload, 1) := by decide +kernel
theorem dL_law_1430 : decode code 1430 = .ok (.i2l, 1) := by decide +kernel
theorem dL_law_1431 : decode code 1431 = .ok (.bipush 32, 2) := by decide +kernel
theorem dL_law_1433 : decode code 1433 = .ok (.lshl, 1) := by decide +kernel
theorem dL_law_1434 : decode code 1434 = .ok (.aload_n 0, 1) := by decide +kernel
theorem dL_law_1435 : decode code 1435 = .ok (.iload_n 3, 1) := by decide +kernel
theorem dL_law_1436 : decode code 1436 = .ok (.iconst 4, 1) := by decide +kernel
theorem dL_law_1437 : decode code 1437 = .ok (.iadd, 1) := by decide +kernel
theorem dL_law_1438 : decode code 1438 = .ok (.iaload, 1) := by decide +kernel
theorem dL_law_1439 : decode code 1439 = .ok (.i2l, 1) := by decide +kernel
theorem dL_law_1440 : decode code 1440 = .ok (.ldc2_w 177, 3) := by decide +kernel
theorem dL_law_1443 : decode code 1443 = .ok (.land, 1) := by decide +kernel
theorem dL_law_1444 : decode code 1444 = .ok (.lor, 1) := by decide +kernel
theorem dL_law_1445 : decode code 1445 = .ok (.invokevirtual 179, 3) := by decide +kernel
theorem dL_law_1448 : decode code 1448 = .ok (.aload_n 2, 1) := by decide +kernel
theorem dL_law_1449 : decode code 1449 = .ok (.aload_n 0, 1) := by decide +kernel
theorem dL_law_1450 : decode code 1450 = .ok (.iload_n 3, 1) := by decide +kernel
theorem dL_law_1451 : decode code 1451 = .ok (.iconst 1, 1) := by decide +kernel
theorem dL_law_1452 : decode code 1452 = .ok (.iadd, 1) := by decide +kernel
theorem dL_law_1453 : decode code 1453 = .ok (.iaload, 1) := by decide +kernel
theorem dL_law_1454 : decode code 1454 = .ok (.aload_n 0, 1) := by decide +kernel
theorem dL_law_1455 : decode code 1455 = .ok (.iload_n 3, 1) := by decide +kernel
theorem dL_law_1456 : decode code 1456 = .ok (.iconst 2, 1) := by decide +kernel
theorem dL_law_1457 : decode code 1457 = .ok (.iadd, 1) := by decide +kernel
theorem dL_law_1458 : decode code 1458 = .ok (.iaload, 1) := by decide +kernel
theorem dL_law_1459 : decode code 1459 = .ok (.aload_n 0, 1) := by decide +kernel
theorem dL_law_1460 : decode code 1460 = .ok (.iload_n 3, 1) := by decide +kernel
theorem dL_law_1461 : decode code 1461 = .ok (.iconst 3, 1) := by decide +kernel
theorem dL_law_1462 : decode code 1462 = .ok (.iadd, 1) := by decide +kernel
theorem dL_law_1463 : decode code 1463 = .ok (.iaload, 1) := by decide +kernel
theorem dL_law_1464 : decode code 1464 = .ok (.i2l, 1) := by decide +kernel
theorem dL_law_1465 : decode code 1465 = .ok (.bipush 32, 2) := by decide +kernel
theorem dL_law_1467 : decode code 1467 = .ok (.lshl, 1) := by decide +kernel
theorem dL_law_1468 : decode code 1468 = .ok (.aload_n 0, 1) := by decide +kernel
theorem dL_law_1469 : decode code 1469 = .ok (.iload_n 3, 1) := by decide +kernel
theorem dL_law_1470 : decode code 1470 = .ok (.iconst 4, 1) := by decide +kernel
theorem dL_law_1471 : decode code 1471 = .ok (.iadd, 1) := by decide +kernel
theorem dL_law_1472 : decode code 1472 = .ok (.iaload, 1) := by decide +kernel
theorem dL_law_1473 : decode code 1473 = .ok (.i2l, 1) := by decide +kernel
theorem dL_law_1474 : decode code 1474 = .ok (.ldc2_w 177, 3) := by decide +kernel
theorem dL_law_1477 : decode code 1477 = .ok (.land, 1) := by decide +kernel
theorem dL_law_1478 : decode code 1478 = .ok (.lor, 1) := by decide +kernel
theorem dL_law_1479 : decode code 1479 = .ok (.invokevirtual 183, 3) := by decide +kernel
theorem dL_law_1482 : decode code 1482 = .ok (.lcmp, 1) := by decide +kernel
theorem dL_law_1483 : decode code 1483 = .ok (.ifCond .eq 117, 3) := by decide +kernel
theorem dL_law_1486 : decode code 1486 = .ok (.iconst 0, 1) := by decide +kernel
theorem dL_law_1487 : decode code 1487 = .ok (.ireturn, 1) := by decide +kernel
theorem dL_law_1488 : decode code 1488 = .ok (.aload_n 1, 1) := by decide +kernel
theorem dL_law_1489 : decode code 1489 = .ok (.aload_n 0, 1) := by decide +kernel
theorem dL_law_1490 : decode code 1490 = .ok (.iload_n 3, 1) := by decide +kernel
theorem dL_law_1491 : decode code 1491 = .ok (.iconst 1, 1) := by decide +kernel
theorem dL_law_1492 : decode code 1492 = .ok (.iadd, 1) := by decide +kernel
theorem dL_law_1493 : decode code 1493 = .ok (.iaload, 1) := by decide +kernel
theorem dL_law_1494 : decode code 1494 = .ok (.aload_n 0, 1) := by decide +kernel
theorem dL_law_1495 : decode code 1495 = .ok (.iload_n 3, 1) := by decide +kernel
theorem dL_law_1496 : decode code 1496 = .ok (.iconst 2, 1) := by decide +kernel
theorem dL_law_1497 : decode code 1497 = .ok (.iadd, 1) := by decide +kernel
theorem dL_law_1498 : decode code 1498 = .ok (.iaload, 1) := by decide +kernel
theorem dL_law_1499 : decode code 1499 = .ok (.aload_n 0, 1) := by decide +kernel
theorem dL_law_1500 : decode code 1500 = .ok (.iload_n 3, 1) := by decide +kernel
theorem dL_law_1501 : decode code 1501 = .ok (.iconst 3, 1) := by decide +kernel
theorem dL_law_1502 : decode code 1502 = .ok (.iadd, 1) := by decide +kernel
theorem dL_law_1503 : decode code 1503 = .ok (.iaload, 1) := by decide +kernel
theorem dL_law_1504 : decode code 1504 = .ok (.invokevirtual 184, 3) := by decide +kernel
theorem dL_law_1507 : decode code 1507 = .ok (.aload_n 2, 1) := by decide +kernel
theorem dL_law_1508 : decode code 1508 = .ok (.aload_n 0, 1) := by decide +kernel
theorem dL_law_1509 : decode code 1509 = .ok (.iload_n 3, 1) := by decide +kernel
theorem dL_law_1510 : decode code 1510 = .ok (.iconst 1, 1) := by decide +kernel
theorem dL_law_1511 : decode code 1511 = .ok (.iadd, 1) := by decide +kernel
theorem dL_law_1512 : decode code 1512 = .ok (.iaload, 1) := by decide +kernel
theorem dL_law_1513 : decode code 1513 = .ok (.aload_n 0, 1) := by decide +kernel
theorem dL_law_1514 : decode code 1514 = .ok (.iload_n 3, 1) := by decide +kernel
theorem dL_law_1515 : decode code 1515 = .ok (.iconst 2, 1) := by decide +kernel
theorem dL_law_1516 : decode code 1516 = .ok (.iadd, 1) := by decide +kernel
theorem dL_law_1517 : decode code 1517 = .ok (.iaload, 1) := by decide +kernel
theorem dL_law_1518 : decode code 1518 = .ok (.aload_n 0, 1) := by decide +kernel
theorem dL_law_1519 : decode code 1519 = .ok (.iload_n 3, 1) := by decide +kernel
theorem dL_law_1520 : decode code 1520 = .ok (.iconst 3, 1) := by decide +kernel
theorem dL_law_1521 : decode code 1521 = .ok (.iadd, 1) := by decide +kernel
theorem dL_law_1522 : decode code 1522 = .ok (.iaload, 1) := by decide +kernel
theorem dL_law_1523 : decode code 1523 = .ok (.invokevirtual 187, 3) := by decide +kernel
theorem dL_law_1526 : decode code 1526 = .ok (.if_icmp .eq 74, 3) := by decide +kernel
theorem dL_law_1529 : decode code 1529 = .ok (.iconst 0, 1) := by decide +kernel
theorem dL_law_1530 : decode code 1530 = .ok (.ireturn, 1) := by decide +kernel
theorem dL_law_1531 : decode code 1531 = .ok (.aload_n 1, 1) := by decide +kernel
theorem dL_law_1532 : decode code 1532 = .ok (.aload_n 0, 1) := by decide +kernel
theorem dL_law_1533 : decode code 1533 = .ok (.iload_n 3, 1) := by decide +kernel
theorem dL_law_1534 : decode code 1534 = .ok (.iconst 1, 1) := by decide +kernel
theorem dL_law_1535 : decode code 1535 = .ok (.iadd, 1) := by decide +kernel
theorem dL_law_1536 : decode code 1536 = .ok (.iaload, 1) := by decide +kernel
theorem dL_law_1537 : decode code 1537 = .ok (.invokevirtual 188, 3) := by decide +kernel
theorem dL_law_1540 : decode code 1540 = .ok (.aload_n 2, 1) := by decide +kernel
theorem dL_law_1541 : decode code 1541 = .ok (.aload_n 0, 1) := by decide +kernel
theorem dL_law_1542 : decode code 1542 = .ok (.iload_n 3, 1) := by decide +kernel
theorem dL_law_1543 : decode code 1543 = .ok (.iconst 1, 1) := by decide +kernel
theorem dL_law_1544 : decode code 1544 = .ok (.iadd, 1) := by decide +kernel
theorem dL_law_1545 : decode code 1545 = .ok (.iaload, 1) := by decide +kernel
theorem dL_law_1546 : decode code 1546 = .ok (.invokevirtual 191, 3) := by decide +kernel
theorem dL_law_1549 : decode code 1549 = .ok (.if_icmp .eq 51, 3) := by decide +kernel
theorem dL_law_1552 : decode code 1552 = .ok (.iconst 0, 1) := by decide +kernel
theorem dL_law_1553 : decode code 1553 = .ok (.ireturn, 1) := by decide +kernel
theorem dL_law_1554 : decode code 1554 = .ok (.aload_n 1, 1) := by decide +kernel
theorem dL_law_1555 : decode code 1555 = .ok (.aload_n 0, 1) := by decide +kernel
theorem dL_law_1556 : decode code 1556 = .ok (.iload_n 3, 1) := by decide +kernel
theorem dL_law_1557 : decode code 1557 = .ok (.iconst 1, 1) := by decide +kernel
theorem dL_law_1558 : decode code 1558 = .ok (.iadd, 1) := by decide +kernel
theorem dL_law_1559 : decode code 1559 = .ok (.iaload, 1) := by decide +kernel
theorem dL_law_1560 : decode code 1560 = .ok (.invokevirtual 192, 3) := by decide +kernel
theorem dL_law_1563 : decode code 1563 = .ok (.aload_n 2, 1) := by decide +kernel
theorem dL_law_1564 : decode code 1564 = .ok (.aload_n 0, 1) := by decide +kernel
theorem dL_law_1565 : decode code 1565 = .ok (.iload_n 3, 1) := by decide +kernel
theorem dL_law_1566 : decode code 1566 = .ok (.iconst 1, 1) := by decide +kernel
theorem dL_law_1567 : decode code 1567 = .ok (.iadd, 1) := by decide +kernel
theorem dL_law_1568 : decode code 1568 = .ok (.iaload, 1) := by decide +kernel
theorem dL_law_1569 : decode code 1569 = .ok (.invokevirtual 195, 3) := by decide +kernel
theorem dL_law_1572 : decode code 1572 = .ok (.if_icmp .eq 28, 3) := by decide +kernel
theorem dL_law_1575 : decode code 1575 = .ok (.iconst 0, 1) := by decide +kernel
theorem dL_law_1576 : decode code 1576 = .ok (.ireturn, 1) := by decide +kernel
theorem dL_law_1577 : decode code 1577 = .ok (.aload_n 1, 1) := by decide +kernel
theorem dL_law_1578 : decode code 1578 = .ok (.aload_n 0, 1) := by decide +kernel
theorem dL_law_1579 : decode code 1579 = .ok (.iload_n 3, 1) := by decide +kernel
theorem dL_law_1580 : decode code 1580 = .ok (.iconst 1, 1) := by decide +kernel
theorem dL_law_1581 : decode code 1581 = .ok (.iadd, 1) := by decide +kernel
theorem dL_law_1582 : decode code 1582 = .ok (.iaload, 1) := by decide +kernel
theorem dL_law_1583 : decode code 1583 = .ok (.invokevirtual 196, 3) := by decide +kernel
theorem dL_law_1586 : decode code 1586 = .ok (.aload_n 2, 1) := by decide +kernel
theorem dL_law_1587 : decode code 1587 = .ok (.aload_n 0, 1) := by decide +kernel
theorem dL_law_1588 : decode code 1588 = .ok (.iload_n 3, 1) := by decide +kernel
theorem dL_law_1589 : decode code 1589 = .ok (.iconst 1, 1) := by decide +kernel
theorem dL_law_1590 : decode code 1590 = .ok (.iadd, 1) := by decide +kernel
theorem dL_law_1591 : decode code 1591 = .ok (.iaload, 1) := by decide +kernel
theorem dL_law_1592 : decode code 1592 = .ok (.invokevirtual 199, 3) := by decide +kernel
theorem dL_law_1595 : decode code 1595 = .ok (.if_icmp .eq 5, 3) := by decide +kernel
theorem dL_law_1598 : decode code 1598 = .ok (.iconst 0, 1) := by decide +kernel
theorem dL_law_1599 : decode code 1599 = .ok (.ireturn, 1) := by decide +kernel
theorem dL_law_1600 : decode code 1600 = .ok (.iinc 3 6, 3) := by decide +kernel
theorem dL_law_1603 : decode code 1603 = .ok (.goto (-1585), 3) := by decide +kernel
theorem dL_law_1606 : decode code 1606 = .ok (.iconst 1, 1) := by decide +kernel
theorem dL_law_1607 : decode code 1607 = .ok (.ireturn, 1) := by decide +kernel
theorem rL_law_0 {d : Nat} {h : Hp} {Q : Option PV → Hp → Prop} {st : List PV}{ls : List (Option PV)} : WP d mL_law 0 ls st h Q = WP d mL_law 3 ls (.inr (.inr (200 + hN h)) :: st) (nw h 11 0 11) Q := R_new dL_law_0 rfl
theorem rL_law_3 {d : Nat} {h : Hp} {Q : Option PV → Hp → Prop} {st : List PV}{ls : List (Option PV)}{a : Nat} : WP d mL_law 3 ls (.inr (.inr a) :: st) h Q = WP d mL_law 4 ls (.inr (.inr a) :: .inr (.inr a) :: st) h Q := WP_step dL_law_3 rfl rfl rfl
theorem rL_law_4 {d : Nat} {h : Hp} {Q : Option PV → Hp → Prop} {ls : List (Option PV)}{r0 : PV}{v0 : Nat} : WP (d + 1) mL_law 4 ls (.inr (.inr v0) :: [r0]) h Q = (200 ≤ v0 ∧ WP d mX11_init 0 [some (.inr (.inr v0))] [] h (fun r h' => WP (d + 1) mL_law 7 ls (psh r [r0]) h' Q)) := R_callI (st := .inr (.inr v0) :: [r0]) (M := mL_law) (pc := 4) (kd := 2) (n := 1) (M' := mX11_init) (as := [.inr (.inr v0)]) (rest := [r0]) (en := [some (.inr (.inr v0))]) dL_law_4 rfl (Or.inl rfl) (Nat.le_of_ble_eq_true rfl) rfl rfl (Nat.le_of_ble_eq_true rfl) rfl rfl rfl
theorem rL_law_7 {d : Nat} {h : Hp} {Q : Option PV → Hp → Prop} {st : List PV}{x0 x1 x2 x3 : Option PV} {v : Nat} : WP d mL_law 7 [x0, x1, x2, x3] (.inr (.inr v) :: st) h Q = WP d mL_law 8 [x0, some (.inr (.inr v)), x2, x3] st h Q := WP_step dL_law_7 rfl rfl rfl
theorem rL_law_8 {d : Nat} {h : Hp} {Q : Option PV → Hp → Prop} {st : List PV}{ls : List (Option PV)} : WP d mL_law 8 ls st h Q = WP d mL_law 11 ls (.inr (.inr (200 + hN h)) :: st) (nw h 12 0 38) Q := R_new dL_law_8 rfl
theorem rL_law_11 {d : Nat} {h : Hp} {Q : Option PV → Hp → Prop} {st : List PV}{ls : List (Option PV)}{a : Nat} : WP d mL_law 11 ls (.inr (.inr a) :: st) h Q = WP d mL_law 12 ls (.inr (.inr a) :: .inr (.inr a) :: st) h Q := WP_step dL_law_11 rfl rfl rfl
theorem rL_law_12 {d : Nat} {h : Hp} {Q : Option PV → Hp → Prop} {ls : List (Option PV)}{r0 : PV}{v0 : Nat} : WP (d + 1) mL_law 12 ls (.inr (.inr v0) :: [r0]) h Q = (200 ≤ v0 ∧ WP d mX12_init 0 [some (.inr (.inr v0))] [] h (fun r h' => WP (d + 1) mL_law 15 ls (psh r [r0]) h' Q)) := R_callI (st := .inr (.inr v0) :: [r0]) (M := mL_law) (pc := 12) (kd := 2) (n := 1) (M' := mX12_init) (as := [.inr (.inr v0)]) (rest := [r0]) (en := [some (.inr (.inr v0))]) dL_law_12 rfl (Or.inl rfl) (Nat.le_of_ble_eq_true rfl) rfl rfl (Nat.le_of_ble_eq_true rfl) rfl rfl rfl
theorem rL_law_15 {d : Nat} {h : Hp} {Q : Option PV → Hp → Prop} {st : List PV}{x0 x1 x2 x3 : Option PV} {v : Nat} : WP d mL_law 15 [x0, x1, x2, x3] (.inr (.inr v) :: st) h Q = WP d mL_law 16 [x0, x1, some (.inr (.inr v)), x3] st h Q := WP_step dL_law_15 rfl rfl rfl
theorem rL_law_16 {d : Nat} {h : Hp} {Q : Option PV → Hp → Prop} {st : List PV}{ls : List (Option PV)} : WP d mL_law 16 ls st h Q = WP d mL_law 17 ls (.inl (0) :: st) h Q := WP_step dL_law_16 rfl rfl rfl
theorem rL_law_17 {d : Nat} {h : Hp} {Q : Option PV → Hp → Prop} {st : List PV}{x0 x1 x2 x3 : Option PV} {v : Int} : WP d mL_law 17 [x0, x1, x2, x3] (.inl v :: st) h Q = WP d mL_law 18 [x0, x1, x2, some (.inl v)] st h Q := WP_step dL_law_17 rfl rfl rfl
theorem rL_law_18 {d : Nat} {h : Hp} {Q : Option PV → Hp → Prop} {st : List PV}{x0 x1 x2 : Option PV} {t : List (Option PV)} {v : Int} : WP d mL_law 18 (x0 :: x1 :: x2 :: some (.inl v) :: t) st h Q = WP d mL_law 19 (x0 :: x1 :: x2 :: some (.inl v) :: t) (.inl v :: st) h Q := WP_step dL_law_18 rfl rfl rfl
theorem rL_law_19 {d : Nat} {h : Hp} {Q : Option PV → Hp → Prop} {st : List PV}{t : List (Option PV)} {v : Nat} : WP d mL_law 19 (some (.inr (.inr v)) :: t) st h Q = WP d mL_law 20 (some (.inr (.inr v)) :: t) (.inr (.inr v) :: st) h Q := WP_step dL_law_19 rfl rfl rfl
theorem rL_law_20 {d : Nat} {h : Hp} {Q : Option PV → Hp → Prop} {st : List PV}{ls : List (Option PV)}{a : Nat} : WP d mL_law 20 ls (.inr (.inr a) :: st) h Q = ((20 ≤ (hK h a).1 ∧ (hK h a).1 ≤ 26) ∧ WP d mL_law 21 ls (.inl (hK h a).2 :: st) h Q) := R_alen dL_law_20
theorem rL_law_21 {d : Nat} {h : Hp} {Q : Option PV → Hp → Prop} {st : List PV}{ls : List (Option PV)} : WP d mL_law 21 ls st h Q = WP d mL_law 23 ls (.inl (6) :: st) h Q := WP_step dL_law_21 rfl rfl rfl
theorem rL_law_23 {d : Nat} {h : Hp} {Q : Option PV → Hp → Prop} {st : List PV}{ls : List (Option PV)}{a b : Int} : WP d mL_law 23 ls (.inl b :: .inl a :: st) h Q = WP d mL_law 24 ls (.inl (w32 (a - b)) :: st) h Q := WP_step dL_law_23 rfl rfl rfl
theorem rL_law_24 {d : Nat} {h : Hp} {Q : Option PV → Hp → Prop} {st : List PV}{ls : List (Option PV)}{a b : Int} : WP d mL_law 24 ls (.inl b :: .inl a :: st) h Q = (if b < a then WP d mL_law 1606 ls st h Q else WP d mL_law 27 ls st h Q) := R_icmp_gt dL_law_24 (by decide)
theorem rL_law_27 {d : Nat} {h : Hp} {Q : Option PV → Hp → Prop} {st : List PV}{t : List (Option PV)} {v : Nat} : WP d mL_law 27 (some (.inr (.inr v)) :: t) st h Q = WP d mL_law 28 (some (.inr (.inr v)) :: t) (.inr (.inr v) :: st) h Q := WP_step dL_law_27 rfl rfl rfl
theorem rL_law_28 {d : Nat} {h : Hp} {Q : Option PV → Hp → Prop} {st : List PV}{x0 x1 x2 : Option PV} {t : List (Option PV)} {v : Int} : WP d mL_law 28 (x0 :: x1 :: x2 :: some (.inl v) :: t) st h Q = WP d mL_law 29 (x0 :: x1 :: x2 :: some (.inl v) :: t) (.inl v :: st) h Q := WP_step dL_law_28 rfl rfl rfl
theorem rL_law_29 {d : Nat} {h : Hp} {Q : Option PV → Hp → Prop} {st : List PV}{ls : List (Option PV)}{a : Nat} {z : Int} : WP d mL_law 29 ls (.inl z :: .inr (.inr a) :: st) h Q = ((hK h a).1 = 21 ∧ 0 ≤ z ∧ z < (hK h a).2 ∧ WP d mL_law 30 ls (.inl (hI h a z.toNat) :: st) h Q) := R_iald dL_law_29
theorem rL_law_30 {d : Nat} {h : Hp} {Q : Option PV → Hp → Prop} {st : List PV}{ls : List (Option PV)} : WP d mL_law 30 ls st h Q = WP d mL_law 32 ls (.inl (63) :: st) h Q := WP_step dL_law_30 rfl rfl rfl
theorem rL_law_32 {d : Nat} {h : Hp} {Q : Option PV → Hp → Prop} {st : List PV}{ls : List (Option PV)}{a b : Int} : WP d mL_law 32 ls (.inl b :: .inl a :: st) h Q = WP d mL_law 33 ls (.inl (iand a b) :: st) h Q := WP_step dL_law_32 rfl rfl rfl
theorem rL_law_33 {d : Nat} {h : Hp} {Q : Option PV → Hp → Prop} {st : List PV}{ls : List (Option PV)}{a : Int} : WP d mL_law 33 ls (.inl a :: st) h Q = WP d mL_law (tabT 33 1567 0 43 [191, 254, 277, 300, 333, 366, 389, 402, 425, 458, 481, 514, 547, 570, 603, 626, 659, 692, 735, 768, 811, 845, 868, 891, 914, 937, 960, 983, 1006, 1030, 1063, 1086, 1119, 1152, 1195, 1238, 1271, 1315, 1338, 1381, 1455, 1498, 1521, 1544] a) ls st h Q := R_tab dL_law_33 (by decide) (by decide) (by decide)
theorem rL_law_224 {d : Nat} {h : Hp} {Q : Option PV → Hp → Prop} {st : List PV}{x0 : Option PV} {t : List (Option PV)} {v : Nat} : WP d mL_law 224 (x0 :: some (.inr (.inr v)) :: t) st h Q = WP d mL_law 225 (x0 :: some (.inr (.inr v)) :: t) (.inr (.inr v) :: st) h Q := WP_step dL_law_224 rfl rfl rfl
theorem rL_law_225 {d : Nat} {h : Hp} {Q : Option PV → Hp → Prop} {st : List PV}{t : List (Option PV)} {v : Nat} : WP d mL_law 225 (some (.inr (.inr v)) :: t) st h Q = WP d mL_law 226 (some (.inr (.inr v)) :: t) (.inr (.inr v) :: st) h Q := WP_step dL_law_225 rfl rfl rfl
theorem rL_law_226 {d : Nat} {h : Hp} {Q : Option PV → Hp → Prop} {st : List PV}{x0 x1 x2 : Option PV} {t : List (Option PV)} {v : Int} : WP d mL_law 226 (x0 :: x1 :: x2 :: some (.inl v) :: t) st h Q = WP d mL_law 227 (x0 :: x1 :: x2 :: some (.inl v) :: t) (.inl v :: st) h Q := WP_step dL_law_226 rfl rfl rfl
theorem rL_law_227 {d : Nat} {h : Hp} {Q : Option PV → Hp → Prop} {st : List PV}{ls : List (Option PV)} : WP d mL_law 227 ls st h Q = WP d mL_law 228 ls (.inl (1) :: st) h Q := WP_step dL_law_227 rfl rfl rfl
theorem rL_law_228 {d : Nat} {h : Hp} {Q : Option PV → Hp → Prop} {st : List PV}{ls : List (Option PV)}{a b : Int} : WP d mL_law 228 ls (.inl b :: .inl a :: st) h Q = WP d mL_law 229 ls (.inl (w32 (a + b)) :: st) h Q := WP_step dL_law_228 rfl rfl rfl
theorem rL_law_229 {d : Nat} {h : Hp} {Q : Option PV → Hp → Prop} {st : List PV}{ls : List (Option PV)}{a : Nat} {z : Int} : WP d mL_law 229 ls (.inl z :: .inr (.inr a) :: st) h Q = ((hK h a).1 = 21 ∧ 0 ≤ z ∧ z < (hK h a).2 ∧ WP d mL_law 230 ls (.inl (hI h a z.toNat) :: st) h Q) := R_iald dL_law_229
theorem rL_law_230 {d : Nat} {h : Hp} {Q : Option PV → Hp → Prop} {st : List PV}{t : List (Option PV)} {v : Nat} : WP d mL_law 230 (some (.inr (.inr v)) :: t) st h Q = WP d mL_law 231 (some (.inr (.inr v)) :: t) (.inr (.inr v) :: st) h Q := WP_step dL_law_230 rfl rfl rfl
theorem rL_law_231 {d : Nat} {h : Hp} {Q : Option PV → Hp → Prop} {st : List PV}{x0 x1 x2 : Option PV} {t : List (Option PV)} {v : Int} : WP d mL_law 231 (x0 :: x1 :: x2 :: some (.inl v) :: t) st h Q = WP d mL_law 232 (x0 :: x1 :: x2 :: some (.inl v) :: t) (.inl v :: st) h Q := WP_step dL_law_231 rfl rfl rfl
theorem rL_law_232 {d : Nat} {h : Hp} {Q : Option PV → Hp → Prop} {st : List PV}{ls : List (Option PV)} : WP d mL_law 232 ls st h Q = WP d mL_law 233 ls (.inl (2) :: st) h Q := WP_step dL_law_232 rfl rfl rfl
theorem rL_law_233 {d : Nat} {h : Hp} {Q : Option PV → Hp → Prop} {st : List PV}{ls : List (Option PV)}{a b : Int} : WP d mL_law 233 ls (.inl b :: .inl a :: st) h Q = WP d mL_law 234 ls (.inl (w32 (a + b)) :: st) h Q := WP_step dL_law_233 rfl rfl rfl
theorem rL_law_234 {d : Nat} {h : Hp} {Q : Option PV → Hp → Prop} {st : List PV}{ls : List (Option PV)}{a : Nat} {z : Int} : WP d mL_law 234 ls (.inl z :: .inr (.inr a) :: st) h Q = ((hK h a).1 = 21 ∧ 0 ≤ z ∧ z < (hK h a).2 ∧ WP d mL_law 235 ls (.inl (hI h a z.toNat) :: st) h Q) := R_iald dL_law_234
theorem rL_law_235 {d : Nat} {h : Hp} {Q : Option PV → Hp → Prop} {st : List PV}{t : List (Option PV)} {v : Nat} : WP d mL_law 235 (some (.inr (.inr v)) :: t) st h Q = WP d mL_law 236 (some (.inr (.inr v)) :: t) (.inr (.inr v) :: st) h Q := WP_step dL_law_235 rfl rfl rfl
theorem rL_law_236 {d : Nat} {h : Hp} {Q : Option PV → Hp → Prop} {st : List PV}{x0 x1 x2 : Option PV} {t : List (Option PV)} {v : Int} : WP d mL_law 236 (x0 :: x1 :: x2 :: some (.inl v) :: t) st h Q = WP d mL_law 237 (x0 :: x1 :: x2 :: some (.inl v) :: t) (.inl v :: st) h Q := WP_step dL_law_236 rfl rfl rfl
theorem rL_law_237 {d : Nat} {h : Hp} {Q : Option PV → Hp → Prop} {st : List PV}{ls : List (Option PV)} : WP d mL_law 237 ls st h Q = WP d mL_law 238 ls (.inl (3) :: st) h Q := WP_step dL_law_237 rfl rfl rfl
theorem rL_law_238 {d : Nat} {h : Hp} {Q : Option PV → Hp → Prop} {st : List PV}{ls : List (Option PV)}{a b : Int} : WP d mL_law 238 ls (.inl b :: .inl a :: st) h Q = WP d mL_law 239 ls (.inl (w32 (a + b)) :: st) h Q := WP_step dL_law_238 rfl rfl rfl
theorem rL_law_239 {d : Nat} {h : Hp} {Q : Option PV → Hp → Prop} {st : List PV}{ls : List (Option PV)}{a : Nat} {z : Int} : WP d mL_law 239 ls (.inl z :: .inr (.inr a) :: st) h Q = ((hK h a).1 = 21 ∧ 0 ≤ z ∧ z < (hK h a).2 ∧ WP d mL_law 240 ls (.inl (hI h a z.toNat) :: st) h Q) := R_iald dL_law_239
theorem rL_law_240 {d : Nat} {h : Hp} {Q : Option PV → Hp → Prop} {st : List PV}{t : List (Option PV)} {v : Nat} : WP d mL_law 240 (some (.inr (.inr v)) :: t) st h Q = WP d mL_law 241 (some (.inr (.inr v)) :: t) (.inr (.inr v) :: st) h Q := WP_step dL_law_240 rfl rfl rfl
theorem rL_law_241 {d : Nat} {h : Hp} {Q : Option PV → Hp → Prop} {st : List PV}{x0 x1 x2 : Option PV} {t : List (Option PV)} {v : Int} : WP d mL_law 241 (x0 :: x1 :: x2 :: some (.inl v) :: t) st h Q = WP d mL_law 242 (x0 :: x1 :: x2 :: some (.inl v) :: t) (.inl v :: st) h Q := WP_step dL_law_241 rfl rfl rfl
theorem rL_law_242 {d : Nat} {h : Hp} {Q : Option PV → Hp → Prop} {st : List PV}{ls : List (Option PV)} : WP d mL_law 242 ls st h Q = WP d mL_law 243 ls (.inl (4) :: st) h Q := WP_step dL_law_242 rfl rfl rfl
theorem rL_law_243 {d : Nat} {h : Hp} {Q : Option PV → Hp → Prop} {st : List PV}{ls : List (Option PV)}{a b : Int} : WP d mL_law 243 ls (.inl b :: .inl a :: st) h Q = WP d mL_law 244 ls (.inl (w32 (a + b)) :: st) h Q := WP_step dL_law_243 rfl rfl rfl
theorem rL_law_244 {d : Nat} {h : Hp} {Q : Option PV → Hp → Prop} {st : List PV}{ls : List (Option PV)}{a : Nat} {z : Int} : WP d mL_law 244 ls (.inl z :: .inr (.inr a) :: st) h Q = ((hK h a).1 = 21 ∧ 0 ≤ z ∧ z < (hK h a).2 ∧ WP d mL_law 245 ls (.inl (hI h a z.toNat) :: st) h Q) := R_iald dL_law_244
theorem rL_law_245 {d : Nat} {h : Hp} {Q : Option PV → Hp → Prop} {st : List PV}{t : List (Option PV)} {v : Nat} : WP d mL_law 245 (some (.inr (.inr v)) :: t) st h Q = WP d mL_law 246 (some (.inr (.inr v)) :: t) (.inr (.inr v) :: st) h Q := WP_step dL_law_245 rfl rfl rfl
theorem rL_law_246 {d : Nat} {h : Hp} {Q : Option PV → Hp → Prop} {st : List PV}{x0 x1 x2 : Option PV} {t : List (Option PV)} {v : Int} : WP d mL_law 246 (x0 :: x1 :: x2 :: some (.inl v) :: t) st h Q = WP d mL_law 247 (x0 :: x1 :: x2 :: some (.inl v) :: t) (.inl v :: st) h Q := WP_step dL_law_246 rfl rfl rfl
theorem rL_law_247 {d : Nat} {h : Hp} {Q : Option PV → Hp → Prop} {st : List PV}{ls : List (Option PV)} : WP d mL_law 247 ls st h Q = WP d mL_law 248 ls (.inl (5) :: st) h Q := WP_step dL_law_247 rfl rfl rfl
theorem rL_law_248 {d : Nat} {h : Hp} {Q : Option PV → Hp → Prop} {st : List PV}{ls : List (Option PV)}{a b : Int} : WP d mL_law 248 ls (.inl b :: .inl a :: st) h Q = WP d mL_law 249 ls (.inl (w32 (a + b)) :: st) h Q := WP_step dL_law_248 rfl rfl rfl
theorem rL_law_249 {d : Nat} {h : Hp} {Q : Option PV → Hp → Prop} {st : List PV}{ls : List (Option PV)}{a : Nat} {z : Int} : WP d mL_law 249 ls (.inl z :: .inr (.inr a) :: st) h Q = ((hK h a).1 = 21 ∧ 0 ≤ z ∧ z < (hK h a).2 ∧ WP d mL_law 250 ls (.inl (hI h a z.toNat) :: st) h Q) := R_iald dL_law_249
theorem rL_law_250 {d : Nat} {h : Hp} {Q : Option PV → Hp → Prop} {ls : List (Option PV)}{v0 : Nat} {v1 : Int} {v2 : Int} {v3 : Int} {v4 : Int} {v5 : Int} : WP (d + 1) mL_law 250 ls (.inl v5 :: .inl v4 :: .inl v3 :: .inl v2 :: .inl v1 :: .inr (.inr v0) :: []) h Q = ((hK h v0).1 = 11 ∧ WP d mX11_feed 0 [some (.inr (.inr v0)), some (.inl v1), some (.inl v2), some (.inl v3), some (.inl v4), some (.inl v5)] [] h (fun r h' => WP (d + 1) mL_law 253 ls (psh r []) h' Q)) := R_callV (st := .inl v5 :: .inl v4 :: .inl v3 :: .inl v2 :: .inl v1 :: .inr (.inr v0) :: []) (M := mL_law) (pc := 250) (kd := 0) (n := 6) (M' := mX11_feed) (as := [.inl v5, .inl v4, .inl v3, .inl v2, .inl v1, .inr (.inr v0)]) (rest := []) (en := [some (.inr (.inr v0)), some (.inl v1), some (.inl v2), some (.inl v3), some (.inl v4), some (.inl v5)]) dL_law_250 rfl (Nat.le_of_ble_eq_true rfl) (Nat.le_of_ble_eq_true rfl) rfl rfl (Nat.le_of_ble_eq_true rfl) rfl rfl rfl
theorem rL_law_253 {d : Nat} {h : Hp} {Q : Option PV → Hp → Prop} {st : List PV}{x0 x1 : Option PV} {t : List (Option PV)} {v : Nat} : WP d mL_law 253 (x0 :: x1 :: some (.inr (.inr v)) :: t) st h Q = WP d mL_law 254 (x0 :: x1 :: some (.inr (.inr v)) :: t) (.inr (.inr v) :: st) h Q := WP_step dL_law_253 rfl rfl rfl
theorem rL_law_254 {d : Nat} {h : Hp} {Q : Option PV → Hp → Prop} {st : List PV}{t : List (Option PV)} {v : Nat} : WP d mL_law 254 (some (.inr (.inr v)) :: t) st h Q = WP d mL_law 255 (some (.inr (.inr v)) :: t) (.inr (.inr v) :: st) h Q := WP_step dL_law_254 rfl rfl rfl
theorem rL_law_255 {d : Nat} {h : Hp} {Q : Option PV → Hp → Prop} {st : List PV}{x0 x1 x2 : Option PV} {t : List (Option PV)} {v : Int} : WP d mL_law 255 (x0 :: x1 :: x2 :: some (.inl v) :: t) st h Q = WP d mL_law 256 (x0 :: x1 :: x2 :: some (.inl v) :: t) (.inl v :: st) h Q := WP_step dL_law_255 rfl rfl rfl
theorem rL_law_256 {d : Nat} {h : Hp} {Q : Option PV → Hp → Prop} {st : List PV}{ls : List (Option PV)} : WP d mL_law 256 ls st h Q = WP d mL_law 257 ls (.inl (1) :: st) h Q := WP_step dL_law_256 rfl rfl rfl
theorem rL_law_257 {d : Nat} {h : Hp} {Q : Option PV → Hp → Prop} {st : List PV}{ls : List (Option PV)}{a b : Int} : WP d mL_law 257 ls (.inl b :: .inl a :: st) h Q = WP d mL_law 258 ls (.inl (w32 (a + b)) :: st) h Q := WP_step dL_law_257 rfl rfl rfl
theorem rL_law_258 {d : Nat} {h : Hp} {Q : Option PV → Hp → Prop} {st : List PV}{ls : List (Option PV)}{a : Nat} {z : Int} : WP d mL_law 258 ls (.inl z :: .inr (.inr a) :: st) h Q = ((hK h a).1 = 21 ∧ 0 ≤ z ∧ z < (hK h a).2 ∧ WP d mL_law 259 ls (.inl (hI h a z.toNat) :: st) h Q) := R_iald dL_law_258
theorem rL_law_259 {d : Nat} {h : Hp} {Q : Option PV → Hp → Prop} {st : List PV}{t : List (Option PV)} {v : Nat} : WP d mL_law 259 (some (.inr (.inr v)) :: t) st h Q = WP d mL_law 260 (some (.inr (.inr v)) :: t) (.inr (.inr v) :: st) h Q := WP_step dL_law_259 rfl rfl rfl
theorem rL_law_260 {d : Nat} {h : Hp} {Q : Option PV → Hp → Prop} {st : List PV}{x0 x1 x2 : Option PV} {t : List (Option PV)} {v : Int} : WP d mL_law 260 (x0 :: x1 :: x2 :: some (.inl v) :: t) st h Q = WP d mL_law 261 (x0 :: x1 :: x2 :: some (.inl v) :: t) (.inl v :: st) h Q := WP_step dL_law_260 rfl rfl rfl
theorem rL_law_261 {d : Nat} {h : Hp} {Q : Option PV → Hp → Prop} {st : List PV}{ls : List (Option PV)} : WP d mL_law 261 ls st h Q = WP d mL_law 262 ls (.inl (2) :: st) h Q := WP_step dL_law_261 rfl rfl rfl
theorem rL_law_262 {d : Nat} {h : Hp} {Q : Option PV → Hp → Prop} {st : List PV}{ls : List (Option PV)}{a b : Int} : WP d mL_law 262 ls (.inl b :: .inl a :: st) h Q = WP d mL_law 263 ls (.inl (w32 (a + b)) :: st) h Q := WP_step dL_law_262 rfl rfl rfl
theorem rL_law_263 {d : Nat} {h : Hp} {Q : Option PV → Hp → Prop} {st : List PV}{ls : List (Option PV)}{a : Nat} {z : Int} : WP d mL_law 263 ls (.inl z :: .inr (.inr a) :: st) h Q = ((hK h a).1 = 21 ∧ 0 ≤ z ∧ z < (hK h a).2 ∧ WP d mL_law 264 ls (.inl (hI h a z.toNat) :: st) h Q) := R_iald dL_law_263
theorem rL_law_264 {d : Nat} {h : Hp} {Q : Option PV → Hp → Prop} {st : List PV}{t : List (Option PV)} {v : Nat} : WP d mL_law 264 (some (.inr (.inr v)) :: t) st h Q = WP d mL_law 265 (some (.inr (.inr v)) :: t) (.inr (.inr v) :: st) h Q := WP_step dL_law_264 rfl rfl rfl
theorem rL_law_265 {d : Nat} {h : Hp} {Q : Option PV → Hp → Prop} {st : List PV}{x0 x1 x2 : Option PV} {t : List (Option PV)} {v : Int} : WP d mL_law 265 (x0 :: x1 :: x2 :: some (.inl v) :: t) st h Q = WP d mL_law 266 (x0 :: x1 :: x2 :: some (.inl v) :: t) (.inl v :: st) h Q := WP_step dL_law_265 rfl rfl rfl
theorem rL_law_266 {d : Nat} {h : Hp} {Q : Option PV → Hp → Prop} {st : List PV}{ls : List (Option PV)} : WP d mL_law 266 ls st h Q = WP d mL_law 267 ls (.inl (3) :: st) h Q := WP_step dL_law_266 rfl rfl rfl
theorem rL_law_267 {d : Nat} {h : Hp} {Q : Option PV → Hp → Prop} {st : List PV}{ls : List (Option PV)}{a b : Int} : WP d mL_law 267 ls (.inl b :: .inl a :: st) h Q = WP d mL_law 268 ls (.inl (w32 (a + b)) :: st) h Q := WP_step dL_law_267 rfl rfl rfl
theorem rL_law_268 {d : Nat} {h : Hp} {Q : Option PV → Hp → Prop} {st : List PV}{ls : List (Option PV)}{a : Nat} {z : Int} : WP d mL_law 268 ls (.inl z :: .inr (.inr a) :: st) h Q = ((hK h a).1 = 21 ∧ 0 ≤ z ∧ z < (hK h a).2 ∧ WP d mL_law 269 ls (.inl (hI h a z.toNat) :: st) h Q) := R_iald dL_law_268
theorem rL_law_269 {d : Nat} {h : Hp} {Q : Option PV → Hp → Prop} {st : List PV}{t : List (Option PV)} {v : Nat} : WP d mL_law 269 (some (.inr (.inr v)) :: t) st h Q = WP d mL_law 270 (some (.inr (.inr v)) :: t) (.inr (.inr v) :: st) h Q := WP_step dL_law_269 rfl rfl rfl
theorem rL_law_270 {d : Nat} {h : Hp} {Q : Option PV → Hp → Prop} {st : List PV}{x0 x1 x2 : Option PV} {t : List (Option PV)} {v : Int} : WP d mL_law 270 (x0 :: x1 :: x2 :: some (.inl v) :: t) st h Q = WP d mL_law 271 (x0 :: x1 :: x2 :: some (.inl v) :: t) (.inl v :: st) h Q := WP_step dL_law_270 rfl rfl rfl
theorem rL_law_271 {d : Nat} {h : Hp} {Q : Option PV → Hp → Prop} {st : List PV}{ls : List (Option PV)} : WP d mL_law 271 ls st h Q = WP d mL_law 272 ls (.inl (4) :: st) h Q := WP_step dL_law_271 rfl rfl rfl
theorem rL_law_272 {d : Nat} {h : Hp} {Q : Option PV → Hp → Prop} {st : List PV}{ls : List (Option PV)}{a b : Int} : WP d mL_law 272 ls (.inl b :: .inl a :: st) h Q = WP d mL_law 273 ls (.inl (w32 (a + b)) :: st) h Q := WP_step dL_law_272 rfl rfl rfl
theorem rL_law_273 {d : Nat} {h : Hp} {Q : Option PV → Hp → Prop} {st : List PV}{ls : List (Option PV)}{a : Nat} {z : Int} : WP d mL_law 273 ls (.inl z :: .inr (.inr a) :: st) h Q = ((hK h a).1 = 21 ∧ 0 ≤ z ∧ z < (hK h a).2 ∧ WP d mL_law 274 ls (.inl (hI h a z.toNat) :: st) h Q) := R_iald dL_law_273
theorem rL_law_274 {d : Nat} {h : Hp} {Q : Option PV → Hp → Prop} {st : List PV}{t : List (Option PV)} {v : Nat} : WP d mL_law 274 (some (.inr (.inr v)) :: t) st h Q = WP d mL_law 275 (some (.inr (.inr v)) :: t) (.inr (.inr v) :: st) h Q := WP_step dL_law_274 rfl rfl rfl
theorem rL_law_275 {d : Nat} {h : Hp} {Q : Option PV → Hp → Prop} {st : List PV}{x0 x1 x2 : Option PV} {t : List (Option PV)} {v : Int} : WP d mL_law 275 (x0 :: x1 :: x2 :: some (.inl v) :: t) st h Q = WP d mL_law 276 (x0 :: x1 :: x2 :: some (.inl v) :: t) (.inl v :: st) h Q := WP_step dL_law_275 rfl rfl rfl
theorem rL_law_276 {d : Nat} {h : Hp} {Q : Option PV → Hp → Prop} {st : List PV}{ls : List (Option PV)} : WP d mL_law 276 ls st h Q = WP d mL_law 277 ls (.inl (5) :: st) h Q := WP_step dL_law_276 rfl rfl rfl
theorem rL_law_277 {d : Nat} {h : Hp} {Q : Option PV → Hp → Prop} {st : List PV}{ls : List (Option PV)}{a b : Int} : WP d mL_law 277 ls (.inl b :: .inl a :: st) h Q = WP d mL_law 278 ls (.inl (w32 (a + b)) :: st) h Q := WP_step dL_law_277 rfl rfl rfl
theorem rL_law_278 {d : Nat} {h : Hp} {Q : Option PV → Hp → Prop} {st : List PV}{ls : List (Option PV)}{a : Nat} {z : Int} : WP d mL_law 278 ls (.inl z :: .inr (.inr a) :: st) h Q = ((hK h a).1 = 21 ∧ 0 ≤ z ∧ z < (hK h a).2 ∧ WP d mL_law 279 ls (.inl (hI h a z.toNat) :: st) h Q) := R_iald dL_law_278
theorem rL_law_279 {d : Nat} {h : Hp} {Q : Option PV → Hp → Prop} {ls : List (Option PV)}{r0 : PV}{v0 : Nat} {v1 : Int} {v2 : Int} {v3 : Int} {v4 : Int} {v5 : Int} : WP (d + 1) mL_law 279 ls (.inl v5 :: .inl v4 :: .inl v3 :: .inl v2 :: .inl v1 :: .inr (.inr v0) :: [r0]) h Q = ((hK h v0).1 = 12 ∧ WP d mX12_feed 0 [some (.inr (.inr v0)), some (.inl v1), some (.inl v2), some (.inl v3), some (.inl v4), some (.inl v5), none, none] [] h (fun r h' => WP (d + 1) mL_law 282 ls (psh r [r0]) h' Q)) := R_callV (st := .inl v5 :: .inl v4 :: .inl v3 :: .inl v2 :: .inl v1 :: .inr (.inr v0) :: [r0]) (M := mL_law) (pc := 279) (kd := 0) (n := 6) (M' := mX12_feed) (as := [.inl v5, .inl v4, .inl v3, .inl v2, .inl v1, .inr (.inr v0)]) (rest := [r0]) (en := [some (.inr (.inr v0)), some (.inl v1), some (.inl v2), some (.inl v3), some (.inl v4), some (.inl v5), none, none]) dL_law_279 rfl (Nat.le_of_ble_eq_true rfl) (Nat.le_of_ble_eq_true rfl) rfl rfl (Nat.le_of_ble_eq_true rfl) rfl rfl rfl
theorem rL_law_282 {d : Nat} {h : Hp} {Q : Option PV → Hp → Prop} {st : List PV}{ls : List (Option PV)}{a b : Int} : WP d mL_law 282 ls (.inl b :: .inl a :: st) h Q = (if a = b then WP d mL_law 1600 ls st h Q else WP d mL_law 285 ls st h Q) := R_icmp_eq dL_law_282 (by decide)
theorem rL_law_285 {d : Nat} {h : Hp} {Q : Option PV → Hp → Prop} {st : List PV}{ls : List (Option PV)} : WP d mL_law 285 ls st h Q = WP d mL_law 286 ls (.inl (0) :: st) h Q := WP_step dL_law_285 rfl rfl rfl
theorem rL_law_286 {d : Nat} {h : Hp} {Q : Option PV → Hp → Prop} {ls : List (Option PV)}{z : Int} : WP d mL_law 286 ls [.inl z] h Q = ((z = 0 ∨ z = 1) ∧ Q (some (.inl z)) h) := R_zret dL_law_286 rfl
theorem rL_law_287 {d : Nat} {h : Hp} {Q : Option PV → Hp → Prop} {st : List PV}{x0 : Option PV} {t : List (Option PV)} {v : Nat} : WP d mL_law 287 (x0 :: some (.inr (.inr v)) :: t) st h Q = WP d mL_law 288 (x0 :: some (.inr (.inr v)) :: t) (.inr (.inr v) :: st) h Q := WP_step dL_law_287 rfl rfl rfl
theorem rL_law_288 {d : Nat} {h : Hp} {Q : Option PV → Hp → Prop} {st : List PV}{t : List (Option PV)} {v : Nat} : WP d mL_law 288 (some (.inr (.inr v)) :: t) st h Q = WP d mL_law 289 (some (.inr (.inr v)) :: t) (.inr (.inr v) :: st) h Q := WP_step dL_law_288 rfl rfl rfl
theorem rL_law_289 {d : Nat} {h : Hp} {Q : Option PV → Hp → Prop} {st : List PV}{x0 x1 x2 : Option PV} {t : List (Option PV)} {v : Int} : WP d mL_law 289 (x0 :: x1 :: x2 :: some (.inl v) :: t) st h Q = WP d mL_law 290 (x0 :: x1 :: x2 :: some (.inl v) :: t) (.inl v :: st) h Q := WP_step dL_law_289 rfl rfl rfl
theorem rL_law_290 {d : Nat} {h : Hp} {Q : Option PV → Hp → Prop} {st : List PV}{ls : List (Option PV)} : WP d mL_law 290 ls st h Q = WP d mL_law 291 ls (.inl (1) :: st) h Q := WP_step dL_law_290 rfl rfl rfl
theorem rL_law_291 {d : Nat} {h : Hp} {Q : Option PV → Hp → Prop} {st : List PV}{ls : List (Option PV)}{a b : Int} : WP d mL_law 291 ls (.inl b :: .inl a :: st) h Q = WP d mL_law 292 ls (.inl (w32 (a + b)) :: st) h Q := WP_step dL_law_291 rfl rfl rfl
theorem rL_law_292 {d : Nat} {h : Hp} {Q : Option PV → Hp → Prop} {st : List PV}{ls : List (Option PV)}{a : Nat} {z : Int} : WP d mL_law 292 ls (.inl z :: .inr (.inr a) :: st) h Q = ((hK h a).1 = 21 ∧ 0 ≤ z ∧ z < (hK h a).2 ∧ WP d mL_law 293 ls (.inl (hI h a z.toNat) :: st) h Q) := R_iald dL_law_292
theorem rL_law_293 {d : Nat} {h : Hp} {Q : Option PV → Hp → Prop} {ls : List (Option PV)}{v0 : Nat} {v1 : Int} : WP (d + 1) mL_law 293 ls (.inl v1 :: .inr (.inr v0) :: []) h Q = ((hK h v0).1 = 11 ∧ WP d mX11_pool 0 [some (.inr (.inr v0)), some (.inl v1), none] [] h (fun r h' => WP (d + 1) mL_law 296 ls (psh r []) h' Q)) := R_callV (st := .inl v1 :: .inr (.inr v0) :: []) (M := mL_law) (pc := 293) (kd := 0) (n := 2) (M' := mX11_pool) (as := [.inl v1, .inr (.inr v0)]) (rest := []) (en := [some (.inr (.inr v0)), some (.inl v1), none]) dL_law_293 rfl (Nat.le_of_ble_eq_true rfl) (Nat.le_of_ble_eq_true rfl) rfl rfl (Nat.le_of_ble_eq_true rfl) rfl rfl rfl
theorem rL_law_296 {d : Nat} {h : Hp} {Q : Option PV → Hp → Prop} {st : List PV}{x0 x1 : Option PV} {t : List (Option PV)} {v : Nat} : WP d mL_law 296 (x0 :: x1 :: some (.inr (.inr v)) :: t) st h Q = WP d mL_law 297 (x0 :: x1 :: some (.inr (.inr v)) :: t) (.inr (.inr v) :: st) h Q := WP_step dL_law_296 rfl rfl rfl
theorem rL_law_297 {d : Nat} {h : Hp} {Q : Option PV → Hp → Prop} {st : List PV}{t : List (Option PV)} {v : Nat} : WP d mL_law 297 (some (.inr (.inr v)) :: t) st h Q = WP d mL_law 298 (some (.inr (.inr v)) :: t) (.inr (.inr v) :: st) h Q := WP_step dL_law_297 rfl rfl rfl
theorem rL_law_298 {d : Nat} {h : Hp} {Q : Option PV → Hp → Prop} {st : List PV}{x0 x1 x2 : Option PV} {t : List (Option PV)} {v : Int} : WP d mL_law 298 (x0 :: x1 :: x2 :: some (.inl v) :: t) st h Q = WP d mL_law 299 (x0 :: x1 :: x2 :: some (.inl v) :: t) (.inl v :: st) h Q := WP_step dL_law_298 rfl rfl rfl
theorem rL_law_299 {d : Nat} {h : Hp} {Q : Option PV → Hp → Prop} {st : List PV}{ls : List (Option PV)} : WP d mL_law 299 ls st h Q = WP d mL_law 300 ls (.inl (1) :: st) h Q := WP_step dL_law_299 rfl rfl rfl
theorem rL_law_300 {d : Nat} {h : Hp} {Q : Option PV → Hp → Prop} {st : List PV}{ls : List (Option PV)}{a b : Int} : WP d mL_law 300 ls (.inl b :: .inl a :: st) h Q = WP d mL_law 301 ls (.inl (w32 (a + b)) :: st) h Q := WP_step dL_law_300 rfl rfl rfl
theorem rL_law_301 {d : Nat} {h : Hp} {Q : Option PV → Hp → Prop} {st : List PV}{ls : List (Option PV)}{a : Nat} {z : Int} : WP d mL_law 301 ls (.inl z :: .inr (.inr a) :: st) h Q = ((hK h a).1 = 21 ∧ 0 ≤ z ∧ z < (hK h a).2 ∧ WP d mL_law 302 ls (.inl (hI h a z.toNat) :: st) h Q) := R_iald dL_law_301
theorem rL_law_302 {d : Nat} {h : Hp} {Q : Option PV → Hp → Prop} {ls : List (Option PV)}{r0 : PV}{v0 : Nat} {v1 : Int} : WP (d + 1) mL_law 302 ls (.inl v1 :: .inr (.inr v0) :: [r0]) h Q = ((hK h v0).1 = 12 ∧ WP d mX12_pool 0 [some (.inr (.inr v0)), some (.inl v1), none] [] h (fun r h' => WP (d + 1) mL_law 305 ls (psh r [r0]) h' Q)) := R_callV (st := .inl v1 :: .inr (.inr v0) :: [r0]) (M := mL_law) (pc := 302) (kd := 0) (n := 2) (M' := mX12_pool) (as := [.inl v1, .inr (.inr v0)]) (rest := [r0]) (en := [some (.inr (.inr v0)), some (.inl v1), none]) dL_law_302 rfl (Nat.le_of_ble_eq_true rfl) (Nat.le_of_ble_eq_true rfl) rfl rfl (Nat.le_of_ble_eq_true rfl) rfl rfl rfl
theorem rL_law_305 {d : Nat} {h : Hp} {Q : Option PV → Hp → Prop} {st : List PV}{ls : List (Option PV)}{a b : Int} : WP d mL_law 305 ls (.inl b :: .inl a :: st) h Q = (if a = b then WP d mL_law 1600 ls st h Q else WP d mL_law 308 ls st h Q) := R_icmp_eq dL_law_305 (by decide)
theorem rL_law_308 {d : Nat} {h : Hp} {Q : Option PV → Hp → Prop} {st : List PV}{ls : List (Option PV)} : WP d mL_law 308 ls st h Q = WP d mL_law 309 ls (.inl (0) :: st) h Q := WP_step dL_law_308 rfl rfl rfl
theorem rL_law_309 {d : Nat} {h : Hp} {Q : Option PV → Hp → Prop} {ls : List (Option PV)}{z : Int} : WP d mL_law 309 ls [.inl z] h Q = ((z = 0 ∨ z = 1) ∧ Q (some (.inl z)) h) := R_zret dL_law_309 rfl
theorem rL_law_310 {d : Nat} {h : Hp} {Q : Option PV → Hp → Prop} {st : List PV}{x0 : Option PV} {t : List (Option PV)} {v : Nat} : WP d mL_law 310 (x0 :: some (.inr (.inr v)) :: t) st h Q = WP d mL_law 311 (x0 :: some (.inr (.inr v)) :: t) (.inr (.inr v) :: st) h Q := WP_step dL_law_310 rfl rfl rfl
theorem rL_law_311 {d : Nat} {h : Hp} {Q : Option PV → Hp → Prop} {st : List PV}{t : List (Option PV)} {v : Nat} : WP d mL_law 311 (some (.inr (.inr v)) :: t) st h Q = WP d mL_law 312 (some (.inr (.inr v)) :: t) (.inr (.inr v) :: st) h Q := WP_step dL_law_311 rfl rfl rfl
theorem rL_law_312 {d : Nat} {h : Hp} {Q : Option PV → Hp → Prop} {st : List PV}{x0 x1 x2 : Option PV} {t : List (Option PV)} {v : Int} : WP d mL_law 312 (x0 :: x1 :: x2 :: some (.inl v) :: t) st h Q = WP d mL_law 313 (x0 :: x1 :: x2 :: some (.inl v) :: t) (.inl v :: st) h Q := WP_step dL_law_312 rfl rfl rfl
theorem rL_law_313 {d : Nat} {h : Hp} {Q : Option PV → Hp → Prop} {st : List PV}{ls : List (Option PV)} : WP d mL_law 313 ls st h Q = WP d mL_law 314 ls (.inl (1) :: st) h Q := WP_step dL_law_313 rfl rfl rfl
theorem rL_law_314 {d : Nat} {h : Hp} {Q : Option PV → Hp → Prop} {st : List PV}{ls : List (Option PV)}{a b : Int} : WP d mL_law 314 ls (.inl b :: .inl a :: st) h Q = WP d mL_law 315 ls (.inl (w32 (a + b)) :: st) h Q := WP_step dL_law_314 rfl rfl rfl
theorem rL_law_315 {d : Nat} {h : Hp} {Q : Option PV → Hp → Prop} {st : List PV}{ls : List (Option PV)}{a : Nat} {z : Int} : WP d mL_law 315 ls (.inl z :: .inr (.inr a) :: st) h Q = ((hK h a).1 = 21 ∧ 0 ≤ z ∧ z < (hK h a).2 ∧ WP d mL_law 316 ls (.inl (hI h a z.toNat) :: st) h Q) := R_iald dL_law_315
theorem rL_law_316 {d : Nat} {h : Hp} {Q : Option PV → Hp → Prop} {ls : List (Option PV)}{v0 : Nat} {v1 : Int} : WP (d + 1) mL_law 316 ls (.inl v1 :: .inr (.inr v0) :: []) h Q = ((hK h v0).1 = 11 ∧ WP d mX11_fault 0 [some (.inr (.inr v0)), some (.inl v1)] [] h (fun r h' => WP (d + 1) mL_law 319 ls (psh r []) h' Q)) := R_callV (st := .inl v1 :: .inr (.inr v0) :: []) (M := mL_law) (pc := 316) (kd := 0) (n := 2) (M' := mX11_fault) (as := [.inl v1, .inr (.inr v0)]) (rest := []) (en := [some (.inr (.inr v0)), some (.inl v1)]) dL_law_316 rfl (Nat.le_of_ble_eq_true rfl) (Nat.le_of_ble_eq_true rfl) rfl rfl (Nat.le_of_ble_eq_true rfl) rfl rfl rfl
theorem rL_law_319 {d : Nat} {h : Hp} {Q : Option PV → Hp → Prop} {st : List PV}{x0 x1 : Option PV} {t : List (Option PV)} {v : Nat} : WP d mL_law 319 (x0 :: x1 :: some (.inr (.inr v)) :: t) st h Q = WP d mL_law 320 (x0 :: x1 :: some (.inr (.inr v)) :: t) (.inr (.inr v) :: st) h Q := WP_step dL_law_319 rfl rfl rfl
theorem rL_law_320 {d : Nat} {h : Hp} {Q : Option PV → Hp → Prop} {st : List PV}{t : List (Option PV)} {v : Nat} : WP d mL_law 320 (some (.inr (.inr v)) :: t) st h Q = WP d mL_law 321 (some (.inr (.inr v)) :: t) (.inr (.inr v) :: st) h Q := WP_step dL_law_320 rfl rfl rfl
theorem rL_law_321 {d : Nat} {h : Hp} {Q : Option PV → Hp → Prop} {st : List PV}{x0 x1 x2 : Option PV} {t : List (Option PV)} {v : Int} : WP d mL_law 321 (x0 :: x1 :: x2 :: some (.inl v) :: t) st h Q = WP d mL_law 322 (x0 :: x1 :: x2 :: some (.inl v) :: t) (.inl v :: st) h Q := WP_step dL_law_321 rfl rfl rfl
theorem rL_law_322 {d : Nat} {h : Hp} {Q : Option PV → Hp → Prop} {st : List PV}{ls : List (Option PV)} : WP d mL_law 322 ls st h Q = WP d mL_law 323 ls (.inl (1) :: st) h Q := WP_step dL_law_322 rfl rfl rfl
theorem rL_law_323 {d : Nat} {h : Hp} {Q : Option PV → Hp → Prop} {st : List PV}{ls : List (Option PV)}{a b : Int} : WP d mL_law 323 ls (.inl b :: .inl a :: st) h Q = WP d mL_law 324 ls (.inl (w32 (a + b)) :: st) h Q := WP_step dL_law_323 rfl rfl rfl
theorem rL_law_324 {d : Nat} {h : Hp} {Q : Option PV → Hp → Prop} {st : List PV}{ls : List (Option PV)}{a : Nat} {z : Int} : WP d mL_law 324 ls (.inl z :: .inr (.inr a) :: st) h Q = ((hK h a).1 = 21 ∧ 0 ≤ z ∧ z < (hK h a).2 ∧ WP d mL_law 325 ls (.inl (hI h a z.toNat) :: st) h Q) := R_iald dL_law_324
theorem rL_law_325 {d : Nat} {h : Hp} {Q : Option PV → Hp → Prop} {ls : List (Option PV)}{r0 : PV}{v0 : Nat} {v1 : Int} : WP (d + 1) mL_law 325 ls (.inl v1 :: .inr (.inr v0) :: [r0]) h Q = ((hK h v0).1 = 12 ∧ WP d mX12_fault 0 [some (.inr (.inr v0)), some (.inl v1)] [] h (fun r h' => WP (d + 1) mL_law 328 ls (psh r [r0]) h' Q)) := R_callV (st := .inl v1 :: .inr (.inr v0) :: [r0]) (M := mL_law) (pc := 325) (kd := 0) (n := 2) (M' := mX12_fault) (as := [.inl v1, .inr (.inr v0)]) (rest := [r0]) (en := [some (.inr (.inr v0)), some (.inl v1)]) dL_law_325 rfl (Nat.le_of_ble_eq_true rfl) (Nat.le_of_ble_eq_true rfl) rfl rfl (Nat.le_of_ble_eq_true rfl) rfl rfl rfl
theorem rL_law_328 {d : Nat} {h : Hp} {Q : Option PV → Hp → Prop} {st : List PV}{ls : List (Option PV)}{a b : Int} : WP d mL_law 328 ls (.inl b :: .inl a :: st) h Q = (if a = b then WP d mL_law 1600 ls st h Q else WP d mL_law 331 ls st h Q) := R_icmp_eq dL_law_328 (by decide)
theorem rL_law_331 {d : Nat} {h : Hp} {Q : Option PV → Hp → Prop} {st : List PV}{ls : List (Option PV)} : WP d mL_law 331 ls st h Q = WP d mL_law 332 ls (.inl (0) :: st) h Q := WP_step dL_law_331 rfl rfl rfl
theorem rL_law_332 {d : Nat} {h : Hp} {Q : Option PV → Hp → Prop} {ls : List (Option PV)}{z : Int} : WP d mL_law 332 ls [.inl z] h Q = ((z = 0 ∨ z = 1) ∧ Q (some (.inl z)) h) := R_zret dL_law_332 rfl
theorem rL_law_333 {d : Nat} {h : Hp} {Q : Option PV → Hp → Prop} {st : List PV}{x0 : Option PV} {t : List (Option PV)} {v : Nat} : WP d mL_law 333 (x0 :: some (.inr (.inr v)) :: t) st h Q = WP d mL_law 334 (x0 :: some (.inr (.inr v)) :: t) (.inr (.inr v) :: st) h Q := WP_step dL_law_333 rfl rfl rfl
theorem rL_law_334 {d : Nat} {h : Hp} {Q : Option PV → Hp → Prop} {st : List PV}{t : List (Option PV)} {v : Nat} : WP d mL_law 334 (some (.inr (.inr v)) :: t) st h Q = WP d mL_law 335 (some (.inr (.inr v)) :: t) (.inr (.inr v) :: st) h Q := WP_step dL_law_334 rfl rfl rfl
theorem rL_law_335 {d : Nat} {h : Hp} {Q : Option PV → Hp → Prop} {st : List PV}{x0 x1 x2 : Option PV} {t : List (Option PV)} {v : Int} : WP d mL_law 335 (x0 :: x1 :: x2 :: some (.inl v) :: t) st h Q = WP d mL_law 336 (x0 :: x1 :: x2 :: some (.inl v) :: t) (.inl v :: st) h Q := WP_step dL_law_335 rfl rfl rfl
theorem rL_law_336 {d : Nat} {h : Hp} {Q : Option PV → Hp → Prop} {st : List PV}{ls : List (Option PV)} : WP d mL_law 336 ls st h Q = WP d mL_law 337 ls (.inl (1) :: st) h Q := WP_step dL_law_336 rfl rfl rfl
theorem rL_law_337 {d : Nat} {h : Hp} {Q : Option PV → Hp → Prop} {st : List PV}{ls : List (Option PV)}{a b : Int} : WP d mL_law 337 ls (.inl b :: .inl a :: st) h Q = WP d mL_law 338 ls (.inl (w32 (a + b)) :: st) h Q := WP_step dL_law_337 rfl rfl rfl
theorem rL_law_338 {d : Nat} {h : Hp} {Q : Option PV → Hp → Prop} {st : List PV}{ls : List (Option PV)}{a : Nat} {z : Int} : WP d mL_law 338 ls (.inl z :: .inr (.inr a) :: st) h Q = ((hK h a).1 = 21 ∧ 0 ≤ z ∧ z < (hK h a).2 ∧ WP d mL_law 339 ls (.inl (hI h a z.toNat) :: st) h Q) := R_iald dL_law_338
theorem rL_law_339 {d : Nat} {h : Hp} {Q : Option PV → Hp → Prop} {st : List PV}{t : List (Option PV)} {v : Nat} : WP d mL_law 339 (some (.inr (.inr v)) :: t) st h Q = WP d mL_law 340 (some (.inr (.inr v)) :: t) (.inr (.inr v) :: st) h Q := WP_step dL_law_339 rfl rfl rfl
theorem rL_law_340 {d : Nat} {h : Hp} {Q : Option PV → Hp → Prop} {st : List PV}{x0 x1 x2 : Option PV} {t : List (Option PV)} {v : Int} : WP d mL_law 340 (x0 :: x1 :: x2 :: some (.inl v) :: t) st h Q = WP d mL_law 341 (x0 :: x1 :: x2 :: some (.inl v) :: t) (.inl v :: st) h Q := WP_step dL_law_340 rfl rfl rfl
theorem rL_law_341 {d : Nat} {h : Hp} {Q : Option PV → Hp → Prop} {st : List PV}{ls : List (Option PV)} : WP d mL_law 341 ls st h Q = WP d mL_law 342 ls (.inl (2) :: st) h Q := WP_step dL_law_341 rfl rfl rfl
theorem rL_law_342 {d : Nat} {h : Hp} {Q : Option PV → Hp → Prop} {st : List PV}{ls : List (Option PV)}{a b : Int} : WP d mL_law 342 ls (.inl b :: .inl a :: st) h Q = WP d mL_law 343 ls (.inl (w32 (a + b)) :: st) h Q := WP_step dL_law_342 rfl rfl rfl
theorem rL_law_343 {d : Nat} {h : Hp} {Q : Option PV → Hp → Prop} {st : List PV}{ls : List (Option PV)}{a : Nat} {z : Int} : WP d mL_law 343 ls (.inl z :: .inr (.inr a) :: st) h Q = ((hK h a).1 = 21 ∧ 0 ≤ z ∧ z < (hK h a).2 ∧ WP d mL_law 344 ls (.inl (hI h a z.toNat) :: st) h Q) := R_iald dL_law_343
theorem rL_law_344 {d : Nat} {h : Hp} {Q : Option PV → Hp → Prop} {ls : List (Option PV)}{v0 : Nat} {v1 : Int} {v2 : Int} : WP (d + 1) mL_law 344 ls (.inl v2 :: .inl v1 :: .inr (.inr v0) :: []) h Q = ((hK h v0).1 = 11 ∧ WP d mX11_thing 0 [some (.inr (.inr v0)), some (.inl v1), some (.inl v2)] [] h (fun r h' => WP (d + 1) mL_law 347 ls (psh r []) h' Q)) := R_callV (st := .inl v2 :: .inl v1 :: .inr (.inr v0) :: []) (M := mL_law) (pc := 344) (kd := 0) (n := 3) (M' := mX11_thing) (as := [.inl v2, .inl v1, .inr (.inr v0)]) (rest := []) (en := [some (.inr (.inr v0)), some (.inl v1), some (.inl v2)]) dL_law_344 rfl (Nat.le_of_ble_eq_true rfl) (Nat.le_of_ble_eq_true rfl) rfl rfl (Nat.le_of_ble_eq_true rfl) rfl rfl rfl
theorem rL_law_347 {d : Nat} {h : Hp} {Q : Option PV → Hp → Prop} {st : List PV}{x0 x1 : Option PV} {t : List (Option PV)} {v : Nat} : WP d mL_law 347 (x0 :: x1 :: some (.inr (.inr v)) :: t) st h Q = WP d mL_law 348 (x0 :: x1 :: some (.inr (.inr v)) :: t) (.inr (.inr v) :: st) h Q := WP_step dL_law_347 rfl rfl rfl
theorem rL_law_348 {d : Nat} {h : Hp} {Q : Option PV → Hp → Prop} {st : List PV}{t : List (Option PV)} {v : Nat} : WP d mL_law 348 (some (.inr (.inr v)) :: t) st h Q = WP d mL_law 349 (some (.inr (.inr v)) :: t) (.inr (.inr v) :: st) h Q := WP_step dL_law_348 rfl rfl rfl
theorem rL_law_349 {d : Nat} {h : Hp} {Q : Option PV → Hp → Prop} {st : List PV}{x0 x1 x2 : Option PV} {t : List (Option PV)} {v : Int} : WP d mL_law 349 (x0 :: x1 :: x2 :: some (.inl v) :: t) st h Q = WP d mL_law 350 (x0 :: x1 :: x2 :: some (.inl v) :: t) (.inl v :: st) h Q := WP_step dL_law_349 rfl rfl rfl
theorem rL_law_350 {d : Nat} {h : Hp} {Q : Option PV → Hp → Prop} {st : List PV}{ls : List (Option PV)} : WP d mL_law 350 ls st h Q = WP d mL_law 351 ls (.inl (1) :: st) h Q := WP_step dL_law_350 rfl rfl rfl
theorem rL_law_351 {d : Nat} {h : Hp} {Q : Option PV → Hp → Prop} {st : List PV}{ls : List (Option PV)}{a b : Int} : WP d mL_law 351 ls (.inl b :: .inl a :: st) h Q = WP d mL_law 352 ls (.inl (w32 (a + b)) :: st) h Q := WP_step dL_law_351 rfl rfl rfl
theorem rL_law_352 {d : Nat} {h : Hp} {Q : Option PV → Hp → Prop} {st : List PV}{ls : List (Option PV)}{a : Nat} {z : Int} : WP d mL_law 352 ls (.inl z :: .inr (.inr a) :: st) h Q = ((hK h a).1 = 21 ∧ 0 ≤ z ∧ z < (hK h a).2 ∧ WP d mL_law 353 ls (.inl (hI h a z.toNat) :: st) h Q) := R_iald dL_law_352
theorem rL_law_353 {d : Nat} {h : Hp} {Q : Option PV → Hp → Prop} {st : List PV}{t : List (Option PV)} {v : Nat} : WP d mL_law 353 (some (.inr (.inr v)) :: t) st h Q = WP d mL_law 354 (some (.inr (.inr v)) :: t) (.inr (.inr v) :: st) h Q := WP_step dL_law_353 rfl rfl rfl
theorem rL_law_354 {d : Nat} {h : Hp} {Q : Option PV → Hp → Prop} {st : List PV}{x0 x1 x2 : Option PV} {t : List (Option PV)} {v : Int} : WP d mL_law 354 (x0 :: x1 :: x2 :: some (.inl v) :: t) st h Q = WP d mL_law 355 (x0 :: x1 :: x2 :: some (.inl v) :: t) (.inl v :: st) h Q := WP_step dL_law_354 rfl rfl rfl
theorem rL_law_355 {d : Nat} {h : Hp} {Q : Option PV → Hp → Prop} {st : List PV}{ls : List (Option PV)} : WP d mL_law 355 ls st h Q = WP d mL_law 356 ls (.inl (2) :: st) h Q := WP_step dL_law_355 rfl rfl rfl
theorem rL_law_356 {d : Nat} {h : Hp} {Q : Option PV → Hp → Prop} {st : List PV}{ls : List (Option PV)}{a b : Int} : WP d mL_law 356 ls (.inl b :: .inl a :: st) h Q = WP d mL_law 357 ls (.inl (w32 (a + b)) :: st) h Q := WP_step dL_law_356 rfl rfl rfl
theorem rL_law_357 {d : Nat} {h : Hp} {Q : Option PV → Hp → Prop} {st : List PV}{ls : List (Option PV)}{a : Nat} {z : Int} : WP d mL_law 357 ls (.inl z :: .inr (.inr a) :: st) h Q = ((hK h a).1 = 21 ∧ 0 ≤ z ∧ z < (hK h a).2 ∧ WP d mL_law 358 ls (.inl (hI h a z.toNat) :: st) h Q) := R_iald dL_law_357
theorem rL_law_358 {d : Nat} {h : Hp} {Q : Option PV → Hp → Prop} {ls : List (Option PV)}{r0 : PV}{v0 : Nat} {v1 : Int} {v2 : Int} : WP (d + 1) mL_law 358 ls (.inl v2 :: .inl v1 :: .inr (.inr v0) :: [r0]) h Q = ((hK h v0).1 = 12 ∧ WP d mX12_thing 0 [some (.inr (.inr v0)), some (.inl v1), some (.inl v2)] [] h (fun r h' => WP (d + 1) mL_law 361 ls (psh r [r0]) h' Q)) := R_callV (st := .inl v2 :: .inl v1 :: .inr (.inr v0) :: [r0]) (M := mL_law) (pc := 358) (kd := 0) (n := 3) (M' := mX12_thing) (as := [.inl v2, .inl v1, .inr (.inr v0)]) (rest := [r0]) (en := [some (.inr (.inr v0)), some (.inl v1), some (.inl v2)]) dL_law_358 rfl (Nat.le_of_ble_eq_true rfl) (Nat.le_of_ble_eq_true rfl) rfl rfl (Nat.le_of_ble_eq_true rfl) rfl rfl rfl
theorem rL_law_361 {d : Nat} {h : Hp} {Q : Option PV → Hp → Prop} {st : List PV}{ls : List (Option PV)}{a b : Int} : WP d mL_law 361 ls (.inl b :: .inl a :: st) h Q = (if a = b then WP d mL_law 1600 ls st h Q else WP d mL_law 364 ls st h Q) := R_icmp_eq dL_law_361 (by decide)
theorem rL_law_364 {d : Nat} {h : Hp} {Q : Option PV → Hp → Prop} {st : List PV}{ls : List (Option PV)} : WP d mL_law 364 ls st h Q = WP d mL_law 365 ls (.inl (0) :: st) h Q := WP_step dL_law_364 rfl rfl rfl
theorem rL_law_365 {d : Nat} {h : Hp} {Q : Option PV → Hp → Prop} {ls : List (Option PV)}{z : Int} : WP d mL_law 365 ls [.inl z] h Q = ((z = 0 ∨ z = 1) ∧ Q (some (.inl z)) h) := R_zret dL_law_365 rfl
theorem rL_law_366 {d : Nat} {h : Hp} {Q : Option PV → Hp → Prop} {st : List PV}{x0 : Option PV} {t : List (Option PV)} {v : Nat} : WP d mL_law 366 (x0 :: some (.inr (.inr v)) :: t) st h Q = WP d mL_law 367 (x0 :: some (.inr (.inr v)) :: t) (.inr (.inr v) :: st) h Q := WP_step dL_law_366 rfl rfl rfl
theorem rL_law_367 {d : Nat} {h : Hp} {Q : Option PV → Hp → Prop} {st : List PV}{t : List (Option PV)} {v : Nat} : WP d mL_law 367 (some (.inr (.inr v)) :: t) st h Q = WP d mL_law 368 (some (.inr (.inr v)) :: t) (.inr (.inr v) :: st) h Q := WP_step dL_law_367 rfl rfl rfl
theorem rL_law_368 {d : Nat} {h : Hp} {Q : Option PV → Hp → Prop} {st : List PV}{x0 x1 x2 : Option PV} {t : List (Option PV)} {v : Int} : WP d mL_law 368 (x0 :: x1 :: x2 :: some (.inl v) :: t) st h Q = WP d mL_law 369 (x0 :: x1 :: x2 :: some (.inl v) :: t) (.inl v :: st) h Q := WP_step dL_law_368 rfl rfl rfl
theorem rL_law_369 {d : Nat} {h : Hp} {Q : Option PV → Hp → Prop} {st : List PV}{ls : List (Option PV)} : WP d mL_law 369 ls st h Q = WP d mL_law 370 ls (.inl (1) :: st) h Q := WP_step dL_law_369 rfl rfl rfl
theorem rL_law_370 {d : Nat} {h : Hp} {Q : Option PV → Hp → Prop} {st : List PV}{ls : List (Option PV)}{a b : Int} : WP d mL_law 370 ls (.inl b :: .inl a :: st) h Q = WP d mL_law 371 ls (.inl (w32 (a + b)) :: st) h Q := WP_step dL_law_370 rfl rfl rfl
theorem rL_law_371 {d : Nat} {h : Hp} {Q : Option PV → Hp → Prop} {st : List PV}{ls : List (Option PV)}{a : Nat} {z : Int} : WP d mL_law 371 ls (.inl z :: .inr (.inr a) :: st) h Q = ((hK h a).1 = 21 ∧ 0 ≤ z ∧ z < (hK h a).2 ∧ WP d mL_law 372 ls (.inl (hI h a z.toNat) :: st) h Q) := R_iald dL_law_371
theorem rL_law_372 {d : Nat} {h : Hp} {Q : Option PV → Hp → Prop} {st : List PV}{t : List (Option PV)} {v : Nat} : WP d mL_law 372 (some (.inr (.inr v)) :: t) st h Q = WP d mL_law 373 (some (.inr (.inr v)) :: t) (.inr (.inr v) :: st) h Q := WP_step dL_law_372 rfl rfl rfl
theorem rL_law_373 {d : Nat} {h : Hp} {Q : Option PV → Hp → Prop} {st : List PV}{x0 x1 x2 : Option PV} {t : List (Option PV)} {v : Int} : WP d mL_law 373 (x0 :: x1 :: x2 :: some (.inl v) :: t) st h Q = WP d mL_law 374 (x0 :: x1 :: x2 :: some (.inl v) :: t) (.inl v :: st) h Q := WP_step dL_law_373 rfl rfl rfl
theorem rL_law_374 {d : Nat} {h : Hp} {Q : Option PV → Hp → Prop} {st : List PV}{ls : List (Option PV)} : WP d mL_law 374 ls st h Q = WP d mL_law 375 ls (.inl (2) :: st) h Q := WP_step dL_law_374 rfl rfl rfl
theorem rL_law_375 {d : Nat} {h : Hp} {Q : Option PV → Hp → Prop} {st : List PV}{ls : List (Option PV)}{a b : Int} : WP d mL_law 375 ls (.inl b :: .inl a :: st) h Q = WP d mL_law 376 ls (.inl (w32 (a + b)) :: st) h Q := WP_step dL_law_375 rfl rfl rfl
theorem rL_law_376 {d : Nat} {h : Hp} {Q : Option PV → Hp → Prop} {st : List PV}{ls : List (Option PV)}{a : Nat} {z : Int} : WP d mL_law 376 ls (.inl z :: .inr (.inr a) :: st) h Q = ((hK h a).1 = 21 ∧ 0 ≤ z ∧ z < (hK h a).2 ∧ WP d mL_law 377 ls (.inl (hI h a z.toNat) :: st) h Q) := R_iald dL_law_376
theorem rL_law_377 {d : Nat} {h : Hp} {Q : Option PV → Hp → Prop} {ls : List (Option PV)}{v0 : Nat} {v1 : Int} {v2 : Int} : WP (d + 1) mL_law 377 ls (.inl v2 :: .inl v1 :: .inr (.inr v0) :: []) h Q = ((hK h v0).1 = 11 ∧ WP d mX11_goer 0 [some (.inr (.inr v0)), some (.inl v1), some (.inl v2)] [] h (fun r h' => WP (d + 1) mL_law 380 ls (psh r []) h' Q)) := R_callV (st := .inl v2 :: .inl v1 :: .inr (.inr v0) :: []) (M := mL_law) (pc := 377) (kd := 0) (n := 3) (M' := mX11_goer) (as := [.inl v2, .inl v1, .inr (.inr v0)]) (rest := []) (en := [some (.inr (.inr v0)), some (.inl v1), some (.inl v2)]) dL_law_377 rfl (Nat.le_of_ble_eq_true rfl) (Nat.le_of_ble_eq_true rfl) rfl rfl (Nat.le_of_ble_eq_true rfl) rfl rfl rfl
theorem rL_law_380 {d : Nat} {h : Hp} {Q : Option PV → Hp → Prop} {st : List PV}{x0 x1 : Option PV} {t : List (Option PV)} {v : Nat} : WP d mL_law 380 (x0 :: x1 :: some (.inr (.inr v)) :: t) st h Q = WP d mL_law 381 (x0 :: x1 :: some (.inr (.inr v)) :: t) (.inr (.inr v) :: st) h Q := WP_step dL_law_380 rfl rfl rfl
theorem rL_law_381 {d : Nat} {h : Hp} {Q : Option PV → Hp → Prop} {st : List PV}{t : List (Option PV)} {v : Nat} : WP d mL_law 381 (some (.inr (.inr v)) :: t) st h Q = WP d mL_law 382 (some (.inr (.inr v)) :: t) (.inr (.inr v) :: st) h Q := WP_step dL_law_381 rfl rfl rfl
theorem rL_law_382 {d : Nat} {h : Hp} {Q : Option PV → Hp → Prop} {st : List PV}{x0 x1 x2 : Option PV} {t : List (Option PV)} {v : Int} : WP d mL_law 382 (x0 :: x1 :: x2 :: some (.inl v) :: t) st h Q = WP d mL_law 383 (x0 :: x1 :: x2 :: some (.inl v) :: t) (.inl v :: st) h Q := WP_step dL_law_382 rfl rfl rfl
theorem rL_law_383 {d : Nat} {h : Hp} {Q : Option PV → Hp → Prop} {st : List PV}{ls : List (Option PV)} : WP d mL_law 383 ls st h Q = WP d mL_law 384 ls (.inl (1) :: st) h Q := WP_step dL_law_383 rfl rfl rfl
theorem rL_law_384 {d : Nat} {h : Hp} {Q : Option PV → Hp → Prop} {st : List PV}{ls : List (Option PV)}{a b : Int} : WP d mL_law 384 ls (.inl b :: .inl a :: st) h Q = WP d mL_law 385 ls (.inl (w32 (a + b)) :: st) h Q := WP_step dL_law_384 rfl rfl rfl
theorem rL_law_385 {d : Nat} {h : Hp} {Q : Option PV → Hp → Prop} {st : List PV}{ls : List (Option PV)}{a : Nat} {z : Int} : WP d mL_law 385 ls (.inl z :: .inr (.inr a) :: st) h Q = ((hK h a).1 = 21 ∧ 0 ≤ z ∧ z < (hK h a).2 ∧ WP d mL_law 386 ls (.inl (hI h a z.toNat) :: st) h Q) := R_iald dL_law_385
theorem rL_law_386 {d : Nat} {h : Hp} {Q : Option PV → Hp → Prop} {st : List PV}{t : List (Option PV)} {v : Nat} : WP d mL_law 386 (some (.inr (.inr v)) :: t) st h Q = WP d mL_law 387 (some (.inr (.inr v)) :: t) (.inr (.inr v) :: st) h Q := WP_step dL_law_386 rfl rfl rfl
theorem rL_law_387 {d : Nat} {h : Hp} {Q : Option PV → Hp → Prop} {st : List PV}{x0 x1 x2 : Option PV} {t : List (Option PV)} {v : Int} : WP d mL_law 387 (x0 :: x1 :: x2 :: some (.inl v) :: t) st h Q = WP d mL_law 388 (x0 :: x1 :: x2 :: some (.inl v) :: t) (.inl v :: st) h Q := WP_step dL_law_387 rfl rfl rfl
theorem rL_law_388 {d : Nat} {h : Hp} {Q : Option PV → Hp → Prop} {st : List PV}{ls : List (Option PV)} : WP d mL_law 388 ls st h Q = WP d mL_law 389 ls (.inl (2) :: st) h Q := WP_step dL_law_388 rfl rfl rfl
theorem rL_law_389 {d : Nat} {h : Hp} {Q : Option PV → Hp → Prop} {st : List PV}{ls : List (Option PV)}{a b : Int} : WP d mL_law 389 ls (.inl b :: .inl a :: st) h Q = WP d mL_law 390 ls (.inl (w32 (a + b)) :: st) h Q := WP_step dL_law_389 rfl rfl rfl
theorem rL_law_390 {d : Nat} {h : Hp} {Q : Option PV → Hp → Prop} {st : List PV}{ls : List (Option PV)}{a : Nat} {z : Int} : WP d mL_law 390 ls (.inl z :: .inr (.inr a) :: st) h Q = ((hK h a).1 = 21 ∧ 0 ≤ z ∧ z < (hK h a).2 ∧ WP d mL_law 391 ls (.inl (hI h a z.toNat) :: st) h Q) := R_iald dL_law_390
theorem rL_law_391 {d : Nat} {h : Hp} {Q : Option PV → Hp → Prop} {ls : List (Option PV)}{r0 : PV}{v0 : Nat} {v1 : Int} {v2 : Int} : WP (d + 1) mL_law 391 ls (.inl v2 :: .inl v1 :: .inr (.inr v0) :: [r0]) h Q = ((hK h v0).1 = 12 ∧ WP d mX12_goer 0 [some (.inr (.inr v0)), some (.inl v1), some (.inl v2)] [] h (fun r h' => WP (d + 1) mL_law 394 ls (psh r [r0]) h' Q)) := R_callV (st := .inl v2 :: .inl v1 :: .inr (.inr v0) :: [r0]) (M := mL_law) (pc := 391) (kd := 0) (n := 3) (M' := mX12_goer) (as := [.inl v2, .inl v1, .inr (.inr v0)]) (rest := [r0]) (en := [some (.inr (.inr v0)), some (.inl v1), some (.inl v2)]) dL_law_391 rfl (Nat.le_of_ble_eq_true rfl) (Nat.le_of_ble_eq_true rfl) rfl rfl (Nat.le_of_ble_eq_true rfl) rfl rfl rfl
theorem rL_law_394 {d : Nat} {h : Hp} {Q : Option PV → Hp → Prop} {st : List PV}{ls : List (Option PV)}{a b : Int} : WP d mL_law 394 ls (.inl b :: .inl a :: st) h Q = (if a = b then WP d mL_law 1600 ls st h Q else WP d mL_law 397 ls st h Q) := R_icmp_eq dL_law_394 (by decide)
theorem rL_law_397 {d : Nat} {h : Hp} {Q : Option PV → Hp → Prop} {st : List PV}{ls : List (Option PV)} : WP d mL_law 397 ls st h Q = WP d mL_law 398 ls (.inl (0) :: st) h Q := WP_step dL_law_397 rfl rfl rfl
theorem rL_law_398 {d : Nat} {h : Hp} {Q : Option PV → Hp → Prop} {ls : List (Option PV)}{z : Int} : WP d mL_law 398 ls [.inl z] h Q = ((z = 0 ∨ z = 1) ∧ Q (some (.inl z)) h) := R_zret dL_law_398 rfl
theorem rL_law_399 {d : Nat} {h : Hp} {Q : Option PV → Hp → Prop} {st : List PV}{x0 : Option PV} {t : List (Option PV)} {v : Nat} : WP d mL_law 399 (x0 :: some (.inr (.inr v)) :: t) st h Q = WP d mL_law 400 (x0 :: some (.inr (.inr v)) :: t) (.inr (.inr v) :: st) h Q := WP_step dL_law_399 rfl rfl rfl
theorem rL_law_400 {d : Nat} {h : Hp} {Q : Option PV → Hp → Prop} {st : List PV}{t : List (Option PV)} {v : Nat} : WP d mL_law 400 (some (.inr (.inr v)) :: t) st h Q = WP d mL_law 401 (some (.inr (.inr v)) :: t) (.inr (.inr v) :: st) h Q := WP_step dL_law_400 rfl rfl rfl
theorem rL_law_401 {d : Nat} {h : Hp} {Q : Option PV → Hp → Prop} {st : List PV}{x0 x1 x2 : Option PV} {t : List (Option PV)} {v : Int} : WP d mL_law 401 (x0 :: x1 :: x2 :: some (.inl v) :: t) st h Q = WP d mL_law 402 (x0 :: x1 :: x2 :: some (.inl v) :: t) (.inl v :: st) h Q := WP_step dL_law_401 rfl rfl rfl
theorem rL_law_402 {d : Nat} {h : Hp} {Q : Option PV → Hp → Prop} {st : List PV}{ls : List (Option PV)} : WP d mL_law 402 ls st h Q = WP d mL_law 403 ls (.inl (1) :: st) h Q := WP_step dL_law_402 rfl rfl rfl
theorem rL_law_403 {d : Nat} {h : Hp} {Q : Option PV → Hp → Prop} {st : List PV}{ls : List (Option PV)}{a b : Int} : WP d mL_law 403 ls (.inl b :: .inl a :: st) h Q = WP d mL_law 404 ls (.inl (w32 (a + b)) :: st) h Q := WP_step dL_law_403 rfl rfl rfl
theorem rL_law_404 {d : Nat} {h : Hp} {Q : Option PV → Hp → Prop} {st : List PV}{ls : List (Option PV)}{a : Nat} {z : Int} : WP d mL_law 404 ls (.inl z :: .inr (.inr a) :: st) h Q = ((hK h a).1 = 21 ∧ 0 ≤ z ∧ z < (hK h a).2 ∧ WP d mL_law 405 ls (.inl (hI h a z.toNat) :: st) h Q) := R_iald dL_law_404
theorem rL_law_405 {d : Nat} {h : Hp} {Q : Option PV → Hp → Prop} {ls : List (Option PV)}{v0 : Nat} {v1 : Int} : WP (d + 1) mL_law 405 ls (.inl v1 :: .inr (.inr v0) :: []) h Q = ((hK h v0).1 = 11 ∧ WP d mX11_shows 0 [some (.inr (.inr v0)), some (.inl v1)] [] h (fun r h' => WP (d + 1) mL_law 408 ls (psh r []) h' Q)) := R_callV (st := .inl v1 :: .inr (.inr v0) :: []) (M := mL_law) (pc := 405) (kd := 0) (n := 2) (M' := mX11_shows) (as := [.inl v1, .inr (.inr v0)]) (rest := []) (en := [some (.inr (.inr v0)), some (.inl v1)]) dL_law_405 rfl (Nat.le_of_ble_eq_true rfl) (Nat.le_of_ble_eq_true rfl) rfl rfl (Nat.le_of_ble_eq_true rfl) rfl rfl rfl
theorem rL_law_408 {d : Nat} {h : Hp} {Q : Option PV → Hp → Prop} {st : List PV}{x0 x1 : Option PV} {t : List (Option PV)} {v : Nat} : WP d mL_law 408 (x0 :: x1 :: some (.inr (.inr v)) :: t) st h Q = WP d mL_law 409 (x0 :: x1 :: some (.inr (.inr v)) :: t) (.inr (.inr v) :: st) h Q := WP_step dL_law_408 rfl rfl rfl
theorem rL_law_409 {d : Nat} {h : Hp} {Q : Option PV → Hp → Prop} {st : List PV}{t : List (Option PV)} {v : Nat} : WP d mL_law 409 (some (.inr (.inr v)) :: t) st h Q = WP d mL_law 410 (some (.inr (.inr v)) :: t) (.inr (.inr v) :: st) h Q := WP_step dL_law_409 rfl rfl rfl
theorem rL_law_410 {d : Nat} {h : Hp} {Q : Option PV → Hp → Prop} {st : List PV}{x0 x1 x2 : Option PV} {t : List (Option PV)} {v : Int} : WP d mL_law 410 (x0 :: x1 :: x2 :: some (.inl v) :: t) st h Q = WP d mL_law 411 (x0 :: x1 :: x2 :: some (.inl v) :: t) (.inl v :: st) h Q := WP_step dL_law_410 rfl rfl rfl
theorem rL_law_411 {d : Nat} {h : Hp} {Q : Option PV → Hp → Prop} {st : List PV}{ls : List (Option PV)} : WP d mL_law 411 ls st h Q = WP d mL_law 412 ls (.inl (1) :: st) h Q := WP_step dL_law_411 rfl rfl rfl
theorem rL_law_412 {d : Nat} {h : Hp} {Q : Option PV → Hp → Prop} {st : List PV}{ls : List (Option PV)}{a b : Int} : WP d mL_law 412 ls (.inl b :: .inl a :: st) h Q = WP d mL_law 413 ls (.inl (w32 (a + b)) :: st) h Q := WP_step dL_law_412 rfl rfl rfl
theorem rL_law_413 {d : Nat} {h : Hp} {Q : Option PV → Hp → Prop} {st : List PV}{ls : List (Option PV)}{a : Nat} {z : Int} : WP d mL_law 413 ls (.inl z :: .inr (.inr a) :: st) h Q = ((hK h a).1 = 21 ∧ 0 ≤ z ∧ z < (hK h a).2 ∧ WP d mL_law 414 ls (.inl (hI h a z.toNat) :: st) h Q) := R_iald dL_law_413
theorem rL_law_414 {d : Nat} {h : Hp} {Q : Option PV → Hp → Prop} {ls : List (Option PV)}{r0 : PV}{v0 : Nat} {v1 : Int} : WP (d + 1) mL_law 414 ls (.inl v1 :: .inr (.inr v0) :: [r0]) h Q = ((hK h v0).1 = 12 ∧ WP d mX12_shows 0 [some (.inr (.inr v0)), some (.inl v1)] [] h (fun r h' => WP (d + 1) mL_law 417 ls (psh r [r0]) h' Q)) := R_callV (st := .inl v1 :: .inr (.inr v0) :: [r0]) (M := mL_law) (pc := 414) (kd := 0) (n := 2) (M' := mX12_shows) (as := [.inl v1, .inr (.inr v0)]) (rest := [r0]) (en := [some (.inr (.inr v0)), some (.inl v1)]) dL_law_414 rfl (Nat.le_of_ble_eq_true rfl) (Nat.le_of_ble_eq_true rfl) rfl rfl (Nat.le_of_ble_eq_true rfl) rfl rfl rfl
theorem rL_law_417 {d : Nat} {h : Hp} {Q : Option PV → Hp → Prop} {st : List PV}{ls : List (Option PV)}{a b : Int} : WP d mL_law 417 ls (.inl b :: .inl a :: st) h Q = (if a = b then WP d mL_law 1600 ls st h Q else WP d mL_law 420 ls st h Q) := R_icmp_eq dL_law_417 (by decide)
theorem rL_law_420 {d : Nat} {h : Hp} {Q : Option PV → Hp → Prop} {st : List PV}{ls : List (Option PV)} : WP d mL_law 420 ls st h Q = WP d mL_law 421 ls (.inl (0) :: st) h Q := WP_step dL_law_420 rfl rfl rfl
theorem rL_law_421 {d : Nat} {h : Hp} {Q : Option PV → Hp → Prop} {ls : List (Option PV)}{z : Int} : WP d mL_law 421 ls [.inl z] h Q = ((z = 0 ∨ z = 1) ∧ Q (some (.inl z)) h) := R_zret dL_law_421 rfl
theorem rL_law_422 {d : Nat} {h : Hp} {Q : Option PV → Hp → Prop} {st : List PV}{x0 : Option PV} {t : List (Option PV)} {v : Nat} : WP d mL_law 422 (x0 :: some (.inr (.inr v)) :: t) st h Q = WP d mL_law 423 (x0 :: some (.inr (.inr v)) :: t) (.inr (.inr v) :: st) h Q := WP_step dL_law_422 rfl rfl rfl
theorem rL_law_423 {d : Nat} {h : Hp} {Q : Option PV → Hp → Prop} {ls : List (Option PV)}{v0 : Nat} : WP (d + 1) mL_law 423 ls (.inr (.inr v0) :: []) h Q = ((hK h v0).1 = 11 ∧ WP d mX11_truthful 0 [some (.inr (.inr v0)), none, none] [] h (fun r h' => WP (d + 1) mL_law 426 ls (psh r []) h' Q)) := R_callV (st := .inr (.inr v0) :: []) (M := mL_law) (pc := 423) (kd := 0) (n := 1) (M' := mX11_truthful) (as := [.inr (.inr v0)]) (rest := []) (en := [some (.inr (.inr v0)), none, none]) dL_law_423 rfl (Nat.le_of_ble_eq_true rfl) (Nat.le_of_ble_eq_true rfl) rfl rfl (Nat.le_of_ble_eq_true rfl) rfl rfl rfl
theorem rL_law_426 {d : Nat} {h : Hp} {Q : Option PV → Hp → Prop} {st : List PV}{x0 x1 : Option PV} {t : List (Option PV)} {v : Nat} : WP d mL_law 426 (x0 :: x1 :: some (.inr (.inr v)) :: t) st h Q = WP d mL_law 427 (x0 :: x1 :: some (.inr (.inr v)) :: t) (.inr (.inr v) :: st) h Q := WP_step dL_law_426 rfl rfl rfl
theorem rL_law_427 {d : Nat} {h : Hp} {Q : Option PV → Hp → Prop} {ls : List (Option PV)}{r0 : PV}{v0 : Nat} : WP (d + 1) mL_law 427 ls (.inr (.inr v0) :: [r0]) h Q = ((hK h v0).1 = 12 ∧ WP d mX12_truthful 0 [some (.inr (.inr v0)), none, none] [] h (fun r h' => WP (d + 1) mL_law 430 ls (psh r [r0]) h' Q)) := R_callV (st := .inr (.inr v0) :: [r0]) (M := mL_law) (pc := 427) (kd := 0) (n := 1) (M' := mX12_truthful) (as := [.inr (.inr v0)]) (rest := [r0]) (en := [some (.inr (.inr v0)), none, none]) dL_law_427 rfl (Nat.le_of_ble_eq_true rfl) (Nat.le_of_ble_eq_true rfl) rfl rfl (Nat.le_of_ble_eq_true rfl) rfl rfl rfl
theorem rL_law_430 {d : Nat} {h : Hp} {Q : Option PV → Hp → Prop} {st : List PV}{ls : List (Option PV)}{a b : Int} : WP d mL_law 430 ls (.inl b :: .inl a :: st) h Q = (if a = b then WP d mL_law 1600 ls st h Q else WP d mL_law 433 ls st h Q) := R_icmp_eq dL_law_430 (by decide)
theorem rL_law_433 {d : Nat} {h : Hp} {Q : Option PV → Hp → Prop} {st : List PV}{ls : List (Option PV)} : WP d mL_law 433 ls st h Q = WP d mL_law 434 ls (.inl (0) :: st) h Q := WP_step dL_law_433 rfl rfl rfl
theorem rL_law_434 {d : Nat} {h : Hp} {Q : Option PV → Hp → Prop} {ls : List (Option PV)}{z : Int} : WP d mL_law 434 ls [.inl z] h Q = ((z = 0 ∨ z = 1) ∧ Q (some (.inl z)) h) := R_zret dL_law_434 rfl
theorem rL_law_435 {d : Nat} {h : Hp} {Q : Option PV → Hp → Prop} {st : List PV}{x0 : Option PV} {t : List (Option PV)} {v : Nat} : WP d mL_law 435 (x0 :: some (.inr (.inr v)) :: t) st h Q = WP d mL_law 436 (x0 :: some (.inr (.inr v)) :: t) (.inr (.inr v) :: st) h Q := WP_step dL_law_435 rfl rfl rfl
theorem rL_law_436 {d : Nat} {h : Hp} {Q : Option PV → Hp → Prop} {st : List PV}{t : List (Option PV)} {v : Nat} : WP d mL_law 436 (some (.inr (.inr v)) :: t) st h Q = WP d mL_law 437 (some (.inr (.inr v)) :: t) (.inr (.inr v) :: st) h Q := WP_step dL_law_436 rfl rfl rfl
theorem rL_law_437 {d : Nat} {h : Hp} {Q : Option PV → Hp → Prop} {st : List PV}{x0 x1 x2 : Option PV} {t : List (Option PV)} {v : Int} : WP d mL_law 437 (x0 :: x1 :: x2 :: some (.inl v) :: t) st h Q = WP d mL_law 438 (x0 :: x1 :: x2 :: some (.inl v) :: t) (.inl v :: st) h Q := WP_step dL_law_437 rfl rfl rfl
theorem rL_law_438 {d : Nat} {h : Hp} {Q : Option PV → Hp → Prop} {st : List PV}{ls : List (Option PV)} : WP d mL_law 438 ls st h Q = WP d mL_law 439 ls (.inl (1) :: st) h Q := WP_step dL_law_438 rfl rfl rfl
theorem rL_law_439 {d : Nat} {h : Hp} {Q : Option PV → Hp → Prop} {st : List PV}{ls : List (Option PV)}{a b : Int} : WP d mL_law 439 ls (.inl b :: .inl a :: st) h Q = WP d mL_law 440 ls (.inl (w32 (a + b)) :: st) h Q := WP_step dL_law_439 rfl rfl rfl
theorem rL_law_440 {d : Nat} {h : Hp} {Q : Option PV → Hp → Prop} {st : List PV}{ls : List (Option PV)}{a : Nat} {z : Int} : WP d mL_law 440 ls (.inl z :: .inr (.inr a) :: st) h Q = ((hK h a).1 = 21 ∧ 0 ≤ z ∧ z < (hK h a).2 ∧ WP d mL_law 441 ls (.inl (hI h a z.toNat) :: st) h Q) := R_iald dL_law_440
theorem rL_law_441 {d : Nat} {h : Hp} {Q : Option PV → Hp → Prop} {ls : List (Option PV)}{v0 : Nat} {v1 : Int} : WP (d + 1) mL_law 441 ls (.inl v1 :: .inr (.inr v0) :: []) h Q = ((hK h v0).1 = 11 ∧ WP d mX11_dive 0 [some (.inr (.inr v0)), some (.inl v1), none] [] h (fun r h' => WP (d + 1) mL_law 444 ls (psh r []) h' Q)) := R_callV (st := .inl v1 :: .inr (.inr v0) :: []) (M := mL_law) (pc := 441) (kd := 0) (n := 2) (M' := mX11_dive) (as := [.inl v1, .inr (.inr v0)]) (rest := []) (en := [some (.inr (.inr v0)), some (.inl v1), none]) dL_law_441 rfl (Nat.le_of_ble_eq_true rfl) (Nat.le_of_ble_eq_true rfl) rfl rfl (Nat.le_of_ble_eq_true rfl) rfl rfl rfl
theorem rL_law_444 {d : Nat} {h : Hp} {Q : Option PV → Hp → Prop} {st : List PV}{x0 x1 : Option PV} {t : List (Option PV)} {v : Nat} : WP d mL_law 444 (x0 :: x1 :: some (.inr (.inr v)) :: t) st h Q = WP d mL_law 445 (x0 :: x1 :: some (.inr (.inr v)) :: t) (.inr (.inr v) :: st) h Q := WP_step dL_law_444 rfl rfl rfl
theorem rL_law_445 {d : Nat} {h : Hp} {Q : Option PV → Hp → Prop} {st : List PV}{t : List (Option PV)} {v : Nat} : WP d mL_law 445 (some (.inr (.inr v)) :: t) st h Q = WP d mL_law 446 (some (.inr (.inr v)) :: t) (.inr (.inr v) :: st) h Q := WP_step dL_law_445 rfl rfl rfl
theorem rL_law_446 {d : Nat} {h : Hp} {Q : Option PV → Hp → Prop} {st : List PV}{x0 x1 x2 : Option PV} {t : List (Option PV)} {v : Int} : WP d mL_law 446 (x0 :: x1 :: x2 :: some (.inl v) :: t) st h Q = WP d mL_law 447 (x0 :: x1 :: x2 :: some (.inl v) :: t) (.inl v :: st) h Q := WP_step dL_law_446 rfl rfl rfl
theorem rL_law_447 {d : Nat} {h : Hp} {Q : Option PV → Hp → Prop} {st : List PV}{ls : List (Option PV)} : WP d mL_law 447 ls st h Q = WP d mL_law 448 ls (.inl (1) :: st) h Q := WP_step dL_law_447 rfl rfl rfl
theorem rL_law_448 {d : Nat} {h : Hp} {Q : Option PV → Hp → Prop} {st : List PV}{ls : List (Option PV)}{a b : Int} : WP d mL_law 448 ls (.inl b :: .inl a :: st) h Q = WP d mL_law 449 ls (.inl (w32 (a + b)) :: st) h Q := WP_step dL_law_448 rfl rfl rfl
theorem rL_law_449 {d : Nat} {h : Hp} {Q : Option PV → Hp → Prop} {st : List PV}{ls : List (Option PV)}{a : Nat} {z : Int} : WP d mL_law 449 ls (.inl z :: .inr (.inr a) :: st) h Q = ((hK h a).1 = 21 ∧ 0 ≤ z ∧ z < (hK h a).2 ∧ WP d mL_law 450 ls (.inl (hI h a z.toNat) :: st) h Q) := R_iald dL_law_449
theorem rL_law_450 {d : Nat} {h : Hp} {Q : Option PV → Hp → Prop} {ls : List (Option PV)}{r0 : PV}{v0 : Nat} {v1 : Int} : WP (d + 1) mL_law 450 ls (.inl v1 :: .inr (.inr v0) :: [r0]) h Q = ((hK h v0).1 = 12 ∧ WP d mX12_dive 0 [some (.inr (.inr v0)), some (.inl v1)] [] h (fun r h' => WP (d + 1) mL_law 453 ls (psh r [r0]) h' Q)) := R_callV (st := .inl v1 :: .inr (.inr v0) :: [r0]) (M := mL_law) (pc := 450) (kd := 0) (n := 2) (M' := mX12_dive) (as := [.inl v1, .inr (.inr v0)]) (rest := [r0]) (en := [some (.inr (.inr v0)), some (.inl v1)]) dL_law_450 rfl (Nat.le_of_ble_eq_true rfl) (Nat.le_of_ble_eq_true rfl) rfl rfl (Nat.le_of_ble_eq_true rfl) rfl rfl rfl
theorem rL_law_453 {d : Nat} {h : Hp} {Q : Option PV → Hp → Prop} {st : List PV}{ls : List (Option PV)}{a b : Int} : WP d mL_law 453 ls (.inl b :: .inl a :: st) h Q = (if a = b then WP d mL_law 1600 ls st h Q else WP d mL_law 456 ls st h Q) := R_icmp_eq dL_law_453 (by decide)
theorem rL_law_456 {d : Nat} {h : Hp} {Q : Option PV → Hp → Prop} {st : List PV}{ls : List (Option PV)} : WP d mL_law 456 ls st h Q = WP d mL_law 457 ls (.inl (0) :: st) h Q := WP_step dL_law_456 rfl rfl rfl
theorem rL_law_457 {d : Nat} {h : Hp} {Q : Option PV → Hp → Prop} {ls : List (Option PV)}{z : Int} : WP d mL_law 457 ls [.inl z] h Q = ((z = 0 ∨ z = 1) ∧ Q (some (.inl z)) h) := R_zret dL_law_457 rfl
theorem rL_law_458 {d : Nat} {h : Hp} {Q : Option PV → Hp → Prop} {st : List PV}{x0 : Option PV} {t : List (Option PV)} {v : Nat} : WP d mL_law 458 (x0 :: some (.inr (.inr v)) :: t) st h Q = WP d mL_law 459 (x0 :: some (.inr (.inr v)) :: t) (.inr (.inr v) :: st) h Q := WP_step dL_law_458 rfl rfl rfl
theorem rL_law_459 {d : Nat} {h : Hp} {Q : Option PV → Hp → Prop} {st : List PV}{t : List (Option PV)} {v : Nat} : WP d mL_law 459 (some (.inr (.inr v)) :: t) st h Q = WP d mL_law 460 (some (.inr (.inr v)) :: t) (.inr (.inr v) :: st) h Q := WP_step dL_law_459 rfl rfl rfl
theorem rL_law_460 {d : Nat} {h : Hp} {Q : Option PV → Hp → Prop} {st : List PV}{x0 x1 x2 : Option PV} {t : List (Option PV)} {v : Int} : WP d mL_law 460 (x0 :: x1 :: x2 :: some (.inl v) :: t) st h Q = WP d mL_law 461 (x0 :: x1 :: x2 :: some (.inl v) :: t) (.inl v :: st) h Q := WP_step dL_law_460 rfl rfl rfl
theorem rL_law_461 {d : Nat} {h : Hp} {Q : Option PV → Hp → Prop} {st : List PV}{ls : List (Option PV)} : WP d mL_law 461 ls st h Q = WP d mL_law 462 ls (.inl (1) :: st) h Q := WP_step dL_law_461 rfl rfl rfl
theorem rL_law_462 {d : Nat} {h : Hp} {Q : Option PV → Hp → Prop} {st : List PV}{ls : List (Option PV)}{a b : Int} : WP d mL_law 462 ls (.inl b :: .inl a :: st) h Q = WP d mL_law 463 ls (.inl (w32 (a + b)) :: st) h Q := WP_step dL_law_462 rfl rfl rfl
theorem rL_law_463 {d : Nat} {h : Hp} {Q : Option PV → Hp → Prop} {st : List PV}{ls : List (Option PV)}{a : Nat} {z : Int} : WP d mL_law 463 ls (.inl z :: .inr (.inr a) :: st) h Q = ((hK h a).1 = 21 ∧ 0 ≤ z ∧ z < (hK h a).2 ∧ WP d mL_law 464 ls (.inl (hI h a z.toNat) :: st) h Q) := R_iald dL_law_463
theorem rL_law_464 {d : Nat} {h : Hp} {Q : Option PV → Hp → Prop} {st : List PV}{t : List (Option PV)} {v : Nat} : WP d mL_law 464 (some (.inr (.inr v)) :: t) st h Q = WP d mL_law 465 (some (.inr (.inr v)) :: t) (.inr (.inr v) :: st) h Q := WP_step dL_law_464 rfl rfl rfl
theorem rL_law_465 {d : Nat} {h : Hp} {Q : Option PV → Hp → Prop} {st : List PV}{x0 x1 x2 : Option PV} {t : List (Option PV)} {v : Int} : WP d mL_law 465 (x0 :: x1 :: x2 :: some (.inl v) :: t) st h Q = WP d mL_law 466 (x0 :: x1 :: x2 :: some (.inl v) :: t) (.inl v :: st) h Q := WP_step dL_law_465 rfl rfl rfl
theorem rL_law_466 {d : Nat} {h : Hp} {Q : Option PV → Hp → Prop} {st : List PV}{ls : List (Option PV)} : WP d mL_law 466 ls st h Q = WP d mL_law 467 ls (.inl (2) :: st) h Q := WP_step dL_law_466 rfl rfl rfl
theorem rL_law_467 {d : Nat} {h : Hp} {Q : Option PV → Hp → Prop} {st : List PV}{ls : List (Option PV)}{a b : Int} : WP d mL_law 467 ls (.inl b :: .inl a :: st) h Q = WP d mL_law 468 ls (.inl (w32 (a + b)) :: st) h Q := WP_step dL_law_467 rfl rfl rfl
theorem rL_law_468 {d : Nat} {h : Hp} {Q : Option PV → Hp → Prop} {st : List PV}{ls : List (Option PV)}{a : Nat} {z : Int} : WP d mL_law 468 ls (.inl z :: .inr (.inr a) :: st) h Q = ((hK h a).1 = 21 ∧ 0 ≤ z ∧ z < (hK h a).2 ∧ WP d mL_law 469 ls (.inl (hI h a z.toNat) :: st) h Q) := R_iald dL_law_468
theorem rL_law_469 {d : Nat} {h : Hp} {Q : Option PV → Hp → Prop} {ls : List (Option PV)}{v0 : Nat} {v1 : Int} {v2 : Int} : WP (d + 1) mL_law 469 ls (.inl v2 :: .inl v1 :: .inr (.inr v0) :: []) h Q = ((hK h v0).1 = 11 ∧ WP d mX11_say 0 [some (.inr (.inr v0)), some (.inl v1), some (.inl v2), none] [] h (fun r h' => WP (d + 1) mL_law 472 ls (psh r []) h' Q)) := R_callV (st := .inl v2 :: .inl v1 :: .inr (.inr v0) :: []) (M := mL_law) (pc := 469) (kd := 0) (n := 3) (M' := mX11_say) (as := [.inl v2, .inl v1, .inr (.inr v0)]) (rest := []) (en := [some (.inr (.inr v0)), some (.inl v1), some (.inl v2), none]) dL_law_469 rfl (Nat.le_of_ble_eq_true rfl) (Nat.le_of_ble_eq_true rfl) rfl rfl (Nat.le_of_ble_eq_true rfl) rfl rfl rfl
theorem rL_law_472 {d : Nat} {h : Hp} {Q : Option PV → Hp → Prop} {st : List PV}{x0 x1 : Option PV} {t : List (Option PV)} {v : Nat} : WP d mL_law 472 (x0 :: x1 :: some (.inr (.inr v)) :: t) st h Q = WP d mL_law 473 (x0 :: x1 :: some (.inr (.inr v)) :: t) (.inr (.inr v) :: st) h Q := WP_step dL_law_472 rfl rfl rfl
theorem rL_law_473 {d : Nat} {h : Hp} {Q : Option PV → Hp → Prop} {st : List PV}{t : List (Option PV)} {v : Nat} : WP d mL_law 473 (some (.inr (.inr v)) :: t) st h Q = WP d mL_law 474 (some (.inr (.inr v)) :: t) (.inr (.inr v) :: st) h Q := WP_step dL_law_473 rfl rfl rfl
theorem rL_law_474 {d : Nat} {h : Hp} {Q : Option PV → Hp → Prop} {st : List PV}{x0 x1 x2 : Option PV} {t : List (Option PV)} {v : Int} : WP d mL_law 474 (x0 :: x1 :: x2 :: some (.inl v) :: t) st h Q = WP d mL_law 475 (x0 :: x1 :: x2 :: some (.inl v) :: t) (.inl v :: st) h Q := WP_step dL_law_474 rfl rfl rfl
theorem rL_law_475 {d : Nat} {h : Hp} {Q : Option PV → Hp → Prop} {st : List PV}{ls : List (Option PV)} : WP d mL_law 475 ls st h Q = WP d mL_law 476 ls (.inl (1) :: st) h Q := WP_step dL_law_475 rfl rfl rfl
theorem rL_law_476 {d : Nat} {h : Hp} {Q : Option PV → Hp → Prop} {st : List PV}{ls : List (Option PV)}{a b : Int} : WP d mL_law 476 ls (.inl b :: .inl a :: st) h Q = WP d mL_law 477 ls (.inl (w32 (a + b)) :: st) h Q := WP_step dL_law_476 rfl rfl rfl
theorem rL_law_477 {d : Nat} {h : Hp} {Q : Option PV → Hp → Prop} {st : List PV}{ls : List (Option PV)}{a : Nat} {z : Int} : WP d mL_law 477 ls (.inl z :: .inr (.inr a) :: st) h Q = ((hK h a).1 = 21 ∧ 0 ≤ z ∧ z < (hK h a).2 ∧ WP d mL_law 478 ls (.inl (hI h a z.toNat) :: st) h Q) := R_iald dL_law_477
theorem rL_law_478 {d : Nat} {h : Hp} {Q : Option PV → Hp → Prop} {st : List PV}{t : List (Option PV)} {v : Nat} : WP d mL_law 478 (some (.inr (.inr v)) :: t) st h Q = WP d mL_law 479 (some (.inr (.inr v)) :: t) (.inr (.inr v) :: st) h Q := WP_step dL_law_478 rfl rfl rfl
theorem rL_law_479 {d : Nat} {h : Hp} {Q : Option PV → Hp → Prop} {st : List PV}{x0 x1 x2 : Option PV} {t : List (Option PV)} {v : Int} : WP d mL_law 479 (x0 :: x1 :: x2 :: some (.inl v) :: t) st h Q = WP d mL_law 480 (x0 :: x1 :: x2 :: some (.inl v) :: t) (.inl v :: st) h Q := WP_step dL_law_479 rfl rfl rfl
theorem rL_law_480 {d : Nat} {h : Hp} {Q : Option PV → Hp → Prop} {st : List PV}{ls : List (Option PV)} : WP d mL_law 480 ls st h Q = WP d mL_law 481 ls (.inl (2) :: st) h Q := WP_step dL_law_480 rfl rfl rfl
theorem rL_law_481 {d : Nat} {h : Hp} {Q : Option PV → Hp → Prop} {st : List PV}{ls : List (Option PV)}{a b : Int} : WP d mL_law 481 ls (.inl b :: .inl a :: st) h Q = WP d mL_law 482 ls (.inl (w32 (a + b)) :: st) h Q := WP_step dL_law_481 rfl rfl rfl
theorem rL_law_482 {d : Nat} {h : Hp} {Q : Option PV → Hp → Prop} {st : List PV}{ls : List (Option PV)}{a : Nat} {z : Int} : WP d mL_law 482 ls (.inl z :: .inr (.inr a) :: st) h Q = ((hK h a).1 = 21 ∧ 0 ≤ z ∧ z < (hK h a).2 ∧ WP d mL_law 483 ls (.inl (hI h a z.toNat) :: st) h Q) := R_iald dL_law_482
theorem rL_law_483 {d : Nat} {h : Hp} {Q : Option PV → Hp → Prop} {ls : List (Option PV)}{r0 : PV}{v0 : Nat} {v1 : Int} {v2 : Int} : WP (d + 1) mL_law 483 ls (.inl v2 :: .inl v1 :: .inr (.inr v0) :: [r0]) h Q = ((hK h v0).1 = 12 ∧ WP d mX12_say 0 [some (.inr (.inr v0)), some (.inl v1), some (.inl v2), none] [] h (fun r h' => WP (d + 1) mL_law 486 ls (psh r [r0]) h' Q)) := R_callV (st := .inl v2 :: .inl v1 :: .inr (.inr v0) :: [r0]) (M := mL_law) (pc := 483) (kd := 0) (n := 3) (M' := mX12_say) (as := [.inl v2, .inl v1, .inr (.inr v0)]) (rest := [r0]) (en := [some (.inr (.inr v0)), some (.inl v1), some (.inl v2), none]) dL_law_483 rfl (Nat.le_of_ble_eq_true rfl) (Nat.le_of_ble_eq_true rfl) rfl rfl (Nat.le_of_ble_eq_true rfl) rfl rfl rfl
theorem rL_law_486 {d : Nat} {h : Hp} {Q : Option PV → Hp → Prop} {st : List PV}{ls : List (Option PV)}{a b : Int} : WP d mL_law 486 ls (.inl b :: .inl a :: st) h Q = (if a = b then WP d mL_law 1600 ls st h Q else WP d mL_law 489 ls st h Q) := R_icmp_eq dL_law_486 (by decide)
theorem rL_law_489 {d : Nat} {h : Hp} {Q : Option PV → Hp → Prop} {st : List PV}{ls : List (Option PV)} : WP d mL_law 489 ls st h Q = WP d mL_law 490 ls (.inl (0) :: st) h Q := WP_step dL_law_489 rfl rfl rfl
theorem rL_law_490 {d : Nat} {h : Hp} {Q : Option PV → Hp → Prop} {ls : List (Option PV)}{z : Int} : WP d mL_law 490 ls [.inl z] h Q = ((z = 0 ∨ z = 1) ∧ Q (some (.inl z)) h) := R_zret dL_law_490 rfl
theorem rL_law_491 {d : Nat} {h : Hp} {Q : Option PV → Hp → Prop} {st : List PV}{x0 : Option PV} {t : List (Option PV)} {v : Nat} : WP d mL_law 491 (x0 :: some (.inr (.inr v)) :: t) st h Q = WP d mL_law 492 (x0 :: some (.inr (.inr v)) :: t) (.inr (.inr v) :: st) h Q := WP_step dL_law_491 rfl rfl rfl
theorem rL_law_492 {d : Nat} {h : Hp} {Q : Option PV → Hp → Prop} {st : List PV}{t : List (Option PV)} {v : Nat} : WP d mL_law 492 (some (.inr (.inr v)) :: t) st h Q = WP d mL_law 493 (some (.inr (.inr v)) :: t) (.inr (.inr v) :: st) h Q := WP_step dL_law_492 rfl rfl rfl
theorem rL_law_493 {d : Nat} {h : Hp} {Q : Option PV → Hp → Prop} {st : List PV}{x0 x1 x2 : Option PV} {t : List (Option PV)} {v : Int} : WP d mL_law 493 (x0 :: x1 :: x2 :: some (.inl v) :: t) st h Q = WP d mL_law 494 (x0 :: x1 :: x2 :: some (.inl v) :: t) (.inl v :: st) h Q := WP_step dL_law_493 rfl rfl rfl
theorem rL_law_494 {d : Nat} {h : Hp} {Q : Option PV → Hp → Prop} {st : List PV}{ls : List (Option PV)} : WP d mL_law 494 ls st h Q = WP d mL_law 495 ls (.inl (1) :: st) h Q := WP_step dL_law_494 rfl rfl rfl
theorem rL_law_495 {d : Nat} {h : Hp} {Q : Option PV → Hp → Prop} {st : List PV}{ls : List (Option PV)}{a b : Int} : WP d mL_law 495 ls (.inl b :: .inl a :: st) h Q = WP d mL_law 496 ls (.inl (w32 (a + b)) :: st) h Q := WP_step dL_law_495 rfl rfl rfl
theorem rL_law_496 {d : Nat} {h : Hp} {Q : Option PV → Hp → Prop} {st : List PV}{ls : List (Option PV)}{a : Nat} {z : Int} : WP d mL_law 496 ls (.inl z :: .inr (.inr a) :: st) h Q = ((hK h a).1 = 21 ∧ 0 ≤ z ∧ z < (hK h a).2 ∧ WP d mL_law 497 ls (.inl (hI h a z.toNat) :: st) h Q) := R_iald dL_law_496
theorem rL_law_497 {d : Nat} {h : Hp} {Q : Option PV → Hp → Prop} {ls : List (Option PV)}{v0 : Nat} {v1 : Int} : WP (d + 1) mL_law 497 ls (.inl v1 :: .inr (.inr v0) :: []) h Q = ((hK h v0).1 = 11 ∧ WP d mX11_wipe 0 [some (.inr (.inr v0)), some (.inl v1), none] [] h (fun r h' => WP (d + 1) mL_law 500 ls (psh r []) h' Q)) := R_callV (st := .inl v1 :: .inr (.inr v0) :: []) (M := mL_law) (pc := 497) (kd := 0) (n := 2) (M' := mX11_wipe) (as := [.inl v1, .inr (.inr v0)]) (rest := []) (en := [some (.inr (.inr v0)), some (.inl v1), none]) dL_law_497 rfl (Nat.le_of_ble_eq_true rfl) (Nat.le_of_ble_eq_true rfl) rfl rfl (Nat.le_of_ble_eq_true rfl) rfl rfl rfl
theorem rL_law_500 {d : Nat} {h : Hp} {Q : Option PV → Hp → Prop} {st : List PV}{x0 x1 : Option PV} {t : List (Option PV)} {v : Nat} : WP d mL_law 500 (x0 :: x1 :: some (.inr (.inr v)) :: t) st h Q = WP d mL_law 501 (x0 :: x1 :: some (.inr (.inr v)) :: t) (.inr (.inr v) :: st) h Q := WP_step dL_law_500 rfl rfl rfl
theorem rL_law_501 {d : Nat} {h : Hp} {Q : Option PV → Hp → Prop} {st : List PV}{t : List (Option PV)} {v : Nat} : WP d mL_law 501 (some (.inr (.inr v)) :: t) st h Q = WP d mL_law 502 (some (.inr (.inr v)) :: t) (.inr (.inr v) :: st) h Q := WP_step dL_law_501 rfl rfl rfl
theorem rL_law_502 {d : Nat} {h : Hp} {Q : Option PV → Hp → Prop} {st : List PV}{x0 x1 x2 : Option PV} {t : List (Option PV)} {v : Int} : WP d mL_law 502 (x0 :: x1 :: x2 :: some (.inl v) :: t) st h Q = WP d mL_law 503 (x0 :: x1 :: x2 :: some (.inl v) :: t) (.inl v :: st) h Q := WP_step dL_law_502 rfl rfl rfl
theorem rL_law_503 {d : Nat} {h : Hp} {Q : Option PV → Hp → Prop} {st : List PV}{ls : List (Option PV)} : WP d mL_law 503 ls st h Q = WP d mL_law 504 ls (.inl (1) :: st) h Q := WP_step dL_law_503 rfl rfl rfl
theorem rL_law_504 {d : Nat} {h : Hp} {Q : Option PV → Hp → Prop} {st : List PV}{ls : List (Option PV)}{a b : Int} : WP d mL_law 504 ls (.inl b :: .inl a :: st) h Q = WP d mL_law 505 ls (.inl (w32 (a + b)) :: st) h Q := WP_step dL_law_504 rfl rfl rfl
theorem rL_law_505 {d : Nat} {h : Hp} {Q : Option PV → Hp → Prop} {st : List PV}{ls : List (Option PV)}{a : Nat} {z : Int} : WP d mL_law 505 ls (.inl z :: .inr (.inr a) :: st) h Q = ((hK h a).1 = 21 ∧ 0 ≤ z ∧ z < (hK h a).2 ∧ WP d mL_law 506 ls (.inl (hI h a z.toNat) :: st) h Q) := R_iald dL_law_505
theorem rL_law_506 {d : Nat} {h : Hp} {Q : Option PV → Hp → Prop} {ls : List (Option PV)}{r0 : PV}{v0 : Nat} {v1 : Int} : WP (d + 1) mL_law 506 ls (.inl v1 :: .inr (.inr v0) :: [r0]) h Q = ((hK h v0).1 = 12 ∧ WP d mX12_wipe 0 [some (.inr (.inr v0)), some (.inl v1), none] [] h (fun r h' => WP (d + 1) mL_law 509 ls (psh r [r0]) h' Q)) := R_callV (st := .inl v1 :: .inr (.inr v0) :: [r0]) (M := mL_law) (pc := 506) (kd := 0) (n := 2) (M' := mX12_wipe) (as := [.inl v1, .inr (.inr v0)]) (rest := [r0]) (en := [some (.inr (.inr v0)), some (.inl v1), none]) dL_law_506 rfl (Nat.le_of_ble_eq_true rfl) (Nat.le_of_ble_eq_true rfl) rfl rfl (Nat.le_of_ble_eq_true rfl) rfl rfl rfl
theorem rL_law_509 {d : Nat} {h : Hp} {Q : Option PV → Hp → Prop} {st : List PV}{ls : List (Option PV)}{a b : Int} : WP d mL_law 509 ls (.inl b :: .inl a :: st) h Q = (if a = b then WP d mL_law 1600 ls st h Q else WP d mL_law 512 ls st h Q) := R_icmp_eq dL_law_509 (by decide)
theorem rL_law_512 {d : Nat} {h : Hp} {Q : Option PV → Hp → Prop} {st : List PV}{ls : List (Option PV)} : WP d mL_law 512 ls st h Q = WP d mL_law 513 ls (.inl (0) :: st) h Q := WP_step dL_law_512 rfl rfl rfl
theorem rL_law_513 {d : Nat} {h : Hp} {Q : Option PV → Hp → Prop} {ls : List (Option PV)}{z : Int} : WP d mL_law 513 ls [.inl z] h Q = ((z = 0 ∨ z = 1) ∧ Q (some (.inl z)) h) := R_zret dL_law_513 rfl
theorem rL_law_514 {d : Nat} {h : Hp} {Q : Option PV → Hp → Prop} {st : List PV}{x0 : Option PV} {t : List (Option PV)} {v : Nat} : WP d mL_law 514 (x0 :: some (.inr (.inr v)) :: t) st h Q = WP d mL_law 515 (x0 :: some (.inr (.inr v)) :: t) (.inr (.inr v) :: st) h Q := WP_step dL_law_514 rfl rfl rfl
theorem rL_law_515 {d : Nat} {h : Hp} {Q : Option PV → Hp → Prop} {st : List PV}{t : List (Option PV)} {v : Nat} : WP d mL_law 515 (some (.inr (.inr v)) :: t) st h Q = WP d mL_law 516 (some (.inr (.inr v)) :: t) (.inr (.inr v) :: st) h Q := WP_step dL_law_515 rfl rfl rfl
theorem rL_law_516 {d : Nat} {h : Hp} {Q : Option PV → Hp → Prop} {st : List PV}{x0 x1 x2 : Option PV} {t : List (Option PV)} {v : Int} : WP d mL_law 516 (x0 :: x1 :: x2 :: some (.inl v) :: t) st h Q = WP d mL_law 517 (x0 :: x1 :: x2 :: some (.inl v) :: t) (.inl v :: st) h Q := WP_step dL_law_516 rfl rfl rfl
theorem rL_law_517 {d : Nat} {h : Hp} {Q : Option PV → Hp → Prop} {st : List PV}{ls : List (Option PV)} : WP d mL_law 517 ls st h Q = WP d mL_law 518 ls (.inl (1) :: st) h Q := WP_step dL_law_517 rfl rfl rfl
theorem rL_law_518 {d : Nat} {h : Hp} {Q : Option PV → Hp → Prop} {st : List PV}{ls : List (Option PV)}{a b : Int} : WP d mL_law 518 ls (.inl b :: .inl a :: st) h Q = WP d mL_law 519 ls (.inl (w32 (a + b)) :: st) h Q := WP_step dL_law_518 rfl rfl rfl
theorem rL_law_519 {d : Nat} {h : Hp} {Q : Option PV → Hp → Prop} {st : List PV}{ls : List (Option PV)}{a : Nat} {z : Int} : WP d mL_law 519 ls (.inl z :: .inr (.inr a) :: st) h Q = ((hK h a).1 = 21 ∧ 0 ≤ z ∧ z < (hK h a).2 ∧ WP d mL_law 520 ls (.inl (hI h a z.toNat) :: st) h Q) := R_iald dL_law_519
theorem rL_law_520 {d : Nat} {h : Hp} {Q : Option PV → Hp → Prop} {st : List PV}{t : List (Option PV)} {v : Nat} : WP d mL_law 520 (some (.inr (.inr v)) :: t) st h Q = WP d mL_law 521 (some (.inr (.inr v)) :: t) (.inr (.inr v) :: st) h Q := WP_step dL_law_520 rfl rfl rfl
theorem rL_law_521 {d : Nat} {h : Hp} {Q : Option PV → Hp → Prop} {st : List PV}{x0 x1 x2 : Option PV} {t : List (Option PV)} {v : Int} : WP d mL_law 521 (x0 :: x1 :: x2 :: some (.inl v) :: t) st h Q = WP d mL_law 522 (x0 :: x1 :: x2 :: some (.inl v) :: t) (.inl v :: st) h Q := WP_step dL_law_521 rfl rfl rfl
theorem rL_law_522 {d : Nat} {h : Hp} {Q : Option PV → Hp → Prop} {st : List PV}{ls : List (Option PV)} : WP d mL_law 522 ls st h Q = WP d mL_law 523 ls (.inl (2) :: st) h Q := WP_step dL_law_522 rfl rfl rfl
theorem rL_law_523 {d : Nat} {h : Hp} {Q : Option PV → Hp → Prop} {st : List PV}{ls : List (Option PV)}{a b : Int} : WP d mL_law 523 ls (.inl b :: .inl a :: st) h Q = WP d mL_law 524 ls (.inl (w32 (a + b)) :: st) h Q := WP_step dL_law_523 rfl rfl rfl
theorem rL_law_524 {d : Nat} {h : Hp} {Q : Option PV → Hp → Prop} {st : List PV}{ls : List (Option PV)}{a : Nat} {z : Int} : WP d mL_law 524 ls (.inl z :: .inr (.inr a) :: st) h Q = ((hK h a).1 = 21 ∧ 0 ≤ z ∧ z < (hK h a).2 ∧ WP d mL_law 525 ls (.inl (hI h a z.toNat) :: st) h Q) := R_iald dL_law_524
theorem rL_law_525 {d : Nat} {h : Hp} {Q : Option PV → Hp → Prop} {ls : List (Option PV)}{v0 : Nat} {v1 : Int} {v2 : Int} : WP (d + 1) mL_law 525 ls (.inl v2 :: .inl v1 :: .inr (.inr v0) :: []) h Q = ((hK h v0).1 = 11 ∧ WP d mX11_breath 0 [some (.inr (.inr v0)), some (.inl v1), some (.inl v2), none] [] h (fun r h' => WP (d + 1) mL_law 528 ls (psh r []) h' Q)) := R_callV (st := .inl v2 :: .inl v1 :: .inr (.inr v0) :: []) (M := mL_law) (pc := 525) (kd := 0) (n := 3) (M' := mX11_breath) (as := [.inl v2, .inl v1, .inr (.inr v0)]) (rest := []) (en := [some (.inr (.inr v0)), some (.inl v1), some (.inl v2), none]) dL_law_525 rfl (Nat.le_of_ble_eq_true rfl) (Nat.le_of_ble_eq_true rfl) rfl rfl (Nat.le_of_ble_eq_true rfl) rfl rfl rfl
theorem rL_law_528 {d : Nat} {h : Hp} {Q : Option PV → Hp → Prop} {st : List PV}{x0 x1 : Option PV} {t : List (Option PV)} {v : Nat} : WP d mL_law 528 (x0 :: x1 :: some (.inr (.inr v)) :: t) st h Q = WP d mL_law 529 (x0 :: x1 :: some (.inr (.inr v)) :: t) (.inr (.inr v) :: st) h Q := WP_step dL_law_528 rfl rfl rfl
theorem rL_law_529 {d : Nat} {h : Hp} {Q : Option PV → Hp → Prop} {st : List PV}{t : List (Option PV)} {v : Nat} : WP d mL_law 529 (some (.inr (.inr v)) :: t) st h Q = WP d mL_law 530 (some (.inr (.inr v)) :: t) (.inr (.inr v) :: st) h Q := WP_step dL_law_529 rfl rfl rfl
theorem rL_law_530 {d : Nat} {h : Hp} {Q : Option PV → Hp → Prop} {st : List PV}{x0 x1 x2 : Option PV} {t : List (Option PV)} {v : Int} : WP d mL_law 530 (x0 :: x1 :: x2 :: some (.inl v) :: t) st h Q = WP d mL_law 531 (x0 :: x1 :: x2 :: some (.inl v) :: t) (.inl v :: st) h Q := WP_step dL_law_530 rfl rfl rfl
theorem rL_law_531 {d : Nat} {h : Hp} {Q : Option PV → Hp → Prop} {st : List PV}{ls : List (Option PV)} : WP d mL_law 531 ls st h Q = WP d mL_law 532 ls (.inl (1) :: st) h Q := WP_step dL_law_531 rfl rfl rfl
theorem rL_law_532 {d : Nat} {h : Hp} {Q : Option PV → Hp → Prop} {st : List PV}{ls : List (Option PV)}{a b : Int} : WP d mL_law 532 ls (.inl b :: .inl a :: st) h Q = WP d mL_law 533 ls (.inl (w32 (a + b)) :: st) h Q := WP_step dL_law_532 rfl rfl rfl
theorem rL_law_533 {d : Nat} {h : Hp} {Q : Option PV → Hp → Prop} {st : List PV}{ls : List (Option PV)}{a : Nat} {z : Int} : WP d mL_law 533 ls (.inl z :: .inr (.inr a) :: st) h Q = ((hK h a).1 = 21 ∧ 0 ≤ z ∧ z < (hK h a).2 ∧ WP d mL_law 534 ls (.inl (hI h a z.toNat) :: st) h Q) := R_iald dL_law_533
theorem rL_law_534 {d : Nat} {h : Hp} {Q : Option PV → Hp → Prop} {st : List PV}{t : List (Option PV)} {v : Nat} : WP d mL_law 534 (some (.inr (.inr v)) :: t) st h Q = WP d mL_law 535 (some (.inr (.inr v)) :: t) (.inr (.inr v) :: st) h Q := WP_step dL_law_534 rfl rfl rfl
theorem rL_law_535 {d : Nat} {h : Hp} {Q : Option PV → Hp → Prop} {st : List PV}{x0 x1 x2 : Option PV} {t : List (Option PV)} {v : Int} : WP d mL_law 535 (x0 :: x1 :: x2 :: some (.inl v) :: t) st h Q = WP d mL_law 536 (x0 :: x1 :: x2 :: some (.inl v) :: t) (.inl v :: st) h Q := WP_step dL_law_535 rfl rfl rfl
theorem rL_law_536 {d : Nat} {h : Hp} {Q : Option PV → Hp → Prop} {st : List PV}{ls : List (Option PV)} : WP d mL_law 536 ls st h Q = WP d mL_law 537 ls (.inl (2) :: st) h Q := WP_step dL_law_536 rfl rfl rfl
theorem rL_law_537 {d : Nat} {h : Hp} {Q : Option PV → Hp → Prop} {st : List PV}{ls : List (Option PV)}{a b : Int} : WP d mL_law 537 ls (.inl b :: .inl a :: st) h Q = WP d mL_law 538 ls (.inl (w32 (a + b)) :: st) h Q := WP_step dL_law_537 rfl rfl rfl
theorem rL_law_538 {d : Nat} {h : Hp} {Q : Option PV → Hp → Prop} {st : List PV}{ls : List (Option PV)}{a : Nat} {z : Int} : WP d mL_law 538 ls (.inl z :: .inr (.inr a) :: st) h Q = ((hK h a).1 = 21 ∧ 0 ≤ z ∧ z < (hK h a).2 ∧ WP d mL_law 539 ls (.inl (hI h a z.toNat) :: st) h Q) := R_iald dL_law_538
theorem rL_law_539 {d : Nat} {h : Hp} {Q : Option PV → Hp → Prop} {ls : List (Option PV)}{r0 : PV}{v0 : Nat} {v1 : Int} {v2 : Int} : WP (d + 1) mL_law 539 ls (.inl v2 :: .inl v1 :: .inr (.inr v0) :: [r0]) h Q = ((hK h v0).1 = 12 ∧ WP d mX12_breath 0 [some (.inr (.inr v0)), some (.inl v1), some (.inl v2)] [] h (fun r h' => WP (d + 1) mL_law 542 ls (psh r [r0]) h' Q)) := R_callV (st := .inl v2 :: .inl v1 :: .inr (.inr v0) :: [r0]) (M := mL_law) (pc := 539) (kd := 0) (n := 3) (M' := mX12_breath) (as := [.inl v2, .inl v1, .inr (.inr v0)]) (rest := [r0]) (en := [some (.inr (.inr v0)), some (.inl v1), some (.inl v2)]) dL_law_539 rfl (Nat.le_of_ble_eq_true rfl) (Nat.le_of_ble_eq_true rfl) rfl rfl (Nat.le_of_ble_eq_true rfl) rfl rfl rfl
theorem rL_law_542 {d : Nat} {h : Hp} {Q : Option PV → Hp → Prop} {st : List PV}{ls : List (Option PV)}{a b : Int} : WP d mL_law 542 ls (.inl b :: .inl a :: st) h Q = (if a = b then WP d mL_law 1600 ls st h Q else WP d mL_law 545 ls st h Q) := R_icmp_eq dL_law_542 (by decide)
theorem rL_law_545 {d : Nat} {h : Hp} {Q : Option PV → Hp → Prop} {st : List PV}{ls : List (Option PV)} : WP d mL_law 545 ls st h Q = WP d mL_law 546 ls (.inl (0) :: st) h Q := WP_step dL_law_545 rfl rfl rfl
theorem rL_law_546 {d : Nat} {h : Hp} {Q : Option PV → Hp → Prop} {ls : List (Option PV)}{z : Int} : WP d mL_law 546 ls [.inl z] h Q = ((z = 0 ∨ z = 1) ∧ Q (some (.inl z)) h) := R_zret dL_law_546 rfl
theorem rL_law_547 {d : Nat} {h : Hp} {Q : Option PV → Hp → Prop} {st : List PV}{x0 : Option PV} {t : List (Option PV)} {v : Nat} : WP d mL_law 547 (x0 :: some (.inr (.inr v)) :: t) st h Q = WP d mL_law 548 (x0 :: some (.inr (.inr v)) :: t) (.inr (.inr v) :: st) h Q := WP_step dL_law_547 rfl rfl rfl
theorem rL_law_548 {d : Nat} {h : Hp} {Q : Option PV → Hp → Prop} {st : List PV}{t : List (Option PV)} {v : Nat} : WP d mL_law 548 (some (.inr (.inr v)) :: t) st h Q = WP d mL_law 549 (some (.inr (.inr v)) :: t) (.inr (.inr v) :: st) h Q := WP_step dL_law_548 rfl rfl rfl
theorem rL_law_549 {d : Nat} {h : Hp} {Q : Option PV → Hp → Prop} {st : List PV}{x0 x1 x2 : Option PV} {t : List (Option PV)} {v : Int} : WP d mL_law 549 (x0 :: x1 :: x2 :: some (.inl v) :: t) st h Q = WP d mL_law 550 (x0 :: x1 :: x2 :: some (.inl v) :: t) (.inl v :: st) h Q := WP_step dL_law_549 rfl rfl rfl
theorem rL_law_550 {d : Nat} {h : Hp} {Q : Option PV → Hp → Prop} {st : List PV}{ls : List (Option PV)} : WP d mL_law 550 ls st h Q = WP d mL_law 551 ls (.inl (1) :: st) h Q := WP_step dL_law_550 rfl rfl rfl
theorem rL_law_551 {d : Nat} {h : Hp} {Q : Option PV → Hp → Prop} {st : List PV}{ls : List (Option PV)}{a b : Int} : WP d mL_law 551 ls (.inl b :: .inl a :: st) h Q = WP d mL_law 552 ls (.inl (w32 (a + b)) :: st) h Q := WP_step dL_law_551 rfl rfl rfl
theorem rL_law_552 {d : Nat} {h : Hp} {Q : Option PV → Hp → Prop} {st : List PV}{ls : List (Option PV)}{a : Nat} {z : Int} : WP d mL_law 552 ls (.inl z :: .inr (.inr a) :: st) h Q = ((hK h a).1 = 21 ∧ 0 ≤ z ∧ z < (hK h a).2 ∧ WP d mL_law 553 ls (.inl (hI h a z.toNat) :: st) h Q) := R_iald dL_law_552
theorem rL_law_553 {d : Nat} {h : Hp} {Q : Option PV → Hp → Prop} {st : List PV}{t : List (Option PV)} {v : Nat} : WP d mL_law 553 (some (.inr (.inr v)) :: t) st h Q = WP d mL_law 554 (some (.inr (.inr v)) :: t) (.inr (.inr v) :: st) h Q := WP_step dL_law_553 rfl rfl rfl
theorem rL_law_554 {d : Nat} {h : Hp} {Q : Option PV → Hp → Prop} {st : List PV}{x0 x1 x2 : Option PV} {t : List (Option PV)} {v : Int} : WP d mL_law 554 (x0 :: x1 :: x2 :: some (.inl v) :: t) st h Q = WP d mL_law 555 (x0 :: x1 :: x2 :: some (.inl v) :: t) (.inl v :: st) h Q := WP_step dL_law_554 rfl rfl rfl
theorem rL_law_555 {d : Nat} {h : Hp} {Q : Option PV → Hp → Prop} {st : List PV}{ls : List (Option PV)} : WP d mL_law 555 ls st h Q = WP d mL_law 556 ls (.inl (2) :: st) h Q := WP_step dL_law_555 rfl rfl rfl
theorem rL_law_556 {d : Nat} {h : Hp} {Q : Option PV → Hp → Prop} {st : List PV}{ls : List (Option PV)}{a b : Int} : WP d mL_law 556 ls (.inl b :: .inl a :: st) h Q = WP d mL_law 557 ls (.inl (w32 (a + b)) :: st) h Q := WP_step dL_law_556 rfl rfl rfl
theorem rL_law_557 {d : Nat} {h : Hp} {Q : Option PV → Hp → Prop} {st : List PV}{ls : List (Option PV)}{a : Nat} {z : Int} : WP d mL_law 557 ls (.inl z :: .inr (.inr a) :: st) h Q = ((hK h a).1 = 21 ∧ 0 ≤ z ∧ z < (hK h a).2 ∧ WP d mL_law 558 ls (.inl (hI h a z.toNat) :: st) h Q) := R_iald dL_law_557
theorem rL_law_558 {d : Nat} {h : Hp} {Q : Option PV → Hp → Prop} {ls : List (Option PV)}{v0 : Nat} {v1 : Int} {v2 : Int} : WP (d + 1) mL_law 558 ls (.inl v2 :: .inl v1 :: .inr (.inr v0) :: []) h Q = ((hK h v0).1 = 11 ∧ WP d mX11_bold 0 [some (.inr (.inr v0)), some (.inl v1), some (.inl v2), none, none] [] h (fun r h' => WP (d + 1) mL_law 561 ls (psh r []) h' Q)) := R_callV (st := .inl v2 :: .inl v1 :: .inr (.inr v0) :: []) (M := mL_law) (pc := 558) (kd := 0) (n := 3) (M' := mX11_bold) (as := [.inl v2, .inl v1, .inr (.inr v0)]) (rest := []) (en := [some (.inr (.inr v0)), some (.inl v1), some (.inl v2), none, none]) dL_law_558 rfl (Nat.le_of_ble_eq_true rfl) (Nat.le_of_ble_eq_true rfl) rfl rfl (Nat.le_of_ble_eq_true rfl) rfl rfl rfl
theorem rL_law_561 {d : Nat} {h : Hp} {Q : Option PV → Hp → Prop} {st : List PV}{x0 x1 : Option PV} {t : List (Option PV)} {v : Nat} : WP d mL_law 561 (x0 :: x1 :: some (.inr (.inr v)) :: t) st h Q = WP d mL_law 562 (x0 :: x1 :: some (.inr (.inr v)) :: t) (.inr (.inr v) :: st) h Q := WP_step dL_law_561 rfl rfl rfl
theorem rL_law_562 {d : Nat} {h : Hp} {Q : Option PV → Hp → Prop} {st : List PV}{t : List (Option PV)} {v : Nat} : WP d mL_law 562 (some (.inr (.inr v)) :: t) st h Q = WP d mL_law 563 (some (.inr (.inr v)) :: t) (.inr (.inr v) :: st) h Q := WP_step dL_law_562 rfl rfl rfl
theorem rL_law_563 {d : Nat} {h : Hp} {Q : Option PV → Hp → Prop} {st : List PV}{x0 x1 x2 : Option PV} {t : List (Option PV)} {v : Int} : WP d mL_law 563 (x0 :: x1 :: x2 :: some (.inl v) :: t) st h Q = WP d mL_law 564 (x0 :: x1 :: x2 :: some (.inl v) :: t) (.inl v :: st) h Q := WP_step dL_law_563 rfl rfl rfl
theorem rL_law_564 {d : Nat} {h : Hp} {Q : Option PV → Hp → Prop} {st : List PV}{ls : List (Option PV)} : WP d mL_law 564 ls st h Q = WP d mL_law 565 ls (.inl (1) :: st) h Q := WP_step dL_law_564 rfl rfl rfl
theorem rL_law_565 {d : Nat} {h : Hp} {Q : Option PV → Hp → Prop} {st : List PV}{ls : List (Option PV)}{a b : Int} : WP d mL_law 565 ls (.inl b :: .inl a :: st) h Q = WP d mL_law 566 ls (.inl (w32 (a + b)) :: st) h Q := WP_step dL_law_565 rfl rfl rfl
theorem rL_law_566 {d : Nat} {h : Hp} {Q : Option PV → Hp → Prop} {st : List PV}{ls : List (Option PV)}{a : Nat} {z : Int} : WP d mL_law 566 ls (.inl z :: .inr (.inr a) :: st) h Q = ((hK h a).1 = 21 ∧ 0 ≤ z ∧ z < (hK h a).2 ∧ WP d mL_law 567 ls (.inl (hI h a z.toNat) :: st) h Q) := R_iald dL_law_566
theorem rL_law_567 {d : Nat} {h : Hp} {Q : Option PV → Hp → Prop} {st : List PV}{t : List (Option PV)} {v : Nat} : WP d mL_law 567 (some (.inr (.inr v)) :: t) st h Q = WP d mL_law 568 (some (.inr (.inr v)) :: t) (.inr (.inr v) :: st) h Q := WP_step dL_law_567 rfl rfl rfl
theorem rL_law_568 {d : Nat} {h : Hp} {Q : Option PV → Hp → Prop} {st : List PV}{x0 x1 x2 : Option PV} {t : List (Option PV)} {v : Int} : WP d mL_law 568 (x0 :: x1 :: x2 :: some (.inl v) :: t) st h Q = WP d mL_law 569 (x0 :: x1 :: x2 :: some (.inl v) :: t) (.inl v :: st) h Q := WP_step dL_law_568 rfl rfl rfl
theorem rL_law_569 {d : Nat} {h : Hp} {Q : Option PV → Hp → Prop} {st : List PV}{ls : List (Option PV)} : WP d mL_law 569 ls st h Q = WP d mL_law 570 ls (.inl (2) :: st) h Q := WP_step dL_law_569 rfl rfl rfl
theorem rL_law_570 {d : Nat} {h : Hp} {Q : Option PV → Hp → Prop} {st : List PV}{ls : List (Option PV)}{a b : Int} : WP d mL_law 570 ls (.inl b :: .inl a :: st) h Q = WP d mL_law 571 ls (.inl (w32 (a + b)) :: st) h Q := WP_step dL_law_570 rfl rfl rfl
theorem rL_law_571 {d : Nat} {h : Hp} {Q : Option PV → Hp → Prop} {st : List PV}{ls : List (Option PV)}{a : Nat} {z : Int} : WP d mL_law 571 ls (.inl z :: .inr (.inr a) :: st) h Q = ((hK h a).1 = 21 ∧ 0 ≤ z ∧ z < (hK h a).2 ∧ WP d mL_law 572 ls (.inl (hI h a z.toNat) :: st) h Q) := R_iald dL_law_571
theorem rL_law_572 {d : Nat} {h : Hp} {Q : Option PV → Hp → Prop} {ls : List (Option PV)}{r0 : PV}{v0 : Nat} {v1 : Int} {v2 : Int} : WP (d + 1) mL_law 572 ls (.inl v2 :: .inl v1 :: .inr (.inr v0) :: [r0]) h Q = ((hK h v0).1 = 12 ∧ WP d mX12_bold 0 [some (.inr (.inr v0)), some (.inl v1), some (.inl v2)] [] h (fun r h' => WP (d + 1) mL_law 575 ls (psh r [r0]) h' Q)) := R_callV (st := .inl v2 :: .inl v1 :: .inr (.inr v0) :: [r0]) (M := mL_law) (pc := 572) (kd := 0) (n := 3) (M' := mX12_bold) (as := [.inl v2, .inl v1, .inr (.inr v0)]) (rest := [r0]) (en := [some (.inr (.inr v0)), some (.inl v1), some (.inl v2)]) dL_law_572 rfl (Nat.le_of_ble_eq_true rfl) (Nat.le_of_ble_eq_true rfl) rfl rfl (Nat.le_of_ble_eq_true rfl) rfl rfl rfl
theorem rL_law_575 {d : Nat} {h : Hp} {Q : Option PV → Hp → Prop} {st : List PV}{ls : List (Option PV)}{a b : Int} : WP d mL_law 575 ls (.inl b :: .inl a :: st) h Q = (if a = b then WP d mL_law 1600 ls st h Q else WP d mL_law 578 ls st h Q) := R_icmp_eq dL_law_575 (by decide)
theorem rL_law_578 {d : Nat} {h : Hp} {Q : Option PV → Hp → Prop} {st : List PV}{ls : List (Option PV)} : WP d mL_law 578 ls st h Q = WP d mL_law 579 ls (.inl (0) :: st) h Q := WP_step dL_law_578 rfl rfl rfl
theorem rL_law_579 {d : Nat} {h : Hp} {Q : Option PV → Hp → Prop} {ls : List (Option PV)}{z : Int} : WP d mL_law 579 ls [.inl z] h Q = ((z = 0 ∨ z = 1) ∧ Q (some (.inl z)) h) := R_zret dL_law_579 rfl
theorem rL_law_580 {d : Nat} {h : Hp} {Q : Option PV → Hp → Prop} {st : List PV}{x0 : Option PV} {t : List (Option PV)} {v : Nat} : WP d mL_law 580 (x0 :: some (.inr (.inr v)) :: t) st h Q = WP d mL_law 581 (x0 :: some (.inr (.inr v)) :: t) (.inr (.inr v) :: st) h Q := WP_step dL_law_580 rfl rfl rfl
theorem rL_law_581 {d : Nat} {h : Hp} {Q : Option PV → Hp → Prop} {st : List PV}{t : List (Option PV)} {v : Nat} : WP d mL_law 581 (some (.inr (.inr v)) :: t) st h Q = WP d mL_law 582 (some (.inr (.inr v)) :: t) (.inr (.inr v) :: st) h Q := WP_step dL_law_581 rfl rfl rfl
theorem rL_law_582 {d : Nat} {h : Hp} {Q : Option PV → Hp → Prop} {st : List PV}{x0 x1 x2 : Option PV} {t : List (Option PV)} {v : Int} : WP d mL_law 582 (x0 :: x1 :: x2 :: some (.inl v) :: t) st h Q = WP d mL_law 583 (x0 :: x1 :: x2 :: some (.inl v) :: t) (.inl v :: st) h Q := WP_step dL_law_582 rfl rfl rfl
theorem rL_law_583 {d : Nat} {h : Hp} {Q : Option PV → Hp → Prop} {st : List PV}{ls : List (Option PV)} : WP d mL_law 583 ls st h Q = WP d mL_law 584 ls (.inl (1) :: st) h Q := WP_step dL_law_583 rfl rfl rfl
theorem rL_law_584 {d : Nat} {h : Hp} {Q : Option PV → Hp → Prop} {st : List PV}{ls : List (Option PV)}{a b : Int} : WP d mL_law 584 ls (.inl b :: .inl a :: st) h Q = WP d mL_law 585 ls (.inl (w32 (a + b)) :: st) h Q := WP_step dL_law_584 rfl rfl rfl
theorem rL_law_585 {d : Nat} {h : Hp} {Q : Option PV → Hp → Prop} {st : List PV}{ls : List (Option PV)}{a : Nat} {z : Int} : WP d mL_law 585 ls (.inl z :: .inr (.inr a) :: st) h Q = ((hK h a).1 = 21 ∧ 0 ≤ z ∧ z < (hK h a).2 ∧ WP d mL_law 586 ls (.inl (hI h a z.toNat) :: st) h Q) := R_iald dL_law_585
theorem rL_law_586 {d : Nat} {h : Hp} {Q : Option PV → Hp → Prop} {ls : List (Option PV)}{v0 : Nat} {v1 : Int} : WP (d + 1) mL_law 586 ls (.inl v1 :: .inr (.inr v0) :: []) h Q = ((hK h v0).1 = 11 ∧ WP d mX11_undo 0 [some (.inr (.inr v0)), some (.inl v1)] [] h (fun r h' => WP (d + 1) mL_law 589 ls (psh r []) h' Q)) := R_callV (st := .inl v1 :: .inr (.inr v0) :: []) (M := mL_law) (pc := 586) (kd := 0) (n := 2) (M' := mX11_undo) (as := [.inl v1, .inr (.inr v0)]) (rest := []) (en := [some (.inr (.inr v0)), some (.inl v1)]) dL_law_586 rfl (Nat.le_of_ble_eq_true rfl) (Nat.le_of_ble_eq_true rfl) rfl rfl (Nat.le_of_ble_eq_true rfl) rfl rfl rfl
theorem rL_law_589 {d : Nat} {h : Hp} {Q : Option PV → Hp → Prop} {st : List PV}{x0 x1 : Option PV} {t : List (Option PV)} {v : Nat} : WP d mL_law 589 (x0 :: x1 :: some (.inr (.inr v)) :: t) st h Q = WP d mL_law 590 (x0 :: x1 :: some (.inr (.inr v)) :: t) (.inr (.inr v) :: st) h Q := WP_step dL_law_589 rfl rfl rfl
theorem rL_law_590 {d : Nat} {h : Hp} {Q : Option PV → Hp → Prop} {st : List PV}{t : List (Option PV)} {v : Nat} : WP d mL_law 590 (some (.inr (.inr v)) :: t) st h Q = WP d mL_law 591 (some (.inr (.inr v)) :: t) (.inr (.inr v) :: st) h Q := WP_step dL_law_590 rfl rfl rfl
theorem rL_law_591 {d : Nat} {h : Hp} {Q : Option PV → Hp → Prop} {st : List PV}{x0 x1 x2 : Option PV} {t : List (Option PV)} {v : Int} : WP d mL_law 591 (x0 :: x1 :: x2 :: some (.inl v) :: t) st h Q = WP d mL_law 592 (x0 :: x1 :: x2 :: some (.inl v) :: t) (.inl v :: st) h Q := WP_step dL_law_591 rfl rfl rfl
theorem rL_law_592 {d : Nat} {h : Hp} {Q : Option PV → Hp → Prop} {st : List PV}{ls : List (Option PV)} : WP d mL_law 592 ls st h Q = WP d mL_law 593 ls (.inl (1) :: st) h Q := WP_step dL_law_592 rfl rfl rfl
theorem rL_law_593 {d : Nat} {h : Hp} {Q : Option PV → Hp → Prop} {st : List PV}{ls : List (Option PV)}{a b : Int} : WP d mL_law 593 ls (.inl b :: .inl a :: st) h Q = WP d mL_law 594 ls (.inl (w32 (a + b)) :: st) h Q := WP_step dL_law_593 rfl rfl rfl
theorem rL_law_594 {d : Nat} {h : Hp} {Q : Option PV → Hp → Prop} {st : List PV}{ls : List (Option PV)}{a : Nat} {z : Int} : WP d mL_law 594 ls (.inl z :: .inr (.inr a) :: st) h Q = ((hK h a).1 = 21 ∧ 0 ≤ z ∧ z < (hK h a).2 ∧ WP d mL_law 595 ls (.inl (hI h a z.toNat) :: st) h Q) := R_iald dL_law_594
theorem rL_law_595 {d : Nat} {h : Hp} {Q : Option PV → Hp → Prop} {ls : List (Option PV)}{r0 : PV}{v0 : Nat} {v1 : Int} : WP (d + 1) mL_law 595 ls (.inl v1 :: .inr (.inr v0) :: [r0]) h Q = ((hK h v0).1 = 12 ∧ WP d mX12_undo 0 [some (.inr (.inr v0)), some (.inl v1), none] [] h (fun r h' => WP (d + 1) mL_law 598 ls (psh r [r0]) h' Q)) := R_callV (st := .inl v1 :: .inr (.inr v0) :: [r0]) (M := mL_law) (pc := 595) (kd := 0) (n := 2) (M' := mX12_undo) (as := [.inl v1, .inr (.inr v0)]) (rest := [r0]) (en := [some (.inr (.inr v0)), some (.inl v1), none]) dL_law_595 rfl (Nat.le_of_ble_eq_true rfl) (Nat.le_of_ble_eq_true rfl) rfl rfl (Nat.le_of_ble_eq_true rfl) rfl rfl rfl
theorem rL_law_598 {d : Nat} {h : Hp} {Q : Option PV → Hp → Prop} {st : List PV}{ls : List (Option PV)}{a b : Int} : WP d mL_law 598 ls (.inl b :: .inl a :: st) h Q = (if a = b then WP d mL_law 1600 ls st h Q else WP d mL_law 601 ls st h Q) := R_icmp_eq dL_law_598 (by decide)
theorem rL_law_601 {d : Nat} {h : Hp} {Q : Option PV → Hp → Prop} {st : List PV}{ls : List (Option PV)} : WP d mL_law 601 ls st h Q = WP d mL_law 602 ls (.inl (0) :: st) h Q := WP_step dL_law_601 rfl rfl rfl
theorem rL_law_602 {d : Nat} {h : Hp} {Q : Option PV → Hp → Prop} {ls : List (Option PV)}{z : Int} : WP d mL_law 602 ls [.inl z] h Q = ((z = 0 ∨ z = 1) ∧ Q (some (.inl z)) h) := R_zret dL_law_602 rfl
theorem rL_law_603 {d : Nat} {h : Hp} {Q : Option PV → Hp → Prop} {st : List PV}{x0 : Option PV} {t : List (Option PV)} {v : Nat} : WP d mL_law 603 (x0 :: some (.inr (.inr v)) :: t) st h Q = WP d mL_law 604 (x0 :: some (.inr (.inr v)) :: t) (.inr (.inr v) :: st) h Q := WP_step dL_law_603 rfl rfl rfl
theorem rL_law_604 {d : Nat} {h : Hp} {Q : Option PV → Hp → Prop} {st : List PV}{t : List (Option PV)} {v : Nat} : WP d mL_law 604 (some (.inr (.inr v)) :: t) st h Q = WP d mL_law 605 (some (.inr (.inr v)) :: t) (.inr (.inr v) :: st) h Q := WP_step dL_law_604 rfl rfl rfl
theorem rL_law_605 {d : Nat} {h : Hp} {Q : Option PV → Hp → Prop} {st : List PV}{x0 x1 x2 : Option PV} {t : List (Option PV)} {v : Int} : WP d mL_law 605 (x0 :: x1 :: x2 :: some (.inl v) :: t) st h Q = WP d mL_law 606 (x0 :: x1 :: x2 :: some (.inl v) :: t) (.inl v :: st) h Q := WP_step dL_law_605 rfl rfl rfl
theorem rL_law_606 {d : Nat} {h : Hp} {Q : Option PV → Hp → Prop} {st : List PV}{ls : List (Option PV)} : WP d mL_law 606 ls st h Q = WP d mL_law 607 ls (.inl (1) :: st) h Q := WP_step dL_law_606 rfl rfl rfl
theorem rL_law_607 {d : Nat} {h : Hp} {Q : Option PV → Hp → Prop} {st : List PV}{ls : List (Option PV)}{a b : Int} : WP d mL_law 607 ls (.inl b :: .inl a :: st) h Q = WP d mL_law 608 ls (.inl (w32 (a + b)) :: st) h Q := WP_step dL_law_607 rfl rfl rfl
theorem rL_law_608 {d : Nat} {h : Hp} {Q : Option PV → Hp → Prop} {st : List PV}{ls : List (Option PV)}{a : Nat} {z : Int} : WP d mL_law 608 ls (.inl z :: .inr (.inr a) :: st) h Q = ((hK h a).1 = 21 ∧ 0 ≤ z ∧ z < (hK h a).2 ∧ WP d mL_law 609 ls (.inl (hI h a z.toNat) :: st) h Q) := R_iald dL_law_608
theorem rL_law_609 {d : Nat} {h : Hp} {Q : Option PV → Hp → Prop} {st : List PV}{t : List (Option PV)} {v : Nat} : WP d mL_law 609 (some (.inr (.inr v)) :: t) st h Q = WP d mL_law 610 (some (.inr (.inr v)) :: t) (.inr (.inr v) :: st) h Q := WP_step dL_law_609 rfl rfl rfl
theorem rL_law_610 {d : Nat} {h : Hp} {Q : Option PV → Hp → Prop} {st : List PV}{x0 x1 x2 : Option PV} {t : List (Option PV)} {v : Int} : WP d mL_law 610 (x0 :: x1 :: x2 :: some (.inl v) :: t) st h Q = WP d mL_law 611 (x0 :: x1 :: x2 :: some (.inl v) :: t) (.inl v :: st) h Q := WP_step dL_law_610 rfl rfl rfl
theorem rL_law_611 {d : Nat} {h : Hp} {Q : Option PV → Hp → Prop} {st : List PV}{ls : List (Option PV)} : WP d mL_law 611 ls st h Q = WP d mL_law 612 ls (.inl (2) :: st) h Q := WP_step dL_law_611 rfl rfl rfl
theorem rL_law_612 {d : Nat} {h : Hp} {Q : Option PV → Hp → Prop} {st : List PV}{ls : List (Option PV)}{a b : Int} : WP d mL_law 612 ls (.inl b :: .inl a :: st) h Q = WP d mL_law 613 ls (.inl (w32 (a + b)) :: st) h Q := WP_step dL_law_612 rfl rfl rfl
theorem rL_law_613 {d : Nat} {h : Hp} {Q : Option PV → Hp → Prop} {st : List PV}{ls : List (Option PV)}{a : Nat} {z : Int} : WP d mL_law 613 ls (.inl z :: .inr (.inr a) :: st) h Q = ((hK h a).1 = 21 ∧ 0 ≤ z ∧ z < (hK h a).2 ∧ WP d mL_law 614 ls (.inl (hI h a z.toNat) :: st) h Q) := R_iald dL_law_613
theorem rL_law_614 {d : Nat} {h : Hp} {Q : Option PV → Hp → Prop} {ls : List (Option PV)}{v0 : Nat} {v1 : Int} {v2 : Int} : WP (d + 1) mL_law 614 ls (.inl v2 :: .inl v1 :: .inr (.inr v0) :: []) h Q = ((hK h v0).1 = 11 ∧ WP d mX11_judge 0 [some (.inr (.inr v0)), some (.inl v1), some (.inl v2), none, none] [] h (fun r h' => WP (d + 1) mL_law 617 ls (psh r []) h' Q)) := R_callV (st := .inl v2 :: .inl v1 :: .inr (.inr v0) :: []) (M := mL_law) (pc := 614) (kd := 0) (n := 3) (M' := mX11_judge) (as := [.inl v2, .inl v1, .inr (.inr v0)]) (rest := []) (en := [some (.inr (.inr v0)), some (.inl v1), some (.inl v2), none, none]) dL_law_614 rfl (Nat.le_of_ble_eq_true rfl) (Nat.le_of_ble_eq_true rfl) rfl rfl (Nat.le_of_ble_eq_true rfl) rfl rfl rfl
theorem rL_law_617 {d : Nat} {h : Hp} {Q : Option PV → Hp → Prop} {st : List PV}{x0 x1 : Option PV} {t : List (Option PV)} {v : Nat} : WP d mL_law 617 (x0 :: x1 :: some (.inr (.inr v)) :: t) st h Q = WP d mL_law 618 (x0 :: x1 :: some (.inr (.inr v)) :: t) (.inr (.inr v) :: st) h Q := WP_step dL_law_617 rfl rfl rfl
theorem rL_law_618 {d : Nat} {h : Hp} {Q : Option PV → Hp → Prop} {st : List PV}{t : List (Option PV)} {v : Nat} : WP d mL_law 618 (some (.inr (.inr v)) :: t) st h Q = WP d mL_law 619 (some (.inr (.inr v)) :: t) (.inr (.inr v) :: st) h Q := WP_step dL_law_618 rfl rfl rfl
theorem rL_law_619 {d : Nat} {h : Hp} {Q : Option PV → Hp → Prop} {st : List PV}{x0 x1 x2 : Option PV} {t : List (Option PV)} {v : Int} : WP d mL_law 619 (x0 :: x1 :: x2 :: some (.inl v) :: t) st h Q = WP d mL_law 620 (x0 :: x1 :: x2 :: some (.inl v) :: t) (.inl v :: st) h Q := WP_step dL_law_619 rfl rfl rfl
theorem rL_law_620 {d : Nat} {h : Hp} {Q : Option PV → Hp → Prop} {st : List PV}{ls : List (Option PV)} : WP d mL_law 620 ls st h Q = WP d mL_law 621 ls (.inl (1) :: st) h Q := WP_step dL_law_620 rfl rfl rfl
theorem rL_law_621 {d : Nat} {h : Hp} {Q : Option PV → Hp → Prop} {st : List PV}{ls : List (Option PV)}{a b : Int} : WP d mL_law 621 ls (.inl b :: .inl a :: st) h Q = WP d mL_law 622 ls (.inl (w32 (a + b)) :: st) h Q := WP_step dL_law_621 rfl rfl rfl
theorem rL_law_622 {d : Nat} {h : Hp} {Q : Option PV → Hp → Prop} {st : List PV}{ls : List (Option PV)}{a : Nat} {z : Int} : WP d mL_law 622 ls (.inl z :: .inr (.inr a) :: st) h Q = ((hK h a).1 = 21 ∧ 0 ≤ z ∧ z < (hK h a).2 ∧ WP d mL_law 623 ls (.inl (hI h a z.toNat) :: st) h Q) := R_iald dL_law_622
theorem rL_law_623 {d : Nat} {h : Hp} {Q : Option PV → Hp → Prop} {st : List PV}{t : List (Option PV)} {v : Nat} : WP d mL_law 623 (some (.inr (.inr v)) :: t) st h Q = WP d mL_law 624 (some (.inr (.inr v)) :: t) (.inr (.inr v) :: st) h Q := WP_step dL_law_623 rfl rfl rfl
theorem rL_law_624 {d : Nat} {h : Hp} {Q : Option PV → Hp → Prop} {st : List PV}{x0 x1 x2 : Option PV} {t : List (Option PV)} {v : Int} : WP d mL_law 624 (x0 :: x1 :: x2 :: some (.inl v) :: t) st h Q = WP d mL_law 625 (x0 :: x1 :: x2 :: some (.inl v) :: t) (.inl v :: st) h Q := WP_step dL_law_624 rfl rfl rfl
theorem rL_law_625 {d : Nat} {h : Hp} {Q : Option PV → Hp → Prop} {st : List PV}{ls : List (Option PV)} : WP d mL_law 625 ls st h Q = WP d mL_law 626 ls (.inl (2) :: st) h Q := WP_step dL_law_625 rfl rfl rfl
theorem rL_law_626 {d : Nat} {h : Hp} {Q : Option PV → Hp → Prop} {st : List PV}{ls : List (Option PV)}{a b : Int} : WP d mL_law 626 ls (.inl b :: .inl a :: st) h Q = WP d mL_law 627 ls (.inl (w32 (a + b)) :: st) h Q := WP_step dL_law_626 rfl rfl rfl
theorem rL_law_627 {d : Nat} {h : Hp} {Q : Option PV → Hp → Prop} {st : List PV}{ls : List (Option PV)}{a : Nat} {z : Int} : WP d mL_law 627 ls (.inl z :: .inr (.inr a) :: st) h Q = ((hK h a).1 = 21 ∧ 0 ≤ z ∧ z < (hK h a).2 ∧ WP d mL_law 628 ls (.inl (hI h a z.toNat) :: st) h Q) := R_iald dL_law_627
theorem rL_law_628 {d : Nat} {h : Hp} {Q : Option PV → Hp → Prop} {ls : List (Option PV)}{r0 : PV}{v0 : Nat} {v1 : Int} {v2 : Int} : WP (d + 1) mL_law 628 ls (.inl v2 :: .inl v1 :: .inr (.inr v0) :: [r0]) h Q = ((hK h v0).1 = 12 ∧ WP d mX12_judge 0 [some (.inr (.inr v0)), some (.inl v1), some (.inl v2), none, none, none, none] [] h (fun r h' => WP (d + 1) mL_law 631 ls (psh r [r0]) h' Q)) := R_callV (st := .inl v2 :: .inl v1 :: .inr (.inr v0) :: [r0]) (M := mL_law) (pc := 628) (kd := 0) (n := 3) (M' := mX12_judge) (as := [.inl v2, .inl v1, .inr (.inr v0)]) (rest := [r0]) (en := [some (.inr (.inr v0)), some (.inl v1), some (.inl v2), none, none, none, none]) dL_law_628 rfl (Nat.le_of_ble_eq_true rfl) (Nat.le_of_ble_eq_true rfl) rfl rfl (Nat.le_of_ble_eq_true rfl) rfl rfl rfl
theorem rL_law_631 {d : Nat} {h : Hp} {Q : Option PV → Hp → Prop} {st : List PV}{ls : List (Option PV)}{a b : Int} : WP d mL_law 631 ls (.inl b :: .inl a :: st) h Q = (if a = b then WP d mL_law 1600 ls st h Q else WP d mL_law 634 ls st h Q) := R_icmp_eq dL_law_631 (by decide)
theorem rL_law_634 {d : Nat} {h : Hp} {Q : Option PV → Hp → Prop} {st : List PV}{ls : List (Option PV)} : WP d mL_law 634 ls st h Q = WP d mL_law 635 ls (.inl (0) :: st) h Q := WP_step dL_law_634 rfl rfl rfl
theorem rL_law_635 {d : Nat} {h : Hp} {Q : Option PV → Hp → Prop} {ls : List (Option PV)}{z : Int} : WP d mL_law 635 ls [.inl z] h Q = ((z = 0 ∨ z = 1) ∧ Q (some (.inl z)) h) := R_zret dL_law_635 rfl
theorem rL_law_636 {d : Nat} {h : Hp} {Q : Option PV → Hp → Prop} {st : List PV}{x0 : Option PV} {t : List (Option PV)} {v : Nat} : WP d mL_law 636 (x0 :: some (.inr (.inr v)) :: t) st h Q = WP d mL_law 637 (x0 :: some (.inr (.inr v)) :: t) (.inr (.inr v) :: st) h Q := WP_step dL_law_636 rfl rfl rfl
theorem rL_law_637 {d : Nat} {h : Hp} {Q : Option PV → Hp → Prop} {st : List PV}{t : List (Option PV)} {v : Nat} : WP d mL_law 637 (some (.inr (.inr v)) :: t) st h Q = WP d mL_law 638 (some (.inr (.inr v)) :: t) (.inr (.inr v) :: st) h Q := WP_step dL_law_637 rfl rfl rfl
theorem rL_law_638 {d : Nat} {h : Hp} {Q : Option PV → Hp → Prop} {st : List PV}{x0 x1 x2 : Option PV} {t : List (Option PV)} {v : Int} : WP d mL_law 638 (x0 :: x1 :: x2 :: some (.inl v) :: t) st h Q = WP d mL_law 639 (x0 :: x1 :: x2 :: some (.inl v) :: t) (.inl v :: st) h Q := WP_step dL_law_638 rfl rfl rfl
theorem rL_law_639 {d : Nat} {h : Hp} {Q : Option PV → Hp → Prop} {st : List PV}{ls : List (Option PV)} : WP d mL_law 639 ls st h Q = WP d mL_law 640 ls (.inl (1) :: st) h Q := WP_step dL_law_639 rfl rfl rfl
theorem rL_law_640 {d : Nat} {h : Hp} {Q : Option PV → Hp → Prop} {st : List PV}{ls : List (Option PV)}{a b : Int} : WP d mL_law 640 ls (.inl b :: .inl a :: st) h Q = WP d mL_law 641 ls (.inl (w32 (a + b)) :: st) h Q := WP_step dL_law_640 rfl rfl rfl
theorem rL_law_641 {d : Nat} {h : Hp} {Q : Option PV → Hp → Prop} {st : List PV}{ls : List (Option PV)}{a : Nat} {z : Int} : WP d mL_law 641 ls (.inl z :: .inr (.inr a) :: st) h Q = ((hK h a).1 = 21 ∧ 0 ≤ z ∧ z < (hK h a).2 ∧ WP d mL_law 642 ls (.inl (hI h a z.toNat) :: st) h Q) := R_iald dL_law_641
theorem rL_law_642 {d : Nat} {h : Hp} {Q : Option PV → Hp → Prop} {ls : List (Option PV)}{v0 : Nat} {v1 : Int} : WP (d + 1) mL_law 642 ls (.inl v1 :: .inr (.inr v0) :: []) h Q = ((hK h v0).1 = 11 ∧ WP d mX11_perform 0 [some (.inr (.inr v0)), some (.inl v1), none] [] h (fun r h' => WP (d + 1) mL_law 645 ls (psh r []) h' Q)) := R_callV (st := .inl v1 :: .inr (.inr v0) :: []) (M := mL_law) (pc := 642) (kd := 0) (n := 2) (M' := mX11_perform) (as := [.inl v1, .inr (.inr v0)]) (rest := []) (en := [some (.inr (.inr v0)), some (.inl v1), none]) dL_law_642 rfl (Nat.le_of_ble_eq_true rfl) (Nat.le_of_ble_eq_true rfl) rfl rfl (Nat.le_of_ble_eq_true rfl) rfl rfl rfl
theorem rL_law_645 {d : Nat} {h : Hp} {Q : Option PV → Hp → Prop} {st : List PV}{x0 x1 : Option PV} {t : List (Option PV)} {v : Nat} : WP d mL_law 645 (x0 :: x1 :: some (.inr (.inr v)) :: t) st h Q = WP d mL_law 646 (x0 :: x1 :: some (.inr (.inr v)) :: t) (.inr (.inr v) :: st) h Q := WP_step dL_law_645 rfl rfl rfl
theorem rL_law_646 {d : Nat} {h : Hp} {Q : Option PV → Hp → Prop} {st : List PV}{t : List (Option PV)} {v : Nat} : WP d mL_law 646 (some (.inr (.inr v)) :: t) st h Q = WP d mL_law 647 (some (.inr (.inr v)) :: t) (.inr (.inr v) :: st) h Q := WP_step dL_law_646 rfl rfl rfl
theorem rL_law_647 {d : Nat} {h : Hp} {Q : Option PV → Hp → Prop} {st : List PV}{x0 x1 x2 : Option PV} {t : List (Option PV)} {v : Int} : WP d mL_law 647 (x0 :: x1 :: x2 :: some (.inl v) :: t) st h Q = WP d mL_law 648 (x0 :: x1 :: x2 :: some (.inl v) :: t) (.inl v :: st) h Q := WP_step dL_law_647 rfl rfl rfl
theorem rL_law_648 {d : Nat} {h : Hp} {Q : Option PV → Hp → Prop} {st : List PV}{ls : List (Option PV)} : WP d mL_law 648 ls st h Q = WP d mL_law 649 ls (.inl (1) :: st) h Q := WP_step dL_law_648 rfl rfl rfl
theorem rL_law_649 {d : Nat} {h : Hp} {Q : Option PV → Hp → Prop} {st : List PV}{ls : List (Option PV)}{a b : Int} : WP d mL_law 649 ls (.inl b :: .inl a :: st) h Q = WP d mL_law 650 ls (.inl (w32 (a + b)) :: st) h Q := WP_step dL_law_649 rfl rfl rfl
theorem rL_law_650 {d : Nat} {h : Hp} {Q : Option PV → Hp → Prop} {st : List PV}{ls : List (Option PV)}{a : Nat} {z : Int} : WP d mL_law 650 ls (.inl z :: .inr (.inr a) :: st) h Q = ((hK h a).1 = 21 ∧ 0 ≤ z ∧ z < (hK h a).2 ∧ WP d mL_law 651 ls (.inl (hI h a z.toNat) :: st) h Q) := R_iald dL_law_650
theorem rL_law_651 {d : Nat} {h : Hp} {Q : Option PV → Hp → Prop} {ls : List (Option PV)}{r0 : PV}{v0 : Nat} {v1 : Int} : WP (d + 1) mL_law 651 ls (.inl v1 :: .inr (.inr v0) :: [r0]) h Q = ((hK h v0).1 = 12 ∧ WP d mX12_perform 0 [some (.inr (.inr v0)), some (.inl v1), none, none] [] h (fun r h' => WP (d + 1) mL_law 654 ls (psh r [r0]) h' Q)) := R_callV (st := .inl v1 :: .inr (.inr v0) :: [r0]) (M := mL_law) (pc := 651) (kd := 0) (n := 2) (M' := mX12_perform) (as := [.inl v1, .inr (.inr v0)]) (rest := [r0]) (en := [some (.inr (.inr v0)), some (.inl v1), none, none]) dL_law_651 rfl (Nat.le_of_ble_eq_true rfl) (Nat.le_of_ble_eq_true rfl) rfl rfl (Nat.le_of_ble_eq_true rfl) rfl rfl rfl
theorem rL_law_654 {d : Nat} {h : Hp} {Q : Option PV → Hp → Prop} {st : List PV}{ls : List (Option PV)}{a b : Int} : WP d mL_law 654 ls (.inl b :: .inl a :: st) h Q = (if a = b then WP d mL_law 1600 ls st h Q else WP d mL_law 657 ls st h Q) := R_icmp_eq dL_law_654 (by decide)
theorem rL_law_657 {d : Nat} {h : Hp} {Q : Option PV → Hp → Prop} {st : List PV}{ls : List (Option PV)} : WP d mL_law 657 ls st h Q = WP d mL_law 658 ls (.inl (0) :: st) h Q := WP_step dL_law_657 rfl rfl rfl
theorem rL_law_658 {d : Nat} {h : Hp} {Q : Option PV → Hp → Prop} {ls : List (Option PV)}{z : Int} : WP d mL_law 658 ls [.inl z] h Q = ((z = 0 ∨ z = 1) ∧ Q (some (.inl z)) h) := R_zret dL_law_658 rfl
theorem rL_law_659 {d : Nat} {h : Hp} {Q : Option PV → Hp → Prop} {st : List PV}{x0 : Option PV} {t : List (Option PV)} {v : Nat} : WP d mL_law 659 (x0 :: some (.inr (.inr v)) :: t) st h Q = WP d mL_law 660 (x0 :: some (.inr (.inr v)) :: t) (.inr (.inr v) :: st) h Q := WP_step dL_law_659 rfl rfl rfl
theorem rL_law_660 {d : Nat} {h : Hp} {Q : Option PV → Hp → Prop} {st : List PV}{t : List (Option PV)} {v : Nat} : WP d mL_law 660 (some (.inr (.inr v)) :: t) st h Q = WP d mL_law 661 (some (.inr (.inr v)) :: t) (.inr (.inr v) :: st) h Q := WP_step dL_law_660 rfl rfl rfl
theorem rL_law_661 {d : Nat} {h : Hp} {Q : Option PV → Hp → Prop} {st : List PV}{x0 x1 x2 : Option PV} {t : List (Option PV)} {v : Int} : WP d mL_law 661 (x0 :: x1 :: x2 :: some (.inl v) :: t) st h Q = WP d mL_law 662 (x0 :: x1 :: x2 :: some (.inl v) :: t) (.inl v :: st) h Q := WP_step dL_law_661 rfl rfl rfl
theorem rL_law_662 {d : Nat} {h : Hp} {Q : Option PV → Hp → Prop} {st : List PV}{ls : List (Option PV)} : WP d mL_law 662 ls st h Q = WP d mL_law 663 ls (.inl (1) :: st) h Q := WP_step dL_law_662 rfl rfl rfl
theorem rL_law_663 {d : Nat} {h : Hp} {Q : Option PV → Hp → Prop} {st : List PV}{ls : List (Option PV)}{a b : Int} : WP d mL_law 663 ls (.inl b :: .inl a :: st) h Q = WP d mL_law 664 ls (.inl (w32 (a + b)) :: st) h Q := WP_step dL_law_663 rfl rfl rfl
theorem rL_law_664 {d : Nat} {h : Hp} {Q : Option PV → Hp → Prop} {st : List PV}{ls : List (Option PV)}{a : Nat} {z : Int} : WP d mL_law 664 ls (.inl z :: .inr (.inr a) :: st) h Q = ((hK h a).1 = 21 ∧ 0 ≤ z ∧ z < (hK h a).2 ∧ WP d mL_law 665 ls (.inl (hI h a z.toNat) :: st) h Q) := R_iald dL_law_664
theorem rL_law_665 {d : Nat} {h : Hp} {Q : Option PV → Hp → Prop} {st : List PV}{t : List (Option PV)} {v : Nat} : WP d mL_law 665 (some (.inr (.inr v)) :: t) st h Q = WP d mL_law 666 (some (.inr (.inr v)) :: t) (.inr (.inr v) :: st) h Q := WP_step dL_law_665 rfl rfl rfl
theorem rL_law_666 {d : Nat} {h : Hp} {Q : Option PV → Hp → Prop} {st : List PV}{x0 x1 x2 : Option PV} {t : List (Option PV)} {v : Int} : WP d mL_law 666 (x0 :: x1 :: x2 :: some (.inl v) :: t) st h Q = WP d mL_law 667 (x0 :: x1 :: x2 :: some (.inl v) :: t) (.inl v :: st) h Q := WP_step dL_law_666 rfl rfl rfl
theorem rL_law_667 {d : Nat} {h : Hp} {Q : Option PV → Hp → Prop} {st : List PV}{ls : List (Option PV)} : WP d mL_law 667 ls st h Q = WP d mL_law 668 ls (.inl (2) :: st) h Q := WP_step dL_law_667 rfl rfl rfl
theorem rL_law_668 {d : Nat} {h : Hp} {Q : Option PV → Hp → Prop} {st : List PV}{ls : List (Option PV)}{a b : Int} : WP d mL_law 668 ls (.inl b :: .inl a :: st) h Q = WP d mL_law 669 ls (.inl (w32 (a + b)) :: st) h Q := WP_step dL_law_668 rfl rfl rfl
theorem rL_law_669 {d : Nat} {h : Hp} {Q : Option PV → Hp → Prop} {st : List PV}{ls : List (Option PV)}{a : Nat} {z : Int} : WP d mL_law 669 ls (.inl z :: .inr (.inr a) :: st) h Q = ((hK h a).1 = 21 ∧ 0 ≤ z ∧ z < (hK h a).2 ∧ WP d mL_law 670 ls (.inl (hI h a z.toNat) :: st) h Q) := R_iald dL_law_669
theorem rL_law_670 {d : Nat} {h : Hp} {Q : Option PV → Hp → Prop} {ls : List (Option PV)}{v0 : Nat} {v1 : Int} {v2 : Int} : WP (d + 1) mL_law 670 ls (.inl v2 :: .inl v1 :: .inr (.inr v0) :: []) h Q = ((hK h v0).1 = 11 ∧ WP d mX11_summer 0 [some (.inr (.inr v0)), some (.inl v1), some (.inl v2), none, none, none, none, none] [] h (fun r h' => WP (d + 1) mL_law 673 ls (psh r []) h' Q)) := R_callV (st := .inl v2 :: .inl v1 :: .inr (.inr v0) :: []) (M := mL_law) (pc := 670) (kd := 0) (n := 3) (M' := mX11_summer) (as := [.inl v2, .inl v1, .inr (.inr v0)]) (rest := []) (en := [some (.inr (.inr v0)), some (.inl v1), some (.inl v2), none, none, none, none, none]) dL_law_670 rfl (Nat.le_of_ble_eq_true rfl) (Nat.le_of_ble_eq_true rfl) rfl rfl (Nat.le_of_ble_eq_true rfl) rfl rfl rfl
theorem rL_law_673 {d : Nat} {h : Hp} {Q : Option PV → Hp → Prop} {st : List PV}{x0 x1 : Option PV} {t : List (Option PV)} {v : Nat} : WP d mL_law 673 (x0 :: x1 :: some (.inr (.inr v)) :: t) st h Q = WP d mL_law 674 (x0 :: x1 :: some (.inr (.inr v)) :: t) (.inr (.inr v) :: st) h Q := WP_step dL_law_673 rfl rfl rfl
theorem rL_law_674 {d : Nat} {h : Hp} {Q : Option PV → Hp → Prop} {st : List PV}{t : List (Option PV)} {v : Nat} : WP d mL_law 674 (some (.inr (.inr v)) :: t) st h Q = WP d mL_law 675 (some (.inr (.inr v)) :: t) (.inr (.inr v) :: st) h Q := WP_step dL_law_674 rfl rfl rfl
theorem rL_law_675 {d : Nat} {h : Hp} {Q : Option PV → Hp → Prop} {st : List PV}{x0 x1 x2 : Option PV} {t : List (Option PV)} {v : Int} : WP d mL_law 675 (x0 :: x1 :: x2 :: some (.inl v) :: t) st h Q = WP d mL_law 676 (x0 :: x1 :: x2 :: some (.inl v) :: t) (.inl v :: st) h Q := WP_step dL_law_675 rfl rfl rfl
theorem rL_law_676 {d : Nat} {h : Hp} {Q : Option PV → Hp → Prop} {st : List PV}{ls : List (Option PV)} : WP d mL_law 676 ls st h Q = WP d mL_law 677 ls (.inl (1) :: st) h Q := WP_step dL_law_676 rfl rfl rfl
theorem rL_law_677 {d : Nat} {h : Hp} {Q : Option PV → Hp → Prop} {st : List PV}{ls : List (Option PV)}{a b : Int} : WP d mL_law 677 ls (.inl b :: .inl a :: st) h Q = WP d mL_law 678 ls (.inl (w32 (a + b)) :: st) h Q := WP_step dL_law_677 rfl rfl rfl
theorem rL_law_678 {d : Nat} {h : Hp} {Q : Option PV → Hp → Prop} {st : List PV}{ls : List (Option PV)}{a : Nat} {z : Int} : WP d mL_law 678 ls (.inl z :: .inr (.inr a) :: st) h Q = ((hK h a).1 = 21 ∧ 0 ≤ z ∧ z < (hK h a).2 ∧ WP d mL_law 679 ls (.inl (hI h a z.toNat) :: st) h Q) := R_iald dL_law_678
theorem rL_law_679 {d : Nat} {h : Hp} {Q : Option PV → Hp → Prop} {st : List PV}{t : List (Option PV)} {v : Nat} : WP d mL_law 679 (some (.inr (.inr v)) :: t) st h Q = WP d mL_law 680 (some (.inr (.inr v)) :: t) (.inr (.inr v) :: st) h Q := WP_step dL_law_679 rfl rfl rfl
theorem rL_law_680 {d : Nat} {h : Hp} {Q : Option PV → Hp → Prop} {st : List PV}{x0 x1 x2 : Option PV} {t : List (Option PV)} {v : Int} : WP d mL_law 680 (x0 :: x1 :: x2 :: some (.inl v) :: t) st h Q = WP d mL_law 681 (x0 :: x1 :: x2 :: some (.inl v) :: t) (.inl v :: st) h Q := WP_step dL_law_680 rfl rfl rfl
theorem rL_law_681 {d : Nat} {h : Hp} {Q : Option PV → Hp → Prop} {st : List PV}{ls : List (Option PV)} : WP d mL_law 681 ls st h Q = WP d mL_law 682 ls (.inl (2) :: st) h Q := WP_step dL_law_681 rfl rfl rfl
theorem rL_law_682 {d : Nat} {h : Hp} {Q : Option PV → Hp → Prop} {st : List PV}{ls : List (Option PV)}{a b : Int} : WP d mL_law 682 ls (.inl b :: .inl a :: st) h Q = WP d mL_law 683 ls (.inl (w32 (a + b)) :: st) h Q := WP_step dL_law_682 rfl rfl rfl
theorem rL_law_683 {d : Nat} {h : Hp} {Q : Option PV → Hp → Prop} {st : List PV}{ls : List (Option PV)}{a : Nat} {z : Int} : WP d mL_law 683 ls (.inl z :: .inr (.inr a) :: st) h Q = ((hK h a).1 = 21 ∧ 0 ≤ z ∧ z < (hK h a).2 ∧ WP d mL_law 684 ls (.inl (hI h a z.toNat) :: st) h Q) := R_iald dL_law_683
theorem rL_law_684 {d : Nat} {h : Hp} {Q : Option PV → Hp → Prop} {ls : List (Option PV)}{r0 : PV}{v0 : Nat} {v1 : Int} {v2 : Int} : WP (d + 1) mL_law 684 ls (.inl v2 :: .inl v1 :: .inr (.inr v0) :: [r0]) h Q = ((hK h v0).1 = 12 ∧ WP d mX12_summer 0 [some (.inr (.inr v0)), some (.inl v1), some (.inl v2), none, none, none] [] h (fun r h' => WP (d + 1) mL_law 687 ls (psh r [r0]) h' Q)) := R_callV (st := .inl v2 :: .inl v1 :: .inr (.inr v0) :: [r0]) (M := mL_law) (pc := 684) (kd := 0) (n := 3) (M' := mX12_summer) (as := [.inl v2, .inl v1, .inr (.inr v0)]) (rest := [r0]) (en := [some (.inr (.inr v0)), some (.inl v1), some (.inl v2), none, none, none]) dL_law_684 rfl (Nat.le_of_ble_eq_true rfl) (Nat.le_of_ble_eq_true rfl) rfl rfl (Nat.le_of_ble_eq_true rfl) rfl rfl rfl
theorem rL_law_687 {d : Nat} {h : Hp} {Q : Option PV → Hp → Prop} {st : List PV}{ls : List (Option PV)}{a b : Int} : WP d mL_law 687 ls (.inl b :: .inl a :: st) h Q = (if a = b then WP d mL_law 1600 ls st h Q else WP d mL_law 690 ls st h Q) := R_icmp_eq dL_law_687 (by decide)
theorem rL_law_690 {d : Nat} {h : Hp} {Q : Option PV → Hp → Prop} {st : List PV}{ls : List (Option PV)} : WP d mL_law 690 ls st h Q = WP d mL_law 691 ls (.inl (0) :: st) h Q := WP_step dL_law_690 rfl rfl rfl
theorem rL_law_691 {d : Nat} {h : Hp} {Q : Option PV → Hp → Prop} {ls : List (Option PV)}{z : Int} : WP d mL_law 691 ls [.inl z] h Q = ((z = 0 ∨ z = 1) ∧ Q (some (.inl z)) h) := R_zret dL_law_691 rfl
theorem rL_law_692 {d : Nat} {h : Hp} {Q : Option PV → Hp → Prop} {st : List PV}{x0 : Option PV} {t : List (Option PV)} {v : Nat} : WP d mL_law 692 (x0 :: some (.inr (.inr v)) :: t) st h Q = WP d mL_law 693 (x0 :: some (.inr (.inr v)) :: t) (.inr (.inr v) :: st) h Q := WP_step dL_law_692 rfl rfl rfl
theorem rL_law_693 {d : Nat} {h : Hp} {Q : Option PV → Hp → Prop} {st : List PV}{t : List (Option PV)} {v : Nat} : WP d mL_law 693 (some (.inr (.inr v)) :: t) st h Q = WP d mL_law 694 (some (.inr (.inr v)) :: t) (.inr (.inr v) :: st) h Q := WP_step dL_law_693 rfl rfl rfl
theorem rL_law_694 {d : Nat} {h : Hp} {Q : Option PV → Hp → Prop} {st : List PV}{x0 x1 x2 : Option PV} {t : List (Option PV)} {v : Int} : WP d mL_law 694 (x0 :: x1 :: x2 :: some (.inl v) :: t) st h Q = WP d mL_law 695 (x0 :: x1 :: x2 :: some (.inl v) :: t) (.inl v :: st) h Q := WP_step dL_law_694 rfl rfl rfl
theorem rL_law_695 {d : Nat} {h : Hp} {Q : Option PV → Hp → Prop} {st : List PV}{ls : List (Option PV)} : WP d mL_law 695 ls st h Q = WP d mL_law 696 ls (.inl (1) :: st) h Q := WP_step dL_law_695 rfl rfl rfl
theorem rL_law_696 {d : Nat} {h : Hp} {Q : Option PV → Hp → Prop} {st : List PV}{ls : List (Option PV)}{a b : Int} : WP d mL_law 696 ls (.inl b :: .inl a :: st) h Q = WP d mL_law 697 ls (.inl (w32 (a + b)) :: st) h Q := WP_step dL_law_696 rfl rfl rfl
theorem rL_law_697 {d : Nat} {h : Hp} {Q : Option PV → Hp → Prop} {st : List PV}{ls : List (Option PV)}{a : Nat} {z : Int} : WP d mL_law 697 ls (.inl z :: .inr (.inr a) :: st) h Q = ((hK h a).1 = 21 ∧ 0 ≤ z ∧ z < (hK h a).2 ∧ WP d mL_law 698 ls (.inl (hI h a z.toNat) :: st) h Q) := R_iald dL_law_697
theorem rL_law_698 {d : Nat} {h : Hp} {Q : Option PV → Hp → Prop} {st : List PV}{t : List (Option PV)} {v : Nat} : WP d mL_law 698 (some (.inr (.inr v)) :: t) st h Q = WP d mL_law 699 (some (.inr (.inr v)) :: t) (.inr (.inr v) :: st) h Q := WP_step dL_law_698 rfl rfl rfl
theorem rL_law_699 {d : Nat} {h : Hp} {Q : Option PV → Hp → Prop} {st : List PV}{x0 x1 x2 : Option PV} {t : List (Option PV)} {v : Int} : WP d mL_law 699 (x0 :: x1 :: x2 :: some (.inl v) :: t) st h Q = WP d mL_law 700 (x0 :: x1 :: x2 :: some (.inl v) :: t) (.inl v :: st) h Q := WP_step dL_law_699 rfl rfl rfl
theorem rL_law_700 {d : Nat} {h : Hp} {Q : Option PV → Hp → Prop} {st : List PV}{ls : List (Option PV)} : WP d mL_law 700 ls st h Q = WP d mL_law 701 ls (.inl (2) :: st) h Q := WP_step dL_law_700 rfl rfl rfl
theorem rL_law_701 {d : Nat} {h : Hp} {Q : Option PV → Hp → Prop} {st : List PV}{ls : List (Option PV)}{a b : Int} : WP d mL_law 701 ls (.inl b :: .inl a :: st) h Q = WP d mL_law 702 ls (.inl (w32 (a + b)) :: st) h Q := WP_step dL_law_701 rfl rfl rfl
theorem rL_law_702 {d : Nat} {h : Hp} {Q : Option PV → Hp → Prop} {st : List PV}{ls : List (Option PV)}{a : Nat} {z : Int} : WP d mL_law 702 ls (.inl z :: .inr (.inr a) :: st) h Q = ((hK h a).1 = 21 ∧ 0 ≤ z ∧ z < (hK h a).2 ∧ WP d mL_law 703 ls (.inl (hI h a z.toNat) :: st) h Q) := R_iald dL_law_702
theorem rL_law_703 {d : Nat} {h : Hp} {Q : Option PV → Hp → Prop} {ls : List (Option PV)}{v0 : Nat} {v1 : Int} {v2 : Int} : WP (d + 1) mL_law 703 ls (.inl v2 :: .inl v1 :: .inr (.inr v0) :: []) h Q = ((hK h v0).1 = 11 ∧ WP d mX11_soonest 0 [some (.inr (.inr v0)), some (.inl v1), some (.inl v2), none, none] [] h (fun r h' => WP (d + 1) mL_law 706 ls (psh r []) h' Q)) := R_callV (st := .inl v2 :: .inl v1 :: .inr (.inr v0) :: []) (M := mL_law) (pc := 703) (kd := 0) (n := 3) (M' := mX11_soonest) (as := [.inl v2, .inl v1, .inr (.inr v0)]) (rest := []) (en := [some (.inr (.inr v0)), some (.inl v1), some (.inl v2), none, none]) dL_law_703 rfl (Nat.le_of_ble_eq_true rfl) (Nat.le_of_ble_eq_true rfl) rfl rfl (Nat.le_of_ble_eq_true rfl) rfl rfl rfl
theorem rL_law_706 {d : Nat} {h : Hp} {Q : Option PV → Hp → Prop} {st : List PV}{x0 x1 : Option PV} {t : List (Option PV)} {v : Nat} : WP d mL_law 706 (x0 :: x1 :: some (.inr (.inr v)) :: t) st h Q = WP d mL_law 707 (x0 :: x1 :: some (.inr (.inr v)) :: t) (.inr (.inr v) :: st) h Q := WP_step dL_law_706 rfl rfl rfl
theorem rL_law_707 {d : Nat} {h : Hp} {Q : Option PV → Hp → Prop} {st : List PV}{t : List (Option PV)} {v : Nat} : WP d mL_law 707 (some (.inr (.inr v)) :: t) st h Q = WP d mL_law 708 (some (.inr (.inr v)) :: t) (.inr (.inr v) :: st) h Q := WP_step dL_law_707 rfl rfl rfl
theorem rL_law_708 {d : Nat} {h : Hp} {Q : Option PV → Hp → Prop} {st : List PV}{x0 x1 x2 : Option PV} {t : List (Option PV)} {v : Int} : WP d mL_law 708 (x0 :: x1 :: x2 :: some (.inl v) :: t) st h Q = WP d mL_law 709 (x0 :: x1 :: x2 :: some (.inl v) :: t) (.inl v :: st) h Q := WP_step dL_law_708 rfl rfl rfl
theorem rL_law_709 {d : Nat} {h : Hp} {Q : Option PV → Hp → Prop} {st : List PV}{ls : List (Option PV)} : WP d mL_law 709 ls st h Q = WP d mL_law 710 ls (.inl (1) :: st) h Q := WP_step dL_law_709 rfl rfl rfl
theorem rL_law_710 {d : Nat} {h : Hp} {Q : Option PV → Hp → Prop} {st : List PV}{ls : List (Option PV)}{a b : Int} : WP d mL_law 710 ls (.inl b :: .inl a :: st) h Q = WP d mL_law 711 ls (.inl (w32 (a + b)) :: st) h Q := WP_step dL_law_710 rfl rfl rfl
theorem rL_law_711 {d : Nat} {h : Hp} {Q : Option PV → Hp → Prop} {st : List PV}{ls : List (Option PV)}{a : Nat} {z : Int} : WP d mL_law 711 ls (.inl z :: .inr (.inr a) :: st) h Q = ((hK h a).1 = 21 ∧ 0 ≤ z ∧ z < (hK h a).2 ∧ WP d mL_law 712 ls (.inl (hI h a z.toNat) :: st) h Q) := R_iald dL_law_711
theorem rL_law_712 {d : Nat} {h : Hp} {Q : Option PV → Hp → Prop} {st : List PV}{t : List (Option PV)} {v : Nat} : WP d mL_law 712 (some (.inr (.inr v)) :: t) st h Q = WP d mL_law 713 (some (.inr (.inr v)) :: t) (.inr (.inr v) :: st) h Q := WP_step dL_law_712 rfl rfl rfl
theorem rL_law_713 {d : Nat} {h : Hp} {Q : Option PV → Hp → Prop} {st : List PV}{x0 x1 x2 : Option PV} {t : List (Option PV)} {v : Int} : WP d mL_law 713 (x0 :: x1 :: x2 :: some (.inl v) :: t) st h Q = WP d mL_law 714 (x0 :: x1 :: x2 :: some (.inl v) :: t) (.inl v :: st) h Q := WP_step dL_law_713 rfl rfl rfl
theorem rL_law_714 {d : Nat} {h : Hp} {Q : Option PV → Hp → Prop} {st : List PV}{ls : List (Option PV)} : WP d mL_law 714 ls st h Q = WP d mL_law 715 ls (.inl (2) :: st) h Q := WP_step dL_law_714 rfl rfl rfl
theorem rL_law_715 {d : Nat} {h : Hp} {Q : Option PV → Hp → Prop} {st : List PV}{ls : List (Option PV)}{a b : Int} : WP d mL_law 715 ls (.inl b :: .inl a :: st) h Q = WP d mL_law 716 ls (.inl (w32 (a + b)) :: st) h Q := WP_step dL_law_715 rfl rfl rfl
theorem rL_law_716 {d : Nat} {h : Hp} {Q : Option PV → Hp → Prop} {st : List PV}{ls : List (Option PV)}{a : Nat} {z : Int} : WP d mL_law 716 ls (.inl z :: .inr (.inr a) :: st) h Q = ((hK h a).1 = 21 ∧ 0 ≤ z ∧ z < (hK h a).2 ∧ WP d mL_law 717 ls (.inl (hI h a z.toNat) :: st) h Q) := R_iald dL_law_716
theorem rL_law_717 {d : Nat} {h : Hp} {Q : Option PV → Hp → Prop} {ls : List (Option PV)}{r0 : PV}{v0 : Nat} {v1 : Int} {v2 : Int} : WP (d + 1) mL_law 717 ls (.inl v2 :: .inl v1 :: .inr (.inr v0) :: [r0]) h Q = ((hK h v0).1 = 12 ∧ WP d mX12_soonest 0 [some (.inr (.inr v0)), some (.inl v1), some (.inl v2)] [] h (fun r h' => WP (d + 1) mL_law 720 ls (psh r [r0]) h' Q)) := R_callV (st := .inl v2 :: .inl v1 :: .inr (.inr v0) :: [r0]) (M := mL_law) (pc := 717) (kd := 0) (n := 3) (M' := mX12_soonest) (as := [.inl v2, .inl v1, .inr (.inr v0)]) (rest := [r0]) (en := [some (.inr (.inr v0)), some (.inl v1), some (.inl v2)]) dL_law_717 rfl (Nat.le_of_ble_eq_true rfl) (Nat.le_of_ble_eq_true rfl) rfl rfl (Nat.le_of_ble_eq_true rfl) rfl rfl rfl
theorem rL_law_720 {d : Nat} {h : Hp} {Q : Option PV → Hp → Prop} {st : List PV}{ls : List (Option PV)}{a b : Int} : WP d mL_law 720 ls (.inl b :: .inl a :: st) h Q = (if a = b then WP d mL_law 1600 ls st h Q else WP d mL_law 723 ls st h Q) := R_icmp_eq dL_law_720 (by decide)
theorem rL_law_723 {d : Nat} {h : Hp} {Q : Option PV → Hp → Prop} {st : List PV}{ls : List (Option PV)} : WP d mL_law 723 ls st h Q = WP d mL_law 724 ls (.inl (0) :: st) h Q := WP_step dL_law_723 rfl rfl rfl
theorem rL_law_724 {d : Nat} {h : Hp} {Q : Option PV → Hp → Prop} {ls : List (Option PV)}{z : Int} : WP d mL_law 724 ls [.inl z] h Q = ((z = 0 ∨ z = 1) ∧ Q (some (.inl z)) h) := R_zret dL_law_724 rfl
theorem rL_law_725 {d : Nat} {h : Hp} {Q : Option PV → Hp → Prop} {st : List PV}{x0 : Option PV} {t : List (Option PV)} {v : Nat} : WP d mL_law 725 (x0 :: some (.inr (.inr v)) :: t) st h Q = WP d mL_law 726 (x0 :: some (.inr (.inr v)) :: t) (.inr (.inr v) :: st) h Q := WP_step dL_law_725 rfl rfl rfl
theorem rL_law_726 {d : Nat} {h : Hp} {Q : Option PV → Hp → Prop} {st : List PV}{t : List (Option PV)} {v : Nat} : WP d mL_law 726 (some (.inr (.inr v)) :: t) st h Q = WP d mL_law 727 (some (.inr (.inr v)) :: t) (.inr (.inr v) :: st) h Q := WP_step dL_law_726 rfl rfl rfl
theorem rL_law_727 {d : Nat} {h : Hp} {Q : Option PV → Hp → Prop} {st : List PV}{x0 x1 x2 : Option PV} {t : List (Option PV)} {v : Int} : WP d mL_law 727 (x0 :: x1 :: x2 :: some (.inl v) :: t) st h Q = WP d mL_law 728 (x0 :: x1 :: x2 :: some (.inl v) :: t) (.inl v :: st) h Q := WP_step dL_law_727 rfl rfl rfl
theorem rL_law_728 {d : Nat} {h : Hp} {Q : Option PV → Hp → Prop} {st : List PV}{ls : List (Option PV)} : WP d mL_law 728 ls st h Q = WP d mL_law 729 ls (.inl (1) :: st) h Q := WP_step dL_law_728 rfl rfl rfl
theorem rL_law_729 {d : Nat} {h : Hp} {Q : Option PV → Hp → Prop} {st : List PV}{ls : List (Option PV)}{a b : Int} : WP d mL_law 729 ls (.inl b :: .inl a :: st) h Q = WP d mL_law 730 ls (.inl (w32 (a + b)) :: st) h Q := WP_step dL_law_729 rfl rfl rfl
theorem rL_law_730 {d : Nat} {h : Hp} {Q : Option PV → Hp → Prop} {st : List PV}{ls : List (Option PV)}{a : Nat} {z : Int} : WP d mL_law 730 ls (.inl z :: .inr (.inr a) :: st) h Q = ((hK h a).1 = 21 ∧ 0 ≤ z ∧ z < (hK h a).2 ∧ WP d mL_law 731 ls (.inl (hI h a z.toNat) :: st) h Q) := R_iald dL_law_730
theorem rL_law_731 {d : Nat} {h : Hp} {Q : Option PV → Hp → Prop} {st : List PV}{t : List (Option PV)} {v : Nat} : WP d mL_law 731 (some (.inr (.inr v)) :: t) st h Q = WP d mL_law 732 (some (.inr (.inr v)) :: t) (.inr (.inr v) :: st) h Q := WP_step dL_law_731 rfl rfl rfl
theorem rL_law_732 {d : Nat} {h : Hp} {Q : Option PV → Hp → Prop} {st : List PV}{x0 x1 x2 : Option PV} {t : List (Option PV)} {v : Int} : WP d mL_law 732 (x0 :: x1 :: x2 :: some (.inl v) :: t) st h Q = WP d mL_law 733 (x0 :: x1 :: x2 :: some (.inl v) :: t) (.inl v :: st) h Q := WP_step dL_law_732 rfl rfl rfl
theorem rL_law_733 {d : Nat} {h : Hp} {Q : Option PV → Hp → Prop} {st : List PV}{ls : List (Option PV)} : WP d mL_law 733 ls st h Q = WP d mL_law 734 ls (.inl (2) :: st) h Q := WP_step dL_law_733 rfl rfl rfl
theorem rL_law_734 {d : Nat} {h : Hp} {Q : Option PV → Hp → Prop} {st : List PV}{ls : List (Option PV)}{a b : Int} : WP d mL_law 734 ls (.inl b :: .inl a :: st) h Q = WP d mL_law 735 ls (.inl (w32 (a + b)) :: st) h Q := WP_step dL_law_734 rfl rfl rfl
theorem rL_law_735 {d : Nat} {h : Hp} {Q : Option PV → Hp → Prop} {st : List PV}{ls : List (Option PV)}{a : Nat} {z : Int} : WP d mL_law 735 ls (.inl z :: .inr (.inr a) :: st) h Q = ((hK h a).1 = 21 ∧ 0 ≤ z ∧ z < (hK h a).2 ∧ WP d mL_law 736 ls (.inl (hI h a z.toNat) :: st) h Q) := R_iald dL_law_735
theorem rL_law_736 {d : Nat} {h : Hp} {Q : Option PV → Hp → Prop} {st : List PV}{t : List (Option PV)} {v : Nat} : WP d mL_law 736 (some (.inr (.inr v)) :: t) st h Q = WP d mL_law 737 (some (.inr (.inr v)) :: t) (.inr (.inr v) :: st) h Q := WP_step dL_law_736 rfl rfl rfl
theorem rL_law_737 {d : Nat} {h : Hp} {Q : Option PV → Hp → Prop} {st : List PV}{x0 x1 x2 : Option PV} {t : List (Option PV)} {v : Int} : WP d mL_law 737 (x0 :: x1 :: x2 :: some (.inl v) :: t) st h Q = WP d mL_law 738 (x0 :: x1 :: x2 :: some (.inl v) :: t) (.inl v :: st) h Q := WP_step dL_law_737 rfl rfl rfl
theorem rL_law_738 {d : Nat} {h : Hp} {Q : Option PV → Hp → Prop} {st : List PV}{ls : List (Option PV)} : WP d mL_law 738 ls st h Q = WP d mL_law 739 ls (.inl (3) :: st) h Q := WP_step dL_law_738 rfl rfl rfl
theorem rL_law_739 {d : Nat} {h : Hp} {Q : Option PV → Hp → Prop} {st : List PV}{ls : List (Option PV)}{a b : Int} : WP d mL_law 739 ls (.inl b :: .inl a :: st) h Q = WP d mL_law 740 ls (.inl (w32 (a + b)) :: st) h Q := WP_step dL_law_739 rfl rfl rfl
theorem rL_law_740 {d : Nat} {h : Hp} {Q : Option PV → Hp → Prop} {st : List PV}{ls : List (Option PV)}{a : Nat} {z : Int} : WP d mL_law 740 ls (.inl z :: .inr (.inr a) :: st) h Q = ((hK h a).1 = 21 ∧ 0 ≤ z ∧ z < (hK h a).2 ∧ WP d mL_law 741 ls (.inl (hI h a z.toNat) :: st) h Q) := R_iald dL_law_740
theorem rL_law_741 {d : Nat} {h : Hp} {Q : Option PV → Hp → Prop} {ls : List (Option PV)}{v0 : Nat} {v1 : Int} {v2 : Int} {v3 : Int} : WP (d + 1) mL_law 741 ls (.inl v3 :: .inl v2 :: .inl v1 :: .inr (.inr v0) :: []) h Q = ((hK h v0).1 = 11 ∧ WP d mX11_way 0 [some (.inr (.inr v0)), some (.inl v1), some (.inl v2), some (.inl v3), none, none] [] h (fun r h' => WP (d + 1) mL_law 744 ls (psh r []) h' Q)) := R_callV (st := .inl v3 :: .inl v2 :: .inl v1 :: .inr (.inr v0) :: []) (M := mL_law) (pc := 741) (kd := 0) (n := 4) (M' := mX11_way) (as := [.inl v3, .inl v2, .inl v1, .inr (.inr v0)]) (rest := []) (en := [some (.inr (.inr v0)), some (.inl v1), some (.inl v2), some (.inl v3), none, none]) dL_law_741 rfl (Nat.le_of_ble_eq_true rfl) (Nat.le_of_ble_eq_true rfl) rfl rfl (Nat.le_of_ble_eq_true rfl) rfl rfl rfl
theorem rL_law_744 {d : Nat} {h : Hp} {Q : Option PV → Hp → Prop} {st : List PV}{x0 x1 : Option PV} {t : List (Option PV)} {v : Nat} : WP d mL_law 744 (x0 :: x1 :: some (.inr (.inr v)) :: t) st h Q = WP d mL_law 745 (x0 :: x1 :: some (.inr (.inr v)) :: t) (.inr (.inr v) :: st) h Q := WP_step dL_law_744 rfl rfl rfl
theorem rL_law_745 {d : Nat} {h : Hp} {Q : Option PV → Hp → Prop} {st : List PV}{t : List (Option PV)} {v : Nat} : WP d mL_law 745 (some (.inr (.inr v)) :: t) st h Q = WP d mL_law 746 (some (.inr (.inr v)) :: t) (.inr (.inr v) :: st) h Q := WP_step dL_law_745 rfl rfl rfl
theorem rL_law_746 {d : Nat} {h : Hp} {Q : Option PV → Hp → Prop} {st : List PV}{x0 x1 x2 : Option PV} {t : List (Option PV)} {v : Int} : WP d mL_law 746 (x0 :: x1 :: x2 :: some (.inl v) :: t) st h Q = WP d mL_law 747 (x0 :: x1 :: x2 :: some (.inl v) :: t) (.inl v :: st) h Q := WP_step dL_law_746 rfl rfl rfl
theorem rL_law_747 {d : Nat} {h : Hp} {Q : Option PV → Hp → Prop} {st : List PV}{ls : List (Option PV)} : WP d mL_law 747 ls st h Q = WP d mL_law 748 ls (.inl (1) :: st) h Q := WP_step dL_law_747 rfl rfl rfl
theorem rL_law_748 {d : Nat} {h : Hp} {Q : Option PV → Hp → Prop} {st : List PV}{ls : List (Option PV)}{a b : Int} : WP d mL_law 748 ls (.inl b :: .inl a :: st) h Q = WP d mL_law 749 ls (.inl (w32 (a + b)) :: st) h Q := WP_step dL_law_748 rfl rfl rfl
theorem rL_law_749 {d : Nat} {h : Hp} {Q : Option PV → Hp → Prop} {st : List PV}{ls : List (Option PV)}{a : Nat} {z : Int} : WP d mL_law 749 ls (.inl z :: .inr (.inr a) :: st) h Q = ((hK h a).1 = 21 ∧ 0 ≤ z ∧ z < (hK h a).2 ∧ WP d mL_law 750 ls (.inl (hI h a z.toNat) :: st) h Q) := R_iald dL_law_749
theorem rL_law_750 {d : Nat} {h : Hp} {Q : Option PV → Hp → Prop} {st : List PV}{t : List (Option PV)} {v : Nat} : WP d mL_law 750 (some (.inr (.inr v)) :: t) st h Q = WP d mL_law 751 (some (.inr (.inr v)) :: t) (.inr (.inr v) :: st) h Q := WP_step dL_law_750 rfl rfl rfl
theorem rL_law_751 {d : Nat} {h : Hp} {Q : Option PV → Hp → Prop} {st : List PV}{x0 x1 x2 : Option PV} {t : List (Option PV)} {v : Int} : WP d mL_law 751 (x0 :: x1 :: x2 :: some (.inl v) :: t) st h Q = WP d mL_law 752 (x0 :: x1 :: x2 :: some (.inl v) :: t) (.inl v :: st) h Q := WP_step dL_law_751 rfl rfl rfl
theorem rL_law_752 {d : Nat} {h : Hp} {Q : Option PV → Hp → Prop} {st : List PV}{ls : List (Option PV)} : WP d mL_law 752 ls st h Q = WP d mL_law 753 ls (.inl (2) :: st) h Q := WP_step dL_law_752 rfl rfl rfl
theorem rL_law_753 {d : Nat} {h : Hp} {Q : Option PV → Hp → Prop} {st : List PV}{ls : List (Option PV)}{a b : Int} : WP d mL_law 753 ls (.inl b :: .inl a :: st) h Q = WP d mL_law 754 ls (.inl (w32 (a + b)) :: st) h Q := WP_step dL_law_753 rfl rfl rfl
theorem rL_law_754 {d : Nat} {h : Hp} {Q : Option PV → Hp → Prop} {st : List PV}{ls : List (Option PV)}{a : Nat} {z : Int} : WP d mL_law 754 ls (.inl z :: .inr (.inr a) :: st) h Q = ((hK h a).1 = 21 ∧ 0 ≤ z ∧ z < (hK h a).2 ∧ WP d mL_law 755 ls (.inl (hI h a z.toNat) :: st) h Q) := R_iald dL_law_754
theorem rL_law_755 {d : Nat} {h : Hp} {Q : Option PV → Hp → Prop} {st : List PV}{t : List (Option PV)} {v : Nat} : WP d mL_law 755 (some (.inr (.inr v)) :: t) st h Q = WP d mL_law 756 (some (.inr (.inr v)) :: t) (.inr (.inr v) :: st) h Q := WP_step dL_law_755 rfl rfl rfl
theorem rL_law_756 {d : Nat} {h : Hp} {Q : Option PV → Hp → Prop} {st : List PV}{x0 x1 x2 : Option PV} {t : List (Option PV)} {v : Int} : WP d mL_law 756 (x0 :: x1 :: x2 :: some (.inl v) :: t) st h Q = WP d mL_law 757 (x0 :: x1 :: x2 :: some (.inl v) :: t) (.inl v :: st) h Q := WP_step dL_law_756 rfl rfl rfl
theorem rL_law_757 {d : Nat} {h : Hp} {Q : Option PV → Hp → Prop} {st : List PV}{ls : List (Option PV)} : WP d mL_law 757 ls st h Q = WP d mL_law 758 ls (.inl (3) :: st) h Q := WP_step dL_law_757 rfl rfl rfl
theorem rL_law_758 {d : Nat} {h : Hp} {Q : Option PV → Hp → Prop} {st : List PV}{ls : List (Option PV)}{a b : Int} : WP d mL_law 758 ls (.inl b :: .inl a :: st) h Q = WP d mL_law 759 ls (.inl (w32 (a + b)) :: st) h Q := WP_step dL_law_758 rfl rfl rfl
theorem rL_law_759 {d : Nat} {h : Hp} {Q : Option PV → Hp → Prop} {st : List PV}{ls : List (Option PV)}{a : Nat} {z : Int} : WP d mL_law 759 ls (.inl z :: .inr (.inr a) :: st) h Q = ((hK h a).1 = 21 ∧ 0 ≤ z ∧ z < (hK h a).2 ∧ WP d mL_law 760 ls (.inl (hI h a z.toNat) :: st) h Q) := R_iald dL_law_759
theorem rL_law_760 {d : Nat} {h : Hp} {Q : Option PV → Hp → Prop} {ls : List (Option PV)}{r0 : PV}{v0 : Nat} {v1 : Int} {v2 : Int} {v3 : Int} : WP (d + 1) mL_law 760 ls (.inl v3 :: .inl v2 :: .inl v1 :: .inr (.inr v0) :: [r0]) h Q = ((hK h v0).1 = 12 ∧ WP d mX12_way 0 [some (.inr (.inr v0)), some (.inl v1), some (.inl v2), some (.inl v3)] [] h (fun r h' => WP (d + 1) mL_law 763 ls (psh r [r0]) h' Q)) := R_callV (st := .inl v3 :: .inl v2 :: .inl v1 :: .inr (.inr v0) :: [r0]) (M := mL_law) (pc := 760) (kd := 0) (n := 4) (M' := mX12_way) (as := [.inl v3, .inl v2, .inl v1, .inr (.inr v0)]) (rest := [r0]) (en := [some (.inr (.inr v0)), some (.inl v1), some (.inl v2), some (.inl v3)]) dL_law_760 rfl (Nat.le_of_ble_eq_true rfl) (Nat.le_of_ble_eq_true rfl) rfl rfl (Nat.le_of_ble_eq_true rfl) rfl rfl rfl
theorem rL_law_763 {d : Nat} {h : Hp} {Q : Option PV → Hp → Prop} {st : List PV}{ls : List (Option PV)}{a b : Int} : WP d mL_law 763 ls (.inl b :: .inl a :: st) h Q = (if a = b then WP d mL_law 1600 ls st h Q else WP d mL_law 766 ls st h Q) := R_icmp_eq dL_law_763 (by decide)
theorem rL_law_766 {d : Nat} {h : Hp} {Q : Option PV → Hp → Prop} {st : List PV}{ls : List (Option PV)} : WP d mL_law 766 ls st h Q = WP d mL_law 767 ls (.inl (0) :: st) h Q := WP_step dL_law_766 rfl rfl rfl
theorem rL_law_767 {d : Nat} {h : Hp} {Q : Option PV → Hp → Prop} {ls : List (Option PV)}{z : Int} : WP d mL_law 767 ls [.inl z] h Q = ((z = 0 ∨ z = 1) ∧ Q (some (.inl z)) h) := R_zret dL_law_767 rfl
theorem rL_law_768 {d : Nat} {h : Hp} {Q : Option PV → Hp → Prop} {st : List PV}{x0 : Option PV} {t : List (Option PV)} {v : Nat} : WP d mL_law 768 (x0 :: some (.inr (.inr v)) :: t) st h Q = WP d mL_law 769 (x0 :: some (.inr (.inr v)) :: t) (.inr (.inr v) :: st) h Q := WP_step dL_law_768 rfl rfl rfl
theorem rL_law_769 {d : Nat} {h : Hp} {Q : Option PV → Hp → Prop} {st : List PV}{t : List (Option PV)} {v : Nat} : WP d mL_law 769 (some (.inr (.inr v)) :: t) st h Q = WP d mL_law 770 (some (.inr (.inr v)) :: t) (.inr (.inr v) :: st) h Q := WP_step dL_law_769 rfl rfl rfl
theorem rL_law_770 {d : Nat} {h : Hp} {Q : Option PV → Hp → Prop} {st : List PV}{x0 x1 x2 : Option PV} {t : List (Option PV)} {v : Int} : WP d mL_law 770 (x0 :: x1 :: x2 :: some (.inl v) :: t) st h Q = WP d mL_law 771 (x0 :: x1 :: x2 :: some (.inl v) :: t) (.inl v :: st) h Q := WP_step dL_law_770 rfl rfl rfl
theorem rL_law_771 {d : Nat} {h : Hp} {Q : Option PV → Hp → Prop} {st : List PV}{ls : List (Option PV)} : WP d mL_law 771 ls st h Q = WP d mL_law 772 ls (.inl (1) :: st) h Q := WP_step dL_law_771 rfl rfl rfl
theorem rL_law_772 {d : Nat} {h : Hp} {Q : Option PV → Hp → Prop} {st : List PV}{ls : List (Option PV)}{a b : Int} : WP d mL_law 772 ls (.inl b :: .inl a :: st) h Q = WP d mL_law 773 ls (.inl (w32 (a + b)) :: st) h Q := WP_step dL_law_772 rfl rfl rfl
theorem rL_law_773 {d : Nat} {h : Hp} {Q : Option PV → Hp → Prop} {st : List PV}{ls : List (Option PV)}{a : Nat} {z : Int} : WP d mL_law 773 ls (.inl z :: .inr (.inr a) :: st) h Q = ((hK h a).1 = 21 ∧ 0 ≤ z ∧ z < (hK h a).2 ∧ WP d mL_law 774 ls (.inl (hI h a z.toNat) :: st) h Q) := R_iald dL_law_773
theorem rL_law_774 {d : Nat} {h : Hp} {Q : Option PV → Hp → Prop} {st : List PV}{t : List (Option PV)} {v : Nat} : WP d mL_law 774 (some (.inr (.inr v)) :: t) st h Q = WP d mL_law 775 (some (.inr (.inr v)) :: t) (.inr (.inr v) :: st) h Q := WP_step dL_law_774 rfl rfl rfl
theorem rL_law_775 {d : Nat} {h : Hp} {Q : Option PV → Hp → Prop} {st : List PV}{x0 x1 x2 : Option PV} {t : List (Option PV)} {v : Int} : WP d mL_law 775 (x0 :: x1 :: x2 :: some (.inl v) :: t) st h Q = WP d mL_law 776 (x0 :: x1 :: x2 :: some (.inl v) :: t) (.inl v :: st) h Q := WP_step dL_law_775 rfl rfl rfl
theorem rL_law_776 {d : Nat} {h : Hp} {Q : Option PV → Hp → Prop} {st : List PV}{ls : List (Option PV)} : WP d mL_law 776 ls st h Q = WP d mL_law 777 ls (.inl (2) :: st) h Q := WP_step dL_law_776 rfl rfl rfl
theorem rL_law_777 {d : Nat} {h : Hp} {Q : Option PV → Hp → Prop} {st : List PV}{ls : List (Option PV)}{a b : Int} : WP d mL_law 777 ls (.inl b :: .inl a :: st) h Q = WP d mL_law 778 ls (.inl (w32 (a + b)) :: st) h Q := WP_step dL_law_777 rfl rfl rfl
theorem rL_law_778 {d : Nat} {h : Hp} {Q : Option PV → Hp → Prop} {st : List PV}{ls : List (Option PV)}{a : Nat} {z : Int} : WP d mL_law 778 ls (.inl z :: .inr (.inr a) :: st) h Q = ((hK h a).1 = 21 ∧ 0 ≤ z ∧ z < (hK h a).2 ∧ WP d mL_law 779 ls (.inl (hI h a z.toNat) :: st) h Q) := R_iald dL_law_778
theorem rL_law_779 {d : Nat} {h : Hp} {Q : Option PV → Hp → Prop} {ls : List (Option PV)}{v0 : Nat} {v1 : Int} {v2 : Int} : WP (d + 1) mL_law 779 ls (.inl v2 :: .inl v1 :: .inr (.inr v0) :: []) h Q = ((hK h v0).1 = 11 ∧ WP d mX11_tells 0 [some (.inr (.inr v0)), some (.inl v1), some (.inl v2), none] [] h (fun r h' => WP (d + 1) mL_law 782 ls (psh r []) h' Q)) := R_callV (st := .inl v2 :: .inl v1 :: .inr (.inr v0) :: []) (M := mL_law) (pc := 779) (kd := 0) (n := 3) (M' := mX11_tells) (as := [.inl v2, .inl v1, .inr (.inr v0)]) (rest := []) (en := [some (.inr (.inr v0)), some (.inl v1), some (.inl v2), none]) dL_law_779 rfl (Nat.le_of_ble_eq_true rfl) (Nat.le_of_ble_eq_true rfl) rfl rfl (Nat.le_of_ble_eq_true rfl) rfl rfl rfl
theorem rL_law_782 {d : Nat} {h : Hp} {Q : Option PV → Hp → Prop} {st : List PV}{x0 x1 : Option PV} {t : List (Option PV)} {v : Nat} : WP d mL_law 782 (x0 :: x1 :: some (.inr (.inr v)) :: t) st h Q = WP d mL_law 783 (x0 :: x1 :: some (.inr (.inr v)) :: t) (.inr (.inr v) :: st) h Q := WP_step dL_law_782 rfl rfl rfl
theorem rL_law_783 {d : Nat} {h : Hp} {Q : Option PV → Hp → Prop} {st : List PV}{t : List (Option PV)} {v : Nat} : WP d mL_law 783 (some (.inr (.inr v)) :: t) st h Q = WP d mL_law 784 (some (.inr (.inr v)) :: t) (.inr (.inr v) :: st) h Q := WP_step dL_law_783 rfl rfl rfl
theorem rL_law_784 {d : Nat} {h : Hp} {Q : Option PV → Hp → Prop} {st : List PV}{x0 x1 x2 : Option PV} {t : List (Option PV)} {v : Int} : WP d mL_law 784 (x0 :: x1 :: x2 :: some (.inl v) :: t) st h Q = WP d mL_law 785 (x0 :: x1 :: x2 :: some (.inl v) :: t) (.inl v :: st) h Q := WP_step dL_law_784 rfl rfl rfl
theorem rL_law_785 {d : Nat} {h : Hp} {Q : Option PV → Hp → Prop} {st : List PV}{ls : List (Option PV)} : WP d mL_law 785 ls st h Q = WP d mL_law 786 ls (.inl (1) :: st) h Q := WP_step dL_law_785 rfl rfl rfl
theorem rL_law_786 {d : Nat} {h : Hp} {Q : Option PV → Hp → Prop} {st : List PV}{ls : List (Option PV)}{a b : Int} : WP d mL_law 786 ls (.inl b :: .inl a :: st) h Q = WP d mL_law 787 ls (.inl (w32 (a + b)) :: st) h Q := WP_step dL_law_786 rfl rfl rfl
theorem rL_law_787 {d : Nat} {h : Hp} {Q : Option PV → Hp → Prop} {st : List PV}{ls : List (Option PV)}{a : Nat} {z : Int} : WP d mL_law 787 ls (.inl z :: .inr (.inr a) :: st) h Q = ((hK h a).1 = 21 ∧ 0 ≤ z ∧ z < (hK h a).2 ∧ WP d mL_law 788 ls (.inl (hI h a z.toNat) :: st) h Q) := R_iald dL_law_787
theorem rL_law_788 {d : Nat} {h : Hp} {Q : Option PV → Hp → Prop} {st : List PV}{t : List (Option PV)} {v : Nat} : WP d mL_law 788 (some (.inr (.inr v)) :: t) st h Q = WP d mL_law 789 (some (.inr (.inr v)) :: t) (.inr (.inr v) :: st) h Q := WP_step dL_law_788 rfl rfl rfl
theorem rL_law_789 {d : Nat} {h : Hp} {Q : Option PV → Hp → Prop} {st : List PV}{x0 x1 x2 : Option PV} {t : List (Option PV)} {v : Int} : WP d mL_law 789 (x0 :: x1 :: x2 :: some (.inl v) :: t) st h Q = WP d mL_law 790 (x0 :: x1 :: x2 :: some (.inl v) :: t) (.inl v :: st) h Q := WP_step dL_law_789 rfl rfl rfl
theorem rL_law_790 {d : Nat} {h : Hp} {Q : Option PV → Hp → Prop} {st : List PV}{ls : List (Option PV)} : WP d mL_law 790 ls st h Q = WP d mL_law 791 ls (.inl (2) :: st) h Q := WP_step dL_law_790 rfl rfl rfl
theorem rL_law_791 {d : Nat} {h : Hp} {Q : Option PV → Hp → Prop} {st : List PV}{ls : List (Option PV)}{a b : Int} : WP d mL_law 791 ls (.inl b :: .inl a :: st) h Q = WP d mL_law 792 ls (.inl (w32 (a + b)) :: st) h Q := WP_step dL_law_791 rfl rfl rfl
theorem rL_law_792 {d : Nat} {h : Hp} {Q : Option PV → Hp → Prop} {st : List PV}{ls : List (Option PV)}{a : Nat} {z : Int} : WP d mL_law 792 ls (.inl z :: .inr (.inr a) :: st) h Q = ((hK h a).1 = 21 ∧ 0 ≤ z ∧ z < (hK h a).2 ∧ WP d mL_law 793 ls (.inl (hI h a z.toNat) :: st) h Q) := R_iald dL_law_792
theorem rL_law_793 {d : Nat} {h : Hp} {Q : Option PV → Hp → Prop} {ls : List (Option PV)}{r0 : PV}{v0 : Nat} {v1 : Int} {v2 : Int} : WP (d + 1) mL_law 793 ls (.inl v2 :: .inl v1 :: .inr (.inr v0) :: [r0]) h Q = ((hK h v0).1 = 12 ∧ WP d mX12_tells 0 [some (.inr (.inr v0)), some (.inl v1), some (.inl v2)] [] h (fun r h' => WP (d + 1) mL_law 796 ls (psh r [r0]) h' Q)) := R_callV (st := .inl v2 :: .inl v1 :: .inr (.inr v0) :: [r0]) (M := mL_law) (pc := 793) (kd := 0) (n := 3) (M' := mX12_tells) (as := [.inl v2, .inl v1, .inr (.inr v0)]) (rest := [r0]) (en := [some (.inr (.inr v0)), some (.inl v1), some (.inl v2)]) dL_law_793 rfl (Nat.le_of_ble_eq_true rfl) (Nat.le_of_ble_eq_true rfl) rfl rfl (Nat.le_of_ble_eq_true rfl) rfl rfl rfl
theorem rL_law_796 {d : Nat} {h : Hp} {Q : Option PV → Hp → Prop} {st : List PV}{ls : List (Option PV)}{a b : Int} : WP d mL_law 796 ls (.inl b :: .inl a :: st) h Q = (if a = b then WP d mL_law 1600 ls st h Q else WP d mL_law 799 ls st h Q) := R_icmp_eq dL_law_796 (by decide)
theorem rL_law_799 {d : Nat} {h : Hp} {Q : Option PV → Hp → Prop} {st : List PV}{ls : List (Option PV)} : WP d mL_law 799 ls st h Q = WP d mL_law 800 ls (.inl (0) :: st) h Q := WP_step dL_law_799 rfl rfl rfl
theorem rL_law_800 {d : Nat} {h : Hp} {Q : Option PV → Hp → Prop} {ls : List (Option PV)}{z : Int} : WP d mL_law 800 ls [.inl z] h Q = ((z = 0 ∨ z = 1) ∧ Q (some (.inl z)) h) := R_zret dL_law_800 rfl
theorem rL_law_801 {d : Nat} {h : Hp} {Q : Option PV → Hp → Prop} {st : List PV}{x0 : Option PV} {t : List (Option PV)} {v : Nat} : WP d mL_law 801 (x0 :: some (.inr (.inr v)) :: t) st h Q = WP d mL_law 802 (x0 :: some (.inr (.inr v)) :: t) (.inr (.inr v) :: st) h Q := WP_step dL_law_801 rfl rfl rfl
theorem rL_law_802 {d : Nat} {h : Hp} {Q : Option PV → Hp → Prop} {st : List PV}{t : List (Option PV)} {v : Nat} : WP d mL_law 802 (some (.inr (.inr v)) :: t) st h Q = WP d mL_law 803 (some (.inr (.inr v)) :: t) (.inr (.inr v) :: st) h Q := WP_step dL_law_802 rfl rfl rfl
theorem rL_law_803 {d : Nat} {h : Hp} {Q : Option PV → Hp → Prop} {st : List PV}{x0 x1 x2 : Option PV} {t : List (Option PV)} {v : Int} : WP d mL_law 803 (x0 :: x1 :: x2 :: some (.inl v) :: t) st h Q = WP d mL_law 804 (x0 :: x1 :: x2 :: some (.inl v) :: t) (.inl v :: st) h Q := WP_step dL_law_803 rfl rfl rfl
theorem rL_law_804 {d : Nat} {h : Hp} {Q : Option PV → Hp → Prop} {st : List PV}{ls : List (Option PV)} : WP d mL_law 804 ls st h Q = WP d mL_law 805 ls (.inl (1) :: st) h Q := WP_step dL_law_804 rfl rfl rfl
theorem rL_law_805 {d : Nat} {h : Hp} {Q : Option PV → Hp → Prop} {st : List PV}{ls : List (Option PV)}{a b : Int} : WP d mL_law 805 ls (.inl b :: .inl a :: st) h Q = WP d mL_law 806 ls (.inl (w32 (a + b)) :: st) h Q := WP_step dL_law_805 rfl rfl rfl
theorem rL_law_806 {d : Nat} {h : Hp} {Q : Option PV → Hp → Prop} {st : List PV}{ls : List (Option PV)}{a : Nat} {z : Int} : WP d mL_law 806 ls (.inl z :: .inr (.inr a) :: st) h Q = ((hK h a).1 = 21 ∧ 0 ≤ z ∧ z < (hK h a).2 ∧ WP d mL_law 807 ls (.inl (hI h a z.toNat) :: st) h Q) := R_iald dL_law_806
theorem rL_law_807 {d : Nat} {h : Hp} {Q : Option PV → Hp → Prop} {st : List PV}{t : List (Option PV)} {v : Nat} : WP d mL_law 807 (some (.inr (.inr v)) :: t) st h Q = WP d mL_law 808 (some (.inr (.inr v)) :: t) (.inr (.inr v) :: st) h Q := WP_step dL_law_807 rfl rfl rfl
theorem rL_law_808 {d : Nat} {h : Hp} {Q : Option PV → Hp → Prop} {st : List PV}{x0 x1 x2 : Option PV} {t : List (Option PV)} {v : Int} : WP d mL_law 808 (x0 :: x1 :: x2 :: some (.inl v) :: t) st h Q = WP d mL_law 809 (x0 :: x1 :: x2 :: some (.inl v) :: t) (.inl v :: st) h Q := WP_step dL_law_808 rfl rfl rfl
theorem rL_law_809 {d : Nat} {h : Hp} {Q : Option PV → Hp → Prop} {st : List PV}{ls : List (Option PV)} : WP d mL_law 809 ls st h Q = WP d mL_law 810 ls (.inl (2) :: st) h Q := WP_step dL_law_809 rfl rfl rfl
theorem rL_law_810 {d : Nat} {h : Hp} {Q : Option PV → Hp → Prop} {st : List PV}{ls : List (Option PV)}{a b : Int} : WP d mL_law 810 ls (.inl b :: .inl a :: st) h Q = WP d mL_law 811 ls (.inl (w32 (a + b)) :: st) h Q := WP_step dL_law_810 rfl rfl rfl
theorem rL_law_811 {d : Nat} {h : Hp} {Q : Option PV → Hp → Prop} {st : List PV}{ls : List (Option PV)}{a : Nat} {z : Int} : WP d mL_law 811 ls (.inl z :: .inr (.inr a) :: st) h Q = ((hK h a).1 = 21 ∧ 0 ≤ z ∧ z < (hK h a).2 ∧ WP d mL_law 812 ls (.inl (hI h a z.toNat) :: st) h Q) := R_iald dL_law_811
theorem rL_law_812 {d : Nat} {h : Hp} {Q : Option PV → Hp → Prop} {st : List PV}{t : List (Option PV)} {v : Nat} : WP d mL_law 812 (some (.inr (.inr v)) :: t) st h Q = WP d mL_law 813 (some (.inr (.inr v)) :: t) (.inr (.inr v) :: st) h Q := WP_step dL_law_812 rfl rfl rfl
theorem rL_law_813 {d : Nat} {h : Hp} {Q : Option PV → Hp → Prop} {st : List PV}{x0 x1 x2 : Option PV} {t : List (Option PV)} {v : Int} : WP d mL_law 813 (x0 :: x1 :: x2 :: some (.inl v) :: t) st h Q = WP d mL_law 814 (x0 :: x1 :: x2 :: some (.inl v) :: t) (.inl v :: st) h Q := WP_step dL_law_813 rfl rfl rfl
theorem rL_law_814 {d : Nat} {h : Hp} {Q : Option PV → Hp → Prop} {st : List PV}{ls : List (Option PV)} : WP d mL_law 814 ls st h Q = WP d mL_law 815 ls (.inl (3) :: st) h Q := WP_step dL_law_814 rfl rfl rfl
theorem rL_law_815 {d : Nat} {h : Hp} {Q : Option PV → Hp → Prop} {st : List PV}{ls : List (Option PV)}{a b : Int} : WP d mL_law 815 ls (.inl b :: .inl a :: st) h Q = WP d mL_law 816 ls (.inl (w32 (a + b)) :: st) h Q := WP_step dL_law_815 rfl rfl rfl
theorem rL_law_816 {d : Nat} {h : Hp} {Q : Option PV → Hp → Prop} {st : List PV}{ls : List (Option PV)}{a : Nat} {z : Int} : WP d mL_law 816 ls (.inl z :: .inr (.inr a) :: st) h Q = ((hK h a).1 = 21 ∧ 0 ≤ z ∧ z < (hK h a).2 ∧ WP d mL_law 817 ls (.inl (hI h a z.toNat) :: st) h Q) := R_iald dL_law_816
theorem rL_law_817 {d : Nat} {h : Hp} {Q : Option PV → Hp → Prop} {ls : List (Option PV)}{v0 : Nat} {v1 : Int} {v2 : Int} {v3 : Int} : WP (d + 1) mL_law 817 ls (.inl v3 :: .inl v2 :: .inl v1 :: .inr (.inr v0) :: []) h Q = ((hK h v0).1 = 11 ∧ WP d mX11_tellsBy 0 [some (.inr (.inr v0)), some (.inl v1), some (.inl v2), some (.inl v3), none] [] h (fun r h' => WP (d + 1) mL_law 820 ls (psh r []) h' Q)) := R_callV (st := .inl v3 :: .inl v2 :: .inl v1 :: .inr (.inr v0) :: []) (M := mL_law) (pc := 817) (kd := 0) (n := 4) (M' := mX11_tellsBy) (as := [.inl v3, .inl v2, .inl v1, .inr (.inr v0)]) (rest := []) (en := [some (.inr (.inr v0)), some (.inl v1), some (.inl v2), some (.inl v3), none]) dL_law_817 rfl (Nat.le_of_ble_eq_true rfl) (Nat.le_of_ble_eq_true rfl) rfl rfl (Nat.le_of_ble_eq_true rfl) rfl rfl rfl
theorem rL_law_820 {d : Nat} {h : Hp} {Q : Option PV → Hp → Prop} {st : List PV}{x0 x1 : Option PV} {t : List (Option PV)} {v : Nat} : WP d mL_law 820 (x0 :: x1 :: some (.inr (.inr v)) :: t) st h Q = WP d mL_law 821 (x0 :: x1 :: some (.inr (.inr v)) :: t) (.inr (.inr v) :: st) h Q := WP_step dL_law_820 rfl rfl rfl
theorem rL_law_821 {d : Nat} {h : Hp} {Q : Option PV → Hp → Prop} {st : List PV}{t : List (Option PV)} {v : Nat} : WP d mL_law 821 (some (.inr (.inr v)) :: t) st h Q = WP d mL_law 822 (some (.inr (.inr v)) :: t) (.inr (.inr v) :: st) h Q := WP_step dL_law_821 rfl rfl rfl
theorem rL_law_822 {d : Nat} {h : Hp} {Q : Option PV → Hp → Prop} {st : List PV}{x0 x1 x2 : Option PV} {t : List (Option PV)} {v : Int} : WP d mL_law 822 (x0 :: x1 :: x2 :: some (.inl v) :: t) st h Q = WP d mL_law 823 (x0 :: x1 :: x2 :: some (.inl v) :: t) (.inl v :: st) h Q := WP_step dL_law_822 rfl rfl rfl
theorem rL_law_823 {d : Nat} {h : Hp} {Q : Option PV → Hp → Prop} {st : List PV}{ls : List (Option PV)} : WP d mL_law 823 ls st h Q = WP d mL_law 824 ls (.inl (1) :: st) h Q := WP_step dL_law_823 rfl rfl rfl
theorem rL_law_824 {d : Nat} {h : Hp} {Q : Option PV → Hp → Prop} {st : List PV}{ls : List (Option PV)}{a b : Int} : WP d mL_law 824 ls (.inl b :: .inl a :: st) h Q = WP d mL_law 825 ls (.inl (w32 (a + b)) :: st) h Q := WP_step dL_law_824 rfl rfl rfl
theorem rL_law_825 {d : Nat} {h : Hp} {Q : Option PV → Hp → Prop} {st : List PV}{ls : List (Option PV)}{a : Nat} {z : Int} : WP d mL_law 825 ls (.inl z :: .inr (.inr a) :: st) h Q = ((hK h a).1 = 21 ∧ 0 ≤ z ∧ z < (hK h a).2 ∧ WP d mL_law 826 ls (.inl (hI h a z.toNat) :: st) h Q) := R_iald dL_law_825
theorem rL_law_826 {d : Nat} {h : Hp} {Q : Option PV → Hp → Prop} {st : List PV}{t : List (Option PV)} {v : Nat} : WP d mL_law 826 (some (.inr (.inr v)) :: t) st h Q = WP d mL_law 827 (some (.inr (.inr v)) :: t) (.inr (.inr v) :: st) h Q := WP_step dL_law_826 rfl rfl rfl
theorem rL_law_827 {d : Nat} {h : Hp} {Q : Option PV → Hp → Prop} {st : List PV}{x0 x1 x2 : Option PV} {t : List (Option PV)} {v : Int} : WP d mL_law 827 (x0 :: x1 :: x2 :: some (.inl v) :: t) st h Q = WP d mL_law 828 (x0 :: x1 :: x2 :: some (.inl v) :: t) (.inl v :: st) h Q := WP_step dL_law_827 rfl rfl rfl
theorem rL_law_828 {d : Nat} {h : Hp} {Q : Option PV → Hp → Prop} {st : List PV}{ls : List (Option PV)} : WP d mL_law 828 ls st h Q = WP d mL_law 829 ls (.inl (2) :: st) h Q := WP_step dL_law_828 rfl rfl rfl
theorem rL_law_829 {d : Nat} {h : Hp} {Q : Option PV → Hp → Prop} {st : List PV}{ls : List (Option PV)}{a b : Int} : WP d mL_law 829 ls (.inl b :: .inl a :: st) h Q = WP d mL_law 830 ls (.inl (w32 (a + b)) :: st) h Q := WP_step dL_law_829 rfl rfl rfl
theorem rL_law_830 {d : Nat} {h : Hp} {Q : Option PV → Hp → Prop} {st : List PV}{ls : List (Option PV)}{a : Nat} {z : Int} : WP d mL_law 830 ls (.inl z :: .inr (.inr a) :: st) h Q = ((hK h a).1 = 21 ∧ 0 ≤ z ∧ z < (hK h a).2 ∧ WP d mL_law 831 ls (.inl (hI h a z.toNat) :: st) h Q) := R_iald dL_law_830
theorem rL_law_831 {d : Nat} {h : Hp} {Q : Option PV → Hp → Prop} {st : List PV}{t : List (Option PV)} {v : Nat} : WP d mL_law 831 (some (.inr (.inr v)) :: t) st h Q = WP d mL_law 832 (some (.inr (.inr v)) :: t) (.inr (.inr v) :: st) h Q := WP_step dL_law_831 rfl rfl rfl
theorem rL_law_832 {d : Nat} {h : Hp} {Q : Option PV → Hp → Prop} {st : List PV}{x0 x1 x2 : Option PV} {t : List (Option PV)} {v : Int} : WP d mL_law 832 (x0 :: x1 :: x2 :: some (.inl v) :: t) st h Q = WP d mL_law 833 (x0 :: x1 :: x2 :: some (.inl v) :: t) (.inl v :: st) h Q := WP_step dL_law_832 rfl rfl rfl
theorem rL_law_833 {d : Nat} {h : Hp} {Q : Option PV → Hp → Prop} {st : List PV}{ls : List (Option PV)} : WP d mL_law 833 ls st h Q = WP d mL_law 834 ls (.inl (3) :: st) h Q := WP_step dL_law_833 rfl rfl rfl
theorem rL_law_834 {d : Nat} {h : Hp} {Q : Option PV → Hp → Prop} {st : List PV}{ls : List (Option PV)}{a b : Int} : WP d mL_law 834 ls (.inl b :: .inl a :: st) h Q = WP d mL_law 835 ls (.inl (w32 (a + b)) :: st) h Q := WP_step dL_law_834 rfl rfl rfl
theorem rL_law_835 {d : Nat} {h : Hp} {Q : Option PV → Hp → Prop} {st : List PV}{ls : List (Option PV)}{a : Nat} {z : Int} : WP d mL_law 835 ls (.inl z :: .inr (.inr a) :: st) h Q = ((hK h a).1 = 21 ∧ 0 ≤ z ∧ z < (hK h a).2 ∧ WP d mL_law 836 ls (.inl (hI h a z.toNat) :: st) h Q) := R_iald dL_law_835
theorem rL_law_836 {d : Nat} {h : Hp} {Q : Option PV → Hp → Prop} {ls : List (Option PV)}{r0 : PV}{v0 : Nat} {v1 : Int} {v2 : Int} {v3 : Int} : WP (d + 1) mL_law 836 ls (.inl v3 :: .inl v2 :: .inl v1 :: .inr (.inr v0) :: [r0]) h Q = ((hK h v0).1 = 12 ∧ WP d mX12_tellsBy 0 [some (.inr (.inr v0)), some (.inl v1), some (.inl v2), some (.inl v3)] [] h (fun r h' => WP (d + 1) mL_law 839 ls (psh r [r0]) h' Q)) := R_callV (st := .inl v3 :: .inl v2 :: .inl v1 :: .inr (.inr v0) :: [r0]) (M := mL_law) (pc := 836) (kd := 0) (n := 4) (M' := mX12_tellsBy) (as := [.inl v3, .inl v2, .inl v1, .inr (.inr v0)]) (rest := [r0]) (en := [some (.inr (.inr v0)), some (.inl v1), some (.inl v2), some (.inl v3)]) dL_law_836 rfl (Nat.le_of_ble_eq_true rfl) (Nat.le_of_ble_eq_true rfl) rfl rfl (Nat.le_of_ble_eq_true rfl) rfl rfl rfl
theorem rL_law_839 {d : Nat} {h : Hp} {Q : Option PV → Hp → Prop} {st : List PV}{ls : List (Option PV)}{a b : Int} : WP d mL_law 839 ls (.inl b :: .inl a :: st) h Q = (if a = b then WP d mL_law 1600 ls st h Q else WP d mL_law 842 ls st h Q) := R_icmp_eq dL_law_839 (by decide)
theorem rL_law_842 {d : Nat} {h : Hp} {Q : Option PV → Hp → Prop} {st : List PV}{ls : List (Option PV)} : WP d mL_law 842 ls st h Q = WP d mL_law 843 ls (.inl (0) :: st) h Q := WP_step dL_law_842 rfl rfl rfl
theorem rL_law_843 {d : Nat} {h : Hp} {Q : Option PV → Hp → Prop} {ls : List (Option PV)}{z : Int} : WP d mL_law 843 ls [.inl z] h Q = ((z = 0 ∨ z = 1) ∧ Q (some (.inl z)) h) := R_zret dL_law_843 rfl
theorem rL_law_844 {d : Nat} {h : Hp} {Q : Option PV → Hp → Prop} {st : List PV}{x0 : Option PV} {t : List (Option PV)} {v : Nat} : WP d mL_law 844 (x0 :: some (.inr (.inr v)) :: t) st h Q = WP d mL_law 845 (x0 :: some (.inr (.inr v)) :: t) (.inr (.inr v) :: st) h Q := WP_step dL_law_844 rfl rfl rfl
theorem rL_law_845 {d : Nat} {h : Hp} {Q : Option PV → Hp → Prop} {st : List PV}{t : List (Option PV)} {v : Nat} : WP d mL_law 845 (some (.inr (.inr v)) :: t) st h Q = WP d mL_law 846 (some (.inr (.inr v)) :: t) (.inr (.inr v) :: st) h Q := WP_step dL_law_845 rfl rfl rfl
theorem rL_law_846 {d : Nat} {h : Hp} {Q : Option PV → Hp → Prop} {st : List PV}{x0 x1 x2 : Option PV} {t : List (Option PV)} {v : Int} : WP d mL_law 846 (x0 :: x1 :: x2 :: some (.inl v) :: t) st h Q = WP d mL_law 847 (x0 :: x1 :: x2 :: some (.inl v) :: t) (.inl v :: st) h Q := WP_step dL_law_846 rfl rfl rfl
theorem rL_law_847 {d : Nat} {h : Hp} {Q : Option PV → Hp → Prop} {st : List PV}{ls : List (Option PV)} : WP d mL_law 847 ls st h Q = WP d mL_law 848 ls (.inl (1) :: st) h Q := WP_step dL_law_847 rfl rfl rfl
theorem rL_law_848 {d : Nat} {h : Hp} {Q : Option PV → Hp → Prop} {st : List PV}{ls : List (Option PV)}{a b : Int} : WP d mL_law 848 ls (.inl b :: .inl a :: st) h Q = WP d mL_law 849 ls (.inl (w32 (a + b)) :: st) h Q := WP_step dL_law_848 rfl rfl rfl
theorem rL_law_849 {d : Nat} {h : Hp} {Q : Option PV → Hp → Prop} {st : List PV}{ls : List (Option PV)}{a : Nat} {z : Int} : WP d mL_law 849 ls (.inl z :: .inr (.inr a) :: st) h Q = ((hK h a).1 = 21 ∧ 0 ≤ z ∧ z < (hK h a).2 ∧ WP d mL_law 850 ls (.inl (hI h a z.toNat) :: st) h Q) := R_iald dL_law_849
theorem rL_law_850 {d : Nat} {h : Hp} {Q : Option PV → Hp → Prop} {st : List PV}{t : List (Option PV)} {v : Nat} : WP d mL_law 850 (some (.inr (.inr v)) :: t) st h Q = WP d mL_law 851 (some (.inr (.inr v)) :: t) (.inr (.inr v) :: st) h Q := WP_step dL_law_850 rfl rfl rfl
theorem rL_law_851 {d : Nat} {h : Hp} {Q : Option PV → Hp → Prop} {st : List PV}{x0 x1 x2 : Option PV} {t : List (Option PV)} {v : Int} : WP d mL_law 851 (x0 :: x1 :: x2 :: some (.inl v) :: t) st h Q = WP d mL_law 852 (x0 :: x1 :: x2 :: some (.inl v) :: t) (.inl v :: st) h Q := WP_step dL_law_851 rfl rfl rfl
theorem rL_law_852 {d : Nat} {h : Hp} {Q : Option PV → Hp → Prop} {st : List PV}{ls : List (Option PV)} : WP d mL_law 852 ls st h Q = WP d mL_law 853 ls (.inl (2) :: st) h Q := WP_step dL_law_852 rfl rfl rfl
theorem rL_law_853 {d : Nat} {h : Hp} {Q : Option PV → Hp → Prop} {st : List PV}{ls : List (Option PV)}{a b : Int} : WP d mL_law 853 ls (.inl b :: .inl a :: st) h Q = WP d mL_law 854 ls (.inl (w32 (a + b)) :: st) h Q := WP_step dL_law_853 rfl rfl rfl
theorem rL_law_854 {d : Nat} {h : Hp} {Q : Option PV → Hp → Prop} {st : List PV}{ls : List (Option PV)}{a : Nat} {z : Int} : WP d mL_law 854 ls (.inl z :: .inr (.inr a) :: st) h Q = ((hK h a).1 = 21 ∧ 0 ≤ z ∧ z < (hK h a).2 ∧ WP d mL_law 855 ls (.inl (hI h a z.toNat) :: st) h Q) := R_iald dL_law_854
theorem rL_law_855 {d : Nat} {h : Hp} {Q : Option PV → Hp → Prop} {ls : List (Option PV)}{v0 : Nat} {v1 : Int} {v2 : Int} : WP (d + 1) mL_law 855 ls (.inl v2 :: .inl v1 :: .inr (.inr v0) :: []) h Q = ((hK h v0).1 = 11 ∧ WP d mX11_rows 0 [some (.inr (.inr v0)), some (.inl v1), some (.inl v2), none] [] h (fun r h' => WP (d + 1) mL_law 858 ls (psh r []) h' Q)) := R_callV (st := .inl v2 :: .inl v1 :: .inr (.inr v0) :: []) (M := mL_law) (pc := 855) (kd := 0) (n := 3) (M' := mX11_rows) (as := [.inl v2, .inl v1, .inr (.inr v0)]) (rest := []) (en := [some (.inr (.inr v0)), some (.inl v1), some (.inl v2), none]) dL_law_855 rfl (Nat.le_of_ble_eq_true rfl) (Nat.le_of_ble_eq_true rfl) rfl rfl (Nat.le_of_ble_eq_true rfl) rfl rfl rfl
theorem rL_law_858 {d : Nat} {h : Hp} {Q : Option PV → Hp → Prop} {st : List PV}{x0 x1 : Option PV} {t : List (Option PV)} {v : Nat} : WP d mL_law 858 (x0 :: x1 :: some (.inr (.inr v)) :: t) st h Q = WP d mL_law 859 (x0 :: x1 :: some (.inr (.inr v)) :: t) (.inr (.inr v) :: st) h Q := WP_step dL_law_858 rfl rfl rfl
theorem rL_law_859 {d : Nat} {h : Hp} {Q : Option PV → Hp → Prop} {st : List PV}{t : List (Option PV)} {v : Nat} : WP d mL_law 859 (some (.inr (.inr v)) :: t) st h Q = WP d mL_law 860 (some (.inr (.inr v)) :: t) (.inr (.inr v) :: st) h Q := WP_step dL_law_859 rfl rfl rfl
theorem rL_law_860 {d : Nat} {h : Hp} {Q : Option PV → Hp → Prop} {st : List PV}{x0 x1 x2 : Option PV} {t : List (Option PV)} {v : Int} : WP d mL_law 860 (x0 :: x1 :: x2 :: some (.inl v) :: t) st h Q = WP d mL_law 861 (x0 :: x1 :: x2 :: some (.inl v) :: t) (.inl v :: st) h Q := WP_step dL_law_860 rfl rfl rfl
theorem rL_law_861 {d : Nat} {h : Hp} {Q : Option PV → Hp → Prop} {st : List PV}{ls : List (Option PV)} : WP d mL_law 861 ls st h Q = WP d mL_law 862 ls (.inl (1) :: st) h Q := WP_step dL_law_861 rfl rfl rfl
theorem rL_law_862 {d : Nat} {h : Hp} {Q : Option PV → Hp → Prop} {st : List PV}{ls : List (Option PV)}{a b : Int} : WP d mL_law 862 ls (.inl b :: .inl a :: st) h Q = WP d mL_law 863 ls (.inl (w32 (a + b)) :: st) h Q := WP_step dL_law_862 rfl rfl rfl
theorem rL_law_863 {d : Nat} {h : Hp} {Q : Option PV → Hp → Prop} {st : List PV}{ls : List (Option PV)}{a : Nat} {z : Int} : WP d mL_law 863 ls (.inl z :: .inr (.inr a) :: st) h Q = ((hK h a).1 = 21 ∧ 0 ≤ z ∧ z < (hK h a).2 ∧ WP d mL_law 864 ls (.inl (hI h a z.toNat) :: st) h Q) := R_iald dL_law_863
theorem rL_law_864 {d : Nat} {h : Hp} {Q : Option PV → Hp → Prop} {st : List PV}{t : List (Option PV)} {v : Nat} : WP d mL_law 864 (some (.inr (.inr v)) :: t) st h Q = WP d mL_law 865 (some (.inr (.inr v)) :: t) (.inr (.inr v) :: st) h Q := WP_step dL_law_864 rfl rfl rfl
theorem rL_law_865 {d : Nat} {h : Hp} {Q : Option PV → Hp → Prop} {st : List PV}{x0 x1 x2 : Option PV} {t : List (Option PV)} {v : Int} : WP d mL_law 865 (x0 :: x1 :: x2 :: some (.inl v) :: t) st h Q = WP d mL_law 866 (x0 :: x1 :: x2 :: some (.inl v) :: t) (.inl v :: st) h Q := WP_step dL_law_865 rfl rfl rfl
theorem rL_law_866 {d : Nat} {h : Hp} {Q : Option PV → Hp → Prop} {st : List PV}{ls : List (Option PV)} : WP d mL_law 866 ls st h Q = WP d mL_law 867 ls (.inl (2) :: st) h Q := WP_step dL_law_866 rfl rfl rfl
theorem rL_law_867 {d : Nat} {h : Hp} {Q : Option PV → Hp → Prop} {st : List PV}{ls : List (Option PV)}{a b : Int} : WP d mL_law 867 ls (.inl b :: .inl a :: st) h Q = WP d mL_law 868 ls (.inl (w32 (a + b)) :: st) h Q := WP_step dL_law_867 rfl rfl rfl
theorem rL_law_868 {d : Nat} {h : Hp} {Q : Option PV → Hp → Prop} {st : List PV}{ls : List (Option PV)}{a : Nat} {z : Int} : WP d mL_law 868 ls (.inl z :: .inr (.inr a) :: st) h Q = ((hK h a).1 = 21 ∧ 0 ≤ z ∧ z < (hK h a).2 ∧ WP d mL_law 869 ls (.inl (hI h a z.toNat) :: st) h Q) := R_iald dL_law_868
theorem rL_law_869 {d : Nat} {h : Hp} {Q : Option PV → Hp → Prop} {ls : List (Option PV)}{r0 : PV}{v0 : Nat} {v1 : Int} {v2 : Int} : WP (d + 1) mL_law 869 ls (.inl v2 :: .inl v1 :: .inr (.inr v0) :: [r0]) h Q = ((hK h v0).1 = 12 ∧ WP d mX12_rows 0 [some (.inr (.inr v0)), some (.inl v1), some (.inl v2), none] [] h (fun r h' => WP (d + 1) mL_law 872 ls (psh r [r0]) h' Q)) := R_callV (st := .inl v2 :: .inl v1 :: .inr (.inr v0) :: [r0]) (M := mL_law) (pc := 869) (kd := 0) (n := 3) (M' := mX12_rows) (as := [.inl v2, .inl v1, .inr (.inr v0)]) (rest := [r0]) (en := [some (.inr (.inr v0)), some (.inl v1), some (.inl v2), none]) dL_law_869 rfl (Nat.le_of_ble_eq_true rfl) (Nat.le_of_ble_eq_true rfl) rfl rfl (Nat.le_of_ble_eq_true rfl) rfl rfl rfl
theorem rL_law_872 {d : Nat} {h : Hp} {Q : Option PV → Hp → Prop} {st : List PV}{ls : List (Option PV)}{a b : Int} : WP d mL_law 872 ls (.inr (.inl b) :: .inr (.inl a) :: st) h Q = WP d mL_law 873 ls (.inl (lcm a b) :: st) h Q := WP_step dL_law_872 rfl rfl rfl
theorem rL_law_873 {d : Nat} {h : Hp} {Q : Option PV → Hp → Prop} {st : List PV}{ls : List (Option PV)}{a : Int} : WP d mL_law 873 ls (.inl a :: st) h Q = (if a = 0 then WP d mL_law 1600 ls st h Q else WP d mL_law 876 ls st h Q) := R_if_eq dL_law_873 (by decide)
theorem rL_law_876 {d : Nat} {h : Hp} {Q : Option PV → Hp → Prop} {st : List PV}{ls : List (Option PV)} : WP d mL_law 876 ls st h Q = WP d mL_law 877 ls (.inl (0) :: st) h Q := WP_step dL_law_876 rfl rfl rfl
theorem rL_law_877 {d : Nat} {h : Hp} {Q : Option PV → Hp → Prop} {ls : List (Option PV)}{z : Int} : WP d mL_law 877 ls [.inl z] h Q = ((z = 0 ∨ z = 1) ∧ Q (some (.inl z)) h) := R_zret dL_law_877 rfl
theorem rL_law_878 {d : Nat} {h : Hp} {Q : Option PV → Hp → Prop} {st : List PV}{x0 : Option PV} {t : List (Option PV)} {v : Nat} : WP d mL_law 878 (x0 :: some (.inr (.inr v)) :: t) st h Q = WP d mL_law 879 (x0 :: some (.inr (.inr v)) :: t) (.inr (.inr v) :: st) h Q := WP_step dL_law_878 rfl rfl rfl
theorem rL_law_879 {d : Nat} {h : Hp} {Q : Option PV → Hp → Prop} {st : List PV}{t : List (Option PV)} {v : Nat} : WP d mL_law 879 (some (.inr (.inr v)) :: t) st h Q = WP d mL_law 880 (some (.inr (.inr v)) :: t) (.inr (.inr v) :: st) h Q := WP_step dL_law_879 rfl rfl rfl
theorem rL_law_880 {d : Nat} {h : Hp} {Q : Option PV → Hp → Prop} {st : List PV}{x0 x1 x2 : Option PV} {t : List (Option PV)} {v : Int} : WP d mL_law 880 (x0 :: x1 :: x2 :: some (.inl v) :: t) st h Q = WP d mL_law 881 (x0 :: x1 :: x2 :: some (.inl v) :: t) (.inl v :: st) h Q := WP_step dL_law_880 rfl rfl rfl
theorem rL_law_881 {d : Nat} {h : Hp} {Q : Option PV → Hp → Prop} {st : List PV}{ls : List (Option PV)} : WP d mL_law 881 ls st h Q = WP d mL_law 882 ls (.inl (1) :: st) h Q := WP_step dL_law_881 rfl rfl rfl
theorem rL_law_882 {d : Nat} {h : Hp} {Q : Option PV → Hp → Prop} {st : List PV}{ls : List (Option PV)}{a b : Int} : WP d mL_law 882 ls (.inl b :: .inl a :: st) h Q = WP d mL_law 883 ls (.inl (w32 (a + b)) :: st) h Q := WP_step dL_law_882 rfl rfl rfl
theorem rL_law_883 {d : Nat} {h : Hp} {Q : Option PV → Hp → Prop} {st : List PV}{ls : List (Option PV)}{a : Nat} {z : Int} : WP d mL_law 883 ls (.inl z :: .inr (.inr a) :: st) h Q = ((hK h a).1 = 21 ∧ 0 ≤ z ∧ z < (hK h a).2 ∧ WP d mL_law 884 ls (.inl (hI h a z.toNat) :: st) h Q) := R_iald dL_law_883
theorem rL_law_884 {d : Nat} {h : Hp} {Q : Option PV → Hp → Prop} {ls : List (Option PV)}{v0 : Nat} {v1 : Int} : WP (d + 1) mL_law 884 ls (.inl v1 :: .inr (.inr v0) :: []) h Q = ((hK h v0).1 = 11 ∧ WP d mX11_needed 0 [some (.inr (.inr v0)), some (.inl v1), none, none, none] [] h (fun r h' => WP (d + 1) mL_law 887 ls (psh r []) h' Q)) := R_callV (st := .inl v1 :: .inr (.inr v0) :: []) (M := mL_law) (pc := 884) (kd := 0) (n := 2) (M' := mX11_needed) (as := [.inl v1, .inr (.inr v0)]) (rest := []) (en := [some (.inr (.inr v0)), some (.inl v1), none, none, none]) dL_law_884 rfl (Nat.le_of_ble_eq_true rfl) (Nat.le_of_ble_eq_true rfl) rfl rfl (Nat.le_of_ble_eq_true rfl) rfl rfl rfl
theorem rL_law_887 {d : Nat} {h : Hp} {Q : Option PV → Hp → Prop} {st : List PV}{x0 x1 : Option PV} {t : List (Option PV)} {v : Nat} : WP d mL_law 887 (x0 :: x1 :: some (.inr (.inr v)) :: t) st h Q = WP d mL_law 888 (x0 :: x1 :: some (.inr (.inr v)) :: t) (.inr (.inr v) :: st) h Q := WP_step dL_law_887 rfl rfl rfl
theorem rL_law_888 {d : Nat} {h : Hp} {Q : Option PV → Hp → Prop} {st : List PV}{t : List (Option PV)} {v : Nat} : WP d mL_law 888 (some (.inr (.inr v)) :: t) st h Q = WP d mL_law 889 (some (.inr (.inr v)) :: t) (.inr (.inr v) :: st) h Q := WP_step dL_law_888 rfl rfl rfl
theorem rL_law_889 {d : Nat} {h : Hp} {Q : Option PV → Hp → Prop} {st : List PV}{x0 x1 x2 : Option PV} {t : List (Option PV)} {v : Int} : WP d mL_law 889 (x0 :: x1 :: x2 :: some (.inl v) :: t) st h Q = WP d mL_law 890 (x0 :: x1 :: x2 :: some (.inl v) :: t) (.inl v :: st) h Q := WP_step dL_law_889 rfl rfl rfl
theorem rL_law_890 {d : Nat} {h : Hp} {Q : Option PV → Hp → Prop} {st : List PV}{ls : List (Option PV)} : WP d mL_law 890 ls st h Q = WP d mL_law 891 ls (.inl (1) :: st) h Q := WP_step dL_law_890 rfl rfl rfl
theorem rL_law_891 {d : Nat} {h : Hp} {Q : Option PV → Hp → Prop} {st : List PV}{ls : List (Option PV)}{a b : Int} : WP d mL_law 891 ls (.inl b :: .inl a :: st) h Q = WP d mL_law 892 ls (.inl (w32 (a + b)) :: st) h Q := WP_step dL_law_891 rfl rfl rfl
theorem rL_law_892 {d : Nat} {h : Hp} {Q : Option PV → Hp → Prop} {st : List PV}{ls : List (Option PV)}{a : Nat} {z : Int} : WP d mL_law 892 ls (.inl z :: .inr (.inr a) :: st) h Q = ((hK h a).1 = 21 ∧ 0 ≤ z ∧ z < (hK h a).2 ∧ WP d mL_law 893 ls (.inl (hI h a z.toNat) :: st) h Q) := R_iald dL_law_892
theorem rL_law_893 {d : Nat} {h : Hp} {Q : Option PV → Hp → Prop} {ls : List (Option PV)}{r0 : PV}{v0 : Nat} {v1 : Int} : WP (d + 1) mL_law 893 ls (.inl v1 :: .inr (.inr v0) :: [r0]) h Q = ((hK h v0).1 = 12 ∧ WP d mX12_needed 0 [some (.inr (.inr v0)), some (.inl v1), none, none] [] h (fun r h' => WP (d + 1) mL_law 896 ls (psh r [r0]) h' Q)) := R_callV (st := .inl v1 :: .inr (.inr v0) :: [r0]) (M := mL_law) (pc := 893) (kd := 0) (n := 2) (M' := mX12_needed) (as := [.inl v1, .inr (.inr v0)]) (rest := [r0]) (en := [some (.inr (.inr v0)), some (.inl v1), none, none]) dL_law_893 rfl (Nat.le_of_ble_eq_true rfl) (Nat.le_of_ble_eq_true rfl) rfl rfl (Nat.le_of_ble_eq_true rfl) rfl rfl rfl
theorem rL_law_896 {d : Nat} {h : Hp} {Q : Option PV → Hp → Prop} {st : List PV}{ls : List (Option PV)}{a b : Int} : WP d mL_law 896 ls (.inl b :: .inl a :: st) h Q = (if a = b then WP d mL_law 1600 ls st h Q else WP d mL_law 899 ls st h Q) := R_icmp_eq dL_law_896 (by decide)
theorem rL_law_899 {d : Nat} {h : Hp} {Q : Option PV → Hp → Prop} {st : List PV}{ls : List (Option PV)} : WP d mL_law 899 ls st h Q = WP d mL_law 900 ls (.inl (0) :: st) h Q := WP_step dL_law_899 rfl rfl rfl
theorem rL_law_900 {d : Nat} {h : Hp} {Q : Option PV → Hp → Prop} {ls : List (Option PV)}{z : Int} : WP d mL_law 900 ls [.inl z] h Q = ((z = 0 ∨ z = 1) ∧ Q (some (.inl z)) h) := R_zret dL_law_900 rfl
theorem rL_law_901 {d : Nat} {h : Hp} {Q : Option PV → Hp → Prop} {st : List PV}{x0 : Option PV} {t : List (Option PV)} {v : Nat} : WP d mL_law 901 (x0 :: some (.inr (.inr v)) :: t) st h Q = WP d mL_law 902 (x0 :: some (.inr (.inr v)) :: t) (.inr (.inr v) :: st) h Q := WP_step dL_law_901 rfl rfl rfl
theorem rL_law_902 {d : Nat} {h : Hp} {Q : Option PV → Hp → Prop} {st : List PV}{t : List (Option PV)} {v : Nat} : WP d mL_law 902 (some (.inr (.inr v)) :: t) st h Q = WP d mL_law 903 (some (.inr (.inr v)) :: t) (.inr (.inr v) :: st) h Q := WP_step dL_law_902 rfl rfl rfl
theorem rL_law_903 {d : Nat} {h : Hp} {Q : Option PV → Hp → Prop} {st : List PV}{x0 x1 x2 : Option PV} {t : List (Option PV)} {v : Int} : WP d mL_law 903 (x0 :: x1 :: x2 :: some (.inl v) :: t) st h Q = WP d mL_law 904 (x0 :: x1 :: x2 :: some (.inl v) :: t) (.inl v :: st) h Q := WP_step dL_law_903 rfl rfl rfl
theorem rL_law_904 {d : Nat} {h : Hp} {Q : Option PV → Hp → Prop} {st : List PV}{ls : List (Option PV)} : WP d mL_law 904 ls st h Q = WP d mL_law 905 ls (.inl (1) :: st) h Q := WP_step dL_law_904 rfl rfl rfl
theorem rL_law_905 {d : Nat} {h : Hp} {Q : Option PV → Hp → Prop} {st : List PV}{ls : List (Option PV)}{a b : Int} : WP d mL_law 905 ls (.inl b :: .inl a :: st) h Q = WP d mL_law 906 ls (.inl (w32 (a + b)) :: st) h Q := WP_step dL_law_905 rfl rfl rfl
theorem rL_law_906 {d : Nat} {h : Hp} {Q : Option PV → Hp → Prop} {st : List PV}{ls : List (Option PV)}{a : Nat} {z : Int} : WP d mL_law 906 ls (.inl z :: .inr (.inr a) :: st) h Q = ((hK h a).1 = 21 ∧ 0 ≤ z ∧ z < (hK h a).2 ∧ WP d mL_law 907 ls (.inl (hI h a z.toNat) :: st) h Q) := R_iald dL_law_906
theorem rL_law_907 {d : Nat} {h : Hp} {Q : Option PV → Hp → Prop} {ls : List (Option PV)}{v0 : Nat} {v1 : Int} : WP (d + 1) mL_law 907 ls (.inl v1 :: .inr (.inr v0) :: []) h Q = ((hK h v0).1 = 11 ∧ WP d mX11_fewest 0 [some (.inr (.inr v0)), some (.inl v1), none, none, none] [] h (fun r h' => WP (d + 1) mL_law 910 ls (psh r []) h' Q)) := R_callV (st := .inl v1 :: .inr (.inr v0) :: []) (M := mL_law) (pc := 907) (kd := 0) (n := 2) (M' := mX11_fewest) (as := [.inl v1, .inr (.inr v0)]) (rest := []) (en := [some (.inr (.inr v0)), some (.inl v1), none, none, none]) dL_law_907 rfl (Nat.le_of_ble_eq_true rfl) (Nat.le_of_ble_eq_true rfl) rfl rfl (Nat.le_of_ble_eq_true rfl) rfl rfl rfl
theorem rL_law_910 {d : Nat} {h : Hp} {Q : Option PV → Hp → Prop} {st : List PV}{x0 x1 : Option PV} {t : List (Option PV)} {v : Nat} : WP d mL_law 910 (x0 :: x1 :: some (.inr (.inr v)) :: t) st h Q = WP d mL_law 911 (x0 :: x1 :: some (.inr (.inr v)) :: t) (.inr (.inr v) :: st) h Q := WP_step dL_law_910 rfl rfl rfl
theorem rL_law_911 {d : Nat} {h : Hp} {Q : Option PV → Hp → Prop} {st : List PV}{t : List (Option PV)} {v : Nat} : WP d mL_law 911 (some (.inr (.inr v)) :: t) st h Q = WP d mL_law 912 (some (.inr (.inr v)) :: t) (.inr (.inr v) :: st) h Q := WP_step dL_law_911 rfl rfl rfl
theorem rL_law_912 {d : Nat} {h : Hp} {Q : Option PV → Hp → Prop} {st : List PV}{x0 x1 x2 : Option PV} {t : List (Option PV)} {v : Int} : WP d mL_law 912 (x0 :: x1 :: x2 :: some (.inl v) :: t) st h Q = WP d mL_law 913 (x0 :: x1 :: x2 :: some (.inl v) :: t) (.inl v :: st) h Q := WP_step dL_law_912 rfl rfl rfl
theorem rL_law_913 {d : Nat} {h : Hp} {Q : Option PV → Hp → Prop} {st : List PV}{ls : List (Option PV)} : WP d mL_law 913 ls st h Q = WP d mL_law 914 ls (.inl (1) :: st) h Q := WP_step dL_law_913 rfl rfl rfl
theorem rL_law_914 {d : Nat} {h : Hp} {Q : Option PV → Hp → Prop} {st : List PV}{ls : List (Option PV)}{a b : Int} : WP d mL_law 914 ls (.inl b :: .inl a :: st) h Q = WP d mL_law 915 ls (.inl (w32 (a + b)) :: st) h Q := WP_step dL_law_914 rfl rfl rfl
theorem rL_law_915 {d : Nat} {h : Hp} {Q : Option PV → Hp → Prop} {st : List PV}{ls : List (Option PV)}{a : Nat} {z : Int} : WP d mL_law 915 ls (.inl z :: .inr (.inr a) :: st) h Q = ((hK h a).1 = 21 ∧ 0 ≤ z ∧ z < (hK h a).2 ∧ WP d mL_law 916 ls (.inl (hI h a z.toNat) :: st) h Q) := R_iald dL_law_915
theorem rL_law_916 {d : Nat} {h : Hp} {Q : Option PV → Hp → Prop} {ls : List (Option PV)}{r0 : PV}{v0 : Nat} {v1 : Int} : WP (d + 1) mL_law 916 ls (.inl v1 :: .inr (.inr v0) :: [r0]) h Q = ((hK h v0).1 = 12 ∧ WP d mX12_fewest 0 [some (.inr (.inr v0)), some (.inl v1), none, none] [] h (fun r h' => WP (d + 1) mL_law 919 ls (psh r [r0]) h' Q)) := R_callV (st := .inl v1 :: .inr (.inr v0) :: [r0]) (M := mL_law) (pc := 916) (kd := 0) (n := 2) (M' := mX12_fewest) (as := [.inl v1, .inr (.inr v0)]) (rest := [r0]) (en := [some (.inr (.inr v0)), some (.inl v1), none, none]) dL_law_916 rfl (Nat.le_of_ble_eq_true rfl) (Nat.le_of_ble_eq_true rfl) rfl rfl (Nat.le_of_ble_eq_true rfl) rfl rfl rfl
theorem rL_law_919 {d : Nat} {h : Hp} {Q : Option PV → Hp → Prop} {st : List PV}{ls : List (Option PV)}{a b : Int} : WP d mL_law 919 ls (.inl b :: .inl a :: st) h Q = (if a = b then WP d mL_law 1600 ls st h Q else WP d mL_law 922 ls st h Q) := R_icmp_eq dL_law_919 (by decide)
theorem rL_law_922 {d : Nat} {h : Hp} {Q : Option PV → Hp → Prop} {st : List PV}{ls : List (Option PV)} : WP d mL_law 922 ls st h Q = WP d mL_law 923 ls (.inl (0) :: st) h Q := WP_step dL_law_922 rfl rfl rfl
theorem rL_law_923 {d : Nat} {h : Hp} {Q : Option PV → Hp → Prop} {ls : List (Option PV)}{z : Int} : WP d mL_law 923 ls [.inl z] h Q = ((z = 0 ∨ z = 1) ∧ Q (some (.inl z)) h) := R_zret dL_law_923 rfl
theorem rL_law_924 {d : Nat} {h : Hp} {Q : Option PV → Hp → Prop} {st : List PV}{x0 : Option PV} {t : List (Option PV)} {v : Nat} : WP d mL_law 924 (x0 :: some (.inr (.inr v)) :: t) st h Q = WP d mL_law 925 (x0 :: some (.inr (.inr v)) :: t) (.inr (.inr v) :: st) h Q := WP_step dL_law_924 rfl rfl rfl
theorem rL_law_925 {d : Nat} {h : Hp} {Q : Option PV → Hp → Prop} {st : List PV}{t : List (Option PV)} {v : Nat} : WP d mL_law 925 (some (.inr (.inr v)) :: t) st h Q = WP d mL_law 926 (some (.inr (.inr v)) :: t) (.inr (.inr v) :: st) h Q := WP_step dL_law_925 rfl rfl rfl
theorem rL_law_926 {d : Nat} {h : Hp} {Q : Option PV → Hp → Prop} {st : List PV}{x0 x1 x2 : Option PV} {t : List (Option PV)} {v : Int} : WP d mL_law 926 (x0 :: x1 :: x2 :: some (.inl v) :: t) st h Q = WP d mL_law 927 (x0 :: x1 :: x2 :: some (.inl v) :: t) (.inl v :: st) h Q := WP_step dL_law_926 rfl rfl rfl
theorem rL_law_927 {d : Nat} {h : Hp} {Q : Option PV → Hp → Prop} {st : List PV}{ls : List (Option PV)} : WP d mL_law 927 ls st h Q = WP d mL_law 928 ls (.inl (1) :: st) h Q := WP_step dL_law_927 rfl rfl rfl
theorem rL_law_928 {d : Nat} {h : Hp} {Q : Option PV → Hp → Prop} {st : List PV}{ls : List (Option PV)}{a b : Int} : WP d mL_law 928 ls (.inl b :: .inl a :: st) h Q = WP d mL_law 929 ls (.inl (w32 (a + b)) :: st) h Q := WP_step dL_law_928 rfl rfl rfl
theorem rL_law_929 {d : Nat} {h : Hp} {Q : Option PV → Hp → Prop} {st : List PV}{ls : List (Option PV)}{a : Nat} {z : Int} : WP d mL_law 929 ls (.inl z :: .inr (.inr a) :: st) h Q = ((hK h a).1 = 21 ∧ 0 ≤ z ∧ z < (hK h a).2 ∧ WP d mL_law 930 ls (.inl (hI h a z.toNat) :: st) h Q) := R_iald dL_law_929
theorem rL_law_930 {d : Nat} {h : Hp} {Q : Option PV → Hp → Prop} {ls : List (Option PV)}{v0 : Nat} {v1 : Int} : WP (d + 1) mL_law 930 ls (.inl v1 :: .inr (.inr v0) :: []) h Q = ((hK h v0).1 = 11 ∧ WP d mX11_deepest 0 [some (.inr (.inr v0)), some (.inl v1), none, none, none] [] h (fun r h' => WP (d + 1) mL_law 933 ls (psh r []) h' Q)) := R_callV (st := .inl v1 :: .inr (.inr v0) :: []) (M := mL_law) (pc := 930) (kd := 0) (n := 2) (M' := mX11_deepest) (as := [.inl v1, .inr (.inr v0)]) (rest := []) (en := [some (.inr (.inr v0)), some (.inl v1), none, none, none]) dL_law_930 rfl (Nat.le_of_ble_eq_true rfl) (Nat.le_of_ble_eq_true rfl) rfl rfl (Nat.le_of_ble_eq_true rfl) rfl rfl rfl
theorem rL_law_933 {d : Nat} {h : Hp} {Q : Option PV → Hp → Prop} {st : List PV}{x0 x1 : Option PV} {t : List (Option PV)} {v : Nat} : WP d mL_law 933 (x0 :: x1 :: some (.inr (.inr v)) :: t) st h Q = WP d mL_law 934 (x0 :: x1 :: some (.inr (.inr v)) :: t) (.inr (.inr v) :: st) h Q := WP_step dL_law_933 rfl rfl rfl
theorem rL_law_934 {d : Nat} {h : Hp} {Q : Option PV → Hp → Prop} {st : List PV}{t : List (Option PV)} {v : Nat} : WP d mL_law 934 (some (.inr (.inr v)) :: t) st h Q = WP d mL_law 935 (some (.inr (.inr v)) :: t) (.inr (.inr v) :: st) h Q := WP_step dL_law_934 rfl rfl rfl
theorem rL_law_935 {d : Nat} {h : Hp} {Q : Option PV → Hp → Prop} {st : List PV}{x0 x1 x2 : Option PV} {t : List (Option PV)} {v : Int} : WP d mL_law 935 (x0 :: x1 :: x2 :: some (.inl v) :: t) st h Q = WP d mL_law 936 (x0 :: x1 :: x2 :: some (.inl v) :: t) (.inl v :: st) h Q := WP_step dL_law_935 rfl rfl rfl
theorem rL_law_936 {d : Nat} {h : Hp} {Q : Option PV → Hp → Prop} {st : List PV}{ls : List (Option PV)} : WP d mL_law 936 ls st h Q = WP d mL_law 937 ls (.inl (1) :: st) h Q := WP_step dL_law_936 rfl rfl rfl
theorem rL_law_937 {d : Nat} {h : Hp} {Q : Option PV → Hp → Prop} {st : List PV}{ls : List (Option PV)}{a b : Int} : WP d mL_law 937 ls (.inl b :: .inl a :: st) h Q = WP d mL_law 938 ls (.inl (w32 (a + b)) :: st) h Q := WP_step dL_law_937 rfl rfl rfl
theorem rL_law_938 {d : Nat} {h : Hp} {Q : Option PV → Hp → Prop} {st : List PV}{ls : List (Option PV)}{a : Nat} {z : Int} : WP d mL_law 938 ls (.inl z :: .inr (.inr a) :: st) h Q = ((hK h a).1 = 21 ∧ 0 ≤ z ∧ z < (hK h a).2 ∧ WP d mL_law 939 ls (.inl (hI h a z.toNat) :: st) h Q) := R_iald dL_law_938
theorem rL_law_939 {d : Nat} {h : Hp} {Q : Option PV → Hp → Prop} {ls : List (Option PV)}{r0 : PV}{v0 : Nat} {v1 : Int} : WP (d + 1) mL_law 939 ls (.inl v1 :: .inr (.inr v0) :: [r0]) h Q = ((hK h v0).1 = 12 ∧ WP d mX12_deepest 0 [some (.inr (.inr v0)), some (.inl v1), none, none] [] h (fun r h' => WP (d + 1) mL_law 942 ls (psh r [r0]) h' Q)) := R_callV (st := .inl v1 :: .inr (.inr v0) :: [r0]) (M := mL_law) (pc := 939) (kd := 0) (n := 2) (M' := mX12_deepest) (as := [.inl v1, .inr (.inr v0)]) (rest := [r0]) (en := [some (.inr (.inr v0)), some (.inl v1), none, none]) dL_law_939 rfl (Nat.le_of_ble_eq_true rfl) (Nat.le_of_ble_eq_true rfl) rfl rfl (Nat.le_of_ble_eq_true rfl) rfl rfl rfl
theorem rL_law_942 {d : Nat} {h : Hp} {Q : Option PV → Hp → Prop} {st : List PV}{ls : List (Option PV)}{a b : Int} : WP d mL_law 942 ls (.inl b :: .inl a :: st) h Q = (if a = b then WP d mL_law 1600 ls st h Q else WP d mL_law 945 ls st h Q) := R_icmp_eq dL_law_942 (by decide)
theorem rL_law_945 {d : Nat} {h : Hp} {Q : Option PV → Hp → Prop} {st : List PV}{ls : List (Option PV)} : WP d mL_law 945 ls st h Q = WP d mL_law 946 ls (.inl (0) :: st) h Q := WP_step dL_law_945 rfl rfl rfl
theorem rL_law_946 {d : Nat} {h : Hp} {Q : Option PV → Hp → Prop} {ls : List (Option PV)}{z : Int} : WP d mL_law 946 ls [.inl z] h Q = ((z = 0 ∨ z = 1) ∧ Q (some (.inl z)) h) := R_zret dL_law_946 rfl
theorem rL_law_947 {d : Nat} {h : Hp} {Q : Option PV → Hp → Prop} {st : List PV}{x0 : Option PV} {t : List (Option PV)} {v : Nat} : WP d mL_law 947 (x0 :: some (.inr (.inr v)) :: t) st h Q = WP d mL_law 948 (x0 :: some (.inr (.inr v)) :: t) (.inr (.inr v) :: st) h Q := WP_step dL_law_947 rfl rfl rfl
theorem rL_law_948 {d : Nat} {h : Hp} {Q : Option PV → Hp → Prop} {st : List PV}{t : List (Option PV)} {v : Nat} : WP d mL_law 948 (some (.inr (.inr v)) :: t) st h Q = WP d mL_law 949 (some (.inr (.inr v)) :: t) (.inr (.inr v) :: st) h Q := WP_step dL_law_948 rfl rfl rfl
theorem rL_law_949 {d : Nat} {h : Hp} {Q : Option PV → Hp → Prop} {st : List PV}{x0 x1 x2 : Option PV} {t : List (Option PV)} {v : Int} : WP d mL_law 949 (x0 :: x1 :: x2 :: some (.inl v) :: t) st h Q = WP d mL_law 950 (x0 :: x1 :: x2 :: some (.inl v) :: t) (.inl v :: st) h Q := WP_step dL_law_949 rfl rfl rfl
theorem rL_law_950 {d : Nat} {h : Hp} {Q : Option PV → Hp → Prop} {st : List PV}{ls : List (Option PV)} : WP d mL_law 950 ls st h Q = WP d mL_law 951 ls (.inl (1) :: st) h Q := WP_step dL_law_950 rfl rfl rfl
theorem rL_law_951 {d : Nat} {h : Hp} {Q : Option PV → Hp → Prop} {st : List PV}{ls : List (Option PV)}{a b : Int} : WP d mL_law 951 ls (.inl b :: .inl a :: st) h Q = WP d mL_law 952 ls (.inl (w32 (a + b)) :: st) h Q := WP_step dL_law_951 rfl rfl rfl
theorem rL_law_952 {d : Nat} {h : Hp} {Q : Option PV → Hp → Prop} {st : List PV}{ls : List (Option PV)}{a : Nat} {z : Int} : WP d mL_law 952 ls (.inl z :: .inr (.inr a) :: st) h Q = ((hK h a).1 = 21 ∧ 0 ≤ z ∧ z < (hK h a).2 ∧ WP d mL_law 953 ls (.inl (hI h a z.toNat) :: st) h Q) := R_iald dL_law_952
theorem rL_law_953 {d : Nat} {h : Hp} {Q : Option PV → Hp → Prop} {ls : List (Option PV)}{v0 : Nat} {v1 : Int} : WP (d + 1) mL_law 953 ls (.inl v1 :: .inr (.inr v0) :: []) h Q = ((hK h v0).1 = 11 ∧ WP d mX11_shallowest 0 [some (.inr (.inr v0)), some (.inl v1), none, none, none] [] h (fun r h' => WP (d + 1) mL_law 956 ls (psh r []) h' Q)) := R_callV (st := .inl v1 :: .inr (.inr v0) :: []) (M := mL_law) (pc := 953) (kd := 0) (n := 2) (M' := mX11_shallowest) (as := [.inl v1, .inr (.inr v0)]) (rest := []) (en := [some (.inr (.inr v0)), some (.inl v1), none, none, none]) dL_law_953 rfl (Nat.le_of_ble_eq_true rfl) (Nat.le_of_ble_eq_true rfl) rfl rfl (Nat.le_of_ble_eq_true rfl) rfl rfl rfl
theorem rL_law_956 {d : Nat} {h : Hp} {Q : Option PV → Hp → Prop} {st : List PV}{x0 x1 : Option PV} {t : List (Option PV)} {v : Nat} : WP d mL_law 956 (x0 :: x1 :: some (.inr (.inr v)) :: t) st h Q = WP d mL_law 957 (x0 :: x1 :: some (.inr (.inr v)) :: t) (.inr (.inr v) :: st) h Q := WP_step dL_law_956 rfl rfl rfl
theorem rL_law_957 {d : Nat} {h : Hp} {Q : Option PV → Hp → Prop} {st : List PV}{t : List (Option PV)} {v : Nat} : WP d mL_law 957 (some (.inr (.inr v)) :: t) st h Q = WP d mL_law 958 (some (.inr (.inr v)) :: t) (.inr (.inr v) :: st) h Q := WP_step dL_law_957 rfl rfl rfl
theorem rL_law_958 {d : Nat} {h : Hp} {Q : Option PV → Hp → Prop} {st : List PV}{x0 x1 x2 : Option PV} {t : List (Option PV)} {v : Int} : WP d mL_law 958 (x0 :: x1 :: x2 :: some (.inl v) :: t) st h Q = WP d mL_law 959 (x0 :: x1 :: x2 :: some (.inl v) :: t) (.inl v :: st) h Q := WP_step dL_law_958 rfl rfl rfl
theorem rL_law_959 {d : Nat} {h : Hp} {Q : Option PV → Hp → Prop} {st : List PV}{ls : List (Option PV)} : WP d mL_law 959 ls st h Q = WP d mL_law 960 ls (.inl (1) :: st) h Q := WP_step dL_law_959 rfl rfl rfl
theorem rL_law_960 {d : Nat} {h : Hp} {Q : Option PV → Hp → Prop} {st : List PV}{ls : List (Option PV)}{a b : Int} : WP d mL_law 960 ls (.inl b :: .inl a :: st) h Q = WP d mL_law 961 ls (.inl (w32 (a + b)) :: st) h Q := WP_step dL_law_960 rfl rfl rfl
theorem rL_law_961 {d : Nat} {h : Hp} {Q : Option PV → Hp → Prop} {st : List PV}{ls : List (Option PV)}{a : Nat} {z : Int} : WP d mL_law 961 ls (.inl z :: .inr (.inr a) :: st) h Q = ((hK h a).1 = 21 ∧ 0 ≤ z ∧ z < (hK h a).2 ∧ WP d mL_law 962 ls (.inl (hI h a z.toNat) :: st) h Q) := R_iald dL_law_961
theorem rL_law_962 {d : Nat} {h : Hp} {Q : Option PV → Hp → Prop} {ls : List (Option PV)}{r0 : PV}{v0 : Nat} {v1 : Int} : WP (d + 1) mL_law 962 ls (.inl v1 :: .inr (.inr v0) :: [r0]) h Q = ((hK h v0).1 = 12 ∧ WP d mX12_shallowest 0 [some (.inr (.inr v0)), some (.inl v1), none, none] [] h (fun r h' => WP (d + 1) mL_law 965 ls (psh r [r0]) h' Q)) := R_callV (st := .inl v1 :: .inr (.inr v0) :: [r0]) (M := mL_law) (pc := 962) (kd := 0) (n := 2) (M' := mX12_shallowest) (as := [.inl v1, .inr (.inr v0)]) (rest := [r0]) (en := [some (.inr (.inr v0)), some (.inl v1), none, none]) dL_law_962 rfl (Nat.le_of_ble_eq_true rfl) (Nat.le_of_ble_eq_true rfl) rfl rfl (Nat.le_of_ble_eq_true rfl) rfl rfl rfl
theorem rL_law_965 {d : Nat} {h : Hp} {Q : Option PV → Hp → Prop} {st : List PV}{ls : List (Option PV)}{a b : Int} : WP d mL_law 965 ls (.inl b :: .inl a :: st) h Q = (if a = b then WP d mL_law 1600 ls st h Q else WP d mL_law 968 ls st h Q) := R_icmp_eq dL_law_965 (by decide)
theorem rL_law_968 {d : Nat} {h : Hp} {Q : Option PV → Hp → Prop} {st : List PV}{ls : List (Option PV)} : WP d mL_law 968 ls st h Q = WP d mL_law 969 ls (.inl (0) :: st) h Q := WP_step dL_law_968 rfl rfl rfl
theorem rL_law_969 {d : Nat} {h : Hp} {Q : Option PV → Hp → Prop} {ls : List (Option PV)}{z : Int} : WP d mL_law 969 ls [.inl z] h Q = ((z = 0 ∨ z = 1) ∧ Q (some (.inl z)) h) := R_zret dL_law_969 rfl
theorem rL_law_970 {d : Nat} {h : Hp} {Q : Option PV → Hp → Prop} {st : List PV}{x0 : Option PV} {t : List (Option PV)} {v : Nat} : WP d mL_law 970 (x0 :: some (.inr (.inr v)) :: t) st h Q = WP d mL_law 971 (x0 :: some (.inr (.inr v)) :: t) (.inr (.inr v) :: st) h Q := WP_step dL_law_970 rfl rfl rfl
theorem rL_law_971 {d : Nat} {h : Hp} {Q : Option PV → Hp → Prop} {st : List PV}{t : List (Option PV)} {v : Nat} : WP d mL_law 971 (some (.inr (.inr v)) :: t) st h Q = WP d mL_law 972 (some (.inr (.inr v)) :: t) (.inr (.inr v) :: st) h Q := WP_step dL_law_971 rfl rfl rfl
theorem rL_law_972 {d : Nat} {h : Hp} {Q : Option PV → Hp → Prop} {st : List PV}{x0 x1 x2 : Option PV} {t : List (Option PV)} {v : Int} : WP d mL_law 972 (x0 :: x1 :: x2 :: some (.inl v) :: t) st h Q = WP d mL_law 973 (x0 :: x1 :: x2 :: some (.inl v) :: t) (.inl v :: st) h Q := WP_step dL_law_972 rfl rfl rfl
theorem rL_law_973 {d : Nat} {h : Hp} {Q : Option PV → Hp → Prop} {st : List PV}{ls : List (Option PV)} : WP d mL_law 973 ls st h Q = WP d mL_law 974 ls (.inl (1) :: st) h Q := WP_step dL_law_973 rfl rfl rfl
theorem rL_law_974 {d : Nat} {h : Hp} {Q : Option PV → Hp → Prop} {st : List PV}{ls : List (Option PV)}{a b : Int} : WP d mL_law 974 ls (.inl b :: .inl a :: st) h Q = WP d mL_law 975 ls (.inl (w32 (a + b)) :: st) h Q := WP_step dL_law_974 rfl rfl rfl
theorem rL_law_975 {d : Nat} {h : Hp} {Q : Option PV → Hp → Prop} {st : List PV}{ls : List (Option PV)}{a : Nat} {z : Int} : WP d mL_law 975 ls (.inl z :: .inr (.inr a) :: st) h Q = ((hK h a).1 = 21 ∧ 0 ≤ z ∧ z < (hK h a).2 ∧ WP d mL_law 976 ls (.inl (hI h a z.toNat) :: st) h Q) := R_iald dL_law_975
theorem rL_law_976 {d : Nat} {h : Hp} {Q : Option PV → Hp → Prop} {ls : List (Option PV)}{v0 : Nat} {v1 : Int} : WP (d + 1) mL_law 976 ls (.inl v1 :: .inr (.inr v0) :: []) h Q = ((hK h v0).1 = 11 ∧ WP d mX11_numbersTold 0 [some (.inr (.inr v0)), some (.inl v1), none, none, none] [] h (fun r h' => WP (d + 1) mL_law 979 ls (psh r []) h' Q)) := R_callV (st := .inl v1 :: .inr (.inr v0) :: []) (M := mL_law) (pc := 976) (kd := 0) (n := 2) (M' := mX11_numbersTold) (as := [.inl v1, .inr (.inr v0)]) (rest := []) (en := [some (.inr (.inr v0)), some (.inl v1), none, none, none]) dL_law_976 rfl (Nat.le_of_ble_eq_true rfl) (Nat.le_of_ble_eq_true rfl) rfl rfl (Nat.le_of_ble_eq_true rfl) rfl rfl rfl
theorem rL_law_979 {d : Nat} {h : Hp} {Q : Option PV → Hp → Prop} {st : List PV}{x0 x1 : Option PV} {t : List (Option PV)} {v : Nat} : WP d mL_law 979 (x0 :: x1 :: some (.inr (.inr v)) :: t) st h Q = WP d mL_law 980 (x0 :: x1 :: some (.inr (.inr v)) :: t) (.inr (.inr v) :: st) h Q := WP_step dL_law_979 rfl rfl rfl
theorem rL_law_980 {d : Nat} {h : Hp} {Q : Option PV → Hp → Prop} {st : List PV}{t : List (Option PV)} {v : Nat} : WP d mL_law 980 (some (.inr (.inr v)) :: t) st h Q = WP d mL_law 981 (some (.inr (.inr v)) :: t) (.inr (.inr v) :: st) h Q := WP_step dL_law_980 rfl rfl rfl
theorem rL_law_981 {d : Nat} {h : Hp} {Q : Option PV → Hp → Prop} {st : List PV}{x0 x1 x2 : Option PV} {t : List (Option PV)} {v : Int} : WP d mL_law 981 (x0 :: x1 :: x2 :: some (.inl v) :: t) st h Q = WP d mL_law 982 (x0 :: x1 :: x2 :: some (.inl v) :: t) (.inl v :: st) h Q := WP_step dL_law_981 rfl rfl rfl
theorem rL_law_982 {d : Nat} {h : Hp} {Q : Option PV → Hp → Prop} {st : List PV}{ls : List (Option PV)} : WP d mL_law 982 ls st h Q = WP d mL_law 983 ls (.inl (1) :: st) h Q := WP_step dL_law_982 rfl rfl rfl
theorem rL_law_983 {d : Nat} {h : Hp} {Q : Option PV → Hp → Prop} {st : List PV}{ls : List (Option PV)}{a b : Int} : WP d mL_law 983 ls (.inl b :: .inl a :: st) h Q = WP d mL_law 984 ls (.inl (w32 (a + b)) :: st) h Q := WP_step dL_law_983 rfl rfl rfl
theorem rL_law_984 {d : Nat} {h : Hp} {Q : Option PV → Hp → Prop} {st : List PV}{ls : List (Option PV)}{a : Nat} {z : Int} : WP d mL_law 984 ls (.inl z :: .inr (.inr a) :: st) h Q = ((hK h a).1 = 21 ∧ 0 ≤ z ∧ z < (hK h a).2 ∧ WP d mL_law 985 ls (.inl (hI h a z.toNat) :: st) h Q) := R_iald dL_law_984
theorem rL_law_985 {d : Nat} {h : Hp} {Q : Option PV → Hp → Prop} {ls : List (Option PV)}{r0 : PV}{v0 : Nat} {v1 : Int} : WP (d + 1) mL_law 985 ls (.inl v1 :: .inr (.inr v0) :: [r0]) h Q = ((hK h v0).1 = 12 ∧ WP d mX12_numbersTold 0 [some (.inr (.inr v0)), some (.inl v1), none, none, none, none] [] h (fun r h' => WP (d + 1) mL_law 988 ls (psh r [r0]) h' Q)) := R_callV (st := .inl v1 :: .inr (.inr v0) :: [r0]) (M := mL_law) (pc := 985) (kd := 0) (n := 2) (M' := mX12_numbersTold) (as := [.inl v1, .inr (.inr v0)]) (rest := [r0]) (en := [some (.inr (.inr v0)), some (.inl v1), none, none, none, none]) dL_law_985 rfl (Nat.le_of_ble_eq_true rfl) (Nat.le_of_ble_eq_true rfl) rfl rfl (Nat.le_of_ble_eq_true rfl) rfl rfl rfl
theorem rL_law_988 {d : Nat} {h : Hp} {Q : Option PV → Hp → Prop} {st : List PV}{ls : List (Option PV)}{a b : Int} : WP d mL_law 988 ls (.inl b :: .inl a :: st) h Q = (if a = b then WP d mL_law 1600 ls st h Q else WP d mL_law 991 ls st h Q) := R_icmp_eq dL_law_988 (by decide)
theorem rL_law_991 {d : Nat} {h : Hp} {Q : Option PV → Hp → Prop} {st : List PV}{ls : List (Option PV)} : WP d mL_law 991 ls st h Q = WP d mL_law 992 ls (.inl (0) :: st) h Q := WP_step dL_law_991 rfl rfl rfl
theorem rL_law_992 {d : Nat} {h : Hp} {Q : Option PV → Hp → Prop} {ls : List (Option PV)}{z : Int} : WP d mL_law 992 ls [.inl z] h Q = ((z = 0 ∨ z = 1) ∧ Q (some (.inl z)) h) := R_zret dL_law_992 rfl
theorem rL_law_993 {d : Nat} {h : Hp} {Q : Option PV → Hp → Prop} {st : List PV}{x0 : Option PV} {t : List (Option PV)} {v : Nat} : WP d mL_law 993 (x0 :: some (.inr (.inr v)) :: t) st h Q = WP d mL_law 994 (x0 :: some (.inr (.inr v)) :: t) (.inr (.inr v) :: st) h Q := WP_step dL_law_993 rfl rfl rfl
theorem rL_law_994 {d : Nat} {h : Hp} {Q : Option PV → Hp → Prop} {st : List PV}{t : List (Option PV)} {v : Nat} : WP d mL_law 994 (some (.inr (.inr v)) :: t) st h Q = WP d mL_law 995 (some (.inr (.inr v)) :: t) (.inr (.inr v) :: st) h Q := WP_step dL_law_994 rfl rfl rfl
theorem rL_law_995 {d : Nat} {h : Hp} {Q : Option PV → Hp → Prop} {st : List PV}{x0 x1 x2 : Option PV} {t : List (Option PV)} {v : Int} : WP d mL_law 995 (x0 :: x1 :: x2 :: some (.inl v) :: t) st h Q = WP d mL_law 996 (x0 :: x1 :: x2 :: some (.inl v) :: t) (.inl v :: st) h Q := WP_step dL_law_995 rfl rfl rfl
theorem rL_law_996 {d : Nat} {h : Hp} {Q : Option PV → Hp → Prop} {st : List PV}{ls : List (Option PV)} : WP d mL_law 996 ls st h Q = WP d mL_law 997 ls (.inl (1) :: st) h Q := WP_step dL_law_996 rfl rfl rfl
theorem rL_law_997 {d : Nat} {h : Hp} {Q : Option PV → Hp → Prop} {st : List PV}{ls : List (Option PV)}{a b : Int} : WP d mL_law 997 ls (.inl b :: .inl a :: st) h Q = WP d mL_law 998 ls (.inl (w32 (a + b)) :: st) h Q := WP_step dL_law_997 rfl rfl rfl
theorem rL_law_998 {d : Nat} {h : Hp} {Q : Option PV → Hp → Prop} {st : List PV}{ls : List (Option PV)}{a : Nat} {z : Int} : WP d mL_law 998 ls (.inl z :: .inr (.inr a) :: st) h Q = ((hK h a).1 = 21 ∧ 0 ≤ z ∧ z < (hK h a).2 ∧ WP d mL_law 999 ls (.inl (hI h a z.toNat) :: st) h Q) := R_iald dL_law_998
theorem rL_law_999 {d : Nat} {h : Hp} {Q : Option PV → Hp → Prop} {ls : List (Option PV)}{v0 : Nat} {v1 : Int} : WP (d + 1) mL_law 999 ls (.inl v1 :: .inr (.inr v0) :: []) h Q = ((hK h v0).1 = 11 ∧ WP d mX11_possible 0 [some (.inr (.inr v0)), some (.inl v1)] [] h (fun r h' => WP (d + 1) mL_law 1002 ls (psh r []) h' Q)) := R_callV (st := .inl v1 :: .inr (.inr v0) :: []) (M := mL_law) (pc := 999) (kd := 0) (n := 2) (M' := mX11_possible) (as := [.inl v1, .inr (.inr v0)]) (rest := []) (en := [some (.inr (.inr v0)), some (.inl v1)]) dL_law_999 rfl (Nat.le_of_ble_eq_true rfl) (Nat.le_of_ble_eq_true rfl) rfl rfl (Nat.le_of_ble_eq_true rfl) rfl rfl rfl
theorem rL_law_1002 {d : Nat} {h : Hp} {Q : Option PV → Hp → Prop} {st : List PV}{x0 x1 : Option PV} {t : List (Option PV)} {v : Nat} : WP d mL_law 1002 (x0 :: x1 :: some (.inr (.inr v)) :: t) st h Q = WP d mL_law 1003 (x0 :: x1 :: some (.inr (.inr v)) :: t) (.inr (.inr v) :: st) h Q := WP_step dL_law_1002 rfl rfl rfl
theorem rL_law_1003 {d : Nat} {h : Hp} {Q : Option PV → Hp → Prop} {st : List PV}{t : List (Option PV)} {v : Nat} : WP d mL_law 1003 (some (.inr (.inr v)) :: t) st h Q = WP d mL_law 1004 (some (.inr (.inr v)) :: t) (.inr (.inr v) :: st) h Q := WP_step dL_law_1003 rfl rfl rfl
theorem rL_law_1004 {d : Nat} {h : Hp} {Q : Option PV → Hp → Prop} {st : List PV}{x0 x1 x2 : Option PV} {t : List (Option PV)} {v : Int} : WP d mL_law 1004 (x0 :: x1 :: x2 :: some (.inl v) :: t) st h Q = WP d mL_law 1005 (x0 :: x1 :: x2 :: some (.inl v) :: t) (.inl v :: st) h Q := WP_step dL_law_1004 rfl rfl rfl
theorem rL_law_1005 {d : Nat} {h : Hp} {Q : Option PV → Hp → Prop} {st : List PV}{ls : List (Option PV)} : WP d mL_law 1005 ls st h Q = WP d mL_law 1006 ls (.inl (1) :: st) h Q := WP_step dL_law_1005 rfl rfl rfl
theorem rL_law_1006 {d : Nat} {h : Hp} {Q : Option PV → Hp → Prop} {st : List PV}{ls : List (Option PV)}{a b : Int} : WP d mL_law 1006 ls (.inl b :: .inl a :: st) h Q = WP d mL_law 1007 ls (.inl (w32 (a + b)) :: st) h Q := WP_step dL_law_1006 rfl rfl rfl
theorem rL_law_1007 {d : Nat} {h : Hp} {Q : Option PV → Hp → Prop} {st : List PV}{ls : List (Option PV)}{a : Nat} {z : Int} : WP d mL_law 1007 ls (.inl z :: .inr (.inr a) :: st) h Q = ((hK h a).1 = 21 ∧ 0 ≤ z ∧ z < (hK h a).2 ∧ WP d mL_law 1008 ls (.inl (hI h a z.toNat) :: st) h Q) := R_iald dL_law_1007
theorem rL_law_1008 {d : Nat} {h : Hp} {Q : Option PV → Hp → Prop} {ls : List (Option PV)}{r0 : PV}{v0 : Nat} {v1 : Int} : WP (d + 1) mL_law 1008 ls (.inl v1 :: .inr (.inr v0) :: [r0]) h Q = ((hK h v0).1 = 12 ∧ WP d mX12_possible 0 [some (.inr (.inr v0)), some (.inl v1), none, none] [] h (fun r h' => WP (d + 1) mL_law 1011 ls (psh r [r0]) h' Q)) := R_callV (st := .inl v1 :: .inr (.inr v0) :: [r0]) (M := mL_law) (pc := 1008) (kd := 0) (n := 2) (M' := mX12_possible) (as := [.inl v1, .inr (.inr v0)]) (rest := [r0]) (en := [some (.inr (.inr v0)), some (.inl v1), none, none]) dL_law_1008 rfl (Nat.le_of_ble_eq_true rfl) (Nat.le_of_ble_eq_true rfl) rfl rfl (Nat.le_of_ble_eq_true rfl) rfl rfl rfl
theorem rL_law_1011 {d : Nat} {h : Hp} {Q : Option PV → Hp → Prop} {st : List PV}{ls : List (Option PV)}{a b : Int} : WP d mL_law 1011 ls (.inl b :: .inl a :: st) h Q = (if a = b then WP d mL_law 1600 ls st h Q else WP d mL_law 1014 ls st h Q) := R_icmp_eq dL_law_1011 (by decide)
theorem rL_law_1014 {d : Nat} {h : Hp} {Q : Option PV → Hp → Prop} {st : List PV}{ls : List (Option PV)} : WP d mL_law 1014 ls st h Q = WP d mL_law 1015 ls (.inl (0) :: st) h Q := WP_step dL_law_1014 rfl rfl rfl
theorem rL_law_1015 {d : Nat} {h : Hp} {Q : Option PV → Hp → Prop} {ls : List (Option PV)}{z : Int} : WP d mL_law 1015 ls [.inl z] h Q = ((z = 0 ∨ z = 1) ∧ Q (some (.inl z)) h) := R_zret dL_law_1015 rfl
theorem rL_law_1016 {d : Nat} {h : Hp} {Q : Option PV → Hp → Prop} {st : List PV}{x0 : Option PV} {t : List (Option PV)} {v : Nat} : WP d mL_law 1016 (x0 :: some (.inr (.inr v)) :: t) st h Q = WP d mL_law 1017 (x0 :: some (.inr (.inr v)) :: t) (.inr (.inr v) :: st) h Q := WP_step dL_law_1016 rfl rfl rfl
theorem rL_law_1017 {d : Nat} {h : Hp} {Q : Option PV → Hp → Prop} {st : List PV}{t : List (Option PV)} {v : Nat} : WP d mL_law 1017 (some (.inr (.inr v)) :: t) st h Q = WP d mL_law 1018 (some (.inr (.inr v)) :: t) (.inr (.inr v) :: st) h Q := WP_step dL_law_1017 rfl rfl rfl
theorem rL_law_1018 {d : Nat} {h : Hp} {Q : Option PV → Hp → Prop} {st : List PV}{x0 x1 x2 : Option PV} {t : List (Option PV)} {v : Int} : WP d mL_law 1018 (x0 :: x1 :: x2 :: some (.inl v) :: t) st h Q = WP d mL_law 1019 (x0 :: x1 :: x2 :: some (.inl v) :: t) (.inl v :: st) h Q := WP_step dL_law_1018 rfl rfl rfl
theorem rL_law_1019 {d : Nat} {h : Hp} {Q : Option PV → Hp → Prop} {st : List PV}{ls : List (Option PV)} : WP d mL_law 1019 ls st h Q = WP d mL_law 1020 ls (.inl (1) :: st) h Q := WP_step dL_law_1019 rfl rfl rfl
theorem rL_law_1020 {d : Nat} {h : Hp} {Q : Option PV → Hp → Prop} {st : List PV}{ls : List (Option PV)}{a b : Int} : WP d mL_law 1020 ls (.inl b :: .inl a :: st) h Q = WP d mL_law 1021 ls (.inl (w32 (a + b)) :: st) h Q := WP_step dL_law_1020 rfl rfl rfl
theorem rL_law_1021 {d : Nat} {h : Hp} {Q : Option PV → Hp → Prop} {st : List PV}{ls : List (Option PV)}{a : Nat} {z : Int} : WP d mL_law 1021 ls (.inl z :: .inr (.inr a) :: st) h Q = ((hK h a).1 = 21 ∧ 0 ≤ z ∧ z < (hK h a).2 ∧ WP d mL_law 1022 ls (.inl (hI h a z.toNat) :: st) h Q) := R_iald dL_law_1021
theorem rL_law_1022 {d : Nat} {h : Hp} {Q : Option PV → Hp → Prop} {ls : List (Option PV)}{v0 : Nat} {v1 : Int} : WP (d + 1) mL_law 1022 ls (.inl v1 :: .inr (.inr v0) :: []) h Q = ((hK h v0).1 = 11 ∧ WP d mX11_stands 0 [some (.inr (.inr v0)), some (.inl v1)] [] h (fun r h' => WP (d + 1) mL_law 1025 ls (psh r []) h' Q)) := R_callV (st := .inl v1 :: .inr (.inr v0) :: []) (M := mL_law) (pc := 1022) (kd := 0) (n := 2) (M' := mX11_stands) (as := [.inl v1, .inr (.inr v0)]) (rest := []) (en := [some (.inr (.inr v0)), some (.inl v1)]) dL_law_1022 rfl (Nat.le_of_ble_eq_true rfl) (Nat.le_of_ble_eq_true rfl) rfl rfl (Nat.le_of_ble_eq_true rfl) rfl rfl rfl
theorem rL_law_1025 {d : Nat} {h : Hp} {Q : Option PV → Hp → Prop} {st : List PV}{x0 x1 : Option PV} {t : List (Option PV)} {v : Nat} : WP d mL_law 1025 (x0 :: x1 :: some (.inr (.inr v)) :: t) st h Q = WP d mL_law 1026 (x0 :: x1 :: some (.inr (.inr v)) :: t) (.inr (.inr v) :: st) h Q := WP_step dL_law_1025 rfl rfl rfl
theorem rL_law_1026 {d : Nat} {h : Hp} {Q : Option PV → Hp → Prop} {st : List PV}{t : List (Option PV)} {v : Nat} : WP d mL_law 1026 (some (.inr (.inr v)) :: t) st h Q = WP d mL_law 1027 (some (.inr (.inr v)) :: t) (.inr (.inr v) :: st) h Q := WP_step dL_law_1026 rfl rfl rfl
theorem rL_law_1027 {d : Nat} {h : Hp} {Q : Option PV → Hp → Prop} {st : List PV}{x0 x1 x2 : Option PV} {t : List (Option PV)} {v : Int} : WP d mL_law 1027 (x0 :: x1 :: x2 :: some (.inl v) :: t) st h Q = WP d mL_law 1028 (x0 :: x1 :: x2 :: some (.inl v) :: t) (.inl v :: st) h Q := WP_step dL_law_1027 rfl rfl rfl
theorem rL_law_1028 {d : Nat} {h : Hp} {Q : Option PV → Hp → Prop} {st : List PV}{ls : List (Option PV)} : WP d mL_law 1028 ls st h Q = WP d mL_law 1029 ls (.inl (1) :: st) h Q := WP_step dL_law_1028 rfl rfl rfl
theorem rL_law_1029 {d : Nat} {h : Hp} {Q : Option PV → Hp → Prop} {st : List PV}{ls : List (Option PV)}{a b : Int} : WP d mL_law 1029 ls (.inl b :: .inl a :: st) h Q = WP d mL_law 1030 ls (.inl (w32 (a + b)) :: st) h Q := WP_step dL_law_1029 rfl rfl rfl
theorem rL_law_1030 {d : Nat} {h : Hp} {Q : Option PV → Hp → Prop} {st : List PV}{ls : List (Option PV)}{a : Nat} {z : Int} : WP d mL_law 1030 ls (.inl z :: .inr (.inr a) :: st) h Q = ((hK h a).1 = 21 ∧ 0 ≤ z ∧ z < (hK h a).2 ∧ WP d mL_law 1031 ls (.inl (hI h a z.toNat) :: st) h Q) := R_iald dL_law_1030
theorem rL_law_1031 {d : Nat} {h : Hp} {Q : Option PV → Hp → Prop} {ls : List (Option PV)}{r0 : PV}{v0 : Nat} {v1 : Int} : WP (d + 1) mL_law 1031 ls (.inl v1 :: .inr (.inr v0) :: [r0]) h Q = ((hK h v0).1 = 12 ∧ WP d mX12_stands 0 [some (.inr (.inr v0)), some (.inl v1)] [] h (fun r h' => WP (d + 1) mL_law 1034 ls (psh r [r0]) h' Q)) := R_callV (st := .inl v1 :: .inr (.inr v0) :: [r0]) (M := mL_law) (pc := 1031) (kd := 0) (n := 2) (M' := mX12_stands) (as := [.inl v1, .inr (.inr v0)]) (rest := [r0]) (en := [some (.inr (.inr v0)), some (.inl v1)]) dL_law_1031 rfl (Nat.le_of_ble_eq_true rfl) (Nat.le_of_ble_eq_true rfl) rfl rfl (Nat.le_of_ble_eq_true rfl) rfl rfl rfl
theorem rL_law_1034 {d : Nat} {h : Hp} {Q : Option PV → Hp → Prop} {st : List PV}{ls : List (Option PV)}{a b : Int} : WP d mL_law 1034 ls (.inl b :: .inl a :: st) h Q = (if a = b then WP d mL_law 1600 ls st h Q else WP d mL_law 1037 ls st h Q) := R_icmp_eq dL_law_1034 (by decide)
theorem rL_law_1037 {d : Nat} {h : Hp} {Q : Option PV → Hp → Prop} {st : List PV}{ls : List (Option PV)} : WP d mL_law 1037 ls st h Q = WP d mL_law 1038 ls (.inl (0) :: st) h Q := WP_step dL_law_1037 rfl rfl rfl
theorem rL_law_1038 {d : Nat} {h : Hp} {Q : Option PV → Hp → Prop} {ls : List (Option PV)}{z : Int} : WP d mL_law 1038 ls [.inl z] h Q = ((z = 0 ∨ z = 1) ∧ Q (some (.inl z)) h) := R_zret dL_law_1038 rfl
theorem rL_law_1039 {d : Nat} {h : Hp} {Q : Option PV → Hp → Prop} {st : List PV}{x0 : Option PV} {t : List (Option PV)} {v : Nat} : WP d mL_law 1039 (x0 :: some (.inr (.inr v)) :: t) st h Q = WP d mL_law 1040 (x0 :: some (.inr (.inr v)) :: t) (.inr (.inr v) :: st) h Q := WP_step dL_law_1039 rfl rfl rfl
theorem rL_law_1040 {d : Nat} {h : Hp} {Q : Option PV → Hp → Prop} {st : List PV}{t : List (Option PV)} {v : Nat} : WP d mL_law 1040 (some (.inr (.inr v)) :: t) st h Q = WP d mL_law 1041 (some (.inr (.inr v)) :: t) (.inr (.inr v) :: st) h Q := WP_step dL_law_1040 rfl rfl rfl
theorem rL_law_1041 {d : Nat} {h : Hp} {Q : Option PV → Hp → Prop} {st : List PV}{x0 x1 x2 : Option PV} {t : List (Option PV)} {v : Int} : WP d mL_law 1041 (x0 :: x1 :: x2 :: some (.inl v) :: t) st h Q = WP d mL_law 1042 (x0 :: x1 :: x2 :: some (.inl v) :: t) (.inl v :: st) h Q := WP_step dL_law_1041 rfl rfl rfl
theorem rL_law_1042 {d : Nat} {h : Hp} {Q : Option PV → Hp → Prop} {st : List PV}{ls : List (Option PV)} : WP d mL_law 1042 ls st h Q = WP d mL_law 1043 ls (.inl (1) :: st) h Q := WP_step dL_law_1042 rfl rfl rfl
theorem rL_law_1043 {d : Nat} {h : Hp} {Q : Option PV → Hp → Prop} {st : List PV}{ls : List (Option PV)}{a b : Int} : WP d mL_law 1043 ls (.inl b :: .inl a :: st) h Q = WP d mL_law 1044 ls (.inl (w32 (a + b)) :: st) h Q := WP_step dL_law_1043 rfl rfl rfl
theorem rL_law_1044 {d : Nat} {h : Hp} {Q : Option PV → Hp → Prop} {st : List PV}{ls : List (Option PV)}{a : Nat} {z : Int} : WP d mL_law 1044 ls (.inl z :: .inr (.inr a) :: st) h Q = ((hK h a).1 = 21 ∧ 0 ≤ z ∧ z < (hK h a).2 ∧ WP d mL_law 1045 ls (.inl (hI h a z.toNat) :: st) h Q) := R_iald dL_law_1044
theorem rL_law_1045 {d : Nat} {h : Hp} {Q : Option PV → Hp → Prop} {ls : List (Option PV)}{v0 : Nat} {v1 : Int} : WP (d + 1) mL_law 1045 ls (.inl v1 :: .inr (.inr v0) :: []) h Q = ((hK h v0).1 = 11 ∧ WP d mX11_posted 0 [some (.inr (.inr v0)), some (.inl v1), none, none] [] h (fun r h' => WP (d + 1) mL_law 1048 ls (psh r []) h' Q)) := R_callV (st := .inl v1 :: .inr (.inr v0) :: []) (M := mL_law) (pc := 1045) (kd := 0) (n := 2) (M' := mX11_posted) (as := [.inl v1, .inr (.inr v0)]) (rest := []) (en := [some (.inr (.inr v0)), some (.inl v1), none, none]) dL_law_1045 rfl (Nat.le_of_ble_eq_true rfl) (Nat.le_of_ble_eq_true rfl) rfl rfl (Nat.le_of_ble_eq_true rfl) rfl rfl rfl
theorem rL_law_1048 {d : Nat} {h : Hp} {Q : Option PV → Hp → Prop} {st : List PV}{x0 x1 : Option PV} {t : List (Option PV)} {v : Nat} : WP d mL_law 1048 (x0 :: x1 :: some (.inr (.inr v)) :: t) st h Q = WP d mL_law 1049 (x0 :: x1 :: some (.inr (.inr v)) :: t) (.inr (.inr v) :: st) h Q := WP_step dL_law_1048 rfl rfl rfl
theorem rL_law_1049 {d : Nat} {h : Hp} {Q : Option PV → Hp → Prop} {st : List PV}{t : List (Option PV)} {v : Nat} : WP d mL_law 1049 (some (.inr (.inr v)) :: t) st h Q = WP d mL_law 1050 (some (.inr (.inr v)) :: t) (.inr (.inr v) :: st) h Q := WP_step dL_law_1049 rfl rfl rfl
theorem rL_law_1050 {d : Nat} {h : Hp} {Q : Option PV → Hp → Prop} {st : List PV}{x0 x1 x2 : Option PV} {t : List (Option PV)} {v : Int} : WP d mL_law 1050 (x0 :: x1 :: x2 :: some (.inl v) :: t) st h Q = WP d mL_law 1051 (x0 :: x1 :: x2 :: some (.inl v) :: t) (.inl v :: st) h Q := WP_step dL_law_1050 rfl rfl rfl
theorem rL_law_1051 {d : Nat} {h : Hp} {Q : Option PV → Hp → Prop} {st : List PV}{ls : List (Option PV)} : WP d mL_law 1051 ls st h Q = WP d mL_law 1052 ls (.inl (1) :: st) h Q := WP_step dL_law_1051 rfl rfl rfl
theorem rL_law_1052 {d : Nat} {h : Hp} {Q : Option PV → Hp → Prop} {st : List PV}{ls : List (Option PV)}{a b : Int} : WP d mL_law 1052 ls (.inl b :: .inl a :: st) h Q = WP d mL_law 1053 ls (.inl (w32 (a + b)) :: st) h Q := WP_step dL_law_1052 rfl rfl rfl
theorem rL_law_1053 {d : Nat} {h : Hp} {Q : Option PV → Hp → Prop} {st : List PV}{ls : List (Option PV)}{a : Nat} {z : Int} : WP d mL_law 1053 ls (.inl z :: .inr (.inr a) :: st) h Q = ((hK h a).1 = 21 ∧ 0 ≤ z ∧ z < (hK h a).2 ∧ WP d mL_law 1054 ls (.inl (hI h a z.toNat) :: st) h Q) := R_iald dL_law_1053
theorem rL_law_1054 {d : Nat} {h : Hp} {Q : Option PV → Hp → Prop} {ls : List (Option PV)}{r0 : PV}{v0 : Nat} {v1 : Int} : WP (d + 1) mL_law 1054 ls (.inl v1 :: .inr (.inr v0) :: [r0]) h Q = ((hK h v0).1 = 12 ∧ WP d mX12_posted 0 [some (.inr (.inr v0)), some (.inl v1), none, none, none, none] [] h (fun r h' => WP (d + 1) mL_law 1057 ls (psh r [r0]) h' Q)) := R_callV (st := .inl v1 :: .inr (.inr v0) :: [r0]) (M := mL_law) (pc := 1054) (kd := 0) (n := 2) (M' := mX12_posted) (as := [.inl v1, .inr (.inr v0)]) (rest := [r0]) (en := [some (.inr (.inr v0)), some (.inl v1), none, none, none, none]) dL_law_1054 rfl (Nat.le_of_ble_eq_true rfl) (Nat.le_of_ble_eq_true rfl) rfl rfl (Nat.le_of_ble_eq_true rfl) rfl rfl rfl
theorem rL_law_1057 {d : Nat} {h : Hp} {Q : Option PV → Hp → Prop} {st : List PV}{ls : List (Option PV)}{a b : Int} : WP d mL_law 1057 ls (.inr (.inl b) :: .inr (.inl a) :: st) h Q = WP d mL_law 1058 ls (.inl (lcm a b) :: st) h Q := WP_step dL_law_1057 rfl rfl rfl
theorem rL_law_1058 {d : Nat} {h : Hp} {Q : Option PV → Hp → Prop} {st : List PV}{ls : List (Option PV)}{a : Int} : WP d mL_law 1058 ls (.inl a :: st) h Q = (if a = 0 then WP d mL_law 1600 ls st h Q else WP d mL_law 1061 ls st h Q) := R_if_eq dL_law_1058 (by decide)
theorem rL_law_1061 {d : Nat} {h : Hp} {Q : Option PV → Hp → Prop} {st : List PV}{ls : List (Option PV)} : WP d mL_law 1061 ls st h Q = WP d mL_law 1062 ls (.inl (0) :: st) h Q := WP_step dL_law_1061 rfl rfl rfl
theorem rL_law_1062 {d : Nat} {h : Hp} {Q : Option PV → Hp → Prop} {ls : List (Option PV)}{z : Int} : WP d mL_law 1062 ls [.inl z] h Q = ((z = 0 ∨ z = 1) ∧ Q (some (.inl z)) h) := R_zret dL_law_1062 rfl
theorem rL_law_1063 {d : Nat} {h : Hp} {Q : Option PV → Hp → Prop} {st : List PV}{x0 : Option PV} {t : List (Option PV)} {v : Nat} : WP d mL_law 1063 (x0 :: some (.inr (.inr v)) :: t) st h Q = WP d mL_law 1064 (x0 :: some (.inr (.inr v)) :: t) (.inr (.inr v) :: st) h Q := WP_step dL_law_1063 rfl rfl rfl
theorem rL_law_1064 {d : Nat} {h : Hp} {Q : Option PV → Hp → Prop} {st : List PV}{t : List (Option PV)} {v : Nat} : WP d mL_law 1064 (some (.inr (.inr v)) :: t) st h Q = WP d mL_law 1065 (some (.inr (.inr v)) :: t) (.inr (.inr v) :: st) h Q := WP_step dL_law_1064 rfl rfl rfl
theorem rL_law_1065 {d : Nat} {h : Hp} {Q : Option PV → Hp → Prop} {st : List PV}{x0 x1 x2 : Option PV} {t : List (Option PV)} {v : Int} : WP d mL_law 1065 (x0 :: x1 :: x2 :: some (.inl v) :: t) st h Q = WP d mL_law 1066 (x0 :: x1 :: x2 :: some (.inl v) :: t) (.inl v :: st) h Q := WP_step dL_law_1065 rfl rfl rfl
theorem rL_law_1066 {d : Nat} {h : Hp} {Q : Option PV → Hp → Prop} {st : List PV}{ls : List (Option PV)} : WP d mL_law 1066 ls st h Q = WP d mL_law 1067 ls (.inl (1) :: st) h Q := WP_step dL_law_1066 rfl rfl rfl
theorem rL_law_1067 {d : Nat} {h : Hp} {Q : Option PV → Hp → Prop} {st : List PV}{ls : List (Option PV)}{a b : Int} : WP d mL_law 1067 ls (.inl b :: .inl a :: st) h Q = WP d mL_law 1068 ls (.inl (w32 (a + b)) :: st) h Q := WP_step dL_law_1067 rfl rfl rfl
theorem rL_law_1068 {d : Nat} {h : Hp} {Q : Option PV → Hp → Prop} {st : List PV}{ls : List (Option PV)}{a : Nat} {z : Int} : WP d mL_law 1068 ls (.inl z :: .inr (.inr a) :: st) h Q = ((hK h a).1 = 21 ∧ 0 ≤ z ∧ z < (hK h a).2 ∧ WP d mL_law 1069 ls (.inl (hI h a z.toNat) :: st) h Q) := R_iald dL_law_1068
theorem rL_law_1069 {d : Nat} {h : Hp} {Q : Option PV → Hp → Prop} {st : List PV}{t : List (Option PV)} {v : Nat} : WP d mL_law 1069 (some (.inr (.inr v)) :: t) st h Q = WP d mL_law 1070 (some (.inr (.inr v)) :: t) (.inr (.inr v) :: st) h Q := WP_step dL_law_1069 rfl rfl rfl
theorem rL_law_1070 {d : Nat} {h : Hp} {Q : Option PV → Hp → Prop} {st : List PV}{x0 x1 x2 : Option PV} {t : List (Option PV)} {v : Int} : WP d mL_law 1070 (x0 :: x1 :: x2 :: some (.inl v) :: t) st h Q = WP d mL_law 1071 (x0 :: x1 :: x2 :: some (.inl v) :: t) (.inl v :: st) h Q := WP_step dL_law_1070 rfl rfl rfl
theorem rL_law_1071 {d : Nat} {h : Hp} {Q : Option PV → Hp → Prop} {st : List PV}{ls : List (Option PV)} : WP d mL_law 1071 ls st h Q = WP d mL_law 1072 ls (.inl (2) :: st) h Q := WP_step dL_law_1071 rfl rfl rfl
theorem rL_law_1072 {d : Nat} {h : Hp} {Q : Option PV → Hp → Prop} {st : List PV}{ls : List (Option PV)}{a b : Int} : WP d mL_law 1072 ls (.inl b :: .inl a :: st) h Q = WP d mL_law 1073 ls (.inl (w32 (a + b)) :: st) h Q := WP_step dL_law_1072 rfl rfl rfl
theorem rL_law_1073 {d : Nat} {h : Hp} {Q : Option PV → Hp → Prop} {st : List PV}{ls : List (Option PV)}{a : Nat} {z : Int} : WP d mL_law 1073 ls (.inl z :: .inr (.inr a) :: st) h Q = ((hK h a).1 = 21 ∧ 0 ≤ z ∧ z < (hK h a).2 ∧ WP d mL_law 1074 ls (.inl (hI h a z.toNat) :: st) h Q) := R_iald dL_law_1073
theorem rL_law_1074 {d : Nat} {h : Hp} {Q : Option PV → Hp → Prop} {ls : List (Option PV)}{v0 : Nat} {v1 : Int} {v2 : Int} : WP (d + 1) mL_law 1074 ls (.inl v2 :: .inl v1 :: .inr (.inr v0) :: []) h Q = ((hK h v0).1 = 11 ∧ WP d mX11_whoPosted 0 [some (.inr (.inr v0)), some (.inl v1), some (.inl v2), none, none, none] [] h (fun r h' => WP (d + 1) mL_law 1077 ls (psh r []) h' Q)) := R_callV (st := .inl v2 :: .inl v1 :: .inr (.inr v0) :: []) (M := mL_law) (pc := 1074) (kd := 0) (n := 3) (M' := mX11_whoPosted) (as := [.inl v2, .inl v1, .inr (.inr v0)]) (rest := []) (en := [some (.inr (.inr v0)), some (.inl v1), some (.inl v2), none, none, none]) dL_law_1074 rfl (Nat.le_of_ble_eq_true rfl) (Nat.le_of_ble_eq_true rfl) rfl rfl (Nat.le_of_ble_eq_true rfl) rfl rfl rfl
theorem rL_law_1077 {d : Nat} {h : Hp} {Q : Option PV → Hp → Prop} {st : List PV}{x0 x1 : Option PV} {t : List (Option PV)} {v : Nat} : WP d mL_law 1077 (x0 :: x1 :: some (.inr (.inr v)) :: t) st h Q = WP d mL_law 1078 (x0 :: x1 :: some (.inr (.inr v)) :: t) (.inr (.inr v) :: st) h Q := WP_step dL_law_1077 rfl rfl rfl
theorem rL_law_1078 {d : Nat} {h : Hp} {Q : Option PV → Hp → Prop} {st : List PV}{t : List (Option PV)} {v : Nat} : WP d mL_law 1078 (some (.inr (.inr v)) :: t) st h Q = WP d mL_law 1079 (some (.inr (.inr v)) :: t) (.inr (.inr v) :: st) h Q := WP_step dL_law_1078 rfl rfl rfl
theorem rL_law_1079 {d : Nat} {h : Hp} {Q : Option PV → Hp → Prop} {st : List PV}{x0 x1 x2 : Option PV} {t : List (Option PV)} {v : Int} : WP d mL_law 1079 (x0 :: x1 :: x2 :: some (.inl v) :: t) st h Q = WP d mL_law 1080 (x0 :: x1 :: x2 :: some (.inl v) :: t) (.inl v :: st) h Q := WP_step dL_law_1079 rfl rfl rfl
theorem rL_law_1080 {d : Nat} {h : Hp} {Q : Option PV → Hp → Prop} {st : List PV}{ls : List (Option PV)} : WP d mL_law 1080 ls st h Q = WP d mL_law 1081 ls (.inl (1) :: st) h Q := WP_step dL_law_1080 rfl rfl rfl
theorem rL_law_1081 {d : Nat} {h : Hp} {Q : Option PV → Hp → Prop} {st : List PV}{ls : List (Option PV)}{a b : Int} : WP d mL_law 1081 ls (.inl b :: .inl a :: st) h Q = WP d mL_law 1082 ls (.inl (w32 (a + b)) :: st) h Q := WP_step dL_law_1081 rfl rfl rfl
theorem rL_law_1082 {d : Nat} {h : Hp} {Q : Option PV → Hp → Prop} {st : List PV}{ls : List (Option PV)}{a : Nat} {z : Int} : WP d mL_law 1082 ls (.inl z :: .inr (.inr a) :: st) h Q = ((hK h a).1 = 21 ∧ 0 ≤ z ∧ z < (hK h a).2 ∧ WP d mL_law 1083 ls (.inl (hI h a z.toNat) :: st) h Q) := R_iald dL_law_1082
theorem rL_law_1083 {d : Nat} {h : Hp} {Q : Option PV → Hp → Prop} {st : List PV}{t : List (Option PV)} {v : Nat} : WP d mL_law 1083 (some (.inr (.inr v)) :: t) st h Q = WP d mL_law 1084 (some (.inr (.inr v)) :: t) (.inr (.inr v) :: st) h Q := WP_step dL_law_1083 rfl rfl rfl
theorem rL_law_1084 {d : Nat} {h : Hp} {Q : Option PV → Hp → Prop} {st : List PV}{x0 x1 x2 : Option PV} {t : List (Option PV)} {v : Int} : WP d mL_law 1084 (x0 :: x1 :: x2 :: some (.inl v) :: t) st h Q = WP d mL_law 1085 (x0 :: x1 :: x2 :: some (.inl v) :: t) (.inl v :: st) h Q := WP_step dL_law_1084 rfl rfl rfl
theorem rL_law_1085 {d : Nat} {h : Hp} {Q : Option PV → Hp → Prop} {st : List PV}{ls : List (Option PV)} : WP d mL_law 1085 ls st h Q = WP d mL_law 1086 ls (.inl (2) :: st) h Q := WP_step dL_law_1085 rfl rfl rfl
theorem rL_law_1086 {d : Nat} {h : Hp} {Q : Option PV → Hp → Prop} {st : List PV}{ls : List (Option PV)}{a b : Int} : WP d mL_law 1086 ls (.inl b :: .inl a :: st) h Q = WP d mL_law 1087 ls (.inl (w32 (a + b)) :: st) h Q := WP_step dL_law_1086 rfl rfl rfl
theorem rL_law_1087 {d : Nat} {h : Hp} {Q : Option PV → Hp → Prop} {st : List PV}{ls : List (Option PV)}{a : Nat} {z : Int} : WP d mL_law 1087 ls (.inl z :: .inr (.inr a) :: st) h Q = ((hK h a).1 = 21 ∧ 0 ≤ z ∧ z < (hK h a).2 ∧ WP d mL_law 1088 ls (.inl (hI h a z.toNat) :: st) h Q) := R_iald dL_law_1087
theorem rL_law_1088 {d : Nat} {h : Hp} {Q : Option PV → Hp → Prop} {ls : List (Option PV)}{r0 : PV}{v0 : Nat} {v1 : Int} {v2 : Int} : WP (d + 1) mL_law 1088 ls (.inl v2 :: .inl v1 :: .inr (.inr v0) :: [r0]) h Q = ((hK h v0).1 = 12 ∧ WP d mX12_whoPosted 0 [some (.inr (.inr v0)), some (.inl v1), some (.inl v2), none, none, none, none] [] h (fun r h' => WP (d + 1) mL_law 1091 ls (psh r [r0]) h' Q)) := R_callV (st := .inl v2 :: .inl v1 :: .inr (.inr v0) :: [r0]) (M := mL_law) (pc := 1088) (kd := 0) (n := 3) (M' := mX12_whoPosted) (as := [.inl v2, .inl v1, .inr (.inr v0)]) (rest := [r0]) (en := [some (.inr (.inr v0)), some (.inl v1), some (.inl v2), none, none, none, none]) dL_law_1088 rfl (Nat.le_of_ble_eq_true rfl) (Nat.le_of_ble_eq_true rfl) rfl rfl (Nat.le_of_ble_eq_true rfl) rfl rfl rfl
theorem rL_law_1091 {d : Nat} {h : Hp} {Q : Option PV → Hp → Prop} {st : List PV}{ls : List (Option PV)}{a b : Int} : WP d mL_law 1091 ls (.inl b :: .inl a :: st) h Q = (if a = b then WP d mL_law 1600 ls st h Q else WP d mL_law 1094 ls st h Q) := R_icmp_eq dL_law_1091 (by decide)
theorem rL_law_1094 {d : Nat} {h : Hp} {Q : Option PV → Hp → Prop} {st : List PV}{ls : List (Option PV)} : WP d mL_law 1094 ls st h Q = WP d mL_law 1095 ls (.inl (0) :: st) h Q := WP_step dL_law_1094 rfl rfl rfl
theorem rL_law_1095 {d : Nat} {h : Hp} {Q : Option PV → Hp → Prop} {ls : List (Option PV)}{z : Int} : WP d mL_law 1095 ls [.inl z] h Q = ((z = 0 ∨ z = 1) ∧ Q (some (.inl z)) h) := R_zret dL_law_1095 rfl
theorem rL_law_1096 {d : Nat} {h : Hp} {Q : Option PV → Hp → Prop} {st : List PV}{x0 : Option PV} {t : List (Option PV)} {v : Nat} : WP d mL_law 1096 (x0 :: some (.inr (.inr v)) :: t) st h Q = WP d mL_law 1097 (x0 :: some (.inr (.inr v)) :: t) (.inr (.inr v) :: st) h Q := WP_step dL_law_1096 rfl rfl rfl
theorem rL_law_1097 {d : Nat} {h : Hp} {Q : Option PV → Hp → Prop} {st : List PV}{t : List (Option PV)} {v : Nat} : WP d mL_law 1097 (some (.inr (.inr v)) :: t) st h Q = WP d mL_law 1098 (some (.inr (.inr v)) :: t) (.inr (.inr v) :: st) h Q := WP_step dL_law_1097 rfl rfl rfl
theorem rL_law_1098 {d : Nat} {h : Hp} {Q : Option PV → Hp → Prop} {st : List PV}{x0 x1 x2 : Option PV} {t : List (Option PV)} {v : Int} : WP d mL_law 1098 (x0 :: x1 :: x2 :: some (.inl v) :: t) st h Q = WP d mL_law 1099 (x0 :: x1 :: x2 :: some (.inl v) :: t) (.inl v :: st) h Q := WP_step dL_law_1098 rfl rfl rfl
theorem rL_law_1099 {d : Nat} {h : Hp} {Q : Option PV → Hp → Prop} {st : List PV}{ls : List (Option PV)} : WP d mL_law 1099 ls st h Q = WP d mL_law 1100 ls (.inl (1) :: st) h Q := WP_step dL_law_1099 rfl rfl rfl
theorem rL_law_1100 {d : Nat} {h : Hp} {Q : Option PV → Hp → Prop} {st : List PV}{ls : List (Option PV)}{a b : Int} : WP d mL_law 1100 ls (.inl b :: .inl a :: st) h Q = WP d mL_law 1101 ls (.inl (w32 (a + b)) :: st) h Q := WP_step dL_law_1100 rfl rfl rfl
theorem rL_law_1101 {d : Nat} {h : Hp} {Q : Option PV → Hp → Prop} {st : List PV}{ls : List (Option PV)}{a : Nat} {z : Int} : WP d mL_law 1101 ls (.inl z :: .inr (.inr a) :: st) h Q = ((hK h a).1 = 21 ∧ 0 ≤ z ∧ z < (hK h a).2 ∧ WP d mL_law 1102 ls (.inl (hI h a z.toNat) :: st) h Q) := R_iald dL_law_1101
theorem rL_law_1102 {d : Nat} {h : Hp} {Q : Option PV → Hp → Prop} {ls : List (Option PV)}{v0 : Nat} {v1 : Int} : WP (d + 1) mL_law 1102 ls (.inl v1 :: .inr (.inr v0) :: []) h Q = ((hK h v0).1 = 11 ∧ WP d mX11_suspects 0 [some (.inr (.inr v0)), some (.inl v1), none, none, none] [] h (fun r h' => WP (d + 1) mL_law 1105 ls (psh r []) h' Q)) := R_callV (st := .inl v1 :: .inr (.inr v0) :: []) (M := mL_law) (pc := 1102) (kd := 0) (n := 2) (M' := mX11_suspects) (as := [.inl v1, .inr (.inr v0)]) (rest := []) (en := [some (.inr (.inr v0)), some (.inl v1), none, none, none]) dL_law_1102 rfl (Nat.le_of_ble_eq_true rfl) (Nat.le_of_ble_eq_true rfl) rfl rfl (Nat.le_of_ble_eq_true rfl) rfl rfl rfl
theorem rL_law_1105 {d : Nat} {h : Hp} {Q : Option PV → Hp → Prop} {st : List PV}{x0 x1 : Option PV} {t : List (Option PV)} {v : Nat} : WP d mL_law 1105 (x0 :: x1 :: some (.inr (.inr v)) :: t) st h Q = WP d mL_law 1106 (x0 :: x1 :: some (.inr (.inr v)) :: t) (.inr (.inr v) :: st) h Q := WP_step dL_law_1105 rfl rfl rfl
theorem rL_law_1106 {d : Nat} {h : Hp} {Q : Option PV → Hp → Prop} {st : List PV}{t : List (Option PV)} {v : Nat} : WP d mL_law 1106 (some (.inr (.inr v)) :: t) st h Q = WP d mL_law 1107 (some (.inr (.inr v)) :: t) (.inr (.inr v) :: st) h Q := WP_step dL_law_1106 rfl rfl rfl
theorem rL_law_1107 {d : Nat} {h : Hp} {Q : Option PV → Hp → Prop} {st : List PV}{x0 x1 x2 : Option PV} {t : List (Option PV)} {v : Int} : WP d mL_law 1107 (x0 :: x1 :: x2 :: some (.inl v) :: t) st h Q = WP d mL_law 1108 (x0 :: x1 :: x2 :: some (.inl v) :: t) (.inl v :: st) h Q := WP_step dL_law_1107 rfl rfl rfl
theorem rL_law_1108 {d : Nat} {h : Hp} {Q : Option PV → Hp → Prop} {st : List PV}{ls : List (Option PV)} : WP d mL_law 1108 ls st h Q = WP d mL_law 1109 ls (.inl (1) :: st) h Q := WP_step dL_law_1108 rfl rfl rfl
theorem rL_law_1109 {d : Nat} {h : Hp} {Q : Option PV → Hp → Prop} {st : List PV}{ls : List (Option PV)}{a b : Int} : WP d mL_law 1109 ls (.inl b :: .inl a :: st) h Q = WP d mL_law 1110 ls (.inl (w32 (a + b)) :: st) h Q := WP_step dL_law_1109 rfl rfl rfl
theorem rL_law_1110 {d : Nat} {h : Hp} {Q : Option PV → Hp → Prop} {st : List PV}{ls : List (Option PV)}{a : Nat} {z : Int} : WP d mL_law 1110 ls (.inl z :: .inr (.inr a) :: st) h Q = ((hK h a).1 = 21 ∧ 0 ≤ z ∧ z < (hK h a).2 ∧ WP d mL_law 1111 ls (.inl (hI h a z.toNat) :: st) h Q) := R_iald dL_law_1110
theorem rL_law_1111 {d : Nat} {h : Hp} {Q : Option PV → Hp → Prop} {ls : List (Option PV)}{r0 : PV}{v0 : Nat} {v1 : Int} : WP (d + 1) mL_law 1111 ls (.inl v1 :: .inr (.inr v0) :: [r0]) h Q = ((hK h v0).1 = 12 ∧ WP d mX12_suspects 0 [some (.inr (.inr v0)), some (.inl v1), none, none, none, none, none] [] h (fun r h' => WP (d + 1) mL_law 1114 ls (psh r [r0]) h' Q)) := R_callV (st := .inl v1 :: .inr (.inr v0) :: [r0]) (M := mL_law) (pc := 1111) (kd := 0) (n := 2) (M' := mX12_suspects) (as := [.inl v1, .inr (.inr v0)]) (rest := [r0]) (en := [some (.inr (.inr v0)), some (.inl v1), none, none, none, none, none]) dL_law_1111 rfl (Nat.le_of_ble_eq_true rfl) (Nat.le_of_ble_eq_true rfl) rfl rfl (Nat.le_of_ble_eq_true rfl) rfl rfl rfl
theorem rL_law_1114 {d : Nat} {h : Hp} {Q : Option PV → Hp → Prop} {st : List PV}{ls : List (Option PV)}{a b : Int} : WP d mL_law 1114 ls (.inl b :: .inl a :: st) h Q = (if a = b then WP d mL_law 1600 ls st h Q else WP d mL_law 1117 ls st h Q) := R_icmp_eq dL_law_1114 (by decide)
theorem rL_law_1117 {d : Nat} {h : Hp} {Q : Option PV → Hp → Prop} {st : List PV}{ls : List (Option PV)} : WP d mL_law 1117 ls st h Q = WP d mL_law 1118 ls (.inl (0) :: st) h Q := WP_step dL_law_1117 rfl rfl rfl
theorem rL_law_1118 {d : Nat} {h : Hp} {Q : Option PV → Hp → Prop} {ls : List (Option PV)}{z : Int} : WP d mL_law 1118 ls [.inl z] h Q = ((z = 0 ∨ z = 1) ∧ Q (some (.inl z)) h) := R_zret dL_law_1118 rfl
theorem rL_law_1119 {d : Nat} {h : Hp} {Q : Option PV → Hp → Prop} {st : List PV}{x0 : Option PV} {t : List (Option PV)} {v : Nat} : WP d mL_law 1119 (x0 :: some (.inr (.inr v)) :: t) st h Q = WP d mL_law 1120 (x0 :: some (.inr (.inr v)) :: t) (.inr (.inr v) :: st) h Q := WP_step dL_law_1119 rfl rfl rfl
theorem rL_law_1120 {d : Nat} {h : Hp} {Q : Option PV → Hp → Prop} {st : List PV}{t : List (Option PV)} {v : Nat} : WP d mL_law 1120 (some (.inr (.inr v)) :: t) st h Q = WP d mL_law 1121 (some (.inr (.inr v)) :: t) (.inr (.inr v) :: st) h Q := WP_step dL_law_1120 rfl rfl rfl
theorem rL_law_1121 {d : Nat} {h : Hp} {Q : Option PV → Hp → Prop} {st : List PV}{x0 x1 x2 : Option PV} {t : List (Option PV)} {v : Int} : WP d mL_law 1121 (x0 :: x1 :: x2 :: some (.inl v) :: t) st h Q = WP d mL_law 1122 (x0 :: x1 :: x2 :: some (.inl v) :: t) (.inl v :: st) h Q := WP_step dL_law_1121 rfl rfl rfl
theorem rL_law_1122 {d : Nat} {h : Hp} {Q : Option PV → Hp → Prop} {st : List PV}{ls : List (Option PV)} : WP d mL_law 1122 ls st h Q = WP d mL_law 1123 ls (.inl (1) :: st) h Q := WP_step dL_law_1122 rfl rfl rfl
theorem rL_law_1123 {d : Nat} {h : Hp} {Q : Option PV → Hp → Prop} {st : List PV}{ls : List (Option PV)}{a b : Int} : WP d mL_law 1123 ls (.inl b :: .inl a :: st) h Q = WP d mL_law 1124 ls (.inl (w32 (a + b)) :: st) h Q := WP_step dL_law_1123 rfl rfl rfl
theorem rL_law_1124 {d : Nat} {h : Hp} {Q : Option PV → Hp → Prop} {st : List PV}{ls : List (Option PV)}{a : Nat} {z : Int} : WP d mL_law 1124 ls (.inl z :: .inr (.inr a) :: st) h Q = ((hK h a).1 = 21 ∧ 0 ≤ z ∧ z < (hK h a).2 ∧ WP d mL_law 1125 ls (.inl (hI h a z.toNat) :: st) h Q) := R_iald dL_law_1124
theorem rL_law_1125 {d : Nat} {h : Hp} {Q : Option PV → Hp → Prop} {st : List PV}{t : List (Option PV)} {v : Nat} : WP d mL_law 1125 (some (.inr (.inr v)) :: t) st h Q = WP d mL_law 1126 (some (.inr (.inr v)) :: t) (.inr (.inr v) :: st) h Q := WP_step dL_law_1125 rfl rfl rfl
theorem rL_law_1126 {d : Nat} {h : Hp} {Q : Option PV → Hp → Prop} {st : List PV}{x0 x1 x2 : Option PV} {t : List (Option PV)} {v : Int} : WP d mL_law 1126 (x0 :: x1 :: x2 :: some (.inl v) :: t) st h Q = WP d mL_law 1127 (x0 :: x1 :: x2 :: some (.inl v) :: t) (.inl v :: st) h Q := WP_step dL_law_1126 rfl rfl rfl
theorem rL_law_1127 {d : Nat} {h : Hp} {Q : Option PV → Hp → Prop} {st : List PV}{ls : List (Option PV)} : WP d mL_law 1127 ls st h Q = WP d mL_law 1128 ls (.inl (2) :: st) h Q := WP_step dL_law_1127 rfl rfl rfl
theorem rL_law_1128 {d : Nat} {h : Hp} {Q : Option PV → Hp → Prop} {st : List PV}{ls : List (Option PV)}{a b : Int} : WP d mL_law 1128 ls (.inl b :: .inl a :: st) h Q = WP d mL_law 1129 ls (.inl (w32 (a + b)) :: st) h Q := WP_step dL_law_1128 rfl rfl rfl
theorem rL_law_1129 {d : Nat} {h : Hp} {Q : Option PV → Hp → Prop} {st : List PV}{ls : List (Option PV)}{a : Nat} {z : Int} : WP d mL_law 1129 ls (.inl z :: .inr (.inr a) :: st) h Q = ((hK h a).1 = 21 ∧ 0 ≤ z ∧ z < (hK h a).2 ∧ WP d mL_law 1130 ls (.inl (hI h a z.toNat) :: st) h Q) := R_iald dL_law_1129
theorem rL_law_1130 {d : Nat} {h : Hp} {Q : Option PV → Hp → Prop} {ls : List (Option PV)}{v0 : Nat} {v1 : Int} {v2 : Int} : WP (d + 1) mL_law 1130 ls (.inl v2 :: .inl v1 :: .inr (.inr v0) :: []) h Q = ((hK h v0).1 = 11 ∧ WP d mX11_bolds 0 [some (.inr (.inr v0)), some (.inl v1), some (.inl v2), none, none, none] [] h (fun r h' => WP (d + 1) mL_law 1133 ls (psh r []) h' Q)) := R_callV (st := .inl v2 :: .inl v1 :: .inr (.inr v0) :: []) (M := mL_law) (pc := 1130) (kd := 0) (n := 3) (M' := mX11_bolds) (as := [.inl v2, .inl v1, .inr (.inr v0)]) (rest := []) (en := [some (.inr (.inr v0)), some (.inl v1), some (.inl v2), none, none, none]) dL_law_1130 rfl (Nat.le_of_ble_eq_true rfl) (Nat.le_of_ble_eq_true rfl) rfl rfl (Nat.le_of_ble_eq_true rfl) rfl rfl rfl
theorem rL_law_1133 {d : Nat} {h : Hp} {Q : Option PV → Hp → Prop} {st : List PV}{x0 x1 : Option PV} {t : List (Option PV)} {v : Nat} : WP d mL_law 1133 (x0 :: x1 :: some (.inr (.inr v)) :: t) st h Q = WP d mL_law 1134 (x0 :: x1 :: some (.inr (.inr v)) :: t) (.inr (.inr v) :: st) h Q := WP_step dL_law_1133 rfl rfl rfl
theorem rL_law_1134 {d : Nat} {h : Hp} {Q : Option PV → Hp → Prop} {st : List PV}{t : List (Option PV)} {v : Nat} : WP d mL_law 1134 (some (.inr (.inr v)) :: t) st h Q = WP d mL_law 1135 (some (.inr (.inr v)) :: t) (.inr (.inr v) :: st) h Q := WP_step dL_law_1134 rfl rfl rfl
theorem rL_law_1135 {d : Nat} {h : Hp} {Q : Option PV → Hp → Prop} {st : List PV}{x0 x1 x2 : Option PV} {t : List (Option PV)} {v : Int} : WP d mL_law 1135 (x0 :: x1 :: x2 :: some (.inl v) :: t) st h Q = WP d mL_law 1136 (x0 :: x1 :: x2 :: some (.inl v) :: t) (.inl v :: st) h Q := WP_step dL_law_1135 rfl rfl rfl
theorem rL_law_1136 {d : Nat} {h : Hp} {Q : Option PV → Hp → Prop} {st : List PV}{ls : List (Option PV)} : WP d mL_law 1136 ls st h Q = WP d mL_law 1137 ls (.inl (1) :: st) h Q := WP_step dL_law_1136 rfl rfl rfl
theorem rL_law_1137 {d : Nat} {h : Hp} {Q : Option PV → Hp → Prop} {st : List PV}{ls : List (Option PV)}{a b : Int} : WP d mL_law 1137 ls (.inl b :: .inl a :: st) h Q = WP d mL_law 1138 ls (.inl (w32 (a + b)) :: st) h Q := WP_step dL_law_1137 rfl rfl rfl
theorem rL_law_1138 {d : Nat} {h : Hp} {Q : Option PV → Hp → Prop} {st : List PV}{ls : List (Option PV)}{a : Nat} {z : Int} : WP d mL_law 1138 ls (.inl z :: .inr (.inr a) :: st) h Q = ((hK h a).1 = 21 ∧ 0 ≤ z ∧ z < (hK h a).2 ∧ WP d mL_law 1139 ls (.inl (hI h a z.toNat) :: st) h Q) := R_iald dL_law_1138
theorem rL_law_1139 {d : Nat} {h : Hp} {Q : Option PV → Hp → Prop} {st : List PV}{t : List (Option PV)} {v : Nat} : WP d mL_law 1139 (some (.inr (.inr v)) :: t) st h Q = WP d mL_law 1140 (some (.inr (.inr v)) :: t) (.inr (.inr v) :: st) h Q := WP_step dL_law_1139 rfl rfl rfl
theorem rL_law_1140 {d : Nat} {h : Hp} {Q : Option PV → Hp → Prop} {st : List PV}{x0 x1 x2 : Option PV} {t : List (Option PV)} {v : Int} : WP d mL_law 1140 (x0 :: x1 :: x2 :: some (.inl v) :: t) st h Q = WP d mL_law 1141 (x0 :: x1 :: x2 :: some (.inl v) :: t) (.inl v :: st) h Q := WP_step dL_law_1140 rfl rfl rfl
theorem rL_law_1141 {d : Nat} {h : Hp} {Q : Option PV → Hp → Prop} {st : List PV}{ls : List (Option PV)} : WP d mL_law 1141 ls st h Q = WP d mL_law 1142 ls (.inl (2) :: st) h Q := WP_step dL_law_1141 rfl rfl rfl
theorem rL_law_1142 {d : Nat} {h : Hp} {Q : Option PV → Hp → Prop} {st : List PV}{ls : List (Option PV)}{a b : Int} : WP d mL_law 1142 ls (.inl b :: .inl a :: st) h Q = WP d mL_law 1143 ls (.inl (w32 (a + b)) :: st) h Q := WP_step dL_law_1142 rfl rfl rfl
theorem rL_law_1143 {d : Nat} {h : Hp} {Q : Option PV → Hp → Prop} {st : List PV}{ls : List (Option PV)}{a : Nat} {z : Int} : WP d mL_law 1143 ls (.inl z :: .inr (.inr a) :: st) h Q = ((hK h a).1 = 21 ∧ 0 ≤ z ∧ z < (hK h a).2 ∧ WP d mL_law 1144 ls (.inl (hI h a z.toNat) :: st) h Q) := R_iald dL_law_1143
theorem rL_law_1144 {d : Nat} {h : Hp} {Q : Option PV → Hp → Prop} {ls : List (Option PV)}{r0 : PV}{v0 : Nat} {v1 : Int} {v2 : Int} : WP (d + 1) mL_law 1144 ls (.inl v2 :: .inl v1 :: .inr (.inr v0) :: [r0]) h Q = ((hK h v0).1 = 12 ∧ WP d mX12_bolds 0 [some (.inr (.inr v0)), some (.inl v1), some (.inl v2), none] [] h (fun r h' => WP (d + 1) mL_law 1147 ls (psh r [r0]) h' Q)) := R_callV (st := .inl v2 :: .inl v1 :: .inr (.inr v0) :: [r0]) (M := mL_law) (pc := 1144) (kd := 0) (n := 3) (M' := mX12_bolds) (as := [.inl v2, .inl v1, .inr (.inr v0)]) (rest := [r0]) (en := [some (.inr (.inr v0)), some (.inl v1), some (.inl v2), none]) dL_law_1144 rfl (Nat.le_of_ble_eq_true rfl) (Nat.le_of_ble_eq_true rfl) rfl rfl (Nat.le_of_ble_eq_true rfl) rfl rfl rfl
theorem rL_law_1147 {d : Nat} {h : Hp} {Q : Option PV → Hp → Prop} {st : List PV}{ls : List (Option PV)}{a b : Int} : WP d mL_law 1147 ls (.inl b :: .inl a :: st) h Q = (if a = b then WP d mL_law 1600 ls st h Q else WP d mL_law 1150 ls st h Q) := R_icmp_eq dL_law_1147 (by decide)
theorem rL_law_1150 {d : Nat} {h : Hp} {Q : Option PV → Hp → Prop} {st : List PV}{ls : List (Option PV)} : WP d mL_law 1150 ls st h Q = WP d mL_law 1151 ls (.inl (0) :: st) h Q := WP_step dL_law_1150 rfl rfl rfl
theorem rL_law_1151 {d : Nat} {h : Hp} {Q : Option PV → Hp → Prop} {ls : List (Option PV)}{z : Int} : WP d mL_law 1151 ls [.inl z] h Q = ((z = 0 ∨ z = 1) ∧ Q (some (.inl z)) h) := R_zret dL_law_1151 rfl
theorem rL_law_1152 {d : Nat} {h : Hp} {Q : Option PV → Hp → Prop} {st : List PV}{x0 : Option PV} {t : List (Option PV)} {v : Nat} : WP d mL_law 1152 (x0 :: some (.inr (.inr v)) :: t) st h Q = WP d mL_law 1153 (x0 :: some (.inr (.inr v)) :: t) (.inr (.inr v) :: st) h Q := WP_step dL_law_1152 rfl rfl rfl
theorem rL_law_1153 {d : Nat} {h : Hp} {Q : Option PV → Hp → Prop} {st : List PV}{t : List (Option PV)} {v : Nat} : WP d mL_law 1153 (some (.inr (.inr v)) :: t) st h Q = WP d mL_law 1154 (some (.inr (.inr v)) :: t) (.inr (.inr v) :: st) h Q := WP_step dL_law_1153 rfl rfl rfl
theorem rL_law_1154 {d : Nat} {h : Hp} {Q : Option PV → Hp → Prop} {st : List PV}{x0 x1 x2 : Option PV} {t : List (Option PV)} {v : Int} : WP d mL_law 1154 (x0 :: x1 :: x2 :: some (.inl v) :: t) st h Q = WP d mL_law 1155 (x0 :: x1 :: x2 :: some (.inl v) :: t) (.inl v :: st) h Q := WP_step dL_law_1154 rfl rfl rfl
theorem rL_law_1155 {d : Nat} {h : Hp} {Q : Option PV → Hp → Prop} {st : List PV}{ls : List (Option PV)} : WP d mL_law 1155 ls st h Q = WP d mL_law 1156 ls (.inl (1) :: st) h Q := WP_step dL_law_1155 rfl rfl rfl
theorem rL_law_1156 {d : Nat} {h : Hp} {Q : Option PV → Hp → Prop} {st : List PV}{ls : List (Option PV)}{a b : Int} : WP d mL_law 1156 ls (.inl b :: .inl a :: st) h Q = WP d mL_law 1157 ls (.inl (w32 (a + b)) :: st) h Q := WP_step dL_law_1156 rfl rfl rfl
theorem rL_law_1157 {d : Nat} {h : Hp} {Q : Option PV → Hp → Prop} {st : List PV}{ls : List (Option PV)}{a : Nat} {z : Int} : WP d mL_law 1157 ls (.inl z :: .inr (.inr a) :: st) h Q = ((hK h a).1 = 21 ∧ 0 ≤ z ∧ z < (hK h a).2 ∧ WP d mL_law 1158 ls (.inl (hI h a z.toNat) :: st) h Q) := R_iald dL_law_1157
theorem rL_law_1158 {d : Nat} {h : Hp} {Q : Option PV → Hp → Prop} {st : List PV}{t : List (Option PV)} {v : Nat} : WP d mL_law 1158 (some (.inr (.inr v)) :: t) st h Q = WP d mL_law 1159 (some (.inr (.inr v)) :: t) (.inr (.inr v) :: st) h Q := WP_step dL_law_1158 rfl rfl rfl
theorem rL_law_1159 {d : Nat} {h : Hp} {Q : Option PV → Hp → Prop} {st : List PV}{x0 x1 x2 : Option PV} {t : List (Option PV)} {v : Int} : WP d mL_law 1159 (x0 :: x1 :: x2 :: some (.inl v) :: t) st h Q = WP d mL_law 1160 (x0 :: x1 :: x2 :: some (.inl v) :: t) (.inl v :: st) h Q := WP_step dL_law_1159 rfl rfl rfl
theorem rL_law_1160 {d : Nat} {h : Hp} {Q : Option PV → Hp → Prop} {st : List PV}{ls : List (Option PV)} : WP d mL_law 1160 ls st h Q = WP d mL_law 1161 ls (.inl (2) :: st) h Q := WP_step dL_law_1160 rfl rfl rfl
theorem rL_law_1161 {d : Nat} {h : Hp} {Q : Option PV → Hp → Prop} {st : List PV}{ls : List (Option PV)}{a b : Int} : WP d mL_law 1161 ls (.inl b :: .inl a :: st) h Q = WP d mL_law 1162 ls (.inl (w32 (a + b)) :: st) h Q := WP_step dL_law_1161 rfl rfl rfl
theorem rL_law_1162 {d : Nat} {h : Hp} {Q : Option PV → Hp → Prop} {st : List PV}{ls : List (Option PV)}{a : Nat} {z : Int} : WP d mL_law 1162 ls (.inl z :: .inr (.inr a) :: st) h Q = ((hK h a).1 = 21 ∧ 0 ≤ z ∧ z < (hK h a).2 ∧ WP d mL_law 1163 ls (.inl (hI h a z.toNat) :: st) h Q) := R_iald dL_law_1162
theorem rL_law_1163 {d : Nat} {h : Hp} {Q : Option PV → Hp → Prop} {ls : List (Option PV)}{v0 : Nat} {v1 : Int} {v2 : Int} : WP (d + 1) mL_law 1163 ls (.inl v2 :: .inl v1 :: .inr (.inr v0) :: []) h Q = ((hK h v0).1 = 11 ∧ WP d mX11_nexts 0 [some (.inr (.inr v0)), some (.inl v1), some (.inl v2), none, none, none] [] h (fun r h' => WP (d + 1) mL_law 1166 ls (psh r []) h' Q)) := R_callV (st := .inl v2 :: .inl v1 :: .inr (.inr v0) :: []) (M := mL_law) (pc := 1163) (kd := 0) (n := 3) (M' := mX11_nexts) (as := [.inl v2, .inl v1, .inr (.inr v0)]) (rest := []) (en := [some (.inr (.inr v0)), some (.inl v1), some (.inl v2), none, none, none]) dL_law_1163 rfl (Nat.le_of_ble_eq_true rfl) (Nat.le_of_ble_eq_true rfl) rfl rfl (Nat.le_of_ble_eq_true rfl) rfl rfl rfl
theorem rL_law_1166 {d : Nat} {h : Hp} {Q : Option PV → Hp → Prop} {st : List PV}{x0 x1 : Option PV} {t : List (Option PV)} {v : Nat} : WP d mL_law 1166 (x0 :: x1 :: some (.inr (.inr v)) :: t) st h Q = WP d mL_law 1167 (x0 :: x1 :: some (.inr (.inr v)) :: t) (.inr (.inr v) :: st) h Q := WP_step dL_law_1166 rfl rfl rfl
theorem rL_law_1167 {d : Nat} {h : Hp} {Q : Option PV → Hp → Prop} {st : List PV}{t : List (Option PV)} {v : Nat} : WP d mL_law 1167 (some (.inr (.inr v)) :: t) st h Q = WP d mL_law 1168 (some (.inr (.inr v)) :: t) (.inr (.inr v) :: st) h Q := WP_step dL_law_1167 rfl rfl rfl
theorem rL_law_1168 {d : Nat} {h : Hp} {Q : Option PV → Hp → Prop} {st : List PV}{x0 x1 x2 : Option PV} {t : List (Option PV)} {v : Int} : WP d mL_law 1168 (x0 :: x1 :: x2 :: some (.inl v) :: t) st h Q = WP d mL_law 1169 (x0 :: x1 :: x2 :: some (.inl v) :: t) (.inl v :: st) h Q := WP_step dL_law_1168 rfl rfl rfl
theorem rL_law_1169 {d : Nat} {h : Hp} {Q : Option PV → Hp → Prop} {st : List PV}{ls : List (Option PV)} : WP d mL_law 1169 ls st h Q = WP d mL_law 1170 ls (.inl (1) :: st) h Q := WP_step dL_law_1169 rfl rfl rfl
theorem rL_law_1170 {d : Nat} {h : Hp} {Q : Option PV → Hp → Prop} {st : List PV}{ls : List (Option PV)}{a b : Int} : WP d mL_law 1170 ls (.inl b :: .inl a :: st) h Q = WP d mL_law 1171 ls (.inl (w32 (a + b)) :: st) h Q := WP_step dL_law_1170 rfl rfl rfl
theorem rL_law_1171 {d : Nat} {h : Hp} {Q : Option PV → Hp → Prop} {st : List PV}{ls : List (Option PV)}{a : Nat} {z : Int} : WP d mL_law 1171 ls (.inl z :: .inr (.inr a) :: st) h Q = ((hK h a).1 = 21 ∧ 0 ≤ z ∧ z < (hK h a).2 ∧ WP d mL_law 1172 ls (.inl (hI h a z.toNat) :: st) h Q) := R_iald dL_law_1171
theorem rL_law_1172 {d : Nat} {h : Hp} {Q : Option PV → Hp → Prop} {st : List PV}{t : List (Option PV)} {v : Nat} : WP d mL_law 1172 (some (.inr (.inr v)) :: t) st h Q = WP d mL_law 1173 (some (.inr (.inr v)) :: t) (.inr (.inr v) :: st) h Q := WP_step dL_law_1172 rfl rfl rfl
theorem rL_law_1173 {d : Nat} {h : Hp} {Q : Option PV → Hp → Prop} {st : List PV}{x0 x1 x2 : Option PV} {t : List (Option PV)} {v : Int} : WP d mL_law 1173 (x0 :: x1 :: x2 :: some (.inl v) :: t) st h Q = WP d mL_law 1174 (x0 :: x1 :: x2 :: some (.inl v) :: t) (.inl v :: st) h Q := WP_step dL_law_1173 rfl rfl rfl
theorem rL_law_1174 {d : Nat} {h : Hp} {Q : Option PV → Hp → Prop} {st : List PV}{ls : List (Option PV)} : WP d mL_law 1174 ls st h Q = WP d mL_law 1175 ls (.inl (2) :: st) h Q := WP_step dL_law_1174 rfl rfl rfl
theorem rL_law_1175 {d : Nat} {h : Hp} {Q : Option PV → Hp → Prop} {st : List PV}{ls : List (Option PV)}{a b : Int} : WP d mL_law 1175 ls (.inl b :: .inl a :: st) h Q = WP d mL_law 1176 ls (.inl (w32 (a + b)) :: st) h Q := WP_step dL_law_1175 rfl rfl rfl
theorem rL_law_1176 {d : Nat} {h : Hp} {Q : Option PV → Hp → Prop} {st : List PV}{ls : List (Option PV)}{a : Nat} {z : Int} : WP d mL_law 1176 ls (.inl z :: .inr (.inr a) :: st) h Q = ((hK h a).1 = 21 ∧ 0 ≤ z ∧ z < (hK h a).2 ∧ WP d mL_law 1177 ls (.inl (hI h a z.toNat) :: st) h Q) := R_iald dL_law_1176
theorem rL_law_1177 {d : Nat} {h : Hp} {Q : Option PV → Hp → Prop} {ls : List (Option PV)}{r0 : PV}{v0 : Nat} {v1 : Int} {v2 : Int} : WP (d + 1) mL_law 1177 ls (.inl v2 :: .inl v1 :: .inr (.inr v0) :: [r0]) h Q = ((hK h v0).1 = 12 ∧ WP d mX12_nexts 0 [some (.inr (.inr v0)), some (.inl v1), some (.inl v2), none, none, none] [] h (fun r h' => WP (d + 1) mL_law 1180 ls (psh r [r0]) h' Q)) := R_callV (st := .inl v2 :: .inl v1 :: .inr (.inr v0) :: [r0]) (M := mL_law) (pc := 1177) (kd := 0) (n := 3) (M' := mX12_nexts) (as := [.inl v2, .inl v1, .inr (.inr v0)]) (rest := [r0]) (en := [some (.inr (.inr v0)), some (.inl v1), some (.inl v2), none, none, none]) dL_law_1177 rfl (Nat.le_of_ble_eq_true rfl) (Nat.le_of_ble_eq_true rfl) rfl rfl (Nat.le_of_ble_eq_true rfl) rfl rfl rfl
theorem rL_law_1180 {d : Nat} {h : Hp} {Q : Option PV → Hp → Prop} {st : List PV}{ls : List (Option PV)}{a b : Int} : WP d mL_law 1180 ls (.inl b :: .inl a :: st) h Q = (if a = b then WP d mL_law 1600 ls st h Q else WP d mL_law 1183 ls st h Q) := R_icmp_eq dL_law_1180 (by decide)
theorem rL_law_1183 {d : Nat} {h : Hp} {Q : Option PV → Hp → Prop} {st : List PV}{ls : List (Option PV)} : WP d mL_law 1183 ls st h Q = WP d mL_law 1184 ls (.inl (0) :: st) h Q := WP_step dL_law_1183 rfl rfl rfl
theorem rL_law_1184 {d : Nat} {h : Hp} {Q : Option PV → Hp → Prop} {ls : List (Option PV)}{z : Int} : WP d mL_law 1184 ls [.inl z] h Q = ((z = 0 ∨ z = 1) ∧ Q (some (.inl z)) h) := R_zret dL_law_1184 rfl
theorem rL_law_1185 {d : Nat} {h : Hp} {Q : Option PV → Hp → Prop} {st : List PV}{x0 : Option PV} {t : List (Option PV)} {v : Nat} : WP d mL_law 1185 (x0 :: some (.inr (.inr v)) :: t) st h Q = WP d mL_law 1186 (x0 :: some (.inr (.inr v)) :: t) (.inr (.inr v) :: st) h Q := WP_step dL_law_1185 rfl rfl rfl
theorem rL_law_1186 {d : Nat} {h : Hp} {Q : Option PV → Hp → Prop} {st : List PV}{t : List (Option PV)} {v : Nat} : WP d mL_law 1186 (some (.inr (.inr v)) :: t) st h Q = WP d mL_law 1187 (some (.inr (.inr v)) :: t) (.inr (.inr v) :: st) h Q := WP_step dL_law_1186 rfl rfl rfl
theorem rL_law_1187 {d : Nat} {h : Hp} {Q : Option PV → Hp → Prop} {st : List PV}{x0 x1 x2 : Option PV} {t : List (Option PV)} {v : Int} : WP d mL_law 1187 (x0 :: x1 :: x2 :: some (.inl v) :: t) st h Q = WP d mL_law 1188 (x0 :: x1 :: x2 :: some (.inl v) :: t) (.inl v :: st) h Q := WP_step dL_law_1187 rfl rfl rfl
theorem rL_law_1188 {d : Nat} {h : Hp} {Q : Option PV → Hp → Prop} {st : List PV}{ls : List (Option PV)} : WP d mL_law 1188 ls st h Q = WP d mL_law 1189 ls (.inl (1) :: st) h Q := WP_step dL_law_1188 rfl rfl rfl
theorem rL_law_1189 {d : Nat} {h : Hp} {Q : Option PV → Hp → Prop} {st : List PV}{ls : List (Option PV)}{a b : Int} : WP d mL_law 1189 ls (.inl b :: .inl a :: st) h Q = WP d mL_law 1190 ls (.inl (w32 (a + b)) :: st) h Q := WP_step dL_law_1189 rfl rfl rfl
theorem rL_law_1190 {d : Nat} {h : Hp} {Q : Option PV → Hp → Prop} {st : List PV}{ls : List (Option PV)}{a : Nat} {z : Int} : WP d mL_law 1190 ls (.inl z :: .inr (.inr a) :: st) h Q = ((hK h a).1 = 21 ∧ 0 ≤ z ∧ z < (hK h a).2 ∧ WP d mL_law 1191 ls (.inl (hI h a z.toNat) :: st) h Q) := R_iald dL_law_1190
theorem rL_law_1191 {d : Nat} {h : Hp} {Q : Option PV → Hp → Prop} {st : List PV}{t : List (Option PV)} {v : Nat} : WP d mL_law 1191 (some (.inr (.inr v)) :: t) st h Q = WP d mL_law 1192 (some (.inr (.inr v)) :: t) (.inr (.inr v) :: st) h Q := WP_step dL_law_1191 rfl rfl rfl
theorem rL_law_1192 {d : Nat} {h : Hp} {Q : Option PV → Hp → Prop} {st : List PV}{x0 x1 x2 : Option PV} {t : List (Option PV)} {v : Int} : WP d mL_law 1192 (x0 :: x1 :: x2 :: some (.inl v) :: t) st h Q = WP d mL_law 1193 (x0 :: x1 :: x2 :: some (.inl v) :: t) (.inl v :: st) h Q := WP_step dL_law_1192 rfl rfl rfl
theorem rL_law_1193 {d : Nat} {h : Hp} {Q : Option PV → Hp → Prop} {st : List PV}{ls : List (Option PV)} : WP d mL_law 1193 ls st h Q = WP d mL_law 1194 ls (.inl (2) :: st) h Q := WP_step dL_law_1193 rfl rfl rfl
theorem rL_law_1194 {d : Nat} {h : Hp} {Q : Option PV → Hp → Prop} {st : List PV}{ls : List (Option PV)}{a b : Int} : WP d mL_law 1194 ls (.inl b :: .inl a :: st) h Q = WP d mL_law 1195 ls (.inl (w32 (a + b)) :: st) h Q := WP_step dL_law_1194 rfl rfl rfl
theorem rL_law_1195 {d : Nat} {h : Hp} {Q : Option PV → Hp → Prop} {st : List PV}{ls : List (Option PV)}{a : Nat} {z : Int} : WP d mL_law 1195 ls (.inl z :: .inr (.inr a) :: st) h Q = ((hK h a).1 = 21 ∧ 0 ≤ z ∧ z < (hK h a).2 ∧ WP d mL_law 1196 ls (.inl (hI h a z.toNat) :: st) h Q) := R_iald dL_law_1195
theorem rL_law_1196 {d : Nat} {h : Hp} {Q : Option PV → Hp → Prop} {st : List PV}{t : List (Option PV)} {v : Nat} : WP d mL_law 1196 (some (.inr (.inr v)) :: t) st h Q = WP d mL_law 1197 (some (.inr (.inr v)) :: t) (.inr (.inr v) :: st) h Q := WP_step dL_law_1196 rfl rfl rfl
theorem rL_law_1197 {d : Nat} {h : Hp} {Q : Option PV → Hp → Prop} {st : List PV}{x0 x1 x2 : Option PV} {t : List (Option PV)} {v : Int} : WP d mL_law 1197 (x0 :: x1 :: x2 :: some (.inl v) :: t) st h Q = WP d mL_law 1198 (x0 :: x1 :: x2 :: some (.inl v) :: t) (.inl v :: st) h Q := WP_step dL_law_1197 rfl rfl rfl
theorem rL_law_1198 {d : Nat} {h : Hp} {Q : Option PV → Hp → Prop} {st : List PV}{ls : List (Option PV)} : WP d mL_law 1198 ls st h Q = WP d mL_law 1199 ls (.inl (3) :: st) h Q := WP_step dL_law_1198 rfl rfl rfl
theorem rL_law_1199 {d : Nat} {h : Hp} {Q : Option PV → Hp → Prop} {st : List PV}{ls : List (Option PV)}{a b : Int} : WP d mL_law 1199 ls (.inl b :: .inl a :: st) h Q = WP d mL_law 1200 ls (.inl (w32 (a + b)) :: st) h Q := WP_step dL_law_1199 rfl rfl rfl
theorem rL_law_1200 {d : Nat} {h : Hp} {Q : Option PV → Hp → Prop} {st : List PV}{ls : List (Option PV)}{a : Nat} {z : Int} : WP d mL_law 1200 ls (.inl z :: .inr (.inr a) :: st) h Q = ((hK h a).1 = 21 ∧ 0 ≤ z ∧ z < (hK h a).2 ∧ WP d mL_law 1201 ls (.inl (hI h a z.toNat) :: st) h Q) := R_iald dL_law_1200
theorem rL_law_1201 {d : Nat} {h : Hp} {Q : Option PV → Hp → Prop} {ls : List (Option PV)}{v0 : Nat} {v1 : Int} {v2 : Int} {v3 : Int} : WP (d + 1) mL_law 1201 ls (.inl v3 :: .inl v2 :: .inl v1 :: .inr (.inr v0) :: []) h Q = ((hK h v0).1 = 11 ∧ WP d mX11_forces 0 [some (.inr (.inr v0)), some (.inl v1), some (.inl v2), some (.inl v3), none] [] h (fun r h' => WP (d + 1) mL_law 1204 ls (psh r []) h' Q)) := R_callV (st := .inl v3 :: .inl v2 :: .inl v1 :: .inr (.inr v0) :: []) (M := mL_law) (pc := 1201) (kd := 0) (n := 4) (M' := mX11_forces) (as := [.inl v3, .inl v2, .inl v1, .inr (.inr v0)]) (rest := []) (en := [some (.inr (.inr v0)), some (.inl v1), some (.inl v2), some (.inl v3), none]) dL_law_1201 rfl (Nat.le_of_ble_eq_true rfl) (Nat.le_of_ble_eq_true rfl) rfl rfl (Nat.le_of_ble_eq_true rfl) rfl rfl rfl
theorem rL_law_1204 {d : Nat} {h : Hp} {Q : Option PV → Hp → Prop} {st : List PV}{x0 x1 : Option PV} {t : List (Option PV)} {v : Nat} : WP d mL_law 1204 (x0 :: x1 :: some (.inr (.inr v)) :: t) st h Q = WP d mL_law 1205 (x0 :: x1 :: some (.inr (.inr v)) :: t) (.inr (.inr v) :: st) h Q := WP_step dL_law_1204 rfl rfl rfl
theorem rL_law_1205 {d : Nat} {h : Hp} {Q : Option PV → Hp → Prop} {st : List PV}{t : List (Option PV)} {v : Nat} : WP d mL_law 1205 (some (.inr (.inr v)) :: t) st h Q = WP d mL_law 1206 (some (.inr (.inr v)) :: t) (.inr (.inr v) :: st) h Q := WP_step dL_law_1205 rfl rfl rfl
theorem rL_law_1206 {d : Nat} {h : Hp} {Q : Option PV → Hp → Prop} {st : List PV}{x0 x1 x2 : Option PV} {t : List (Option PV)} {v : Int} : WP d mL_law 1206 (x0 :: x1 :: x2 :: some (.inl v) :: t) st h Q = WP d mL_law 1207 (x0 :: x1 :: x2 :: some (.inl v) :: t) (.inl v :: st) h Q := WP_step dL_law_1206 rfl rfl rfl
theorem rL_law_1207 {d : Nat} {h : Hp} {Q : Option PV → Hp → Prop} {st : List PV}{ls : List (Option PV)} : WP d mL_law 1207 ls st h Q = WP d mL_law 1208 ls (.inl (1) :: st) h Q := WP_step dL_law_1207 rfl rfl rfl
theorem rL_law_1208 {d : Nat} {h : Hp} {Q : Option PV → Hp → Prop} {st : List PV}{ls : List (Option PV)}{a b : Int} : WP d mL_law 1208 ls (.inl b :: .inl a :: st) h Q = WP d mL_law 1209 ls (.inl (w32 (a + b)) :: st) h Q := WP_step dL_law_1208 rfl rfl rfl
theorem rL_law_1209 {d : Nat} {h : Hp} {Q : Option PV → Hp → Prop} {st : List PV}{ls : List (Option PV)}{a : Nat} {z : Int} : WP d mL_law 1209 ls (.inl z :: .inr (.inr a) :: st) h Q = ((hK h a).1 = 21 ∧ 0 ≤ z ∧ z < (hK h a).2 ∧ WP d mL_law 1210 ls (.inl (hI h a z.toNat) :: st) h Q) := R_iald dL_law_1209
theorem rL_law_1210 {d : Nat} {h : Hp} {Q : Option PV → Hp → Prop} {st : List PV}{t : List (Option PV)} {v : Nat} : WP d mL_law 1210 (some (.inr (.inr v)) :: t) st h Q = WP d mL_law 1211 (some (.inr (.inr v)) :: t) (.inr (.inr v) :: st) h Q := WP_step dL_law_1210 rfl rfl rfl
theorem rL_law_1211 {d : Nat} {h : Hp} {Q : Option PV → Hp → Prop} {st : List PV}{x0 x1 x2 : Option PV} {t : List (Option PV)} {v : Int} : WP d mL_law 1211 (x0 :: x1 :: x2 :: some (.inl v) :: t) st h Q = WP d mL_law 1212 (x0 :: x1 :: x2 :: some (.inl v) :: t) (.inl v :: st) h Q := WP_step dL_law_1211 rfl rfl rfl
theorem rL_law_1212 {d : Nat} {h : Hp} {Q : Option PV → Hp → Prop} {st : List PV}{ls : List (Option PV)} : WP d mL_law 1212 ls st h Q = WP d mL_law 1213 ls (.inl (2) :: st) h Q := WP_step dL_law_1212 rfl rfl rfl
theorem rL_law_1213 {d : Nat} {h : Hp} {Q : Option PV → Hp → Prop} {st : List PV}{ls : List (Option PV)}{a b : Int} : WP d mL_law 1213 ls (.inl b :: .inl a :: st) h Q = WP d mL_law 1214 ls (.inl (w32 (a + b)) :: st) h Q := WP_step dL_law_1213 rfl rfl rfl
theorem rL_law_1214 {d : Nat} {h : Hp} {Q : Option PV → Hp → Prop} {st : List PV}{ls : List (Option PV)}{a : Nat} {z : Int} : WP d mL_law 1214 ls (.inl z :: .inr (.inr a) :: st) h Q = ((hK h a).1 = 21 ∧ 0 ≤ z ∧ z < (hK h a).2 ∧ WP d mL_law 1215 ls (.inl (hI h a z.toNat) :: st) h Q) := R_iald dL_law_1214
theorem rL_law_1215 {d : Nat} {h : Hp} {Q : Option PV → Hp → Prop} {st : List PV}{t : List (Option PV)} {v : Nat} : WP d mL_law 1215 (some (.inr (.inr v)) :: t) st h Q = WP d mL_law 1216 (some (.inr (.inr v)) :: t) (.inr (.inr v) :: st) h Q := WP_step dL_law_1215 rfl rfl rfl
theorem rL_law_1216 {d : Nat} {h : Hp} {Q : Option PV → Hp → Prop} {st : List PV}{x0 x1 x2 : Option PV} {t : List (Option PV)} {v : Int} : WP d mL_law 1216 (x0 :: x1 :: x2 :: some (.inl v) :: t) st h Q = WP d mL_law 1217 (x0 :: x1 :: x2 :: some (.inl v) :: t) (.inl v :: st) h Q := WP_step dL_law_1216 rfl rfl rfl
theorem rL_law_1217 {d : Nat} {h : Hp} {Q : Option PV → Hp → Prop} {st : List PV}{ls : List (Option PV)} : WP d mL_law 1217 ls st h Q = WP d mL_law 1218 ls (.inl (3) :: st) h Q := WP_step dL_law_1217 rfl rfl rfl
theorem rL_law_1218 {d : Nat} {h : Hp} {Q : Option PV → Hp → Prop} {st : List PV}{ls : List (Option PV)}{a b : Int} : WP d mL_law 1218 ls (.inl b :: .inl a :: st) h Q = WP d mL_law 1219 ls (.inl (w32 (a + b)) :: st) h Q := WP_step dL_law_1218 rfl rfl rfl
theorem rL_law_1219 {d : Nat} {h : Hp} {Q : Option PV → Hp → Prop} {st : List PV}{ls : List (Option PV)}{a : Nat} {z : Int} : WP d mL_law 1219 ls (.inl z :: .inr (.inr a) :: st) h Q = ((hK h a).1 = 21 ∧ 0 ≤ z ∧ z < (hK h a).2 ∧ WP d mL_law 1220 ls (.inl (hI h a z.toNat) :: st) h Q) := R_iald dL_law_1219
theorem rL_law_1220 {d : Nat} {h : Hp} {Q : Option PV → Hp → Prop} {ls : List (Option PV)}{r0 : PV}{v0 : Nat} {v1 : Int} {v2 : Int} {v3 : Int} : WP (d + 1) mL_law 1220 ls (.inl v3 :: .inl v2 :: .inl v1 :: .inr (.inr v0) :: [r0]) h Q = ((hK h v0).1 = 12 ∧ WP d mX12_forces 0 [some (.inr (.inr v0)), some (.inl v1), some (.inl v2), some (.inl v3), none, none] [] h (fun r h' => WP (d + 1) mL_law 1223 ls (psh r [r0]) h' Q)) := R_callV (st := .inl v3 :: .inl v2 :: .inl v1 :: .inr (.inr v0) :: [r0]) (M := mL_law) (pc := 1220) (kd := 0) (n := 4) (M' := mX12_forces) (as := [.inl v3, .inl v2, .inl v1, .inr (.inr v0)]) (rest := [r0]) (en := [some (.inr (.inr v0)), some (.inl v1), some (.inl v2), some (.inl v3), none, none]) dL_law_1220 rfl (Nat.le_of_ble_eq_true rfl) (Nat.le_of_ble_eq_true rfl) rfl rfl (Nat.le_of_ble_eq_true rfl) rfl rfl rfl
theorem rL_law_1223 {d : Nat} {h : Hp} {Q : Option PV → Hp → Prop} {st : List PV}{ls : List (Option PV)}{a b : Int} : WP d mL_law 1223 ls (.inl b :: .inl a :: st) h Q = (if a = b then WP d mL_law 1600 ls st h Q else WP d mL_law 1226 ls st h Q) := R_icmp_eq dL_law_1223 (by decide)
theorem rL_law_1226 {d : Nat} {h : Hp} {Q : Option PV → Hp → Prop} {st : List PV}{ls : List (Option PV)} : WP d mL_law 1226 ls st h Q = WP d mL_law 1227 ls (.inl (0) :: st) h Q := WP_step dL_law_1226 rfl rfl rfl
theorem rL_law_1227 {d : Nat} {h : Hp} {Q : Option PV → Hp → Prop} {ls : List (Option PV)}{z : Int} : WP d mL_law 1227 ls [.inl z] h Q = ((z = 0 ∨ z = 1) ∧ Q (some (.inl z)) h) := R_zret dL_law_1227 rfl
theorem rL_law_1228 {d : Nat} {h : Hp} {Q : Option PV → Hp → Prop} {st : List PV}{x0 : Option PV} {t : List (Option PV)} {v : Nat} : WP d mL_law 1228 (x0 :: some (.inr (.inr v)) :: t) st h Q = WP d mL_law 1229 (x0 :: some (.inr (.inr v)) :: t) (.inr (.inr v) :: st) h Q := WP_step dL_law_1228 rfl rfl rfl
theorem rL_law_1229 {d : Nat} {h : Hp} {Q : Option PV → Hp → Prop} {st : List PV}{t : List (Option PV)} {v : Nat} : WP d mL_law 1229 (some (.inr (.inr v)) :: t) st h Q = WP d mL_law 1230 (some (.inr (.inr v)) :: t) (.inr (.inr v) :: st) h Q := WP_step dL_law_1229 rfl rfl rfl
theorem rL_law_1230 {d : Nat} {h : Hp} {Q : Option PV → Hp → Prop} {st : List PV}{x0 x1 x2 : Option PV} {t : List (Option PV)} {v : Int} : WP d mL_law 1230 (x0 :: x1 :: x2 :: some (.inl v) :: t) st h Q = WP d mL_law 1231 (x0 :: x1 :: x2 :: some (.inl v) :: t) (.inl v :: st) h Q := WP_step dL_law_1230 rfl rfl rfl
theorem rL_law_1231 {d : Nat} {h : Hp} {Q : Option PV → Hp → Prop} {st : List PV}{ls : List (Option PV)} : WP d mL_law 1231 ls st h Q = WP d mL_law 1232 ls (.inl (1) :: st) h Q := WP_step dL_law_1231 rfl rfl rfl
theorem rL_law_1232 {d : Nat} {h : Hp} {Q : Option PV → Hp → Prop} {st : List PV}{ls : List (Option PV)}{a b : Int} : WP d mL_law 1232 ls (.inl b :: .inl a :: st) h Q = WP d mL_law 1233 ls (.inl (w32 (a + b)) :: st) h Q := WP_step dL_law_1232 rfl rfl rfl
theorem rL_law_1233 {d : Nat} {h : Hp} {Q : Option PV → Hp → Prop} {st : List PV}{ls : List (Option PV)}{a : Nat} {z : Int} : WP d mL_law 1233 ls (.inl z :: .inr (.inr a) :: st) h Q = ((hK h a).1 = 21 ∧ 0 ≤ z ∧ z < (hK h a).2 ∧ WP d mL_law 1234 ls (.inl (hI h a z.toNat) :: st) h Q) := R_iald dL_law_1233
theorem rL_law_1234 {d : Nat} {h : Hp} {Q : Option PV → Hp → Prop} {st : List PV}{t : List (Option PV)} {v : Nat} : WP d mL_law 1234 (some (.inr (.inr v)) :: t) st h Q = WP d mL_law 1235 (some (.inr (.inr v)) :: t) (.inr (.inr v) :: st) h Q := WP_step dL_law_1234 rfl rfl rfl
theorem rL_law_1235 {d : Nat} {h : Hp} {Q : Option PV → Hp → Prop} {st : List PV}{x0 x1 x2 : Option PV} {t : List (Option PV)} {v : Int} : WP d mL_law 1235 (x0 :: x1 :: x2 :: some (.inl v) :: t) st h Q = WP d mL_law 1236 (x0 :: x1 :: x2 :: some (.inl v) :: t) (.inl v :: st) h Q := WP_step dL_law_1235 rfl rfl rfl
theorem rL_law_1236 {d : Nat} {h : Hp} {Q : Option PV → Hp → Prop} {st : List PV}{ls : List (Option PV)} : WP d mL_law 1236 ls st h Q = WP d mL_law 1237 ls (.inl (2) :: st) h Q := WP_step dL_law_1236 rfl rfl rfl
theorem rL_law_1237 {d : Nat} {h : Hp} {Q : Option PV → Hp → Prop} {st : List PV}{ls : List (Option PV)}{a b : Int} : WP d mL_law 1237 ls (.inl b :: .inl a :: st) h Q = WP d mL_law 1238 ls (.inl (w32 (a + b)) :: st) h Q := WP_step dL_law_1237 rfl rfl rfl
theorem rL_law_1238 {d : Nat} {h : Hp} {Q : Option PV → Hp → Prop} {st : List PV}{ls : List (Option PV)}{a : Nat} {z : Int} : WP d mL_law 1238 ls (.inl z :: .inr (.inr a) :: st) h Q = ((hK h a).1 = 21 ∧ 0 ≤ z ∧ z < (hK h a).2 ∧ WP d mL_law 1239 ls (.inl (hI h a z.toNat) :: st) h Q) := R_iald dL_law_1238
theorem rL_law_1239 {d : Nat} {h : Hp} {Q : Option PV → Hp → Prop} {st : List PV}{t : List (Option PV)} {v : Nat} : WP d mL_law 1239 (some (.inr (.inr v)) :: t) st h Q = WP d mL_law 1240 (some (.inr (.inr v)) :: t) (.inr (.inr v) :: st) h Q := WP_step dL_law_1239 rfl rfl rfl
theorem rL_law_1240 {d : Nat} {h : Hp} {Q : Option PV → Hp → Prop} {st : List PV}{x0 x1 x2 : Option PV} {t : List (Option PV)} {v : Int} : WP d mL_law 1240 (x0 :: x1 :: x2 :: some (.inl v) :: t) st h Q = WP d mL_law 1241 (x0 :: x1 :: x2 :: some (.inl v) :: t) (.inl v :: st) h Q := WP_step dL_law_1240 rfl rfl rfl
theorem rL_law_1241 {d : Nat} {h : Hp} {Q : Option PV → Hp → Prop} {st : List PV}{ls : List (Option PV)} : WP d mL_law 1241 ls st h Q = WP d mL_law 1242 ls (.inl (3) :: st) h Q := WP_step dL_law_1241 rfl rfl rfl
theorem rL_law_1242 {d : Nat} {h : Hp} {Q : Option PV → Hp → Prop} {st : List PV}{ls : List (Option PV)}{a b : Int} : WP d mL_law 1242 ls (.inl b :: .inl a :: st) h Q = WP d mL_law 1243 ls (.inl (w32 (a + b)) :: st) h Q := WP_step dL_law_1242 rfl rfl rfl
theorem rL_law_1243 {d : Nat} {h : Hp} {Q : Option PV → Hp → Prop} {st : List PV}{ls : List (Option PV)}{a : Nat} {z : Int} : WP d mL_law 1243 ls (.inl z :: .inr (.inr a) :: st) h Q = ((hK h a).1 = 21 ∧ 0 ≤ z ∧ z < (hK h a).2 ∧ WP d mL_law 1244 ls (.inl (hI h a z.toNat) :: st) h Q) := R_iald dL_law_1243
theorem rL_law_1244 {d : Nat} {h : Hp} {Q : Option PV → Hp → Prop} {ls : List (Option PV)}{v0 : Nat} {v1 : Int} {v2 : Int} {v3 : Int} : WP (d + 1) mL_law 1244 ls (.inl v3 :: .inl v2 :: .inl v1 :: .inr (.inr v0) :: []) h Q = ((hK h v0).1 = 11 ∧ WP d mX11_best 0 [some (.inr (.inr v0)), some (.inl v1), some (.inl v2), some (.inl v3), none, none] [] h (fun r h' => WP (d + 1) mL_law 1247 ls (psh r []) h' Q)) := R_callV (st := .inl v3 :: .inl v2 :: .inl v1 :: .inr (.inr v0) :: []) (M := mL_law) (pc := 1244) (kd := 0) (n := 4) (M' := mX11_best) (as := [.inl v3, .inl v2, .inl v1, .inr (.inr v0)]) (rest := []) (en := [some (.inr (.inr v0)), some (.inl v1), some (.inl v2), some (.inl v3), none, none]) dL_law_1244 rfl (Nat.le_of_ble_eq_true rfl) (Nat.le_of_ble_eq_true rfl) rfl rfl (Nat.le_of_ble_eq_true rfl) rfl rfl rfl
theorem rL_law_1247 {d : Nat} {h : Hp} {Q : Option PV → Hp → Prop} {st : List PV}{x0 x1 : Option PV} {t : List (Option PV)} {v : Nat} : WP d mL_law 1247 (x0 :: x1 :: some (.inr (.inr v)) :: t) st h Q = WP d mL_law 1248 (x0 :: x1 :: some (.inr (.inr v)) :: t) (.inr (.inr v) :: st) h Q := WP_step dL_law_1247 rfl rfl rfl
theorem rL_law_1248 {d : Nat} {h : Hp} {Q : Option PV → Hp → Prop} {st : List PV}{t : List (Option PV)} {v : Nat} : WP d mL_law 1248 (some (.inr (.inr v)) :: t) st h Q = WP d mL_law 1249 (some (.inr (.inr v)) :: t) (.inr (.inr v) :: st) h Q := WP_step dL_law_1248 rfl rfl rfl
theorem rL_law_1249 {d : Nat} {h : Hp} {Q : Option PV → Hp → Prop} {st : List PV}{x0 x1 x2 : Option PV} {t : List (Option PV)} {v : Int} : WP d mL_law 1249 (x0 :: x1 :: x2 :: some (.inl v) :: t) st h Q = WP d mL_law 1250 (x0 :: x1 :: x2 :: some (.inl v) :: t) (.inl v :: st) h Q := WP_step dL_law_1249 rfl rfl rfl
theorem rL_law_1250 {d : Nat} {h : Hp} {Q : Option PV → Hp → Prop} {st : List PV}{ls : List (Option PV)} : WP d mL_law 1250 ls st h Q = WP d mL_law 1251 ls (.inl (1) :: st) h Q := WP_step dL_law_1250 rfl rfl rfl
theorem rL_law_1251 {d : Nat} {h : Hp} {Q : Option PV → Hp → Prop} {st : List PV}{ls : List (Option PV)}{a b : Int} : WP d mL_law 1251 ls (.inl b :: .inl a :: st) h Q = WP d mL_law 1252 ls (.inl (w32 (a + b)) :: st) h Q := WP_step dL_law_1251 rfl rfl rfl
theorem rL_law_1252 {d : Nat} {h : Hp} {Q : Option PV → Hp → Prop} {st : List PV}{ls : List (Option PV)}{a : Nat} {z : Int} : WP d mL_law 1252 ls (.inl z :: .inr (.inr a) :: st) h Q = ((hK h a).1 = 21 ∧ 0 ≤ z ∧ z < (hK h a).2 ∧ WP d mL_law 1253 ls (.inl (hI h a z.toNat) :: st) h Q) := R_iald dL_law_1252
theorem rL_law_1253 {d : Nat} {h : Hp} {Q : Option PV → Hp → Prop} {st : List PV}{t : List (Option PV)} {v : Nat} : WP d mL_law 1253 (some (.inr (.inr v)) :: t) st h Q = WP d mL_law 1254 (some (.inr (.inr v)) :: t) (.inr (.inr v) :: st) h Q := WP_step dL_law_1253 rfl rfl rfl
theorem rL_law_1254 {d : Nat} {h : Hp} {Q : Option PV → Hp → Prop} {st : List PV}{x0 x1 x2 : Option PV} {t : List (Option PV)} {v : Int} : WP d mL_law 1254 (x0 :: x1 :: x2 :: some (.inl v) :: t) st h Q = WP d mL_law 1255 (x0 :: x1 :: x2 :: some (.inl v) :: t) (.inl v :: st) h Q := WP_step dL_law_1254 rfl rfl rfl
theorem rL_law_1255 {d : Nat} {h : Hp} {Q : Option PV → Hp → Prop} {st : List PV}{ls : List (Option PV)} : WP d mL_law 1255 ls st h Q = WP d mL_law 1256 ls (.inl (2) :: st) h Q := WP_step dL_law_1255 rfl rfl rfl
theorem rL_law_1256 {d : Nat} {h : Hp} {Q : Option PV → Hp → Prop} {st : List PV}{ls : List (Option PV)}{a b : Int} : WP d mL_law 1256 ls (.inl b :: .inl a :: st) h Q = WP d mL_law 1257 ls (.inl (w32 (a + b)) :: st) h Q := WP_step dL_law_1256 rfl rfl rfl
theorem rL_law_1257 {d : Nat} {h : Hp} {Q : Option PV → Hp → Prop} {st : List PV}{ls : List (Option PV)}{a : Nat} {z : Int} : WP d mL_law 1257 ls (.inl z :: .inr (.inr a) :: st) h Q = ((hK h a).1 = 21 ∧ 0 ≤ z ∧ z < (hK h a).2 ∧ WP d mL_law 1258 ls (.inl (hI h a z.toNat) :: st) h Q) := R_iald dL_law_1257
theorem rL_law_1258 {d : Nat} {h : Hp} {Q : Option PV → Hp → Prop} {st : List PV}{t : List (Option PV)} {v : Nat} : WP d mL_law 1258 (some (.inr (.inr v)) :: t) st h Q = WP d mL_law 1259 (some (.inr (.inr v)) :: t) (.inr (.inr v) :: st) h Q := WP_step dL_law_1258 rfl rfl rfl
theorem rL_law_1259 {d : Nat} {h : Hp} {Q : Option PV → Hp → Prop} {st : List PV}{x0 x1 x2 : Option PV} {t : List (Option PV)} {v : Int} : WP d mL_law 1259 (x0 :: x1 :: x2 :: some (.inl v) :: t) st h Q = WP d mL_law 1260 (x0 :: x1 :: x2 :: some (.inl v) :: t) (.inl v :: st) h Q := WP_step dL_law_1259 rfl rfl rfl
theorem rL_law_1260 {d : Nat} {h : Hp} {Q : Option PV → Hp → Prop} {st : List PV}{ls : List (Option PV)} : WP d mL_law 1260 ls st h Q = WP d mL_law 1261 ls (.inl (3) :: st) h Q := WP_step dL_law_1260 rfl rfl rfl
theorem rL_law_1261 {d : Nat} {h : Hp} {Q : Option PV → Hp → Prop} {st : List PV}{ls : List (Option PV)}{a b : Int} : WP d mL_law 1261 ls (.inl b :: .inl a :: st) h Q = WP d mL_law 1262 ls (.inl (w32 (a + b)) :: st) h Q := WP_step dL_law_1261 rfl rfl rfl
theorem rL_law_1262 {d : Nat} {h : Hp} {Q : Option PV → Hp → Prop} {st : List PV}{ls : List (Option PV)}{a : Nat} {z : Int} : WP d mL_law 1262 ls (.inl z :: .inr (.inr a) :: st) h Q = ((hK h a).1 = 21 ∧ 0 ≤ z ∧ z < (hK h a).2 ∧ WP d mL_law 1263 ls (.inl (hI h a z.toNat) :: st) h Q) := R_iald dL_law_1262
theorem rL_law_1263 {d : Nat} {h : Hp} {Q : Option PV → Hp → Prop} {ls : List (Option PV)}{r0 : PV}{v0 : Nat} {v1 : Int} {v2 : Int} {v3 : Int} : WP (d + 1) mL_law 1263 ls (.inl v3 :: .inl v2 :: .inl v1 :: .inr (.inr v0) :: [r0]) h Q = ((hK h v0).1 = 12 ∧ WP d mX12_best 0 [some (.inr (.inr v0)), some (.inl v1), some (.inl v2), some (.inl v3), none, none, none] [] h (fun r h' => WP (d + 1) mL_law 1266 ls (psh r [r0]) h' Q)) := R_callV (st := .inl v3 :: .inl v2 :: .inl v1 :: .inr (.inr v0) :: [r0]) (M := mL_law) (pc := 1263) (kd := 0) (n := 4) (M' := mX12_best) (as := [.inl v3, .inl v2, .inl v1, .inr (.inr v0)]) (rest := [r0]) (en := [some (.inr (.inr v0)), some (.inl v1), some (.inl v2), some (.inl v3), none, none, none]) dL_law_1263 rfl (Nat.le_of_ble_eq_true rfl) (Nat.le_of_ble_eq_true rfl) rfl rfl (Nat.le_of_ble_eq_true rfl) rfl rfl rfl
theorem rL_law_1266 {d : Nat} {h : Hp} {Q : Option PV → Hp → Prop} {st : List PV}{ls : List (Option PV)}{a b : Int} : WP d mL_law 1266 ls (.inl b :: .inl a :: st) h Q = (if a = b then WP d mL_law 1600 ls st h Q else WP d mL_law 1269 ls st h Q) := R_icmp_eq dL_law_1266 (by decide)
theorem rL_law_1269 {d : Nat} {h : Hp} {Q : Option PV → Hp → Prop} {st : List PV}{ls : List (Option PV)} : WP d mL_law 1269 ls st h Q = WP d mL_law 1270 ls (.inl (0) :: st) h Q := WP_step dL_law_1269 rfl rfl rfl
theorem rL_law_1270 {d : Nat} {h : Hp} {Q : Option PV → Hp → Prop} {ls : List (Option PV)}{z : Int} : WP d mL_law 1270 ls [.inl z] h Q = ((z = 0 ∨ z = 1) ∧ Q (some (.inl z)) h) := R_zret dL_law_1270 rfl
theorem rL_law_1271 {d : Nat} {h : Hp} {Q : Option PV → Hp → Prop} {st : List PV}{x0 : Option PV} {t : List (Option PV)} {v : Nat} : WP d mL_law 1271 (x0 :: some (.inr (.inr v)) :: t) st h Q = WP d mL_law 1272 (x0 :: some (.inr (.inr v)) :: t) (.inr (.inr v) :: st) h Q := WP_step dL_law_1271 rfl rfl rfl
theorem rL_law_1272 {d : Nat} {h : Hp} {Q : Option PV → Hp → Prop} {st : List PV}{t : List (Option PV)} {v : Nat} : WP d mL_law 1272 (some (.inr (.inr v)) :: t) st h Q = WP d mL_law 1273 (some (.inr (.inr v)) :: t) (.inr (.inr v) :: st) h Q := WP_step dL_law_1272 rfl rfl rfl
theorem rL_law_1273 {d : Nat} {h : Hp} {Q : Option PV → Hp → Prop} {st : List PV}{x0 x1 x2 : Option PV} {t : List (Option PV)} {v : Int} : WP d mL_law 1273 (x0 :: x1 :: x2 :: some (.inl v) :: t) st h Q = WP d mL_law 1274 (x0 :: x1 :: x2 :: some (.inl v) :: t) (.inl v :: st) h Q := WP_step dL_law_1273 rfl rfl rfl
theorem rL_law_1274 {d : Nat} {h : Hp} {Q : Option PV → Hp → Prop} {st : List PV}{ls : List (Option PV)} : WP d mL_law 1274 ls st h Q = WP d mL_law 1275 ls (.inl (1) :: st) h Q := WP_step dL_law_1274 rfl rfl rfl
theorem rL_law_1275 {d : Nat} {h : Hp} {Q : Option PV → Hp → Prop} {st : List PV}{ls : List (Option PV)}{a b : Int} : WP d mL_law 1275 ls (.inl b :: .inl a :: st) h Q = WP d mL_law 1276 ls (.inl (w32 (a + b)) :: st) h Q := WP_step dL_law_1275 rfl rfl rfl
theorem rL_law_1276 {d : Nat} {h : Hp} {Q : Option PV → Hp → Prop} {st : List PV}{ls : List (Option PV)}{a : Nat} {z : Int} : WP d mL_law 1276 ls (.inl z :: .inr (.inr a) :: st) h Q = ((hK h a).1 = 21 ∧ 0 ≤ z ∧ z < (hK h a).2 ∧ WP d mL_law 1277 ls (.inl (hI h a z.toNat) :: st) h Q) := R_iald dL_law_1276
theorem rL_law_1277 {d : Nat} {h : Hp} {Q : Option PV → Hp → Prop} {st : List PV}{t : List (Option PV)} {v : Nat} : WP d mL_law 1277 (some (.inr (.inr v)) :: t) st h Q = WP d mL_law 1278 (some (.inr (.inr v)) :: t) (.inr (.inr v) :: st) h Q := WP_step dL_law_1277 rfl rfl rfl
theorem rL_law_1278 {d : Nat} {h : Hp} {Q : Option PV → Hp → Prop} {st : List PV}{x0 x1 x2 : Option PV} {t : List (Option PV)} {v : Int} : WP d mL_law 1278 (x0 :: x1 :: x2 :: some (.inl v) :: t) st h Q = WP d mL_law 1279 (x0 :: x1 :: x2 :: some (.inl v) :: t) (.inl v :: st) h Q := WP_step dL_law_1278 rfl rfl rfl
theorem rL_law_1279 {d : Nat} {h : Hp} {Q : Option PV → Hp → Prop} {st : List PV}{ls : List (Option PV)} : WP d mL_law 1279 ls st h Q = WP d mL_law 1280 ls (.inl (2) :: st) h Q := WP_step dL_law_1279 rfl rfl rfl
theorem rL_law_1280 {d : Nat} {h : Hp} {Q : Option PV → Hp → Prop} {st : List PV}{ls : List (Option PV)}{a b : Int} : WP d mL_law 1280 ls (.inl b :: .inl a :: st) h Q = WP d mL_law 1281 ls (.inl (w32 (a + b)) :: st) h Q := WP_step dL_law_1280 rfl rfl rfl
theorem rL_law_1281 {d : Nat} {h : Hp} {Q : Option PV → Hp → Prop} {st : List PV}{ls : List (Option PV)}{a : Nat} {z : Int} : WP d mL_law 1281 ls (.inl z :: .inr (.inr a) :: st) h Q = ((hK h a).1 = 21 ∧ 0 ≤ z ∧ z < (hK h a).2 ∧ WP d mL_law 1282 ls (.inl (hI h a z.toNat) :: st) h Q) := R_iald dL_law_1281
theorem rL_law_1282 {d : Nat} {h : Hp} {Q : Option PV → Hp → Prop} {ls : List (Option PV)}{v0 : Nat} {v1 : Int} {v2 : Int} : WP (d + 1) mL_law 1282 ls (.inl v2 :: .inl v1 :: .inr (.inr v0) :: []) h Q = ((hK h v0).1 = 11 ∧ WP d mX11_power 0 [some (.inr (.inr v0)), some (.inl v1), some (.inl v2), none, none, none] [] h (fun r h' => WP (d + 1) mL_law 1285 ls (psh r []) h' Q)) := R_callV (st := .inl v2 :: .inl v1 :: .inr (.inr v0) :: []) (M := mL_law) (pc := 1282) (kd := 0) (n := 3) (M' := mX11_power) (as := [.inl v2, .inl v1, .inr (.inr v0)]) (rest := []) (en := [some (.inr (.inr v0)), some (.inl v1), some (.inl v2), none, none, none]) dL_law_1282 rfl (Nat.le_of_ble_eq_true rfl) (Nat.le_of_ble_eq_true rfl) rfl rfl (Nat.le_of_ble_eq_true rfl) rfl rfl rfl
theorem rL_law_1285 {d : Nat} {h : Hp} {Q : Option PV → Hp → Prop} {st : List PV}{x0 x1 : Option PV} {t : List (Option PV)} {v : Nat} : WP d mL_law 1285 (x0 :: x1 :: some (.inr (.inr v)) :: t) st h Q = WP d mL_law 1286 (x0 :: x1 :: some (.inr (.inr v)) :: t) (.inr (.inr v) :: st) h Q := WP_step dL_law_1285 rfl rfl rfl
theorem rL_law_1286 {d : Nat} {h : Hp} {Q : Option PV → Hp → Prop} {st : List PV}{t : List (Option PV)} {v : Nat} : WP d mL_law 1286 (some (.inr (.inr v)) :: t) st h Q = WP d mL_law 1287 (some (.inr (.inr v)) :: t) (.inr (.inr v) :: st) h Q := WP_step dL_law_1286 rfl rfl rfl
theorem rL_law_1287 {d : Nat} {h : Hp} {Q : Option PV → Hp → Prop} {st : List PV}{x0 x1 x2 : Option PV} {t : List (Option PV)} {v : Int} : WP d mL_law 1287 (x0 :: x1 :: x2 :: some (.inl v) :: t) st h Q = WP d mL_law 1288 (x0 :: x1 :: x2 :: some (.inl v) :: t) (.inl v :: st) h Q := WP_step dL_law_1287 rfl rfl rfl
theorem rL_law_1288 {d : Nat} {h : Hp} {Q : Option PV → Hp → Prop} {st : List PV}{ls : List (Option PV)} : WP d mL_law 1288 ls st h Q = WP d mL_law 1289 ls (.inl (1) :: st) h Q := WP_step dL_law_1288 rfl rfl rfl
theorem rL_law_1289 {d : Nat} {h : Hp} {Q : Option PV → Hp → Prop} {st : List PV}{ls : List (Option PV)}{a b : Int} : WP d mL_law 1289 ls (.inl b :: .inl a :: st) h Q = WP d mL_law 1290 ls (.inl (w32 (a + b)) :: st) h Q := WP_step dL_law_1289 rfl rfl rfl
theorem rL_law_1290 {d : Nat} {h : Hp} {Q : Option PV → Hp → Prop} {st : List PV}{ls : List (Option PV)}{a : Nat} {z : Int} : WP d mL_law 1290 ls (.inl z :: .inr (.inr a) :: st) h Q = ((hK h a).1 = 21 ∧ 0 ≤ z ∧ z < (hK h a).2 ∧ WP d mL_law 1291 ls (.inl (hI h a z.toNat) :: st) h Q) := R_iald dL_law_1290
theorem rL_law_1291 {d : Nat} {h : Hp} {Q : Option PV → Hp → Prop} {st : List PV}{t : List (Option PV)} {v : Nat} : WP d mL_law 1291 (some (.inr (.inr v)) :: t) st h Q = WP d mL_law 1292 (some (.inr (.inr v)) :: t) (.inr (.inr v) :: st) h Q := WP_step dL_law_1291 rfl rfl rfl
theorem rL_law_1292 {d : Nat} {h : Hp} {Q : Option PV → Hp → Prop} {st : List PV}{x0 x1 x2 : Option PV} {t : List (Option PV)} {v : Int} : WP d mL_law 1292 (x0 :: x1 :: x2 :: some (.inl v) :: t) st h Q = WP d mL_law 1293 (x0 :: x1 :: x2 :: some (.inl v) :: t) (.inl v :: st) h Q := WP_step dL_law_1292 rfl rfl rfl
theorem rL_law_1293 {d : Nat} {h : Hp} {Q : Option PV → Hp → Prop} {st : List PV}{ls : List (Option PV)} : WP d mL_law 1293 ls st h Q = WP d mL_law 1294 ls (.inl (2) :: st) h Q := WP_step dL_law_1293 rfl rfl rfl
theorem rL_law_1294 {d : Nat} {h : Hp} {Q : Option PV → Hp → Prop} {st : List PV}{ls : List (Option PV)}{a b : Int} : WP d mL_law 1294 ls (.inl b :: .inl a :: st) h Q = WP d mL_law 1295 ls (.inl (w32 (a + b)) :: st) h Q := WP_step dL_law_1294 rfl rfl rfl
theorem rL_law_1295 {d : Nat} {h : Hp} {Q : Option PV → Hp → Prop} {st : List PV}{ls : List (Option PV)}{a : Nat} {z : Int} : WP d mL_law 1295 ls (.inl z :: .inr (.inr a) :: st) h Q = ((hK h a).1 = 21 ∧ 0 ≤ z ∧ z < (hK h a).2 ∧ WP d mL_law 1296 ls (.inl (hI h a z.toNat) :: st) h Q) := R_iald dL_law_1295
theorem rL_law_1296 {d : Nat} {h : Hp} {Q : Option PV → Hp → Prop} {ls : List (Option PV)}{r0 : PV}{v0 : Nat} {v1 : Int} {v2 : Int} : WP (d + 1) mL_law 1296 ls (.inl v2 :: .inl v1 :: .inr (.inr v0) :: [r0]) h Q = ((hK h v0).1 = 12 ∧ WP d mX12_power 0 [some (.inr (.inr v0)), some (.inl v1), some (.inl v2), none, none] [] h (fun r h' => WP (d + 1) mL_law 1299 ls (psh r [r0]) h' Q)) := R_callV (st := .inl v2 :: .inl v1 :: .inr (.inr v0) :: [r0]) (M := mL_law) (pc := 1296) (kd := 0) (n := 3) (M' := mX12_power) (as := [.inl v2, .inl v1, .inr (.inr v0)]) (rest := [r0]) (en := [some (.inr (.inr v0)), some (.inl v1), some (.inl v2), none, none]) dL_law_1296 rfl (Nat.le_of_ble_eq_true rfl) (Nat.le_of_ble_eq_true rfl) rfl rfl (Nat.le_of_ble_eq_true rfl) rfl rfl rfl
theorem rL_law_1299 {d : Nat} {h : Hp} {Q : Option PV → Hp → Prop} {st : List PV}{ls : List (Option PV)}{a b : Int} : WP d mL_law 1299 ls (.inl b :: .inl a :: st) h Q = (if a = b then WP d mL_law 1600 ls st h Q else WP d mL_law 1302 ls st h Q) := R_icmp_eq dL_law_1299 (by decide)
theorem rL_law_1302 {d : Nat} {h : Hp} {Q : Option PV → Hp → Prop} {st : List PV}{ls : List (Option PV)} : WP d mL_law 1302 ls st h Q = WP d mL_law 1303 ls (.inl (0) :: st) h Q := WP_step dL_law_1302 rfl rfl rfl
theorem rL_law_1303 {d : Nat} {h : Hp} {Q : Option PV → Hp → Prop} {ls : List (Option PV)}{z : Int} : WP d mL_law 1303 ls [.inl z] h Q = ((z = 0 ∨ z = 1) ∧ Q (some (.inl z)) h) := R_zret dL_law_1303 rfl
theorem rL_law_1304 {d : Nat} {h : Hp} {Q : Option PV → Hp → Prop} {st : List PV}{x0 : Option PV} {t : List (Option PV)} {v : Nat} : WP d mL_law 1304 (x0 :: some (.inr (.inr v)) :: t) st h Q = WP d mL_law 1305 (x0 :: some (.inr (.inr v)) :: t) (.inr (.inr v) :: st) h Q := WP_step dL_law_1304 rfl rfl rfl
theorem rL_law_1305 {d : Nat} {h : Hp} {Q : Option PV → Hp → Prop} {st : List PV}{t : List (Option PV)} {v : Nat} : WP d mL_law 1305 (some (.inr (.inr v)) :: t) st h Q = WP d mL_law 1306 (some (.inr (.inr v)) :: t) (.inr (.inr v) :: st) h Q := WP_step dL_law_1305 rfl rfl rfl
theorem rL_law_1306 {d : Nat} {h : Hp} {Q : Option PV → Hp → Prop} {st : List PV}{x0 x1 x2 : Option PV} {t : List (Option PV)} {v : Int} : WP d mL_law 1306 (x0 :: x1 :: x2 :: some (.inl v) :: t) st h Q = WP d mL_law 1307 (x0 :: x1 :: x2 :: some (.inl v) :: t) (.inl v :: st) h Q := WP_step dL_law_1306 rfl rfl rfl
theorem rL_law_1307 {d : Nat} {h : Hp} {Q : Option PV → Hp → Prop} {st : List PV}{ls : List (Option PV)} : WP d mL_law 1307 ls st h Q = WP d mL_law 1308 ls (.inl (1) :: st) h Q := WP_step dL_law_1307 rfl rfl rfl
theorem rL_law_1308 {d : Nat} {h : Hp} {Q : Option PV → Hp → Prop} {st : List PV}{ls : List (Option PV)}{a b : Int} : WP d mL_law 1308 ls (.inl b :: .inl a :: st) h Q = WP d mL_law 1309 ls (.inl (w32 (a + b)) :: st) h Q := WP_step dL_law_1308 rfl rfl rfl
theorem rL_law_1309 {d : Nat} {h : Hp} {Q : Option PV → Hp → Prop} {st : List PV}{ls : List (Option PV)}{a : Nat} {z : Int} : WP d mL_law 1309 ls (.inl z :: .inr (.inr a) :: st) h Q = ((hK h a).1 = 21 ∧ 0 ≤ z ∧ z < (hK h a).2 ∧ WP d mL_law 1310 ls (.inl (hI h a z.toNat) :: st) h Q) := R_iald dL_law_1309
theorem rL_law_1310 {d : Nat} {h : Hp} {Q : Option PV → Hp → Prop} {st : List PV}{t : List (Option PV)} {v : Nat} : WP d mL_law 1310 (some (.inr (.inr v)) :: t) st h Q = WP d mL_law 1311 (some (.inr (.inr v)) :: t) (.inr (.inr v) :: st) h Q := WP_step dL_law_1310 rfl rfl rfl
theorem rL_law_1311 {d : Nat} {h : Hp} {Q : Option PV → Hp → Prop} {st : List PV}{x0 x1 x2 : Option PV} {t : List (Option PV)} {v : Int} : WP d mL_law 1311 (x0 :: x1 :: x2 :: some (.inl v) :: t) st h Q = WP d mL_law 1312 (x0 :: x1 :: x2 :: some (.inl v) :: t) (.inl v :: st) h Q := WP_step dL_law_1311 rfl rfl rfl
theorem rL_law_1312 {d : Nat} {h : Hp} {Q : Option PV → Hp → Prop} {st : List PV}{ls : List (Option PV)} : WP d mL_law 1312 ls st h Q = WP d mL_law 1313 ls (.inl (2) :: st) h Q := WP_step dL_law_1312 rfl rfl rfl
theorem rL_law_1313 {d : Nat} {h : Hp} {Q : Option PV → Hp → Prop} {st : List PV}{ls : List (Option PV)}{a b : Int} : WP d mL_law 1313 ls (.inl b :: .inl a :: st) h Q = WP d mL_law 1314 ls (.inl (w32 (a + b)) :: st) h Q := WP_step dL_law_1313 rfl rfl rfl
theorem rL_law_1314 {d : Nat} {h : Hp} {Q : Option PV → Hp → Prop} {st : List PV}{ls : List (Option PV)}{a : Nat} {z : Int} : WP d mL_law 1314 ls (.inl z :: .inr (.inr a) :: st) h Q = ((hK h a).1 = 21 ∧ 0 ≤ z ∧ z < (hK h a).2 ∧ WP d mL_law 1315 ls (.inl (hI h a z.toNat) :: st) h Q) := R_iald dL_law_1314
theorem rL_law_1315 {d : Nat} {h : Hp} {Q : Option PV → Hp → Prop} {st : List PV}{t : List (Option PV)} {v : Nat} : WP d mL_law 1315 (some (.inr (.inr v)) :: t) st h Q = WP d mL_law 1316 (some (.inr (.inr v)) :: t) (.inr (.inr v) :: st) h Q := WP_step dL_law_1315 rfl rfl rfl
theorem rL_law_1316 {d : Nat} {h : Hp} {Q : Option PV → Hp → Prop} {st : List PV}{x0 x1 x2 : Option PV} {t : List (Option PV)} {v : Int} : WP d mL_law 1316 (x0 :: x1 :: x2 :: some (.inl v) :: t) st h Q = WP d mL_law 1317 (x0 :: x1 :: x2 :: some (.inl v) :: t) (.inl v :: st) h Q := WP_step dL_law_1316 rfl rfl rfl
theorem rL_law_1317 {d : Nat} {h : Hp} {Q : Option PV → Hp → Prop} {st : List PV}{ls : List (Option PV)} : WP d mL_law 1317 ls st h Q = WP d mL_law 1318 ls (.inl (3) :: st) h Q := WP_step dL_law_1317 rfl rfl rfl
theorem rL_law_1318 {d : Nat} {h : Hp} {Q : Option PV → Hp → Prop} {st : List PV}{ls : List (Option PV)}{a b : Int} : WP d mL_law 1318 ls (.inl b :: .inl a :: st) h Q = WP d mL_law 1319 ls (.inl (w32 (a + b)) :: st) h Q := WP_step dL_law_1318 rfl rfl rfl
theorem rL_law_1319 {d : Nat} {h : Hp} {Q : Option PV → Hp → Prop} {st : List PV}{ls : List (Option PV)}{a : Nat} {z : Int} : WP d mL_law 1319 ls (.inl z :: .inr (.inr a) :: st) h Q = ((hK h a).1 = 21 ∧ 0 ≤ z ∧ z < (hK h a).2 ∧ WP d mL_law 1320 ls (.inl (hI h a z.toNat) :: st) h Q) := R_iald dL_law_1319
theorem rL_law_1320 {d : Nat} {h : Hp} {Q : Option PV → Hp → Prop} {ls : List (Option PV)}{v0 : Nat} {v1 : Int} {v2 : Int} {v3 : Int} : WP (d + 1) mL_law 1320 ls (.inl v3 :: .inl v2 :: .inl v1 :: .inr (.inr v0) :: []) h Q = ((hK h v0).1 = 11 ∧ WP d mX11_chance 0 [some (.inr (.inr v0)), some (.inl v1), some (.inl v2), some (.inl v3), none, none, none, none, none, none, none] [] h (fun r h' => WP (d + 1) mL_law 1323 ls (psh r []) h' Q)) := R_callV (st := .inl v3 :: .inl v2 :: .inl v1 :: .inr (.inr v0) :: []) (M := mL_law) (pc := 1320) (kd := 0) (n := 4) (M' := mX11_chance) (as := [.inl v3, .inl v2, .inl v1, .inr (.inr v0)]) (rest := []) (en := [some (.inr (.inr v0)), some (.inl v1), some (.inl v2), some (.inl v3), none, none, none, none, none, none, none]) dL_law_1320 rfl (Nat.le_of_ble_eq_true rfl) (Nat.le_of_ble_eq_true rfl) rfl rfl (Nat.le_of_ble_eq_true rfl) rfl rfl rfl
theorem rL_law_1323 {d : Nat} {h : Hp} {Q : Option PV → Hp → Prop} {st : List PV}{x0 x1 : Option PV} {t : List (Option PV)} {v : Nat} : WP d mL_law 1323 (x0 :: x1 :: some (.inr (.inr v)) :: t) st h Q = WP d mL_law 1324 (x0 :: x1 :: some (.inr (.inr v)) :: t) (.inr (.inr v) :: st) h Q := WP_step dL_law_1323 rfl rfl rfl
theorem rL_law_1324 {d : Nat} {h : Hp} {Q : Option PV → Hp → Prop} {st : List PV}{t : List (Option PV)} {v : Nat} : WP d mL_law 1324 (some (.inr (.inr v)) :: t) st h Q = WP d mL_law 1325 (some (.inr (.inr v)) :: t) (.inr (.inr v) :: st) h Q := WP_step dL_law_1324 rfl rfl rfl
theorem rL_law_1325 {d : Nat} {h : Hp} {Q : Option PV → Hp → Prop} {st : List PV}{x0 x1 x2 : Option PV} {t : List (Option PV)} {v : Int} : WP d mL_law 1325 (x0 :: x1 :: x2 :: some (.inl v) :: t) st h Q = WP d mL_law 1326 (x0 :: x1 :: x2 :: some (.inl v) :: t) (.inl v :: st) h Q := WP_step dL_law_1325 rfl rfl rfl
theorem rL_law_1326 {d : Nat} {h : Hp} {Q : Option PV → Hp → Prop} {st : List PV}{ls : List (Option PV)} : WP d mL_law 1326 ls st h Q = WP d mL_law 1327 ls (.inl (1) :: st) h Q := WP_step dL_law_1326 rfl rfl rfl
theorem rL_law_1327 {d : Nat} {h : Hp} {Q : Option PV → Hp → Prop} {st : List PV}{ls : List (Option PV)}{a b : Int} : WP d mL_law 1327 ls (.inl b :: .inl a :: st) h Q = WP d mL_law 1328 ls (.inl (w32 (a + b)) :: st) h Q := WP_step dL_law_1327 rfl rfl rfl
theorem rL_law_1328 {d : Nat} {h : Hp} {Q : Option PV → Hp → Prop} {st : List PV}{ls : List (Option PV)}{a : Nat} {z : Int} : WP d mL_law 1328 ls (.inl z :: .inr (.inr a) :: st) h Q = ((hK h a).1 = 21 ∧ 0 ≤ z ∧ z < (hK h a).2 ∧ WP d mL_law 1329 ls (.inl (hI h a z.toNat) :: st) h Q) := R_iald dL_law_1328
theorem rL_law_1329 {d : Nat} {h : Hp} {Q : Option PV → Hp → Prop} {st : List PV}{t : List (Option PV)} {v : Nat} : WP d mL_law 1329 (some (.inr (.inr v)) :: t) st h Q = WP d mL_law 1330 (some (.inr (.inr v)) :: t) (.inr (.inr v) :: st) h Q := WP_step dL_law_1329 rfl rfl rfl
theorem rL_law_1330 {d : Nat} {h : Hp} {Q : Option PV → Hp → Prop} {st : List PV}{x0 x1 x2 : Option PV} {t : List (Option PV)} {v : Int} : WP d mL_law 1330 (x0 :: x1 :: x2 :: some (.inl v) :: t) st h Q = WP d mL_law 1331 (x0 :: x1 :: x2 :: some (.inl v) :: t) (.inl v :: st) h Q := WP_step dL_law_1330 rfl rfl rfl
theorem rL_law_1331 {d : Nat} {h : Hp} {Q : Option PV → Hp → Prop} {st : List PV}{ls : List (Option PV)} : WP d mL_law 1331 ls st h Q = WP d mL_law 1332 ls (.inl (2) :: st) h Q := WP_step dL_law_1331 rfl rfl rfl
theorem rL_law_1332 {d : Nat} {h : Hp} {Q : Option PV → Hp → Prop} {st : List PV}{ls : List (Option PV)}{a b : Int} : WP d mL_law 1332 ls (.inl b :: .inl a :: st) h Q = WP d mL_law 1333 ls (.inl (w32 (a + b)) :: st) h Q := WP_step dL_law_1332 rfl rfl rfl
theorem rL_law_1333 {d : Nat} {h : Hp} {Q : Option PV → Hp → Prop} {st : List PV}{ls : List (Option PV)}{a : Nat} {z : Int} : WP d mL_law 1333 ls (.inl z :: .inr (.inr a) :: st) h Q = ((hK h a).1 = 21 ∧ 0 ≤ z ∧ z < (hK h a).2 ∧ WP d mL_law 1334 ls (.inl (hI h a z.toNat) :: st) h Q) := R_iald dL_law_1333
theorem rL_law_1334 {d : Nat} {h : Hp} {Q : Option PV → Hp → Prop} {st : List PV}{t : List (Option PV)} {v : Nat} : WP d mL_law 1334 (some (.inr (.inr v)) :: t) st h Q = WP d mL_law 1335 (some (.inr (.inr v)) :: t) (.inr (.inr v) :: st) h Q := WP_step dL_law_1334 rfl rfl rfl
theorem rL_law_1335 {d : Nat} {h : Hp} {Q : Option PV → Hp → Prop} {st : List PV}{x0 x1 x2 : Option PV} {t : List (Option PV)} {v : Int} : WP d mL_law 1335 (x0 :: x1 :: x2 :: some (.inl v) :: t) st h Q = WP d mL_law 1336 (x0 :: x1 :: x2 :: some (.inl v) :: t) (.inl v :: st) h Q := WP_step dL_law_1335 rfl rfl rfl
theorem rL_law_1336 {d : Nat} {h : Hp} {Q : Option PV → Hp → Prop} {st : List PV}{ls : List (Option PV)} : WP d mL_law 1336 ls st h Q = WP d mL_law 1337 ls (.inl (3) :: st) h Q := WP_step dL_law_1336 rfl rfl rfl
theorem rL_law_1337 {d : Nat} {h : Hp} {Q : Option PV → Hp → Prop} {st : List PV}{ls : List (Option PV)}{a b : Int} : WP d mL_law 1337 ls (.inl b :: .inl a :: st) h Q = WP d mL_law 1338 ls (.inl (w32 (a + b)) :: st) h Q := WP_step dL_law_1337 rfl rfl rfl
theorem rL_law_1338 {d : Nat} {h : Hp} {Q : Option PV → Hp → Prop} {st : List PV}{ls : List (Option PV)}{a : Nat} {z : Int} : WP d mL_law 1338 ls (.inl z :: .inr (.inr a) :: st) h Q = ((hK h a).1 = 21 ∧ 0 ≤ z ∧ z < (hK h a).2 ∧ WP d mL_law 1339 ls (.inl (hI h a z.toNat) :: st) h Q) := R_iald dL_law_1338
theorem rL_law_1339 {d : Nat} {h : Hp} {Q : Option PV → Hp → Prop} {ls : List (Option PV)}{r0 : PV}{v0 : Nat} {v1 : Int} {v2 : Int} {v3 : Int} : WP (d + 1) mL_law 1339 ls (.inl v3 :: .inl v2 :: .inl v1 :: .inr (.inr v0) :: [r0]) h Q = ((hK h v0).1 = 12 ∧ WP d mX12_chance 0 [some (.inr (.inr v0)), some (.inl v1), some (.inl v2), some (.inl v3), none, none, none, none] [] h (fun r h' => WP (d + 1) mL_law 1342 ls (psh r [r0]) h' Q)) := R_callV (st := .inl v3 :: .inl v2 :: .inl v1 :: .inr (.inr v0) :: [r0]) (M := mL_law) (pc := 1339) (kd := 0) (n := 4) (M' := mX12_chance) (as := [.inl v3, .inl v2, .inl v1, .inr (.inr v0)]) (rest := [r0]) (en := [some (.inr (.inr v0)), some (.inl v1), some (.inl v2), some (.inl v3), none, none, none, none]) dL_law_1339 rfl (Nat.le_of_ble_eq_true rfl) (Nat.le_of_ble_eq_true rfl) rfl rfl (Nat.le_of_ble_eq_true rfl) rfl rfl rfl
theorem rL_law_1342 {d : Nat} {h : Hp} {Q : Option PV → Hp → Prop} {st : List PV}{ls : List (Option PV)}{a b : Int} : WP d mL_law 1342 ls (.inr (.inl b) :: .inr (.inl a) :: st) h Q = WP d mL_law 1343 ls (.inl (lcm a b) :: st) h Q := WP_step dL_law_1342 rfl rfl rfl
theorem rL_law_1343 {d : Nat} {h : Hp} {Q : Option PV → Hp → Prop} {st : List PV}{ls : List (Option PV)}{a : Int} : WP d mL_law 1343 ls (.inl a :: st) h Q = (if a = 0 then WP d mL_law 1600 ls st h Q else WP d mL_law 1346 ls st h Q) := R_if_eq dL_law_1343 (by decide)
theorem rL_law_1346 {d : Nat} {h : Hp} {Q : Option PV → Hp → Prop} {st : List PV}{ls : List (Option PV)} : WP d mL_law 1346 ls st h Q = WP d mL_law 1347 ls (.inl (0) :: st) h Q := WP_step dL_law_1346 rfl rfl rfl
theorem rL_law_1347 {d : Nat} {h : Hp} {Q : Option PV → Hp → Prop} {ls : List (Option PV)}{z : Int} : WP d mL_law 1347 ls [.inl z] h Q = ((z = 0 ∨ z = 1) ∧ Q (some (.inl z)) h) := R_zret dL_law_1347 rfl
theorem rL_law_1348 {d : Nat} {h : Hp} {Q : Option PV → Hp → Prop} {st : List PV}{x0 : Option PV} {t : List (Option PV)} {v : Nat} : WP d mL_law 1348 (x0 :: some (.inr (.inr v)) :: t) st h Q = WP d mL_law 1349 (x0 :: some (.inr (.inr v)) :: t) (.inr (.inr v) :: st) h Q := WP_step dL_law_1348 rfl rfl rfl
theorem rL_law_1349 {d : Nat} {h : Hp} {Q : Option PV → Hp → Prop} {st : List PV}{t : List (Option PV)} {v : Nat} : WP d mL_law 1349 (some (.inr (.inr v)) :: t) st h Q = WP d mL_law 1350 (some (.inr (.inr v)) :: t) (.inr (.inr v) :: st) h Q := WP_step dL_law_1349 rfl rfl rfl
theorem rL_law_1350 {d : Nat} {h : Hp} {Q : Option PV → Hp → Prop} {st : List PV}{x0 x1 x2 : Option PV} {t : List (Option PV)} {v : Int} : WP d mL_law 1350 (x0 :: x1 :: x2 :: some (.inl v) :: t) st h Q = WP d mL_law 1351 (x0 :: x1 :: x2 :: some (.inl v) :: t) (.inl v :: st) h Q := WP_step dL_law_1350 rfl rfl rfl
theorem rL_law_1351 {d : Nat} {h : Hp} {Q : Option PV → Hp → Prop} {st : List PV}{ls : List (Option PV)} : WP d mL_law 1351 ls st h Q = WP d mL_law 1352 ls (.inl (1) :: st) h Q := WP_step dL_law_1351 rfl rfl rfl
theorem rL_law_1352 {d : Nat} {h : Hp} {Q : Option PV → Hp → Prop} {st : List PV}{ls : List (Option PV)}{a b : Int} : WP d mL_law 1352 ls (.inl b :: .inl a :: st) h Q = WP d mL_law 1353 ls (.inl (w32 (a + b)) :: st) h Q := WP_step dL_law_1352 rfl rfl rfl
theorem rL_law_1353 {d : Nat} {h : Hp} {Q : Option PV → Hp → Prop} {st : List PV}{ls : List (Option PV)}{a : Nat} {z : Int} : WP d mL_law 1353 ls (.inl z :: .inr (.inr a) :: st) h Q = ((hK h a).1 = 21 ∧ 0 ≤ z ∧ z < (hK h a).2 ∧ WP d mL_law 1354 ls (.inl (hI h a z.toNat) :: st) h Q) := R_iald dL_law_1353
theorem rL_law_1354 {d : Nat} {h : Hp} {Q : Option PV → Hp → Prop} {ls : List (Option PV)}{v0 : Nat} {v1 : Int} : WP (d + 1) mL_law 1354 ls (.inl v1 :: .inr (.inr v0) :: []) h Q = ((hK h v0).1 = 11 ∧ WP d mX11_likeliest 0 [some (.inr (.inr v0)), some (.inl v1), none, none, none, none, none, none, none] [] h (fun r h' => WP (d + 1) mL_law 1357 ls (psh r []) h' Q)) := R_callV (st := .inl v1 :: .inr (.inr v0) :: []) (M := mL_law) (pc := 1354) (kd := 0) (n := 2) (M' := mX11_likeliest) (as := [.inl v1, .inr (.inr v0)]) (rest := []) (en := [some (.inr (.inr v0)), some (.inl v1), none, none, none, none, none, none, none]) dL_law_1354 rfl (Nat.le_of_ble_eq_true rfl) (Nat.le_of_ble_eq_true rfl) rfl rfl (Nat.le_of_ble_eq_true rfl) rfl rfl rfl
theorem rL_law_1357 {d : Nat} {h : Hp} {Q : Option PV → Hp → Prop} {st : List PV}{x0 x1 : Option PV} {t : List (Option PV)} {v : Nat} : WP d mL_law 1357 (x0 :: x1 :: some (.inr (.inr v)) :: t) st h Q = WP d mL_law 1358 (x0 :: x1 :: some (.inr (.inr v)) :: t) (.inr (.inr v) :: st) h Q := WP_step dL_law_1357 rfl rfl rfl
theorem rL_law_1358 {d : Nat} {h : Hp} {Q : Option PV → Hp → Prop} {st : List PV}{t : List (Option PV)} {v : Nat} : WP d mL_law 1358 (some (.inr (.inr v)) :: t) st h Q = WP d mL_law 1359 (some (.inr (.inr v)) :: t) (.inr (.inr v) :: st) h Q := WP_step dL_law_1358 rfl rfl rfl
theorem rL_law_1359 {d : Nat} {h : Hp} {Q : Option PV → Hp → Prop} {st : List PV}{x0 x1 x2 : Option PV} {t : List (Option PV)} {v : Int} : WP d mL_law 1359 (x0 :: x1 :: x2 :: some (.inl v) :: t) st h Q = WP d mL_law 1360 (x0 :: x1 :: x2 :: some (.inl v) :: t) (.inl v :: st) h Q := WP_step dL_law_1359 rfl rfl rfl
theorem rL_law_1360 {d : Nat} {h : Hp} {Q : Option PV → Hp → Prop} {st : List PV}{ls : List (Option PV)} : WP d mL_law 1360 ls st h Q = WP d mL_law 1361 ls (.inl (1) :: st) h Q := WP_step dL_law_1360 rfl rfl rfl
theorem rL_law_1361 {d : Nat} {h : Hp} {Q : Option PV → Hp → Prop} {st : List PV}{ls : List (Option PV)}{a b : Int} : WP d mL_law 1361 ls (.inl b :: .inl a :: st) h Q = WP d mL_law 1362 ls (.inl (w32 (a + b)) :: st) h Q := WP_step dL_law_1361 rfl rfl rfl
theorem rL_law_1362 {d : Nat} {h : Hp} {Q : Option PV → Hp → Prop} {st : List PV}{ls : List (Option PV)}{a : Nat} {z : Int} : WP d mL_law 1362 ls (.inl z :: .inr (.inr a) :: st) h Q = ((hK h a).1 = 21 ∧ 0 ≤ z ∧ z < (hK h a).2 ∧ WP d mL_law 1363 ls (.inl (hI h a z.toNat) :: st) h Q) := R_iald dL_law_1362
theorem rL_law_1363 {d : Nat} {h : Hp} {Q : Option PV → Hp → Prop} {ls : List (Option PV)}{r0 : PV}{v0 : Nat} {v1 : Int} : WP (d + 1) mL_law 1363 ls (.inl v1 :: .inr (.inr v0) :: [r0]) h Q = ((hK h v0).1 = 12 ∧ WP d mX12_likeliest 0 [some (.inr (.inr v0)), some (.inl v1), none, none] [] h (fun r h' => WP (d + 1) mL_law 1366 ls (psh r [r0]) h' Q)) := R_callV (st := .inl v1 :: .inr (.inr v0) :: [r0]) (M := mL_law) (pc := 1363) (kd := 0) (n := 2) (M' := mX12_likeliest) (as := [.inl v1, .inr (.inr v0)]) (rest := [r0]) (en := [some (.inr (.inr v0)), some (.inl v1), none, none]) dL_law_1363 rfl (Nat.le_of_ble_eq_true rfl) (Nat.le_of_ble_eq_true rfl) rfl rfl (Nat.le_of_ble_eq_true rfl) rfl rfl rfl
theorem rL_law_1366 {d : Nat} {h : Hp} {Q : Option PV → Hp → Prop} {st : List PV}{ls : List (Option PV)}{a b : Int} : WP d mL_law 1366 ls (.inl b :: .inl a :: st) h Q = (if a = b then WP d mL_law 1600 ls st h Q else WP d mL_law 1369 ls st h Q) := R_icmp_eq dL_law_1366 (by decide)
theorem rL_law_1369 {d : Nat} {h : Hp} {Q : Option PV → Hp → Prop} {st : List PV}{ls : List (Option PV)} : WP d mL_law 1369 ls st h Q = WP d mL_law 1370 ls (.inl (0) :: st) h Q := WP_step dL_law_1369 rfl rfl rfl
theorem rL_law_1370 {d : Nat} {h : Hp} {Q : Option PV → Hp → Prop} {ls : List (Option PV)}{z : Int} : WP d mL_law 1370 ls [.inl z] h Q = ((z = 0 ∨ z = 1) ∧ Q (some (.inl z)) h) := R_zret dL_law_1370 rfl
theorem rL_law_1371 {d : Nat} {h : Hp} {Q : Option PV → Hp → Prop} {st : List PV}{x0 : Option PV} {t : List (Option PV)} {v : Nat} : WP d mL_law 1371 (x0 :: some (.inr (.inr v)) :: t) st h Q = WP d mL_law 1372 (x0 :: some (.inr (.inr v)) :: t) (.inr (.inr v) :: st) h Q := WP_step dL_law_1371 rfl rfl rfl
theorem rL_law_1372 {d : Nat} {h : Hp} {Q : Option PV → Hp → Prop} {st : List PV}{t : List (Option PV)} {v : Nat} : WP d mL_law 1372 (some (.inr (.inr v)) :: t) st h Q = WP d mL_law 1373 (some (.inr (.inr v)) :: t) (.inr (.inr v) :: st) h Q := WP_step dL_law_1372 rfl rfl rfl
theorem rL_law_1373 {d : Nat} {h : Hp} {Q : Option PV → Hp → Prop} {st : List PV}{x0 x1 x2 : Option PV} {t : List (Option PV)} {v : Int} : WP d mL_law 1373 (x0 :: x1 :: x2 :: some (.inl v) :: t) st h Q = WP d mL_law 1374 (x0 :: x1 :: x2 :: some (.inl v) :: t) (.inl v :: st) h Q := WP_step dL_law_1373 rfl rfl rfl
theorem rL_law_1374 {d : Nat} {h : Hp} {Q : Option PV → Hp → Prop} {st : List PV}{ls : List (Option PV)} : WP d mL_law 1374 ls st h Q = WP d mL_law 1375 ls (.inl (1) :: st) h Q := WP_step dL_law_1374 rfl rfl rfl
theorem rL_law_1375 {d : Nat} {h : Hp} {Q : Option PV → Hp → Prop} {st : List PV}{ls : List (Option PV)}{a b : Int} : WP d mL_law 1375 ls (.inl b :: .inl a :: st) h Q = WP d mL_law 1376 ls (.inl (w32 (a + b)) :: st) h Q := WP_step dL_law_1375 rfl rfl rfl
theorem rL_law_1376 {d : Nat} {h : Hp} {Q : Option PV → Hp → Prop} {st : List PV}{ls : List (Option PV)}{a : Nat} {z : Int} : WP d mL_law 1376 ls (.inl z :: .inr (.inr a) :: st) h Q = ((hK h a).1 = 21 ∧ 0 ≤ z ∧ z < (hK h a).2 ∧ WP d mL_law 1377 ls (.inl (hI h a z.toNat) :: st) h Q) := R_iald dL_law_1376
theorem rL_law_1377 {d : Nat} {h : Hp} {Q : Option PV → Hp → Prop} {st : List PV}{t : List (Option PV)} {v : Nat} : WP d mL_law 1377 (some (.inr (.inr v)) :: t) st h Q = WP d mL_law 1378 (some (.inr (.inr v)) :: t) (.inr (.inr v) :: st) h Q := WP_step dL_law_1377 rfl rfl rfl
theorem rL_law_1378 {d : Nat} {h : Hp} {Q : Option PV → Hp → Prop} {st : List PV}{x0 x1 x2 : Option PV} {t : List (Option PV)} {v : Int} : WP d mL_law 1378 (x0 :: x1 :: x2 :: some (.inl v) :: t) st h Q = WP d mL_law 1379 (x0 :: x1 :: x2 :: some (.inl v) :: t) (.inl v :: st) h Q := WP_step dL_law_1378 rfl rfl rfl
theorem rL_law_1379 {d : Nat} {h : Hp} {Q : Option PV → Hp → Prop} {st : List PV}{ls : List (Option PV)} : WP d mL_law 1379 ls st h Q = WP d mL_law 1380 ls (.inl (2) :: st) h Q := WP_step dL_law_1379 rfl rfl rfl
theorem rL_law_1380 {d : Nat} {h : Hp} {Q : Option PV → Hp → Prop} {st : List PV}{ls : List (Option PV)}{a b : Int} : WP d mL_law 1380 ls (.inl b :: .inl a :: st) h Q = WP d mL_law 1381 ls (.inl (w32 (a + b)) :: st) h Q := WP_step dL_law_1380 rfl rfl rfl
theorem rL_law_1381 {d : Nat} {h : Hp} {Q : Option PV → Hp → Prop} {st : List PV}{ls : List (Option PV)}{a : Nat} {z : Int} : WP d mL_law 1381 ls (.inl z :: .inr (.inr a) :: st) h Q = ((hK h a).1 = 21 ∧ 0 ≤ z ∧ z < (hK h a).2 ∧ WP d mL_law 1382 ls (.inl (hI h a z.toNat) :: st) h Q) := R_iald dL_law_1381
theorem rL_law_1382 {d : Nat} {h : Hp} {Q : Option PV → Hp → Prop} {st : List PV}{t : List (Option PV)} {v : Nat} : WP d mL_law 1382 (some (.inr (.inr v)) :: t) st h Q = WP d mL_law 1383 (some (.inr (.inr v)) :: t) (.inr (.inr v) :: st) h Q := WP_step dL_law_1382 rfl rfl rfl
theorem rL_law_1383 {d : Nat} {h : Hp} {Q : Option PV → Hp → Prop} {st : List PV}{x0 x1 x2 : Option PV} {t : List (Option PV)} {v : Int} : WP d mL_law 1383 (x0 :: x1 :: x2 :: some (.inl v) :: t) st h Q = WP d mL_law 1384 (x0 :: x1 :: x2 :: some (.inl v) :: t) (.inl v :: st) h Q := WP_step dL_law_1383 rfl rfl rfl
theorem rL_law_1384 {d : Nat} {h : Hp} {Q : Option PV → Hp → Prop} {st : List PV}{ls : List (Option PV)} : WP d mL_law 1384 ls st h Q = WP d mL_law 1385 ls (.inl (3) :: st) h Q := WP_step dL_law_1384 rfl rfl rfl
theorem rL_law_1385 {d : Nat} {h : Hp} {Q : Option PV → Hp → Prop} {st : List PV}{ls : List (Option PV)}{a b : Int} : WP d mL_law 1385 ls (.inl b :: .inl a :: st) h Q = WP d mL_law 1386 ls (.inl (w32 (a + b)) :: st) h Q := WP_step dL_law_1385 rfl rfl rfl
theorem rL_law_1386 {d : Nat} {h : Hp} {Q : Option PV → Hp → Prop} {st : List PV}{ls : List (Option PV)}{a : Nat} {z : Int} : WP d mL_law 1386 ls (.inl z :: .inr (.inr a) :: st) h Q = ((hK h a).1 = 21 ∧ 0 ≤ z ∧ z < (hK h a).2 ∧ WP d mL_law 1387 ls (.inl (hI h a z.toNat) :: st) h Q) := R_iald dL_law_1386
theorem rL_law_1387 {d : Nat} {h : Hp} {Q : Option PV → Hp → Prop} {ls : List (Option PV)}{v0 : Nat} {v1 : Int} {v2 : Int} {v3 : Int} : WP (d + 1) mL_law 1387 ls (.inl v3 :: .inl v2 :: .inl v1 :: .inr (.inr v0) :: []) h Q = ((hK h v0).1 = 11 ∧ WP d mX11_numbers 0 [some (.inr (.inr v0)), some (.inl v1), some (.inl v2), some (.inl v3)] [] h (fun r h' => WP (d + 1) mL_law 1390 ls (psh r []) h' Q)) := R_callV (st := .inl v3 :: .inl v2 :: .inl v1 :: .inr (.inr v0) :: []) (M := mL_law) (pc := 1387) (kd := 0) (n := 4) (M' := mX11_numbers) (as := [.inl v3, .inl v2, .inl v1, .inr (.inr v0)]) (rest := []) (en := [some (.inr (.inr v0)), some (.inl v1), some (.inl v2), some (.inl v3)]) dL_law_1387 rfl (Nat.le_of_ble_eq_true rfl) (Nat.le_of_ble_eq_true rfl) rfl rfl (Nat.le_of_ble_eq_true rfl) rfl rfl rfl
theorem rL_law_1390 {d : Nat} {h : Hp} {Q : Option PV → Hp → Prop} {st : List PV}{x0 x1 : Option PV} {t : List (Option PV)} {v : Nat} : WP d mL_law 1390 (x0 :: x1 :: some (.inr (.inr v)) :: t) st h Q = WP d mL_law 1391 (x0 :: x1 :: some (.inr (.inr v)) :: t) (.inr (.inr v) :: st) h Q := WP_step dL_law_1390 rfl rfl rfl
theorem rL_law_1391 {d : Nat} {h : Hp} {Q : Option PV → Hp → Prop} {st : List PV}{t : List (Option PV)} {v : Nat} : WP d mL_law 1391 (some (.inr (.inr v)) :: t) st h Q = WP d mL_law 1392 (some (.inr (.inr v)) :: t) (.inr (.inr v) :: st) h Q := WP_step dL_law_1391 rfl rfl rfl
theorem rL_law_1392 {d : Nat} {h : Hp} {Q : Option PV → Hp → Prop} {st : List PV}{x0 x1 x2 : Option PV} {t : List (Option PV)} {v : Int} : WP d mL_law 1392 (x0 :: x1 :: x2 :: some (.inl v) :: t) st h Q = WP d mL_law 1393 (x0 :: x1 :: x2 :: some (.inl v) :: t) (.inl v :: st) h Q := WP_step dL_law_1392 rfl rfl rfl
theorem rL_law_1393 {d : Nat} {h : Hp} {Q : Option PV → Hp → Prop} {st : List PV}{ls : List (Option PV)} : WP d mL_law 1393 ls st h Q = WP d mL_law 1394 ls (.inl (1) :: st) h Q := WP_step dL_law_1393 rfl rfl rfl
theorem rL_law_1394 {d : Nat} {h : Hp} {Q : Option PV → Hp → Prop} {st : List PV}{ls : List (Option PV)}{a b : Int} : WP d mL_law 1394 ls (.inl b :: .inl a :: st) h Q = WP d mL_law 1395 ls (.inl (w32 (a + b)) :: st) h Q := WP_step dL_law_1394 rfl rfl rfl
theorem rL_law_1395 {d : Nat} {h : Hp} {Q : Option PV → Hp → Prop} {st : List PV}{ls : List (Option PV)}{a : Nat} {z : Int} : WP d mL_law 1395 ls (.inl z :: .inr (.inr a) :: st) h Q = ((hK h a).1 = 21 ∧ 0 ≤ z ∧ z < (hK h a).2 ∧ WP d mL_law 1396 ls (.inl (hI h a z.toNat) :: st) h Q) := R_iald dL_law_1395
theorem rL_law_1396 {d : Nat} {h : Hp} {Q : Option PV → Hp → Prop} {st : List PV}{t : List (Option PV)} {v : Nat} : WP d mL_law 1396 (some (.inr (.inr v)) :: t) st h Q = WP d mL_law 1397 (some (.inr (.inr v)) :: t) (.inr (.inr v) :: st) h Q := WP_step dL_law_1396 rfl rfl rfl
theorem rL_law_1397 {d : Nat} {h : Hp} {Q : Option PV → Hp → Prop} {st : List PV}{x0 x1 x2 : Option PV} {t : List (Option PV)} {v : Int} : WP d mL_law 1397 (x0 :: x1 :: x2 :: some (.inl v) :: t) st h Q = WP d mL_law 1398 (x0 :: x1 :: x2 :: some (.inl v) :: t) (.inl v :: st) h Q := WP_step dL_law_1397 rfl rfl rfl
theorem rL_law_1398 {d : Nat} {h : Hp} {Q : Option PV → Hp → Prop} {st : List PV}{ls : List (Option PV)} : WP d mL_law 1398 ls st h Q = WP d mL_law 1399 ls (.inl (2) :: st) h Q := WP_step dL_law_1398 rfl rfl rfl
theorem rL_law_1399 {d : Nat} {h : Hp} {Q : Option PV → Hp → Prop} {st : List PV}{ls : List (Option PV)}{a b : Int} : WP d mL_law 1399 ls (.inl b :: .inl a :: st) h Q = WP d mL_law 1400 ls (.inl (w32 (a + b)) :: st) h Q := WP_step dL_law_1399 rfl rfl rfl
theorem rL_law_1400 {d : Nat} {h : Hp} {Q : Option PV → Hp → Prop} {st : List PV}{ls : List (Option PV)}{a : Nat} {z : Int} : WP d mL_law 1400 ls (.inl z :: .inr (.inr a) :: st) h Q = ((hK h a).1 = 21 ∧ 0 ≤ z ∧ z < (hK h a).2 ∧ WP d mL_law 1401 ls (.inl (hI h a z.toNat) :: st) h Q) := R_iald dL_law_1400
theorem rL_law_1401 {d : Nat} {h : Hp} {Q : Option PV → Hp → Prop} {st : List PV}{t : List (Option PV)} {v : Nat} : WP d mL_law 1401 (some (.inr (.inr v)) :: t) st h Q = WP d mL_law 1402 (some (.inr (.inr v)) :: t) (.inr (.inr v) :: st) h Q := WP_step dL_law_1401 rfl rfl rfl
theorem rL_law_1402 {d : Nat} {h : Hp} {Q : Option PV → Hp → Prop} {st : List PV}{x0 x1 x2 : Option PV} {t : List (Option PV)} {v : Int} : WP d mL_law 1402 (x0 :: x1 :: x2 :: some (.inl v) :: t) st h Q = WP d mL_law 1403 (x0 :: x1 :: x2 :: some (.inl v) :: t) (.inl v :: st) h Q := WP_step dL_law_1402 rfl rfl rfl
theorem rL_law_1403 {d : Nat} {h : Hp} {Q : Option PV → Hp → Prop} {st : List PV}{ls : List (Option PV)} : WP d mL_law 1403 ls st h Q = WP d mL_law 1404 ls (.inl (3) :: st) h Q := WP_step dL_law_1403 rfl rfl rfl
theorem rL_law_1404 {d : Nat} {h : Hp} {Q : Option PV → Hp → Prop} {st : List PV}{ls : List (Option PV)}{a b : Int} : WP d mL_law 1404 ls (.inl b :: .inl a :: st) h Q = WP d mL_law 1405 ls (.inl (w32 (a + b)) :: st) h Q := WP_step dL_law_1404 rfl rfl rfl
theorem rL_law_1405 {d : Nat} {h : Hp} {Q : Option PV → Hp → Prop} {st : List PV}{ls : List (Option PV)}{a : Nat} {z : Int} : WP d mL_law 1405 ls (.inl z :: .inr (.inr a) :: st) h Q = ((hK h a).1 = 21 ∧ 0 ≤ z ∧ z < (hK h a).2 ∧ WP d mL_law 1406 ls (.inl (hI h a z.toNat) :: st) h Q) := R_iald dL_law_1405
theorem rL_law_1406 {d : Nat} {h : Hp} {Q : Option PV → Hp → Prop} {ls : List (Option PV)}{r0 : PV}{v0 : Nat} {v1 : Int} {v2 : Int} {v3 : Int} : WP (d + 1) mL_law 1406 ls (.inl v3 :: .inl v2 :: .inl v1 :: .inr (.inr v0) :: [r0]) h Q = ((hK h v0).1 = 12 ∧ WP d mX12_numbers 0 [some (.inr (.inr v0)), some (.inl v1), some (.inl v2), some (.inl v3), none] [] h (fun r h' => WP (d + 1) mL_law 1409 ls (psh r [r0]) h' Q)) := R_callV (st := .inl v3 :: .inl v2 :: .inl v1 :: .inr (.inr v0) :: [r0]) (M := mL_law) (pc := 1406) (kd := 0) (n := 4) (M' := mX12_numbers) (as := [.inl v3, .inl v2, .inl v1, .inr (.inr v0)]) (rest := [r0]) (en := [some (.inr (.inr v0)), some (.inl v1), some (.inl v2), some (.inl v3), none]) dL_law_1406 rfl (Nat.le_of_ble_eq_true rfl) (Nat.le_of_ble_eq_true rfl) rfl rfl (Nat.le_of_ble_eq_true rfl) rfl rfl rfl
theorem rL_law_1409 {d : Nat} {h : Hp} {Q : Option PV → Hp → Prop} {st : List PV}{ls : List (Option PV)}{a b : Int} : WP d mL_law 1409 ls (.inl b :: .inl a :: st) h Q = (if a = b then WP d mL_law 1600 ls st h Q else WP d mL_law 1412 ls st h Q) := R_icmp_eq dL_law_1409 (by decide)
theorem rL_law_1412 {d : Nat} {h : Hp} {Q : Option PV → Hp → Prop} {st : List PV}{ls : List (Option PV)} : WP d mL_law 1412 ls st h Q = WP d mL_law 1413 ls (.inl (0) :: st) h Q := WP_step dL_law_1412 rfl rfl rfl
theorem rL_law_1413 {d : Nat} {h : Hp} {Q : Option PV → Hp → Prop} {ls : List (Option PV)}{z : Int} : WP d mL_law 1413 ls [.inl z] h Q = ((z = 0 ∨ z = 1) ∧ Q (some (.inl z)) h) := R_zret dL_law_1413 rfl
theorem rL_law_1414 {d : Nat} {h : Hp} {Q : Option PV → Hp → Prop} {st : List PV}{x0 : Option PV} {t : List (Option PV)} {v : Nat} : WP d mL_law 1414 (x0 :: some (.inr (.inr v)) :: t) st h Q = WP d mL_law 1415 (x0 :: some (.inr (.inr v)) :: t) (.inr (.inr v) :: st) h Q := WP_step dL_law_1414 rfl rfl rfl
theorem rL_law_1415 {d : Nat} {h : Hp} {Q : Option PV → Hp → Prop} {st : List PV}{t : List (Option PV)} {v : Nat} : WP d mL_law 1415 (some (.inr (.inr v)) :: t) st h Q = WP d mL_law 1416 (some (.inr (.inr v)) :: t) (.inr (.inr v) :: st) h Q := WP_step dL_law_1415 rfl rfl rfl
theorem rL_law_1416 {d : Nat} {h : Hp} {Q : Option PV → Hp → Prop} {st : List PV}{x0 x1 x2 : Option PV} {t : List (Option PV)} {v : Int} : WP d mL_law 1416 (x0 :: x1 :: x2 :: some (.inl v) :: t) st h Q = WP d mL_law 1417 (x0 :: x1 :: x2 :: some (.inl v) :: t) (.inl v :: st) h Q := WP_step dL_law_1416 rfl rfl rfl
theorem rL_law_1417 {d : Nat} {h : Hp} {Q : Option PV → Hp → Prop} {st : List PV}{ls : List (Option PV)} : WP d mL_law 1417 ls st h Q = WP d mL_law 1418 ls (.inl (1) :: st) h Q := WP_step dL_law_1417 rfl rfl rfl
theorem rL_law_1418 {d : Nat} {h : Hp} {Q : Option PV → Hp → Prop} {st : List PV}{ls : List (Option PV)}{a b : Int} : WP d mL_law 1418 ls (.inl b :: .inl a :: st) h Q = WP d mL_law 1419 ls (.inl (w32 (a + b)) :: st) h Q := WP_step dL_law_1418 rfl rfl rfl
theorem rL_law_1419 {d : Nat} {h : Hp} {Q : Option PV → Hp → Prop} {st : List PV}{ls : List (Option PV)}{a : Nat} {z : Int} : WP d mL_law 1419 ls (.inl z :: .inr (.inr a) :: st) h Q = ((hK h a).1 = 21 ∧ 0 ≤ z ∧ z < (hK h a).2 ∧ WP d mL_law 1420 ls (.inl (hI h a z.toNat) :: st) h Q) := R_iald dL_law_1419
theorem rL_law_1420 {d : Nat} {h : Hp} {Q : Option PV → Hp → Prop} {st : List PV}{t : List (Option PV)} {v : Nat} : WP d mL_law 1420 (some (.inr (.inr v)) :: t) st h Q = WP d mL_law 1421 (some (.inr (.inr v)) :: t) (.inr (.inr v) :: st) h Q := WP_step dL_law_1420 rfl rfl rfl
theorem rL_law_1421 {d : Nat} {h : Hp} {Q : Option PV → Hp → Prop} {st : List PV}{x0 x1 x2 : Option PV} {t : List (Option PV)} {v : Int} : WP d mL_law 1421 (x0 :: x1 :: x2 :: some (.inl v) :: t) st h Q = WP d mL_law 1422 (x0 :: x1 :: x2 :: some (.inl v) :: t) (.inl v :: st) h Q := WP_step dL_law_1421 rfl rfl rfl
theorem rL_law_1422 {d : Nat} {h : Hp} {Q : Option PV → Hp → Prop} {st : List PV}{ls : List (Option PV)} : WP d mL_law 1422 ls st h Q = WP d mL_law 1423 ls (.inl (2) :: st) h Q := WP_step dL_law_1422 rfl rfl rfl
theorem rL_law_1423 {d : Nat} {h : Hp} {Q : Option PV → Hp → Prop} {st : List PV}{ls : List (Option PV)}{a b : Int} : WP d mL_law 1423 ls (.inl b :: .inl a :: st) h Q = WP d mL_law 1424 ls (.inl (w32 (a + b)) :: st) h Q := WP_step dL_law_1423 rfl rfl rfl
theorem rL_law_1424 {d : Nat} {h : Hp} {Q : Option PV → Hp → Prop} {st : List PV}{ls : List (Option PV)}{a : Nat} {z : Int} : WP d mL_law 1424 ls (.inl z :: .inr (.inr a) :: st) h Q = ((hK h a).1 = 21 ∧ 0 ≤ z ∧ z < (hK h a).2 ∧ WP d mL_law 1425 ls (.inl (hI h a z.toNat) :: st) h Q) := R_iald dL_law_1424
theorem rL_law_1425 {d : Nat} {h : Hp} {Q : Option PV → Hp → Prop} {st : List PV}{t : List (Option PV)} {v : Nat} : WP d mL_law 1425 (some (.inr (.inr v)) :: t) st h Q = WP d mL_law 1426 (some (.inr (.inr v)) :: t) (.inr (.inr v) :: st) h Q := WP_step dL_law_1425 rfl rfl rfl
theorem rL_law_1426 {d : Nat} {h : Hp} {Q : Option PV → Hp → Prop} {st : List PV}{x0 x1 x2 : Option PV} {t : List (Option PV)} {v : Int} : WP d mL_law 1426 (x0 :: x1 :: x2 :: some (.inl v) :: t) st h Q = WP d mL_law 1427 (x0 :: x1 :: x2 :: some (.inl v) :: t) (.inl v :: st) h Q := WP_step dL_law_1426 rfl rfl rfl
theorem rL_law_1427 {d : Nat} {h : Hp} {Q : Option PV → Hp → Prop} {st : List PV}{ls : List (Option PV)} : WP d mL_law 1427 ls st h Q = WP d mL_law 1428 ls (.inl (3) :: st) h Q := WP_step dL_law_1427 rfl rfl rfl
theorem rL_law_1428 {d : Nat} {h : Hp} {Q : Option PV → Hp → Prop} {st : List PV}{ls : List (Option PV)}{a b : Int} : WP d mL_law 1428 ls (.inl b :: .inl a :: st) h Q = WP d mL_law 1429 ls (.inl (w32 (a + b)) :: st) h Q := WP_step dL_law_1428 rfl rfl rfl
theorem rL_law_1429 {d : Nat} {h : Hp} {Q : Option PV → Hp → Prop} {st : List PV}{ls : List (Option PV)}{a : Nat} {z : Int} : WP d mL_law 1429 ls (.inl z :: .inr (.inr a) :: st) h Q = ((hK h a).1 = 21 ∧ 0 ≤ z ∧ z < (hK h a).2 ∧ WP d mL_law 1430 ls (.inl (hI h a z.toNat) :: st) h Q) := R_iald dL_law_1429
theorem rL_law_1430 {d : Nat} {h : Hp} {Q : Option PV → Hp → Prop} {st : List PV}{ls : List (Option PV)}{a : Int} : WP d mL_law 1430 ls (.inl a :: st) h Q = WP d mL_law 1431 ls (.inr (.inl a) :: st) h Q := WP_step dL_law_1430 rfl rfl rfl
theorem rL_law_1431 {d : Nat} {h : Hp} {Q : Option PV → Hp → Prop} {st : List PV}{ls : List (Option PV)} : WP d mL_law 1431 ls st h Q = WP d mL_law 1433 ls (.inl (32) :: st) h Q := WP_step dL_law_1431 rfl rfl rfl
theorem rL_law_1433 {d : Nat} {h : Hp} {Q : Option PV → Hp → Prop} {st : List PV}{ls : List (Option PV)}{a b : Int} : WP d mL_law 1433 ls (.inl b :: .inr (.inl a) :: st) h Q = WP d mL_law 1434 ls (.inr (.inl (lshl a b)) :: st) h Q := WP_step dL_law_1433 rfl rfl rfl
theorem rL_law_1434 {d : Nat} {h : Hp} {Q : Option PV → Hp → Prop} {st : List PV}{t : List (Option PV)} {v : Nat} : WP d mL_law 1434 (some (.inr (.inr v)) :: t) st h Q = WP d mL_law 1435 (some (.inr (.inr v)) :: t) (.inr (.inr v) :: st) h Q := WP_step dL_law_1434 rfl rfl rfl
theorem rL_law_1435 {d : Nat} {h : Hp} {Q : Option PV → Hp → Prop} {st : List PV}{x0 x1 x2 : Option PV} {t : List (Option PV)} {v : Int} : WP d mL_law 1435 (x0 :: x1 :: x2 :: some (.inl v) :: t) st h Q = WP d mL_law 1436 (x0 :: x1 :: x2 :: some (.inl v) :: t) (.inl v :: st) h Q := WP_step dL_law_1435 rfl rfl rfl
theorem rL_law_1436 {d : Nat} {h : Hp} {Q : Option PV → Hp → Prop} {st : List PV}{ls : List (Option PV)} : WP d mL_law 1436 ls st h Q = WP d mL_law 1437 ls (.inl (4) :: st) h Q := WP_step dL_law_1436 rfl rfl rfl
theorem rL_law_1437 {d : Nat} {h : Hp} {Q : Option PV → Hp → Prop} {st : List PV}{ls : List (Option PV)}{a b : Int} : WP d mL_law 1437 ls (.inl b :: .inl a :: st) h Q = WP d mL_law 1438 ls (.inl (w32 (a + b)) :: st) h Q := WP_step dL_law_1437 rfl rfl rfl
theorem rL_law_1438 {d : Nat} {h : Hp} {Q : Option PV → Hp → Prop} {st : List PV}{ls : List (Option PV)}{a : Nat} {z : Int} : WP d mL_law 1438 ls (.inl z :: .inr (.inr a) :: st) h Q = ((hK h a).1 = 21 ∧ 0 ≤ z ∧ z < (hK h a).2 ∧ WP d mL_law 1439 ls (.inl (hI h a z.toNat) :: st) h Q) := R_iald dL_law_1438
theorem rL_law_1439 {d : Nat} {h : Hp} {Q : Option PV → Hp → Prop} {st : List PV}{ls : List (Option PV)}{a : Int} : WP d mL_law 1439 ls (.inl a :: st) h Q = WP d mL_law 1440 ls (.inr (.inl a) :: st) h Q := WP_step dL_law_1439 rfl rfl rfl
theorem rL_law_1440 {d : Nat} {h : Hp} {Q : Option PV → Hp → Prop} {st : List PV}{ls : List (Option PV)} : WP d mL_law 1440 ls st h Q = WP d mL_law 1443 ls (.inr (.inl (4294967295)) :: st) h Q := WP_step dL_law_1440 rfl rfl rfl
theorem rL_law_1443 {d : Nat} {h : Hp} {Q : Option PV → Hp → Prop} {st : List PV}{ls : List (Option PV)}{a b : Int} : WP d mL_law 1443 ls (.inr (.inl b) :: .inr (.inl a) :: st) h Q = WP d mL_law 1444 ls (.inr (.inl (land a b)) :: st) h Q := WP_step dL_law_1443 rfl rfl rfl
theorem rL_law_1444 {d : Nat} {h : Hp} {Q : Option PV → Hp → Prop} {st : List PV}{ls : List (Option PV)}{a b : Int} : WP d mL_law 1444 ls (.inr (.inl b) :: .inr (.inl a) :: st) h Q = WP d mL_law 1445 ls (.inr (.inl (lor a b)) :: st) h Q := WP_step dL_law_1444 rfl rfl rfl
theorem rL_law_1445 {d : Nat} {h : Hp} {Q : Option PV → Hp → Prop} {ls : List (Option PV)}{v0 : Nat} {v1 : Int} {v2 : Int} {v3 : Int} : WP (d + 1) mL_law 1445 ls (.inr (.inl v3) :: .inl v2 :: .inl v1 :: .inr (.inr v0) :: []) h Q = ((hK h v0).1 = 11 ∧ WP d mX11_write 0 [some (.inr (.inr v0)), some (.inl v1), some (.inl v2), some (.inr (.inl v3)), none] [] h (fun r h' => WP (d + 1) mL_law 1448 ls (psh r []) h' Q)) := R_callV (st := .inr (.inl v3) :: .inl v2 :: .inl v1 :: .inr (.inr v0) :: []) (M := mL_law) (pc := 1445) (kd := 0) (n := 4) (M' := mX11_write) (as := [.inr (.inl v3), .inl v2, .inl v1, .inr (.inr v0)]) (rest := []) (en := [some (.inr (.inr v0)), some (.inl v1), some (.inl v2), some (.inr (.inl v3)), none]) dL_law_1445 rfl (Nat.le_of_ble_eq_true rfl) (Nat.le_of_ble_eq_true rfl) rfl rfl (Nat.le_of_ble_eq_true rfl) rfl rfl rfl
theorem rL_law_1448 {d : Nat} {h : Hp} {Q : Option PV → Hp → Prop} {st : List PV}{x0 x1 : Option PV} {t : List (Option PV)} {v : Nat} : WP d mL_law 1448 (x0 :: x1 :: some (.inr (.inr v)) :: t) st h Q = WP d mL_law 1449 (x0 :: x1 :: some (.inr (.inr v)) :: t) (.inr (.inr v) :: st) h Q := WP_step dL_law_1448 rfl rfl rfl
theorem rL_law_1449 {d : Nat} {h : Hp} {Q : Option PV → Hp → Prop} {st : List PV}{t : List (Option PV)} {v : Nat} : WP d mL_law 1449 (some (.inr (.inr v)) :: t) st h Q = WP d mL_law 1450 (some (.inr (.inr v)) :: t) (.inr (.inr v) :: st) h Q := WP_step dL_law_1449 rfl rfl rfl
theorem rL_law_1450 {d : Nat} {h : Hp} {Q : Option PV → Hp → Prop} {st : List PV}{x0 x1 x2 : Option PV} {t : List (Option PV)} {v : Int} : WP d mL_law 1450 (x0 :: x1 :: x2 :: some (.inl v) :: t) st h Q = WP d mL_law 1451 (x0 :: x1 :: x2 :: some (.inl v) :: t) (.inl v :: st) h Q := WP_step dL_law_1450 rfl rfl rfl
theorem rL_law_1451 {d : Nat} {h : Hp} {Q : Option PV → Hp → Prop} {st : List PV}{ls : List (Option PV)} : WP d mL_law 1451 ls st h Q = WP d mL_law 1452 ls (.inl (1) :: st) h Q := WP_step dL_law_1451 rfl rfl rfl
theorem rL_law_1452 {d : Nat} {h : Hp} {Q : Option PV → Hp → Prop} {st : List PV}{ls : List (Option PV)}{a b : Int} : WP d mL_law 1452 ls (.inl b :: .inl a :: st) h Q = WP d mL_law 1453 ls (.inl (w32 (a + b)) :: st) h Q := WP_step dL_law_1452 rfl rfl rfl
theorem rL_law_1453 {d : Nat} {h : Hp} {Q : Option PV → Hp → Prop} {st : List PV}{ls : List (Option PV)}{a : Nat} {z : Int} : WP d mL_law 1453 ls (.inl z :: .inr (.inr a) :: st) h Q = ((hK h a).1 = 21 ∧ 0 ≤ z ∧ z < (hK h a).2 ∧ WP d mL_law 1454 ls (.inl (hI h a z.toNat) :: st) h Q) := R_iald dL_law_1453
theorem rL_law_1454 {d : Nat} {h : Hp} {Q : Option PV → Hp → Prop} {st : List PV}{t : List (Option PV)} {v : Nat} : WP d mL_law 1454 (some (.inr (.inr v)) :: t) st h Q = WP d mL_law 1455 (some (.inr (.inr v)) :: t) (.inr (.inr v) :: st) h Q := WP_step dL_law_1454 rfl rfl rfl
theorem rL_law_1455 {d : Nat} {h : Hp} {Q : Option PV → Hp → Prop} {st : List PV}{x0 x1 x2 : Option PV} {t : List (Option PV)} {v : Int} : WP d mL_law 1455 (x0 :: x1 :: x2 :: some (.inl v) :: t) st h Q = WP d mL_law 1456 (x0 :: x1 :: x2 :: some (.inl v) :: t) (.inl v :: st) h Q := WP_step dL_law_1455 rfl rfl rfl
theorem rL_law_1456 {d : Nat} {h : Hp} {Q : Option PV → Hp → Prop} {st : List PV}{ls : List (Option PV)} : WP d mL_law 1456 ls st h Q = WP d mL_law 1457 ls (.inl (2) :: st) h Q := WP_step dL_law_1456 rfl rfl rfl
theorem rL_law_1457 {d : Nat} {h : Hp} {Q : Option PV → Hp → Prop} {st : List PV}{ls : List (Option PV)}{a b : Int} : WP d mL_law 1457 ls (.inl b :: .inl a :: st) h Q = WP d mL_law 1458 ls (.inl (w32 (a + b)) :: st) h Q := WP_step dL_law_1457 rfl rfl rfl
theorem rL_law_1458 {d : Nat} {h : Hp} {Q : Option PV → Hp → Prop} {st : List PV}{ls : List (Option PV)}{a : Nat} {z : Int} : WP d mL_law 1458 ls (.inl z :: .inr (.inr a) :: st) h Q = ((hK h a).1 = 21 ∧ 0 ≤ z ∧ z < (hK h a).2 ∧ WP d mL_law 1459 ls (.inl (hI h a z.toNat) :: st) h Q) := R_iald dL_law_1458
theorem rL_law_1459 {d : Nat} {h : Hp} {Q : Option PV → Hp → Prop} {st : List PV}{t : List (Option PV)} {v : Nat} : WP d mL_law 1459 (some (.inr (.inr v)) :: t) st h Q = WP d mL_law 1460 (some (.inr (.inr v)) :: t) (.inr (.inr v) :: st) h Q := WP_step dL_law_1459 rfl rfl rfl
theorem rL_law_1460 {d : Nat} {h : Hp} {Q : Option PV → Hp → Prop} {st : List PV}{x0 x1 x2 : Option PV} {t : List (Option PV)} {v : Int} : WP d mL_law 1460 (x0 :: x1 :: x2 :: some (.inl v) :: t) st h Q = WP d mL_law 1461 (x0 :: x1 :: x2 :: some (.inl v) :: t) (.inl v :: st) h Q := WP_step dL_law_1460 rfl rfl rfl
theorem rL_law_1461 {d : Nat} {h : Hp} {Q : Option PV → Hp → Prop} {st : List PV}{ls : List (Option PV)} : WP d mL_law 1461 ls st h Q = WP d mL_law 1462 ls (.inl (3) :: st) h Q := WP_step dL_law_1461 rfl rfl rfl
theorem rL_law_1462 {d : Nat} {h : Hp} {Q : Option PV → Hp → Prop} {st : List PV}{ls : List (Option PV)}{a b : Int} : WP d mL_law 1462 ls (.inl b :: .inl a :: st) h Q = WP d mL_law 1463 ls (.inl (w32 (a + b)) :: st) h Q := WP_step dL_law_1462 rfl rfl rfl
theorem rL_law_1463 {d : Nat} {h : Hp} {Q : Option PV → Hp → Prop} {st : List PV}{ls : List (Option PV)}{a : Nat} {z : Int} : WP d mL_law 1463 ls (.inl z :: .inr (.inr a) :: st) h Q = ((hK h a).1 = 21 ∧ 0 ≤ z ∧ z < (hK h a).2 ∧ WP d mL_law 1464 ls (.inl (hI h a z.toNat) :: st) h Q) := R_iald dL_law_1463
theorem rL_law_1464 {d : Nat} {h : Hp} {Q : Option PV → Hp → Prop} {st : List PV}{ls : List (Option PV)}{a : Int} : WP d mL_law 1464 ls (.inl a :: st) h Q = WP d mL_law 1465 ls (.inr (.inl a) :: st) h Q := WP_step dL_law_1464 rfl rfl rfl
theorem rL_law_1465 {d : Nat} {h : Hp} {Q : Option PV → Hp → Prop} {st : List PV}{ls : List (Option PV)} : WP d mL_law 1465 ls st h Q = WP d mL_law 1467 ls (.inl (32) :: st) h Q := WP_step dL_law_1465 rfl rfl rfl
theorem rL_law_1467 {d : Nat} {h : Hp} {Q : Option PV → Hp → Prop} {st : List PV}{ls : List (Option PV)}{a b : Int} : WP d mL_law 1467 ls (.inl b :: .inr (.inl a) :: st) h Q = WP d mL_law 1468 ls (.inr (.inl (lshl a b)) :: st) h Q := WP_step dL_law_1467 rfl rfl rfl
theorem rL_law_1468 {d : Nat} {h : Hp} {Q : Option PV → Hp → Prop} {st : List PV}{t : List (Option PV)} {v : Nat} : WP d mL_law 1468 (some (.inr (.inr v)) :: t) st h Q = WP d mL_law 1469 (some (.inr (.inr v)) :: t) (.inr (.inr v) :: st) h Q := WP_step dL_law_1468 rfl rfl rfl
theorem rL_law_1469 {d : Nat} {h : Hp} {Q : Option PV → Hp → Prop} {st : List PV}{x0 x1 x2 : Option PV} {t : List (Option PV)} {v : Int} : WP d mL_law 1469 (x0 :: x1 :: x2 :: some (.inl v) :: t) st h Q = WP d mL_law 1470 (x0 :: x1 :: x2 :: some (.inl v) :: t) (.inl v :: st) h Q := WP_step dL_law_1469 rfl rfl rfl
theorem rL_law_1470 {d : Nat} {h : Hp} {Q : Option PV → Hp → Prop} {st : List PV}{ls : List (Option PV)} : WP d mL_law 1470 ls st h Q = WP d mL_law 1471 ls (.inl (4) :: st) h Q := WP_step dL_law_1470 rfl rfl rfl
theorem rL_law_1471 {d : Nat} {h : Hp} {Q : Option PV → Hp → Prop} {st : List PV}{ls : List (Option PV)}{a b : Int} : WP d mL_law 1471 ls (.inl b :: .inl a :: st) h Q = WP d mL_law 1472 ls (.inl (w32 (a + b)) :: st) h Q := WP_step dL_law_1471 rfl rfl rfl
theorem rL_law_1472 {d : Nat} {h : Hp} {Q : Option PV → Hp → Prop} {st : List PV}{ls : List (Option PV)}{a : Nat} {z : Int} : WP d mL_law 1472 ls (.inl z :: .inr (.inr a) :: st) h Q = ((hK h a).1 = 21 ∧ 0 ≤ z ∧ z < (hK h a).2 ∧ WP d mL_law 1473 ls (.inl (hI h a z.toNat) :: st) h Q) := R_iald dL_law_1472
theorem rL_law_1473 {d : Nat} {h : Hp} {Q : Option PV → Hp → Prop} {st : List PV}{ls : List (Option PV)}{a : Int} : WP d mL_law 1473 ls (.inl a :: st) h Q = WP d mL_law 1474 ls (.inr (.inl a) :: st) h Q := WP_step dL_law_1473 rfl rfl rfl
theorem rL_law_1474 {d : Nat} {h : Hp} {Q : Option PV → Hp → Prop} {st : List PV}{ls : List (Option PV)} : WP d mL_law 1474 ls st h Q = WP d mL_law 1477 ls (.inr (.inl (4294967295)) :: st) h Q := WP_step dL_law_1474 rfl rfl rfl
theorem rL_law_1477 {d : Nat} {h : Hp} {Q : Option PV → Hp → Prop} {st : List PV}{ls : List (Option PV)}{a b : Int} : WP d mL_law 1477 ls (.inr (.inl b) :: .inr (.inl a) :: st) h Q = WP d mL_law 1478 ls (.inr (.inl (land a b)) :: st) h Q := WP_step dL_law_1477 rfl rfl rfl
theorem rL_law_1478 {d : Nat} {h : Hp} {Q : Option PV → Hp → Prop} {st : List PV}{ls : List (Option PV)}{a b : Int} : WP d mL_law 1478 ls (.inr (.inl b) :: .inr (.inl a) :: st) h Q = WP d mL_law 1479 ls (.inr (.inl (lor a b)) :: st) h Q := WP_step dL_law_1478 rfl rfl rfl
theorem rL_law_1479 {d : Nat} {h : Hp} {Q : Option PV → Hp → Prop} {ls : List (Option PV)}{r0 : PV}{v0 : Nat} {v1 : Int} {v2 : Int} {v3 : Int} : WP (d + 1) mL_law 1479 ls (.inr (.inl v3) :: .inl v2 :: .inl v1 :: .inr (.inr v0) :: [r0]) h Q = ((hK h v0).1 = 12 ∧ WP d mX12_write 0 [some (.inr (.inr v0)), some (.inl v1), some (.inl v2), some (.inr (.inl v3)), none, none] [] h (fun r h' => WP (d + 1) mL_law 1482 ls (psh r [r0]) h' Q)) := R_callV (st := .inr (.inl v3) :: .inl v2 :: .inl v1 :: .inr (.inr v0) :: [r0]) (M := mL_law) (pc := 1479) (kd := 0) (n := 4) (M' := mX12_write) (as := [.inr (.inl v3), .inl v2, .inl v1, .inr (.inr v0)]) (rest := [r0]) (en := [some (.inr (.inr v0)), some (.inl v1), some (.inl v2), some (.inr (.inl v3)), none, none]) dL_law_1479 rfl (Nat.le_of_ble_eq_true rfl) (Nat.le_of_ble_eq_true rfl) rfl rfl (Nat.le_of_ble_eq_true rfl) rfl rfl rfl
theorem rL_law_1482 {d : Nat} {h : Hp} {Q : Option PV → Hp → Prop} {st : List PV}{ls : List (Option PV)}{a b : Int} : WP d mL_law 1482 ls (.inr (.inl b) :: .inr (.inl a) :: st) h Q = WP d mL_law 1483 ls (.inl (lcm a b) :: st) h Q := WP_step dL_law_1482 rfl rfl rfl
theorem rL_law_1483 {d : Nat} {h : Hp} {Q : Option PV → Hp → Prop} {st : List PV}{ls : List (Option PV)}{a : Int} : WP d mL_law 1483 ls (.inl a :: st) h Q = (if a = 0 then WP d mL_law 1600 ls st h Q else WP d mL_law 1486 ls st h Q) := R_if_eq dL_law_1483 (by decide)
theorem rL_law_1486 {d : Nat} {h : Hp} {Q : Option PV → Hp → Prop} {st : List PV}{ls : List (Option PV)} : WP d mL_law 1486 ls st h Q = WP d mL_law 1487 ls (.inl (0) :: st) h Q := WP_step dL_law_1486 rfl rfl rfl
theorem rL_law_1487 {d : Nat} {h : Hp} {Q : Option PV → Hp → Prop} {ls : List (Option PV)}{z : Int} : WP d mL_law 1487 ls [.inl z] h Q = ((z = 0 ∨ z = 1) ∧ Q (some (.inl z)) h) := R_zret dL_law_1487 rfl
theorem rL_law_1488 {d : Nat} {h : Hp} {Q : Option PV → Hp → Prop} {st : List PV}{x0 : Option PV} {t : List (Option PV)} {v : Nat} : WP d mL_law 1488 (x0 :: some (.inr (.inr v)) :: t) st h Q = WP d mL_law 1489 (x0 :: some (.inr (.inr v)) :: t) (.inr (.inr v) :: st) h Q := WP_step dL_law_1488 rfl rfl rfl
theorem rL_law_1489 {d : Nat} {h : Hp} {Q : Option PV → Hp → Prop} {st : List PV}{t : List (Option PV)} {v : Nat} : WP d mL_law 1489 (some (.inr (.inr v)) :: t) st h Q = WP d mL_law 1490 (some (.inr (.inr v)) :: t) (.inr (.inr v) :: st) h Q := WP_step dL_law_1489 rfl rfl rfl
theorem rL_law_1490 {d : Nat} {h : Hp} {Q : Option PV → Hp → Prop} {st : List PV}{x0 x1 x2 : Option PV} {t : List (Option PV)} {v : Int} : WP d mL_law 1490 (x0 :: x1 :: x2 :: some (.inl v) :: t) st h Q = WP d mL_law 1491 (x0 :: x1 :: x2 :: some (.inl v) :: t) (.inl v :: st) h Q := WP_step dL_law_1490 rfl rfl rfl
theorem rL_law_1491 {d : Nat} {h : Hp} {Q : Option PV → Hp → Prop} {st : List PV}{ls : List (Option PV)} : WP d mL_law 1491 ls st h Q = WP d mL_law 1492 ls (.inl (1) :: st) h Q := WP_step dL_law_1491 rfl rfl rfl
theorem rL_law_1492 {d : Nat} {h : Hp} {Q : Option PV → Hp → Prop} {st : List PV}{ls : List (Option PV)}{a b : Int} : WP d mL_law 1492 ls (.inl b :: .inl a :: st) h Q = WP d mL_law 1493 ls (.inl (w32 (a + b)) :: st) h Q := WP_step dL_law_1492 rfl rfl rfl
theorem rL_law_1493 {d : Nat} {h : Hp} {Q : Option PV → Hp → Prop} {st : List PV}{ls : List (Option PV)}{a : Nat} {z : Int} : WP d mL_law 1493 ls (.inl z :: .inr (.inr a) :: st) h Q = ((hK h a).1 = 21 ∧ 0 ≤ z ∧ z < (hK h a).2 ∧ WP d mL_law 1494 ls (.inl (hI h a z.toNat) :: st) h Q) := R_iald dL_law_1493
theorem rL_law_1494 {d : Nat} {h : Hp} {Q : Option PV → Hp → Prop} {st : List PV}{t : List (Option PV)} {v : Nat} : WP d mL_law 1494 (some (.inr (.inr v)) :: t) st h Q = WP d mL_law 1495 (some (.inr (.inr v)) :: t) (.inr (.inr v) :: st) h Q := WP_step dL_law_1494 rfl rfl rfl
theorem rL_law_1495 {d : Nat} {h : Hp} {Q : Option PV → Hp → Prop} {st : List PV}{x0 x1 x2 : Option PV} {t : List (Option PV)} {v : Int} : WP d mL_law 1495 (x0 :: x1 :: x2 :: some (.inl v) :: t) st h Q = WP d mL_law 1496 (x0 :: x1 :: x2 :: some (.inl v) :: t) (.inl v :: st) h Q := WP_step dL_law_1495 rfl rfl rfl
theorem rL_law_1496 {d : Nat} {h : Hp} {Q : Option PV → Hp → Prop} {st : List PV}{ls : List (Option PV)} : WP d mL_law 1496 ls st h Q = WP d mL_law 1497 ls (.inl (2) :: st) h Q := WP_step dL_law_1496 rfl rfl rfl
theorem rL_law_1497 {d : Nat} {h : Hp} {Q : Option PV → Hp → Prop} {st : List PV}{ls : List (Option PV)}{a b : Int} : WP d mL_law 1497 ls (.inl b :: .inl a :: st) h Q = WP d mL_law 1498 ls (.inl (w32 (a + b)) :: st) h Q := WP_step dL_law_1497 rfl rfl rfl
theorem rL_law_1498 {d : Nat} {h : Hp} {Q : Option PV → Hp → Prop} {st : List PV}{ls : List (Option PV)}{a : Nat} {z : Int} : WP d mL_law 1498 ls (.inl z :: .inr (.inr a) :: st) h Q = ((hK h a).1 = 21 ∧ 0 ≤ z ∧ z < (hK h a).2 ∧ WP d mL_law 1499 ls (.inl (hI h a z.toNat) :: st) h Q) := R_iald dL_law_1498
theorem rL_law_1499 {d : Nat} {h : Hp} {Q : Option PV → Hp → Prop} {st : List PV}{t : List (Option PV)} {v : Nat} : WP d mL_law 1499 (some (.inr (.inr v)) :: t) st h Q = WP d mL_law 1500 (some (.inr (.inr v)) :: t) (.inr (.inr v) :: st) h Q := WP_step dL_law_1499 rfl rfl rfl
theorem rL_law_1500 {d : Nat} {h : Hp} {Q : Option PV → Hp → Prop} {st : List PV}{x0 x1 x2 : Option PV} {t : List (Option PV)} {v : Int} : WP d mL_law 1500 (x0 :: x1 :: x2 :: some (.inl v) :: t) st h Q = WP d mL_law 1501 (x0 :: x1 :: x2 :: some (.inl v) :: t) (.inl v :: st) h Q := WP_step dL_law_1500 rfl rfl rfl
theorem rL_law_1501 {d : Nat} {h : Hp} {Q : Option PV → Hp → Prop} {st : List PV}{ls : List (Option PV)} : WP d mL_law 1501 ls st h Q = WP d mL_law 1502 ls (.inl (3) :: st) h Q := WP_step dL_law_1501 rfl rfl rfl
theorem rL_law_1502 {d : Nat} {h : Hp} {Q : Option PV → Hp → Prop} {st : List PV}{ls : List (Option PV)}{a b : Int} : WP d mL_law 1502 ls (.inl b :: .inl a :: st) h Q = WP d mL_law 1503 ls (.inl (w32 (a + b)) :: st) h Q := WP_step dL_law_1502 rfl rfl rfl
theorem rL_law_1503 {d : Nat} {h : Hp} {Q : Option PV → Hp → Prop} {st : List PV}{ls : List (Option PV)}{a : Nat} {z : Int} : WP d mL_law 1503 ls (.inl z :: .inr (.inr a) :: st) h Q = ((hK h a).1 = 21 ∧ 0 ≤ z ∧ z < (hK h a).2 ∧ WP d mL_law 1504 ls (.inl (hI h a z.toNat) :: st) h Q) := R_iald dL_law_1503
theorem rL_law_1504 {d : Nat} {h : Hp} {Q : Option PV → Hp → Prop} {ls : List (Option PV)}{v0 : Nat} {v1 : Int} {v2 : Int} {v3 : Int} : WP (d + 1) mL_law 1504 ls (.inl v3 :: .inl v2 :: .inl v1 :: .inr (.inr v0) :: []) h Q = ((hK h v0).1 = 11 ∧ WP d mX11_lists 0 [some (.inr (.inr v0)), some (.inl v1), some (.inl v2), some (.inl v3), none, none, none, none] [] h (fun r h' => WP (d + 1) mL_law 1507 ls (psh r []) h' Q)) := R_callV (st := .inl v3 :: .inl v2 :: .inl v1 :: .inr (.inr v0) :: []) (M := mL_law) (pc := 1504) (kd := 0) (n := 4) (M' := mX11_lists) (as := [.inl v3, .inl v2, .inl v1, .inr (.inr v0)]) (rest := []) (en := [some (.inr (.inr v0)), some (.inl v1), some (.inl v2), some (.inl v3), none, none, none, none]) dL_law_1504 rfl (Nat.le_of_ble_eq_true rfl) (Nat.le_of_ble_eq_true rfl) rfl rfl (Nat.le_of_ble_eq_true rfl) rfl rfl rfl
theorem rL_law_1507 {d : Nat} {h : Hp} {Q : Option PV → Hp → Prop} {st : List PV}{x0 x1 : Option PV} {t : List (Option PV)} {v : Nat} : WP d mL_law 1507 (x0 :: x1 :: some (.inr (.inr v)) :: t) st h Q = WP d mL_law 1508 (x0 :: x1 :: some (.inr (.inr v)) :: t) (.inr (.inr v) :: st) h Q := WP_step dL_law_1507 rfl rfl rfl
theorem rL_law_1508 {d : Nat} {h : Hp} {Q : Option PV → Hp → Prop} {st : List PV}{t : List (Option PV)} {v : Nat} : WP d mL_law 1508 (some (.inr (.inr v)) :: t) st h Q = WP d mL_law 1509 (some (.inr (.inr v)) :: t) (.inr (.inr v) :: st) h Q := WP_step dL_law_1508 rfl rfl rfl
theorem rL_law_1509 {d : Nat} {h : Hp} {Q : Option PV → Hp → Prop} {st : List PV}{x0 x1 x2 : Option PV} {t : List (Option PV)} {v : Int} : WP d mL_law 1509 (x0 :: x1 :: x2 :: some (.inl v) :: t) st h Q = WP d mL_law 1510 (x0 :: x1 :: x2 :: some (.inl v) :: t) (.inl v :: st) h Q := WP_step dL_law_1509 rfl rfl rfl
theorem rL_law_1510 {d : Nat} {h : Hp} {Q : Option PV → Hp → Prop} {st : List PV}{ls : List (Option PV)} : WP d mL_law 1510 ls st h Q = WP d mL_law 1511 ls (.inl (1) :: st) h Q := WP_step dL_law_1510 rfl rfl rfl
theorem rL_law_1511 {d : Nat} {h : Hp} {Q : Option PV → Hp → Prop} {st : List PV}{ls : List (Option PV)}{a b : Int} : WP d mL_law 1511 ls (.inl b :: .inl a :: st) h Q = WP d mL_law 1512 ls (.inl (w32 (a + b)) :: st) h Q := WP_step dL_law_1511 rfl rfl rfl
theorem rL_law_1512 {d : Nat} {h : Hp} {Q : Option PV → Hp → Prop} {st : List PV}{ls : List (Option PV)}{a : Nat} {z : Int} : WP d mL_law 1512 ls (.inl z :: .inr (.inr a) :: st) h Q = ((hK h a).1 = 21 ∧ 0 ≤ z ∧ z < (hK h a).2 ∧ WP d mL_law 1513 ls (.inl (hI h a z.toNat) :: st) h Q) := R_iald dL_law_1512
theorem rL_law_1513 {d : Nat} {h : Hp} {Q : Option PV → Hp → Prop} {st : List PV}{t : List (Option PV)} {v : Nat} : WP d mL_law 1513 (some (.inr (.inr v)) :: t) st h Q = WP d mL_law 1514 (some (.inr (.inr v)) :: t) (.inr (.inr v) :: st) h Q := WP_step dL_law_1513 rfl rfl rfl
theorem rL_law_1514 {d : Nat} {h : Hp} {Q : Option PV → Hp → Prop} {st : List PV}{x0 x1 x2 : Option PV} {t : List (Option PV)} {v : Int} : WP d mL_law 1514 (x0 :: x1 :: x2 :: some (.inl v) :: t) st h Q = WP d mL_law 1515 (x0 :: x1 :: x2 :: some (.inl v) :: t) (.inl v :: st) h Q := WP_step dL_law_1514 rfl rfl rfl
theorem rL_law_1515 {d : Nat} {h : Hp} {Q : Option PV → Hp → Prop} {st : List PV}{ls : List (Option PV)} : WP d mL_law 1515 ls st h Q = WP d mL_law 1516 ls (.inl (2) :: st) h Q := WP_step dL_law_1515 rfl rfl rfl
theorem rL_law_1516 {d : Nat} {h : Hp} {Q : Option PV → Hp → Prop} {st : List PV}{ls : List (Option PV)}{a b : Int} : WP d mL_law 1516 ls (.inl b :: .inl a :: st) h Q = WP d mL_law 1517 ls (.inl (w32 (a + b)) :: st) h Q := WP_step dL_law_1516 rfl rfl rfl
theorem rL_law_1517 {d : Nat} {h : Hp} {Q : Option PV → Hp → Prop} {st : List PV}{ls : List (Option PV)}{a : Nat} {z : Int} : WP d mL_law 1517 ls (.inl z :: .inr (.inr a) :: st) h Q = ((hK h a).1 = 21 ∧ 0 ≤ z ∧ z < (hK h a).2 ∧ WP d mL_law 1518 ls (.inl (hI h a z.toNat) :: st) h Q) := R_iald dL_law_1517
theorem rL_law_1518 {d : Nat} {h : Hp} {Q : Option PV → Hp → Prop} {st : List PV}{t : List (Option PV)} {v : Nat} : WP d mL_law 1518 (some (.inr (.inr v)) :: t) st h Q = WP d mL_law 1519 (some (.inr (.inr v)) :: t) (.inr (.inr v) :: st) h Q := WP_step dL_law_1518 rfl rfl rfl
theorem rL_law_1519 {d : Nat} {h : Hp} {Q : Option PV → Hp → Prop} {st : List PV}{x0 x1 x2 : Option PV} {t : List (Option PV)} {v : Int} : WP d mL_law 1519 (x0 :: x1 :: x2 :: some (.inl v) :: t) st h Q = WP d mL_law 1520 (x0 :: x1 :: x2 :: some (.inl v) :: t) (.inl v :: st) h Q := WP_step dL_law_1519 rfl rfl rfl
theorem rL_law_1520 {d : Nat} {h : Hp} {Q : Option PV → Hp → Prop} {st : List PV}{ls : List (Option PV)} : WP d mL_law 1520 ls st h Q = WP d mL_law 1521 ls (.inl (3) :: st) h Q := WP_step dL_law_1520 rfl rfl rfl
theorem rL_law_1521 {d : Nat} {h : Hp} {Q : Option PV → Hp → Prop} {st : List PV}{ls : List (Option PV)}{a b : Int} : WP d mL_law 1521 ls (.inl b :: .inl a :: st) h Q = WP d mL_law 1522 ls (.inl (w32 (a + b)) :: st) h Q := WP_step dL_law_1521 rfl rfl rfl
theorem rL_law_1522 {d : Nat} {h : Hp} {Q : Option PV → Hp → Prop} {st : List PV}{ls : List (Option PV)}{a : Nat} {z : Int} : WP d mL_law 1522 ls (.inl z :: .inr (.inr a) :: st) h Q = ((hK h a).1 = 21 ∧ 0 ≤ z ∧ z < (hK h a).2 ∧ WP d mL_law 1523 ls (.inl (hI h a z.toNat) :: st) h Q) := R_iald dL_law_1522
theorem rL_law_1523 {d : Nat} {h : Hp} {Q : Option PV → Hp → Prop} {ls : List (Option PV)}{r0 : PV}{v0 : Nat} {v1 : Int} {v2 : Int} {v3 : Int} : WP (d + 1) mL_law 1523 ls (.inl v3 :: .inl v2 :: .inl v1 :: .inr (.inr v0) :: [r0]) h Q = ((hK h v0).1 = 12 ∧ WP d mX12_lists 0 [some (.inr (.inr v0)), some (.inl v1), some (.inl v2), some (.inl v3), none, none, none, none] [] h (fun r h' => WP (d + 1) mL_law 1526 ls (psh r [r0]) h' Q)) := R_callV (st := .inl v3 :: .inl v2 :: .inl v1 :: .inr (.inr v0) :: [r0]) (M := mL_law) (pc := 1523) (kd := 0) (n := 4) (M' := mX12_lists) (as := [.inl v3, .inl v2, .inl v1, .inr (.inr v0)]) (rest := [r0]) (en := [some (.inr (.inr v0)), some (.inl v1), some (.inl v2), some (.inl v3), none, none, none, none]) dL_law_1523 rfl (Nat.le_of_ble_eq_true rfl) (Nat.le_of_ble_eq_true rfl) rfl rfl (Nat.le_of_ble_eq_true rfl) rfl rfl rfl
theorem rL_law_1526 {d : Nat} {h : Hp} {Q : Option PV → Hp → Prop} {st : List PV}{ls : List (Option PV)}{a b : Int} : WP d mL_law 1526 ls (.inl b :: .inl a :: st) h Q = (if a = b then WP d mL_law 1600 ls st h Q else WP d mL_law 1529 ls st h Q) := R_icmp_eq dL_law_1526 (by decide)
theorem rL_law_1529 {d : Nat} {h : Hp} {Q : Option PV → Hp → Prop} {st : List PV}{ls : List (Option PV)} : WP d mL_law 1529 ls st h Q = WP d mL_law 1530 ls (.inl (0) :: st) h Q := WP_step dL_law_1529 rfl rfl rfl
theorem rL_law_1530 {d : Nat} {h : Hp} {Q : Option PV → Hp → Prop} {ls : List (Option PV)}{z : Int} : WP d mL_law 1530 ls [.inl z] h Q = ((z = 0 ∨ z = 1) ∧ Q (some (.inl z)) h) := R_zret dL_law_1530 rfl
theorem rL_law_1531 {d : Nat} {h : Hp} {Q : Option PV → Hp → Prop} {st : List PV}{x0 : Option PV} {t : List (Option PV)} {v : Nat} : WP d mL_law 1531 (x0 :: some (.inr (.inr v)) :: t) st h Q = WP d mL_law 1532 (x0 :: some (.inr (.inr v)) :: t) (.inr (.inr v) :: st) h Q := WP_step dL_law_1531 rfl rfl rfl
theorem rL_law_1532 {d : Nat} {h : Hp} {Q : Option PV → Hp → Prop} {st : List PV}{t : List (Option PV)} {v : Nat} : WP d mL_law 1532 (some (.inr (.inr v)) :: t) st h Q = WP d mL_law 1533 (some (.inr (.inr v)) :: t) (.inr (.inr v) :: st) h Q := WP_step dL_law_1532 rfl rfl rfl
theorem rL_law_1533 {d : Nat} {h : Hp} {Q : Option PV → Hp → Prop} {st : List PV}{x0 x1 x2 : Option PV} {t : List (Option PV)} {v : Int} : WP d mL_law 1533 (x0 :: x1 :: x2 :: some (.inl v) :: t) st h Q = WP d mL_law 1534 (x0 :: x1 :: x2 :: some (.inl v) :: t) (.inl v :: st) h Q := WP_step dL_law_1533 rfl rfl rfl
theorem rL_law_1534 {d : Nat} {h : Hp} {Q : Option PV → Hp → Prop} {st : List PV}{ls : List (Option PV)} : WP d mL_law 1534 ls st h Q = WP d mL_law 1535 ls (.inl (1) :: st) h Q := WP_step dL_law_1534 rfl rfl rfl
theorem rL_law_1535 {d : Nat} {h : Hp} {Q : Option PV → Hp → Prop} {st : List PV}{ls : List (Option PV)}{a b : Int} : WP d mL_law 1535 ls (.inl b :: .inl a :: st) h Q = WP d mL_law 1536 ls (.inl (w32 (a + b)) :: st) h Q := WP_step dL_law_1535 rfl rfl rfl
theorem rL_law_1536 {d : Nat} {h : Hp} {Q : Option PV → Hp → Prop} {st : List PV}{ls : List (Option PV)}{a : Nat} {z : Int} : WP d mL_law 1536 ls (.inl z :: .inr (.inr a) :: st) h Q = ((hK h a).1 = 21 ∧ 0 ≤ z ∧ z < (hK h a).2 ∧ WP d mL_law 1537 ls (.inl (hI h a z.toNat) :: st) h Q) := R_iald dL_law_1536
theorem rL_law_1537 {d : Nat} {h : Hp} {Q : Option PV → Hp → Prop} {ls : List (Option PV)}{v0 : Nat} {v1 : Int} : WP (d + 1) mL_law 1537 ls (.inl v1 :: .inr (.inr v0) :: []) h Q = ((hK h v0).1 = 11 ∧ WP d mX11_image 0 [some (.inr (.inr v0)), some (.inl v1)] [] h (fun r h' => WP (d + 1) mL_law 1540 ls (psh r []) h' Q)) := R_callV (st := .inl v1 :: .inr (.inr v0) :: []) (M := mL_law) (pc := 1537) (kd := 0) (n := 2) (M' := mX11_image) (as := [.inl v1, .inr (.inr v0)]) (rest := []) (en := [some (.inr (.inr v0)), some (.inl v1)]) dL_law_1537 rfl (Nat.le_of_ble_eq_true rfl) (Nat.le_of_ble_eq_true rfl) rfl rfl (Nat.le_of_ble_eq_true rfl) rfl rfl rfl
theorem rL_law_1540 {d : Nat} {h : Hp} {Q : Option PV → Hp → Prop} {st : List PV}{x0 x1 : Option PV} {t : List (Option PV)} {v : Nat} : WP d mL_law 1540 (x0 :: x1 :: some (.inr (.inr v)) :: t) st h Q = WP d mL_law 1541 (x0 :: x1 :: some (.inr (.inr v)) :: t) (.inr (.inr v) :: st) h Q := WP_step dL_law_1540 rfl rfl rfl
theorem rL_law_1541 {d : Nat} {h : Hp} {Q : Option PV → Hp → Prop} {st : List PV}{t : List (Option PV)} {v : Nat} : WP d mL_law 1541 (some (.inr (.inr v)) :: t) st h Q = WP d mL_law 1542 (some (.inr (.inr v)) :: t) (.inr (.inr v) :: st) h Q := WP_step dL_law_1541 rfl rfl rfl
theorem rL_law_1542 {d : Nat} {h : Hp} {Q : Option PV → Hp → Prop} {st : List PV}{x0 x1 x2 : Option PV} {t : List (Option PV)} {v : Int} : WP d mL_law 1542 (x0 :: x1 :: x2 :: some (.inl v) :: t) st h Q = WP d mL_law 1543 (x0 :: x1 :: x2 :: some (.inl v) :: t) (.inl v :: st) h Q := WP_step dL_law_1542 rfl rfl rfl
theorem rL_law_1543 {d : Nat} {h : Hp} {Q : Option PV → Hp → Prop} {st : List PV}{ls : List (Option PV)} : WP d mL_law 1543 ls st h Q = WP d mL_law 1544 ls (.inl (1) :: st) h Q := WP_step dL_law_1543 rfl rfl rfl
theorem rL_law_1544 {d : Nat} {h : Hp} {Q : Option PV → Hp → Prop} {st : List PV}{ls : List (Option PV)}{a b : Int} : WP d mL_law 1544 ls (.inl b :: .inl a :: st) h Q = WP d mL_law 1545 ls (.inl (w32 (a + b)) :: st) h Q := WP_step dL_law_1544 rfl rfl rfl
theorem rL_law_1545 {d : Nat} {h : Hp} {Q : Option PV → Hp → Prop} {st : List PV}{ls : List (Option PV)}{a : Nat} {z : Int} : WP d mL_law 1545 ls (.inl z :: .inr (.inr a) :: st) h Q = ((hK h a).1 = 21 ∧ 0 ≤ z ∧ z < (hK h a).2 ∧ WP d mL_law 1546 ls (.inl (hI h a z.toNat) :: st) h Q) := R_iald dL_law_1545
theorem rL_law_1546 {d : Nat} {h : Hp} {Q : Option PV → Hp → Prop} {ls : List (Option PV)}{r0 : PV}{v0 : Nat} {v1 : Int} : WP (d + 1) mL_law 1546 ls (.inl v1 :: .inr (.inr v0) :: [r0]) h Q = ((hK h v0).1 = 12 ∧ WP d mX12_image 0 [some (.inr (.inr v0)), some (.inl v1), none] [] h (fun r h' => WP (d + 1) mL_law 1549 ls (psh r [r0]) h' Q)) := R_callV (st := .inl v1 :: .inr (.inr v0) :: [r0]) (M := mL_law) (pc := 1546) (kd := 0) (n := 2) (M' := mX12_image) (as := [.inl v1, .inr (.inr v0)]) (rest := [r0]) (en := [some (.inr (.inr v0)), some (.inl v1), none]) dL_law_1546 rfl (Nat.le_of_ble_eq_true rfl) (Nat.le_of_ble_eq_true rfl) rfl rfl (Nat.le_of_ble_eq_true rfl) rfl rfl rfl
theorem rL_law_1549 {d : Nat} {h : Hp} {Q : Option PV → Hp → Prop} {st : List PV}{ls : List (Option PV)}{a b : Int} : WP d mL_law 1549 ls (.inl b :: .inl a :: st) h Q = (if a = b then WP d mL_law 1600 ls st h Q else WP d mL_law 1552 ls st h Q) := R_icmp_eq dL_law_1549 (by decide)
theorem rL_law_1552 {d : Nat} {h : Hp} {Q : Option PV → Hp → Prop} {st : List PV}{ls : List (Option PV)} : WP d mL_law 1552 ls st h Q = WP d mL_law 1553 ls (.inl (0) :: st) h Q := WP_step dL_law_1552 rfl rfl rfl
theorem rL_law_1553 {d : Nat} {h : Hp} {Q : Option PV → Hp → Prop} {ls : List (Option PV)}{z : Int} : WP d mL_law 1553 ls [.inl z] h Q = ((z = 0 ∨ z = 1) ∧ Q (some (.inl z)) h) := R_zret dL_law_1553 rfl
theorem rL_law_1554 {d : Nat} {h : Hp} {Q : Option PV → Hp → Prop} {st : List PV}{x0 : Option PV} {t : List (Option PV)} {v : Nat} : WP d mL_law 1554 (x0 :: some (.inr (.inr v)) :: t) st h Q = WP d mL_law 1555 (x0 :: some (.inr (.inr v)) :: t) (.inr (.inr v) :: st) h Q := WP_step dL_law_1554 rfl rfl rfl
theorem rL_law_1555 {d : Nat} {h : Hp} {Q : Option PV → Hp → Prop} {st : List PV}{t : List (Option PV)} {v : Nat} : WP d mL_law 1555 (some (.inr (.inr v)) :: t) st h Q = WP d mL_law 1556 (some (.inr (.inr v)) :: t) (.inr (.inr v) :: st) h Q := WP_step dL_law_1555 rfl rfl rfl
theorem rL_law_1556 {d : Nat} {h : Hp} {Q : Option PV → Hp → Prop} {st : List PV}{x0 x1 x2 : Option PV} {t : List (Option PV)} {v : Int} : WP d mL_law 1556 (x0 :: x1 :: x2 :: some (.inl v) :: t) st h Q = WP d mL_law 1557 (x0 :: x1 :: x2 :: some (.inl v) :: t) (.inl v :: st) h Q := WP_step dL_law_1556 rfl rfl rfl
theorem rL_law_1557 {d : Nat} {h : Hp} {Q : Option PV → Hp → Prop} {st : List PV}{ls : List (Option PV)} : WP d mL_law 1557 ls st h Q = WP d mL_law 1558 ls (.inl (1) :: st) h Q := WP_step dL_law_1557 rfl rfl rfl
theorem rL_law_1558 {d : Nat} {h : Hp} {Q : Option PV → Hp → Prop} {st : List PV}{ls : List (Option PV)}{a b : Int} : WP d mL_law 1558 ls (.inl b :: .inl a :: st) h Q = WP d mL_law 1559 ls (.inl (w32 (a + b)) :: st) h Q := WP_step dL_law_1558 rfl rfl rfl
theorem rL_law_1559 {d : Nat} {h : Hp} {Q : Option PV → Hp → Prop} {st : List PV}{ls : List (Option PV)}{a : Nat} {z : Int} : WP d mL_law 1559 ls (.inl z :: .inr (.inr a) :: st) h Q = ((hK h a).1 = 21 ∧ 0 ≤ z ∧ z < (hK h a).2 ∧ WP d mL_law 1560 ls (.inl (hI h a z.toNat) :: st) h Q) := R_iald dL_law_1559
theorem rL_law_1560 {d : Nat} {h : Hp} {Q : Option PV → Hp → Prop} {ls : List (Option PV)}{v0 : Nat} {v1 : Int} : WP (d + 1) mL_law 1560 ls (.inl v1 :: .inr (.inr v0) :: []) h Q = ((hK h v0).1 = 11 ∧ WP d mX11_restore 0 [some (.inr (.inr v0)), some (.inl v1)] [] h (fun r h' => WP (d + 1) mL_law 1563 ls (psh r []) h' Q)) := R_callV (st := .inl v1 :: .inr (.inr v0) :: []) (M := mL_law) (pc := 1560) (kd := 0) (n := 2) (M' := mX11_restore) (as := [.inl v1, .inr (.inr v0)]) (rest := []) (en := [some (.inr (.inr v0)), some (.inl v1)]) dL_law_1560 rfl (Nat.le_of_ble_eq_true rfl) (Nat.le_of_ble_eq_true rfl) rfl rfl (Nat.le_of_ble_eq_true rfl) rfl rfl rfl
theorem rL_law_1563 {d : Nat} {h : Hp} {Q : Option PV → Hp → Prop} {st : List PV}{x0 x1 : Option PV} {t : List (Option PV)} {v : Nat} : WP d mL_law 1563 (x0 :: x1 :: some (.inr (.inr v)) :: t) st h Q = WP d mL_law 1564 (x0 :: x1 :: some (.inr (.inr v)) :: t) (.inr (.inr v) :: st) h Q := WP_step dL_law_1563 rfl rfl rfl
theorem rL_law_1564 {d : Nat} {h : Hp} {Q : Option PV → Hp → Prop} {st : List PV}{t : List (Option PV)} {v : Nat} : WP d mL_law 1564 (some (.inr (.inr v)) :: t) st h Q = WP d mL_law 1565 (some (.inr (.inr v)) :: t) (.inr (.inr v) :: st) h Q := WP_step dL_law_1564 rfl rfl rfl
theorem rL_law_1565 {d : Nat} {h : Hp} {Q : Option PV → Hp → Prop} {st : List PV}{x0 x1 x2 : Option PV} {t : List (Option PV)} {v : Int} : WP d mL_law 1565 (x0 :: x1 :: x2 :: some (.inl v) :: t) st h Q = WP d mL_law 1566 (x0 :: x1 :: x2 :: some (.inl v) :: t) (.inl v :: st) h Q := WP_step dL_law_1565 rfl rfl rfl
theorem rL_law_1566 {d : Nat} {h : Hp} {Q : Option PV → Hp → Prop} {st : List PV}{ls : List (Option PV)} : WP d mL_law 1566 ls st h Q = WP d mL_law 1567 ls (.inl (1) :: st) h Q := WP_step dL_law_1566 rfl rfl rfl
theorem rL_law_1567 {d : Nat} {h : Hp} {Q : Option PV → Hp → Prop} {st : List PV}{ls : List (Option PV)}{a b : Int} : WP d mL_law 1567 ls (.inl b :: .inl a :: st) h Q = WP d mL_law 1568 ls (.inl (w32 (a + b)) :: st) h Q := WP_step dL_law_1567 rfl rfl rfl
theorem rL_law_1568 {d : Nat} {h : Hp} {Q : Option PV → Hp → Prop} {st : List PV}{ls : List (Option PV)}{a : Nat} {z : Int} : WP d mL_law 1568 ls (.inl z :: .inr (.inr a) :: st) h Q = ((hK h a).1 = 21 ∧ 0 ≤ z ∧ z < (hK h a).2 ∧ WP d mL_law 1569 ls (.inl (hI h a z.toNat) :: st) h Q) := R_iald dL_law_1568
theorem rL_law_1569 {d : Nat} {h : Hp} {Q : Option PV → Hp → Prop} {ls : List (Option PV)}{r0 : PV}{v0 : Nat} {v1 : Int} : WP (d + 1) mL_law 1569 ls (.inl v1 :: .inr (.inr v0) :: [r0]) h Q = ((hK h v0).1 = 12 ∧ WP d mX12_restore 0 [some (.inr (.inr v0)), some (.inl v1), none] [] h (fun r h' => WP (d + 1) mL_law 1572 ls (psh r [r0]) h' Q)) := R_callV (st := .inl v1 :: .inr (.inr v0) :: [r0]) (M := mL_law) (pc := 1569) (kd := 0) (n := 2) (M' := mX12_restore) (as := [.inl v1, .inr (.inr v0)]) (rest := [r0]) (en := [some (.inr (.inr v0)), some (.inl v1), none]) dL_law_1569 rfl (Nat.le_of_ble_eq_true rfl) (Nat.le_of_ble_eq_true rfl) rfl rfl (Nat.le_of_ble_eq_true rfl) rfl rfl rfl
theorem rL_law_1572 {d : Nat} {h : Hp} {Q : Option PV → Hp → Prop} {st : List PV}{ls : List (Option PV)}{a b : Int} : WP d mL_law 1572 ls (.inl b :: .inl a :: st) h Q = (if a = b then WP d mL_law 1600 ls st h Q else WP d mL_law 1575 ls st h Q) := R_icmp_eq dL_law_1572 (by decide)
theorem rL_law_1575 {d : Nat} {h : Hp} {Q : Option PV → Hp → Prop} {st : List PV}{ls : List (Option PV)} : WP d mL_law 1575 ls st h Q = WP d mL_law 1576 ls (.inl (0) :: st) h Q := WP_step dL_law_1575 rfl rfl rfl
theorem rL_law_1576 {d : Nat} {h : Hp} {Q : Option PV → Hp → Prop} {ls : List (Option PV)}{z : Int} : WP d mL_law 1576 ls [.inl z] h Q = ((z = 0 ∨ z = 1) ∧ Q (some (.inl z)) h) := R_zret dL_law_1576 rfl
theorem rL_law_1577 {d : Nat} {h : Hp} {Q : Option PV → Hp → Prop} {st : List PV}{x0 : Option PV} {t : List (Option PV)} {v : Nat} : WP d mL_law 1577 (x0 :: some (.inr (.inr v)) :: t) st h Q = WP d mL_law 1578 (x0 :: some (.inr (.inr v)) :: t) (.inr (.inr v) :: st) h Q := WP_step dL_law_1577 rfl rfl rfl
theorem rL_law_1578 {d : Nat} {h : Hp} {Q : Option PV → Hp → Prop} {st : List PV}{t : List (Option PV)} {v : Nat} : WP d mL_law 1578 (some (.inr (.inr v)) :: t) st h Q = WP d mL_law 1579 (some (.inr (.inr v)) :: t) (.inr (.inr v) :: st) h Q := WP_step dL_law_1578 rfl rfl rfl
theorem rL_law_1579 {d : Nat} {h : Hp} {Q : Option PV → Hp → Prop} {st : List PV}{x0 x1 x2 : Option PV} {t : List (Option PV)} {v : Int} : WP d mL_law 1579 (x0 :: x1 :: x2 :: some (.inl v) :: t) st h Q = WP d mL_law 1580 (x0 :: x1 :: x2 :: some (.inl v) :: t) (.inl v :: st) h Q := WP_step dL_law_1579 rfl rfl rfl
theorem rL_law_1580 {d : Nat} {h : Hp} {Q : Option PV → Hp → Prop} {st : List PV}{ls : List (Option PV)} : WP d mL_law 1580 ls st h Q = WP d mL_law 1581 ls (.inl (1) :: st) h Q := WP_step dL_law_1580 rfl rfl rfl
theorem rL_law_1581 {d : Nat} {h : Hp} {Q : Option PV → Hp → Prop} {st : List PV}{ls : List (Option PV)}{a b : Int} : WP d mL_law 1581 ls (.inl b :: .inl a :: st) h Q = WP d mL_law 1582 ls (.inl (w32 (a + b)) :: st) h Q := WP_step dL_law_1581 rfl rfl rfl
theorem rL_law_1582 {d : Nat} {h : Hp} {Q : Option PV → Hp → Prop} {st : List PV}{ls : List (Option PV)}{a : Nat} {z : Int} : WP d mL_law 1582 ls (.inl z :: .inr (.inr a) :: st) h Q = ((hK h a).1 = 21 ∧ 0 ≤ z ∧ z < (hK h a).2 ∧ WP d mL_law 1583 ls (.inl (hI h a z.toNat) :: st) h Q) := R_iald dL_law_1582
theorem rL_law_1583 {d : Nat} {h : Hp} {Q : Option PV → Hp → Prop} {ls : List (Option PV)}{v0 : Nat} {v1 : Int} : WP (d + 1) mL_law 1583 ls (.inl v1 :: .inr (.inr v0) :: []) h Q = ((hK h v0).1 = 11 ∧ WP d mX11_count 0 [some (.inr (.inr v0)), some (.inl v1)] [] h (fun r h' => WP (d + 1) mL_law 1586 ls (psh r []) h' Q)) := R_callV (st := .inl v1 :: .inr (.inr v0) :: []) (M := mL_law) (pc := 1583) (kd := 0) (n := 2) (M' := mX11_count) (as := [.inl v1, .inr (.inr v0)]) (rest := []) (en := [some (.inr (.inr v0)), some (.inl v1)]) dL_law_1583 rfl (Nat.le_of_ble_eq_true rfl) (Nat.le_of_ble_eq_true rfl) rfl rfl (Nat.le_of_ble_eq_true rfl) rfl rfl rfl
theorem rL_law_1586 {d : Nat} {h : Hp} {Q : Option PV → Hp → Prop} {st : List PV}{x0 x1 : Option PV} {t : List (Option PV)} {v : Nat} : WP d mL_law 1586 (x0 :: x1 :: some (.inr (.inr v)) :: t) st h Q = WP d mL_law 1587 (x0 :: x1 :: some (.inr (.inr v)) :: t) (.inr (.inr v) :: st) h Q := WP_step dL_law_1586 rfl rfl rfl
theorem rL_law_1587 {d : Nat} {h : Hp} {Q : Option PV → Hp → Prop} {st : List PV}{t : List (Option PV)} {v : Nat} : WP d mL_law 1587 (some (.inr (.inr v)) :: t) st h Q = WP d mL_law 1588 (some (.inr (.inr v)) :: t) (.inr (.inr v) :: st) h Q := WP_step dL_law_1587 rfl rfl rfl
theorem rL_law_1588 {d : Nat} {h : Hp} {Q : Option PV → Hp → Prop} {st : List PV}{x0 x1 x2 : Option PV} {t : List (Option PV)} {v : Int} : WP d mL_law 1588 (x0 :: x1 :: x2 :: some (.inl v) :: t) st h Q = WP d mL_law 1589 (x0 :: x1 :: x2 :: some (.inl v) :: t) (.inl v :: st) h Q := WP_step dL_law_1588 rfl rfl rfl
theorem rL_law_1589 {d : Nat} {h : Hp} {Q : Option PV → Hp → Prop} {st : List PV}{ls : List (Option PV)} : WP d mL_law 1589 ls st h Q = WP d mL_law 1590 ls (.inl (1) :: st) h Q := WP_step dL_law_1589 rfl rfl rfl
theorem rL_law_1590 {d : Nat} {h : Hp} {Q : Option PV → Hp → Prop} {st : List PV}{ls : List (Option PV)}{a b : Int} : WP d mL_law 1590 ls (.inl b :: .inl a :: st) h Q = WP d mL_law 1591 ls (.inl (w32 (a + b)) :: st) h Q := WP_step dL_law_1590 rfl rfl rfl
theorem rL_law_1591 {d : Nat} {h : Hp} {Q : Option PV → Hp → Prop} {st : List PV}{ls : List (Option PV)}{a : Nat} {z : Int} : WP d mL_law 1591 ls (.inl z :: .inr (.inr a) :: st) h Q = ((hK h a).1 = 21 ∧ 0 ≤ z ∧ z < (hK h a).2 ∧ WP d mL_law 1592 ls (.inl (hI h a z.toNat) :: st) h Q) := R_iald dL_law_1591
theorem rL_law_1592 {d : Nat} {h : Hp} {Q : Option PV → Hp → Prop} {ls : List (Option PV)}{r0 : PV}{v0 : Nat} {v1 : Int} : WP (d + 1) mL_law 1592 ls (.inl v1 :: .inr (.inr v0) :: [r0]) h Q = ((hK h v0).1 = 12 ∧ WP d mX12_count 0 [some (.inr (.inr v0)), some (.inl v1)] [] h (fun r h' => WP (d + 1) mL_law 1595 ls (psh r [r0]) h' Q)) := R_callV (st := .inl v1 :: .inr (.inr v0) :: [r0]) (M := mL_law) (pc := 1592) (kd := 0) (n := 2) (M' := mX12_count) (as := [.inl v1, .inr (.inr v0)]) (rest := [r0]) (en := [some (.inr (.inr v0)), some (.inl v1)]) dL_law_1592 rfl (Nat.le_of_ble_eq_true rfl) (Nat.le_of_ble_eq_true rfl) rfl rfl (Nat.le_of_ble_eq_true rfl) rfl rfl rfl
theorem rL_law_1595 {d : Nat} {h : Hp} {Q : Option PV → Hp → Prop} {st : List PV}{ls : List (Option PV)}{a b : Int} : WP d mL_law 1595 ls (.inl b :: .inl a :: st) h Q = (if a = b then WP d mL_law 1600 ls st h Q else WP d mL_law 1598 ls st h Q) := R_icmp_eq dL_law_1595 (by decide)
theorem rL_law_1598 {d : Nat} {h : Hp} {Q : Option PV → Hp → Prop} {st : List PV}{ls : List (Option PV)} : WP d mL_law 1598 ls st h Q = WP d mL_law 1599 ls (.inl (0) :: st) h Q := WP_step dL_law_1598 rfl rfl rfl
theorem rL_law_1599 {d : Nat} {h : Hp} {Q : Option PV → Hp → Prop} {ls : List (Option PV)}{z : Int} : WP d mL_law 1599 ls [.inl z] h Q = ((z = 0 ∨ z = 1) ∧ Q (some (.inl z)) h) := R_zret dL_law_1599 rfl
theorem rL_law_1600 {d : Nat} {h : Hp} {Q : Option PV → Hp → Prop} {st : List PV}{x0 x1 x2 : Option PV} {t : List (Option PV)} {v : Int} : WP d mL_law 1600 (x0 :: x1 :: x2 :: some (.inl v) :: t) st h Q = WP d mL_law 1603 (x0 :: x1 :: x2 :: some (.inl (w32 (v + 6))) :: t) st h Q := WP_step dL_law_1600 rfl rfl rfl
theorem rL_law_1603 {d : Nat} {h : Hp} {Q : Option PV → Hp → Prop} {st : List PV}{ls : List (Option PV)} : WP d mL_law 1603 ls st h Q = WP d mL_law 18 ls st h Q := R_goto dL_law_1603 (by decide)
theorem rL_law_1606 {d : Nat} {h : Hp} {Q : Option PV → Hp → Prop} {st : List PV}{ls : List (Option PV)} : WP d mL_law 1606 ls st h Q = WP d mL_law 1607 ls (.inl (1) :: st) h Q := WP_step dL_law_1606 rfl rfl rfl
theorem rL_law_1607 {d : Nat} {h : Hp} {Q : Option PV → Hp → Prop} {ls : List (Option PV)}{z : Int} : WP d mL_law 1607 ls [.inl z] h Q = ((z = 0 ∨ z = 1) ∧ Q (some (.inl z)) h) := R_zret dL_law_1607 rfl
