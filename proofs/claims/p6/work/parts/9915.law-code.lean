/-! the law: its rows (printed by wip/gen/law.py) -/
section RL
theorem lc_20 : (ri_co g_law)[20]? = some (some (.iconst 0, 1)) := by decide +kernel
theorem lc_21 : (ri_co g_law)[21]? = some (some (.istore 4, 2)) := by decide +kernel
theorem lc_23 : (ri_co g_law)[23]? = some (some (.iload 4, 2)) := by decide +kernel
theorem lc_25 : (ri_co g_law)[25]? = some (some (.aload_n 0, 1)) := by decide +kernel
theorem lc_26 : (ri_co g_law)[26]? = some (some (.arraylength, 1)) := by decide +kernel
theorem lc_27 : (ri_co g_law)[27]? = some (some (.bipush 6, 2)) := by decide +kernel
theorem lc_29 : (ri_co g_law)[29]? = some (some (.isub, 1)) := by decide +kernel
theorem lc_30 : (ri_co g_law)[30]? = some (some (.if_icmp .gt 2055, 3)) := by decide +kernel
theorem lc_33 : (ri_co g_law)[33]? = some (some (.aload_n 0, 1)) := by decide +kernel
theorem lc_34 : (ri_co g_law)[34]? = some (some (.iload 4, 2)) := by decide +kernel
theorem lc_36 : (ri_co g_law)[36]? = some (some (.iaload, 1)) := by decide +kernel
theorem lc_37 : (ri_co g_law)[37]? = some (some (.bipush 63, 2)) := by decide +kernel
theorem lc_39 : (ri_co g_law)[39]? = some (some (.iand, 1)) := by decide +kernel
theorem lc_40 : (ri_co g_law)[40]? = some (some (.tableswitch 2039 0 60 #[260, 333, 358, 371, 384, 397, 425, 465, 493, 521, 561, 589, 617, 657, 670, 710, 747, 784, 848, 912, 940, 996, 1036, 1076, 1116, 1144, 1184, 1224, 1264, 1304, 1332, 1348, 1364, 1392, 1420, 1436, 1449, 1477, 1490, 1507, 1522, 1535, 1563, 1591, 1619, 1659, 1687, 1700, 1713, 1741, 1781, 1809, 1837, 1865, 1878, 1906, 1959, 1972, 1997, 2010, 2023], 260)) := by decide +kernel
theorem lc_300 : (ri_co g_law)[300]? = some (some (.aload_n 1, 1)) := by decide +kernel
theorem lc_301 : (ri_co g_law)[301]? = some (some (.aload_n 0, 1)) := by decide +kernel
theorem lc_302 : (ri_co g_law)[302]? = some (some (.iload 4, 2)) := by decide +kernel
theorem lc_304 : (ri_co g_law)[304]? = some (some (.iconst 1, 1)) := by decide +kernel
theorem lc_305 : (ri_co g_law)[305]? = some (some (.iadd, 1)) := by decide +kernel
theorem lc_306 : (ri_co g_law)[306]? = some (some (.iaload, 1)) := by decide +kernel
theorem lc_307 : (ri_co g_law)[307]? = some (some (.aload_n 0, 1)) := by decide +kernel
theorem lc_308 : (ri_co g_law)[308]? = some (some (.iload 4, 2)) := by decide +kernel
theorem lc_310 : (ri_co g_law)[310]? = some (some (.iconst 2, 1)) := by decide +kernel
theorem lc_311 : (ri_co g_law)[311]? = some (some (.iadd, 1)) := by decide +kernel
theorem lc_312 : (ri_co g_law)[312]? = some (some (.iaload, 1)) := by decide +kernel
theorem lc_313 : (ri_co g_law)[313]? = some (some (.aload_n 0, 1)) := by decide +kernel
theorem lc_314 : (ri_co g_law)[314]? = some (some (.iload 4, 2)) := by decide +kernel
theorem lc_316 : (ri_co g_law)[316]? = some (some (.iconst 3, 1)) := by decide +kernel
theorem lc_317 : (ri_co g_law)[317]? = some (some (.iadd, 1)) := by decide +kernel
theorem lc_318 : (ri_co g_law)[318]? = some (some (.iaload, 1)) := by decide +kernel
theorem lc_319 : (ri_co g_law)[319]? = some (some (.aload_n 0, 1)) := by decide +kernel
theorem lc_320 : (ri_co g_law)[320]? = some (some (.iload 4, 2)) := by decide +kernel
theorem lc_322 : (ri_co g_law)[322]? = some (some (.iconst 4, 1)) := by decide +kernel
theorem lc_323 : (ri_co g_law)[323]? = some (some (.iadd, 1)) := by decide +kernel
theorem lc_324 : (ri_co g_law)[324]? = some (some (.iaload, 1)) := by decide +kernel
theorem lc_325 : (ri_co g_law)[325]? = some (some (.aload_n 0, 1)) := by decide +kernel
theorem lc_326 : (ri_co g_law)[326]? = some (some (.iload 4, 2)) := by decide +kernel
theorem lc_328 : (ri_co g_law)[328]? = some (some (.iconst 5, 1)) := by decide +kernel
theorem lc_329 : (ri_co g_law)[329]? = some (some (.iadd, 1)) := by decide +kernel
theorem lc_330 : (ri_co g_law)[330]? = some (some (.iaload, 1)) := by decide +kernel
theorem lc_331 : (ri_co g_law)[331]? = some (some (.invokevirtual 147, 3)) := by decide +kernel
theorem lc_334 : (ri_co g_law)[334]? = some (some (.pop, 1)) := by decide +kernel
theorem lc_335 : (ri_co g_law)[335]? = some (some (.aload_n 2, 1)) := by decide +kernel
theorem lc_336 : (ri_co g_law)[336]? = some (some (.aload_n 0, 1)) := by decide +kernel
theorem lc_337 : (ri_co g_law)[337]? = some (some (.iload 4, 2)) := by decide +kernel
theorem lc_339 : (ri_co g_law)[339]? = some (some (.iconst 1, 1)) := by decide +kernel
theorem lc_340 : (ri_co g_law)[340]? = some (some (.iadd, 1)) := by decide +kernel
theorem lc_341 : (ri_co g_law)[341]? = some (some (.iaload, 1)) := by decide +kernel
theorem lc_342 : (ri_co g_law)[342]? = some (some (.aload_n 0, 1)) := by decide +kernel
theorem lc_343 : (ri_co g_law)[343]? = some (some (.iload 4, 2)) := by decide +kernel
theorem lc_345 : (ri_co g_law)[345]? = some (some (.iconst 2, 1)) := by decide +kernel
theorem lc_346 : (ri_co g_law)[346]? = some (some (.iadd, 1)) := by decide +kernel
theorem lc_347 : (ri_co g_law)[347]? = some (some (.iaload, 1)) := by decide +kernel
theorem lc_348 : (ri_co g_law)[348]? = some (some (.aload_n 0, 1)) := by decide +kernel
theorem lc_349 : (ri_co g_law)[349]? = some (some (.iload 4, 2)) := by decide +kernel
theorem lc_351 : (ri_co g_law)[351]? = some (some (.iconst 3, 1)) := by decide +kernel
theorem lc_352 : (ri_co g_law)[352]? = some (some (.iadd, 1)) := by decide +kernel
theorem lc_353 : (ri_co g_law)[353]? = some (some (.iaload, 1)) := by decide +kernel
theorem lc_354 : (ri_co g_law)[354]? = some (some (.aload_n 0, 1)) := by decide +kernel
theorem lc_355 : (ri_co g_law)[355]? = some (some (.iload 4, 2)) := by decide +kernel
theorem lc_357 : (ri_co g_law)[357]? = some (some (.iconst 4, 1)) := by decide +kernel
theorem lc_358 : (ri_co g_law)[358]? = some (some (.iadd, 1)) := by decide +kernel
theorem lc_359 : (ri_co g_law)[359]? = some (some (.iaload, 1)) := by decide +kernel
theorem lc_360 : (ri_co g_law)[360]? = some (some (.aload_n 0, 1)) := by decide +kernel
theorem lc_361 : (ri_co g_law)[361]? = some (some (.iload 4, 2)) := by decide +kernel
theorem lc_363 : (ri_co g_law)[363]? = some (some (.iconst 5, 1)) := by decide +kernel
theorem lc_364 : (ri_co g_law)[364]? = some (some (.iadd, 1)) := by decide +kernel
theorem lc_365 : (ri_co g_law)[365]? = some (some (.iaload, 1)) := by decide +kernel
theorem lc_366 : (ri_co g_law)[366]? = some (some (.invokevirtual 151, 3)) := by decide +kernel
theorem lc_369 : (ri_co g_law)[369]? = some (some (.pop, 1)) := by decide +kernel
theorem lc_370 : (ri_co g_law)[370]? = some (some (.goto 1709, 3)) := by decide +kernel
theorem lc_373 : (ri_co g_law)[373]? = some (some (.aload_n 1, 1)) := by decide +kernel
theorem lc_374 : (ri_co g_law)[374]? = some (some (.aload_n 0, 1)) := by decide +kernel
theorem lc_375 : (ri_co g_law)[375]? = some (some (.iload 4, 2)) := by decide +kernel
theorem lc_377 : (ri_co g_law)[377]? = some (some (.iconst 1, 1)) := by decide +kernel
theorem lc_378 : (ri_co g_law)[378]? = some (some (.iadd, 1)) := by decide +kernel
theorem lc_379 : (ri_co g_law)[379]? = some (some (.iaload, 1)) := by decide +kernel
theorem lc_380 : (ri_co g_law)[380]? = some (some (.invokevirtual 152, 3)) := by decide +kernel
theorem lc_383 : (ri_co g_law)[383]? = some (some (.pop, 1)) := by decide +kernel
theorem lc_384 : (ri_co g_law)[384]? = some (some (.aload_n 2, 1)) := by decide +kernel
theorem lc_385 : (ri_co g_law)[385]? = some (some (.aload_n 0, 1)) := by decide +kernel
theorem lc_386 : (ri_co g_law)[386]? = some (some (.iload 4, 2)) := by decide +kernel
theorem lc_388 : (ri_co g_law)[388]? = some (some (.iconst 1, 1)) := by decide +kernel
theorem lc_389 : (ri_co g_law)[389]? = some (some (.iadd, 1)) := by decide +kernel
theorem lc_390 : (ri_co g_law)[390]? = some (some (.iaload, 1)) := by decide +kernel
theorem lc_391 : (ri_co g_law)[391]? = some (some (.invokevirtual 155, 3)) := by decide +kernel
theorem lc_394 : (ri_co g_law)[394]? = some (some (.pop, 1)) := by decide +kernel
theorem lc_395 : (ri_co g_law)[395]? = some (some (.goto 1684, 3)) := by decide +kernel
theorem lc_398 : (ri_co g_law)[398]? = some (some (.aload_n 1, 1)) := by decide +kernel
theorem lc_399 : (ri_co g_law)[399]? = some (some (.invokevirtual 156, 3)) := by decide +kernel
theorem lc_402 : (ri_co g_law)[402]? = some (some (.pop, 1)) := by decide +kernel
theorem lc_403 : (ri_co g_law)[403]? = some (some (.aload_n 2, 1)) := by decide +kernel
theorem lc_404 : (ri_co g_law)[404]? = some (some (.invokevirtual 159, 3)) := by decide +kernel
theorem lc_407 : (ri_co g_law)[407]? = some (some (.pop, 1)) := by decide +kernel
theorem lc_408 : (ri_co g_law)[408]? = some (some (.goto 1671, 3)) := by decide +kernel
theorem lc_411 : (ri_co g_law)[411]? = some (some (.aload_n 1, 1)) := by decide +kernel
theorem lc_412 : (ri_co g_law)[412]? = some (some (.invokevirtual 160, 3)) := by decide +kernel
theorem lc_415 : (ri_co g_law)[415]? = some (some (.pop, 1)) := by decide +kernel
theorem lc_416 : (ri_co g_law)[416]? = some (some (.aload_n 2, 1)) := by decide +kernel
theorem lc_417 : (ri_co g_law)[417]? = some (some (.invokevirtual 163, 3)) := by decide +kernel
theorem lc_420 : (ri_co g_law)[420]? = some (some (.pop, 1)) := by decide +kernel
theorem lc_421 : (ri_co g_law)[421]? = some (some (.goto 1658, 3)) := by decide +kernel
theorem lc_424 : (ri_co g_law)[424]? = some (some (.aload_n 1, 1)) := by decide +kernel
theorem lc_425 : (ri_co g_law)[425]? = some (some (.invokevirtual 164, 3)) := by decide +kernel
theorem lc_428 : (ri_co g_law)[428]? = some (some (.aload_n 2, 1)) := by decide +kernel
theorem lc_429 : (ri_co g_law)[429]? = some (some (.invokevirtual 167, 3)) := by decide +kernel
theorem lc_432 : (ri_co g_law)[432]? = some (some (.if_icmp .eq 1647, 3)) := by decide +kernel
theorem lc_435 : (ri_co g_law)[435]? = some (some (.iconst 0, 1)) := by decide +kernel
theorem lc_436 : (ri_co g_law)[436]? = some (some (.ireturn, 1)) := by decide +kernel
theorem lc_437 : (ri_co g_law)[437]? = some (some (.aload_n 1, 1)) := by decide +kernel
theorem lc_438 : (ri_co g_law)[438]? = some (some (.aload_n 0, 1)) := by decide +kernel
theorem lc_439 : (ri_co g_law)[439]? = some (some (.iload 4, 2)) := by decide +kernel
theorem lc_441 : (ri_co g_law)[441]? = some (some (.iconst 1, 1)) := by decide +kernel
theorem lc_442 : (ri_co g_law)[442]? = some (some (.iadd, 1)) := by decide +kernel
theorem lc_443 : (ri_co g_law)[443]? = some (some (.iaload, 1)) := by decide +kernel
theorem lc_444 : (ri_co g_law)[444]? = some (some (.aload_n 3, 1)) := by decide +kernel
theorem lc_445 : (ri_co g_law)[445]? = some (some (.invokestatic 168, 3)) := by decide +kernel
theorem lc_448 : (ri_co g_law)[448]? = some (some (.istore 5, 2)) := by decide +kernel
theorem lc_450 : (ri_co g_law)[450]? = some (some (.aload_n 2, 1)) := by decide +kernel
theorem lc_451 : (ri_co g_law)[451]? = some (some (.aload_n 0, 1)) := by decide +kernel
theorem lc_452 : (ri_co g_law)[452]? = some (some (.iload 4, 2)) := by decide +kernel
theorem lc_454 : (ri_co g_law)[454]? = some (some (.iconst 1, 1)) := by decide +kernel
theorem lc_455 : (ri_co g_law)[455]? = some (some (.iadd, 1)) := by decide +kernel
theorem lc_456 : (ri_co g_law)[456]? = some (some (.iaload, 1)) := by decide +kernel
theorem lc_457 : (ri_co g_law)[457]? = some (some (.invokevirtual 173, 3)) := by decide +kernel
theorem lc_460 : (ri_co g_law)[460]? = some (some (.istore 6, 2)) := by decide +kernel
theorem lc_462 : (ri_co g_law)[462]? = some (some (.goto 1617, 3)) := by decide +kernel
theorem lc_465 : (ri_co g_law)[465]? = some (some (.aload_n 1, 1)) := by decide +kernel
theorem lc_466 : (ri_co g_law)[466]? = some (some (.aload_n 0, 1)) := by decide +kernel
theorem lc_467 : (ri_co g_law)[467]? = some (some (.iload 4, 2)) := by decide +kernel
theorem lc_469 : (ri_co g_law)[469]? = some (some (.iconst 1, 1)) := by decide +kernel
theorem lc_470 : (ri_co g_law)[470]? = some (some (.iadd, 1)) := by decide +kernel
theorem lc_471 : (ri_co g_law)[471]? = some (some (.iaload, 1)) := by decide +kernel
theorem lc_472 : (ri_co g_law)[472]? = some (some (.aload_n 0, 1)) := by decide +kernel
theorem lc_473 : (ri_co g_law)[473]? = some (some (.iload 4, 2)) := by decide +kernel
theorem lc_475 : (ri_co g_law)[475]? = some (some (.iconst 2, 1)) := by decide +kernel
theorem lc_476 : (ri_co g_law)[476]? = some (some (.iadd, 1)) := by decide +kernel
theorem lc_477 : (ri_co g_law)[477]? = some (some (.iaload, 1)) := by decide +kernel
theorem lc_478 : (ri_co g_law)[478]? = some (some (.aload_n 3, 1)) := by decide +kernel
theorem lc_479 : (ri_co g_law)[479]? = some (some (.invokestatic 174, 3)) := by decide +kernel
theorem lc_482 : (ri_co g_law)[482]? = some (some (.istore 5, 2)) := by decide +kernel
theorem lc_484 : (ri_co g_law)[484]? = some (some (.aload_n 2, 1)) := by decide +kernel
theorem lc_485 : (ri_co g_law)[485]? = some (some (.aload_n 0, 1)) := by decide +kernel
theorem lc_486 : (ri_co g_law)[486]? = some (some (.iload 4, 2)) := by decide +kernel
theorem lc_488 : (ri_co g_law)[488]? = some (some (.iconst 1, 1)) := by decide +kernel
theorem lc_489 : (ri_co g_law)[489]? = some (some (.iadd, 1)) := by decide +kernel
theorem lc_490 : (ri_co g_law)[490]? = some (some (.iaload, 1)) := by decide +kernel
theorem lc_491 : (ri_co g_law)[491]? = some (some (.aload_n 0, 1)) := by decide +kernel
theorem lc_492 : (ri_co g_law)[492]? = some (some (.iload 4, 2)) := by decide +kernel
theorem lc_494 : (ri_co g_law)[494]? = some (some (.iconst 2, 1)) := by decide +kernel
theorem lc_495 : (ri_co g_law)[495]? = some (some (.iadd, 1)) := by decide +kernel
theorem lc_496 : (ri_co g_law)[496]? = some (some (.iaload, 1)) := by decide +kernel
theorem lc_497 : (ri_co g_law)[497]? = some (some (.invokevirtual 177, 3)) := by decide +kernel
theorem lc_500 : (ri_co g_law)[500]? = some (some (.istore 6, 2)) := by decide +kernel
theorem lc_502 : (ri_co g_law)[502]? = some (some (.goto 1577, 3)) := by decide +kernel
theorem lc_505 : (ri_co g_law)[505]? = some (some (.aload_n 1, 1)) := by decide +kernel
theorem lc_506 : (ri_co g_law)[506]? = some (some (.aload_n 0, 1)) := by decide +kernel
theorem lc_507 : (ri_co g_law)[507]? = some (some (.iload 4, 2)) := by decide +kernel
theorem lc_509 : (ri_co g_law)[509]? = some (some (.iconst 1, 1)) := by decide +kernel
theorem lc_510 : (ri_co g_law)[510]? = some (some (.iadd, 1)) := by decide +kernel
theorem lc_511 : (ri_co g_law)[511]? = some (some (.iaload, 1)) := by decide +kernel
theorem lc_512 : (ri_co g_law)[512]? = some (some (.aload_n 3, 1)) := by decide +kernel
theorem lc_513 : (ri_co g_law)[513]? = some (some (.invokestatic 178, 3)) := by decide +kernel
theorem lc_516 : (ri_co g_law)[516]? = some (some (.istore 5, 2)) := by decide +kernel
theorem lc_518 : (ri_co g_law)[518]? = some (some (.aload_n 2, 1)) := by decide +kernel
theorem lc_519 : (ri_co g_law)[519]? = some (some (.aload_n 0, 1)) := by decide +kernel
theorem lc_520 : (ri_co g_law)[520]? = some (some (.iload 4, 2)) := by decide +kernel
theorem lc_522 : (ri_co g_law)[522]? = some (some (.iconst 1, 1)) := by decide +kernel
theorem lc_523 : (ri_co g_law)[523]? = some (some (.iadd, 1)) := by decide +kernel
theorem lc_524 : (ri_co g_law)[524]? = some (some (.iaload, 1)) := by decide +kernel
theorem lc_525 : (ri_co g_law)[525]? = some (some (.invokevirtual 180, 3)) := by decide +kernel
theorem lc_528 : (ri_co g_law)[528]? = some (some (.istore 6, 2)) := by decide +kernel
theorem lc_530 : (ri_co g_law)[530]? = some (some (.goto 1549, 3)) := by decide +kernel
theorem lc_533 : (ri_co g_law)[533]? = some (some (.aload_n 1, 1)) := by decide +kernel
theorem lc_534 : (ri_co g_law)[534]? = some (some (.aload_n 0, 1)) := by decide +kernel
theorem lc_535 : (ri_co g_law)[535]? = some (some (.iload 4, 2)) := by decide +kernel
theorem lc_537 : (ri_co g_law)[537]? = some (some (.iconst 1, 1)) := by decide +kernel
theorem lc_538 : (ri_co g_law)[538]? = some (some (.iadd, 1)) := by decide +kernel
theorem lc_539 : (ri_co g_law)[539]? = some (some (.iaload, 1)) := by decide +kernel
theorem lc_540 : (ri_co g_law)[540]? = some (some (.aload_n 3, 1)) := by decide +kernel
theorem lc_541 : (ri_co g_law)[541]? = some (some (.invokestatic 181, 3)) := by decide +kernel
theorem lc_544 : (ri_co g_law)[544]? = some (some (.istore 5, 2)) := by decide +kernel
theorem lc_546 : (ri_co g_law)[546]? = some (some (.aload_n 2, 1)) := by decide +kernel
theorem lc_547 : (ri_co g_law)[547]? = some (some (.aload_n 0, 1)) := by decide +kernel
theorem lc_548 : (ri_co g_law)[548]? = some (some (.iload 4, 2)) := by decide +kernel
theorem lc_550 : (ri_co g_law)[550]? = some (some (.iconst 1, 1)) := by decide +kernel
theorem lc_551 : (ri_co g_law)[551]? = some (some (.iadd, 1)) := by decide +kernel
theorem lc_552 : (ri_co g_law)[552]? = some (some (.iaload, 1)) := by decide +kernel
theorem lc_553 : (ri_co g_law)[553]? = some (some (.invokevirtual 183, 3)) := by decide +kernel
theorem lc_556 : (ri_co g_law)[556]? = some (some (.istore 6, 2)) := by decide +kernel
theorem lc_558 : (ri_co g_law)[558]? = some (some (.goto 1521, 3)) := by decide +kernel
theorem lc_561 : (ri_co g_law)[561]? = some (some (.aload_n 1, 1)) := by decide +kernel
theorem lc_562 : (ri_co g_law)[562]? = some (some (.aload_n 0, 1)) := by decide +kernel
theorem lc_563 : (ri_co g_law)[563]? = some (some (.iload 4, 2)) := by decide +kernel
theorem lc_565 : (ri_co g_law)[565]? = some (some (.iconst 1, 1)) := by decide +kernel
theorem lc_566 : (ri_co g_law)[566]? = some (some (.iadd, 1)) := by decide +kernel
theorem lc_567 : (ri_co g_law)[567]? = some (some (.iaload, 1)) := by decide +kernel
theorem lc_568 : (ri_co g_law)[568]? = some (some (.aload_n 0, 1)) := by decide +kernel
theorem lc_569 : (ri_co g_law)[569]? = some (some (.iload 4, 2)) := by decide +kernel
theorem lc_571 : (ri_co g_law)[571]? = some (some (.iconst 2, 1)) := by decide +kernel
theorem lc_572 : (ri_co g_law)[572]? = some (some (.iadd, 1)) := by decide +kernel
theorem lc_573 : (ri_co g_law)[573]? = some (some (.iaload, 1)) := by decide +kernel
theorem lc_574 : (ri_co g_law)[574]? = some (some (.aload_n 3, 1)) := by decide +kernel
theorem lc_575 : (ri_co g_law)[575]? = some (some (.invokestatic 184, 3)) := by decide +kernel
theorem lc_578 : (ri_co g_law)[578]? = some (some (.istore 5, 2)) := by decide +kernel
theorem lc_580 : (ri_co g_law)[580]? = some (some (.aload_n 2, 1)) := by decide +kernel
theorem lc_581 : (ri_co g_law)[581]? = some (some (.aload_n 0, 1)) := by decide +kernel
theorem lc_582 : (ri_co g_law)[582]? = some (some (.iload 4, 2)) := by decide +kernel
theorem lc_584 : (ri_co g_law)[584]? = some (some (.iconst 1, 1)) := by decide +kernel
theorem lc_585 : (ri_co g_law)[585]? = some (some (.iadd, 1)) := by decide +kernel
theorem lc_586 : (ri_co g_law)[586]? = some (some (.iaload, 1)) := by decide +kernel
theorem lc_587 : (ri_co g_law)[587]? = some (some (.aload_n 0, 1)) := by decide +kernel
theorem lc_588 : (ri_co g_law)[588]? = some (some (.iload 4, 2)) := by decide +kernel
theorem lc_590 : (ri_co g_law)[590]? = some (some (.iconst 2, 1)) := by decide +kernel
theorem lc_591 : (ri_co g_law)[591]? = some (some (.iadd, 1)) := by decide +kernel
theorem lc_592 : (ri_co g_law)[592]? = some (some (.iaload, 1)) := by decide +kernel
theorem lc_593 : (ri_co g_law)[593]? = some (some (.invokevirtual 186, 3)) := by decide +kernel
theorem lc_596 : (ri_co g_law)[596]? = some (some (.istore 6, 2)) := by decide +kernel
theorem lc_598 : (ri_co g_law)[598]? = some (some (.goto 1481, 3)) := by decide +kernel
theorem lc_601 : (ri_co g_law)[601]? = some (some (.aload_n 1, 1)) := by decide +kernel
theorem lc_602 : (ri_co g_law)[602]? = some (some (.aload_n 0, 1)) := by decide +kernel
theorem lc_603 : (ri_co g_law)[603]? = some (some (.iload 4, 2)) := by decide +kernel
theorem lc_605 : (ri_co g_law)[605]? = some (some (.iconst 1, 1)) := by decide +kernel
theorem lc_606 : (ri_co g_law)[606]? = some (some (.iadd, 1)) := by decide +kernel
theorem lc_607 : (ri_co g_law)[607]? = some (some (.iaload, 1)) := by decide +kernel
theorem lc_608 : (ri_co g_law)[608]? = some (some (.aload_n 3, 1)) := by decide +kernel
theorem lc_609 : (ri_co g_law)[609]? = some (some (.invokestatic 187, 3)) := by decide +kernel
theorem lc_612 : (ri_co g_law)[612]? = some (some (.istore 5, 2)) := by decide +kernel
theorem lc_614 : (ri_co g_law)[614]? = some (some (.aload_n 2, 1)) := by decide +kernel
theorem lc_615 : (ri_co g_law)[615]? = some (some (.aload_n 0, 1)) := by decide +kernel
theorem lc_616 : (ri_co g_law)[616]? = some (some (.iload 4, 2)) := by decide +kernel
theorem lc_618 : (ri_co g_law)[618]? = some (some (.iconst 1, 1)) := by decide +kernel
theorem lc_619 : (ri_co g_law)[619]? = some (some (.iadd, 1)) := by decide +kernel
theorem lc_620 : (ri_co g_law)[620]? = some (some (.iaload, 1)) := by decide +kernel
theorem lc_621 : (ri_co g_law)[621]? = some (some (.invokevirtual 189, 3)) := by decide +kernel
theorem lc_624 : (ri_co g_law)[624]? = some (some (.istore 6, 2)) := by decide +kernel
theorem lc_626 : (ri_co g_law)[626]? = some (some (.goto 1453, 3)) := by decide +kernel
theorem lc_629 : (ri_co g_law)[629]? = some (some (.aload_n 1, 1)) := by decide +kernel
theorem lc_630 : (ri_co g_law)[630]? = some (some (.aload_n 0, 1)) := by decide +kernel
theorem lc_631 : (ri_co g_law)[631]? = some (some (.iload 4, 2)) := by decide +kernel
theorem lc_633 : (ri_co g_law)[633]? = some (some (.iconst 1, 1)) := by decide +kernel
theorem lc_634 : (ri_co g_law)[634]? = some (some (.iadd, 1)) := by decide +kernel
theorem lc_635 : (ri_co g_law)[635]? = some (some (.iaload, 1)) := by decide +kernel
theorem lc_636 : (ri_co g_law)[636]? = some (some (.aload_n 3, 1)) := by decide +kernel
theorem lc_637 : (ri_co g_law)[637]? = some (some (.invokestatic 190, 3)) := by decide +kernel
theorem lc_640 : (ri_co g_law)[640]? = some (some (.istore 5, 2)) := by decide +kernel
theorem lc_642 : (ri_co g_law)[642]? = some (some (.aload_n 2, 1)) := by decide +kernel
theorem lc_643 : (ri_co g_law)[643]? = some (some (.aload_n 0, 1)) := by decide +kernel
theorem lc_644 : (ri_co g_law)[644]? = some (some (.iload 4, 2)) := by decide +kernel
theorem lc_646 : (ri_co g_law)[646]? = some (some (.iconst 1, 1)) := by decide +kernel
theorem lc_647 : (ri_co g_law)[647]? = some (some (.iadd, 1)) := by decide +kernel
theorem lc_648 : (ri_co g_law)[648]? = some (some (.iaload, 1)) := by decide +kernel
theorem lc_649 : (ri_co g_law)[649]? = some (some (.invokevirtual 192, 3)) := by decide +kernel
theorem lc_652 : (ri_co g_law)[652]? = some (some (.istore 6, 2)) := by decide +kernel
theorem lc_654 : (ri_co g_law)[654]? = some (some (.goto 1425, 3)) := by decide +kernel
theorem lc_657 : (ri_co g_law)[657]? = some (some (.aload_n 1, 1)) := by decide +kernel
theorem lc_658 : (ri_co g_law)[658]? = some (some (.aload_n 0, 1)) := by decide +kernel
theorem lc_659 : (ri_co g_law)[659]? = some (some (.iload 4, 2)) := by decide +kernel
theorem lc_661 : (ri_co g_law)[661]? = some (some (.iconst 1, 1)) := by decide +kernel
theorem lc_662 : (ri_co g_law)[662]? = some (some (.iadd, 1)) := by decide +kernel
theorem lc_663 : (ri_co g_law)[663]? = some (some (.iaload, 1)) := by decide +kernel
theorem lc_664 : (ri_co g_law)[664]? = some (some (.aload_n 0, 1)) := by decide +kernel
theorem lc_665 : (ri_co g_law)[665]? = some (some (.iload 4, 2)) := by decide +kernel
theorem lc_667 : (ri_co g_law)[667]? = some (some (.iconst 2, 1)) := by decide +kernel
theorem lc_668 : (ri_co g_law)[668]? = some (some (.iadd, 1)) := by decide +kernel
theorem lc_669 : (ri_co g_law)[669]? = some (some (.iaload, 1)) := by decide +kernel
theorem lc_670 : (ri_co g_law)[670]? = some (some (.aload_n 3, 1)) := by decide +kernel
theorem lc_671 : (ri_co g_law)[671]? = some (some (.invokestatic 193, 3)) := by decide +kernel
theorem lc_674 : (ri_co g_law)[674]? = some (some (.istore 5, 2)) := by decide +kernel
theorem lc_676 : (ri_co g_law)[676]? = some (some (.aload_n 2, 1)) := by decide +kernel
theorem lc_677 : (ri_co g_law)[677]? = some (some (.aload_n 0, 1)) := by decide +kernel
theorem lc_678 : (ri_co g_law)[678]? = some (some (.iload 4, 2)) := by decide +kernel
theorem lc_680 : (ri_co g_law)[680]? = some (some (.iconst 1, 1)) := by decide +kernel
theorem lc_681 : (ri_co g_law)[681]? = some (some (.iadd, 1)) := by decide +kernel
theorem lc_682 : (ri_co g_law)[682]? = some (some (.iaload, 1)) := by decide +kernel
theorem lc_683 : (ri_co g_law)[683]? = some (some (.aload_n 0, 1)) := by decide +kernel
theorem lc_684 : (ri_co g_law)[684]? = some (some (.iload 4, 2)) := by decide +kernel
theorem lc_686 : (ri_co g_law)[686]? = some (some (.iconst 2, 1)) := by decide +kernel
theorem lc_687 : (ri_co g_law)[687]? = some (some (.iadd, 1)) := by decide +kernel
theorem lc_688 : (ri_co g_law)[688]? = some (some (.iaload, 1)) := by decide +kernel
theorem lc_689 : (ri_co g_law)[689]? = some (some (.invokevirtual 195, 3)) := by decide +kernel
theorem lc_692 : (ri_co g_law)[692]? = some (some (.istore 6, 2)) := by decide +kernel
theorem lc_694 : (ri_co g_law)[694]? = some (some (.goto 1385, 3)) := by decide +kernel
theorem lc_697 : (ri_co g_law)[697]? = some (some (.aload_n 1, 1)) := by decide +kernel
theorem lc_698 : (ri_co g_law)[698]? = some (some (.invokevirtual 196, 3)) := by decide +kernel
theorem lc_701 : (ri_co g_law)[701]? = some (some (.pop, 1)) := by decide +kernel
theorem lc_702 : (ri_co g_law)[702]? = some (some (.aload_n 2, 1)) := by decide +kernel
theorem lc_703 : (ri_co g_law)[703]? = some (some (.invokevirtual 199, 3)) := by decide +kernel
theorem lc_706 : (ri_co g_law)[706]? = some (some (.pop, 1)) := by decide +kernel
theorem lc_707 : (ri_co g_law)[707]? = some (some (.goto 1372, 3)) := by decide +kernel
theorem lc_710 : (ri_co g_law)[710]? = some (some (.aload_n 1, 1)) := by decide +kernel
theorem lc_711 : (ri_co g_law)[711]? = some (some (.aload_n 0, 1)) := by decide +kernel
theorem lc_712 : (ri_co g_law)[712]? = some (some (.iload 4, 2)) := by decide +kernel
theorem lc_714 : (ri_co g_law)[714]? = some (some (.iconst 1, 1)) := by decide +kernel
theorem lc_715 : (ri_co g_law)[715]? = some (some (.iadd, 1)) := by decide +kernel
theorem lc_716 : (ri_co g_law)[716]? = some (some (.iaload, 1)) := by decide +kernel
theorem lc_717 : (ri_co g_law)[717]? = some (some (.aload_n 0, 1)) := by decide +kernel
theorem lc_718 : (ri_co g_law)[718]? = some (some (.iload 4, 2)) := by decide +kernel
theorem lc_720 : (ri_co g_law)[720]? = some (some (.iconst 2, 1)) := by decide +kernel
theorem lc_721 : (ri_co g_law)[721]? = some (some (.iadd, 1)) := by decide +kernel
theorem lc_722 : (ri_co g_law)[722]? = some (some (.iaload, 1)) := by decide +kernel
theorem lc_723 : (ri_co g_law)[723]? = some (some (.aload_n 3, 1)) := by decide +kernel
theorem lc_724 : (ri_co g_law)[724]? = some (some (.invokestatic 200, 3)) := by decide +kernel
theorem lc_727 : (ri_co g_law)[727]? = some (some (.istore 5, 2)) := by decide +kernel
theorem lc_729 : (ri_co g_law)[729]? = some (some (.aload_n 2, 1)) := by decide +kernel
theorem lc_730 : (ri_co g_law)[730]? = some (some (.aload_n 0, 1)) := by decide +kernel
theorem lc_731 : (ri_co g_law)[731]? = some (some (.iload 4, 2)) := by decide +kernel
theorem lc_733 : (ri_co g_law)[733]? = some (some (.iconst 1, 1)) := by decide +kernel
theorem lc_734 : (ri_co g_law)[734]? = some (some (.iadd, 1)) := by decide +kernel
theorem lc_735 : (ri_co g_law)[735]? = some (some (.iaload, 1)) := by decide +kernel
theorem lc_736 : (ri_co g_law)[736]? = some (some (.aload_n 0, 1)) := by decide +kernel
theorem lc_737 : (ri_co g_law)[737]? = some (some (.iload 4, 2)) := by decide +kernel
theorem lc_739 : (ri_co g_law)[739]? = some (some (.iconst 2, 1)) := by decide +kernel
theorem lc_740 : (ri_co g_law)[740]? = some (some (.iadd, 1)) := by decide +kernel
theorem lc_741 : (ri_co g_law)[741]? = some (some (.iaload, 1)) := by decide +kernel
theorem lc_742 : (ri_co g_law)[742]? = some (some (.invokevirtual 202, 3)) := by decide +kernel
theorem lc_745 : (ri_co g_law)[745]? = some (some (.istore 6, 2)) := by decide +kernel
theorem lc_747 : (ri_co g_law)[747]? = some (some (.goto 1332, 3)) := by decide +kernel
theorem lc_750 : (ri_co g_law)[750]? = some (some (.aload_n 1, 1)) := by decide +kernel
theorem lc_751 : (ri_co g_law)[751]? = some (some (.aload_n 0, 1)) := by decide +kernel
theorem lc_752 : (ri_co g_law)[752]? = some (some (.iload 4, 2)) := by decide +kernel
theorem lc_754 : (ri_co g_law)[754]? = some (some (.iconst 1, 1)) := by decide +kernel
theorem lc_755 : (ri_co g_law)[755]? = some (some (.iadd, 1)) := by decide +kernel
theorem lc_756 : (ri_co g_law)[756]? = some (some (.iaload, 1)) := by decide +kernel
theorem lc_757 : (ri_co g_law)[757]? = some (some (.aload_n 0, 1)) := by decide +kernel
theorem lc_758 : (ri_co g_law)[758]? = some (some (.iload 4, 2)) := by decide +kernel
theorem lc_760 : (ri_co g_law)[760]? = some (some (.iconst 2, 1)) := by decide +kernel
theorem lc_761 : (ri_co g_law)[761]? = some (some (.iadd, 1)) := by decide +kernel
theorem lc_762 : (ri_co g_law)[762]? = some (some (.iaload, 1)) := by decide +kernel
theorem lc_763 : (ri_co g_law)[763]? = some (some (.invokevirtual 203, 3)) := by decide +kernel
theorem lc_766 : (ri_co g_law)[766]? = some (some (.pop, 1)) := by decide +kernel
theorem lc_767 : (ri_co g_law)[767]? = some (some (.aload_n 2, 1)) := by decide +kernel
theorem lc_768 : (ri_co g_law)[768]? = some (some (.aload_n 0, 1)) := by decide +kernel
theorem lc_769 : (ri_co g_law)[769]? = some (some (.iload 4, 2)) := by decide +kernel
theorem lc_771 : (ri_co g_law)[771]? = some (some (.iconst 1, 1)) := by decide +kernel
theorem lc_772 : (ri_co g_law)[772]? = some (some (.iadd, 1)) := by decide +kernel
theorem lc_773 : (ri_co g_law)[773]? = some (some (.iaload, 1)) := by decide +kernel
theorem lc_774 : (ri_co g_law)[774]? = some (some (.aload_n 0, 1)) := by decide +kernel
theorem lc_775 : (ri_co g_law)[775]? = some (some (.iload 4, 2)) := by decide +kernel
theorem lc_777 : (ri_co g_law)[777]? = some (some (.iconst 2, 1)) := by decide +kernel
theorem lc_778 : (ri_co g_law)[778]? = some (some (.iadd, 1)) := by decide +kernel
theorem lc_779 : (ri_co g_law)[779]? = some (some (.iaload, 1)) := by decide +kernel
theorem lc_780 : (ri_co g_law)[780]? = some (some (.invokevirtual 206, 3)) := by decide +kernel
theorem lc_783 : (ri_co g_law)[783]? = some (some (.pop, 1)) := by decide +kernel
theorem lc_784 : (ri_co g_law)[784]? = some (some (.goto 1295, 3)) := by decide +kernel
theorem lc_787 : (ri_co g_law)[787]? = some (some (.aload_n 1, 1)) := by decide +kernel
theorem lc_788 : (ri_co g_law)[788]? = some (some (.aload_n 0, 1)) := by decide +kernel
theorem lc_789 : (ri_co g_law)[789]? = some (some (.iload 4, 2)) := by decide +kernel
theorem lc_791 : (ri_co g_law)[791]? = some (some (.iconst 1, 1)) := by decide +kernel
theorem lc_792 : (ri_co g_law)[792]? = some (some (.iadd, 1)) := by decide +kernel
theorem lc_793 : (ri_co g_law)[793]? = some (some (.iaload, 1)) := by decide +kernel
theorem lc_794 : (ri_co g_law)[794]? = some (some (.aload_n 0, 1)) := by decide +kernel
theorem lc_795 : (ri_co g_law)[795]? = some (some (.iload 4, 2)) := by decide +kernel
theorem lc_797 : (ri_co g_law)[797]? = some (some (.iconst 2, 1)) := by decide +kernel
theorem lc_798 : (ri_co g_law)[798]? = some (some (.iadd, 1)) := by decide +kernel
theorem lc_799 : (ri_co g_law)[799]? = some (some (.iaload, 1)) := by decide +kernel
theorem lc_800 : (ri_co g_law)[800]? = some (some (.invokevirtual 207, 3)) := by decide +kernel
theorem lc_803 : (ri_co g_law)[803]? = some (some (.pop, 1)) := by decide +kernel
theorem lc_804 : (ri_co g_law)[804]? = some (some (.aload_n 2, 1)) := by decide +kernel
theorem lc_805 : (ri_co g_law)[805]? = some (some (.aload_n 0, 1)) := by decide +kernel
theorem lc_806 : (ri_co g_law)[806]? = some (some (.iload 4, 2)) := by decide +kernel
theorem lc_808 : (ri_co g_law)[808]? = some (some (.iconst 1, 1)) := by decide +kernel
theorem lc_809 : (ri_co g_law)[809]? = some (some (.iadd, 1)) := by decide +kernel
theorem lc_810 : (ri_co g_law)[810]? = some (some (.iaload, 1)) := by decide +kernel
theorem lc_811 : (ri_co g_law)[811]? = some (some (.aload_n 0, 1)) := by decide +kernel
theorem lc_812 : (ri_co g_law)[812]? = some (some (.iload 4, 2)) := by decide +kernel
theorem lc_814 : (ri_co g_law)[814]? = some (some (.iconst 2, 1)) := by decide +kernel
theorem lc_815 : (ri_co g_law)[815]? = some (some (.iadd, 1)) := by decide +kernel
theorem lc_816 : (ri_co g_law)[816]? = some (some (.iaload, 1)) := by decide +kernel
theorem lc_817 : (ri_co g_law)[817]? = some (some (.invokevirtual 210, 3)) := by decide +kernel
theorem lc_820 : (ri_co g_law)[820]? = some (some (.pop, 1)) := by decide +kernel
theorem lc_821 : (ri_co g_law)[821]? = some (some (.goto 1258, 3)) := by decide +kernel
theorem lc_824 : (ri_co g_law)[824]? = some (some (.aload_n 1, 1)) := by decide +kernel
theorem lc_825 : (ri_co g_law)[825]? = some (some (.aload_n 0, 1)) := by decide +kernel
theorem lc_826 : (ri_co g_law)[826]? = some (some (.iload 4, 2)) := by decide +kernel
theorem lc_828 : (ri_co g_law)[828]? = some (some (.iconst 1, 1)) := by decide +kernel
theorem lc_829 : (ri_co g_law)[829]? = some (some (.iadd, 1)) := by decide +kernel
theorem lc_830 : (ri_co g_law)[830]? = some (some (.iaload, 1)) := by decide +kernel
theorem lc_831 : (ri_co g_law)[831]? = some (some (.aload_n 0, 1)) := by decide +kernel
theorem lc_832 : (ri_co g_law)[832]? = some (some (.iload 4, 2)) := by decide +kernel
theorem lc_834 : (ri_co g_law)[834]? = some (some (.iconst 2, 1)) := by decide +kernel
theorem lc_835 : (ri_co g_law)[835]? = some (some (.iadd, 1)) := by decide +kernel
theorem lc_836 : (ri_co g_law)[836]? = some (some (.iaload, 1)) := by decide +kernel
theorem lc_837 : (ri_co g_law)[837]? = some (some (.aload_n 0, 1)) := by decide +kernel
theorem lc_838 : (ri_co g_law)[838]? = some (some (.iload 4, 2)) := by decide +kernel
theorem lc_840 : (ri_co g_law)[840]? = some (some (.iconst 3, 1)) := by decide +kernel
theorem lc_841 : (ri_co g_law)[841]? = some (some (.iadd, 1)) := by decide +kernel
theorem lc_842 : (ri_co g_law)[842]? = some (some (.iaload, 1)) := by decide +kernel
theorem lc_843 : (ri_co g_law)[843]? = some (some (.aload_n 0, 1)) := by decide +kernel
theorem lc_844 : (ri_co g_law)[844]? = some (some (.iload 4, 2)) := by decide +kernel
theorem lc_846 : (ri_co g_law)[846]? = some (some (.iconst 4, 1)) := by decide +kernel
theorem lc_847 : (ri_co g_law)[847]? = some (some (.iadd, 1)) := by decide +kernel
theorem lc_848 : (ri_co g_law)[848]? = some (some (.iaload, 1)) := by decide +kernel
theorem lc_849 : (ri_co g_law)[849]? = some (some (.aload_n 3, 1)) := by decide +kernel
theorem lc_850 : (ri_co g_law)[850]? = some (some (.invokestatic 211, 3)) := by decide +kernel
theorem lc_853 : (ri_co g_law)[853]? = some (some (.istore 5, 2)) := by decide +kernel
theorem lc_855 : (ri_co g_law)[855]? = some (some (.aload_n 2, 1)) := by decide +kernel
theorem lc_856 : (ri_co g_law)[856]? = some (some (.aload_n 0, 1)) := by decide +kernel
theorem lc_857 : (ri_co g_law)[857]? = some (some (.iload 4, 2)) := by decide +kernel
theorem lc_859 : (ri_co g_law)[859]? = some (some (.iconst 1, 1)) := by decide +kernel
theorem lc_860 : (ri_co g_law)[860]? = some (some (.iadd, 1)) := by decide +kernel
theorem lc_861 : (ri_co g_law)[861]? = some (some (.iaload, 1)) := by decide +kernel
theorem lc_862 : (ri_co g_law)[862]? = some (some (.aload_n 0, 1)) := by decide +kernel
theorem lc_863 : (ri_co g_law)[863]? = some (some (.iload 4, 2)) := by decide +kernel
theorem lc_865 : (ri_co g_law)[865]? = some (some (.iconst 2, 1)) := by decide +kernel
theorem lc_866 : (ri_co g_law)[866]? = some (some (.iadd, 1)) := by decide +kernel
theorem lc_867 : (ri_co g_law)[867]? = some (some (.iaload, 1)) := by decide +kernel
theorem lc_868 : (ri_co g_law)[868]? = some (some (.aload_n 0, 1)) := by decide +kernel
theorem lc_869 : (ri_co g_law)[869]? = some (some (.iload 4, 2)) := by decide +kernel
theorem lc_871 : (ri_co g_law)[871]? = some (some (.iconst 3, 1)) := by decide +kernel
theorem lc_872 : (ri_co g_law)[872]? = some (some (.iadd, 1)) := by decide +kernel
theorem lc_873 : (ri_co g_law)[873]? = some (some (.iaload, 1)) := by decide +kernel
theorem lc_874 : (ri_co g_law)[874]? = some (some (.aload_n 0, 1)) := by decide +kernel
theorem lc_875 : (ri_co g_law)[875]? = some (some (.iload 4, 2)) := by decide +kernel
theorem lc_877 : (ri_co g_law)[877]? = some (some (.iconst 4, 1)) := by decide +kernel
theorem lc_878 : (ri_co g_law)[878]? = some (some (.iadd, 1)) := by decide +kernel
theorem lc_879 : (ri_co g_law)[879]? = some (some (.iaload, 1)) := by decide +kernel
theorem lc_880 : (ri_co g_law)[880]? = some (some (.invokevirtual 214, 3)) := by decide +kernel
theorem lc_883 : (ri_co g_law)[883]? = some (some (.istore 6, 2)) := by decide +kernel
theorem lc_885 : (ri_co g_law)[885]? = some (some (.goto 1194, 3)) := by decide +kernel
theorem lc_888 : (ri_co g_law)[888]? = some (some (.aload_n 1, 1)) := by decide +kernel
theorem lc_889 : (ri_co g_law)[889]? = some (some (.aload_n 0, 1)) := by decide +kernel
theorem lc_890 : (ri_co g_law)[890]? = some (some (.iload 4, 2)) := by decide +kernel
theorem lc_892 : (ri_co g_law)[892]? = some (some (.iconst 1, 1)) := by decide +kernel
theorem lc_893 : (ri_co g_law)[893]? = some (some (.iadd, 1)) := by decide +kernel
theorem lc_894 : (ri_co g_law)[894]? = some (some (.iaload, 1)) := by decide +kernel
theorem lc_895 : (ri_co g_law)[895]? = some (some (.aload_n 0, 1)) := by decide +kernel
theorem lc_896 : (ri_co g_law)[896]? = some (some (.iload 4, 2)) := by decide +kernel
theorem lc_898 : (ri_co g_law)[898]? = some (some (.iconst 2, 1)) := by decide +kernel
theorem lc_899 : (ri_co g_law)[899]? = some (some (.iadd, 1)) := by decide +kernel
theorem lc_900 : (ri_co g_law)[900]? = some (some (.iaload, 1)) := by decide +kernel
theorem lc_901 : (ri_co g_law)[901]? = some (some (.aload_n 0, 1)) := by decide +kernel
theorem lc_902 : (ri_co g_law)[902]? = some (some (.iload 4, 2)) := by decide +kernel
theorem lc_904 : (ri_co g_law)[904]? = some (some (.iconst 3, 1)) := by decide +kernel
theorem lc_905 : (ri_co g_law)[905]? = some (some (.iadd, 1)) := by decide +kernel
theorem lc_906 : (ri_co g_law)[906]? = some (some (.iaload, 1)) := by decide +kernel
theorem lc_907 : (ri_co g_law)[907]? = some (some (.aload_n 0, 1)) := by decide +kernel
theorem lc_908 : (ri_co g_law)[908]? = some (some (.iload 4, 2)) := by decide +kernel
theorem lc_910 : (ri_co g_law)[910]? = some (some (.iconst 4, 1)) := by decide +kernel
theorem lc_911 : (ri_co g_law)[911]? = some (some (.iadd, 1)) := by decide +kernel
theorem lc_912 : (ri_co g_law)[912]? = some (some (.iaload, 1)) := by decide +kernel
theorem lc_913 : (ri_co g_law)[913]? = some (some (.aload_n 3, 1)) := by decide +kernel
theorem lc_914 : (ri_co g_law)[914]? = some (some (.invokestatic 215, 3)) := by decide +kernel
theorem lc_917 : (ri_co g_law)[917]? = some (some (.istore 5, 2)) := by decide +kernel
theorem lc_919 : (ri_co g_law)[919]? = some (some (.aload_n 2, 1)) := by decide +kernel
theorem lc_920 : (ri_co g_law)[920]? = some (some (.aload_n 0, 1)) := by decide +kernel
theorem lc_921 : (ri_co g_law)[921]? = some (some (.iload 4, 2)) := by decide +kernel
theorem lc_923 : (ri_co g_law)[923]? = some (some (.iconst 1, 1)) := by decide +kernel
theorem lc_924 : (ri_co g_law)[924]? = some (some (.iadd, 1)) := by decide +kernel
theorem lc_925 : (ri_co g_law)[925]? = some (some (.iaload, 1)) := by decide +kernel
theorem lc_926 : (ri_co g_law)[926]? = some (some (.aload_n 0, 1)) := by decide +kernel
theorem lc_927 : (ri_co g_law)[927]? = some (some (.iload 4, 2)) := by decide +kernel
theorem lc_929 : (ri_co g_law)[929]? = some (some (.iconst 2, 1)) := by decide +kernel
theorem lc_930 : (ri_co g_law)[930]? = some (some (.iadd, 1)) := by decide +kernel
theorem lc_931 : (ri_co g_law)[931]? = some (some (.iaload, 1)) := by decide +kernel
theorem lc_932 : (ri_co g_law)[932]? = some (some (.aload_n 0, 1)) := by decide +kernel
theorem lc_933 : (ri_co g_law)[933]? = some (some (.iload 4, 2)) := by decide +kernel
theorem lc_935 : (ri_co g_law)[935]? = some (some (.iconst 3, 1)) := by decide +kernel
theorem lc_936 : (ri_co g_law)[936]? = some (some (.iadd, 1)) := by decide +kernel
theorem lc_937 : (ri_co g_law)[937]? = some (some (.iaload, 1)) := by decide +kernel
theorem lc_938 : (ri_co g_law)[938]? = some (some (.aload_n 0, 1)) := by decide +kernel
theorem lc_939 : (ri_co g_law)[939]? = some (some (.iload 4, 2)) := by decide +kernel
theorem lc_941 : (ri_co g_law)[941]? = some (some (.iconst 4, 1)) := by decide +kernel
theorem lc_942 : (ri_co g_law)[942]? = some (some (.iadd, 1)) := by decide +kernel
theorem lc_943 : (ri_co g_law)[943]? = some (some (.iaload, 1)) := by decide +kernel
theorem lc_944 : (ri_co g_law)[944]? = some (some (.invokevirtual 217, 3)) := by decide +kernel
theorem lc_947 : (ri_co g_law)[947]? = some (some (.istore 6, 2)) := by decide +kernel
theorem lc_949 : (ri_co g_law)[949]? = some (some (.goto 1130, 3)) := by decide +kernel
theorem lc_952 : (ri_co g_law)[952]? = some (some (.aload_n 1, 1)) := by decide +kernel
theorem lc_953 : (ri_co g_law)[953]? = some (some (.aload_n 0, 1)) := by decide +kernel
theorem lc_954 : (ri_co g_law)[954]? = some (some (.iload 4, 2)) := by decide +kernel
theorem lc_956 : (ri_co g_law)[956]? = some (some (.iconst 1, 1)) := by decide +kernel
theorem lc_957 : (ri_co g_law)[957]? = some (some (.iadd, 1)) := by decide +kernel
theorem lc_958 : (ri_co g_law)[958]? = some (some (.iaload, 1)) := by decide +kernel
theorem lc_959 : (ri_co g_law)[959]? = some (some (.aload_n 3, 1)) := by decide +kernel
theorem lc_960 : (ri_co g_law)[960]? = some (some (.invokestatic 218, 3)) := by decide +kernel
theorem lc_963 : (ri_co g_law)[963]? = some (some (.istore 5, 2)) := by decide +kernel
theorem lc_965 : (ri_co g_law)[965]? = some (some (.aload_n 2, 1)) := by decide +kernel
theorem lc_966 : (ri_co g_law)[966]? = some (some (.aload_n 0, 1)) := by decide +kernel
theorem lc_967 : (ri_co g_law)[967]? = some (some (.iload 4, 2)) := by decide +kernel
theorem lc_969 : (ri_co g_law)[969]? = some (some (.iconst 1, 1)) := by decide +kernel
theorem lc_970 : (ri_co g_law)[970]? = some (some (.iadd, 1)) := by decide +kernel
theorem lc_971 : (ri_co g_law)[971]? = some (some (.iaload, 1)) := by decide +kernel
theorem lc_972 : (ri_co g_law)[972]? = some (some (.invokevirtual 220, 3)) := by decide +kernel
theorem lc_975 : (ri_co g_law)[975]? = some (some (.istore 6, 2)) := by decide +kernel
theorem lc_977 : (ri_co g_law)[977]? = some (some (.goto 1102, 3)) := by decide +kernel
theorem lc_980 : (ri_co g_law)[980]? = some (some (.aload_n 1, 1)) := by decide +kernel
theorem lc_981 : (ri_co g_law)[981]? = some (some (.aload_n 0, 1)) := by decide +kernel
theorem lc_982 : (ri_co g_law)[982]? = some (some (.iload 4, 2)) := by decide +kernel
theorem lc_984 : (ri_co g_law)[984]? = some (some (.iconst 1, 1)) := by decide +kernel
theorem lc_985 : (ri_co g_law)[985]? = some (some (.iadd, 1)) := by decide +kernel
theorem lc_986 : (ri_co g_law)[986]? = some (some (.iaload, 1)) := by decide +kernel
theorem lc_987 : (ri_co g_law)[987]? = some (some (.aload_n 0, 1)) := by decide +kernel
theorem lc_988 : (ri_co g_law)[988]? = some (some (.iload 4, 2)) := by decide +kernel
theorem lc_990 : (ri_co g_law)[990]? = some (some (.iconst 2, 1)) := by decide +kernel
theorem lc_991 : (ri_co g_law)[991]? = some (some (.iadd, 1)) := by decide +kernel
theorem lc_992 : (ri_co g_law)[992]? = some (some (.iaload, 1)) := by decide +kernel
theorem lc_993 : (ri_co g_law)[993]? = some (some (.ifCond .eq 7, 3)) := by decide +kernel
theorem lc_996 : (ri_co g_law)[996]? = some (some (.iconst 1, 1)) := by decide +kernel
theorem lc_997 : (ri_co g_law)[997]? = some (some (.goto 4, 3)) := by decide +kernel
theorem lc_1000 : (ri_co g_law)[1000]? = some (some (.iconst 0, 1)) := by decide +kernel
theorem lc_1001 : (ri_co g_law)[1001]? = some (some (.aload_n 3, 1)) := by decide +kernel
theorem lc_1002 : (ri_co g_law)[1002]? = some (some (.invokestatic 221, 3)) := by decide +kernel
theorem lc_1005 : (ri_co g_law)[1005]? = some (some (.istore 5, 2)) := by decide +kernel
theorem lc_1007 : (ri_co g_law)[1007]? = some (some (.aload_n 2, 1)) := by decide +kernel
theorem lc_1008 : (ri_co g_law)[1008]? = some (some (.aload_n 0, 1)) := by decide +kernel
theorem lc_1009 : (ri_co g_law)[1009]? = some (some (.iload 4, 2)) := by decide +kernel
theorem lc_1011 : (ri_co g_law)[1011]? = some (some (.iconst 1, 1)) := by decide +kernel
theorem lc_1012 : (ri_co g_law)[1012]? = some (some (.iadd, 1)) := by decide +kernel
theorem lc_1013 : (ri_co g_law)[1013]? = some (some (.iaload, 1)) := by decide +kernel
theorem lc_1014 : (ri_co g_law)[1014]? = some (some (.aload_n 0, 1)) := by decide +kernel
theorem lc_1015 : (ri_co g_law)[1015]? = some (some (.iload 4, 2)) := by decide +kernel
theorem lc_1017 : (ri_co g_law)[1017]? = some (some (.iconst 2, 1)) := by decide +kernel
theorem lc_1018 : (ri_co g_law)[1018]? = some (some (.iadd, 1)) := by decide +kernel
theorem lc_1019 : (ri_co g_law)[1019]? = some (some (.iaload, 1)) := by decide +kernel
theorem lc_1020 : (ri_co g_law)[1020]? = some (some (.ifCond .eq 7, 3)) := by decide +kernel
theorem lc_1023 : (ri_co g_law)[1023]? = some (some (.iconst 1, 1)) := by decide +kernel
theorem lc_1024 : (ri_co g_law)[1024]? = some (some (.goto 4, 3)) := by decide +kernel
theorem lc_1027 : (ri_co g_law)[1027]? = some (some (.iconst 0, 1)) := by decide +kernel
theorem lc_1028 : (ri_co g_law)[1028]? = some (some (.invokevirtual 224, 3)) := by decide +kernel
theorem lc_1031 : (ri_co g_law)[1031]? = some (some (.istore 6, 2)) := by decide +kernel
theorem lc_1033 : (ri_co g_law)[1033]? = some (some (.goto 1046, 3)) := by decide +kernel
theorem lc_1036 : (ri_co g_law)[1036]? = some (some (.aload_n 1, 1)) := by decide +kernel
theorem lc_1037 : (ri_co g_law)[1037]? = some (some (.aload_n 0, 1)) := by decide +kernel
theorem lc_1038 : (ri_co g_law)[1038]? = some (some (.iload 4, 2)) := by decide +kernel
theorem lc_1040 : (ri_co g_law)[1040]? = some (some (.iconst 1, 1)) := by decide +kernel
theorem lc_1041 : (ri_co g_law)[1041]? = some (some (.iadd, 1)) := by decide +kernel
theorem lc_1042 : (ri_co g_law)[1042]? = some (some (.iaload, 1)) := by decide +kernel
theorem lc_1043 : (ri_co g_law)[1043]? = some (some (.aload_n 0, 1)) := by decide +kernel
theorem lc_1044 : (ri_co g_law)[1044]? = some (some (.iload 4, 2)) := by decide +kernel
theorem lc_1046 : (ri_co g_law)[1046]? = some (some (.iconst 2, 1)) := by decide +kernel
theorem lc_1047 : (ri_co g_law)[1047]? = some (some (.iadd, 1)) := by decide +kernel
theorem lc_1048 : (ri_co g_law)[1048]? = some (some (.iaload, 1)) := by decide +kernel
theorem lc_1049 : (ri_co g_law)[1049]? = some (some (.aload_n 3, 1)) := by decide +kernel
theorem lc_1050 : (ri_co g_law)[1050]? = some (some (.invokestatic 225, 3)) := by decide +kernel
theorem lc_1053 : (ri_co g_law)[1053]? = some (some (.istore 5, 2)) := by decide +kernel
theorem lc_1055 : (ri_co g_law)[1055]? = some (some (.aload_n 2, 1)) := by decide +kernel
theorem lc_1056 : (ri_co g_law)[1056]? = some (some (.aload_n 0, 1)) := by decide +kernel
theorem lc_1057 : (ri_co g_law)[1057]? = some (some (.iload 4, 2)) := by decide +kernel
theorem lc_1059 : (ri_co g_law)[1059]? = some (some (.iconst 1, 1)) := by decide +kernel
theorem lc_1060 : (ri_co g_law)[1060]? = some (some (.iadd, 1)) := by decide +kernel
theorem lc_1061 : (ri_co g_law)[1061]? = some (some (.iaload, 1)) := by decide +kernel
theorem lc_1062 : (ri_co g_law)[1062]? = some (some (.aload_n 0, 1)) := by decide +kernel
theorem lc_1063 : (ri_co g_law)[1063]? = some (some (.iload 4, 2)) := by decide +kernel
theorem lc_1065 : (ri_co g_law)[1065]? = some (some (.iconst 2, 1)) := by decide +kernel
theorem lc_1066 : (ri_co g_law)[1066]? = some (some (.iadd, 1)) := by decide +kernel
theorem lc_1067 : (ri_co g_law)[1067]? = some (some (.iaload, 1)) := by decide +kernel
theorem lc_1068 : (ri_co g_law)[1068]? = some (some (.invokevirtual 227, 3)) := by decide +kernel
theorem lc_1071 : (ri_co g_law)[1071]? = some (some (.istore 6, 2)) := by decide +kernel
theorem lc_1073 : (ri_co g_law)[1073]? = some (some (.goto 1006, 3)) := by decide +kernel
theorem lc_1076 : (ri_co g_law)[1076]? = some (some (.aload_n 1, 1)) := by decide +kernel
theorem lc_1077 : (ri_co g_law)[1077]? = some (some (.aload_n 0, 1)) := by decide +kernel
theorem lc_1078 : (ri_co g_law)[1078]? = some (some (.iload 4, 2)) := by decide +kernel
theorem lc_1080 : (ri_co g_law)[1080]? = some (some (.iconst 1, 1)) := by decide +kernel
theorem lc_1081 : (ri_co g_law)[1081]? = some (some (.iadd, 1)) := by decide +kernel
theorem lc_1082 : (ri_co g_law)[1082]? = some (some (.iaload, 1)) := by decide +kernel
theorem lc_1083 : (ri_co g_law)[1083]? = some (some (.aload_n 0, 1)) := by decide +kernel
theorem lc_1084 : (ri_co g_law)[1084]? = some (some (.iload 4, 2)) := by decide +kernel
theorem lc_1086 : (ri_co g_law)[1086]? = some (some (.iconst 2, 1)) := by decide +kernel
theorem lc_1087 : (ri_co g_law)[1087]? = some (some (.iadd, 1)) := by decide +kernel
theorem lc_1088 : (ri_co g_law)[1088]? = some (some (.iaload, 1)) := by decide +kernel
theorem lc_1089 : (ri_co g_law)[1089]? = some (some (.aload_n 3, 1)) := by decide +kernel
theorem lc_1090 : (ri_co g_law)[1090]? = some (some (.invokestatic 228, 3)) := by decide +kernel
theorem lc_1093 : (ri_co g_law)[1093]? = some (some (.istore 5, 2)) := by decide +kernel
theorem lc_1095 : (ri_co g_law)[1095]? = some (some (.aload_n 2, 1)) := by decide +kernel
theorem lc_1096 : (ri_co g_law)[1096]? = some (some (.aload_n 0, 1)) := by decide +kernel
theorem lc_1097 : (ri_co g_law)[1097]? = some (some (.iload 4, 2)) := by decide +kernel
theorem lc_1099 : (ri_co g_law)[1099]? = some (some (.iconst 1, 1)) := by decide +kernel
theorem lc_1100 : (ri_co g_law)[1100]? = some (some (.iadd, 1)) := by decide +kernel
theorem lc_1101 : (ri_co g_law)[1101]? = some (some (.iaload, 1)) := by decide +kernel
theorem lc_1102 : (ri_co g_law)[1102]? = some (some (.aload_n 0, 1)) := by decide +kernel
theorem lc_1103 : (ri_co g_law)[1103]? = some (some (.iload 4, 2)) := by decide +kernel
theorem lc_1105 : (ri_co g_law)[1105]? = some (some (.iconst 2, 1)) := by decide +kernel
theorem lc_1106 : (ri_co g_law)[1106]? = some (some (.iadd, 1)) := by decide +kernel
theorem lc_1107 : (ri_co g_law)[1107]? = some (some (.iaload, 1)) := by decide +kernel
theorem lc_1108 : (ri_co g_law)[1108]? = some (some (.invokevirtual 230, 3)) := by decide +kernel
theorem lc_1111 : (ri_co g_law)[1111]? = some (some (.istore 6, 2)) := by decide +kernel
theorem lc_1113 : (ri_co g_law)[1113]? = some (some (.goto 966, 3)) := by decide +kernel
theorem lc_1116 : (ri_co g_law)[1116]? = some (some (.aload_n 1, 1)) := by decide +kernel
theorem lc_1117 : (ri_co g_law)[1117]? = some (some (.aload_n 0, 1)) := by decide +kernel
theorem lc_1118 : (ri_co g_law)[1118]? = some (some (.iload 4, 2)) := by decide +kernel
theorem lc_1120 : (ri_co g_law)[1120]? = some (some (.iconst 1, 1)) := by decide +kernel
theorem lc_1121 : (ri_co g_law)[1121]? = some (some (.iadd, 1)) := by decide +kernel
theorem lc_1122 : (ri_co g_law)[1122]? = some (some (.iaload, 1)) := by decide +kernel
theorem lc_1123 : (ri_co g_law)[1123]? = some (some (.aload_n 0, 1)) := by decide +kernel
theorem lc_1124 : (ri_co g_law)[1124]? = some (some (.iload 4, 2)) := by decide +kernel
theorem lc_1126 : (ri_co g_law)[1126]? = some (some (.iconst 2, 1)) := by decide +kernel
theorem lc_1127 : (ri_co g_law)[1127]? = some (some (.iadd, 1)) := by decide +kernel
theorem lc_1128 : (ri_co g_law)[1128]? = some (some (.iaload, 1)) := by decide +kernel
theorem lc_1129 : (ri_co g_law)[1129]? = some (some (.aload_n 3, 1)) := by decide +kernel
theorem lc_1130 : (ri_co g_law)[1130]? = some (some (.invokestatic 231, 3)) := by decide +kernel
theorem lc_1133 : (ri_co g_law)[1133]? = some (some (.istore 5, 2)) := by decide +kernel
theorem lc_1135 : (ri_co g_law)[1135]? = some (some (.aload_n 2, 1)) := by decide +kernel
theorem lc_1136 : (ri_co g_law)[1136]? = some (some (.aload_n 0, 1)) := by decide +kernel
theorem lc_1137 : (ri_co g_law)[1137]? = some (some (.iload 4, 2)) := by decide +kernel
theorem lc_1139 : (ri_co g_law)[1139]? = some (some (.iconst 1, 1)) := by decide +kernel
theorem lc_1140 : (ri_co g_law)[1140]? = some (some (.iadd, 1)) := by decide +kernel
theorem lc_1141 : (ri_co g_law)[1141]? = some (some (.iaload, 1)) := by decide +kernel
theorem lc_1142 : (ri_co g_law)[1142]? = some (some (.aload_n 0, 1)) := by decide +kernel
theorem lc_1143 : (ri_co g_law)[1143]? = some (some (.iload 4, 2)) := by decide +kernel
theorem lc_1145 : (ri_co g_law)[1145]? = some (some (.iconst 2, 1)) := by decide +kernel
theorem lc_1146 : (ri_co g_law)[1146]? = some (some (.iadd, 1)) := by decide +kernel
theorem lc_1147 : (ri_co g_law)[1147]? = some (some (.iaload, 1)) := by decide +kernel
theorem lc_1148 : (ri_co g_law)[1148]? = some (some (.invokevirtual 233, 3)) := by decide +kernel
theorem lc_1151 : (ri_co g_law)[1151]? = some (some (.istore 6, 2)) := by decide +kernel
theorem lc_1153 : (ri_co g_law)[1153]? = some (some (.goto 926, 3)) := by decide +kernel
theorem lc_1156 : (ri_co g_law)[1156]? = some (some (.aload_n 1, 1)) := by decide +kernel
theorem lc_1157 : (ri_co g_law)[1157]? = some (some (.aload_n 0, 1)) := by decide +kernel
theorem lc_1158 : (ri_co g_law)[1158]? = some (some (.iload 4, 2)) := by decide +kernel
theorem lc_1160 : (ri_co g_law)[1160]? = some (some (.iconst 1, 1)) := by decide +kernel
theorem lc_1161 : (ri_co g_law)[1161]? = some (some (.iadd, 1)) := by decide +kernel
theorem lc_1162 : (ri_co g_law)[1162]? = some (some (.iaload, 1)) := by decide +kernel
theorem lc_1163 : (ri_co g_law)[1163]? = some (some (.aload_n 3, 1)) := by decide +kernel
theorem lc_1164 : (ri_co g_law)[1164]? = some (some (.invokestatic 234, 3)) := by decide +kernel
theorem lc_1167 : (ri_co g_law)[1167]? = some (some (.istore 5, 2)) := by decide +kernel
theorem lc_1169 : (ri_co g_law)[1169]? = some (some (.aload_n 2, 1)) := by decide +kernel
theorem lc_1170 : (ri_co g_law)[1170]? = some (some (.aload_n 0, 1)) := by decide +kernel
theorem lc_1171 : (ri_co g_law)[1171]? = some (some (.iload 4, 2)) := by decide +kernel
theorem lc_1173 : (ri_co g_law)[1173]? = some (some (.iconst 1, 1)) := by decide +kernel
theorem lc_1174 : (ri_co g_law)[1174]? = some (some (.iadd, 1)) := by decide +kernel
theorem lc_1175 : (ri_co g_law)[1175]? = some (some (.iaload, 1)) := by decide +kernel
theorem lc_1176 : (ri_co g_law)[1176]? = some (some (.invokevirtual 236, 3)) := by decide +kernel
theorem lc_1179 : (ri_co g_law)[1179]? = some (some (.istore 6, 2)) := by decide +kernel
theorem lc_1181 : (ri_co g_law)[1181]? = some (some (.goto 898, 3)) := by decide +kernel
theorem lc_1184 : (ri_co g_law)[1184]? = some (some (.aload_n 1, 1)) := by decide +kernel
theorem lc_1185 : (ri_co g_law)[1185]? = some (some (.aload_n 0, 1)) := by decide +kernel
theorem lc_1186 : (ri_co g_law)[1186]? = some (some (.iload 4, 2)) := by decide +kernel
theorem lc_1188 : (ri_co g_law)[1188]? = some (some (.iconst 1, 1)) := by decide +kernel
theorem lc_1189 : (ri_co g_law)[1189]? = some (some (.iadd, 1)) := by decide +kernel
theorem lc_1190 : (ri_co g_law)[1190]? = some (some (.iaload, 1)) := by decide +kernel
theorem lc_1191 : (ri_co g_law)[1191]? = some (some (.aload_n 0, 1)) := by decide +kernel
theorem lc_1192 : (ri_co g_law)[1192]? = some (some (.iload 4, 2)) := by decide +kernel
theorem lc_1194 : (ri_co g_law)[1194]? = some (some (.iconst 2, 1)) := by decide +kernel
theorem lc_1195 : (ri_co g_law)[1195]? = some (some (.iadd, 1)) := by decide +kernel
theorem lc_1196 : (ri_co g_law)[1196]? = some (some (.iaload, 1)) := by decide +kernel
theorem lc_1197 : (ri_co g_law)[1197]? = some (some (.aload_n 3, 1)) := by decide +kernel
theorem lc_1198 : (ri_co g_law)[1198]? = some (some (.invokestatic 237, 3)) := by decide +kernel
theorem lc_1201 : (ri_co g_law)[1201]? = some (some (.istore 5, 2)) := by decide +kernel
theorem lc_1203 : (ri_co g_law)[1203]? = some (some (.aload_n 2, 1)) := by decide +kernel
theorem lc_1204 : (ri_co g_law)[1204]? = some (some (.aload_n 0, 1)) := by decide +kernel
theorem lc_1205 : (ri_co g_law)[1205]? = some (some (.iload 4, 2)) := by decide +kernel
theorem lc_1207 : (ri_co g_law)[1207]? = some (some (.iconst 1, 1)) := by decide +kernel
theorem lc_1208 : (ri_co g_law)[1208]? = some (some (.iadd, 1)) := by decide +kernel
theorem lc_1209 : (ri_co g_law)[1209]? = some (some (.iaload, 1)) := by decide +kernel
theorem lc_1210 : (ri_co g_law)[1210]? = some (some (.aload_n 0, 1)) := by decide +kernel
theorem lc_1211 : (ri_co g_law)[1211]? = some (some (.iload 4, 2)) := by decide +kernel
theorem lc_1213 : (ri_co g_law)[1213]? = some (some (.iconst 2, 1)) := by decide +kernel
theorem lc_1214 : (ri_co g_law)[1214]? = some (some (.iadd, 1)) := by decide +kernel
theorem lc_1215 : (ri_co g_law)[1215]? = some (some (.iaload, 1)) := by decide +kernel
theorem lc_1216 : (ri_co g_law)[1216]? = some (some (.invokevirtual 239, 3)) := by decide +kernel
theorem lc_1219 : (ri_co g_law)[1219]? = some (some (.istore 6, 2)) := by decide +kernel
theorem lc_1221 : (ri_co g_law)[1221]? = some (some (.goto 858, 3)) := by decide +kernel
theorem lc_1224 : (ri_co g_law)[1224]? = some (some (.aload_n 1, 1)) := by decide +kernel
theorem lc_1225 : (ri_co g_law)[1225]? = some (some (.aload_n 0, 1)) := by decide +kernel
theorem lc_1226 : (ri_co g_law)[1226]? = some (some (.iload 4, 2)) := by decide +kernel
theorem lc_1228 : (ri_co g_law)[1228]? = some (some (.iconst 1, 1)) := by decide +kernel
theorem lc_1229 : (ri_co g_law)[1229]? = some (some (.iadd, 1)) := by decide +kernel
theorem lc_1230 : (ri_co g_law)[1230]? = some (some (.iaload, 1)) := by decide +kernel
theorem lc_1231 : (ri_co g_law)[1231]? = some (some (.aload_n 0, 1)) := by decide +kernel
theorem lc_1232 : (ri_co g_law)[1232]? = some (some (.iload 4, 2)) := by decide +kernel
theorem lc_1234 : (ri_co g_law)[1234]? = some (some (.iconst 2, 1)) := by decide +kernel
theorem lc_1235 : (ri_co g_law)[1235]? = some (some (.iadd, 1)) := by decide +kernel
theorem lc_1236 : (ri_co g_law)[1236]? = some (some (.iaload, 1)) := by decide +kernel
theorem lc_1237 : (ri_co g_law)[1237]? = some (some (.aload_n 3, 1)) := by decide +kernel
theorem lc_1238 : (ri_co g_law)[1238]? = some (some (.invokestatic 240, 3)) := by decide +kernel
theorem lc_1241 : (ri_co g_law)[1241]? = some (some (.istore 5, 2)) := by decide +kernel
theorem lc_1243 : (ri_co g_law)[1243]? = some (some (.aload_n 2, 1)) := by decide +kernel
theorem lc_1244 : (ri_co g_law)[1244]? = some (some (.aload_n 0, 1)) := by decide +kernel
theorem lc_1245 : (ri_co g_law)[1245]? = some (some (.iload 4, 2)) := by decide +kernel
theorem lc_1247 : (ri_co g_law)[1247]? = some (some (.iconst 1, 1)) := by decide +kernel
theorem lc_1248 : (ri_co g_law)[1248]? = some (some (.iadd, 1)) := by decide +kernel
theorem lc_1249 : (ri_co g_law)[1249]? = some (some (.iaload, 1)) := by decide +kernel
theorem lc_1250 : (ri_co g_law)[1250]? = some (some (.aload_n 0, 1)) := by decide +kernel
theorem lc_1251 : (ri_co g_law)[1251]? = some (some (.iload 4, 2)) := by decide +kernel
theorem lc_1253 : (ri_co g_law)[1253]? = some (some (.iconst 2, 1)) := by decide +kernel
theorem lc_1254 : (ri_co g_law)[1254]? = some (some (.iadd, 1)) := by decide +kernel
theorem lc_1255 : (ri_co g_law)[1255]? = some (some (.iaload, 1)) := by decide +kernel
theorem lc_1256 : (ri_co g_law)[1256]? = some (some (.invokevirtual 242, 3)) := by decide +kernel
theorem lc_1259 : (ri_co g_law)[1259]? = some (some (.istore 6, 2)) := by decide +kernel
theorem lc_1261 : (ri_co g_law)[1261]? = some (some (.goto 818, 3)) := by decide +kernel
theorem lc_1264 : (ri_co g_law)[1264]? = some (some (.aload_n 1, 1)) := by decide +kernel
theorem lc_1265 : (ri_co g_law)[1265]? = some (some (.aload_n 0, 1)) := by decide +kernel
theorem lc_1266 : (ri_co g_law)[1266]? = some (some (.iload 4, 2)) := by decide +kernel
theorem lc_1268 : (ri_co g_law)[1268]? = some (some (.iconst 1, 1)) := by decide +kernel
theorem lc_1269 : (ri_co g_law)[1269]? = some (some (.iadd, 1)) := by decide +kernel
theorem lc_1270 : (ri_co g_law)[1270]? = some (some (.iaload, 1)) := by decide +kernel
theorem lc_1271 : (ri_co g_law)[1271]? = some (some (.aload_n 0, 1)) := by decide +kernel
theorem lc_1272 : (ri_co g_law)[1272]? = some (some (.iload 4, 2)) := by decide +kernel
theorem lc_1274 : (ri_co g_law)[1274]? = some (some (.iconst 2, 1)) := by decide +kernel
theorem lc_1275 : (ri_co g_law)[1275]? = some (some (.iadd, 1)) := by decide +kernel
theorem lc_1276 : (ri_co g_law)[1276]? = some (some (.iaload, 1)) := by decide +kernel
theorem lc_1277 : (ri_co g_law)[1277]? = some (some (.aload_n 3, 1)) := by decide +kernel
theorem lc_1278 : (ri_co g_law)[1278]? = some (some (.invokestatic 243, 3)) := by decide +kernel
theorem lc_1281 : (ri_co g_law)[1281]? = some (some (.istore 5, 2)) := by decide +kernel
theorem lc_1283 : (ri_co g_law)[1283]? = some (some (.aload_n 2, 1)) := by decide +kernel
theorem lc_1284 : (ri_co g_law)[1284]? = some (some (.aload_n 0, 1)) := by decide +kernel
theorem lc_1285 : (ri_co g_law)[1285]? = some (some (.iload 4, 2)) := by decide +kernel
theorem lc_1287 : (ri_co g_law)[1287]? = some (some (.iconst 1, 1)) := by decide +kernel
theorem lc_1288 : (ri_co g_law)[1288]? = some (some (.iadd, 1)) := by decide +kernel
theorem lc_1289 : (ri_co g_law)[1289]? = some (some (.iaload, 1)) := by decide +kernel
theorem lc_1290 : (ri_co g_law)[1290]? = some (some (.aload_n 0, 1)) := by decide +kernel
theorem lc_1291 : (ri_co g_law)[1291]? = some (some (.iload 4, 2)) := by decide +kernel
theorem lc_1293 : (ri_co g_law)[1293]? = some (some (.iconst 2, 1)) := by decide +kernel
theorem lc_1294 : (ri_co g_law)[1294]? = some (some (.iadd, 1)) := by decide +kernel
theorem lc_1295 : (ri_co g_law)[1295]? = some (some (.iaload, 1)) := by decide +kernel
theorem lc_1296 : (ri_co g_law)[1296]? = some (some (.invokevirtual 245, 3)) := by decide +kernel
theorem lc_1299 : (ri_co g_law)[1299]? = some (some (.istore 6, 2)) := by decide +kernel
theorem lc_1301 : (ri_co g_law)[1301]? = some (some (.goto 778, 3)) := by decide +kernel
theorem lc_1304 : (ri_co g_law)[1304]? = some (some (.aload_n 1, 1)) := by decide +kernel
theorem lc_1305 : (ri_co g_law)[1305]? = some (some (.aload_n 0, 1)) := by decide +kernel
theorem lc_1306 : (ri_co g_law)[1306]? = some (some (.iload 4, 2)) := by decide +kernel
theorem lc_1308 : (ri_co g_law)[1308]? = some (some (.iconst 1, 1)) := by decide +kernel
theorem lc_1309 : (ri_co g_law)[1309]? = some (some (.iadd, 1)) := by decide +kernel
theorem lc_1310 : (ri_co g_law)[1310]? = some (some (.iaload, 1)) := by decide +kernel
theorem lc_1311 : (ri_co g_law)[1311]? = some (some (.aload_n 0, 1)) := by decide +kernel
theorem lc_1312 : (ri_co g_law)[1312]? = some (some (.iload 4, 2)) := by decide +kernel
theorem lc_1314 : (ri_co g_law)[1314]? = some (some (.iconst 2, 1)) := by decide +kernel
theorem lc_1315 : (ri_co g_law)[1315]? = some (some (.iadd, 1)) := by decide +kernel
theorem lc_1316 : (ri_co g_law)[1316]? = some (some (.iaload, 1)) := by decide +kernel
theorem lc_1317 : (ri_co g_law)[1317]? = some (some (.aload_n 3, 1)) := by decide +kernel
theorem lc_1318 : (ri_co g_law)[1318]? = some (some (.invokestatic 246, 3)) := by decide +kernel
theorem lc_1321 : (ri_co g_law)[1321]? = some (some (.istore 5, 2)) := by decide +kernel
theorem lc_1323 : (ri_co g_law)[1323]? = some (some (.aload_n 2, 1)) := by decide +kernel
theorem lc_1324 : (ri_co g_law)[1324]? = some (some (.aload_n 0, 1)) := by decide +kernel
theorem lc_1325 : (ri_co g_law)[1325]? = some (some (.iload 4, 2)) := by decide +kernel
theorem lc_1327 : (ri_co g_law)[1327]? = some (some (.iconst 1, 1)) := by decide +kernel
theorem lc_1328 : (ri_co g_law)[1328]? = some (some (.iadd, 1)) := by decide +kernel
theorem lc_1329 : (ri_co g_law)[1329]? = some (some (.iaload, 1)) := by decide +kernel
theorem lc_1330 : (ri_co g_law)[1330]? = some (some (.aload_n 0, 1)) := by decide +kernel
theorem lc_1331 : (ri_co g_law)[1331]? = some (some (.iload 4, 2)) := by decide +kernel
theorem lc_1333 : (ri_co g_law)[1333]? = some (some (.iconst 2, 1)) := by decide +kernel
theorem lc_1334 : (ri_co g_law)[1334]? = some (some (.iadd, 1)) := by decide +kernel
theorem lc_1335 : (ri_co g_law)[1335]? = some (some (.iaload, 1)) := by decide +kernel
theorem lc_1336 : (ri_co g_law)[1336]? = some (some (.invokevirtual 248, 3)) := by decide +kernel
theorem lc_1339 : (ri_co g_law)[1339]? = some (some (.istore 6, 2)) := by decide +kernel
theorem lc_1341 : (ri_co g_law)[1341]? = some (some (.goto 738, 3)) := by decide +kernel
theorem lc_1344 : (ri_co g_law)[1344]? = some (some (.aload_n 1, 1)) := by decide +kernel
theorem lc_1345 : (ri_co g_law)[1345]? = some (some (.aload_n 0, 1)) := by decide +kernel
theorem lc_1346 : (ri_co g_law)[1346]? = some (some (.iload 4, 2)) := by decide +kernel
theorem lc_1348 : (ri_co g_law)[1348]? = some (some (.iconst 1, 1)) := by decide +kernel
theorem lc_1349 : (ri_co g_law)[1349]? = some (some (.iadd, 1)) := by decide +kernel
theorem lc_1350 : (ri_co g_law)[1350]? = some (some (.iaload, 1)) := by decide +kernel
theorem lc_1351 : (ri_co g_law)[1351]? = some (some (.aload_n 3, 1)) := by decide +kernel
theorem lc_1352 : (ri_co g_law)[1352]? = some (some (.invokestatic 249, 3)) := by decide +kernel
theorem lc_1355 : (ri_co g_law)[1355]? = some (some (.istore 5, 2)) := by decide +kernel
theorem lc_1357 : (ri_co g_law)[1357]? = some (some (.aload_n 2, 1)) := by decide +kernel
theorem lc_1358 : (ri_co g_law)[1358]? = some (some (.aload_n 0, 1)) := by decide +kernel
theorem lc_1359 : (ri_co g_law)[1359]? = some (some (.iload 4, 2)) := by decide +kernel
theorem lc_1361 : (ri_co g_law)[1361]? = some (some (.iconst 1, 1)) := by decide +kernel
theorem lc_1362 : (ri_co g_law)[1362]? = some (some (.iadd, 1)) := by decide +kernel
theorem lc_1363 : (ri_co g_law)[1363]? = some (some (.iaload, 1)) := by decide +kernel
theorem lc_1364 : (ri_co g_law)[1364]? = some (some (.invokevirtual 251, 3)) := by decide +kernel
theorem lc_1367 : (ri_co g_law)[1367]? = some (some (.istore 6, 2)) := by decide +kernel
theorem lc_1369 : (ri_co g_law)[1369]? = some (some (.goto 710, 3)) := by decide +kernel
theorem lc_1372 : (ri_co g_law)[1372]? = some (some (.aload_n 1, 1)) := by decide +kernel
theorem lc_1373 : (ri_co g_law)[1373]? = some (some (.aload_n 3, 1)) := by decide +kernel
theorem lc_1374 : (ri_co g_law)[1374]? = some (some (.invokestatic 252, 3)) := by decide +kernel
theorem lc_1377 : (ri_co g_law)[1377]? = some (some (.istore 5, 2)) := by decide +kernel
theorem lc_1379 : (ri_co g_law)[1379]? = some (some (.aload_n 2, 1)) := by decide +kernel
theorem lc_1380 : (ri_co g_law)[1380]? = some (some (.invokevirtual 255, 3)) := by decide +kernel
theorem lc_1383 : (ri_co g_law)[1383]? = some (some (.istore 6, 2)) := by decide +kernel
theorem lc_1385 : (ri_co g_law)[1385]? = some (some (.goto 694, 3)) := by decide +kernel
theorem lc_1388 : (ri_co g_law)[1388]? = some (some (.aload_n 1, 1)) := by decide +kernel
theorem lc_1389 : (ri_co g_law)[1389]? = some (some (.aload_n 3, 1)) := by decide +kernel
theorem lc_1390 : (ri_co g_law)[1390]? = some (some (.invokestatic 256, 3)) := by decide +kernel
theorem lc_1393 : (ri_co g_law)[1393]? = some (some (.istore 5, 2)) := by decide +kernel
theorem lc_1395 : (ri_co g_law)[1395]? = some (some (.aload_n 2, 1)) := by decide +kernel
theorem lc_1396 : (ri_co g_law)[1396]? = some (some (.invokevirtual 258, 3)) := by decide +kernel
theorem lc_1399 : (ri_co g_law)[1399]? = some (some (.istore 6, 2)) := by decide +kernel
theorem lc_1401 : (ri_co g_law)[1401]? = some (some (.goto 678, 3)) := by decide +kernel
theorem lc_1404 : (ri_co g_law)[1404]? = some (some (.aload_n 1, 1)) := by decide +kernel
theorem lc_1405 : (ri_co g_law)[1405]? = some (some (.aload_n 0, 1)) := by decide +kernel
theorem lc_1406 : (ri_co g_law)[1406]? = some (some (.iload 4, 2)) := by decide +kernel
theorem lc_1408 : (ri_co g_law)[1408]? = some (some (.iconst 1, 1)) := by decide +kernel
theorem lc_1409 : (ri_co g_law)[1409]? = some (some (.iadd, 1)) := by decide +kernel
theorem lc_1410 : (ri_co g_law)[1410]? = some (some (.iaload, 1)) := by decide +kernel
theorem lc_1411 : (ri_co g_law)[1411]? = some (some (.aload_n 3, 1)) := by decide +kernel
theorem lc_1412 : (ri_co g_law)[1412]? = some (some (.invokestatic 259, 3)) := by decide +kernel
theorem lc_1415 : (ri_co g_law)[1415]? = some (some (.istore 5, 2)) := by decide +kernel
theorem lc_1417 : (ri_co g_law)[1417]? = some (some (.aload_n 2, 1)) := by decide +kernel
theorem lc_1418 : (ri_co g_law)[1418]? = some (some (.aload_n 0, 1)) := by decide +kernel
theorem lc_1419 : (ri_co g_law)[1419]? = some (some (.iload 4, 2)) := by decide +kernel
theorem lc_1421 : (ri_co g_law)[1421]? = some (some (.iconst 1, 1)) := by decide +kernel
theorem lc_1422 : (ri_co g_law)[1422]? = some (some (.iadd, 1)) := by decide +kernel
theorem lc_1423 : (ri_co g_law)[1423]? = some (some (.iaload, 1)) := by decide +kernel
theorem lc_1424 : (ri_co g_law)[1424]? = some (some (.invokevirtual 261, 3)) := by decide +kernel
theorem lc_1427 : (ri_co g_law)[1427]? = some (some (.istore 6, 2)) := by decide +kernel
theorem lc_1429 : (ri_co g_law)[1429]? = some (some (.goto 650, 3)) := by decide +kernel
theorem lc_1432 : (ri_co g_law)[1432]? = some (some (.aload_n 1, 1)) := by decide +kernel
theorem lc_1433 : (ri_co g_law)[1433]? = some (some (.aload_n 0, 1)) := by decide +kernel
theorem lc_1434 : (ri_co g_law)[1434]? = some (some (.iload 4, 2)) := by decide +kernel
theorem lc_1436 : (ri_co g_law)[1436]? = some (some (.iconst 1, 1)) := by decide +kernel
theorem lc_1437 : (ri_co g_law)[1437]? = some (some (.iadd, 1)) := by decide +kernel
theorem lc_1438 : (ri_co g_law)[1438]? = some (some (.iaload, 1)) := by decide +kernel
theorem lc_1439 : (ri_co g_law)[1439]? = some (some (.aload_n 3, 1)) := by decide +kernel
theorem lc_1440 : (ri_co g_law)[1440]? = some (some (.invokestatic 262, 3)) := by decide +kernel
theorem lc_1443 : (ri_co g_law)[1443]? = some (some (.istore 5, 2)) := by decide +kernel
theorem lc_1445 : (ri_co g_law)[1445]? = some (some (.aload_n 2, 1)) := by decide +kernel
theorem lc_1446 : (ri_co g_law)[1446]? = some (some (.aload_n 0, 1)) := by decide +kernel
theorem lc_1447 : (ri_co g_law)[1447]? = some (some (.iload 4, 2)) := by decide +kernel
theorem lc_1449 : (ri_co g_law)[1449]? = some (some (.iconst 1, 1)) := by decide +kernel
theorem lc_1450 : (ri_co g_law)[1450]? = some (some (.iadd, 1)) := by decide +kernel
theorem lc_1451 : (ri_co g_law)[1451]? = some (some (.iaload, 1)) := by decide +kernel
theorem lc_1452 : (ri_co g_law)[1452]? = some (some (.invokevirtual 264, 3)) := by decide +kernel
theorem lc_1455 : (ri_co g_law)[1455]? = some (some (.istore 6, 2)) := by decide +kernel
theorem lc_1457 : (ri_co g_law)[1457]? = some (some (.goto 622, 3)) := by decide +kernel
theorem lc_1460 : (ri_co g_law)[1460]? = some (some (.aload_n 1, 1)) := by decide +kernel
theorem lc_1461 : (ri_co g_law)[1461]? = some (some (.aload_n 3, 1)) := by decide +kernel
theorem lc_1462 : (ri_co g_law)[1462]? = some (some (.invokestatic 265, 3)) := by decide +kernel
theorem lc_1465 : (ri_co g_law)[1465]? = some (some (.istore 5, 2)) := by decide +kernel
theorem lc_1467 : (ri_co g_law)[1467]? = some (some (.aload_n 2, 1)) := by decide +kernel
theorem lc_1468 : (ri_co g_law)[1468]? = some (some (.invokevirtual 267, 3)) := by decide +kernel
theorem lc_1471 : (ri_co g_law)[1471]? = some (some (.istore 6, 2)) := by decide +kernel
theorem lc_1473 : (ri_co g_law)[1473]? = some (some (.goto 606, 3)) := by decide +kernel
theorem lc_1476 : (ri_co g_law)[1476]? = some (some (.aload_n 1, 1)) := by decide +kernel
theorem lc_1477 : (ri_co g_law)[1477]? = some (some (.invokevirtual 268, 3)) := by decide +kernel
theorem lc_1480 : (ri_co g_law)[1480]? = some (some (.pop, 1)) := by decide +kernel
theorem lc_1481 : (ri_co g_law)[1481]? = some (some (.aload_n 2, 1)) := by decide +kernel
theorem lc_1482 : (ri_co g_law)[1482]? = some (some (.invokevirtual 271, 3)) := by decide +kernel
theorem lc_1485 : (ri_co g_law)[1485]? = some (some (.pop, 1)) := by decide +kernel
theorem lc_1486 : (ri_co g_law)[1486]? = some (some (.goto 593, 3)) := by decide +kernel
theorem lc_1489 : (ri_co g_law)[1489]? = some (some (.aload_n 1, 1)) := by decide +kernel
theorem lc_1490 : (ri_co g_law)[1490]? = some (some (.aload_n 0, 1)) := by decide +kernel
theorem lc_1491 : (ri_co g_law)[1491]? = some (some (.iload 4, 2)) := by decide +kernel
theorem lc_1493 : (ri_co g_law)[1493]? = some (some (.iconst 1, 1)) := by decide +kernel
theorem lc_1494 : (ri_co g_law)[1494]? = some (some (.iadd, 1)) := by decide +kernel
theorem lc_1495 : (ri_co g_law)[1495]? = some (some (.iaload, 1)) := by decide +kernel
theorem lc_1496 : (ri_co g_law)[1496]? = some (some (.aload_n 3, 1)) := by decide +kernel
theorem lc_1497 : (ri_co g_law)[1497]? = some (some (.invokestatic 272, 3)) := by decide +kernel
theorem lc_1500 : (ri_co g_law)[1500]? = some (some (.istore 5, 2)) := by decide +kernel
theorem lc_1502 : (ri_co g_law)[1502]? = some (some (.aload_n 2, 1)) := by decide +kernel
theorem lc_1503 : (ri_co g_law)[1503]? = some (some (.aload_n 0, 1)) := by decide +kernel
theorem lc_1504 : (ri_co g_law)[1504]? = some (some (.iload 4, 2)) := by decide +kernel
theorem lc_1506 : (ri_co g_law)[1506]? = some (some (.iconst 1, 1)) := by decide +kernel
theorem lc_1507 : (ri_co g_law)[1507]? = some (some (.iadd, 1)) := by decide +kernel
theorem lc_1508 : (ri_co g_law)[1508]? = some (some (.iaload, 1)) := by decide +kernel
theorem lc_1509 : (ri_co g_law)[1509]? = some (some (.invokevirtual 274, 3)) := by decide +kernel
theorem lc_1512 : (ri_co g_law)[1512]? = some (some (.istore 6, 2)) := by decide +kernel
theorem lc_1514 : (ri_co g_law)[1514]? = some (some (.goto 565, 3)) := by decide +kernel
theorem lc_1517 : (ri_co g_law)[1517]? = some (some (.aload_n 1, 1)) := by decide +kernel
theorem lc_1518 : (ri_co g_law)[1518]? = some (some (.invokevirtual 275, 3)) := by decide +kernel
theorem lc_1521 : (ri_co g_law)[1521]? = some (some (.pop, 1)) := by decide +kernel
theorem lc_1522 : (ri_co g_law)[1522]? = some (some (.aload_n 2, 1)) := by decide +kernel
theorem lc_1523 : (ri_co g_law)[1523]? = some (some (.invokevirtual 278, 3)) := by decide +kernel
theorem lc_1526 : (ri_co g_law)[1526]? = some (some (.pop, 1)) := by decide +kernel
theorem lc_1527 : (ri_co g_law)[1527]? = some (some (.goto 552, 3)) := by decide +kernel
theorem lc_1530 : (ri_co g_law)[1530]? = some (some (.aload_n 1, 1)) := by decide +kernel
theorem lc_1531 : (ri_co g_law)[1531]? = some (some (.invokevirtual 279, 3)) := by decide +kernel
theorem lc_1534 : (ri_co g_law)[1534]? = some (some (.f2d, 1)) := by decide +kernel
theorem lc_1535 : (ri_co g_law)[1535]? = some (some (.dstore 5, 2)) := by decide +kernel
theorem lc_1537 : (ri_co g_law)[1537]? = some (some (.aload_n 2, 1)) := by decide +kernel
theorem lc_1538 : (ri_co g_law)[1538]? = some (some (.invokevirtual 283, 3)) := by decide +kernel
theorem lc_1541 : (ri_co g_law)[1541]? = some (some (.f2d, 1)) := by decide +kernel
theorem lc_1542 : (ri_co g_law)[1542]? = some (some (.dstore 7, 2)) := by decide +kernel
theorem lc_1544 : (ri_co g_law)[1544]? = some (some (.goto 535, 3)) := by decide +kernel
theorem lc_1547 : (ri_co g_law)[1547]? = some (some (.aload_n 1, 1)) := by decide +kernel
theorem lc_1548 : (ri_co g_law)[1548]? = some (some (.invokevirtual 284, 3)) := by decide +kernel
theorem lc_1551 : (ri_co g_law)[1551]? = some (some (.dstore 5, 2)) := by decide +kernel
theorem lc_1553 : (ri_co g_law)[1553]? = some (some (.aload_n 2, 1)) := by decide +kernel
theorem lc_1554 : (ri_co g_law)[1554]? = some (some (.invokevirtual 288, 3)) := by decide +kernel
theorem lc_1557 : (ri_co g_law)[1557]? = some (some (.dstore 7, 2)) := by decide +kernel
theorem lc_1559 : (ri_co g_law)[1559]? = some (some (.goto 520, 3)) := by decide +kernel
theorem lc_1562 : (ri_co g_law)[1562]? = some (some (.aload_n 1, 1)) := by decide +kernel
theorem lc_1563 : (ri_co g_law)[1563]? = some (some (.invokevirtual 289, 3)) := by decide +kernel
theorem lc_1566 : (ri_co g_law)[1566]? = some (some (.pop, 1)) := by decide +kernel
theorem lc_1567 : (ri_co g_law)[1567]? = some (some (.aload_n 2, 1)) := by decide +kernel
theorem lc_1568 : (ri_co g_law)[1568]? = some (some (.invokevirtual 292, 3)) := by decide +kernel
theorem lc_1571 : (ri_co g_law)[1571]? = some (some (.pop, 1)) := by decide +kernel
theorem lc_1572 : (ri_co g_law)[1572]? = some (some (.goto 507, 3)) := by decide +kernel
theorem lc_1575 : (ri_co g_law)[1575]? = some (some (.aload_n 1, 1)) := by decide +kernel
theorem lc_1576 : (ri_co g_law)[1576]? = some (some (.aload_n 0, 1)) := by decide +kernel
theorem lc_1577 : (ri_co g_law)[1577]? = some (some (.iload 4, 2)) := by decide +kernel
theorem lc_1579 : (ri_co g_law)[1579]? = some (some (.iconst 1, 1)) := by decide +kernel
theorem lc_1580 : (ri_co g_law)[1580]? = some (some (.iadd, 1)) := by decide +kernel
theorem lc_1581 : (ri_co g_law)[1581]? = some (some (.iaload, 1)) := by decide +kernel
theorem lc_1582 : (ri_co g_law)[1582]? = some (some (.aload_n 3, 1)) := by decide +kernel
theorem lc_1583 : (ri_co g_law)[1583]? = some (some (.invokestatic 293, 3)) := by decide +kernel
theorem lc_1586 : (ri_co g_law)[1586]? = some (some (.istore 5, 2)) := by decide +kernel
theorem lc_1588 : (ri_co g_law)[1588]? = some (some (.aload_n 2, 1)) := by decide +kernel
theorem lc_1589 : (ri_co g_law)[1589]? = some (some (.aload_n 0, 1)) := by decide +kernel
theorem lc_1590 : (ri_co g_law)[1590]? = some (some (.iload 4, 2)) := by decide +kernel
theorem lc_1592 : (ri_co g_law)[1592]? = some (some (.iconst 1, 1)) := by decide +kernel
theorem lc_1593 : (ri_co g_law)[1593]? = some (some (.iadd, 1)) := by decide +kernel
theorem lc_1594 : (ri_co g_law)[1594]? = some (some (.iaload, 1)) := by decide +kernel
theorem lc_1595 : (ri_co g_law)[1595]? = some (some (.invokevirtual 295, 3)) := by decide +kernel
theorem lc_1598 : (ri_co g_law)[1598]? = some (some (.istore 6, 2)) := by decide +kernel
theorem lc_1600 : (ri_co g_law)[1600]? = some (some (.goto 479, 3)) := by decide +kernel
theorem lc_1603 : (ri_co g_law)[1603]? = some (some (.aload_n 1, 1)) := by decide +kernel
theorem lc_1604 : (ri_co g_law)[1604]? = some (some (.aload_n 0, 1)) := by decide +kernel
theorem lc_1605 : (ri_co g_law)[1605]? = some (some (.iload 4, 2)) := by decide +kernel
theorem lc_1607 : (ri_co g_law)[1607]? = some (some (.iconst 1, 1)) := by decide +kernel
theorem lc_1608 : (ri_co g_law)[1608]? = some (some (.iadd, 1)) := by decide +kernel
theorem lc_1609 : (ri_co g_law)[1609]? = some (some (.iaload, 1)) := by decide +kernel
theorem lc_1610 : (ri_co g_law)[1610]? = some (some (.aload_n 3, 1)) := by decide +kernel
theorem lc_1611 : (ri_co g_law)[1611]? = some (some (.invokestatic 296, 3)) := by decide +kernel
theorem lc_1614 : (ri_co g_law)[1614]? = some (some (.istore 5, 2)) := by decide +kernel
theorem lc_1616 : (ri_co g_law)[1616]? = some (some (.aload_n 2, 1)) := by decide +kernel
theorem lc_1617 : (ri_co g_law)[1617]? = some (some (.aload_n 0, 1)) := by decide +kernel
theorem lc_1618 : (ri_co g_law)[1618]? = some (some (.iload 4, 2)) := by decide +kernel
theorem lc_1620 : (ri_co g_law)[1620]? = some (some (.iconst 1, 1)) := by decide +kernel
theorem lc_1621 : (ri_co g_law)[1621]? = some (some (.iadd, 1)) := by decide +kernel
theorem lc_1622 : (ri_co g_law)[1622]? = some (some (.iaload, 1)) := by decide +kernel
theorem lc_1623 : (ri_co g_law)[1623]? = some (some (.invokevirtual 298, 3)) := by decide +kernel
theorem lc_1626 : (ri_co g_law)[1626]? = some (some (.istore 6, 2)) := by decide +kernel
theorem lc_1628 : (ri_co g_law)[1628]? = some (some (.goto 451, 3)) := by decide +kernel
theorem lc_1631 : (ri_co g_law)[1631]? = some (some (.aload_n 1, 1)) := by decide +kernel
theorem lc_1632 : (ri_co g_law)[1632]? = some (some (.aload_n 0, 1)) := by decide +kernel
theorem lc_1633 : (ri_co g_law)[1633]? = some (some (.iload 4, 2)) := by decide +kernel
theorem lc_1635 : (ri_co g_law)[1635]? = some (some (.iconst 1, 1)) := by decide +kernel
theorem lc_1636 : (ri_co g_law)[1636]? = some (some (.iadd, 1)) := by decide +kernel
theorem lc_1637 : (ri_co g_law)[1637]? = some (some (.iaload, 1)) := by decide +kernel
theorem lc_1638 : (ri_co g_law)[1638]? = some (some (.aload_n 3, 1)) := by decide +kernel
theorem lc_1639 : (ri_co g_law)[1639]? = some (some (.invokestatic 299, 3)) := by decide +kernel
theorem lc_1642 : (ri_co g_law)[1642]? = some (some (.istore 5, 2)) := by decide +kernel
theorem lc_1644 : (ri_co g_law)[1644]? = some (some (.aload_n 2, 1)) := by decide +kernel
theorem lc_1645 : (ri_co g_law)[1645]? = some (some (.aload_n 0, 1)) := by decide +kernel
theorem lc_1646 : (ri_co g_law)[1646]? = some (some (.iload 4, 2)) := by decide +kernel
theorem lc_1648 : (ri_co g_law)[1648]? = some (some (.iconst 1, 1)) := by decide +kernel
theorem lc_1649 : (ri_co g_law)[1649]? = some (some (.iadd, 1)) := by decide +kernel
theorem lc_1650 : (ri_co g_law)[1650]? = some (some (.iaload, 1)) := by decide +kernel
theorem lc_1651 : (ri_co g_law)[1651]? = some (some (.invokevirtual 301, 3)) := by decide +kernel
theorem lc_1654 : (ri_co g_law)[1654]? = some (some (.istore 6, 2)) := by decide +kernel
theorem lc_1656 : (ri_co g_law)[1656]? = some (some (.goto 423, 3)) := by decide +kernel
theorem lc_1659 : (ri_co g_law)[1659]? = some (some (.aload_n 1, 1)) := by decide +kernel
theorem lc_1660 : (ri_co g_law)[1660]? = some (some (.aload_n 0, 1)) := by decide +kernel
theorem lc_1661 : (ri_co g_law)[1661]? = some (some (.iload 4, 2)) := by decide +kernel
theorem lc_1663 : (ri_co g_law)[1663]? = some (some (.iconst 1, 1)) := by decide +kernel
theorem lc_1664 : (ri_co g_law)[1664]? = some (some (.iadd, 1)) := by decide +kernel
theorem lc_1665 : (ri_co g_law)[1665]? = some (some (.iaload, 1)) := by decide +kernel
theorem lc_1666 : (ri_co g_law)[1666]? = some (some (.aload_n 0, 1)) := by decide +kernel
theorem lc_1667 : (ri_co g_law)[1667]? = some (some (.iload 4, 2)) := by decide +kernel
theorem lc_1669 : (ri_co g_law)[1669]? = some (some (.iconst 2, 1)) := by decide +kernel
theorem lc_1670 : (ri_co g_law)[1670]? = some (some (.iadd, 1)) := by decide +kernel
theorem lc_1671 : (ri_co g_law)[1671]? = some (some (.iaload, 1)) := by decide +kernel
theorem lc_1672 : (ri_co g_law)[1672]? = some (some (.aload_n 3, 1)) := by decide +kernel
theorem lc_1673 : (ri_co g_law)[1673]? = some (some (.invokestatic 302, 3)) := by decide +kernel
theorem lc_1676 : (ri_co g_law)[1676]? = some (some (.istore 5, 2)) := by decide +kernel
theorem lc_1678 : (ri_co g_law)[1678]? = some (some (.aload_n 2, 1)) := by decide +kernel
theorem lc_1679 : (ri_co g_law)[1679]? = some (some (.aload_n 0, 1)) := by decide +kernel
theorem lc_1680 : (ri_co g_law)[1680]? = some (some (.iload 4, 2)) := by decide +kernel
theorem lc_1682 : (ri_co g_law)[1682]? = some (some (.iconst 1, 1)) := by decide +kernel
theorem lc_1683 : (ri_co g_law)[1683]? = some (some (.iadd, 1)) := by decide +kernel
theorem lc_1684 : (ri_co g_law)[1684]? = some (some (.iaload, 1)) := by decide +kernel
theorem lc_1685 : (ri_co g_law)[1685]? = some (some (.aload_n 0, 1)) := by decide +kernel
theorem lc_1686 : (ri_co g_law)[1686]? = some (some (.iload 4, 2)) := by decide +kernel
theorem lc_1688 : (ri_co g_law)[1688]? = some (some (.iconst 2, 1)) := by decide +kernel
theorem lc_1689 : (ri_co g_law)[1689]? = some (some (.iadd, 1)) := by decide +kernel
theorem lc_1690 : (ri_co g_law)[1690]? = some (some (.iaload, 1)) := by decide +kernel
theorem lc_1691 : (ri_co g_law)[1691]? = some (some (.invokevirtual 304, 3)) := by decide +kernel
theorem lc_1694 : (ri_co g_law)[1694]? = some (some (.istore 6, 2)) := by decide +kernel
theorem lc_1696 : (ri_co g_law)[1696]? = some (some (.goto 383, 3)) := by decide +kernel
theorem lc_1699 : (ri_co g_law)[1699]? = some (some (.aload_n 1, 1)) := by decide +kernel
theorem lc_1700 : (ri_co g_law)[1700]? = some (some (.aload_n 0, 1)) := by decide +kernel
theorem lc_1701 : (ri_co g_law)[1701]? = some (some (.iload 4, 2)) := by decide +kernel
theorem lc_1703 : (ri_co g_law)[1703]? = some (some (.iconst 1, 1)) := by decide +kernel
theorem lc_1704 : (ri_co g_law)[1704]? = some (some (.iadd, 1)) := by decide +kernel
theorem lc_1705 : (ri_co g_law)[1705]? = some (some (.iaload, 1)) := by decide +kernel
theorem lc_1706 : (ri_co g_law)[1706]? = some (some (.aload_n 3, 1)) := by decide +kernel
theorem lc_1707 : (ri_co g_law)[1707]? = some (some (.invokestatic 305, 3)) := by decide +kernel
theorem lc_1710 : (ri_co g_law)[1710]? = some (some (.istore 5, 2)) := by decide +kernel
theorem lc_1712 : (ri_co g_law)[1712]? = some (some (.aload_n 2, 1)) := by decide +kernel
theorem lc_1713 : (ri_co g_law)[1713]? = some (some (.aload_n 0, 1)) := by decide +kernel
theorem lc_1714 : (ri_co g_law)[1714]? = some (some (.iload 4, 2)) := by decide +kernel
theorem lc_1716 : (ri_co g_law)[1716]? = some (some (.iconst 1, 1)) := by decide +kernel
theorem lc_1717 : (ri_co g_law)[1717]? = some (some (.iadd, 1)) := by decide +kernel
theorem lc_1718 : (ri_co g_law)[1718]? = some (some (.iaload, 1)) := by decide +kernel
theorem lc_1719 : (ri_co g_law)[1719]? = some (some (.invokevirtual 307, 3)) := by decide +kernel
theorem lc_1722 : (ri_co g_law)[1722]? = some (some (.istore 6, 2)) := by decide +kernel
theorem lc_1724 : (ri_co g_law)[1724]? = some (some (.goto 355, 3)) := by decide +kernel
theorem lc_1727 : (ri_co g_law)[1727]? = some (some (.aload_n 1, 1)) := by decide +kernel
theorem lc_1728 : (ri_co g_law)[1728]? = some (some (.invokevirtual 308, 3)) := by decide +kernel
theorem lc_1731 : (ri_co g_law)[1731]? = some (some (.pop, 1)) := by decide +kernel
theorem lc_1732 : (ri_co g_law)[1732]? = some (some (.aload_n 2, 1)) := by decide +kernel
theorem lc_1733 : (ri_co g_law)[1733]? = some (some (.invokevirtual 311, 3)) := by decide +kernel
theorem lc_1736 : (ri_co g_law)[1736]? = some (some (.pop, 1)) := by decide +kernel
theorem lc_1737 : (ri_co g_law)[1737]? = some (some (.goto 342, 3)) := by decide +kernel
theorem lc_1740 : (ri_co g_law)[1740]? = some (some (.aload_n 1, 1)) := by decide +kernel
theorem lc_1741 : (ri_co g_law)[1741]? = some (some (.invokevirtual 312, 3)) := by decide +kernel
theorem lc_1744 : (ri_co g_law)[1744]? = some (some (.pop, 1)) := by decide +kernel
theorem lc_1745 : (ri_co g_law)[1745]? = some (some (.aload_n 2, 1)) := by decide +kernel
theorem lc_1746 : (ri_co g_law)[1746]? = some (some (.invokevirtual 315, 3)) := by decide +kernel
theorem lc_1749 : (ri_co g_law)[1749]? = some (some (.pop, 1)) := by decide +kernel
theorem lc_1750 : (ri_co g_law)[1750]? = some (some (.goto 329, 3)) := by decide +kernel
theorem lc_1753 : (ri_co g_law)[1753]? = some (some (.aload_n 1, 1)) := by decide +kernel
theorem lc_1754 : (ri_co g_law)[1754]? = some (some (.aload_n 0, 1)) := by decide +kernel
theorem lc_1755 : (ri_co g_law)[1755]? = some (some (.iload 4, 2)) := by decide +kernel
theorem lc_1757 : (ri_co g_law)[1757]? = some (some (.iconst 1, 1)) := by decide +kernel
theorem lc_1758 : (ri_co g_law)[1758]? = some (some (.iadd, 1)) := by decide +kernel
theorem lc_1759 : (ri_co g_law)[1759]? = some (some (.iaload, 1)) := by decide +kernel
theorem lc_1760 : (ri_co g_law)[1760]? = some (some (.aload_n 3, 1)) := by decide +kernel
theorem lc_1761 : (ri_co g_law)[1761]? = some (some (.invokestatic 316, 3)) := by decide +kernel
theorem lc_1764 : (ri_co g_law)[1764]? = some (some (.istore 5, 2)) := by decide +kernel
theorem lc_1766 : (ri_co g_law)[1766]? = some (some (.aload_n 2, 1)) := by decide +kernel
theorem lc_1767 : (ri_co g_law)[1767]? = some (some (.aload_n 0, 1)) := by decide +kernel
theorem lc_1768 : (ri_co g_law)[1768]? = some (some (.iload 4, 2)) := by decide +kernel
theorem lc_1770 : (ri_co g_law)[1770]? = some (some (.iconst 1, 1)) := by decide +kernel
theorem lc_1771 : (ri_co g_law)[1771]? = some (some (.iadd, 1)) := by decide +kernel
theorem lc_1772 : (ri_co g_law)[1772]? = some (some (.iaload, 1)) := by decide +kernel
theorem lc_1773 : (ri_co g_law)[1773]? = some (some (.invokevirtual 318, 3)) := by decide +kernel
theorem lc_1776 : (ri_co g_law)[1776]? = some (some (.istore 6, 2)) := by decide +kernel
theorem lc_1778 : (ri_co g_law)[1778]? = some (some (.goto 301, 3)) := by decide +kernel
theorem lc_1781 : (ri_co g_law)[1781]? = some (some (.aload_n 1, 1)) := by decide +kernel
theorem lc_1782 : (ri_co g_law)[1782]? = some (some (.aload_n 0, 1)) := by decide +kernel
theorem lc_1783 : (ri_co g_law)[1783]? = some (some (.iload 4, 2)) := by decide +kernel
theorem lc_1785 : (ri_co g_law)[1785]? = some (some (.iconst 1, 1)) := by decide +kernel
theorem lc_1786 : (ri_co g_law)[1786]? = some (some (.iadd, 1)) := by decide +kernel
theorem lc_1787 : (ri_co g_law)[1787]? = some (some (.iaload, 1)) := by decide +kernel
theorem lc_1788 : (ri_co g_law)[1788]? = some (some (.aload_n 0, 1)) := by decide +kernel
theorem lc_1789 : (ri_co g_law)[1789]? = some (some (.iload 4, 2)) := by decide +kernel
theorem lc_1791 : (ri_co g_law)[1791]? = some (some (.iconst 2, 1)) := by decide +kernel
theorem lc_1792 : (ri_co g_law)[1792]? = some (some (.iadd, 1)) := by decide +kernel
theorem lc_1793 : (ri_co g_law)[1793]? = some (some (.iaload, 1)) := by decide +kernel
theorem lc_1794 : (ri_co g_law)[1794]? = some (some (.aload_n 3, 1)) := by decide +kernel
theorem lc_1795 : (ri_co g_law)[1795]? = some (some (.invokestatic 319, 3)) := by decide +kernel
theorem lc_1798 : (ri_co g_law)[1798]? = some (some (.istore 5, 2)) := by decide +kernel
theorem lc_1800 : (ri_co g_law)[1800]? = some (some (.aload_n 2, 1)) := by decide +kernel
theorem lc_1801 : (ri_co g_law)[1801]? = some (some (.aload_n 0, 1)) := by decide +kernel
theorem lc_1802 : (ri_co g_law)[1802]? = some (some (.iload 4, 2)) := by decide +kernel
theorem lc_1804 : (ri_co g_law)[1804]? = some (some (.iconst 1, 1)) := by decide +kernel
theorem lc_1805 : (ri_co g_law)[1805]? = some (some (.iadd, 1)) := by decide +kernel
theorem lc_1806 : (ri_co g_law)[1806]? = some (some (.iaload, 1)) := by decide +kernel
theorem lc_1807 : (ri_co g_law)[1807]? = some (some (.aload_n 0, 1)) := by decide +kernel
theorem lc_1808 : (ri_co g_law)[1808]? = some (some (.iload 4, 2)) := by decide +kernel
theorem lc_1810 : (ri_co g_law)[1810]? = some (some (.iconst 2, 1)) := by decide +kernel
theorem lc_1811 : (ri_co g_law)[1811]? = some (some (.iadd, 1)) := by decide +kernel
theorem lc_1812 : (ri_co g_law)[1812]? = some (some (.iaload, 1)) := by decide +kernel
theorem lc_1813 : (ri_co g_law)[1813]? = some (some (.invokevirtual 321, 3)) := by decide +kernel
theorem lc_1816 : (ri_co g_law)[1816]? = some (some (.istore 6, 2)) := by decide +kernel
theorem lc_1818 : (ri_co g_law)[1818]? = some (some (.goto 261, 3)) := by decide +kernel
theorem lc_1821 : (ri_co g_law)[1821]? = some (some (.aload_n 1, 1)) := by decide +kernel
theorem lc_1822 : (ri_co g_law)[1822]? = some (some (.aload_n 0, 1)) := by decide +kernel
theorem lc_1823 : (ri_co g_law)[1823]? = some (some (.iload 4, 2)) := by decide +kernel
theorem lc_1825 : (ri_co g_law)[1825]? = some (some (.iconst 1, 1)) := by decide +kernel
theorem lc_1826 : (ri_co g_law)[1826]? = some (some (.iadd, 1)) := by decide +kernel
theorem lc_1827 : (ri_co g_law)[1827]? = some (some (.iaload, 1)) := by decide +kernel
theorem lc_1828 : (ri_co g_law)[1828]? = some (some (.aload_n 3, 1)) := by decide +kernel
theorem lc_1829 : (ri_co g_law)[1829]? = some (some (.invokestatic 322, 3)) := by decide +kernel
theorem lc_1832 : (ri_co g_law)[1832]? = some (some (.istore 5, 2)) := by decide +kernel
theorem lc_1834 : (ri_co g_law)[1834]? = some (some (.aload_n 2, 1)) := by decide +kernel
theorem lc_1835 : (ri_co g_law)[1835]? = some (some (.aload_n 0, 1)) := by decide +kernel
theorem lc_1836 : (ri_co g_law)[1836]? = some (some (.iload 4, 2)) := by decide +kernel
theorem lc_1838 : (ri_co g_law)[1838]? = some (some (.iconst 1, 1)) := by decide +kernel
theorem lc_1839 : (ri_co g_law)[1839]? = some (some (.iadd, 1)) := by decide +kernel
theorem lc_1840 : (ri_co g_law)[1840]? = some (some (.iaload, 1)) := by decide +kernel
theorem lc_1841 : (ri_co g_law)[1841]? = some (some (.invokevirtual 324, 3)) := by decide +kernel
theorem lc_1844 : (ri_co g_law)[1844]? = some (some (.istore 6, 2)) := by decide +kernel
theorem lc_1846 : (ri_co g_law)[1846]? = some (some (.goto 233, 3)) := by decide +kernel
theorem lc_1849 : (ri_co g_law)[1849]? = some (some (.aload_n 1, 1)) := by decide +kernel
theorem lc_1850 : (ri_co g_law)[1850]? = some (some (.aload_n 0, 1)) := by decide +kernel
theorem lc_1851 : (ri_co g_law)[1851]? = some (some (.iload 4, 2)) := by decide +kernel
theorem lc_1853 : (ri_co g_law)[1853]? = some (some (.iconst 1, 1)) := by decide +kernel
theorem lc_1854 : (ri_co g_law)[1854]? = some (some (.iadd, 1)) := by decide +kernel
theorem lc_1855 : (ri_co g_law)[1855]? = some (some (.iaload, 1)) := by decide +kernel
theorem lc_1856 : (ri_co g_law)[1856]? = some (some (.aload_n 3, 1)) := by decide +kernel
theorem lc_1857 : (ri_co g_law)[1857]? = some (some (.invokestatic 325, 3)) := by decide +kernel
theorem lc_1860 : (ri_co g_law)[1860]? = some (some (.istore 5, 2)) := by decide +kernel
theorem lc_1862 : (ri_co g_law)[1862]? = some (some (.aload_n 2, 1)) := by decide +kernel
theorem lc_1863 : (ri_co g_law)[1863]? = some (some (.aload_n 0, 1)) := by decide +kernel
theorem lc_1864 : (ri_co g_law)[1864]? = some (some (.iload 4, 2)) := by decide +kernel
theorem lc_1866 : (ri_co g_law)[1866]? = some (some (.iconst 1, 1)) := by decide +kernel
theorem lc_1867 : (ri_co g_law)[1867]? = some (some (.iadd, 1)) := by decide +kernel
theorem lc_1868 : (ri_co g_law)[1868]? = some (some (.iaload, 1)) := by decide +kernel
theorem lc_1869 : (ri_co g_law)[1869]? = some (some (.invokevirtual 327, 3)) := by decide +kernel
theorem lc_1872 : (ri_co g_law)[1872]? = some (some (.istore 6, 2)) := by decide +kernel
theorem lc_1874 : (ri_co g_law)[1874]? = some (some (.goto 205, 3)) := by decide +kernel
theorem lc_1877 : (ri_co g_law)[1877]? = some (some (.aload_n 1, 1)) := by decide +kernel
theorem lc_1878 : (ri_co g_law)[1878]? = some (some (.aload_n 0, 1)) := by decide +kernel
theorem lc_1879 : (ri_co g_law)[1879]? = some (some (.iload 4, 2)) := by decide +kernel
theorem lc_1881 : (ri_co g_law)[1881]? = some (some (.iconst 1, 1)) := by decide +kernel
theorem lc_1882 : (ri_co g_law)[1882]? = some (some (.iadd, 1)) := by decide +kernel
theorem lc_1883 : (ri_co g_law)[1883]? = some (some (.iaload, 1)) := by decide +kernel
theorem lc_1884 : (ri_co g_law)[1884]? = some (some (.aload_n 3, 1)) := by decide +kernel
theorem lc_1885 : (ri_co g_law)[1885]? = some (some (.invokestatic 328, 3)) := by decide +kernel
theorem lc_1888 : (ri_co g_law)[1888]? = some (some (.istore 5, 2)) := by decide +kernel
theorem lc_1890 : (ri_co g_law)[1890]? = some (some (.aload_n 2, 1)) := by decide +kernel
theorem lc_1891 : (ri_co g_law)[1891]? = some (some (.aload_n 0, 1)) := by decide +kernel
theorem lc_1892 : (ri_co g_law)[1892]? = some (some (.iload 4, 2)) := by decide +kernel
theorem lc_1894 : (ri_co g_law)[1894]? = some (some (.iconst 1, 1)) := by decide +kernel
theorem lc_1895 : (ri_co g_law)[1895]? = some (some (.iadd, 1)) := by decide +kernel
theorem lc_1896 : (ri_co g_law)[1896]? = some (some (.iaload, 1)) := by decide +kernel
theorem lc_1897 : (ri_co g_law)[1897]? = some (some (.invokevirtual 330, 3)) := by decide +kernel
theorem lc_1900 : (ri_co g_law)[1900]? = some (some (.istore 6, 2)) := by decide +kernel
theorem lc_1902 : (ri_co g_law)[1902]? = some (some (.goto 177, 3)) := by decide +kernel
theorem lc_1905 : (ri_co g_law)[1905]? = some (some (.aload_n 1, 1)) := by decide +kernel
theorem lc_1906 : (ri_co g_law)[1906]? = some (some (.invokevirtual 331, 3)) := by decide +kernel
theorem lc_1909 : (ri_co g_law)[1909]? = some (some (.pop, 1)) := by decide +kernel
theorem lc_1910 : (ri_co g_law)[1910]? = some (some (.aload_n 2, 1)) := by decide +kernel
theorem lc_1911 : (ri_co g_law)[1911]? = some (some (.invokevirtual 334, 3)) := by decide +kernel
theorem lc_1914 : (ri_co g_law)[1914]? = some (some (.pop, 1)) := by decide +kernel
theorem lc_1915 : (ri_co g_law)[1915]? = some (some (.goto 164, 3)) := by decide +kernel
theorem lc_1918 : (ri_co g_law)[1918]? = some (some (.aload_n 1, 1)) := by decide +kernel
theorem lc_1919 : (ri_co g_law)[1919]? = some (some (.aload_n 0, 1)) := by decide +kernel
theorem lc_1920 : (ri_co g_law)[1920]? = some (some (.iload 4, 2)) := by decide +kernel
theorem lc_1922 : (ri_co g_law)[1922]? = some (some (.iconst 1, 1)) := by decide +kernel
theorem lc_1923 : (ri_co g_law)[1923]? = some (some (.iadd, 1)) := by decide +kernel
theorem lc_1924 : (ri_co g_law)[1924]? = some (some (.iaload, 1)) := by decide +kernel
theorem lc_1925 : (ri_co g_law)[1925]? = some (some (.aload_n 3, 1)) := by decide +kernel
theorem lc_1926 : (ri_co g_law)[1926]? = some (some (.invokestatic 335, 3)) := by decide +kernel
theorem lc_1929 : (ri_co g_law)[1929]? = some (some (.istore 5, 2)) := by decide +kernel
theorem lc_1931 : (ri_co g_law)[1931]? = some (some (.aload_n 2, 1)) := by decide +kernel
theorem lc_1932 : (ri_co g_law)[1932]? = some (some (.aload_n 0, 1)) := by decide +kernel
theorem lc_1933 : (ri_co g_law)[1933]? = some (some (.iload 4, 2)) := by decide +kernel
theorem lc_1935 : (ri_co g_law)[1935]? = some (some (.iconst 1, 1)) := by decide +kernel
theorem lc_1936 : (ri_co g_law)[1936]? = some (some (.iadd, 1)) := by decide +kernel
theorem lc_1937 : (ri_co g_law)[1937]? = some (some (.iaload, 1)) := by decide +kernel
theorem lc_1938 : (ri_co g_law)[1938]? = some (some (.invokevirtual 337, 3)) := by decide +kernel
theorem lc_1941 : (ri_co g_law)[1941]? = some (some (.istore 6, 2)) := by decide +kernel
theorem lc_1943 : (ri_co g_law)[1943]? = some (some (.goto 136, 3)) := by decide +kernel
theorem lc_1946 : (ri_co g_law)[1946]? = some (some (.aload_n 1, 1)) := by decide +kernel
theorem lc_1947 : (ri_co g_law)[1947]? = some (some (.aload_n 0, 1)) := by decide +kernel
theorem lc_1948 : (ri_co g_law)[1948]? = some (some (.iload 4, 2)) := by decide +kernel
theorem lc_1950 : (ri_co g_law)[1950]? = some (some (.iconst 1, 1)) := by decide +kernel
theorem lc_1951 : (ri_co g_law)[1951]? = some (some (.iadd, 1)) := by decide +kernel
theorem lc_1952 : (ri_co g_law)[1952]? = some (some (.iaload, 1)) := by decide +kernel
theorem lc_1953 : (ri_co g_law)[1953]? = some (some (.aload_n 0, 1)) := by decide +kernel
theorem lc_1954 : (ri_co g_law)[1954]? = some (some (.iload 4, 2)) := by decide +kernel
theorem lc_1956 : (ri_co g_law)[1956]? = some (some (.iconst 2, 1)) := by decide +kernel
theorem lc_1957 : (ri_co g_law)[1957]? = some (some (.iadd, 1)) := by decide +kernel
theorem lc_1958 : (ri_co g_law)[1958]? = some (some (.iaload, 1)) := by decide +kernel
theorem lc_1959 : (ri_co g_law)[1959]? = some (some (.ifCond .eq 7, 3)) := by decide +kernel
theorem lc_1962 : (ri_co g_law)[1962]? = some (some (.iconst 1, 1)) := by decide +kernel
theorem lc_1963 : (ri_co g_law)[1963]? = some (some (.goto 4, 3)) := by decide +kernel
theorem lc_1966 : (ri_co g_law)[1966]? = some (some (.iconst 0, 1)) := by decide +kernel
theorem lc_1967 : (ri_co g_law)[1967]? = some (some (.invokevirtual 338, 3)) := by decide +kernel
theorem lc_1970 : (ri_co g_law)[1970]? = some (some (.pop, 1)) := by decide +kernel
theorem lc_1971 : (ri_co g_law)[1971]? = some (some (.aload_n 2, 1)) := by decide +kernel
theorem lc_1972 : (ri_co g_law)[1972]? = some (some (.aload_n 0, 1)) := by decide +kernel
theorem lc_1973 : (ri_co g_law)[1973]? = some (some (.iload 4, 2)) := by decide +kernel
theorem lc_1975 : (ri_co g_law)[1975]? = some (some (.iconst 1, 1)) := by decide +kernel
theorem lc_1976 : (ri_co g_law)[1976]? = some (some (.iadd, 1)) := by decide +kernel
theorem lc_1977 : (ri_co g_law)[1977]? = some (some (.iaload, 1)) := by decide +kernel
theorem lc_1978 : (ri_co g_law)[1978]? = some (some (.aload_n 0, 1)) := by decide +kernel
theorem lc_1979 : (ri_co g_law)[1979]? = some (some (.iload 4, 2)) := by decide +kernel
theorem lc_1981 : (ri_co g_law)[1981]? = some (some (.iconst 2, 1)) := by decide +kernel
theorem lc_1982 : (ri_co g_law)[1982]? = some (some (.iadd, 1)) := by decide +kernel
theorem lc_1983 : (ri_co g_law)[1983]? = some (some (.iaload, 1)) := by decide +kernel
theorem lc_1984 : (ri_co g_law)[1984]? = some (some (.ifCond .eq 7, 3)) := by decide +kernel
theorem lc_1987 : (ri_co g_law)[1987]? = some (some (.iconst 1, 1)) := by decide +kernel
theorem lc_1988 : (ri_co g_law)[1988]? = some (some (.goto 4, 3)) := by decide +kernel
theorem lc_1991 : (ri_co g_law)[1991]? = some (some (.iconst 0, 1)) := by decide +kernel
theorem lc_1992 : (ri_co g_law)[1992]? = some (some (.invokevirtual 342, 3)) := by decide +kernel
theorem lc_1995 : (ri_co g_law)[1995]? = some (some (.pop, 1)) := by decide +kernel
theorem lc_1996 : (ri_co g_law)[1996]? = some (some (.goto 83, 3)) := by decide +kernel
theorem lc_1999 : (ri_co g_law)[1999]? = some (some (.aload_n 1, 1)) := by decide +kernel
theorem lc_2000 : (ri_co g_law)[2000]? = some (some (.invokevirtual 343, 3)) := by decide +kernel
theorem lc_2003 : (ri_co g_law)[2003]? = some (some (.pop, 1)) := by decide +kernel
theorem lc_2004 : (ri_co g_law)[2004]? = some (some (.aload_n 2, 1)) := by decide +kernel
theorem lc_2005 : (ri_co g_law)[2005]? = some (some (.invokevirtual 346, 3)) := by decide +kernel
theorem lc_2008 : (ri_co g_law)[2008]? = some (some (.pop, 1)) := by decide +kernel
theorem lc_2009 : (ri_co g_law)[2009]? = some (some (.goto 70, 3)) := by decide +kernel
theorem lc_2012 : (ri_co g_law)[2012]? = some (some (.aload_n 1, 1)) := by decide +kernel
theorem lc_2013 : (ri_co g_law)[2013]? = some (some (.aload_n 0, 1)) := by decide +kernel
theorem lc_2014 : (ri_co g_law)[2014]? = some (some (.iload 4, 2)) := by decide +kernel
theorem lc_2016 : (ri_co g_law)[2016]? = some (some (.iconst 1, 1)) := by decide +kernel
theorem lc_2017 : (ri_co g_law)[2017]? = some (some (.iadd, 1)) := by decide +kernel
theorem lc_2018 : (ri_co g_law)[2018]? = some (some (.iaload, 1)) := by decide +kernel
theorem lc_2019 : (ri_co g_law)[2019]? = some (some (.invokevirtual 347, 3)) := by decide +kernel
theorem lc_2022 : (ri_co g_law)[2022]? = some (some (.pop, 1)) := by decide +kernel
theorem lc_2023 : (ri_co g_law)[2023]? = some (some (.aload_n 2, 1)) := by decide +kernel
theorem lc_2024 : (ri_co g_law)[2024]? = some (some (.aload_n 0, 1)) := by decide +kernel
theorem lc_2025 : (ri_co g_law)[2025]? = some (some (.iload 4, 2)) := by decide +kernel
theorem lc_2027 : (ri_co g_law)[2027]? = some (some (.iconst 1, 1)) := by decide +kernel
theorem lc_2028 : (ri_co g_law)[2028]? = some (some (.iadd, 1)) := by decide +kernel
theorem lc_2029 : (ri_co g_law)[2029]? = some (some (.iaload, 1)) := by decide +kernel
theorem lc_2030 : (ri_co g_law)[2030]? = some (some (.invokevirtual 350, 3)) := by decide +kernel
theorem lc_2033 : (ri_co g_law)[2033]? = some (some (.pop, 1)) := by decide +kernel
theorem lc_2034 : (ri_co g_law)[2034]? = some (some (.goto 45, 3)) := by decide +kernel
theorem lc_2037 : (ri_co g_law)[2037]? = some (some (.aload_n 1, 1)) := by decide +kernel
theorem lc_2038 : (ri_co g_law)[2038]? = some (some (.invokevirtual 351, 3)) := by decide +kernel
theorem lc_2041 : (ri_co g_law)[2041]? = some (some (.pop, 1)) := by decide +kernel
theorem lc_2042 : (ri_co g_law)[2042]? = some (some (.aload_n 2, 1)) := by decide +kernel
theorem lc_2043 : (ri_co g_law)[2043]? = some (some (.invokevirtual 354, 3)) := by decide +kernel
theorem lc_2046 : (ri_co g_law)[2046]? = some (some (.pop, 1)) := by decide +kernel
theorem lc_2047 : (ri_co g_law)[2047]? = some (some (.goto 32, 3)) := by decide +kernel
theorem lc_2050 : (ri_co g_law)[2050]? = some (some (.aload_n 1, 1)) := by decide +kernel
theorem lc_2051 : (ri_co g_law)[2051]? = some (some (.invokevirtual 355, 3)) := by decide +kernel
theorem lc_2054 : (ri_co g_law)[2054]? = some (some (.pop, 1)) := by decide +kernel
theorem lc_2055 : (ri_co g_law)[2055]? = some (some (.aload_n 2, 1)) := by decide +kernel
theorem lc_2056 : (ri_co g_law)[2056]? = some (some (.invokevirtual 358, 3)) := by decide +kernel
theorem lc_2059 : (ri_co g_law)[2059]? = some (some (.pop, 1)) := by decide +kernel
theorem lc_2060 : (ri_co g_law)[2060]? = some (some (.goto 19, 3)) := by decide +kernel
theorem lc_2063 : (ri_co g_law)[2063]? = some (some (.aload_n 1, 1)) := by decide +kernel
theorem lc_2064 : (ri_co g_law)[2064]? = some (some (.aload_n 3, 1)) := by decide +kernel
theorem lc_2065 : (ri_co g_law)[2065]? = some (some (.invokestatic 359, 3)) := by decide +kernel
theorem lc_2068 : (ri_co g_law)[2068]? = some (some (.istore 5, 2)) := by decide +kernel
theorem lc_2070 : (ri_co g_law)[2070]? = some (some (.aload_n 2, 1)) := by decide +kernel
theorem lc_2071 : (ri_co g_law)[2071]? = some (some (.invokevirtual 361, 3)) := by decide +kernel
theorem lc_2074 : (ri_co g_law)[2074]? = some (some (.istore 6, 2)) := by decide +kernel
theorem lc_2076 : (ri_co g_law)[2076]? = some (some (.goto 3, 3)) := by decide +kernel
theorem lc_2079 : (ri_co g_law)[2079]? = some (some (.iinc 4 6, 3)) := by decide +kernel
theorem lc_2082 : (ri_co g_law)[2082]? = some (some (.goto (-2059), 3)) := by decide +kernel
theorem lc_2085 : (ri_co g_law)[2085]? = some (some (.iconst 1, 1)) := by decide +kernel
theorem lc_2086 : (ri_co g_law)[2086]? = some (some (.ireturn, 1)) := by decide +kernel
end RL
