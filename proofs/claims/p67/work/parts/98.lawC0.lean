


theorem mw_acts : Cond.code yL_acts cL_acts 14 (some .boolean) ∈ zgood := List.mem_filter.mpr ⟨List.mem_append_right _ (List.mem_append_right _ (List.mem_append_right _ (List.mem_append_right _ (List.mem_append_right _ (List.mem_append_left _ (List.mem_of_getElem? (i := 225) rfl)))))), rfl⟩
theorem cw_RL_276 : zCwS RL 276 mL_acts := fun x hx => by
  rcases List.mem_append.mp (show x ∈ [Cond.methodLink RL 276 yL_acts, .static yL_acts, .initialized yL_acts.cls] ++ [.code yL_acts cL_acts 14 (some .boolean)] from hx) with h | h
  · exact zall [1201, 1202, 18] (by decide +kernel) (by decide +kernel) x h
  · rw [List.mem_singleton.mp h]; exact mw_acts
theorem dL_law_369 : decode cL_law 369 = .ok (.aload 4, 2) := by decide +kernel
theorem dL_law_371 : decode cL_law 371 = .ok (.aload_n 0, 1) := by decide +kernel
theorem dL_law_372 : decode cL_law 372 = .ok (.bipush 62, 2) := by decide +kernel
theorem dL_law_374 : decode cL_law 374 = .ok (.invokestatic 241, 3) := by decide +kernel
theorem dL_law_377 : decode cL_law 377 = .ok (.invokestatic 273, 3) := by decide +kernel
theorem cw_RL_273 : zCwS RL 273 mL_stands := zall [1055, 1056, 18, 1057] (by decide +kernel) (by decide +kernel)
theorem dL_law_380 : decode cL_law 380 = .ok (.ifCond .ne 5, 3) := by decide +kernel
theorem dL_law_388 : decode cL_law 388 = .ok (.iload 5, 2) := by decide +kernel
theorem dL_law_390 : decode cL_law 390 = .ok (.iconst 4, 1) := by decide +kernel
theorem dL_law_391 : decode cL_law 391 = .ok (.if_icmp .ge 48, 3) := by decide +kernel
theorem dL_law_394 : decode cL_law 394 = .ok (.aload 4, 2) := by decide +kernel
theorem dL_law_396 : decode cL_law 396 = .ok (.iload_n 2, 1) := by decide +kernel
theorem dL_law_397 : decode cL_law 397 = .ok (.iconst 0, 1) := by decide +kernel
theorem dL_law_398 : decode cL_law 398 = .ok (.aload_n 0, 1) := by decide +kernel
theorem dL_law_399 : decode cL_law 399 = .ok (.bipush 54, 2) := by decide +kernel
theorem dL_law_401 : decode cL_law 401 = .ok (.iload 5, 2) := by decide +kernel
theorem dL_law_403 : decode cL_law 403 = .ok (.iadd, 1) := by decide +kernel
theorem dL_law_404 : decode cL_law 404 = .ok (.invokestatic 241, 3) := by decide +kernel
theorem dL_law_407 : decode cL_law 407 = .ok (.aload_n 0, 1) := by decide +kernel
theorem dL_law_408 : decode cL_law 408 = .ok (.bipush 58, 2) := by decide +kernel
theorem dL_law_410 : decode cL_law 410 = .ok (.iload 5, 2) := by decide +kernel
theorem dL_law_412 : decode cL_law 412 = .ok (.iadd, 1) := by decide +kernel
theorem dL_law_413 : decode cL_law 413 = .ok (.invokestatic 241, 3) := by decide +kernel
theorem dL_law_416 : decode cL_law 416 = .ok (.aload_n 0, 1) := by decide +kernel
theorem dL_law_417 : decode cL_law 417 = .ok (.bipush 62, 2) := by decide +kernel
theorem dL_law_419 : decode cL_law 419 = .ok (.iload 5, 2) := by decide +kernel
theorem dL_law_421 : decode cL_law 421 = .ok (.iadd, 1) := by decide +kernel
theorem dL_law_422 : decode cL_law 422 = .ok (.invokestatic 241, 3) := by decide +kernel
theorem dL_law_425 : decode cL_law 425 = .ok (.invokestatic 276, 3) := by decide +kernel
theorem dL_law_428 : decode cL_law 428 = .ok (.ifCond .ne 5, 3) := by decide +kernel
theorem dL_law_433 : decode cL_law 433 = .ok (.iinc 5 1, 3) := by decide +kernel
theorem dL_law_436 : decode cL_law 436 = .ok (.goto (-48), 3) := by decide +kernel
theorem dL_law_442 : decode cL_law 442 = .ok (.iload 5, 2) := by decide +kernel
theorem dL_law_444 : decode cL_law 444 = .ok (.bipush 12, 2) := by decide +kernel
theorem dL_law_446 : decode cL_law 446 = .ok (.if_icmp .ge 172, 3) := by decide +kernel
theorem dL_law_449 : decode cL_law 449 = .ok (.aload_n 0, 1) := by decide +kernel
theorem dL_law_450 : decode cL_law 450 = .ok (.bipush 66, 2) := by decide +kernel
theorem dL_law_452 : decode cL_law 452 = .ok (.iconst 4, 1) := by decide +kernel
theorem dL_law_453 : decode cL_law 453 = .ok (.iload 5, 2) := by decide +kernel
theorem dL_law_455 : decode cL_law 455 = .ok (.imul, 1) := by decide +kernel
theorem dL_law_456 : decode cL_law 456 = .ok (.iadd, 1) := by decide +kernel
theorem dL_law_457 : decode cL_law 457 = .ok (.invokestatic 241, 3) := by decide +kernel
theorem dL_law_460 : decode cL_law 460 = .ok (.bipush 10, 2) := by decide +kernel
theorem dL_law_462 : decode cL_law 462 = .ok (.irem, 1) := by decide +kernel
theorem dL_law_463 : decode cL_law 463 = .ok (.istore 6, 2) := by decide +kernel
theorem dL_law_465 : decode cL_law 465 = .ok (.aload_n 0, 1) := by decide +kernel
theorem dL_law_466 : decode cL_law 466 = .ok (.bipush 67, 2) := by decide +kernel
theorem dL_law_468 : decode cL_law 468 = .ok (.iconst 4, 1) := by decide +kernel
theorem dL_law_469 : decode cL_law 469 = .ok (.iload 5, 2) := by decide +kernel
theorem dL_law_471 : decode cL_law 471 = .ok (.imul, 1) := by decide +kernel
theorem dL_law_472 : decode cL_law 472 = .ok (.iadd, 1) := by decide +kernel
theorem dL_law_473 : decode cL_law 473 = .ok (.invokestatic 241, 3) := by decide +kernel
theorem dL_law_476 : decode cL_law 476 = .ok (.istore 7, 2) := by decide +kernel
theorem dL_law_478 : decode cL_law 478 = .ok (.aload_n 0, 1) := by decide +kernel
theorem dL_law_479 : decode cL_law 479 = .ok (.bipush 68, 2) := by decide +kernel
theorem dL_law_481 : decode cL_law 481 = .ok (.iconst 4, 1) := by decide +kernel
theorem dL_law_482 : decode cL_law 482 = .ok (.iload 5, 2) := by decide +kernel
theorem dL_law_484 : decode cL_law 484 = .ok (.imul, 1) := by decide +kernel
theorem dL_law_485 : decode cL_law 485 = .ok (.iadd, 1) := by decide +kernel
theorem dL_law_486 : decode cL_law 486 = .ok (.invokestatic 241, 3) := by decide +kernel
theorem dL_law_489 : decode cL_law 489 = .ok (.istore 8, 2) := by decide +kernel
theorem dL_law_491 : decode cL_law 491 = .ok (.aload_n 0, 1) := by decide +kernel
theorem dL_law_492 : decode cL_law 492 = .ok (.bipush 69, 2) := by decide +kernel
theorem dL_law_494 : decode cL_law 494 = .ok (.iconst 4, 1) := by decide +kernel
theorem dL_law_495 : decode cL_law 495 = .ok (.iload 5, 2) := by decide +kernel
theorem dL_law_497 : decode cL_law 497 = .ok (.imul, 1) := by decide +kernel
theorem dL_law_498 : decode cL_law 498 = .ok (.iadd, 1) := by decide +kernel
theorem dL_law_499 : decode cL_law 499 = .ok (.invokestatic 241, 3) := by decide +kernel
theorem dL_law_502 : decode cL_law 502 = .ok (.istore 9, 2) := by decide +kernel
theorem dL_law_504 : decode cL_law 504 = .ok (.aload 4, 2) := by decide +kernel
theorem dL_law_506 : decode cL_law 506 = .ok (.invokestatic 280, 3) := by decide +kernel
theorem cw_RL_280 : zCwS RL 280 mL_sum := zall [999, 1000, 18, 1001] (by decide +kernel) (by decide +kernel)
theorem dL_law_509 : decode cL_law 509 = .ok (.lstore 10, 2) := by decide +kernel
theorem dL_law_511 : decode cL_law 511 = .ok (.aload 4, 2) := by decide +kernel
theorem dL_law_513 : decode cL_law 513 = .ok (.iload_n 2, 1) := by decide +kernel
theorem dL_law_514 : decode cL_law 514 = .ok (.iload 6, 2) := by decide +kernel
theorem dL_law_516 : decode cL_law 516 = .ok (.iload 7, 2) := by decide +kernel
theorem dL_law_518 : decode cL_law 518 = .ok (.iload 8, 2) := by decide +kernel
theorem dL_law_520 : decode cL_law 520 = .ok (.iload 9, 2) := by decide +kernel
theorem dL_law_522 : decode cL_law 522 = .ok (.invokestatic 276, 3) := by decide +kernel
