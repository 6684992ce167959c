theorem dd_X11_man_0 : decode cX11_man 0 = .ok (.aload_n 0, 1) := by decide +kernel
theorem dd_X11_man_1 : decode cX11_man 1 = .ok (.getfield 34, 3) := by decide +kernel
theorem dd_X11_man_4 : decode cX11_man 4 = .ok (.iconst 0, 1) := by decide +kernel
theorem dd_X11_man_5 : decode cX11_man 5 = .ok (.iload_n 1, 1) := by decide +kernel
theorem dd_X11_man_6 : decode cX11_man 6 = .ok (.invokevirtual 138, 3) := by decide +kernel
theorem dd_X11_man_9 : decode cX11_man 9 = .ok (.ifCond .ne 11, 3) := by decide +kernel
theorem dd_X12_man_0 : decode cX12_man 0 = .ok (.aload_n 0, 1) := by decide +kernel
theorem dd_X12_man_1 : decode cX12_man 1 = .ok (.iconst 0, 1) := by decide +kernel
theorem dd_X12_man_2 : decode cX12_man 2 = .ok (.putfield 1, 3) := by decide +kernel
theorem dd_X12_man_5 : decode cX12_man 5 = .ok (.aload_n 0, 1) := by decide +kernel
theorem dd_X12_man_6 : decode cX12_man 6 = .ok (.iload_n 1, 1) := by decide +kernel
theorem dd_X12_man_7 : decode cX12_man 7 = .ok (.invokevirtual 251, 3) := by decide +kernel
theorem dd_X12_man_10 : decode cX12_man 10 = .ok (.ifCond .ne 8, 3) := by decide +kernel
theorem dd_X12_man_13 : decode cX12_man 13 = .ok (.aload_n 0, 1) := by decide +kernel
theorem dd_X12_man_14 : decode cX12_man 14 = .ok (.invokevirtual 254, 3) := by decide +kernel
theorem dd_X12_man_17 : decode cX12_man 17 = .ok (.ireturn, 1) := by decide +kernel
theorem dd_X12_refuse_0 : decode cX12_refuse 0 = .ok (.aload_n 0, 1) := by decide +kernel
theorem dd_X12_refuse_1 : decode cX12_refuse 1 = .ok (.iconst 1, 1) := by decide +kernel
theorem dd_X12_refuse_2 : decode cX12_refuse 2 = .ok (.putfield 1, 3) := by decide +kernel
theorem dd_X12_refuse_5 : decode cX12_refuse 5 = .ok (.iconst 0, 1) := by decide +kernel
theorem dd_X12_refuse_6 : decode cX12_refuse 6 = .ok (.ireturn, 1) := by decide +kernel
theorem dd_X12_thrown_0 : decode cX12_thrown 0 = .ok (.aload_n 0, 1) := by decide +kernel
theorem dd_X12_thrown_1 : decode cX12_thrown 1 = .ok (.getfield 1, 3) := by decide +kernel
theorem dd_X12_thrown_4 : decode cX12_thrown 4 = .ok (.ireturn, 1) := by decide +kernel
theorem dd_L_law_348 : decode cL_law 348 = .ok (.aload_n 1, 1) := by decide +kernel
theorem dd_L_law_349 : decode cL_law 349 = .ok (.aload_n 0, 1) := by decide +kernel
theorem dd_L_law_350 : decode cL_law 350 = .ok (.iload 4, 2) := by decide +kernel
theorem dd_L_law_352 : decode cL_law 352 = .ok (.iconst 1, 1) := by decide +kernel
theorem dd_L_law_353 : decode cL_law 353 = .ok (.iadd, 1) := by decide +kernel
theorem dd_L_law_354 : decode cL_law 354 = .ok (.iaload, 1) := by decide +kernel
theorem dd_L_law_355 : decode cL_law 355 = .ok (.aload_n 0, 1) := by decide +kernel
theorem dd_L_law_356 : decode cL_law 356 = .ok (.iload 4, 2) := by decide +kernel
theorem dd_L_law_358 : decode cL_law 358 = .ok (.iconst 2, 1) := by decide +kernel
theorem dd_L_law_359 : decode cL_law 359 = .ok (.iadd, 1) := by decide +kernel
theorem dd_L_law_360 : decode cL_law 360 = .ok (.iaload, 1) := by decide +kernel
theorem dd_L_law_361 : decode cL_law 361 = .ok (.aload_n 3, 1) := by decide +kernel
theorem dd_L_law_365 : decode cL_law 365 = .ok (.istore 5, 2) := by decide +kernel
theorem dd_L_law_367 : decode cL_law 367 = .ok (.aload_n 2, 1) := by decide +kernel
theorem dd_L_law_368 : decode cL_law 368 = .ok (.aload_n 0, 1) := by decide +kernel
theorem dd_L_law_369 : decode cL_law 369 = .ok (.iload 4, 2) := by decide +kernel
theorem dd_L_law_371 : decode cL_law 371 = .ok (.iconst 1, 1) := by decide +kernel
theorem dd_L_law_372 : decode cL_law 372 = .ok (.iadd, 1) := by decide +kernel
theorem dd_L_law_373 : decode cL_law 373 = .ok (.iaload, 1) := by decide +kernel
theorem dd_L_law_374 : decode cL_law 374 = .ok (.aload_n 0, 1) := by decide +kernel
theorem dd_L_law_375 : decode cL_law 375 = .ok (.iload 4, 2) := by decide +kernel
theorem dd_L_law_377 : decode cL_law 377 = .ok (.iconst 2, 1) := by decide +kernel
theorem dd_L_law_378 : decode cL_law 378 = .ok (.iadd, 1) := by decide +kernel
theorem dd_L_law_379 : decode cL_law 379 = .ok (.iaload, 1) := by decide +kernel
theorem dd_L_law_380 : decode cL_law 380 = .ok (.invokevirtual 43, 3) := by decide +kernel
theorem dd_L_law_383 : decode cL_law 383 = .ok (.istore 6, 2) := by decide +kernel
theorem dd_L_law_385 : decode cL_law 385 = .ok (.aload_n 2, 1) := by decide +kernel
theorem dd_L_law_386 : decode cL_law 386 = .ok (.invokevirtual 44, 3) := by decide +kernel
theorem dd_L_law_389 : decode cL_law 389 = .ok (.iload 5, 2) := by decide +kernel
theorem dd_L_law_391 : decode cL_law 391 = .ok (.if_icmp .eq 5, 3) := by decide +kernel
theorem dd_L_law_396 : decode cL_law 396 = .ok (.iload 5, 2) := by decide +kernel
theorem dd_L_law_398 : decode cL_law 398 = .ok (.ifCond .ne 15, 3) := by decide +kernel
theorem dd_L_law_413 : decode cL_law 413 = .ok (.goto 1060, 3) := by decide +kernel
theorem dd_L_man_0 : decode cL_man 0 = .ok (.aload_n 3, 1) := by decide +kernel
theorem dd_L_man_1 : decode cL_man 1 = .ok (.iconst 0, 1) := by decide +kernel
theorem dd_L_man_2 : decode cL_man 2 = .ok (.aload_n 0, 1) := by decide +kernel
theorem dd_L_man_3 : decode cL_man 3 = .ok (.iload_n 1, 1) := by decide +kernel
theorem dd_L_man_4 : decode cL_man 4 = .ok (.iload_n 2, 1) := by decide +kernel
theorem dd_L_man_5 : decode cL_man 5 = .ok (.invokevirtual 7, 3) := by decide +kernel
theorem dd_L_man_13 : decode cL_man 13 = .ok (.astore 4, 2) := by decide +kernel
theorem dd_L_man_15 : decode cL_man 15 = .ok (.iconst 1, 1) := by decide +kernel
theorem dd_L_man_16 : decode cL_man 16 = .ok (.ireturn, 1) := by decide +kernel
theorem dd_X11_man_12 : decode cX11_man 12 = .ok (.new 142, 3) := by decide +kernel
theorem dd_X11_man_15 : decode cX11_man 15 = .ok (.dup, 1) := by decide +kernel
theorem dd_X11_man_16 : decode cX11_man 16 = .ok (.invokespecial 144, 3) := by decide +kernel
theorem dd_X11_man_19 : decode cX11_man 19 = .ok (.athrow, 1) := by decide +kernel
theorem dd_L_law_362 : decode cL_law 362 = .ok (.invokestatic 38, 3) := by decide +kernel
