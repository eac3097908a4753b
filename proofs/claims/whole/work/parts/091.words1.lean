set_option maxRecDepth 100000 in
theorem aX2_86 : Cond.methodLink RX2 86 arraycopyName ∈ qtb := (q_mem 382 (by decide +kernel) rfl)
set_option maxRecDepth 100000 in
theorem vX2_109 : okV RX2 109 2 mX2_pass 2 := ⟨bX2_pass, (q_mem 386 (by decide +kernel) rfl), ⟨(RX2, TX2, 11), rfl, (q_mem 387 (by decide +kernel) rfl)⟩, (q_mem 385 (by decide +kernel) rfl)⟩
set_option maxRecDepth 100000 in
theorem vX2_113 : okV RX2 113 2 mX2_pick 2 := ⟨bX2_pick, (q_mem 391 (by decide +kernel) rfl), ⟨(RX2, TX2, 11), rfl, (q_mem 1 (by decide +kernel) rfl)⟩, (q_mem 389 (by decide +kernel) rfl)⟩
set_option maxRecDepth 100000 in
theorem tX2_127 : Cond.methodLink RX2 127 Lib.Math.min.name ∈ qtb := (q_mem 393 (by decide +kernel) rfl)
set_option maxRecDepth 100000 in
theorem oX2_133_X5 : okO RX2 133 5 ⟨"NettleShirts$PlotKind", "picks", "(I)I"⟩ "NettleShirts$PlotKind" mX5_picks 1 := ⟨bX5_picks, (q_mem 397 (by decide +kernel) rfl), ⟨(RX5, TX5, 0), rfl, (q_mem 398 (by decide +kernel) rfl)⟩, (q_mem 396 (by decide +kernel) rfl), (q_mem 399 (by decide +kernel) rfl), (q_mem 411 (by decide +kernel) rfl), by decide +kernel, by decide +kernel, rfl⟩
set_option maxRecDepth 100000 in
theorem oX2_133_X1 : okO RX2 133 1 ⟨"NettleShirts$PlotKind", "picks", "(I)I"⟩ "NettleShirts$PlotKind" mX6_picks 1 := ⟨bX6_picks, (q_mem 401 (by decide +kernel) rfl), ⟨(RX1, TX1, 0), rfl, (q_mem 400 (by decide +kernel) rfl)⟩, (q_mem 396 (by decide +kernel) rfl), (q_mem 399 (by decide +kernel) rfl), (q_mem 411 (by decide +kernel) rfl), by decide +kernel, by decide +kernel, rfl⟩
set_option maxRecDepth 100000 in
theorem oX2_133_X6 : okO RX2 133 6 ⟨"NettleShirts$PlotKind", "picks", "(I)I"⟩ "NettleShirts$PlotKind" mX6_picks 1 := ⟨bX6_picks, (q_mem 401 (by decide +kernel) rfl), ⟨(RX6, TX6, 0), rfl, (q_mem 404 (by decide +kernel) rfl)⟩, (q_mem 396 (by decide +kernel) rfl), (q_mem 399 (by decide +kernel) rfl), (q_mem 411 (by decide +kernel) rfl), by decide +kernel, by decide +kernel, rfl⟩
set_option maxRecDepth 100000 in
theorem oX2_133_X7 : okO RX2 133 7 ⟨"NettleShirts$PlotKind", "picks", "(I)I"⟩ "NettleShirts$PlotKind" mX5_picks 1 := ⟨bX5_picks, (q_mem 397 (by decide +kernel) rfl), ⟨(RX7, TX7, 0), rfl, (q_mem 405 (by decide +kernel) rfl)⟩, (q_mem 396 (by decide +kernel) rfl), (q_mem 399 (by decide +kernel) rfl), (q_mem 411 (by decide +kernel) rfl), by decide +kernel, by decide +kernel, rfl⟩
set_option maxRecDepth 100000 in
theorem oX2_133_X9 : okO RX2 133 9 ⟨"NettleShirts$PlotKind", "picks", "(I)I"⟩ "NettleShirts$PlotKind" mX9_picks 1 := ⟨bX9_picks, (q_mem 407 (by decide +kernel) rfl), ⟨(RX9, TX9, 0), rfl, (q_mem 406 (by decide +kernel) rfl)⟩, (q_mem 396 (by decide +kernel) rfl), (q_mem 399 (by decide +kernel) rfl), (q_mem 411 (by decide +kernel) rfl), by decide +kernel, by decide +kernel, rfl⟩
set_option maxRecDepth 100000 in
theorem oX2_133_X10 : okO RX2 133 10 ⟨"NettleShirts$PlotKind", "picks", "(I)I"⟩ "NettleShirts$PlotKind" mX10_picks 1 := ⟨bX10_picks, (q_mem 413 (by decide +kernel) rfl), ⟨(RX10, TX10, 0), rfl, (q_mem 412 (by decide +kernel) rfl)⟩, (q_mem 396 (by decide +kernel) rfl), (q_mem 399 (by decide +kernel) rfl), (q_mem 411 (by decide +kernel) rfl), by decide +kernel, by decide +kernel, rfl⟩
set_option maxRecDepth 100000 in
theorem uX6_7 : okSU RX6 7 mX5_picks 1 := ⟨bX5_picks, by decide +kernel, (q_mem 397 (by decide +kernel) rfl), (q_mem 403 (by decide +kernel) rfl), (q_mem 399 (by decide +kernel) rfl), (q_mem 111 (by decide +kernel) rfl)⟩
set_option maxRecDepth 100000 in
theorem uX9_7 : okSI RX9 7 ⟨"NettleShirts$ShadyKind", "picks", "(I)I"⟩ mX5_picks 1 := ⟨bX5_picks, by decide +kernel, rfl, rfl, (q_mem 397 (by decide +kernel) rfl), (q_mem 409 (by decide +kernel) rfl), (q_mem 410 (by decide +kernel) rfl), (q_mem 125 (by decide +kernel) rfl), (q_mem 104 (by decide +kernel) rfl)⟩
set_option maxRecDepth 100000 in
theorem uX10_7 : okSU RX10 7 mX6_picks 1 := ⟨bX6_picks, by decide +kernel, (q_mem 401 (by decide +kernel) rfl), (q_mem 415 (by decide +kernel) rfl), (q_mem 1352 (by decide +kernel) rfl), (q_mem 132 (by decide +kernel) rfl)⟩
set_option maxRecDepth 100000 in
theorem oX2_136_X5 : okO RX2 136 5 ⟨"NettleShirts$PlotKind", "hurts", "()I"⟩ "NettleShirts$PlotKind" mX5_hurts 0 := ⟨bX5_hurts, (q_mem 418 (by decide +kernel) rfl), ⟨(RX5, TX5, 0), rfl, (q_mem 419 (by decide +kernel) rfl)⟩, (q_mem 417 (by decide +kernel) rfl), (q_mem 420 (by decide +kernel) rfl), (q_mem 426 (by decide +kernel) rfl), by decide +kernel, by decide +kernel, rfl⟩
set_option maxRecDepth 100000 in
theorem oX2_136_X1 : okO RX2 136 1 ⟨"NettleShirts$PlotKind", "hurts", "()I"⟩ "NettleShirts$PlotKind" mX1_hurts 0 := ⟨bX1_hurts, (q_mem 422 (by decide +kernel) rfl), ⟨(RX1, TX1, 0), rfl, (q_mem 421 (by decide +kernel) rfl)⟩, (q_mem 417 (by decide +kernel) rfl), (q_mem 420 (by decide +kernel) rfl), (q_mem 426 (by decide +kernel) rfl), by decide +kernel, by decide +kernel, rfl⟩
set_option maxRecDepth 100000 in
theorem oX2_136_X6 : okO RX2 136 6 ⟨"NettleShirts$PlotKind", "hurts", "()I"⟩ "NettleShirts$PlotKind" mX5_hurts 0 := ⟨bX5_hurts, (q_mem 418 (by decide +kernel) rfl), ⟨(RX6, TX6, 0), rfl, (q_mem 427 (by decide +kernel) rfl)⟩, (q_mem 417 (by decide +kernel) rfl), (q_mem 420 (by decide +kernel) rfl), (q_mem 426 (by decide +kernel) rfl), by decide +kernel, by decide +kernel, rfl⟩
set_option maxRecDepth 100000 in
theorem oX2_136_X7 : okO RX2 136 7 ⟨"NettleShirts$PlotKind", "hurts", "()I"⟩ "NettleShirts$PlotKind" mX7_hurts 0 := ⟨bX7_hurts, (q_mem 429 (by decide +kernel) rfl), ⟨(RX7, TX7, 0), rfl, (q_mem 428 (by decide +kernel) rfl)⟩, (q_mem 417 (by decide +kernel) rfl), (q_mem 420 (by decide +kernel) rfl), (q_mem 426 (by decide +kernel) rfl), by decide +kernel, by decide +kernel, rfl⟩
set_option maxRecDepth 100000 in
theorem oX2_136_X9 : okO RX2 136 9 ⟨"NettleShirts$PlotKind", "hurts", "()I"⟩ "NettleShirts$PlotKind" mX7_hurts 0 := ⟨bX7_hurts, (q_mem 429 (by decide +kernel) rfl), ⟨(RX9, TX9, 0), rfl, (q_mem 432 (by decide +kernel) rfl)⟩, (q_mem 417 (by decide +kernel) rfl), (q_mem 420 (by decide +kernel) rfl), (q_mem 426 (by decide +kernel) rfl), by decide +kernel, by decide +kernel, rfl⟩
set_option maxRecDepth 100000 in
theorem oX2_136_X10 : okO RX2 136 10 ⟨"NettleShirts$PlotKind", "hurts", "()I"⟩ "NettleShirts$PlotKind" mX5_hurts 0 := ⟨bX5_hurts, (q_mem 418 (by decide +kernel) rfl), ⟨(RX10, TX10, 0), rfl, (q_mem 433 (by decide +kernel) rfl)⟩, (q_mem 417 (by decide +kernel) rfl), (q_mem 420 (by decide +kernel) rfl), (q_mem 426 (by decide +kernel) rfl), by decide +kernel, by decide +kernel, rfl⟩
set_option maxRecDepth 100000 in
theorem uX1_7 : okSI RX1 7 ⟨"NettleShirts$RichKind", "hurts", "()I"⟩ mX5_hurts 0 := ⟨bX5_hurts, by decide +kernel, rfl, rfl, (q_mem 418 (by decide +kernel) rfl), (q_mem 424 (by decide +kernel) rfl), (q_mem 425 (by decide +kernel) rfl), (q_mem 118 (by decide +kernel) rfl), (q_mem 111 (by decide +kernel) rfl)⟩
set_option maxRecDepth 100000 in
theorem uX7_7 : okSU RX7 7 mX5_hurts 0 := ⟨bX5_hurts, by decide +kernel, (q_mem 418 (by decide +kernel) rfl), (q_mem 431 (by decide +kernel) rfl), (q_mem 420 (by decide +kernel) rfl), (q_mem 104 (by decide +kernel) rfl)⟩
set_option maxRecDepth 100000 in
theorem vX2_116 : okV RX2 116 2 mX2_sew 2 := ⟨bX2_sew, (q_mem 437 (by decide +kernel) rfl), ⟨(RX2, TX2, 11), rfl, (q_mem 2 (by decide +kernel) rfl)⟩, (q_mem 435 (by decide +kernel) rfl)⟩
set_option maxRecDepth 100000 in
theorem sX2_139 : okS RX2 139 mX2_partsBy 1 := ⟨bX2_partsBy, (q_mem 440 (by decide +kernel) rfl), (q_mem 439 (by decide +kernel) rfl)⟩
set_option maxRecDepth 100000 in
theorem vX2_119 : okV RX2 119 2 mX2_rest 1 := ⟨bX2_rest, (q_mem 444 (by decide +kernel) rfl), ⟨(RX2, TX2, 11), rfl, (q_mem 3 (by decide +kernel) rfl)⟩, (q_mem 442 (by decide +kernel) rfl)⟩
set_option maxRecDepth 100000 in
theorem tX2_142 : Cond.methodLink RX2 142 Lib.Math.max.name ∈ qtb := (q_mem 446 (by decide +kernel) rfl)
set_option maxRecDepth 100000 in
theorem oX2_123_X5 : okO RX2 123 5 ⟨"NettleShirts$PlotKind", "grows", "(I)I"⟩ "NettleShirts$PlotKind" mX5_grows 1 := ⟨bX5_grows, (q_mem 450 (by decide +kernel) rfl), ⟨(RX5, TX5, 0), rfl, (q_mem 451 (by decide +kernel) rfl)⟩, (q_mem 449 (by decide +kernel) rfl), (q_mem 452 (by decide +kernel) rfl), (q_mem 458 (by decide +kernel) rfl), by decide +kernel, by decide +kernel, rfl⟩
set_option maxRecDepth 100000 in
theorem oX2_123_X1 : okO RX2 123 1 ⟨"NettleShirts$PlotKind", "grows", "(I)I"⟩ "NettleShirts$PlotKind" mX1_grows 1 := ⟨bX1_grows, (q_mem 454 (by decide +kernel) rfl), ⟨(RX1, TX1, 0), rfl, (q_mem 453 (by decide +kernel) rfl)⟩, (q_mem 449 (by decide +kernel) rfl), (q_mem 452 (by decide +kernel) rfl), (q_mem 458 (by decide +kernel) rfl), by decide +kernel, by decide +kernel, rfl⟩
set_option maxRecDepth 100000 in
theorem oX2_123_X6 : okO RX2 123 6 ⟨"NettleShirts$PlotKind", "grows", "(I)I"⟩ "NettleShirts$PlotKind" mX5_grows 1 := ⟨bX5_grows, (q_mem 450 (by decide +kernel) rfl), ⟨(RX6, TX6, 0), rfl, (q_mem 459 (by decide +kernel) rfl)⟩, (q_mem 449 (by decide +kernel) rfl), (q_mem 452 (by decide +kernel) rfl), (q_mem 458 (by decide +kernel) rfl), by decide +kernel, by decide +kernel, rfl⟩
set_option maxRecDepth 100000 in
theorem oX2_123_X7 : okO RX2 123 7 ⟨"NettleShirts$PlotKind", "grows", "(I)I"⟩ "NettleShirts$PlotKind" mX7_grows 1 := ⟨bX7_grows, (q_mem 461 (by decide +kernel) rfl), ⟨(RX7, TX7, 0), rfl, (q_mem 460 (by decide +kernel) rfl)⟩, (q_mem 449 (by decide +kernel) rfl), (q_mem 452 (by decide +kernel) rfl), (q_mem 458 (by decide +kernel) rfl), by decide +kernel, by decide +kernel, rfl⟩
set_option maxRecDepth 100000 in
theorem oX2_123_X9 : okO RX2 123 9 ⟨"NettleShirts$PlotKind", "grows", "(I)I"⟩ "NettleShirts$PlotKind" mX7_grows 1 := ⟨bX7_grows, (q_mem 461 (by decide +kernel) rfl), ⟨(RX9, TX9, 0), rfl, (q_mem 463 (by decide +kernel) rfl)⟩, (q_mem 449 (by decide +kernel) rfl), (q_mem 452 (by decide +kernel) rfl), (q_mem 458 (by decide +kernel) rfl), by decide +kernel, by decide +kernel, rfl⟩
set_option maxRecDepth 100000 in
theorem oX2_123_X10 : okO RX2 123 10 ⟨"NettleShirts$PlotKind", "grows", "(I)I"⟩ "NettleShirts$PlotKind" mX10_grows 1 := ⟨bX10_grows, (q_mem 465 (by decide +kernel) rfl), ⟨(RX10, TX10, 0), rfl, (q_mem 464 (by decide +kernel) rfl)⟩, (q_mem 449 (by decide +kernel) rfl), (q_mem 452 (by decide +kernel) rfl), (q_mem 458 (by decide +kernel) rfl), by decide +kernel, by decide +kernel, rfl⟩
set_option maxRecDepth 100000 in
theorem uX1_11 : okSI RX1 11 ⟨"NettleShirts$RichKind", "grows", "(I)I"⟩ mX5_grows 1 := ⟨bX5_grows, by decide +kernel, rfl, rfl, (q_mem 450 (by decide +kernel) rfl), (q_mem 456 (by decide +kernel) rfl), (q_mem 457 (by decide +kernel) rfl), (q_mem 118 (by decide +kernel) rfl), (q_mem 111 (by decide +kernel) rfl)⟩
set_option maxRecDepth 100000 in
theorem uX10_11 : okSI RX10 11 ⟨"NettleShirts$RichKind", "grows", "(I)I"⟩ mX5_grows 1 := ⟨bX5_grows, by decide +kernel, rfl, rfl, (q_mem 450 (by decide +kernel) rfl), (q_mem 467 (by decide +kernel) rfl), (q_mem 457 (by decide +kernel) rfl), (q_mem 132 (by decide +kernel) rfl), (q_mem 111 (by decide +kernel) rfl)⟩
set_option maxRecDepth 100000 in
theorem vL_27 : okV RL 27 11 mX11_undo 0 := ⟨bX11_undo, (q_mem 470 (by decide +kernel) rfl), ⟨(RX11, TX11, 10), rfl, (q_mem 471 (by decide +kernel) rfl)⟩, (q_mem 469 (by decide +kernel) rfl)⟩
set_option maxRecDepth 100000 in
theorem vX11_68 : okV RX11 68 2 mX2_takeBack 0 := ⟨bX2_takeBack, (q_mem 474 (by decide +kernel) rfl), ⟨(RX2, TX2, 11), rfl, (q_mem 475 (by decide +kernel) rfl)⟩, (q_mem 473 (by decide +kernel) rfl)⟩
set_option maxRecDepth 100000 in
theorem vL_32 : okV RL 32 11 mX11_nettles 1 := ⟨bX11_nettles, (q_mem 478 (by decide +kernel) rfl), ⟨(RX11, TX11, 10), rfl, (q_mem 479 (by decide +kernel) rfl)⟩, (q_mem 477 (by decide +kernel) rfl)⟩
set_option maxRecDepth 100000 in
theorem vX11_72 : okV RX11 72 2 mX2_hasPlot 1 := ⟨bX2_hasPlot, (q_mem 375 (by decide +kernel) rfl), ⟨(RX2, TX2, 11), rfl, (q_mem 376 (by decide +kernel) rfl)⟩, (q_mem 481 (by decide +kernel) rfl)⟩
set_option maxRecDepth 100000 in
theorem vL_36 : okV RL 36 11 mX11_sewn 1 := ⟨bX11_sewn, (q_mem 483 (by decide +kernel) rfl), ⟨(RX11, TX11, 10), rfl, (q_mem 484 (by decide +kernel) rfl)⟩, (q_mem 482 (by decide +kernel) rfl)⟩
set_option maxRecDepth 100000 in
theorem vX11_80 : okV RX11 80 2 mX2_hasShirt 1 := ⟨bX2_hasShirt, (q_mem 487 (by decide +kernel) rfl), ⟨(RX2, TX2, 11), rfl, (q_mem 488 (by decide +kernel) rfl)⟩, (q_mem 486 (by decide +kernel) rfl)⟩
set_option maxRecDepth 100000 in
theorem vL_40 : okV RL 40 11 mX11_has 1 := ⟨bX11_has, (q_mem 491 (by decide +kernel) rfl), ⟨(RX11, TX11, 10), rfl, (q_mem 492 (by decide +kernel) rfl)⟩, (q_mem 490 (by decide +kernel) rfl)⟩
set_option maxRecDepth 100000 in
theorem vL_44 : okV RL 44 11 mX11_plan 2 := ⟨bX11_plan, (q_mem 495 (by decide +kernel) rfl), ⟨(RX11, TX11, 10), rfl, (q_mem 496 (by decide +kernel) rfl)⟩, (q_mem 494 (by decide +kernel) rfl)⟩
set_option maxRecDepth 100000 in
theorem sX11_83 : okS RX11 83 mX11_within 3 := ⟨bX11_within, (q_mem 499 (by decide +kernel) rfl), (q_mem 498 (by decide +kernel) rfl)⟩
set_option maxRecDepth 100000 in
theorem vX11_87 : okV RX11 87 11 mX11_badAsked 0 := ⟨bX11_badAsked, (q_mem 503 (by decide +kernel) rfl), ⟨(RX11, TX11, 10), rfl, (q_mem 4 (by decide +kernel) rfl)⟩, (q_mem 501 (by decide +kernel) rfl)⟩
set_option maxRecDepth 100000 in
theorem vX11_90 : okV RX11 90 4 mX4_search 4 := ⟨bX4_search, (q_mem 506 (by decide +kernel) rfl), ⟨(RX4, TX4, 11), rfl, (q_mem 507 (by decide +kernel) rfl)⟩, (q_mem 505 (by decide +kernel) rfl)⟩
set_option maxRecDepth 100000 in
theorem vX4_51 : okV RX4 51 4 mX4_begin 2 := ⟨bX4_begin, (q_mem 511 (by decide +kernel) rfl), ⟨(RX4, TX4, 11), rfl, (q_mem 5 (by decide +kernel) rfl)⟩, (q_mem 509 (by decide +kernel) rfl)⟩
set_option maxRecDepth 100000 in
theorem tX4_88 : Cond.methodLink RX4 88 Lib.Math.min.name ∈ qtb := (q_mem 513 (by decide +kernel) rfl)
set_option maxRecDepth 100000 in
theorem aX4_91 : Cond.methodLink RX4 91 arraycopyName ∈ qtb := (q_mem 514 (by decide +kernel) rfl)
set_option maxRecDepth 100000 in
theorem oX4_68_X5 : okO RX4 68 5 ⟨"NettleShirts$PlotKind", "picks", "(I)I"⟩ "NettleShirts$PlotKind" mX5_picks 1 := ⟨bX5_picks, (q_mem 397 (by decide +kernel) rfl), ⟨(RX5, TX5, 0), rfl, (q_mem 398 (by decide +kernel) rfl)⟩, (q_mem 515 (by decide +kernel) rfl), (q_mem 399 (by decide +kernel) rfl), (q_mem 411 (by decide +kernel) rfl), by decide +kernel, by decide +kernel, rfl⟩
set_option maxRecDepth 100000 in
theorem oX4_68_X1 : okO RX4 68 1 ⟨"NettleShirts$PlotKind", "picks", "(I)I"⟩ "NettleShirts$PlotKind" mX6_picks 1 := ⟨bX6_picks, (q_mem 401 (by decide +kernel) rfl), ⟨(RX1, TX1, 0), rfl, (q_mem 400 (by decide +kernel) rfl)⟩, (q_mem 515 (by decide +kernel) rfl), (q_mem 399 (by decide +kernel) rfl), (q_mem 411 (by decide +kernel) rfl), by decide +kernel, by decide +kernel, rfl⟩
set_option maxRecDepth 100000 in
theorem oX4_68_X6 : okO RX4 68 6 ⟨"NettleShirts$PlotKind", "picks", "(I)I"⟩ "NettleShirts$PlotKind" mX6_picks 1 := ⟨bX6_picks, (q_mem 401 (by decide +kernel) rfl), ⟨(RX6, TX6, 0), rfl, (q_mem 404 (by decide +kernel) rfl)⟩, (q_mem 515 (by decide +kernel) rfl), (q_mem 399 (by decide +kernel) rfl), (q_mem 411 (by decide +kernel) rfl), by decide +kernel, by decide +kernel, rfl⟩
set_option maxRecDepth 100000 in
theorem oX4_68_X7 : okO RX4 68 7 ⟨"NettleShirts$PlotKind", "picks", "(I)I"⟩ "NettleShirts$PlotKind" mX5_picks 1 := ⟨bX5_picks, (q_mem 397 (by decide +kernel) rfl), ⟨(RX7, TX7, 0), rfl, (q_mem 405 (by decide +kernel) rfl)⟩, (q_mem 515 (by decide +kernel) rfl), (q_mem 399 (by decide +kernel) rfl), (q_mem 411 (by decide +kernel) rfl), by decide +kernel, by decide +kernel, rfl⟩
set_option maxRecDepth 100000 in
theorem oX4_68_X9 : okO RX4 68 9 ⟨"NettleShirts$PlotKind", "picks", "(I)I"⟩ "NettleShirts$PlotKind" mX9_picks 1 := ⟨bX9_picks, (q_mem 407 (by decide +kernel) rfl), ⟨(RX9, TX9, 0), rfl, (q_mem 406 (by decide +kernel) rfl)⟩, (q_mem 515 (by decide +kernel) rfl), (q_mem 399 (by decide +kernel) rfl), (q_mem 411 (by decide +kernel) rfl), by decide +kernel, by decide +kernel, rfl⟩
set_option maxRecDepth 100000 in
theorem oX4_68_X10 : okO RX4 68 10 ⟨"NettleShirts$PlotKind", "picks", "(I)I"⟩ "NettleShirts$PlotKind" mX10_picks 1 := ⟨bX10_picks, (q_mem 413 (by decide +kernel) rfl), ⟨(RX10, TX10, 0), rfl, (q_mem 412 (by decide +kernel) rfl)⟩, (q_mem 515 (by decide +kernel) rfl), (q_mem 399 (by decide +kernel) rfl), (q_mem 411 (by decide +kernel) rfl), by decide +kernel, by decide +kernel, rfl⟩
set_option maxRecDepth 100000 in
theorem tX4_74 : Cond.methodLink RX4 74 Lib.Math.max.name ∈ qtb := (q_mem 516 (by decide +kernel) rfl)
set_option maxRecDepth 100000 in
theorem vX4_80 : okV RX4 80 4 mX4_tryFrom 3 := ⟨bX4_tryFrom, (q_mem 519 (by decide +kernel) rfl), ⟨(RX4, TX4, 11), rfl, (q_mem 6 (by decide +kernel) rfl)⟩, (q_mem 517 (by decide +kernel) rfl)⟩
set_option maxRecDepth 100000 in
theorem vX4_97 : okV RX4 97 4 mX4_isWorth 3 := ⟨bX4_isWorth, (q_mem 523 (by decide +kernel) rfl), ⟨(RX4, TX4, 11), rfl, (q_mem 7 (by decide +kernel) rfl)⟩, (q_mem 521 (by decide +kernel) rfl)⟩
set_option maxRecDepth 100000 in
theorem sX4_108 : okS RX4 108 mJ7_fill_53178 2 := ⟨bJ7_fill_53178, (q_mem 526 (by decide +kernel) rfl), (q_mem 525 (by decide +kernel) rfl)⟩
set_option maxRecDepth 100000 in
theorem vX4_117 : okV RX4 117 2 mX2_lacks 2 := ⟨bX2_lacks, (q_mem 529 (by decide +kernel) rfl), ⟨(RX2, TX2, 11), rfl, (q_mem 530 (by decide +kernel) rfl)⟩, (q_mem 528 (by decide +kernel) rfl)⟩
set_option maxRecDepth 100000 in
theorem vX4_124 : okV RX4 124 4 mX4_mostSewable 2 := ⟨bX4_mostSewable, (q_mem 537 (by decide +kernel) rfl), ⟨(RX4, TX4, 11), rfl, (q_mem 8 (by decide +kernel) rfl)⟩, (q_mem 535 (by decide +kernel) rfl)⟩
set_option maxRecDepth 100000 in
theorem sX4_127 : okS RX4 127 mX2_partsBy 1 := ⟨bX2_partsBy, (q_mem 440 (by decide +kernel) rfl), (q_mem 539 (by decide +kernel) rfl)⟩
set_option maxRecDepth 100000 in
theorem vX4_101 : okV RX4 101 2 mX2_hasNight 1 := ⟨bX2_hasNight, (q_mem 371 (by decide +kernel) rfl), ⟨(RX2, TX2, 11), rfl, (q_mem 372 (by decide +kernel) rfl)⟩, (q_mem 540 (by decide +kernel) rfl)⟩
set_option maxRecDepth 100000 in
theorem vX4_84 : okV RX4 84 2 mX2_pass 2 := ⟨bX2_pass, (q_mem 386 (by decide +kernel) rfl), ⟨(RX2, TX2, 11), rfl, (q_mem 387 (by decide +kernel) rfl)⟩, (q_mem 541 (by decide +kernel) rfl)⟩
set_option maxRecDepth 100000 in
theorem vX4_105 : okV RX4 105 2 mX2_isSewing 1 := ⟨bX2_isSewing, (q_mem 379 (by decide +kernel) rfl), ⟨(RX2, TX2, 11), rfl, (q_mem 380 (by decide +kernel) rfl)⟩, (q_mem 542 (by decide +kernel) rfl)⟩
set_option maxRecDepth 100000 in
theorem vX11_94 : okV RX11 94 4 mX4_chosen 1 := ⟨bX4_chosen, (q_mem 544 (by decide +kernel) rfl), ⟨(RX4, TX4, 11), rfl, (q_mem 545 (by decide +kernel) rfl)⟩, (q_mem 543 (by decide +kernel) rfl)⟩
set_option maxRecDepth 100000 in
theorem vL_48 : okV RL 48 11 mX11_inTime 3 := ⟨bX11_inTime, (q_mem 548 (by decide +kernel) rfl), ⟨(RX11, TX11, 10), rfl, (q_mem 549 (by decide +kernel) rfl)⟩, (q_mem 547 (by decide +kernel) rfl)⟩
set_option maxRecDepth 100000 in
theorem vX11_97 : okV RX11 97 2 mX2_areShirts 1 := ⟨bX2_areShirts, (q_mem 552 (by decide +kernel) rfl), ⟨(RX2, TX2, 11), rfl, (q_mem 553 (by decide +kernel) rfl)⟩, (q_mem 551 (by decide +kernel) rfl)⟩
set_option maxRecDepth 100000 in
theorem vL_53 : okV RL 53 11 mX11_fewest 1 := ⟨bX11_fewest, (q_mem 556 (by decide +kernel) rfl), ⟨(RX11, TX11, 10), rfl, (q_mem 557 (by decide +kernel) rfl)⟩, (q_mem 555 (by decide +kernel) rfl)⟩
set_option maxRecDepth 100000 in
theorem vL_57 : okV RL 57 11 mX11_left 2 := ⟨bX11_left, (q_mem 560 (by decide +kernel) rfl), ⟨(RX11, TX11, 10), rfl, (q_mem 561 (by decide +kernel) rfl)⟩, (q_mem 559 (by decide +kernel) rfl)⟩
set_option maxRecDepth 100000 in
theorem vX11_100 : okV RX11 100 4 mX4_behindChosen 1 := ⟨bX4_behindChosen, (q_mem 564 (by decide +kernel) rfl), ⟨(RX4, TX4, 11), rfl, (q_mem 565 (by decide +kernel) rfl)⟩, (q_mem 563 (by decide +kernel) rfl)⟩
set_option maxRecDepth 100000 in
theorem vX11_104 : okV RX11 104 2 mX2_lacking 1 := ⟨bX2_lacking, (q_mem 568 (by decide +kernel) rfl), ⟨(RX2, TX2, 11), rfl, (q_mem 569 (by decide +kernel) rfl)⟩, (q_mem 567 (by decide +kernel) rfl)⟩
set_option maxRecDepth 100000 in
theorem vX2_145 : okV RX2 145 2 mX2_lacks 2 := ⟨bX2_lacks, (q_mem 529 (by decide +kernel) rfl), ⟨(RX2, TX2, 11), rfl, (q_mem 530 (by decide +kernel) rfl)⟩, (q_mem 571 (by decide +kernel) rfl)⟩
set_option maxRecDepth 100000 in
theorem vX11_108 : okV RX11 108 2 mX2_mostLacking 1 := ⟨bX2_mostLacking, (q_mem 573 (by decide +kernel) rfl), ⟨(RX2, TX2, 11), rfl, (q_mem 574 (by decide +kernel) rfl)⟩, (q_mem 572 (by decide +kernel) rfl)⟩
set_option maxRecDepth 100000 in
theorem vL_61 : okV RL 61 11 mX11_stings 3 := ⟨bX11_stings, (q_mem 577 (by decide +kernel) rfl), ⟨(RX11, TX11, 10), rfl, (q_mem 578 (by decide +kernel) rfl)⟩, (q_mem 576 (by decide +kernel) rfl)⟩
set_option maxRecDepth 100000 in
theorem sX11_111 : okS RX11 111 mX11_waysOfFewer 3 := ⟨bX11_waysOfFewer, (q_mem 581 (by decide +kernel) rfl), (q_mem 580 (by decide +kernel) rfl)⟩
set_option maxRecDepth 100000 in
theorem sX11_115 : okS RX11 115 mX11_power 2 := ⟨bX11_power, (q_mem 584 (by decide +kernel) rfl), (q_mem 583 (by decide +kernel) rfl)⟩
set_option maxRecDepth 100000 in
theorem sX11_119 : okS RX11 119 mX11_commonDivisor 2 := ⟨bX11_commonDivisor, (q_mem 587 (by decide +kernel) rfl), (q_mem 586 (by decide +kernel) rfl)⟩
set_option maxRecDepth 100000 in
theorem vL_65 : okV RL 65 11 mX11_surest 4 := ⟨bX11_surest, (q_mem 590 (by decide +kernel) rfl), ⟨(RX11, TX11, 10), rfl, (q_mem 591 (by decide +kernel) rfl)⟩, (q_mem 589 (by decide +kernel) rfl)⟩
set_option maxRecDepth 100000 in
theorem vL_70 : okV RL 70 11 mX11_told 2 := ⟨bX11_told, (q_mem 594 (by decide +kernel) rfl), ⟨(RX11, TX11, 10), rfl, (q_mem 595 (by decide +kernel) rfl)⟩, (q_mem 593 (by decide +kernel) rfl)⟩
set_option maxRecDepth 100000 in
theorem vX11_123 : okV RX11 123 2 mX2_tellBare 2 := ⟨bX2_tellBare, (q_mem 598 (by decide +kernel) rfl), ⟨(RX2, TX2, 11), rfl, (q_mem 599 (by decide +kernel) rfl)⟩, (q_mem 597 (by decide +kernel) rfl)⟩
set_option maxRecDepth 100000 in
theorem vL_74 : okV RL 74 11 mX11_bare 2 := ⟨bX11_bare, (q_mem 602 (by decide +kernel) rfl), ⟨(RX11, TX11, 10), rfl, (q_mem 603 (by decide +kernel) rfl)⟩, (q_mem 601 (by decide +kernel) rfl)⟩
set_option maxRecDepth 100000 in
theorem vX11_126 : okV RX11 126 4 mX4_bareRows 2 := ⟨bX4_bareRows, (q_mem 606 (by decide +kernel) rfl), ⟨(RX4, TX4, 11), rfl, (q_mem 607 (by decide +kernel) rfl)⟩, (q_mem 605 (by decide +kernel) rfl)⟩
set_option maxRecDepth 100000 in
theorem vX4_130 : okV RX4 130 4 mX4_pickFrom 3 := ⟨bX4_pickFrom, (q_mem 611 (by decide +kernel) rfl), ⟨(RX4, TX4, 11), rfl, (q_mem 9 (by decide +kernel) rfl)⟩, (q_mem 609 (by decide +kernel) rfl)⟩
set_option maxRecDepth 100000 in
theorem vX4_133 : okV RX4 133 2 mX2_isAsToldBare 1 := ⟨bX2_isAsToldBare, (q_mem 614 (by decide +kernel) rfl), ⟨(RX2, TX2, 11), rfl, (q_mem 615 (by decide +kernel) rfl)⟩, (q_mem 613 (by decide +kernel) rfl)⟩
set_option maxRecDepth 100000 in
theorem vX4_137 : okV RX4 137 2 mX2_hasPlot 1 := ⟨bX2_hasPlot, (q_mem 375 (by decide +kernel) rfl), ⟨(RX2, TX2, 11), rfl, (q_mem 376 (by decide +kernel) rfl)⟩, (q_mem 617 (by decide +kernel) rfl)⟩
set_option maxRecDepth 100000 in
theorem vX11_130 : okV RX11 130 4 mX4_firstBare 0 := ⟨bX4_firstBare, (q_mem 619 (by decide +kernel) rfl), ⟨(RX4, TX4, 11), rfl, (q_mem 620 (by decide +kernel) rfl)⟩, (q_mem 618 (by decide +kernel) rfl)⟩
set_option maxRecDepth 100000 in
theorem vL_78 : okV RL 78 11 mX11_sign 1 := ⟨bX11_sign, (q_mem 623 (by decide +kernel) rfl), ⟨(RX11, TX11, 10), rfl, (q_mem 624 (by decide +kernel) rfl)⟩, (q_mem 622 (by decide +kernel) rfl)⟩
set_option maxRecDepth 100000 in
theorem vX11_137 : okV RX11 137 0 mX0_addSign 1 := ⟨bX0_addSign, (q_mem 627 (by decide +kernel) rfl), ⟨(RX0, TX0, 6), rfl, (q_mem 628 (by decide +kernel) rfl)⟩, (q_mem 626 (by decide +kernel) rfl)⟩
set_option maxRecDepth 100000 in
theorem sX0_43 : okS RX0 43 mX0_isLetter 1 := ⟨bX0_isLetter, (q_mem 631 (by decide +kernel) rfl), (q_mem 630 (by decide +kernel) rfl)⟩
set_option maxRecDepth 100000 in
theorem vL_82 : okV RL 82 11 mX11_hush 0 := ⟨bX11_hush, (q_mem 634 (by decide +kernel) rfl), ⟨(RX11, TX11, 10), rfl, (q_mem 635 (by decide +kernel) rfl)⟩, (q_mem 633 (by decide +kernel) rfl)⟩
set_option maxRecDepth 100000 in
theorem vX11_142 : okV RX11 142 0 mX0_forgetSigns 0 := ⟨bX0_forgetSigns, (q_mem 638 (by decide +kernel) rfl), ⟨(RX0, TX0, 6), rfl, (q_mem 639 (by decide +kernel) rfl)⟩, (q_mem 637 (by decide +kernel) rfl)⟩
set_option maxRecDepth 100000 in
theorem vL_86 : okV RL 86 11 mX11_law 2 := ⟨bX11_law, (q_mem 642 (by decide +kernel) rfl), ⟨(RX11, TX11, 10), rfl, (q_mem 643 (by decide +kernel) rfl)⟩, (q_mem 641 (by decide +kernel) rfl)⟩
set_option maxRecDepth 100000 in
theorem vX11_145 : okV RX11 145 0 mX0_addLawSign 2 := ⟨bX0_addLawSign, (q_mem 646 (by decide +kernel) rfl), ⟨(RX0, TX0, 6), rfl, (q_mem 647 (by decide +kernel) rfl)⟩, (q_mem 645 (by decide +kernel) rfl)⟩
set_option maxRecDepth 100000 in
theorem sX0_47 : okS RX0 47 mX0_isLaw 1 := ⟨bX0_isLaw, (q_mem 650 (by decide +kernel) rfl), (q_mem 649 (by decide +kernel) rfl)⟩
set_option maxRecDepth 100000 in
theorem vL_90 : okV RL 90 11 mX11_noLaw 1 := ⟨bX11_noLaw, (q_mem 653 (by decide +kernel) rfl), ⟨(RX11, TX11, 10), rfl, (q_mem 654 (by decide +kernel) rfl)⟩, (q_mem 652 (by decide +kernel) rfl)⟩
set_option maxRecDepth 100000 in
theorem vX11_148 : okV RX11 148 0 mX0_forgetLaw 1 := ⟨bX0_forgetLaw, (q_mem 657 (by decide +kernel) rfl), ⟨(RX0, TX0, 6), rfl, (q_mem 658 (by decide +kernel) rfl)⟩, (q_mem 656 (by decide +kernel) rfl)⟩
set_option maxRecDepth 100000 in
theorem vL_94 : okV RL 94 11 mX11_word 1 := ⟨bX11_word, (q_mem 661 (by decide +kernel) rfl), ⟨(RX11, TX11, 10), rfl, (q_mem 662 (by decide +kernel) rfl)⟩, (q_mem 660 (by decide +kernel) rfl)⟩
set_option maxRecDepth 100000 in
theorem sX11_151 : okS RX11 151 mX0_isLaw 1 := ⟨bX0_isLaw, (q_mem 650 (by decide +kernel) rfl), (q_mem 664 (by decide +kernel) rfl)⟩
set_option maxRecDepth 100000 in
theorem vX11_154 : okV RX11 154 0 mX0_firstWord 1 := ⟨bX0_firstWord, (q_mem 666 (by decide +kernel) rfl), ⟨(RX0, TX0, 6), rfl, (q_mem 667 (by decide +kernel) rfl)⟩, (q_mem 665 (by decide +kernel) rfl)⟩
set_option maxRecDepth 100000 in
theorem vX0_50 : okV RX0 50 0 mX0_step 3 := ⟨bX0_step, (q_mem 671 (by decide +kernel) rfl), ⟨(RX0, TX0, 6), rfl, (q_mem 10 (by decide +kernel) rfl)⟩, (q_mem 669 (by decide +kernel) rfl)⟩
set_option maxRecDepth 100000 in
theorem vX0_54 : okV RX0 54 0 mX0_isBroken 2 := ⟨bX0_isBroken, (q_mem 676 (by decide +kernel) rfl), ⟨(RX0, TX0, 6), rfl, (q_mem 11 (by decide +kernel) rfl)⟩, (q_mem 674 (by decide +kernel) rfl)⟩
set_option maxRecDepth 100000 in
theorem vL_98 : okV RL 98 11 mX11_silent 0 := ⟨bX11_silent, (q_mem 679 (by decide +kernel) rfl), ⟨(RX11, TX11, 10), rfl, (q_mem 680 (by decide +kernel) rfl)⟩, (q_mem 678 (by decide +kernel) rfl)⟩
set_option maxRecDepth 100000 in
theorem vX11_157 : okV RX11 157 0 mX0_unbroken 0 := ⟨bX0_unbroken, (q_mem 683 (by decide +kernel) rfl), ⟨(RX0, TX0, 6), rfl, (q_mem 684 (by decide +kernel) rfl)⟩, (q_mem 682 (by decide +kernel) rfl)⟩
set_option maxRecDepth 100000 in
theorem vX0_58 : okV RX0 58 0 mX0_firstWord 1 := ⟨bX0_firstWord, (q_mem 666 (by decide +kernel) rfl), ⟨(RX0, TX0, 6), rfl, (q_mem 667 (by decide +kernel) rfl)⟩, (q_mem 686 (by decide +kernel) rfl)⟩
set_option maxRecDepth 100000 in
theorem vL_102 : okV RL 102 11 mX11_met 2 := ⟨bX11_met, (q_mem 688 (by decide +kernel) rfl), ⟨(RX11, TX11, 10), rfl, (q_mem 689 (by decide +kernel) rfl)⟩, (q_mem 687 (by decide +kernel) rfl)⟩
set_option maxRecDepth 100000 in
theorem sX11_160 : okS RX11 160 mX0_isLetter 1 := ⟨bX0_isLetter, (q_mem 631 (by decide +kernel) rfl), (q_mem 691 (by decide +kernel) rfl)⟩
set_option maxRecDepth 100000 in
theorem vX11_163 : okV RX11 163 0 mX0_fewestMore 1 := ⟨bX0_fewestMore, (q_mem 693 (by decide +kernel) rfl), ⟨(RX0, TX0, 6), rfl, (q_mem 694 (by decide +kernel) rfl)⟩, (q_mem 692 (by decide +kernel) rfl)⟩
set_option maxRecDepth 100000 in
theorem vX0_65 : okV RX0 65 0 mX0_unbroken 0 := ⟨bX0_unbroken, (q_mem 683 (by decide +kernel) rfl), ⟨(RX0, TX0, 6), rfl, (q_mem 684 (by decide +kernel) rfl)⟩, (q_mem 696 (by decide +kernel) rfl)⟩
set_option maxRecDepth 100000 in
theorem vX0_69 : okV RX0 69 0 mX0_reachEnd 0 := ⟨bX0_reachEnd, (q_mem 699 (by decide +kernel) rfl), ⟨(RX0, TX0, 6), rfl, (q_mem 12 (by decide +kernel) rfl)⟩, (q_mem 697 (by decide +kernel) rfl)⟩
set_option maxRecDepth 100000 in
theorem vX0_72 : okV RX0 72 0 mX0_writeMore 2 := ⟨bX0_writeMore, (q_mem 703 (by decide +kernel) rfl), ⟨(RX0, TX0, 6), rfl, (q_mem 13 (by decide +kernel) rfl)⟩, (q_mem 701 (by decide +kernel) rfl)⟩
set_option maxRecDepth 100000 in
theorem vX0_76 : okV RX0 76 0 mX0_keeps 2 := ⟨bX0_keeps, (q_mem 707 (by decide +kernel) rfl), ⟨(RX0, TX0, 6), rfl, (q_mem 14 (by decide +kernel) rfl)⟩, (q_mem 705 (by decide +kernel) rfl)⟩
set_option maxRecDepth 100000 in
theorem vX11_166 : okV RX11 166 0 mX0_moreSign 1 := ⟨bX0_moreSign, (q_mem 710 (by decide +kernel) rfl), ⟨(RX0, TX0, 6), rfl, (q_mem 711 (by decide +kernel) rfl)⟩, (q_mem 709 (by decide +kernel) rfl)⟩
set_option maxRecDepth 100000 in
theorem vL_106 : okV RL 106 11 mX11_show 2 := ⟨bX11_show, (q_mem 714 (by decide +kernel) rfl), ⟨(RX11, TX11, 10), rfl, (q_mem 715 (by decide +kernel) rfl)⟩, (q_mem 713 (by decide +kernel) rfl)⟩
set_option maxRecDepth 100000 in
theorem vX11_173 : okV RX11 173 8 mX8_add 2 := ⟨bX8_add, (q_mem 718 (by decide +kernel) rfl), ⟨(RX8, TX8, 3), rfl, (q_mem 719 (by decide +kernel) rfl)⟩, (q_mem 717 (by decide +kernel) rfl)⟩
set_option maxRecDepth 100000 in
theorem vL_110 : okV RL 110 11 mX11_noTrial 0 := ⟨bX11_noTrial, (q_mem 722 (by decide +kernel) rfl), ⟨(RX11, TX11, 10), rfl, (q_mem 723 (by decide +kernel) rfl)⟩, (q_mem 721 (by decide +kernel) rfl)⟩
set_option maxRecDepth 100000 in
theorem vX11_178 : okV RX11 178 8 mX8_forget 0 := ⟨bX8_forget, (q_mem 726 (by decide +kernel) rfl), ⟨(RX8, TX8, 3), rfl, (q_mem 727 (by decide +kernel) rfl)⟩, (q_mem 725 (by decide +kernel) rfl)⟩
set_option maxRecDepth 100000 in
theorem vL_114 : okV RL 114 11 mX11_lasts 2 := ⟨bX11_lasts, (q_mem 730 (by decide +kernel) rfl), ⟨(RX11, TX11, 10), rfl, (q_mem 731 (by decide +kernel) rfl)⟩, (q_mem 729 (by decide +kernel) rfl)⟩
set_option maxRecDepth 100000 in
theorem vX11_181 : okV RX11 181 8 mX8_mostShown 1 := ⟨bX8_mostShown, (q_mem 734 (by decide +kernel) rfl), ⟨(RX8, TX8, 3), rfl, (q_mem 735 (by decide +kernel) rfl)⟩, (q_mem 733 (by decide +kernel) rfl)⟩
set_option maxRecDepth 100000 in
theorem sX8_27 : okS RX8 27 mJ6_bitCount_0f7a4 1 := ⟨bJ6_bitCount_0f7a4, (q_mem 738 (by decide +kernel) rfl), (q_mem 737 (by decide +kernel) rfl)⟩
set_option maxRecDepth 100000 in
theorem vX8_33 : okV RX8 33 8 mX8_endBehind 3 := ⟨bX8_endBehind, (q_mem 745 (by decide +kernel) rfl), ⟨(RX8, TX8, 3), rfl, (q_mem 15 (by decide +kernel) rfl)⟩, (q_mem 743 (by decide +kernel) rfl)⟩
set_option maxRecDepth 100000 in
theorem vX8_37 : okV RX8 37 8 mX8_weight 2 := ⟨bX8_weight, (q_mem 749 (by decide +kernel) rfl), ⟨(RX8, TX8, 3), rfl, (q_mem 16 (by decide +kernel) rfl)⟩, (q_mem 747 (by decide +kernel) rfl)⟩
set_option maxRecDepth 100000 in
theorem vX11_184 : okV RX11 184 8 mX8_firstCharge 0 := ⟨bX8_firstCharge, (q_mem 753 (by decide +kernel) rfl), ⟨(RX8, TX8, 3), rfl, (q_mem 754 (by decide +kernel) rfl)⟩, (q_mem 752 (by decide +kernel) rfl)⟩
set_option maxRecDepth 100000 in
theorem vL_120 : okV RL 120 11 mX11_type 2 := ⟨bX11_type, (q_mem 757 (by decide +kernel) rfl), ⟨(RX11, TX11, 10), rfl, (q_mem 758 (by decide +kernel) rfl)⟩, (q_mem 756 (by decide +kernel) rfl)⟩
set_option maxRecDepth 100000 in
theorem vX11_187 : okV RX11 187 3 mX3_addBytes 2 := ⟨bX3_addBytes, (q_mem 761 (by decide +kernel) rfl), ⟨(RX3, TX3, 12), rfl, (q_mem 762 (by decide +kernel) rfl)⟩, (q_mem 760 (by decide +kernel) rfl)⟩
set_option maxRecDepth 100000 in
theorem vL_125 : okV RL 125 11 mX11_clear 0 := ⟨bX11_clear, (q_mem 766 (by decide +kernel) rfl), ⟨(RX11, TX11, 10), rfl, (q_mem 767 (by decide +kernel) rfl)⟩, (q_mem 765 (by decide +kernel) rfl)⟩
set_option maxRecDepth 100000 in
theorem vX11_191 : okV RX11 191 3 mX3_forget 0 := ⟨bX3_forget, (q_mem 770 (by decide +kernel) rfl), ⟨(RX3, TX3, 12), rfl, (q_mem 771 (by decide +kernel) rfl)⟩, (q_mem 769 (by decide +kernel) rfl)⟩
set_option maxRecDepth 100000 in
theorem vL_129 : okV RL 129 11 mX11_read 0 := ⟨bX11_read, (q_mem 774 (by decide +kernel) rfl), ⟨(RX11, TX11, 10), rfl, (q_mem 775 (by decide +kernel) rfl)⟩, (q_mem 773 (by decide +kernel) rfl)⟩
set_option maxRecDepth 100000 in
theorem vX11_192 : okV RX11 192 3 mX3_fault 0 := ⟨bX3_fault, (q_mem 778 (by decide +kernel) rfl), ⟨(RX3, TX3, 12), rfl, (q_mem 779 (by decide +kernel) rfl)⟩, (q_mem 777 (by decide +kernel) rfl)⟩
set_option maxRecDepth 100000 in
theorem vX3_51 : okV RX3 51 3 mX3_takeToken 0 := ⟨bX3_takeToken, (q_mem 783 (by decide +kernel) rfl), ⟨(RX3, TX3, 12), rfl, (q_mem 17 (by decide +kernel) rfl)⟩, (q_mem 781 (by decide +kernel) rfl)⟩
set_option maxRecDepth 100000 in
theorem sX3_89 : okS RX3 89 mX3_signOf 1 := ⟨bX3_signOf, (q_mem 786 (by decide +kernel) rfl), (q_mem 785 (by decide +kernel) rfl)⟩
set_option maxRecDepth 100000 in
theorem vX3_151 : okV RX3 151 3 mX3_takeWord 0 := ⟨bX3_takeWord, (q_mem 790 (by decide +kernel) rfl), ⟨(RX3, TX3, 12), rfl, (q_mem 18 (by decide +kernel) rfl)⟩, (q_mem 788 (by decide +kernel) rfl)⟩
set_option maxRecDepth 100000 in
theorem sX3_154 : okS RX3 154 mX3_isFigure 1 := ⟨bX3_isFigure, (q_mem 793 (by decide +kernel) rfl), (q_mem 792 (by decide +kernel) rfl)⟩
set_option maxRecDepth 100000 in
theorem vX3_158 : okV RX3 158 3 mX3_takeNumber 0 := ⟨bX3_takeNumber, (q_mem 797 (by decide +kernel) rfl), ⟨(RX3, TX3, 12), rfl, (q_mem 19 (by decide +kernel) rfl)⟩, (q_mem 795 (by decide +kernel) rfl)⟩
set_option maxRecDepth 100000 in
theorem vX3_54 : okV RX3 54 3 mX3_takeItem 0 := ⟨bX3_takeItem, (q_mem 801 (by decide +kernel) rfl), ⟨(RX3, TX3, 12), rfl, (q_mem 20 (by decide +kernel) rfl)⟩, (q_mem 799 (by decide +kernel) rfl)⟩
set_option maxRecDepth 100000 in
theorem vX3_100 : okV RX3 100 3 mX3_itemNamed 0 := ⟨bX3_itemNamed, (q_mem 805 (by decide +kernel) rfl), ⟨(RX3, TX3, 12), rfl, (q_mem 21 (by decide +kernel) rfl)⟩, (q_mem 803 (by decide +kernel) rfl)⟩
set_option maxRecDepth 100000 in
theorem sX3_121 : okS RX3 121 mX3_name 1 := ⟨bX3_name, (q_mem 808 (by decide +kernel) rfl), (q_mem 807 (by decide +kernel) rfl)⟩
set_option maxRecDepth 100000 in
theorem vX3_124 : okV RX3 124 3 mX3_isTaken 1 := ⟨bX3_isTaken, (q_mem 818 (by decide +kernel) rfl), ⟨(RX3, TX3, 12), rfl, (q_mem 22 (by decide +kernel) rfl)⟩, (q_mem 816 (by decide +kernel) rfl)⟩
set_option maxRecDepth 100000 in
theorem sX3_104 : okS RX3 104 mX3_form 1 := ⟨bX3_form, (q_mem 869 (by decide +kernel) rfl), (q_mem 868 (by decide +kernel) rfl)⟩
set_option maxRecDepth 100000 in
theorem vX3_117 : okV RX3 117 3 mX3_stands 1 := ⟨bX3_stands, (q_mem 877 (by decide +kernel) rfl), ⟨(RX3, TX3, 12), rfl, (q_mem 23 (by decide +kernel) rfl)⟩, (q_mem 875 (by decide +kernel) rfl)⟩
set_option maxRecDepth 100000 in
theorem vX3_147 : okV RX3 147 3 mX3_standsWord 2 := ⟨bX3_standsWord, (q_mem 881 (by decide +kernel) rfl), ⟨(RX3, TX3, 12), rfl, (q_mem 24 (by decide +kernel) rfl)⟩, (q_mem 879 (by decide +kernel) rfl)⟩
set_option maxRecDepth 100000 in
theorem vX11_195 : okV RX11 195 2 mX2_empty 0 := ⟨bX2_empty, (q_mem 884 (by decide +kernel) rfl), ⟨(RX2, TX2, 11), rfl, (q_mem 885 (by decide +kernel) rfl)⟩, (q_mem 883 (by decide +kernel) rfl)⟩
set_option maxRecDepth 100000 in
theorem sX2_73 : okS RX2 73 mJ7_fill_53178 2 := ⟨bJ7_fill_53178, (q_mem 526 (by decide +kernel) rfl), (q_mem 887 (by decide +kernel) rfl)⟩
set_option maxRecDepth 100000 in
theorem vX2_79 : okV RX2 79 0 mX0_empty 0 := ⟨bX0_empty, (q_mem 889 (by decide +kernel) rfl), ⟨(RX0, TX0, 6), rfl, (q_mem 890 (by decide +kernel) rfl)⟩, (q_mem 888 (by decide +kernel) rfl)⟩
set_option maxRecDepth 100000 in
theorem sX0_31 : okS RX0 31 mJ7_fill_53178 2 := ⟨bJ7_fill_53178, (q_mem 526 (by decide +kernel) rfl), (q_mem 892 (by decide +kernel) rfl)⟩
set_option maxRecDepth 100000 in
theorem vX2_82 : okV RX2 82 8 mX8_forget 0 := ⟨bX8_forget, (q_mem 726 (by decide +kernel) rfl), ⟨(RX8, TX8, 3), rfl, (q_mem 727 (by decide +kernel) rfl)⟩, (q_mem 893 (by decide +kernel) rfl)⟩
set_option maxRecDepth 100000 in
theorem vX11_198 : okV RX11 198 3 mX3_tell 1 := ⟨bX3_tell, (q_mem 895 (by decide +kernel) rfl), ⟨(RX3, TX3, 12), rfl, (q_mem 896 (by decide +kernel) rfl)⟩, (q_mem 894 (by decide +kernel) rfl)⟩
set_option maxRecDepth 100000 in
theorem vX3_58 : okV RX3 58 3 mX3_tellItem 1 := ⟨bX3_tellItem, (q_mem 900 (by decide +kernel) rfl), ⟨(RX3, TX3, 12), rfl, (q_mem 25 (by decide +kernel) rfl)⟩, (q_mem 898 (by decide +kernel) rfl)⟩
set_option maxRecDepth 100000 in
theorem vX3_62 : okV RX3 62 2 mX2_addPlot 2 := ⟨bX2_addPlot, (q_mem 347 (by decide +kernel) rfl), ⟨(RX2, TX2, 11), rfl, (q_mem 348 (by decide +kernel) rfl)⟩, (q_mem 902 (by decide +kernel) rfl)⟩
set_option maxRecDepth 100000 in
theorem vX3_68 : okV RX3 68 2 mX2_addShirt 1 := ⟨bX2_addShirt, (q_mem 359 (by decide +kernel) rfl), ⟨(RX2, TX2, 11), rfl, (q_mem 360 (by decide +kernel) rfl)⟩, (q_mem 903 (by decide +kernel) rfl)⟩
set_option maxRecDepth 100000 in
theorem vX3_78 : okV RX3 78 8 mX8_add 2 := ⟨bX8_add, (q_mem 718 (by decide +kernel) rfl), ⟨(RX8, TX8, 3), rfl, (q_mem 719 (by decide +kernel) rfl)⟩, (q_mem 904 (by decide +kernel) rfl)⟩
set_option maxRecDepth 100000 in
theorem vX3_85 : okV RX3 85 3 mX3_tellSigns 1 := ⟨bX3_tellSigns, (q_mem 907 (by decide +kernel) rfl), ⟨(RX3, TX3, 12), rfl, (q_mem 26 (by decide +kernel) rfl)⟩, (q_mem 905 (by decide +kernel) rfl)⟩
set_option maxRecDepth 100000 in
theorem vX3_92 : okV RX3 92 0 mX0_addLawSign 2 := ⟨bX0_addLawSign, (q_mem 646 (by decide +kernel) rfl), ⟨(RX0, TX0, 6), rfl, (q_mem 647 (by decide +kernel) rfl)⟩, (q_mem 909 (by decide +kernel) rfl)⟩
set_option maxRecDepth 100000 in
theorem vX3_97 : okV RX3 97 0 mX0_addSign 1 := ⟨bX0_addSign, (q_mem 627 (by decide +kernel) rfl), ⟨(RX0, TX0, 6), rfl, (q_mem 628 (by decide +kernel) rfl)⟩, (q_mem 910 (by decide +kernel) rfl)⟩
set_option maxRecDepth 100000 in
theorem vX11_202 : okV RX11 202 2 mX2_become 1 := ⟨bX2_become, (q_mem 912 (by decide +kernel) rfl), ⟨(RX2, TX2, 11), rfl, (q_mem 913 (by decide +kernel) rfl)⟩, (q_mem 911 (by decide +kernel) rfl)⟩
set_option maxRecDepth 100000 in
theorem vX2_92 : okV RX2 92 0 mX0_become 1 := ⟨bX0_become, (q_mem 916 (by decide +kernel) rfl), ⟨(RX0, TX0, 6), rfl, (q_mem 917 (by decide +kernel) rfl)⟩, (q_mem 915 (by decide +kernel) rfl)⟩
set_option maxRecDepth 100000 in
theorem aX0_37 : Cond.methodLink RX0 37 arraycopyName ∈ qtb := (q_mem 919 (by decide +kernel) rfl)
set_option maxRecDepth 100000 in
theorem vX2_96 : okV RX2 96 8 mX8_become 1 := ⟨bX8_become, (q_mem 921 (by decide +kernel) rfl), ⟨(RX8, TX8, 3), rfl, (q_mem 922 (by decide +kernel) rfl)⟩, (q_mem 920 (by decide +kernel) rfl)⟩
set_option maxRecDepth 100000 in
theorem aX8_21 : Cond.methodLink RX8 21 arraycopyName ∈ qtb := (q_mem 924 (by decide +kernel) rfl)
set_option maxRecDepth 100000 in
theorem vX11_206 : okV RX11 206 3 mX3_items 0 := ⟨bX3_items, (q_mem 926 (by decide +kernel) rfl), ⟨(RX3, TX3, 12), rfl, (q_mem 927 (by decide +kernel) rfl)⟩, (q_mem 925 (by decide +kernel) rfl)⟩
set_option maxRecDepth 100000 in
theorem vL_133 : okV RL 133 11 mX11_part 1 := ⟨bX11_part, (q_mem 931 (by decide +kernel) rfl), ⟨(RX11, TX11, 10), rfl, (q_mem 932 (by decide +kernel) rfl)⟩, (q_mem 930 (by decide +kernel) rfl)⟩
set_option maxRecDepth 100000 in
theorem vL_138 : okV RL 138 11 mX11_image 1 := ⟨bX11_image, (q_mem 935 (by decide +kernel) rfl), ⟨(RX11, TX11, 10), rfl, (q_mem 936 (by decide +kernel) rfl)⟩, (q_mem 934 (by decide +kernel) rfl)⟩
set_option maxRecDepth 100000 in
theorem vL_142 : okV RL 142 11 mX11_from 1 := ⟨bX11_from, (q_mem 939 (by decide +kernel) rfl), ⟨(RX11, TX11, 10), rfl, (q_mem 940 (by decide +kernel) rfl)⟩, (q_mem 938 (by decide +kernel) rfl)⟩
set_option maxRecDepth 100000 in
theorem vL_146 : okV RL 146 11 mX11_status 1 := ⟨bX11_status, (q_mem 943 (by decide +kernel) rfl), ⟨(RX11, TX11, 10), rfl, (q_mem 944 (by decide +kernel) rfl)⟩, (q_mem 942 (by decide +kernel) rfl)⟩
set_option maxRecDepth 100000 in
theorem vL_150 : okV RL 150 11 mX11_count 1 := ⟨bX11_count, (q_mem 947 (by decide +kernel) rfl), ⟨(RX11, TX11, 10), rfl, (q_mem 948 (by decide +kernel) rfl)⟩, (q_mem 946 (by decide +kernel) rfl)⟩
set_option maxRecDepth 100000 in
theorem vX11_209 : okV RX11 209 11 mX11_amount 1 := ⟨bX11_amount, (q_mem 952 (by decide +kernel) rfl), ⟨(RX11, TX11, 10), rfl, (q_mem 27 (by decide +kernel) rfl)⟩, (q_mem 950 (by decide +kernel) rfl)⟩
set_option maxRecDepth 100000 in
theorem vL_154 : okV RL 154 11 mX11_digest 0 := ⟨bX11_digest, (q_mem 955 (by decide +kernel) rfl), ⟨(RX11, TX11, 10), rfl, (q_mem 956 (by decide +kernel) rfl)⟩, (q_mem 954 (by decide +kernel) rfl)⟩
set_option maxRecDepth 100000 in
theorem vX11_216 : okV RX11 216 2 mX2_mixed 1 := ⟨bX2_mixed, (q_mem 961 (by decide +kernel) rfl), ⟨(RX2, TX2, 11), rfl, (q_mem 962 (by decide +kernel) rfl)⟩, (q_mem 960 (by decide +kernel) rfl)⟩
set_option maxRecDepth 100000 in
theorem vX2_150 : okV RX2 150 0 mX0_mixed 1 := ⟨bX0_mixed, (q_mem 966 (by decide +kernel) rfl), ⟨(RX0, TX0, 6), rfl, (q_mem 967 (by decide +kernel) rfl)⟩, (q_mem 965 (by decide +kernel) rfl)⟩
set_option maxRecDepth 100000 in
theorem vX2_154 : okV RX2 154 8 mX8_mixed 1 := ⟨bX8_mixed, (q_mem 971 (by decide +kernel) rfl), ⟨(RX8, TX8, 3), rfl, (q_mem 972 (by decide +kernel) rfl)⟩, (q_mem 970 (by decide +kernel) rfl)⟩
set_option maxRecDepth 100000 in
theorem iL_12 : okI RL 12 mX12_init 0 := ⟨bX12_init, rfl, rfl, (q_mem 978 (by decide +kernel) rfl), (q_mem 977 (by decide +kernel) rfl)⟩
set_option maxRecDepth 100000 in
theorem jX12_1 : Cond.methodLink RX12 1 objectInit ∈ qtb := (q_mem 980 (by decide +kernel) rfl)
set_option maxRecDepth 100000 in
theorem vL_17 : okV RL 17 12 mX12_plot 2 := ⟨bX12_plot, (q_mem 1053 (by decide +kernel) rfl), ⟨(RX12, TX12, 23), rfl, (q_mem 1054 (by decide +kernel) rfl)⟩, (q_mem 1052 (by decide +kernel) rfl)⟩
set_option maxRecDepth 100000 in
theorem sX12_59 : okS RX12 59 mX12_in 3 := ⟨bX12_in, (q_mem 1058 (by decide +kernel) rfl), (q_mem 1057 (by decide +kernel) rfl)⟩
set_option maxRecDepth 100000 in
theorem vX12_74 : okV RX12 74 12 mX12_bad 0 := ⟨bX12_bad, (q_mem 1063 (by decide +kernel) rfl), ⟨(RX12, TX12, 23), rfl, (q_mem 28 (by decide +kernel) rfl)⟩, (q_mem 1061 (by decide +kernel) rfl)⟩
set_option maxRecDepth 100000 in
theorem vX12_55 : okV RX12 55 12 mX12_refuses 2 := ⟨bX12_refuses, (q_mem 1067 (by decide +kernel) rfl), ⟨(RX12, TX12, 23), rfl, (q_mem 29 (by decide +kernel) rfl)⟩, (q_mem 1065 (by decide +kernel) rfl)⟩
set_option maxRecDepth 100000 in
theorem vX12_78 : okV RX12 78 12 mX12_full 0 := ⟨bX12_full, (q_mem 1071 (by decide +kernel) rfl), ⟨(RX12, TX12, 23), rfl, (q_mem 30 (by decide +kernel) rfl)⟩, (q_mem 1069 (by decide +kernel) rfl)⟩
set_option maxRecDepth 100000 in
theorem vL_22 : okV RL 22 12 mX12_shirt 1 := ⟨bX12_shirt, (q_mem 1074 (by decide +kernel) rfl), ⟨(RX12, TX12, 23), rfl, (q_mem 1075 (by decide +kernel) rfl)⟩, (q_mem 1073 (by decide +kernel) rfl)⟩
set_option maxRecDepth 100000 in
theorem vL_26 : okV RL 26 12 mX12_night 1 := ⟨bX12_night, (q_mem 1079 (by decide +kernel) rfl), ⟨(RX12, TX12, 23), rfl, (q_mem 1080 (by decide +kernel) rfl)⟩, (q_mem 1078 (by decide +kernel) rfl)⟩
set_option maxRecDepth 100000 in
theorem vX12_96 : okV RX12 96 12 mX12_isNight 1 := ⟨bX12_isNight, (q_mem 1084 (by decide +kernel) rfl), ⟨(RX12, TX12, 23), rfl, (q_mem 31 (by decide +kernel) rfl)⟩, (q_mem 1082 (by decide +kernel) rfl)⟩
set_option maxRecDepth 100000 in
theorem vX12_63 : okV RX12 63 12 mX12_isPlot 1 := ⟨bX12_isPlot, (q_mem 1088 (by decide +kernel) rfl), ⟨(RX12, TX12, 23), rfl, (q_mem 32 (by decide +kernel) rfl)⟩, (q_mem 1086 (by decide +kernel) rfl)⟩
set_option maxRecDepth 100000 in
theorem vX12_67 : okV RX12 67 12 mX12_isShirt 1 := ⟨bX12_isShirt, (q_mem 1092 (by decide +kernel) rfl), ⟨(RX12, TX12, 23), rfl, (q_mem 33 (by decide +kernel) rfl)⟩, (q_mem 1090 (by decide +kernel) rfl)⟩
set_option maxRecDepth 100000 in
theorem vX12_99 : okV RX12 99 12 mX12_asNow 0 := ⟨bX12_asNow, (q_mem 1096 (by decide +kernel) rfl), ⟨(RX12, TX12, 23), rfl, (q_mem 34 (by decide +kernel) rfl)⟩, (q_mem 1094 (by decide +kernel) rfl)⟩
set_option maxRecDepth 100000 in
theorem vX12_102 : okV RX12 102 12 mX12_goes 1 := ⟨bX12_goes, (q_mem 1100 (by decide +kernel) rfl), ⟨(RX12, TX12, 23), rfl, (q_mem 35 (by decide +kernel) rfl)⟩, (q_mem 1098 (by decide +kernel) rfl)⟩
set_option maxRecDepth 100000 in
theorem sX12_83 : okS RX12 83 mX12_picks 2 := ⟨bX12_picks, (q_mem 1103 (by decide +kernel) rfl), (q_mem 1102 (by decide +kernel) rfl)⟩
set_option maxRecDepth 100000 in
theorem sX12_86 : okS RX12 86 mX12_lesser 2 := ⟨bX12_lesser, (q_mem 1106 (by decide +kernel) rfl), (q_mem 1105 (by decide +kernel) rfl)⟩
set_option maxRecDepth 100000 in
theorem sX12_89 : okS RX12 89 mX12_hurts 1 := ⟨bX12_hurts, (q_mem 1109 (by decide +kernel) rfl), (q_mem 1108 (by decide +kernel) rfl)⟩
set_option maxRecDepth 100000 in
theorem sX12_93 : okS RX12 93 mX12_grows 2 := ⟨bX12_grows, (q_mem 1112 (by decide +kernel) rfl), (q_mem 1111 (by decide +kernel) rfl)⟩
set_option maxRecDepth 100000 in
theorem vL_31 : okV RL 31 12 mX12_undo 0 := ⟨bX12_undo, (q_mem 1115 (by decide +kernel) rfl), ⟨(RX12, TX12, 23), rfl, (q_mem 1116 (by decide +kernel) rfl)⟩, (q_mem 1114 (by decide +kernel) rfl)⟩
set_option maxRecDepth 100000 in
theorem vX12_105 : okV RX12 105 12 mX12_no 0 := ⟨bX12_no, (q_mem 1120 (by decide +kernel) rfl), ⟨(RX12, TX12, 23), rfl, (q_mem 36 (by decide +kernel) rfl)⟩, (q_mem 1118 (by decide +kernel) rfl)⟩
set_option maxRecDepth 100000 in
theorem vL_35 : okV RL 35 12 mX12_nettles 1 := ⟨bX12_nettles, (q_mem 1123 (by decide +kernel) rfl), ⟨(RX12, TX12, 23), rfl, (q_mem 1124 (by decide +kernel) rfl)⟩, (q_mem 1122 (by decide +kernel) rfl)⟩
set_option maxRecDepth 100000 in
theorem vL_39 : okV RL 39 12 mX12_sewn 1 := ⟨bX12_sewn, (q_mem 1127 (by decide +kernel) rfl), ⟨(RX12, TX12, 23), rfl, (q_mem 1128 (by decide +kernel) rfl)⟩, (q_mem 1126 (by decide +kernel) rfl)⟩
set_option maxRecDepth 100000 in
theorem vL_43 : okV RL 43 12 mX12_has 1 := ⟨bX12_has, (q_mem 1131 (by decide +kernel) rfl), ⟨(RX12, TX12, 23), rfl, (q_mem 1132 (by decide +kernel) rfl)⟩, (q_mem 1130 (by decide +kernel) rfl)⟩
set_option maxRecDepth 100000 in
theorem vL_47 : okV RL 47 12 mX12_plan 2 := ⟨bX12_plan, (q_mem 1135 (by decide +kernel) rfl), ⟨(RX12, TX12, 23), rfl, (q_mem 1136 (by decide +kernel) rfl)⟩, (q_mem 1134 (by decide +kernel) rfl)⟩
set_option maxRecDepth 100000 in
theorem vX12_115 : okV RX12 115 12 mX12_plans 2 := ⟨bX12_plans, (q_mem 1140 (by decide +kernel) rfl), ⟨(RX12, TX12, 23), rfl, (q_mem 37 (by decide +kernel) rfl)⟩, (q_mem 1138 (by decide +kernel) rfl)⟩
set_option maxRecDepth 100000 in
theorem vX12_112 : okV RX12 112 12 mX12_areSewn 1 := ⟨bX12_areSewn, (q_mem 1146 (by decide +kernel) rfl), ⟨(RX12, TX12, 23), rfl, (q_mem 38 (by decide +kernel) rfl)⟩, (q_mem 1144 (by decide +kernel) rfl)⟩
set_option maxRecDepth 100000 in
theorem vL_52 : okV RL 52 12 mX12_inTime 3 := ⟨bX12_inTime, (q_mem 1149 (by decide +kernel) rfl), ⟨(RX12, TX12, 23), rfl, (q_mem 1150 (by decide +kernel) rfl)⟩, (q_mem 1148 (by decide +kernel) rfl)⟩
set_option maxRecDepth 100000 in
theorem vX12_118 : okV RX12 118 12 mX12_areShirts 1 := ⟨bX12_areShirts, (q_mem 1154 (by decide +kernel) rfl), ⟨(RX12, TX12, 23), rfl, (q_mem 39 (by decide +kernel) rfl)⟩, (q_mem 1152 (by decide +kernel) rfl)⟩
set_option maxRecDepth 100000 in
theorem vL_56 : okV RL 56 12 mX12_fewest 1 := ⟨bX12_fewest, (q_mem 1157 (by decide +kernel) rfl), ⟨(RX12, TX12, 23), rfl, (q_mem 1158 (by decide +kernel) rfl)⟩, (q_mem 1156 (by decide +kernel) rfl)⟩
set_option maxRecDepth 100000 in
theorem vL_60 : okV RL 60 12 mX12_left 2 := ⟨bX12_left, (q_mem 1161 (by decide +kernel) rfl), ⟨(RX12, TX12, 23), rfl, (q_mem 1162 (by decide +kernel) rfl)⟩, (q_mem 1160 (by decide +kernel) rfl)⟩
set_option maxRecDepth 100000 in
theorem vL_64 : okV RL 64 12 mX12_stings 3 := ⟨bX12_stings, (q_mem 1165 (by decide +kernel) rfl), ⟨(RX12, TX12, 23), rfl, (q_mem 1166 (by decide +kernel) rfl)⟩, (q_mem 1164 (by decide +kernel) rfl)⟩
set_option maxRecDepth 100000 in
theorem sX12_129 : okS RX12 129 mX12_stung 3 := ⟨bX12_stung, (q_mem 1171 (by decide +kernel) rfl), (q_mem 1170 (by decide +kernel) rfl)⟩
set_option maxRecDepth 100000 in
theorem sX12_121 : okS RX12 121 mX12_power 2 := ⟨bX12_power, (q_mem 1174 (by decide +kernel) rfl), (q_mem 1173 (by decide +kernel) rfl)⟩
set_option maxRecDepth 100000 in
theorem sX12_133 : okS RX12 133 mX12_divisor 2 := ⟨bX12_divisor, (q_mem 1177 (by decide +kernel) rfl), (q_mem 1176 (by decide +kernel) rfl)⟩
set_option maxRecDepth 100000 in
theorem vL_69 : okV RL 69 12 mX12_surest 4 := ⟨bX12_surest, (q_mem 1180 (by decide +kernel) rfl), ⟨(RX12, TX12, 23), rfl, (q_mem 1181 (by decide +kernel) rfl)⟩, (q_mem 1179 (by decide +kernel) rfl)⟩
set_option maxRecDepth 100000 in
theorem vL_73 : okV RL 73 12 mX12_told 2 := ⟨bX12_told, (q_mem 1185 (by decide +kernel) rfl), ⟨(RX12, TX12, 23), rfl, (q_mem 1186 (by decide +kernel) rfl)⟩, (q_mem 1184 (by decide +kernel) rfl)⟩
set_option maxRecDepth 100000 in
theorem vL_77 : okV RL 77 12 mX12_bare 2 := ⟨bX12_bare, (q_mem 1189 (by decide +kernel) rfl), ⟨(RX12, TX12, 23), rfl, (q_mem 1190 (by decide +kernel) rfl)⟩, (q_mem 1188 (by decide +kernel) rfl)⟩
set_option maxRecDepth 100000 in
theorem vL_81 : okV RL 81 12 mX12_sign 1 := ⟨bX12_sign, (q_mem 1194 (by decide +kernel) rfl), ⟨(RX12, TX12, 23), rfl, (q_mem 1195 (by decide +kernel) rfl)⟩, (q_mem 1193 (by decide +kernel) rfl)⟩
set_option maxRecDepth 100000 in
theorem vL_85 : okV RL 85 12 mX12_hush 0 := ⟨bX12_hush, (q_mem 1199 (by decide +kernel) rfl), ⟨(RX12, TX12, 23), rfl, (q_mem 1200 (by decide +kernel) rfl)⟩, (q_mem 1198 (by decide +kernel) rfl)⟩
set_option maxRecDepth 100000 in
theorem vL_89 : okV RL 89 12 mX12_law 2 := ⟨bX12_law, (q_mem 1203 (by decide +kernel) rfl), ⟨(RX12, TX12, 23), rfl, (q_mem 1204 (by decide +kernel) rfl)⟩, (q_mem 1202 (by decide +kernel) rfl)⟩
set_option maxRecDepth 100000 in
theorem vL_93 : okV RL 93 12 mX12_noLaw 1 := ⟨bX12_noLaw, (q_mem 1208 (by decide +kernel) rfl), ⟨(RX12, TX12, 23), rfl, (q_mem 1209 (by decide +kernel) rfl)⟩, (q_mem 1207 (by decide +kernel) rfl)⟩
set_option maxRecDepth 100000 in
theorem vL_97 : okV RL 97 12 mX12_word 1 := ⟨bX12_word, (q_mem 1212 (by decide +kernel) rfl), ⟨(RX12, TX12, 23), rfl, (q_mem 1213 (by decide +kernel) rfl)⟩, (q_mem 1211 (by decide +kernel) rfl)⟩
set_option maxRecDepth 100000 in
theorem vX12_151 : okV RX12 151 12 mX12_broken 2 := ⟨bX12_broken, (q_mem 1217 (by decide +kernel) rfl), ⟨(RX12, TX12, 23), rfl, (q_mem 40 (by decide +kernel) rfl)⟩, (q_mem 1215 (by decide +kernel) rfl)⟩
set_option maxRecDepth 100000 in
theorem vX12_148 : okV RX12 148 12 mX12_signAt 1 := ⟨bX12_signAt, (q_mem 1221 (by decide +kernel) rfl), ⟨(RX12, TX12, 23), rfl, (q_mem 41 (by decide +kernel) rfl)⟩, (q_mem 1219 (by decide +kernel) rfl)⟩
set_option maxRecDepth 100000 in
theorem vL_101 : okV RL 101 12 mX12_silent 0 := ⟨bX12_silent, (q_mem 1224 (by decide +kernel) rfl), ⟨(RX12, TX12, 23), rfl, (q_mem 1225 (by decide +kernel) rfl)⟩, (q_mem 1223 (by decide +kernel) rfl)⟩
set_option maxRecDepth 100000 in
theorem vX12_154 : okV RX12 154 12 mX12_silentIn 1 := ⟨bX12_silentIn, (q_mem 1229 (by decide +kernel) rfl), ⟨(RX12, TX12, 23), rfl, (q_mem 42 (by decide +kernel) rfl)⟩, (q_mem 1227 (by decide +kernel) rfl)⟩
set_option maxRecDepth 100000 in
theorem vL_105 : okV RL 105 12 mX12_met 2 := ⟨bX12_met, (q_mem 1232 (by decide +kernel) rfl), ⟨(RX12, TX12, 23), rfl, (q_mem 1233 (by decide +kernel) rfl)⟩, (q_mem 1231 (by decide +kernel) rfl)⟩
set_option maxRecDepth 100000 in
theorem vL_109 : okV RL 109 12 mX12_show 2 := ⟨bX12_show, (q_mem 1236 (by decide +kernel) rfl), ⟨(RX12, TX12, 23), rfl, (q_mem 1237 (by decide +kernel) rfl)⟩, (q_mem 1235 (by decide +kernel) rfl)⟩
set_option maxRecDepth 100000 in
theorem vL_113 : okV RL 113 12 mX12_noTrial 0 := ⟨bX12_noTrial, (q_mem 1241 (by decide +kernel) rfl), ⟨(RX12, TX12, 23), rfl, (q_mem 1242 (by decide +kernel) rfl)⟩, (q_mem 1240 (by decide +kernel) rfl)⟩
set_option maxRecDepth 100000 in
theorem vL_117 : okV RL 117 12 mX12_lasts 2 := ⟨bX12_lasts, (q_mem 1245 (by decide +kernel) rfl), ⟨(RX12, TX12, 23), rfl, (q_mem 1246 (by decide +kernel) rfl)⟩, (q_mem 1244 (by decide +kernel) rfl)⟩
set_option maxRecDepth 100000 in
theorem vX12_166 : okV RX12 166 12 mX12_reckons 1 := ⟨bX12_reckons, (q_mem 1250 (by decide +kernel) rfl), ⟨(RX12, TX12, 23), rfl, (q_mem 43 (by decide +kernel) rfl)⟩, (q_mem 1248 (by decide +kernel) rfl)⟩
set_option maxRecDepth 100000 in
theorem vX12_162 : okV RX12 162 12 mX12_behind 4 := ⟨bX12_behind, (q_mem 1254 (by decide +kernel) rfl), ⟨(RX12, TX12, 23), rfl, (q_mem 44 (by decide +kernel) rfl)⟩, (q_mem 1252 (by decide +kernel) rfl)⟩
set_option maxRecDepth 100000 in
theorem vX12_159 : okV RX12 159 12 mX12_weightOf 2 := ⟨bX12_weightOf, (q_mem 1258 (by decide +kernel) rfl), ⟨(RX12, TX12, 23), rfl, (q_mem 45 (by decide +kernel) rfl)⟩, (q_mem 1256 (by decide +kernel) rfl)⟩
set_option maxRecDepth 100000 in
theorem vL_124 : okV RL 124 12 mX12_type 2 := ⟨bX12_type, (q_mem 1261 (by decide +kernel) rfl), ⟨(RX12, TX12, 23), rfl, (q_mem 1262 (by decide +kernel) rfl)⟩, (q_mem 1260 (by decide +kernel) rfl)⟩
set_option maxRecDepth 100000 in
theorem vL_128 : okV RL 128 12 mX12_clear 0 := ⟨bX12_clear, (q_mem 1267 (by decide +kernel) rfl), ⟨(RX12, TX12, 23), rfl, (q_mem 1268 (by decide +kernel) rfl)⟩, (q_mem 1266 (by decide +kernel) rfl)⟩
set_option maxRecDepth 100000 in
theorem vL_132 : okV RL 132 12 mX12_read 0 := ⟨bX12_read, (q_mem 1271 (by decide +kernel) rfl), ⟨(RX12, TX12, 23), rfl, (q_mem 1272 (by decide +kernel) rfl)⟩, (q_mem 1270 (by decide +kernel) rfl)⟩
set_option maxRecDepth 100000 in
theorem vX12_250 : okV RX12 250 12 mX12_reads 0 := ⟨bX12_reads, (q_mem 1276 (by decide +kernel) rfl), ⟨(RX12, TX12, 23), rfl, (q_mem 46 (by decide +kernel) rfl)⟩, (q_mem 1274 (by decide +kernel) rfl)⟩
set_option maxRecDepth 100000 in
theorem vX12_225 : okV RX12 225 12 mX12_scans 0 := ⟨bX12_scans, (q_mem 1280 (by decide +kernel) rfl), ⟨(RX12, TX12, 23), rfl, (q_mem 47 (by decide +kernel) rfl)⟩, (q_mem 1278 (by decide +kernel) rfl)⟩
set_option maxRecDepth 100000 in
theorem vX12_181 : okV RX12 181 12 mX12_isAt 2 := ⟨bX12_isAt, (q_mem 1284 (by decide +kernel) rfl), ⟨(RX12, TX12, 23), rfl, (q_mem 48 (by decide +kernel) rfl)⟩, (q_mem 1282 (by decide +kernel) rfl)⟩
set_option maxRecDepth 100000 in
theorem vX12_191 : okV RX12 191 12 mX12_isSign 0 := ⟨bX12_isSign, (q_mem 1288 (by decide +kernel) rfl), ⟨(RX12, TX12, 23), rfl, (q_mem 49 (by decide +kernel) rfl)⟩, (q_mem 1286 (by decide +kernel) rfl)⟩
set_option maxRecDepth 100000 in
theorem sX12_228 : okS RX12 228 mX12_verbOf 1 := ⟨bX12_verbOf, (q_mem 1294 (by decide +kernel) rfl), (q_mem 1293 (by decide +kernel) rfl)⟩
set_option maxRecDepth 100000 in
theorem vX12_232 : okV RX12 232 12 mX12_takesWord 1 := ⟨bX12_takesWord, (q_mem 1304 (by decide +kernel) rfl), ⟨(RX12, TX12, 23), rfl, (q_mem 50 (by decide +kernel) rfl)⟩, (q_mem 1302 (by decide +kernel) rfl)⟩
set_option maxRecDepth 100000 in
theorem vX12_253 : okV RX12 253 12 mX12_tellsItem 1 := ⟨bX12_tellsItem, (q_mem 1308 (by decide +kernel) rfl), ⟨(RX12, TX12, 23), rfl, (q_mem 51 (by decide +kernel) rfl)⟩, (q_mem 1306 (by decide +kernel) rfl)⟩
set_option maxRecDepth 100000 in
theorem vX12_235 : okV RX12 235 12 mX12_law 2 := ⟨bX12_law, (q_mem 1203 (by decide +kernel) rfl), ⟨(RX12, TX12, 23), rfl, (q_mem 1204 (by decide +kernel) rfl)⟩, (q_mem 1310 (by decide +kernel) rfl)⟩
set_option maxRecDepth 100000 in
theorem vX12_238 : okV RX12 238 12 mX12_sign 1 := ⟨bX12_sign, (q_mem 1194 (by decide +kernel) rfl), ⟨(RX12, TX12, 23), rfl, (q_mem 1195 (by decide +kernel) rfl)⟩, (q_mem 1311 (by decide +kernel) rfl)⟩
set_option maxRecDepth 100000 in
theorem vX12_241 : okV RX12 241 12 mX12_plot 2 := ⟨bX12_plot, (q_mem 1053 (by decide +kernel) rfl), ⟨(RX12, TX12, 23), rfl, (q_mem 1054 (by decide +kernel) rfl)⟩, (q_mem 1312 (by decide +kernel) rfl)⟩
set_option maxRecDepth 100000 in
theorem vX12_244 : okV RX12 244 12 mX12_shirt 1 := ⟨bX12_shirt, (q_mem 1074 (by decide +kernel) rfl), ⟨(RX12, TX12, 23), rfl, (q_mem 1075 (by decide +kernel) rfl)⟩, (q_mem 1313 (by decide +kernel) rfl)⟩
set_option maxRecDepth 100000 in
theorem vX12_247 : okV RX12 247 12 mX12_show 2 := ⟨bX12_show, (q_mem 1236 (by decide +kernel) rfl), ⟨(RX12, TX12, 23), rfl, (q_mem 1237 (by decide +kernel) rfl)⟩, (q_mem 1314 (by decide +kernel) rfl)⟩
set_option maxRecDepth 100000 in
theorem vL_137 : okV RL 137 12 mX12_part 1 := ⟨bX12_part, (q_mem 1316 (by decide +kernel) rfl), ⟨(RX12, TX12, 23), rfl, (q_mem 1317 (by decide +kernel) rfl)⟩, (q_mem 1315 (by decide +kernel) rfl)⟩
set_option maxRecDepth 100000 in
theorem vL_141 : okV RL 141 12 mX12_image 1 := ⟨bX12_image, (q_mem 1320 (by decide +kernel) rfl), ⟨(RX12, TX12, 23), rfl, (q_mem 1321 (by decide +kernel) rfl)⟩, (q_mem 1319 (by decide +kernel) rfl)⟩
set_option maxRecDepth 100000 in
theorem vL_145 : okV RL 145 12 mX12_from 1 := ⟨bX12_from, (q_mem 1324 (by decide +kernel) rfl), ⟨(RX12, TX12, 23), rfl, (q_mem 1325 (by decide +kernel) rfl)⟩, (q_mem 1323 (by decide +kernel) rfl)⟩
set_option maxRecDepth 100000 in
theorem vL_149 : okV RL 149 12 mX12_status 1 := ⟨bX12_status, (q_mem 1328 (by decide +kernel) rfl), ⟨(RX12, TX12, 23), rfl, (q_mem 1329 (by decide +kernel) rfl)⟩, (q_mem 1327 (by decide +kernel) rfl)⟩
set_option maxRecDepth 100000 in
theorem vL_153 : okV RL 153 12 mX12_count 1 := ⟨bX12_count, (q_mem 1333 (by decide +kernel) rfl), ⟨(RX12, TX12, 23), rfl, (q_mem 1334 (by decide +kernel) rfl)⟩, (q_mem 1332 (by decide +kernel) rfl)⟩
set_option maxRecDepth 100000 in
theorem vX12_260 : okV RX12 260 12 mX12_countOf 1 := ⟨bX12_countOf, (q_mem 1339 (by decide +kernel) rfl), ⟨(RX12, TX12, 23), rfl, (q_mem 52 (by decide +kernel) rfl)⟩, (q_mem 1337 (by decide +kernel) rfl)⟩
set_option maxRecDepth 100000 in
theorem vL_158 : okV RL 158 12 mX12_digest 0 := ⟨bX12_digest, (q_mem 1342 (by decide +kernel) rfl), ⟨(RX12, TX12, 23), rfl, (q_mem 1343 (by decide +kernel) rfl)⟩, (q_mem 1341 (by decide +kernel) rfl)⟩
set_option maxRecDepth 100000 in
theorem vX12_267 : okV RX12 267 12 mX12_mixed 3 := ⟨bX12_mixed, (q_mem 1349 (by decide +kernel) rfl), ⟨(RX12, TX12, 23), rfl, (q_mem 53 (by decide +kernel) rfl)⟩, (q_mem 1347 (by decide +kernel) rfl)⟩
set_option maxRecDepth 100000 in
theorem iX11_9 : okIN RX11 9 mX2_init 0 "NettleShirts" := ⟨bX2_init, rfl, rfl, (q_mem 87 (by decide +kernel) rfl), (q_mem 86 (by decide +kernel) rfl)⟩
set_option maxRecDepth 100000 in
theorem iX2_11 : okIN RX2 11 mX5_init 0 "NettleShirts" := ⟨bX5_init, rfl, rfl, (q_mem 94 (by decide +kernel) rfl), (q_mem 93 (by decide +kernel) rfl)⟩
set_option maxRecDepth 100000 in
theorem iX2_14 : okIN RX2 14 mX7_init 0 "NettleShirts" := ⟨bX7_init, rfl, rfl, (q_mem 101 (by decide +kernel) rfl), (q_mem 100 (by decide +kernel) rfl)⟩
set_option maxRecDepth 100000 in
theorem iX7_1 : okIN RX7 1 mX5_init 0 "NettleShirts" := ⟨bX5_init, rfl, rfl, (q_mem 94 (by decide +kernel) rfl), (q_mem 103 (by decide +kernel) rfl)⟩
set_option maxRecDepth 100000 in
theorem iX2_17 : okIN RX2 17 mX6_init 0 "NettleShirts" := ⟨bX6_init, rfl, rfl, (q_mem 108 (by decide +kernel) rfl), (q_mem 107 (by decide +kernel) rfl)⟩
set_option maxRecDepth 100000 in
theorem iX6_1 : okIN RX6 1 mX5_init 0 "NettleShirts" := ⟨bX5_init, rfl, rfl, (q_mem 94 (by decide +kernel) rfl), (q_mem 110 (by decide +kernel) rfl)⟩
set_option maxRecDepth 100000 in
theorem iX2_20 : okIN RX2 20 mX1_init 0 "NettleShirts" := ⟨bX1_init, rfl, rfl, (q_mem 115 (by decide +kernel) rfl), (q_mem 114 (by decide +kernel) rfl)⟩
set_option maxRecDepth 100000 in
theorem iX1_1 : okIN RX1 1 mX6_init 0 "NettleShirts" := ⟨bX6_init, rfl, rfl, (q_mem 108 (by decide +kernel) rfl), (q_mem 117 (by decide +kernel) rfl)⟩
set_option maxRecDepth 100000 in
theorem iX2_23 : okIN RX2 23 mX9_init 0 "NettleShirts" := ⟨bX9_init, rfl, rfl, (q_mem 122 (by decide +kernel) rfl), (q_mem 121 (by decide +kernel) rfl)⟩
set_option maxRecDepth 100000 in
theorem iX9_1 : okIN RX9 1 mX7_init 0 "NettleShirts" := ⟨bX7_init, rfl, rfl, (q_mem 101 (by decide +kernel) rfl), (q_mem 124 (by decide +kernel) rfl)⟩
set_option maxRecDepth 100000 in
theorem iX2_26 : okIN RX2 26 mX10_init 0 "NettleShirts" := ⟨bX10_init, rfl, rfl, (q_mem 129 (by decide +kernel) rfl), (q_mem 128 (by decide +kernel) rfl)⟩
set_option maxRecDepth 100000 in
theorem iX10_1 : okIN RX10 1 mX6_init 0 "NettleShirts" := ⟨bX6_init, rfl, rfl, (q_mem 108 (by decide +kernel) rfl), (q_mem 131 (by decide +kernel) rfl)⟩
set_option maxRecDepth 100000 in
theorem iX2_61 : okIN RX2 61 mX0_init 0 "NettleShirts" := ⟨bX0_init, rfl, rfl, (q_mem 136 (by decide +kernel) rfl), (q_mem 135 (by decide +kernel) rfl)⟩
set_option maxRecDepth 100000 in
theorem iX2_68 : okIN RX2 68 mX8_init 0 "NettleShirts" := ⟨bX8_init, rfl, rfl, (q_mem 163 (by decide +kernel) rfl), (q_mem 162 (by decide +kernel) rfl)⟩
set_option maxRecDepth 100000 in
theorem iX11_25 : okIN RX11 25 mX4_init 0 "NettleShirts" := ⟨bX4_init, rfl, rfl, (q_mem 228 (by decide +kernel) rfl), (q_mem 227 (by decide +kernel) rfl)⟩
set_option maxRecDepth 100000 in
theorem iX11_32 : okIN RX11 32 mX3_init 0 "NettleShirts" := ⟨bX3_init, rfl, rfl, (q_mem 270 (by decide +kernel) rfl), (q_mem 269 (by decide +kernel) rfl)⟩
set_option maxRecDepth 100000 in
theorem sX4_120 : okSN RX4 120 mX11_isSet 2 "NettleShirts" := ⟨bX11_isSet, (q_mem 533 (by decide +kernel) rfl), (q_mem 532 (by decide +kernel) rfl)⟩
set_option maxRecDepth 100000 in
theorem sX0_62 : okSN RX0 62 mX11_isSet 2 "NettleShirts" := ⟨bX11_isSet, (q_mem 533 (by decide +kernel) rfl), (q_mem 673 (by decide +kernel) rfl)⟩
set_option maxRecDepth 100000 in
theorem sX8_41 : okSN RX8 41 mX11_isSet 2 "NettleShirts" := ⟨bX11_isSet, (q_mem 533 (by decide +kernel) rfl), (q_mem 751 (by decide +kernel) rfl)⟩
set_option maxRecDepth 100000 in
theorem lX3_49 : Cond.constantLong RX3 49 (255) ∈ qtb := (q_mem 764 (by decide +kernel) rfl)
set_option maxRecDepth 100000 in
theorem lX11_212 : Cond.constantLong RX11 212 (821) ∈ qtb := (q_mem 958 (by decide +kernel) rfl)
set_option maxRecDepth 100000 in
theorem lX11_214 : Cond.constantLong RX11 214 (31) ∈ qtb := (q_mem 959 (by decide +kernel) rfl)
set_option maxRecDepth 100000 in
theorem lX2_148 : Cond.constantLong RX2 148 (31) ∈ qtb := (q_mem 964 (by decide +kernel) rfl)
set_option maxRecDepth 100000 in
theorem lX0_79 : Cond.constantLong RX0 79 (31) ∈ qtb := (q_mem 969 (by decide +kernel) rfl)
set_option maxRecDepth 100000 in
theorem lX8_45 : Cond.constantLong RX8 45 (31) ∈ qtb := (q_mem 974 (by decide +kernel) rfl)
set_option maxRecDepth 100000 in
theorem lX12_70 : Cond.constantLong RX12 70 (5) ∈ qtb := (q_mem 1056 (by decide +kernel) rfl)
set_option maxRecDepth 100000 in
theorem lX12_72 : Cond.constantLong RX12 72 (20) ∈ qtb := (q_mem 1060 (by decide +kernel) rfl)
set_option maxRecDepth 100000 in
theorem lX12_81 : Cond.constantLong RX12 81 (12) ∈ qtb := (q_mem 1077 (by decide +kernel) rfl)
set_option maxRecDepth 100000 in
theorem lX12_108 : Cond.constantLong RX12 108 (3) ∈ qtb := (q_mem 1142 (by decide +kernel) rfl)
set_option maxRecDepth 100000 in
theorem lX12_110 : Cond.constantLong RX12 110 (6) ∈ qtb := (q_mem 1143 (by decide +kernel) rfl)
set_option maxRecDepth 100000 in
theorem lX12_125 : Cond.constantLong RX12 125 (10) ∈ qtb := (q_mem 1168 (by decide +kernel) rfl)
set_option maxRecDepth 100000 in
theorem lX12_127 : Cond.constantLong RX12 127 (13) ∈ qtb := (q_mem 1169 (by decide +kernel) rfl)
set_option maxRecDepth 100000 in
theorem lX12_140 : Cond.constantLong RX12 140 (99) ∈ qtb := (q_mem 1183 (by decide +kernel) rfl)
set_option maxRecDepth 100000 in
theorem lX12_142 : Cond.constantLong RX12 142 (4) ∈ qtb := (q_mem 1192 (by decide +kernel) rfl)
set_option maxRecDepth 100000 in
theorem lX12_144 : Cond.constantLong RX12 144 (25) ∈ qtb := (q_mem 1197 (by decide +kernel) rfl)
set_option maxRecDepth 100000 in
theorem lX12_146 : Cond.constantLong RX12 146 (27) ∈ qtb := (q_mem 1206 (by decide +kernel) rfl)
set_option maxRecDepth 100000 in
theorem lX12_157 : Cond.constantLong RX12 157 (9) ∈ qtb := (q_mem 1239 (by decide +kernel) rfl)
set_option maxRecDepth 100000 in
theorem lX12_170 : Cond.constantLong RX12 170 (8) ∈ qtb := (q_mem 1264 (by decide +kernel) rfl)
set_option maxRecDepth 100000 in
theorem lX12_176 : Cond.constantLong RX12 176 (255) ∈ qtb := (q_mem 1265 (by decide +kernel) rfl)
set_option maxRecDepth 100000 in
theorem lX12_201 : Cond.constantLong RX12 201 (-1) ∈ qtb := (q_mem 1290 (by decide +kernel) rfl)
set_option maxRecDepth 100000 in
theorem lX12_203 : Cond.constantLong RX12 203 (32) ∈ qtb := (q_mem 1291 (by decide +kernel) rfl)
set_option maxRecDepth 100000 in
theorem lX12_205 : Cond.constantLong RX12 205 (97) ∈ qtb := (q_mem 1292 (by decide +kernel) rfl)
set_option maxRecDepth 100000 in
theorem lX12_210 : Cond.constantLong RX12 210 (537076) ∈ qtb := (q_mem 1296 (by decide +kernel) rfl)
set_option maxRecDepth 100000 in
theorem lX12_212 : Cond.constantLong RX12 212 (20194900) ∈ qtb := (q_mem 1297 (by decide +kernel) rfl)
set_option maxRecDepth 100000 in
theorem lX12_214 : Cond.constantLong RX12 214 (109103333) ∈ qtb := (q_mem 1298 (by decide +kernel) rfl)
set_option maxRecDepth 100000 in
theorem lX12_216 : Cond.constantLong RX12 216 (17382886) ∈ qtb := (q_mem 1299 (by decide +kernel) rfl)
set_option maxRecDepth 100000 in
theorem lX12_218 : Cond.constantLong RX12 218 (12343) ∈ qtb := (q_mem 1300 (by decide +kernel) rfl)
set_option maxRecDepth 100000 in
theorem lX12_220 : Cond.constantLong RX12 220 (4153) ∈ qtb := (q_mem 1301 (by decide +kernel) rfl)
set_option maxRecDepth 100000 in
theorem lX12_256 : Cond.constantLong RX12 256 (2) ∈ qtb := (q_mem 1331 (by decide +kernel) rfl)
set_option maxRecDepth 100000 in
theorem lX12_258 : Cond.constantLong RX12 258 (7) ∈ qtb := (q_mem 1336 (by decide +kernel) rfl)
set_option maxRecDepth 100000 in
theorem lX12_265 : Cond.constantLong RX12 265 (821) ∈ qtb := (q_mem 1345 (by decide +kernel) rfl)
set_option maxRecDepth 100000 in
theorem lX12_263 : Cond.constantLong RX12 263 (31) ∈ qtb := (q_mem 1346 (by decide +kernel) rfl)
set_option maxRecDepth 100000 in
theorem lL_118 : Cond.constantLong RL 118 (4294967295) ∈ qtb := (q_mem 1351 (by decide +kernel) rfl)
set_option maxRecDepth 100000 in
theorem wJ6_265 : Cond.constant RJ6 265 (1431655765) ∈ qtb := (q_mem 740 (by decide +kernel) rfl)
set_option maxRecDepth 100000 in
theorem wJ6_266 : Cond.constant RJ6 266 (858993459) ∈ qtb := (q_mem 741 (by decide +kernel) rfl)
set_option maxRecDepth 100000 in
theorem wJ6_267 : Cond.constant RJ6 267 (252645135) ∈ qtb := (q_mem 742 (by decide +kernel) rfl)
set_option maxRecDepth 100000 in
theorem kw_oi : Cond.instanceMethod objectInit ∈ qtb := (q_mem 82 (by decide +kernel) rfl)
set_option maxRecDepth 100000 in
theorem kw_oc : Cond.code objectInit ⟨#[0xb1]⟩ 1 none ∈ qtb := (q_mem 83 (by decide +kernel) rfl)
set_option maxRecDepth 100000 in
theorem kw_an : Cond.native arraycopyName ∈ qtb := (q_mem 384 (by decide +kernel) rfl)
set_option maxRecDepth 100000 in
theorem kw_as : Cond.static arraycopyName ∈ qtb := (q_mem 383 (by decide +kernel) rfl)
set_option maxRecDepth 100000 in
theorem kw_ai : Cond.initialized "java/lang/System" ∈ qtb := (q_mem 68 (by decide +kernel) rfl)
set_option maxRecDepth 100000 in
theorem kw_xs : Cond.static Lib.Math.max.name ∈ qtb := (q_mem 447 (by decide +kernel) rfl)
set_option maxRecDepth 100000 in
theorem kw_ns : Cond.static Lib.Math.min.name ∈ qtb := (q_mem 394 (by decide +kernel) rfl)
set_option maxRecDepth 100000 in
theorem kw_mi : Cond.initialized "java/lang/Math" ∈ qtb := (q_mem 69 (by decide +kernel) rfl)
set_option maxRecDepth 100000 in
theorem kw_xc : Cond.code Lib.Math.max.name Lib.Math.max.code 2 (some .int) ∈ qtb := (q_mem 448 (by decide +kernel) rfl)
set_option maxRecDepth 100000 in
theorem kw_nc : Cond.code Lib.Math.min.name Lib.Math.min.code 2 (some .int) ∈ qtb := (q_mem 395 (by decide +kernel) rfl)
set_option maxRecDepth 100000 in
theorem kw_ci : Cond.arrayClass .int ∈ lw_tbl := (List.mem_of_getElem? (i := 159) (by decide +kernel))
set_option maxRecDepth 100000 in
theorem kw_cz : Cond.arrayClass .boolean ∈ lw_tbl := (List.mem_of_getElem? (i := 1051) (by decide +kernel))
set_option maxRecDepth 100000 in
theorem kw_ok : Cond.arrayOver (.object RX5) ∈ lw_tbl := (List.mem_of_getElem? (i := 91) (by decide +kernel))
set_option maxRecDepth 100000 in
theorem kw_ol : Cond.arrayOver (.object RX2) ∈ lw_tbl := (List.mem_of_getElem? (i := 224) (by decide +kernel))
set_option maxRecDepth 100000 in
theorem kw_oo : Cond.arrayOver (.array .int) ∈ lw_tbl := (List.mem_of_getElem? (i := 232) (by decide +kernel))
set_option maxRecDepth 100000 in
theorem nL_7 : okN RL 7 11 10 [.null, .null, .null, .null, .null, .long 0, .long 0, .int 0, .int 0, .int 0] := ⟨RX11, TX11, tyX11, kX11, (q_mem 76 (by decide +kernel) rfl), (q_mem 77 (by decide +kernel) rfl), (q_mem 55 (by decide +kernel) rfl), rfl⟩
set_option maxRecDepth 100000 in
theorem eL_7 : Cond.classLink RL 7 RX11 ∈ qtb := (q_mem 76 (by decide +kernel) rfl)
set_option maxRecDepth 100000 in
theorem nX11_7 : okN RX11 7 2 11 [.null, .null, .null, .null, .int 0, .int 0, .null, .null, .int 0, .null, .null] := ⟨RX2, TX2, tyX2, kX2, (q_mem 84 (by decide +kernel) rfl), (q_mem 85 (by decide +kernel) rfl), (q_mem 56 (by decide +kernel) rfl), rfl⟩
set_option maxRecDepth 100000 in
theorem eX11_7 : Cond.classLink RX11 7 RX2 ∈ qtb := (q_mem 84 (by decide +kernel) rfl)
set_option maxRecDepth 100000 in
theorem nX2_9 : okN RX2 9 5 0 [] := ⟨RX5, TX5, tyX5, kX5, (q_mem 90 (by decide +kernel) rfl), (q_mem 92 (by decide +kernel) rfl), (q_mem 57 (by decide +kernel) rfl), rfl⟩
set_option maxRecDepth 100000 in
theorem eX2_9 : Cond.classLink RX2 9 RX5 ∈ qtb := (q_mem 90 (by decide +kernel) rfl)
set_option maxRecDepth 100000 in
theorem nX2_12 : okN RX2 12 7 0 [] := ⟨RX7, TX7, tyX7, kX7, (q_mem 98 (by decide +kernel) rfl), (q_mem 99 (by decide +kernel) rfl), (q_mem 58 (by decide +kernel) rfl), rfl⟩
set_option maxRecDepth 100000 in
theorem eX2_12 : Cond.classLink RX2 12 RX7 ∈ qtb := (q_mem 98 (by decide +kernel) rfl)
set_option maxRecDepth 100000 in
theorem nX2_15 : okN RX2 15 6 0 [] := ⟨RX6, TX6, tyX6, kX6, (q_mem 105 (by decide +kernel) rfl), (q_mem 106 (by decide +kernel) rfl), (q_mem 59 (by decide +kernel) rfl), rfl⟩
set_option maxRecDepth 100000 in
theorem eX2_15 : Cond.classLink RX2 15 RX6 ∈ qtb := (q_mem 105 (by decide +kernel) rfl)
set_option maxRecDepth 100000 in
theorem nX2_18 : okN RX2 18 1 0 [] := ⟨RX1, TX1, tyX1, kX1, (q_mem 112 (by decide +kernel) rfl), (q_mem 113 (by decide +kernel) rfl), (q_mem 60 (by decide +kernel) rfl), rfl⟩
set_option maxRecDepth 100000 in
theorem eX2_18 : Cond.classLink RX2 18 RX1 ∈ qtb := (q_mem 112 (by decide +kernel) rfl)
set_option maxRecDepth 100000 in
theorem nX2_21 : okN RX2 21 9 0 [] := ⟨RX9, TX9, tyX9, kX9, (q_mem 119 (by decide +kernel) rfl), (q_mem 120 (by decide +kernel) rfl), (q_mem 61 (by decide +kernel) rfl), rfl⟩
set_option maxRecDepth 100000 in
theorem eX2_21 : Cond.classLink RX2 21 RX9 ∈ qtb := (q_mem 119 (by decide +kernel) rfl)
set_option maxRecDepth 100000 in
theorem nX2_24 : okN RX2 24 10 0 [] := ⟨RX10, TX10, tyX10, kX10, (q_mem 126 (by decide +kernel) rfl), (q_mem 127 (by decide +kernel) rfl), (q_mem 62 (by decide +kernel) rfl), rfl⟩
set_option maxRecDepth 100000 in
theorem eX2_24 : Cond.classLink RX2 24 RX10 ∈ qtb := (q_mem 126 (by decide +kernel) rfl)
set_option maxRecDepth 100000 in
theorem nX2_59 : okN RX2 59 0 6 [.null, .int 0, .null, .null, .null, .null] := ⟨RX0, TX0, tyX0, kX0, (q_mem 133 (by decide +kernel) rfl), (q_mem 134 (by decide +kernel) rfl), (q_mem 63 (by decide +kernel) rfl), rfl⟩
set_option maxRecDepth 100000 in
theorem eX2_59 : Cond.classLink RX2 59 RX0 ∈ qtb := (q_mem 133 (by decide +kernel) rfl)
set_option maxRecDepth 100000 in
theorem nX2_66 : okN RX2 66 8 3 [.null, .null, .null] := ⟨RX8, TX8, tyX8, kX8, (q_mem 160 (by decide +kernel) rfl), (q_mem 161 (by decide +kernel) rfl), (q_mem 64 (by decide +kernel) rfl), rfl⟩
set_option maxRecDepth 100000 in
theorem eX2_66 : Cond.classLink RX2 66 RX8 ∈ qtb := (q_mem 160 (by decide +kernel) rfl)
set_option maxRecDepth 100000 in
theorem nX11_23 : okN RX11 23 4 11 [.null, .null, .null, .null, .int 0, .int 0, .int 0, .int 0, .int 0, .int 0, .int 0] := ⟨RX4, TX4, tyX4, kX4, (q_mem 225 (by decide +kernel) rfl), (q_mem 226 (by decide +kernel) rfl), (q_mem 65 (by decide +kernel) rfl), rfl⟩
set_option maxRecDepth 100000 in
theorem eX11_23 : Cond.classLink RX11 23 RX4 ∈ qtb := (q_mem 225 (by decide +kernel) rfl)
set_option maxRecDepth 100000 in
theorem nX4_11 : Cond.classLink RX4 11 "[[I" ∈ qtb := (q_mem 231 (by decide +kernel) rfl)
set_option maxRecDepth 100000 in
theorem nX11_30 : okN RX11 30 3 12 [.null, .int 0, .int 0, .int 0, .int 0, .int 0, .int 0, .int 0, .int 0, .int 0, .int 0, .int 0] := ⟨RX3, TX3, tyX3, kX3, (q_mem 267 (by decide +kernel) rfl), (q_mem 268 (by decide +kernel) rfl), (q_mem 66 (by decide +kernel) rfl), rfl⟩
set_option maxRecDepth 100000 in
theorem eX11_30 : Cond.classLink RX11 30 RX3 ∈ qtb := (q_mem 267 (by decide +kernel) rfl)
set_option maxRecDepth 100000 in
theorem nL_10 : okN RL 10 12 23 [.null, .null, .null, .null, .null, .int 0, .long 0, .long 0, .null, .null, .null, .null, .null, .null, .int 0, .int 0, .int 0, .int 0, .int 0, .long 0, .int 0, .null, .int 0] := ⟨RX12, TX12, tyX12, kX12, (q_mem 975 (by decide +kernel) rfl), (q_mem 976 (by decide +kernel) rfl), (q_mem 67 (by decide +kernel) rfl), rfl⟩
set_option maxRecDepth 100000 in
theorem eL_10 : Cond.classLink RL 10 RX12 ∈ qtb := (q_mem 975 (by decide +kernel) rfl)
set_option maxRecDepth 100000 in
theorem kw_castX7 : Cond.castable RX7 RX5 ∈ qtb := (q_mem 1353 (by decide +kernel) rfl)
set_option maxRecDepth 100000 in
theorem kw_castX6 : Cond.castable RX6 RX5 ∈ qtb := (q_mem 1354 (by decide +kernel) rfl)
set_option maxRecDepth 100000 in
theorem kw_castX1 : Cond.castable RX1 RX5 ∈ qtb := (q_mem 1355 (by decide +kernel) rfl)
set_option maxRecDepth 100000 in
theorem kw_castX9 : Cond.castable RX9 RX5 ∈ qtb := (q_mem 1356 (by decide +kernel) rfl)
set_option maxRecDepth 100000 in
theorem kw_castX10 : Cond.castable RX10 RX5 ∈ qtb := (q_mem 1357 (by decide +kernel) rfl)
set_option maxRecDepth 100000 in
theorem vX3_108 : okB mJ0_length_8abf5 0 ∧ Cond.instanceMethod mJ0_length_8abf5.1 ∈ qtb ∧ Cond.selects "java/lang/String" mJ0_length_8abf5.1 mJ0_length_8abf5.1 ∈ qtb ∧ Cond.methodLink RX3 108 mJ0_length_8abf5.1 ∈ qtb := ⟨bJ0_length_8abf5, (q_mem 821 (by decide +kernel) rfl), (q_mem 822 (by decide +kernel) rfl), (q_mem 820 (by decide +kernel) rfl)⟩
set_option maxRecDepth 100000 in
theorem vJ0_335 : okB mJ0_coder_7d493 0 ∧ Cond.instanceMethod mJ0_coder_7d493.1 ∈ qtb ∧ Cond.selects "java/lang/String" mJ0_coder_7d493.1 mJ0_coder_7d493.1 ∈ qtb ∧ Cond.methodLink RJ0 335 mJ0_coder_7d493.1 ∈ qtb := ⟨bJ0_coder_7d493, (q_mem 825 (by decide +kernel) rfl), (q_mem 826 (by decide +kernel) rfl), (q_mem 824 (by decide +kernel) rfl)⟩
set_option maxRecDepth 100000 in
theorem vX3_113 : okB mJ0_charAt_5068e 1 ∧ Cond.instanceMethod mJ0_charAt_5068e.1 ∈ qtb ∧ Cond.selects "java/lang/String" mJ0_charAt_5068e.1 mJ0_charAt_5068e.1 ∈ qtb ∧ Cond.methodLink RX3 113 mJ0_charAt_5068e.1 ∈ qtb := ⟨bJ0_charAt_5068e, (q_mem 831 (by decide +kernel) rfl), (q_mem 832 (by decide +kernel) rfl), (q_mem 830 (by decide +kernel) rfl)⟩
set_option maxRecDepth 100000 in
theorem vJ0_492 : okB mJ0_isLatin1_aae02 0 ∧ Cond.instanceMethod mJ0_isLatin1_aae02.1 ∈ qtb ∧ Cond.selects "java/lang/String" mJ0_isLatin1_aae02.1 mJ0_isLatin1_aae02.1 ∈ qtb ∧ Cond.methodLink RJ0 492 mJ0_isLatin1_aae02.1 ∈ qtb := ⟨bJ0_isLatin1_aae02, (q_mem 835 (by decide +kernel) rfl), (q_mem 836 (by decide +kernel) rfl), (q_mem 834 (by decide +kernel) rfl)⟩
set_option maxRecDepth 100000 in
theorem sJ0_495 : okS RJ0 495 mJ1_charAt_3b067 2 := ⟨bJ1_charAt_3b067, (q_mem 839 (by decide +kernel) rfl), (q_mem 838 (by decide +kernel) rfl)⟩
set_option maxRecDepth 100000 in
theorem sJ1_9 : okS RJ1 9 mJ0_checkIndex_df160 2 := ⟨bJ0_checkIndex_df160, (q_mem 842 (by decide +kernel) rfl), (q_mem 841 (by decide +kernel) rfl)⟩
set_option maxRecDepth 100000 in
theorem sJ0_1059 : okS RJ0 1059 mJ3_checkIndex_8e157 3 := ⟨bJ3_checkIndex_8e157, (q_mem 847 (by decide +kernel) rfl), (q_mem 846 (by decide +kernel) rfl)⟩
set_option maxRecDepth 100000 in
theorem gJ0_38 : Cond.fieldLink RJ0 38 "java/lang/String" "COMPACT_STRINGS" "Z" ∈ qtb := (q_mem 828 (by decide +kernel) rfl)
set_option maxRecDepth 100000 in
theorem gJ0_1053 : Cond.fieldLink RJ0 1053 "jdk/internal/util/Preconditions" "SIOOBE_FORMATTER" "Ljava/util/function/BiFunction;" ∈ qtb := (q_mem 844 (by decide +kernel) rfl)
set_option maxRecDepth 100000 in
theorem gJ0_9 : Cond.fieldLink RJ0 9 "java/lang/String" "value" "[B" ∈ qtb := (q_mem 1358 (by decide +kernel) rfl)
set_option maxRecDepth 100000 in
theorem gJ0_15 : Cond.fieldLink RJ0 15 "java/lang/String" "coder" "B" ∈ qtb := (q_mem 1359 (by decide +kernel) rfl)
