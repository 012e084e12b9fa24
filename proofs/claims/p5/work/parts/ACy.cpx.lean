/-! ===== printed by wip/gen/y/cpx.py: copyFrom, order and kept orders ===== -/
theorem yg_cpK0 {L : Nat} {xs : Nat → Int32} {d : Nat} {σ : iv_H} {E D : Nat → Value} {x0 x1 x2 x3 x4 x5 : Int32} {f442 f450 f6 f14 : Nat → Int64} {f444 f446 f448 f452 f454 f8 f10 f12 f16 f18 : Nat → Int32} (gq440 : iv_get σ 440 = some (yob 3 16 E)) (gq4 : iv_get σ 4 = some (yob 3 16 D)) (gq442 : iv_get σ 442 = some (yaj 7 f442)) (gq444 : iv_get σ 444 = some (yai 7 f444)) (gq446 : iv_get σ 446 = some (yai 7 f446)) (gq448 : iv_get σ 448 = some (yai 7 f448)) (gq450 : iv_get σ 450 = some (yaj 6 f450)) (gq452 : iv_get σ 452 = some (yai 6 f452)) (gq454 : iv_get σ 454 = some (yai 6 f454)) (gq6 : iv_get σ 6 = some (yaj 7 f6)) (gq8 : iv_get σ 8 = some (yai 7 f8)) (gq10 : iv_get σ 10 = some (yai 7 f10)) (gq12 : iv_get σ 12 = some (yai 7 f12)) (gq14 : iv_get σ 14 = some (yaj 6 f14)) (gq16 : iv_get σ 16 = some (yai 6 f16)) (gq18 : iv_get σ 18 = some (yai 6 f18)) (e9 : E 9 = .ref 442) (e10 : E 10 = .ref 444) (e11 : E 11 = .ref 446) (e12 : E 12 = .ref 448) (e13 : E 13 = .ref 450) (e14 : E 14 = .ref 452) (e15 : E 15 = .ref 454) (c9 : D 9 = .ref 6) (c10 : D 10 = .ref 8) (c11 : D 11 = .ref 10) (c12 : D 12 = .ref 12) (c13 : D 13 = .ref 14) (c14 : D 14 = .ref 16) (c15 : D 15 = .ref 18) (d0 : D 0 = .int x0) (d1 : D 1 = .int x1) (d2 : D 2 = .int x2) (d3 : D 3 = .int x3) (d4 : D 4 = .int x4) (d5 : D 5 = .int x5) : ∃ σ1, iv_Rn L xs d 25 0 (lv_args 0 [.ref 440, .ref 4]) [] σ none σ1 ∧ ∃ E1, iv_get σ1 440 = some (yob 3 16 E1) ∧ E1 0 = .int x0 ∧ E1 1 = .int x1 ∧ E1 2 = .int x2 ∧ E1 3 = .int x3 ∧ E1 4 = .int x4 ∧ E1 5 = .int x5 ∧ iv_get σ1 442 = some (yaj 7 (va_cpy f6 f442 0 0 7)) ∧ iv_get σ1 450 = some (yaj 6 (va_cpy f14 f450 0 0 6)) ∧ yFr [440, 442, 444, 446, 448, 450, 452, 454] σ σ1 := by
  refine y_R0 ?_
  refine w_A y25_0 rfl ?_
  refine w_A y25_1 rfl ?_
  refine y_gf y25_2 gq4 rfl d0 ?_
  refine y_pf y25_5 gq440 rfl rfl ?_
  intro σ427 h426
  refine w_A y25_8 rfl ?_
  refine w_A y25_9 rfl ?_
  have g428 := (mD_n h426 (by decide) gq4)
  refine y_gf y25_10 g428 rfl d1 ?_
  refine y_pf y25_13 h426.2.1 rfl rfl ?_
  intro σ430 h429
  refine w_A y25_16 rfl ?_
  refine w_A y25_17 rfl ?_
  have g431 := (mD_n h429 (by decide) g428)
  refine y_gf y25_18 g431 rfl d2 ?_
  refine y_pf y25_21 h429.2.1 rfl rfl ?_
  intro σ433 h432
  refine w_A y25_24 rfl ?_
  refine w_A y25_25 rfl ?_
  have g434 := (mD_n h432 (by decide) g431)
  refine y_gf y25_26 g434 rfl d3 ?_
  refine y_pf y25_29 h432.2.1 rfl rfl ?_
  intro σ436 h435
  refine w_A y25_32 rfl ?_
  refine w_A y25_33 rfl ?_
  have g437 := (mD_n h435 (by decide) g434)
  refine y_gf y25_34 g437 rfl d4 ?_
  refine y_pf y25_37 h435.2.1 rfl rfl ?_
  intro σ439 h438
  refine w_A y25_40 rfl ?_
  refine w_A y25_41 rfl ?_
  have g440 := (mD_n h438 (by decide) g437)
  refine y_gf y25_42 g440 rfl d5 ?_
  refine y_pf y25_45 h438.2.1 rfl rfl ?_
  intro σ442 h441
  refine w_A y25_48 rfl ?_
  have g443 := (mD_n h441 (by decide) g440)
  refine y_gf y25_49 g443 rfl c9 ?_
  refine w_K y25_52 ?_
  refine w_A y25_53 rfl ?_
  refine y_gf y25_54 h441.2.1 rfl e9 ?_
  refine w_K y25_57 ?_
  refine w_K y25_58 ?_
  have g446 := (mD_n h441 (by decide) (mD_n h438 (by decide) (mD_n h435 (by decide) (mD_n h432 (by decide) (mD_n h429 (by decide) (mD_n h426 (by decide) gq6))))))
  have g447 := (mD_n h441 (by decide) (mD_n h438 (by decide) (mD_n h435 (by decide) (mD_n h432 (by decide) (mD_n h429 (by decide) (mD_n h426 (by decide) gq442))))))
  refine y_cpj y25_60 g446 g447 rfl rfl rfl rfl ?_
  intro σ445 h444
  refine w_A y25_63 rfl ?_
  have g448 := (mD_n h444 (by decide) g443)
  refine y_gf y25_64 g448 rfl c10 ?_
  refine w_K y25_67 ?_
  refine w_A y25_68 rfl ?_
  have g449 := (mD_n h444 (by decide) h441.2.1)
  refine y_gf y25_69 g449 rfl e10 ?_
  refine w_K y25_72 ?_
  refine w_K y25_73 ?_
  have g452 := (mD_n h444 (by decide) (mD_n h441 (by decide) (mD_n h438 (by decide) (mD_n h435 (by decide) (mD_n h432 (by decide) (mD_n h429 (by decide) (mD_n h426 (by decide) gq8)))))))
  have g453 := (mD_n h444 (by decide) (mD_n h441 (by decide) (mD_n h438 (by decide) (mD_n h435 (by decide) (mD_n h432 (by decide) (mD_n h429 (by decide) (mD_n h426 (by decide) gq444)))))))
  refine y_cpi y25_75 g452 g453 rfl rfl rfl rfl ?_
  intro σ451 h450
  refine w_A y25_78 rfl ?_
  have g454 := (mD_n h450 (by decide) g448)
  refine y_gf y25_79 g454 rfl c11 ?_
  refine w_K y25_82 ?_
  refine w_A y25_83 rfl ?_
  have g455 := (mD_n h450 (by decide) g449)
  refine y_gf y25_84 g455 rfl e11 ?_
  refine w_K y25_87 ?_
  refine w_K y25_88 ?_
  have g458 := (mD_n h450 (by decide) (mD_n h444 (by decide) (mD_n h441 (by decide) (mD_n h438 (by decide) (mD_n h435 (by decide) (mD_n h432 (by decide) (mD_n h429 (by decide) (mD_n h426 (by decide) gq10))))))))
  have g459 := (mD_n h450 (by decide) (mD_n h444 (by decide) (mD_n h441 (by decide) (mD_n h438 (by decide) (mD_n h435 (by decide) (mD_n h432 (by decide) (mD_n h429 (by decide) (mD_n h426 (by decide) gq446))))))))
  refine y_cpi y25_90 g458 g459 rfl rfl rfl rfl ?_
  intro σ457 h456
  refine w_A y25_93 rfl ?_
  have g460 := (mD_n h456 (by decide) g454)
  refine y_gf y25_94 g460 rfl c12 ?_
  refine w_K y25_97 ?_
  refine w_A y25_98 rfl ?_
  have g461 := (mD_n h456 (by decide) g455)
  refine y_gf y25_99 g461 rfl e12 ?_
  refine w_K y25_102 ?_
  refine w_K y25_103 ?_
  have g464 := (mD_n h456 (by decide) (mD_n h450 (by decide) (mD_n h444 (by decide) (mD_n h441 (by decide) (mD_n h438 (by decide) (mD_n h435 (by decide) (mD_n h432 (by decide) (mD_n h429 (by decide) (mD_n h426 (by decide) gq12)))))))))
  have g465 := (mD_n h456 (by decide) (mD_n h450 (by decide) (mD_n h444 (by decide) (mD_n h441 (by decide) (mD_n h438 (by decide) (mD_n h435 (by decide) (mD_n h432 (by decide) (mD_n h429 (by decide) (mD_n h426 (by decide) gq448)))))))))
  refine y_cpi y25_105 g464 g465 rfl rfl rfl rfl ?_
  intro σ463 h462
  refine w_A y25_108 rfl ?_
  have g466 := (mD_n h462 (by decide) g460)
  refine y_gf y25_109 g466 rfl c13 ?_
  refine w_K y25_112 ?_
  refine w_A y25_113 rfl ?_
  have g467 := (mD_n h462 (by decide) g461)
  refine y_gf y25_114 g467 rfl e13 ?_
  refine w_K y25_117 ?_
  refine w_K y25_118 ?_
  have g470 := (mD_n h462 (by decide) (mD_n h456 (by decide) (mD_n h450 (by decide) (mD_n h444 (by decide) (mD_n h441 (by decide) (mD_n h438 (by decide) (mD_n h435 (by decide) (mD_n h432 (by decide) (mD_n h429 (by decide) (mD_n h426 (by decide) gq14))))))))))
  have g471 := (mD_n h462 (by decide) (mD_n h456 (by decide) (mD_n h450 (by decide) (mD_n h444 (by decide) (mD_n h441 (by decide) (mD_n h438 (by decide) (mD_n h435 (by decide) (mD_n h432 (by decide) (mD_n h429 (by decide) (mD_n h426 (by decide) gq450))))))))))
  refine y_cpj y25_120 g470 g471 rfl rfl rfl rfl ?_
  intro σ469 h468
  refine w_A y25_123 rfl ?_
  have g472 := (mD_n h468 (by decide) g466)
  refine y_gf y25_124 g472 rfl c14 ?_
  refine w_K y25_127 ?_
  refine w_A y25_128 rfl ?_
  have g473 := (mD_n h468 (by decide) g467)
  refine y_gf y25_129 g473 rfl e14 ?_
  refine w_K y25_132 ?_
  refine w_K y25_133 ?_
  have g476 := (mD_n h468 (by decide) (mD_n h462 (by decide) (mD_n h456 (by decide) (mD_n h450 (by decide) (mD_n h444 (by decide) (mD_n h441 (by decide) (mD_n h438 (by decide) (mD_n h435 (by decide) (mD_n h432 (by decide) (mD_n h429 (by decide) (mD_n h426 (by decide) gq16)))))))))))
  have g477 := (mD_n h468 (by decide) (mD_n h462 (by decide) (mD_n h456 (by decide) (mD_n h450 (by decide) (mD_n h444 (by decide) (mD_n h441 (by decide) (mD_n h438 (by decide) (mD_n h435 (by decide) (mD_n h432 (by decide) (mD_n h429 (by decide) (mD_n h426 (by decide) gq452)))))))))))
  refine y_cpi y25_135 g476 g477 rfl rfl rfl rfl ?_
  intro σ475 h474
  refine w_A y25_138 rfl ?_
  have g478 := (mD_n h474 (by decide) g472)
  refine y_gf y25_139 g478 rfl c15 ?_
  refine w_K y25_142 ?_
  refine w_A y25_143 rfl ?_
  have g479 := (mD_n h474 (by decide) g473)
  refine y_gf y25_144 g479 rfl e15 ?_
  refine w_K y25_147 ?_
  refine w_K y25_148 ?_
  have g482 := (mD_n h474 (by decide) (mD_n h468 (by decide) (mD_n h462 (by decide) (mD_n h456 (by decide) (mD_n h450 (by decide) (mD_n h444 (by decide) (mD_n h441 (by decide) (mD_n h438 (by decide) (mD_n h435 (by decide) (mD_n h432 (by decide) (mD_n h429 (by decide) (mD_n h426 (by decide) gq18))))))))))))
  have g483 := (mD_n h474 (by decide) (mD_n h468 (by decide) (mD_n h462 (by decide) (mD_n h456 (by decide) (mD_n h450 (by decide) (mD_n h444 (by decide) (mD_n h441 (by decide) (mD_n h438 (by decide) (mD_n h435 (by decide) (mD_n h432 (by decide) (mD_n h429 (by decide) (mD_n h426 (by decide) gq454))))))))))))
  refine y_cpi y25_150 g482 g483 rfl rfl rfl rfl ?_
  intro σ481 h480
  have g484 := (mD_n h480 (by decide) g479)
  have g485 := (mD_n h480 (by decide) (mD_n h474 (by decide) (mD_n h468 (by decide) (mD_n h462 (by decide) (mD_n h456 (by decide) (mD_n h450 (by decide) h444.2.1))))))
  have g486 := (mD_n h480 (by decide) (mD_n h474 (by decide) h468.2.1))
  exact w_ret0 y25_153 ⟨rfl, _, g484, rfl, rfl, rfl, rfl, rfl, rfl, g485, g486, (yF_tr (yF_D h426 (by rfl)) (yF_tr (yF_D h429 (by rfl)) (yF_tr (yF_D h432 (by rfl)) (yF_tr (yF_D h435 (by rfl)) (yF_tr (yF_D h438 (by rfl)) (yF_tr (yF_D h441 (by rfl)) (yF_tr (yF_D h444 (by rfl)) (yF_tr (yF_D h450 (by rfl)) (yF_tr (yF_D h456 (by rfl)) (yF_tr (yF_D h462 (by rfl)) (yF_tr (yF_D h468 (by rfl)) (yF_tr (yF_D h474 (by rfl)) (yF_D h480 (by rfl))))))))))))))⟩
theorem yg_cpK1 {L : Nat} {xs : Nat → Int32} {d : Nat} {σ : iv_H} {E D : Nat → Value} {x0 x1 x2 x3 x4 x5 : Int32} {f496 f504 f6 f14 : Nat → Int64} {f498 f500 f502 f506 f508 f8 f10 f12 f16 f18 : Nat → Int32} (gq494 : iv_get σ 494 = some (yob 3 16 E)) (gq4 : iv_get σ 4 = some (yob 3 16 D)) (gq496 : iv_get σ 496 = some (yaj 7 f496)) (gq498 : iv_get σ 498 = some (yai 7 f498)) (gq500 : iv_get σ 500 = some (yai 7 f500)) (gq502 : iv_get σ 502 = some (yai 7 f502)) (gq504 : iv_get σ 504 = some (yaj 6 f504)) (gq506 : iv_get σ 506 = some (yai 6 f506)) (gq508 : iv_get σ 508 = some (yai 6 f508)) (gq6 : iv_get σ 6 = some (yaj 7 f6)) (gq8 : iv_get σ 8 = some (yai 7 f8)) (gq10 : iv_get σ 10 = some (yai 7 f10)) (gq12 : iv_get σ 12 = some (yai 7 f12)) (gq14 : iv_get σ 14 = some (yaj 6 f14)) (gq16 : iv_get σ 16 = some (yai 6 f16)) (gq18 : iv_get σ 18 = some (yai 6 f18)) (e9 : E 9 = .ref 496) (e10 : E 10 = .ref 498) (e11 : E 11 = .ref 500) (e12 : E 12 = .ref 502) (e13 : E 13 = .ref 504) (e14 : E 14 = .ref 506) (e15 : E 15 = .ref 508) (c9 : D 9 = .ref 6) (c10 : D 10 = .ref 8) (c11 : D 11 = .ref 10) (c12 : D 12 = .ref 12) (c13 : D 13 = .ref 14) (c14 : D 14 = .ref 16) (c15 : D 15 = .ref 18) (d0 : D 0 = .int x0) (d1 : D 1 = .int x1) (d2 : D 2 = .int x2) (d3 : D 3 = .int x3) (d4 : D 4 = .int x4) (d5 : D 5 = .int x5) : ∃ σ1, iv_Rn L xs d 25 0 (lv_args 0 [.ref 494, .ref 4]) [] σ none σ1 ∧ ∃ E1, iv_get σ1 494 = some (yob 3 16 E1) ∧ E1 0 = .int x0 ∧ E1 1 = .int x1 ∧ E1 2 = .int x2 ∧ E1 3 = .int x3 ∧ E1 4 = .int x4 ∧ E1 5 = .int x5 ∧ iv_get σ1 496 = some (yaj 7 (va_cpy f6 f496 0 0 7)) ∧ iv_get σ1 504 = some (yaj 6 (va_cpy f14 f504 0 0 6)) ∧ yFr [494, 496, 498, 500, 502, 504, 506, 508] σ σ1 := by
  refine y_R0 ?_
  refine w_A y25_0 rfl ?_
  refine w_A y25_1 rfl ?_
  refine y_gf y25_2 gq4 rfl d0 ?_
  refine y_pf y25_5 gq494 rfl rfl ?_
  intro σ488 h487
  refine w_A y25_8 rfl ?_
  refine w_A y25_9 rfl ?_
  have g489 := (mD_n h487 (by decide) gq4)
  refine y_gf y25_10 g489 rfl d1 ?_
  refine y_pf y25_13 h487.2.1 rfl rfl ?_
  intro σ491 h490
  refine w_A y25_16 rfl ?_
  refine w_A y25_17 rfl ?_
  have g492 := (mD_n h490 (by decide) g489)
  refine y_gf y25_18 g492 rfl d2 ?_
  refine y_pf y25_21 h490.2.1 rfl rfl ?_
  intro σ494 h493
  refine w_A y25_24 rfl ?_
  refine w_A y25_25 rfl ?_
  have g495 := (mD_n h493 (by decide) g492)
  refine y_gf y25_26 g495 rfl d3 ?_
  refine y_pf y25_29 h493.2.1 rfl rfl ?_
  intro σ497 h496
  refine w_A y25_32 rfl ?_
  refine w_A y25_33 rfl ?_
  have g498 := (mD_n h496 (by decide) g495)
  refine y_gf y25_34 g498 rfl d4 ?_
  refine y_pf y25_37 h496.2.1 rfl rfl ?_
  intro σ500 h499
  refine w_A y25_40 rfl ?_
  refine w_A y25_41 rfl ?_
  have g501 := (mD_n h499 (by decide) g498)
  refine y_gf y25_42 g501 rfl d5 ?_
  refine y_pf y25_45 h499.2.1 rfl rfl ?_
  intro σ503 h502
  refine w_A y25_48 rfl ?_
  have g504 := (mD_n h502 (by decide) g501)
  refine y_gf y25_49 g504 rfl c9 ?_
  refine w_K y25_52 ?_
  refine w_A y25_53 rfl ?_
  refine y_gf y25_54 h502.2.1 rfl e9 ?_
  refine w_K y25_57 ?_
  refine w_K y25_58 ?_
  have g507 := (mD_n h502 (by decide) (mD_n h499 (by decide) (mD_n h496 (by decide) (mD_n h493 (by decide) (mD_n h490 (by decide) (mD_n h487 (by decide) gq6))))))
  have g508 := (mD_n h502 (by decide) (mD_n h499 (by decide) (mD_n h496 (by decide) (mD_n h493 (by decide) (mD_n h490 (by decide) (mD_n h487 (by decide) gq496))))))
  refine y_cpj y25_60 g507 g508 rfl rfl rfl rfl ?_
  intro σ506 h505
  refine w_A y25_63 rfl ?_
  have g509 := (mD_n h505 (by decide) g504)
  refine y_gf y25_64 g509 rfl c10 ?_
  refine w_K y25_67 ?_
  refine w_A y25_68 rfl ?_
  have g510 := (mD_n h505 (by decide) h502.2.1)
  refine y_gf y25_69 g510 rfl e10 ?_
  refine w_K y25_72 ?_
  refine w_K y25_73 ?_
  have g513 := (mD_n h505 (by decide) (mD_n h502 (by decide) (mD_n h499 (by decide) (mD_n h496 (by decide) (mD_n h493 (by decide) (mD_n h490 (by decide) (mD_n h487 (by decide) gq8)))))))
  have g514 := (mD_n h505 (by decide) (mD_n h502 (by decide) (mD_n h499 (by decide) (mD_n h496 (by decide) (mD_n h493 (by decide) (mD_n h490 (by decide) (mD_n h487 (by decide) gq498)))))))
  refine y_cpi y25_75 g513 g514 rfl rfl rfl rfl ?_
  intro σ512 h511
  refine w_A y25_78 rfl ?_
  have g515 := (mD_n h511 (by decide) g509)
  refine y_gf y25_79 g515 rfl c11 ?_
  refine w_K y25_82 ?_
  refine w_A y25_83 rfl ?_
  have g516 := (mD_n h511 (by decide) g510)
  refine y_gf y25_84 g516 rfl e11 ?_
  refine w_K y25_87 ?_
  refine w_K y25_88 ?_
  have g519 := (mD_n h511 (by decide) (mD_n h505 (by decide) (mD_n h502 (by decide) (mD_n h499 (by decide) (mD_n h496 (by decide) (mD_n h493 (by decide) (mD_n h490 (by decide) (mD_n h487 (by decide) gq10))))))))
  have g520 := (mD_n h511 (by decide) (mD_n h505 (by decide) (mD_n h502 (by decide) (mD_n h499 (by decide) (mD_n h496 (by decide) (mD_n h493 (by decide) (mD_n h490 (by decide) (mD_n h487 (by decide) gq500))))))))
  refine y_cpi y25_90 g519 g520 rfl rfl rfl rfl ?_
  intro σ518 h517
  refine w_A y25_93 rfl ?_
  have g521 := (mD_n h517 (by decide) g515)
  refine y_gf y25_94 g521 rfl c12 ?_
  refine w_K y25_97 ?_
  refine w_A y25_98 rfl ?_
  have g522 := (mD_n h517 (by decide) g516)
  refine y_gf y25_99 g522 rfl e12 ?_
  refine w_K y25_102 ?_
  refine w_K y25_103 ?_
  have g525 := (mD_n h517 (by decide) (mD_n h511 (by decide) (mD_n h505 (by decide) (mD_n h502 (by decide) (mD_n h499 (by decide) (mD_n h496 (by decide) (mD_n h493 (by decide) (mD_n h490 (by decide) (mD_n h487 (by decide) gq12)))))))))
  have g526 := (mD_n h517 (by decide) (mD_n h511 (by decide) (mD_n h505 (by decide) (mD_n h502 (by decide) (mD_n h499 (by decide) (mD_n h496 (by decide) (mD_n h493 (by decide) (mD_n h490 (by decide) (mD_n h487 (by decide) gq502)))))))))
  refine y_cpi y25_105 g525 g526 rfl rfl rfl rfl ?_
  intro σ524 h523
  refine w_A y25_108 rfl ?_
  have g527 := (mD_n h523 (by decide) g521)
  refine y_gf y25_109 g527 rfl c13 ?_
  refine w_K y25_112 ?_
  refine w_A y25_113 rfl ?_
  have g528 := (mD_n h523 (by decide) g522)
  refine y_gf y25_114 g528 rfl e13 ?_
  refine w_K y25_117 ?_
  refine w_K y25_118 ?_
  have g531 := (mD_n h523 (by decide) (mD_n h517 (by decide) (mD_n h511 (by decide) (mD_n h505 (by decide) (mD_n h502 (by decide) (mD_n h499 (by decide) (mD_n h496 (by decide) (mD_n h493 (by decide) (mD_n h490 (by decide) (mD_n h487 (by decide) gq14))))))))))
  have g532 := (mD_n h523 (by decide) (mD_n h517 (by decide) (mD_n h511 (by decide) (mD_n h505 (by decide) (mD_n h502 (by decide) (mD_n h499 (by decide) (mD_n h496 (by decide) (mD_n h493 (by decide) (mD_n h490 (by decide) (mD_n h487 (by decide) gq504))))))))))
  refine y_cpj y25_120 g531 g532 rfl rfl rfl rfl ?_
  intro σ530 h529
  refine w_A y25_123 rfl ?_
  have g533 := (mD_n h529 (by decide) g527)
  refine y_gf y25_124 g533 rfl c14 ?_
  refine w_K y25_127 ?_
  refine w_A y25_128 rfl ?_
  have g534 := (mD_n h529 (by decide) g528)
  refine y_gf y25_129 g534 rfl e14 ?_
  refine w_K y25_132 ?_
  refine w_K y25_133 ?_
  have g537 := (mD_n h529 (by decide) (mD_n h523 (by decide) (mD_n h517 (by decide) (mD_n h511 (by decide) (mD_n h505 (by decide) (mD_n h502 (by decide) (mD_n h499 (by decide) (mD_n h496 (by decide) (mD_n h493 (by decide) (mD_n h490 (by decide) (mD_n h487 (by decide) gq16)))))))))))
  have g538 := (mD_n h529 (by decide) (mD_n h523 (by decide) (mD_n h517 (by decide) (mD_n h511 (by decide) (mD_n h505 (by decide) (mD_n h502 (by decide) (mD_n h499 (by decide) (mD_n h496 (by decide) (mD_n h493 (by decide) (mD_n h490 (by decide) (mD_n h487 (by decide) gq506)))))))))))
  refine y_cpi y25_135 g537 g538 rfl rfl rfl rfl ?_
  intro σ536 h535
  refine w_A y25_138 rfl ?_
  have g539 := (mD_n h535 (by decide) g533)
  refine y_gf y25_139 g539 rfl c15 ?_
  refine w_K y25_142 ?_
  refine w_A y25_143 rfl ?_
  have g540 := (mD_n h535 (by decide) g534)
  refine y_gf y25_144 g540 rfl e15 ?_
  refine w_K y25_147 ?_
  refine w_K y25_148 ?_
  have g543 := (mD_n h535 (by decide) (mD_n h529 (by decide) (mD_n h523 (by decide) (mD_n h517 (by decide) (mD_n h511 (by decide) (mD_n h505 (by decide) (mD_n h502 (by decide) (mD_n h499 (by decide) (mD_n h496 (by decide) (mD_n h493 (by decide) (mD_n h490 (by decide) (mD_n h487 (by decide) gq18))))))))))))
  have g544 := (mD_n h535 (by decide) (mD_n h529 (by decide) (mD_n h523 (by decide) (mD_n h517 (by decide) (mD_n h511 (by decide) (mD_n h505 (by decide) (mD_n h502 (by decide) (mD_n h499 (by decide) (mD_n h496 (by decide) (mD_n h493 (by decide) (mD_n h490 (by decide) (mD_n h487 (by decide) gq508))))))))))))
  refine y_cpi y25_150 g543 g544 rfl rfl rfl rfl ?_
  intro σ542 h541
  have g545 := (mD_n h541 (by decide) g540)
  have g546 := (mD_n h541 (by decide) (mD_n h535 (by decide) (mD_n h529 (by decide) (mD_n h523 (by decide) (mD_n h517 (by decide) (mD_n h511 (by decide) h505.2.1))))))
  have g547 := (mD_n h541 (by decide) (mD_n h535 (by decide) h529.2.1))
  exact w_ret0 y25_153 ⟨rfl, _, g545, rfl, rfl, rfl, rfl, rfl, rfl, g546, g547, (yF_tr (yF_D h487 (by rfl)) (yF_tr (yF_D h490 (by rfl)) (yF_tr (yF_D h493 (by rfl)) (yF_tr (yF_D h496 (by rfl)) (yF_tr (yF_D h499 (by rfl)) (yF_tr (yF_D h502 (by rfl)) (yF_tr (yF_D h505 (by rfl)) (yF_tr (yF_D h511 (by rfl)) (yF_tr (yF_D h517 (by rfl)) (yF_tr (yF_D h523 (by rfl)) (yF_tr (yF_D h529 (by rfl)) (yF_tr (yF_D h535 (by rfl)) (yF_D h541 (by rfl))))))))))))))⟩
theorem yg_cpG0 {L : Nat} {xs : Nat → Int32} {d : Nat} {σ : iv_H} {E D : Nat → Value} {x0 x1 x2 x3 x4 x5 : Int32} {f6 f14 f442 f450 : Nat → Int64} {f8 f10 f12 f16 f18 f444 f446 f448 f452 f454 : Nat → Int32} (gq4 : iv_get σ 4 = some (yob 3 16 E)) (gq440 : iv_get σ 440 = some (yob 3 16 D)) (gq6 : iv_get σ 6 = some (yaj 7 f6)) (gq8 : iv_get σ 8 = some (yai 7 f8)) (gq10 : iv_get σ 10 = some (yai 7 f10)) (gq12 : iv_get σ 12 = some (yai 7 f12)) (gq14 : iv_get σ 14 = some (yaj 6 f14)) (gq16 : iv_get σ 16 = some (yai 6 f16)) (gq18 : iv_get σ 18 = some (yai 6 f18)) (gq442 : iv_get σ 442 = some (yaj 7 f442)) (gq444 : iv_get σ 444 = some (yai 7 f444)) (gq446 : iv_get σ 446 = some (yai 7 f446)) (gq448 : iv_get σ 448 = some (yai 7 f448)) (gq450 : iv_get σ 450 = some (yaj 6 f450)) (gq452 : iv_get σ 452 = some (yai 6 f452)) (gq454 : iv_get σ 454 = some (yai 6 f454)) (e9 : E 9 = .ref 6) (e10 : E 10 = .ref 8) (e11 : E 11 = .ref 10) (e12 : E 12 = .ref 12) (e13 : E 13 = .ref 14) (e14 : E 14 = .ref 16) (e15 : E 15 = .ref 18) (c9 : D 9 = .ref 442) (c10 : D 10 = .ref 444) (c11 : D 11 = .ref 446) (c12 : D 12 = .ref 448) (c13 : D 13 = .ref 450) (c14 : D 14 = .ref 452) (c15 : D 15 = .ref 454) (d0 : D 0 = .int x0) (d1 : D 1 = .int x1) (d2 : D 2 = .int x2) (d3 : D 3 = .int x3) (d4 : D 4 = .int x4) (d5 : D 5 = .int x5) : ∃ σ1, iv_Rn L xs d 25 0 (lv_args 0 [.ref 4, .ref 440]) [] σ none σ1 ∧ ∃ E1, iv_get σ1 4 = some (yob 3 16 E1) ∧ E1 0 = .int x0 ∧ E1 1 = .int x1 ∧ E1 2 = .int x2 ∧ E1 3 = .int x3 ∧ E1 4 = .int x4 ∧ E1 5 = .int x5 ∧ iv_get σ1 6 = some (yaj 7 (va_cpy f442 f6 0 0 7)) ∧ iv_get σ1 14 = some (yaj 6 (va_cpy f450 f14 0 0 6)) ∧ yFr [4, 6, 8, 10, 12, 14, 16, 18] σ σ1 := by
  refine y_R0 ?_
  refine w_A y25_0 rfl ?_
  refine w_A y25_1 rfl ?_
  refine y_gf y25_2 gq440 rfl d0 ?_
  refine y_pf y25_5 gq4 rfl rfl ?_
  intro σ549 h548
  refine w_A y25_8 rfl ?_
  refine w_A y25_9 rfl ?_
  have g550 := (mD_n h548 (by decide) gq440)
  refine y_gf y25_10 g550 rfl d1 ?_
  refine y_pf y25_13 h548.2.1 rfl rfl ?_
  intro σ552 h551
  refine w_A y25_16 rfl ?_
  refine w_A y25_17 rfl ?_
  have g553 := (mD_n h551 (by decide) g550)
  refine y_gf y25_18 g553 rfl d2 ?_
  refine y_pf y25_21 h551.2.1 rfl rfl ?_
  intro σ555 h554
  refine w_A y25_24 rfl ?_
  refine w_A y25_25 rfl ?_
  have g556 := (mD_n h554 (by decide) g553)
  refine y_gf y25_26 g556 rfl d3 ?_
  refine y_pf y25_29 h554.2.1 rfl rfl ?_
  intro σ558 h557
  refine w_A y25_32 rfl ?_
  refine w_A y25_33 rfl ?_
  have g559 := (mD_n h557 (by decide) g556)
  refine y_gf y25_34 g559 rfl d4 ?_
  refine y_pf y25_37 h557.2.1 rfl rfl ?_
  intro σ561 h560
  refine w_A y25_40 rfl ?_
  refine w_A y25_41 rfl ?_
  have g562 := (mD_n h560 (by decide) g559)
  refine y_gf y25_42 g562 rfl d5 ?_
  refine y_pf y25_45 h560.2.1 rfl rfl ?_
  intro σ564 h563
  refine w_A y25_48 rfl ?_
  have g565 := (mD_n h563 (by decide) g562)
  refine y_gf y25_49 g565 rfl c9 ?_
  refine w_K y25_52 ?_
  refine w_A y25_53 rfl ?_
  refine y_gf y25_54 h563.2.1 rfl e9 ?_
  refine w_K y25_57 ?_
  refine w_K y25_58 ?_
  have g568 := (mD_n h563 (by decide) (mD_n h560 (by decide) (mD_n h557 (by decide) (mD_n h554 (by decide) (mD_n h551 (by decide) (mD_n h548 (by decide) gq442))))))
  have g569 := (mD_n h563 (by decide) (mD_n h560 (by decide) (mD_n h557 (by decide) (mD_n h554 (by decide) (mD_n h551 (by decide) (mD_n h548 (by decide) gq6))))))
  refine y_cpj y25_60 g568 g569 rfl rfl rfl rfl ?_
  intro σ567 h566
  refine w_A y25_63 rfl ?_
  have g570 := (mD_n h566 (by decide) g565)
  refine y_gf y25_64 g570 rfl c10 ?_
  refine w_K y25_67 ?_
  refine w_A y25_68 rfl ?_
  have g571 := (mD_n h566 (by decide) h563.2.1)
  refine y_gf y25_69 g571 rfl e10 ?_
  refine w_K y25_72 ?_
  refine w_K y25_73 ?_
  have g574 := (mD_n h566 (by decide) (mD_n h563 (by decide) (mD_n h560 (by decide) (mD_n h557 (by decide) (mD_n h554 (by decide) (mD_n h551 (by decide) (mD_n h548 (by decide) gq444)))))))
  have g575 := (mD_n h566 (by decide) (mD_n h563 (by decide) (mD_n h560 (by decide) (mD_n h557 (by decide) (mD_n h554 (by decide) (mD_n h551 (by decide) (mD_n h548 (by decide) gq8)))))))
  refine y_cpi y25_75 g574 g575 rfl rfl rfl rfl ?_
  intro σ573 h572
  refine w_A y25_78 rfl ?_
  have g576 := (mD_n h572 (by decide) g570)
  refine y_gf y25_79 g576 rfl c11 ?_
  refine w_K y25_82 ?_
  refine w_A y25_83 rfl ?_
  have g577 := (mD_n h572 (by decide) g571)
  refine y_gf y25_84 g577 rfl e11 ?_
  refine w_K y25_87 ?_
  refine w_K y25_88 ?_
  have g580 := (mD_n h572 (by decide) (mD_n h566 (by decide) (mD_n h563 (by decide) (mD_n h560 (by decide) (mD_n h557 (by decide) (mD_n h554 (by decide) (mD_n h551 (by decide) (mD_n h548 (by decide) gq446))))))))
  have g581 := (mD_n h572 (by decide) (mD_n h566 (by decide) (mD_n h563 (by decide) (mD_n h560 (by decide) (mD_n h557 (by decide) (mD_n h554 (by decide) (mD_n h551 (by decide) (mD_n h548 (by decide) gq10))))))))
  refine y_cpi y25_90 g580 g581 rfl rfl rfl rfl ?_
  intro σ579 h578
  refine w_A y25_93 rfl ?_
  have g582 := (mD_n h578 (by decide) g576)
  refine y_gf y25_94 g582 rfl c12 ?_
  refine w_K y25_97 ?_
  refine w_A y25_98 rfl ?_
  have g583 := (mD_n h578 (by decide) g577)
  refine y_gf y25_99 g583 rfl e12 ?_
  refine w_K y25_102 ?_
  refine w_K y25_103 ?_
  have g586 := (mD_n h578 (by decide) (mD_n h572 (by decide) (mD_n h566 (by decide) (mD_n h563 (by decide) (mD_n h560 (by decide) (mD_n h557 (by decide) (mD_n h554 (by decide) (mD_n h551 (by decide) (mD_n h548 (by decide) gq448)))))))))
  have g587 := (mD_n h578 (by decide) (mD_n h572 (by decide) (mD_n h566 (by decide) (mD_n h563 (by decide) (mD_n h560 (by decide) (mD_n h557 (by decide) (mD_n h554 (by decide) (mD_n h551 (by decide) (mD_n h548 (by decide) gq12)))))))))
  refine y_cpi y25_105 g586 g587 rfl rfl rfl rfl ?_
  intro σ585 h584
  refine w_A y25_108 rfl ?_
  have g588 := (mD_n h584 (by decide) g582)
  refine y_gf y25_109 g588 rfl c13 ?_
  refine w_K y25_112 ?_
  refine w_A y25_113 rfl ?_
  have g589 := (mD_n h584 (by decide) g583)
  refine y_gf y25_114 g589 rfl e13 ?_
  refine w_K y25_117 ?_
  refine w_K y25_118 ?_
  have g592 := (mD_n h584 (by decide) (mD_n h578 (by decide) (mD_n h572 (by decide) (mD_n h566 (by decide) (mD_n h563 (by decide) (mD_n h560 (by decide) (mD_n h557 (by decide) (mD_n h554 (by decide) (mD_n h551 (by decide) (mD_n h548 (by decide) gq450))))))))))
  have g593 := (mD_n h584 (by decide) (mD_n h578 (by decide) (mD_n h572 (by decide) (mD_n h566 (by decide) (mD_n h563 (by decide) (mD_n h560 (by decide) (mD_n h557 (by decide) (mD_n h554 (by decide) (mD_n h551 (by decide) (mD_n h548 (by decide) gq14))))))))))
  refine y_cpj y25_120 g592 g593 rfl rfl rfl rfl ?_
  intro σ591 h590
  refine w_A y25_123 rfl ?_
  have g594 := (mD_n h590 (by decide) g588)
  refine y_gf y25_124 g594 rfl c14 ?_
  refine w_K y25_127 ?_
  refine w_A y25_128 rfl ?_
  have g595 := (mD_n h590 (by decide) g589)
  refine y_gf y25_129 g595 rfl e14 ?_
  refine w_K y25_132 ?_
  refine w_K y25_133 ?_
  have g598 := (mD_n h590 (by decide) (mD_n h584 (by decide) (mD_n h578 (by decide) (mD_n h572 (by decide) (mD_n h566 (by decide) (mD_n h563 (by decide) (mD_n h560 (by decide) (mD_n h557 (by decide) (mD_n h554 (by decide) (mD_n h551 (by decide) (mD_n h548 (by decide) gq452)))))))))))
  have g599 := (mD_n h590 (by decide) (mD_n h584 (by decide) (mD_n h578 (by decide) (mD_n h572 (by decide) (mD_n h566 (by decide) (mD_n h563 (by decide) (mD_n h560 (by decide) (mD_n h557 (by decide) (mD_n h554 (by decide) (mD_n h551 (by decide) (mD_n h548 (by decide) gq16)))))))))))
  refine y_cpi y25_135 g598 g599 rfl rfl rfl rfl ?_
  intro σ597 h596
  refine w_A y25_138 rfl ?_
  have g600 := (mD_n h596 (by decide) g594)
  refine y_gf y25_139 g600 rfl c15 ?_
  refine w_K y25_142 ?_
  refine w_A y25_143 rfl ?_
  have g601 := (mD_n h596 (by decide) g595)
  refine y_gf y25_144 g601 rfl e15 ?_
  refine w_K y25_147 ?_
  refine w_K y25_148 ?_
  have g604 := (mD_n h596 (by decide) (mD_n h590 (by decide) (mD_n h584 (by decide) (mD_n h578 (by decide) (mD_n h572 (by decide) (mD_n h566 (by decide) (mD_n h563 (by decide) (mD_n h560 (by decide) (mD_n h557 (by decide) (mD_n h554 (by decide) (mD_n h551 (by decide) (mD_n h548 (by decide) gq454))))))))))))
  have g605 := (mD_n h596 (by decide) (mD_n h590 (by decide) (mD_n h584 (by decide) (mD_n h578 (by decide) (mD_n h572 (by decide) (mD_n h566 (by decide) (mD_n h563 (by decide) (mD_n h560 (by decide) (mD_n h557 (by decide) (mD_n h554 (by decide) (mD_n h551 (by decide) (mD_n h548 (by decide) gq18))))))))))))
  refine y_cpi y25_150 g604 g605 rfl rfl rfl rfl ?_
  intro σ603 h602
  have g606 := (mD_n h602 (by decide) g601)
  have g607 := (mD_n h602 (by decide) (mD_n h596 (by decide) (mD_n h590 (by decide) (mD_n h584 (by decide) (mD_n h578 (by decide) (mD_n h572 (by decide) h566.2.1))))))
  have g608 := (mD_n h602 (by decide) (mD_n h596 (by decide) h590.2.1))
  exact w_ret0 y25_153 ⟨rfl, _, g606, rfl, rfl, rfl, rfl, rfl, rfl, g607, g608, (yF_tr (yF_D h548 (by rfl)) (yF_tr (yF_D h551 (by rfl)) (yF_tr (yF_D h554 (by rfl)) (yF_tr (yF_D h557 (by rfl)) (yF_tr (yF_D h560 (by rfl)) (yF_tr (yF_D h563 (by rfl)) (yF_tr (yF_D h566 (by rfl)) (yF_tr (yF_D h572 (by rfl)) (yF_tr (yF_D h578 (by rfl)) (yF_tr (yF_D h584 (by rfl)) (yF_tr (yF_D h590 (by rfl)) (yF_tr (yF_D h596 (by rfl)) (yF_D h602 (by rfl))))))))))))))⟩
theorem yg_cpG1 {L : Nat} {xs : Nat → Int32} {d : Nat} {σ : iv_H} {E D : Nat → Value} {x0 x1 x2 x3 x4 x5 : Int32} {f6 f14 f496 f504 : Nat → Int64} {f8 f10 f12 f16 f18 f498 f500 f502 f506 f508 : Nat → Int32} (gq4 : iv_get σ 4 = some (yob 3 16 E)) (gq494 : iv_get σ 494 = some (yob 3 16 D)) (gq6 : iv_get σ 6 = some (yaj 7 f6)) (gq8 : iv_get σ 8 = some (yai 7 f8)) (gq10 : iv_get σ 10 = some (yai 7 f10)) (gq12 : iv_get σ 12 = some (yai 7 f12)) (gq14 : iv_get σ 14 = some (yaj 6 f14)) (gq16 : iv_get σ 16 = some (yai 6 f16)) (gq18 : iv_get σ 18 = some (yai 6 f18)) (gq496 : iv_get σ 496 = some (yaj 7 f496)) (gq498 : iv_get σ 498 = some (yai 7 f498)) (gq500 : iv_get σ 500 = some (yai 7 f500)) (gq502 : iv_get σ 502 = some (yai 7 f502)) (gq504 : iv_get σ 504 = some (yaj 6 f504)) (gq506 : iv_get σ 506 = some (yai 6 f506)) (gq508 : iv_get σ 508 = some (yai 6 f508)) (e9 : E 9 = .ref 6) (e10 : E 10 = .ref 8) (e11 : E 11 = .ref 10) (e12 : E 12 = .ref 12) (e13 : E 13 = .ref 14) (e14 : E 14 = .ref 16) (e15 : E 15 = .ref 18) (c9 : D 9 = .ref 496) (c10 : D 10 = .ref 498) (c11 : D 11 = .ref 500) (c12 : D 12 = .ref 502) (c13 : D 13 = .ref 504) (c14 : D 14 = .ref 506) (c15 : D 15 = .ref 508) (d0 : D 0 = .int x0) (d1 : D 1 = .int x1) (d2 : D 2 = .int x2) (d3 : D 3 = .int x3) (d4 : D 4 = .int x4) (d5 : D 5 = .int x5) : ∃ σ1, iv_Rn L xs d 25 0 (lv_args 0 [.ref 4, .ref 494]) [] σ none σ1 ∧ ∃ E1, iv_get σ1 4 = some (yob 3 16 E1) ∧ E1 0 = .int x0 ∧ E1 1 = .int x1 ∧ E1 2 = .int x2 ∧ E1 3 = .int x3 ∧ E1 4 = .int x4 ∧ E1 5 = .int x5 ∧ iv_get σ1 6 = some (yaj 7 (va_cpy f496 f6 0 0 7)) ∧ iv_get σ1 14 = some (yaj 6 (va_cpy f504 f14 0 0 6)) ∧ yFr [4, 6, 8, 10, 12, 14, 16, 18] σ σ1 := by
  refine y_R0 ?_
  refine w_A y25_0 rfl ?_
  refine w_A y25_1 rfl ?_
  refine y_gf y25_2 gq494 rfl d0 ?_
  refine y_pf y25_5 gq4 rfl rfl ?_
  intro σ610 h609
  refine w_A y25_8 rfl ?_
  refine w_A y25_9 rfl ?_
  have g611 := (mD_n h609 (by decide) gq494)
  refine y_gf y25_10 g611 rfl d1 ?_
  refine y_pf y25_13 h609.2.1 rfl rfl ?_
  intro σ613 h612
  refine w_A y25_16 rfl ?_
  refine w_A y25_17 rfl ?_
  have g614 := (mD_n h612 (by decide) g611)
  refine y_gf y25_18 g614 rfl d2 ?_
  refine y_pf y25_21 h612.2.1 rfl rfl ?_
  intro σ616 h615
  refine w_A y25_24 rfl ?_
  refine w_A y25_25 rfl ?_
  have g617 := (mD_n h615 (by decide) g614)
  refine y_gf y25_26 g617 rfl d3 ?_
  refine y_pf y25_29 h615.2.1 rfl rfl ?_
  intro σ619 h618
  refine w_A y25_32 rfl ?_
  refine w_A y25_33 rfl ?_
  have g620 := (mD_n h618 (by decide) g617)
  refine y_gf y25_34 g620 rfl d4 ?_
  refine y_pf y25_37 h618.2.1 rfl rfl ?_
  intro σ622 h621
  refine w_A y25_40 rfl ?_
  refine w_A y25_41 rfl ?_
  have g623 := (mD_n h621 (by decide) g620)
  refine y_gf y25_42 g623 rfl d5 ?_
  refine y_pf y25_45 h621.2.1 rfl rfl ?_
  intro σ625 h624
  refine w_A y25_48 rfl ?_
  have g626 := (mD_n h624 (by decide) g623)
  refine y_gf y25_49 g626 rfl c9 ?_
  refine w_K y25_52 ?_
  refine w_A y25_53 rfl ?_
  refine y_gf y25_54 h624.2.1 rfl e9 ?_
  refine w_K y25_57 ?_
  refine w_K y25_58 ?_
  have g629 := (mD_n h624 (by decide) (mD_n h621 (by decide) (mD_n h618 (by decide) (mD_n h615 (by decide) (mD_n h612 (by decide) (mD_n h609 (by decide) gq496))))))
  have g630 := (mD_n h624 (by decide) (mD_n h621 (by decide) (mD_n h618 (by decide) (mD_n h615 (by decide) (mD_n h612 (by decide) (mD_n h609 (by decide) gq6))))))
  refine y_cpj y25_60 g629 g630 rfl rfl rfl rfl ?_
  intro σ628 h627
  refine w_A y25_63 rfl ?_
  have g631 := (mD_n h627 (by decide) g626)
  refine y_gf y25_64 g631 rfl c10 ?_
  refine w_K y25_67 ?_
  refine w_A y25_68 rfl ?_
  have g632 := (mD_n h627 (by decide) h624.2.1)
  refine y_gf y25_69 g632 rfl e10 ?_
  refine w_K y25_72 ?_
  refine w_K y25_73 ?_
  have g635 := (mD_n h627 (by decide) (mD_n h624 (by decide) (mD_n h621 (by decide) (mD_n h618 (by decide) (mD_n h615 (by decide) (mD_n h612 (by decide) (mD_n h609 (by decide) gq498)))))))
  have g636 := (mD_n h627 (by decide) (mD_n h624 (by decide) (mD_n h621 (by decide) (mD_n h618 (by decide) (mD_n h615 (by decide) (mD_n h612 (by decide) (mD_n h609 (by decide) gq8)))))))
  refine y_cpi y25_75 g635 g636 rfl rfl rfl rfl ?_
  intro σ634 h633
  refine w_A y25_78 rfl ?_
  have g637 := (mD_n h633 (by decide) g631)
  refine y_gf y25_79 g637 rfl c11 ?_
  refine w_K y25_82 ?_
  refine w_A y25_83 rfl ?_
  have g638 := (mD_n h633 (by decide) g632)
  refine y_gf y25_84 g638 rfl e11 ?_
  refine w_K y25_87 ?_
  refine w_K y25_88 ?_
  have g641 := (mD_n h633 (by decide) (mD_n h627 (by decide) (mD_n h624 (by decide) (mD_n h621 (by decide) (mD_n h618 (by decide) (mD_n h615 (by decide) (mD_n h612 (by decide) (mD_n h609 (by decide) gq500))))))))
  have g642 := (mD_n h633 (by decide) (mD_n h627 (by decide) (mD_n h624 (by decide) (mD_n h621 (by decide) (mD_n h618 (by decide) (mD_n h615 (by decide) (mD_n h612 (by decide) (mD_n h609 (by decide) gq10))))))))
  refine y_cpi y25_90 g641 g642 rfl rfl rfl rfl ?_
  intro σ640 h639
  refine w_A y25_93 rfl ?_
  have g643 := (mD_n h639 (by decide) g637)
  refine y_gf y25_94 g643 rfl c12 ?_
  refine w_K y25_97 ?_
  refine w_A y25_98 rfl ?_
  have g644 := (mD_n h639 (by decide) g638)
  refine y_gf y25_99 g644 rfl e12 ?_
  refine w_K y25_102 ?_
  refine w_K y25_103 ?_
  have g647 := (mD_n h639 (by decide) (mD_n h633 (by decide) (mD_n h627 (by decide) (mD_n h624 (by decide) (mD_n h621 (by decide) (mD_n h618 (by decide) (mD_n h615 (by decide) (mD_n h612 (by decide) (mD_n h609 (by decide) gq502)))))))))
  have g648 := (mD_n h639 (by decide) (mD_n h633 (by decide) (mD_n h627 (by decide) (mD_n h624 (by decide) (mD_n h621 (by decide) (mD_n h618 (by decide) (mD_n h615 (by decide) (mD_n h612 (by decide) (mD_n h609 (by decide) gq12)))))))))
  refine y_cpi y25_105 g647 g648 rfl rfl rfl rfl ?_
  intro σ646 h645
  refine w_A y25_108 rfl ?_
  have g649 := (mD_n h645 (by decide) g643)
  refine y_gf y25_109 g649 rfl c13 ?_
  refine w_K y25_112 ?_
  refine w_A y25_113 rfl ?_
  have g650 := (mD_n h645 (by decide) g644)
  refine y_gf y25_114 g650 rfl e13 ?_
  refine w_K y25_117 ?_
  refine w_K y25_118 ?_
  have g653 := (mD_n h645 (by decide) (mD_n h639 (by decide) (mD_n h633 (by decide) (mD_n h627 (by decide) (mD_n h624 (by decide) (mD_n h621 (by decide) (mD_n h618 (by decide) (mD_n h615 (by decide) (mD_n h612 (by decide) (mD_n h609 (by decide) gq504))))))))))
  have g654 := (mD_n h645 (by decide) (mD_n h639 (by decide) (mD_n h633 (by decide) (mD_n h627 (by decide) (mD_n h624 (by decide) (mD_n h621 (by decide) (mD_n h618 (by decide) (mD_n h615 (by decide) (mD_n h612 (by decide) (mD_n h609 (by decide) gq14))))))))))
  refine y_cpj y25_120 g653 g654 rfl rfl rfl rfl ?_
  intro σ652 h651
  refine w_A y25_123 rfl ?_
  have g655 := (mD_n h651 (by decide) g649)
  refine y_gf y25_124 g655 rfl c14 ?_
  refine w_K y25_127 ?_
  refine w_A y25_128 rfl ?_
  have g656 := (mD_n h651 (by decide) g650)
  refine y_gf y25_129 g656 rfl e14 ?_
  refine w_K y25_132 ?_
  refine w_K y25_133 ?_
  have g659 := (mD_n h651 (by decide) (mD_n h645 (by decide) (mD_n h639 (by decide) (mD_n h633 (by decide) (mD_n h627 (by decide) (mD_n h624 (by decide) (mD_n h621 (by decide) (mD_n h618 (by decide) (mD_n h615 (by decide) (mD_n h612 (by decide) (mD_n h609 (by decide) gq506)))))))))))
  have g660 := (mD_n h651 (by decide) (mD_n h645 (by decide) (mD_n h639 (by decide) (mD_n h633 (by decide) (mD_n h627 (by decide) (mD_n h624 (by decide) (mD_n h621 (by decide) (mD_n h618 (by decide) (mD_n h615 (by decide) (mD_n h612 (by decide) (mD_n h609 (by decide) gq16)))))))))))
  refine y_cpi y25_135 g659 g660 rfl rfl rfl rfl ?_
  intro σ658 h657
  refine w_A y25_138 rfl ?_
  have g661 := (mD_n h657 (by decide) g655)
  refine y_gf y25_139 g661 rfl c15 ?_
  refine w_K y25_142 ?_
  refine w_A y25_143 rfl ?_
  have g662 := (mD_n h657 (by decide) g656)
  refine y_gf y25_144 g662 rfl e15 ?_
  refine w_K y25_147 ?_
  refine w_K y25_148 ?_
  have g665 := (mD_n h657 (by decide) (mD_n h651 (by decide) (mD_n h645 (by decide) (mD_n h639 (by decide) (mD_n h633 (by decide) (mD_n h627 (by decide) (mD_n h624 (by decide) (mD_n h621 (by decide) (mD_n h618 (by decide) (mD_n h615 (by decide) (mD_n h612 (by decide) (mD_n h609 (by decide) gq508))))))))))))
  have g666 := (mD_n h657 (by decide) (mD_n h651 (by decide) (mD_n h645 (by decide) (mD_n h639 (by decide) (mD_n h633 (by decide) (mD_n h627 (by decide) (mD_n h624 (by decide) (mD_n h621 (by decide) (mD_n h618 (by decide) (mD_n h615 (by decide) (mD_n h612 (by decide) (mD_n h609 (by decide) gq18))))))))))))
  refine y_cpi y25_150 g665 g666 rfl rfl rfl rfl ?_
  intro σ664 h663
  have g667 := (mD_n h663 (by decide) g662)
  have g668 := (mD_n h663 (by decide) (mD_n h657 (by decide) (mD_n h651 (by decide) (mD_n h645 (by decide) (mD_n h639 (by decide) (mD_n h633 (by decide) h627.2.1))))))
  have g669 := (mD_n h663 (by decide) (mD_n h657 (by decide) h651.2.1))
  exact w_ret0 y25_153 ⟨rfl, _, g667, rfl, rfl, rfl, rfl, rfl, rfl, g668, g669, (yF_tr (yF_D h609 (by rfl)) (yF_tr (yF_D h612 (by rfl)) (yF_tr (yF_D h615 (by rfl)) (yF_tr (yF_D h618 (by rfl)) (yF_tr (yF_D h621 (by rfl)) (yF_tr (yF_D h624 (by rfl)) (yF_tr (yF_D h627 (by rfl)) (yF_tr (yF_D h633 (by rfl)) (yF_tr (yF_D h639 (by rfl)) (yF_tr (yF_D h645 (by rfl)) (yF_tr (yF_D h651 (by rfl)) (yF_tr (yF_D h657 (by rfl)) (yF_D h663 (by rfl))))))))))))))⟩
