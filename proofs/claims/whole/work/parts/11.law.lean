section ZM
variable {E : zEn} {cc : ByteArray} {own : String} {nL h : Nat} {ret : Option FieldType} {Z : zLay} {α : Type} {QQ : α → zMem → State → Prop} {pc : Nat} {L : List (Nat × Value)} {st : List Value} {σ : zMem} {o o1 o2 : Option (α × zMem)}
theorem wz_1293 : Cond.methodLink "AlpCommuneLaw" (17 : Nat) ({ cls := "AlpCommuneModel", name := "house", desc := "(IIII)I" } : MethodName) ∈ zTB := zTB_mem 1419 (by decide +kernel) (by decide +kernel)
theorem wz_1295 : Cond.selects "AlpCommuneModel" ({ cls := "AlpCommuneModel", name := "house", desc := "(IIII)I" } : MethodName) ({ cls := "AlpCommuneModel", name := "house", desc := "(IIII)I" } : MethodName) ∈ zTB := zTB_mem 1421 (by decide +kernel) (by decide +kernel)
theorem wz_1294 : Cond.instanceMethod ({ cls := "AlpCommuneModel", name := "house", desc := "(IIII)I" } : MethodName) ∈ zTB := zTB_mem 1420 (by decide +kernel) (by decide +kernel)
theorem wz_1296 : Cond.code yX11_house cX11_house 5 (some .int) ∈ zTB := zTB_mem 1422 (by decide +kernel) (by decide +kernel)
theorem wz_427 : Cond.methodLink "AlpCommuneLaw" (13 : Nat) ({ cls := "AlpCommune", name := "house", desc := "(IIII)I" } : MethodName) ∈ zTB := zTB_mem 553 (by decide +kernel) (by decide +kernel)
theorem wz_429 : Cond.selects "AlpCommune" ({ cls := "AlpCommune", name := "house", desc := "(IIII)I" } : MethodName) ({ cls := "AlpCommune", name := "house", desc := "(IIII)I" } : MethodName) ∈ zTB := zTB_mem 555 (by decide +kernel) (by decide +kernel)
theorem wz_428 : Cond.instanceMethod ({ cls := "AlpCommune", name := "house", desc := "(IIII)I" } : MethodName) ∈ zTB := zTB_mem 554 (by decide +kernel) (by decide +kernel)
theorem wz_430 : Cond.code yX10_house cX10_house 6 (some .int) ∈ zTB := zTB_mem 556 (by decide +kernel) (by decide +kernel)
theorem wz_1304 : Cond.methodLink "AlpCommuneLaw" (22 : Nat) ({ cls := "AlpCommuneModel", name := "change", desc := "(III)I" } : MethodName) ∈ zTB := zTB_mem 1430 (by decide +kernel) (by decide +kernel)
theorem wz_1306 : Cond.selects "AlpCommuneModel" ({ cls := "AlpCommuneModel", name := "change", desc := "(III)I" } : MethodName) ({ cls := "AlpCommuneModel", name := "change", desc := "(III)I" } : MethodName) ∈ zTB := zTB_mem 1432 (by decide +kernel) (by decide +kernel)
theorem wz_1305 : Cond.instanceMethod ({ cls := "AlpCommuneModel", name := "change", desc := "(III)I" } : MethodName) ∈ zTB := zTB_mem 1431 (by decide +kernel) (by decide +kernel)
theorem wz_1307 : Cond.code yX11_change cX11_change 5 (some .int) ∈ zTB := zTB_mem 1433 (by decide +kernel) (by decide +kernel)
theorem wz_438 : Cond.methodLink "AlpCommuneLaw" (18 : Nat) ({ cls := "AlpCommune", name := "change", desc := "(III)I" } : MethodName) ∈ zTB := zTB_mem 564 (by decide +kernel) (by decide +kernel)
theorem wz_440 : Cond.selects "AlpCommune" ({ cls := "AlpCommune", name := "change", desc := "(III)I" } : MethodName) ({ cls := "AlpCommune", name := "change", desc := "(III)I" } : MethodName) ∈ zTB := zTB_mem 566 (by decide +kernel) (by decide +kernel)
theorem wz_439 : Cond.instanceMethod ({ cls := "AlpCommune", name := "change", desc := "(III)I" } : MethodName) ∈ zTB := zTB_mem 565 (by decide +kernel) (by decide +kernel)
theorem wz_441 : Cond.code yX10_change cX10_change 6 (some .int) ∈ zTB := zTB_mem 567 (by decide +kernel) (by decide +kernel)
theorem wz_1316 : Cond.methodLink "AlpCommuneLaw" (27 : Nat) ({ cls := "AlpCommuneModel", name := "told", desc := "(II)I" } : MethodName) ∈ zTB := zTB_mem 1442 (by decide +kernel) (by decide +kernel)
theorem wz_1318 : Cond.selects "AlpCommuneModel" ({ cls := "AlpCommuneModel", name := "told", desc := "(II)I" } : MethodName) ({ cls := "AlpCommuneModel", name := "told", desc := "(II)I" } : MethodName) ∈ zTB := zTB_mem 1444 (by decide +kernel) (by decide +kernel)
theorem wz_1317 : Cond.instanceMethod ({ cls := "AlpCommuneModel", name := "told", desc := "(II)I" } : MethodName) ∈ zTB := zTB_mem 1443 (by decide +kernel) (by decide +kernel)
theorem wz_1319 : Cond.code yX11_told cX11_told 3 (some .int) ∈ zTB := zTB_mem 1445 (by decide +kernel) (by decide +kernel)
theorem wz_450 : Cond.methodLink "AlpCommuneLaw" (23 : Nat) ({ cls := "AlpCommune", name := "told", desc := "(II)I" } : MethodName) ∈ zTB := zTB_mem 576 (by decide +kernel) (by decide +kernel)
theorem wz_452 : Cond.selects "AlpCommune" ({ cls := "AlpCommune", name := "told", desc := "(II)I" } : MethodName) ({ cls := "AlpCommune", name := "told", desc := "(II)I" } : MethodName) ∈ zTB := zTB_mem 578 (by decide +kernel) (by decide +kernel)
theorem wz_451 : Cond.instanceMethod ({ cls := "AlpCommune", name := "told", desc := "(II)I" } : MethodName) ∈ zTB := zTB_mem 577 (by decide +kernel) (by decide +kernel)
theorem wz_453 : Cond.code yX10_told cX10_told 4 (some .int) ∈ zTB := zTB_mem 579 (by decide +kernel) (by decide +kernel)
theorem wz_1320 : Cond.methodLink "AlpCommuneLaw" (32 : Nat) ({ cls := "AlpCommuneModel", name := "counts", desc := "()I" } : MethodName) ∈ zTB := zTB_mem 1446 (by decide +kernel) (by decide +kernel)
theorem wz_1322 : Cond.selects "AlpCommuneModel" ({ cls := "AlpCommuneModel", name := "counts", desc := "()I" } : MethodName) ({ cls := "AlpCommuneModel", name := "counts", desc := "()I" } : MethodName) ∈ zTB := zTB_mem 1448 (by decide +kernel) (by decide +kernel)
theorem wz_1321 : Cond.instanceMethod ({ cls := "AlpCommuneModel", name := "counts", desc := "()I" } : MethodName) ∈ zTB := zTB_mem 1447 (by decide +kernel) (by decide +kernel)
theorem wz_1323 : Cond.code yX11_counts cX11_counts 3 (some .int) ∈ zTB := zTB_mem 1449 (by decide +kernel) (by decide +kernel)
theorem wz_459 : Cond.methodLink "AlpCommuneLaw" (28 : Nat) ({ cls := "AlpCommune", name := "counts", desc := "()I" } : MethodName) ∈ zTB := zTB_mem 585 (by decide +kernel) (by decide +kernel)
theorem wz_461 : Cond.selects "AlpCommune" ({ cls := "AlpCommune", name := "counts", desc := "()I" } : MethodName) ({ cls := "AlpCommune", name := "counts", desc := "()I" } : MethodName) ∈ zTB := zTB_mem 587 (by decide +kernel) (by decide +kernel)
theorem wz_460 : Cond.instanceMethod ({ cls := "AlpCommune", name := "counts", desc := "()I" } : MethodName) ∈ zTB := zTB_mem 586 (by decide +kernel) (by decide +kernel)
theorem wz_462 : Cond.code yX10_counts cX10_counts 3 (some .int) ∈ zTB := zTB_mem 588 (by decide +kernel) (by decide +kernel)
theorem wz_1324 : Cond.methodLink "AlpCommuneLaw" (36 : Nat) ({ cls := "AlpCommuneModel", name := "right", desc := "(III)I" } : MethodName) ∈ zTB := zTB_mem 1450 (by decide +kernel) (by decide +kernel)
theorem wz_1326 : Cond.selects "AlpCommuneModel" ({ cls := "AlpCommuneModel", name := "right", desc := "(III)I" } : MethodName) ({ cls := "AlpCommuneModel", name := "right", desc := "(III)I" } : MethodName) ∈ zTB := zTB_mem 1452 (by decide +kernel) (by decide +kernel)
theorem wz_1325 : Cond.instanceMethod ({ cls := "AlpCommuneModel", name := "right", desc := "(III)I" } : MethodName) ∈ zTB := zTB_mem 1451 (by decide +kernel) (by decide +kernel)
theorem wz_1327 : Cond.code yX11_right cX11_right 4 (some .int) ∈ zTB := zTB_mem 1453 (by decide +kernel) (by decide +kernel)
theorem wz_463 : Cond.methodLink "AlpCommuneLaw" (33 : Nat) ({ cls := "AlpCommune", name := "right", desc := "(III)I" } : MethodName) ∈ zTB := zTB_mem 589 (by decide +kernel) (by decide +kernel)
theorem wz_465 : Cond.selects "AlpCommune" ({ cls := "AlpCommune", name := "right", desc := "(III)I" } : MethodName) ({ cls := "AlpCommune", name := "right", desc := "(III)I" } : MethodName) ∈ zTB := zTB_mem 591 (by decide +kernel) (by decide +kernel)
theorem wz_464 : Cond.instanceMethod ({ cls := "AlpCommune", name := "right", desc := "(III)I" } : MethodName) ∈ zTB := zTB_mem 590 (by decide +kernel) (by decide +kernel)
theorem wz_466 : Cond.code yX10_right cX10_right 4 (some .int) ∈ zTB := zTB_mem 592 (by decide +kernel) (by decide +kernel)
theorem wz_1332 : Cond.methodLink "AlpCommuneLaw" (40 : Nat) ({ cls := "AlpCommuneModel", name := "split", desc := "(II)I" } : MethodName) ∈ zTB := zTB_mem 1458 (by decide +kernel) (by decide +kernel)
theorem wz_1334 : Cond.selects "AlpCommuneModel" ({ cls := "AlpCommuneModel", name := "split", desc := "(II)I" } : MethodName) ({ cls := "AlpCommuneModel", name := "split", desc := "(II)I" } : MethodName) ∈ zTB := zTB_mem 1460 (by decide +kernel) (by decide +kernel)
theorem wz_1333 : Cond.instanceMethod ({ cls := "AlpCommuneModel", name := "split", desc := "(II)I" } : MethodName) ∈ zTB := zTB_mem 1459 (by decide +kernel) (by decide +kernel)
theorem wz_1335 : Cond.code yX11_split cX11_split 3 (some .int) ∈ zTB := zTB_mem 1461 (by decide +kernel) (by decide +kernel)
theorem wz_471 : Cond.methodLink "AlpCommuneLaw" (37 : Nat) ({ cls := "AlpCommune", name := "split", desc := "(II)I" } : MethodName) ∈ zTB := zTB_mem 597 (by decide +kernel) (by decide +kernel)
theorem wz_473 : Cond.selects "AlpCommune" ({ cls := "AlpCommune", name := "split", desc := "(II)I" } : MethodName) ({ cls := "AlpCommune", name := "split", desc := "(II)I" } : MethodName) ∈ zTB := zTB_mem 599 (by decide +kernel) (by decide +kernel)
theorem wz_472 : Cond.instanceMethod ({ cls := "AlpCommune", name := "split", desc := "(II)I" } : MethodName) ∈ zTB := zTB_mem 598 (by decide +kernel) (by decide +kernel)
theorem wz_474 : Cond.code yX10_split cX10_split 4 (some .int) ∈ zTB := zTB_mem 600 (by decide +kernel) (by decide +kernel)
theorem wz_1347 : Cond.methodLink "AlpCommuneLaw" (44 : Nat) ({ cls := "AlpCommuneModel", name := "join", desc := "(II)I" } : MethodName) ∈ zTB := zTB_mem 1473 (by decide +kernel) (by decide +kernel)
theorem wz_1349 : Cond.selects "AlpCommuneModel" ({ cls := "AlpCommuneModel", name := "join", desc := "(II)I" } : MethodName) ({ cls := "AlpCommuneModel", name := "join", desc := "(II)I" } : MethodName) ∈ zTB := zTB_mem 1475 (by decide +kernel) (by decide +kernel)
theorem wz_1348 : Cond.instanceMethod ({ cls := "AlpCommuneModel", name := "join", desc := "(II)I" } : MethodName) ∈ zTB := zTB_mem 1474 (by decide +kernel) (by decide +kernel)
theorem wz_1350 : Cond.code yX11_join cX11_join 4 (some .int) ∈ zTB := zTB_mem 1476 (by decide +kernel) (by decide +kernel)
theorem wz_489 : Cond.methodLink "AlpCommuneLaw" (41 : Nat) ({ cls := "AlpCommune", name := "join", desc := "(II)I" } : MethodName) ∈ zTB := zTB_mem 615 (by decide +kernel) (by decide +kernel)
theorem wz_491 : Cond.selects "AlpCommune" ({ cls := "AlpCommune", name := "join", desc := "(II)I" } : MethodName) ({ cls := "AlpCommune", name := "join", desc := "(II)I" } : MethodName) ∈ zTB := zTB_mem 617 (by decide +kernel) (by decide +kernel)
theorem wz_490 : Cond.instanceMethod ({ cls := "AlpCommune", name := "join", desc := "(II)I" } : MethodName) ∈ zTB := zTB_mem 616 (by decide +kernel) (by decide +kernel)
theorem wz_492 : Cond.code yX10_join cX10_join 3 (some .int) ∈ zTB := zTB_mem 618 (by decide +kernel) (by decide +kernel)
theorem wz_1351 : Cond.methodLink "AlpCommuneLaw" (48 : Nat) ({ cls := "AlpCommuneModel", name := "lend", desc := "(III)I" } : MethodName) ∈ zTB := zTB_mem 1477 (by decide +kernel) (by decide +kernel)
theorem wz_1353 : Cond.selects "AlpCommuneModel" ({ cls := "AlpCommuneModel", name := "lend", desc := "(III)I" } : MethodName) ({ cls := "AlpCommuneModel", name := "lend", desc := "(III)I" } : MethodName) ∈ zTB := zTB_mem 1479 (by decide +kernel) (by decide +kernel)
theorem wz_1352 : Cond.instanceMethod ({ cls := "AlpCommuneModel", name := "lend", desc := "(III)I" } : MethodName) ∈ zTB := zTB_mem 1478 (by decide +kernel) (by decide +kernel)
theorem wz_1354 : Cond.code yX11_lend cX11_lend 4 (some .int) ∈ zTB := zTB_mem 1480 (by decide +kernel) (by decide +kernel)
theorem wz_499 : Cond.methodLink "AlpCommuneLaw" (45 : Nat) ({ cls := "AlpCommune", name := "lend", desc := "(III)I" } : MethodName) ∈ zTB := zTB_mem 625 (by decide +kernel) (by decide +kernel)
theorem wz_501 : Cond.selects "AlpCommune" ({ cls := "AlpCommune", name := "lend", desc := "(III)I" } : MethodName) ({ cls := "AlpCommune", name := "lend", desc := "(III)I" } : MethodName) ∈ zTB := zTB_mem 627 (by decide +kernel) (by decide +kernel)
theorem wz_500 : Cond.instanceMethod ({ cls := "AlpCommune", name := "lend", desc := "(III)I" } : MethodName) ∈ zTB := zTB_mem 626 (by decide +kernel) (by decide +kernel)
theorem wz_502 : Cond.code yX10_lend cX10_lend 4 (some .int) ∈ zTB := zTB_mem 628 (by decide +kernel) (by decide +kernel)
theorem wz_1355 : Cond.methodLink "AlpCommuneLaw" (52 : Nat) ({ cls := "AlpCommuneModel", name := "leave", desc := "(II)I" } : MethodName) ∈ zTB := zTB_mem 1481 (by decide +kernel) (by decide +kernel)
theorem wz_1357 : Cond.selects "AlpCommuneModel" ({ cls := "AlpCommuneModel", name := "leave", desc := "(II)I" } : MethodName) ({ cls := "AlpCommuneModel", name := "leave", desc := "(II)I" } : MethodName) ∈ zTB := zTB_mem 1483 (by decide +kernel) (by decide +kernel)
theorem wz_1356 : Cond.instanceMethod ({ cls := "AlpCommuneModel", name := "leave", desc := "(II)I" } : MethodName) ∈ zTB := zTB_mem 1482 (by decide +kernel) (by decide +kernel)
theorem wz_1358 : Cond.code yX11_leave cX11_leave 4 (some .int) ∈ zTB := zTB_mem 1484 (by decide +kernel) (by decide +kernel)
theorem wz_503 : Cond.methodLink "AlpCommuneLaw" (49 : Nat) ({ cls := "AlpCommune", name := "leave", desc := "(II)I" } : MethodName) ∈ zTB := zTB_mem 629 (by decide +kernel) (by decide +kernel)
theorem wz_505 : Cond.selects "AlpCommune" ({ cls := "AlpCommune", name := "leave", desc := "(II)I" } : MethodName) ({ cls := "AlpCommune", name := "leave", desc := "(II)I" } : MethodName) ∈ zTB := zTB_mem 631 (by decide +kernel) (by decide +kernel)
theorem wz_504 : Cond.instanceMethod ({ cls := "AlpCommune", name := "leave", desc := "(II)I" } : MethodName) ∈ zTB := zTB_mem 630 (by decide +kernel) (by decide +kernel)
theorem wz_506 : Cond.code yX10_leave cX10_leave 4 (some .int) ∈ zTB := zTB_mem 632 (by decide +kernel) (by decide +kernel)
theorem wz_1359 : Cond.methodLink "AlpCommuneLaw" (56 : Nat) ({ cls := "AlpCommuneModel", name := "rightOf", desc := "(II)I" } : MethodName) ∈ zTB := zTB_mem 1485 (by decide +kernel) (by decide +kernel)
theorem wz_1361 : Cond.selects "AlpCommuneModel" ({ cls := "AlpCommuneModel", name := "rightOf", desc := "(II)I" } : MethodName) ({ cls := "AlpCommuneModel", name := "rightOf", desc := "(II)I" } : MethodName) ∈ zTB := zTB_mem 1487 (by decide +kernel) (by decide +kernel)
theorem wz_1360 : Cond.instanceMethod ({ cls := "AlpCommuneModel", name := "rightOf", desc := "(II)I" } : MethodName) ∈ zTB := zTB_mem 1486 (by decide +kernel) (by decide +kernel)
theorem wz_1362 : Cond.code yX11_rightOf cX11_rightOf 3 (some .int) ∈ zTB := zTB_mem 1488 (by decide +kernel) (by decide +kernel)
theorem wz_507 : Cond.methodLink "AlpCommuneLaw" (53 : Nat) ({ cls := "AlpCommune", name := "rightOf", desc := "(II)I" } : MethodName) ∈ zTB := zTB_mem 633 (by decide +kernel) (by decide +kernel)
theorem wz_509 : Cond.selects "AlpCommune" ({ cls := "AlpCommune", name := "rightOf", desc := "(II)I" } : MethodName) ({ cls := "AlpCommune", name := "rightOf", desc := "(II)I" } : MethodName) ∈ zTB := zTB_mem 635 (by decide +kernel) (by decide +kernel)
theorem wz_508 : Cond.instanceMethod ({ cls := "AlpCommune", name := "rightOf", desc := "(II)I" } : MethodName) ∈ zTB := zTB_mem 634 (by decide +kernel) (by decide +kernel)
theorem wz_510 : Cond.code yX10_rightOf cX10_rightOf 3 (some .int) ∈ zTB := zTB_mem 636 (by decide +kernel) (by decide +kernel)
theorem wz_1367 : Cond.methodLink "AlpCommuneLaw" (60 : Nat) ({ cls := "AlpCommuneModel", name := "parts", desc := "(II)I" } : MethodName) ∈ zTB := zTB_mem 1493 (by decide +kernel) (by decide +kernel)
theorem wz_1369 : Cond.selects "AlpCommuneModel" ({ cls := "AlpCommuneModel", name := "parts", desc := "(II)I" } : MethodName) ({ cls := "AlpCommuneModel", name := "parts", desc := "(II)I" } : MethodName) ∈ zTB := zTB_mem 1495 (by decide +kernel) (by decide +kernel)
theorem wz_1368 : Cond.instanceMethod ({ cls := "AlpCommuneModel", name := "parts", desc := "(II)I" } : MethodName) ∈ zTB := zTB_mem 1494 (by decide +kernel) (by decide +kernel)
theorem wz_1370 : Cond.code yX11_parts cX11_parts 3 (some .int) ∈ zTB := zTB_mem 1496 (by decide +kernel) (by decide +kernel)
theorem wz_515 : Cond.methodLink "AlpCommuneLaw" (57 : Nat) ({ cls := "AlpCommune", name := "parts", desc := "(II)I" } : MethodName) ∈ zTB := zTB_mem 641 (by decide +kernel) (by decide +kernel)
theorem wz_517 : Cond.selects "AlpCommune" ({ cls := "AlpCommune", name := "parts", desc := "(II)I" } : MethodName) ({ cls := "AlpCommune", name := "parts", desc := "(II)I" } : MethodName) ∈ zTB := zTB_mem 643 (by decide +kernel) (by decide +kernel)
theorem wz_516 : Cond.instanceMethod ({ cls := "AlpCommune", name := "parts", desc := "(II)I" } : MethodName) ∈ zTB := zTB_mem 642 (by decide +kernel) (by decide +kernel)
theorem wz_518 : Cond.code yX10_parts cX10_parts 3 (some .int) ∈ zTB := zTB_mem 644 (by decide +kernel) (by decide +kernel)
theorem wz_1375 : Cond.methodLink "AlpCommuneLaw" (64 : Nat) ({ cls := "AlpCommuneModel", name := "feed", desc := "(II)I" } : MethodName) ∈ zTB := zTB_mem 1501 (by decide +kernel) (by decide +kernel)
theorem wz_1377 : Cond.selects "AlpCommuneModel" ({ cls := "AlpCommuneModel", name := "feed", desc := "(II)I" } : MethodName) ({ cls := "AlpCommuneModel", name := "feed", desc := "(II)I" } : MethodName) ∈ zTB := zTB_mem 1503 (by decide +kernel) (by decide +kernel)
theorem wz_1376 : Cond.instanceMethod ({ cls := "AlpCommuneModel", name := "feed", desc := "(II)I" } : MethodName) ∈ zTB := zTB_mem 1502 (by decide +kernel) (by decide +kernel)
theorem wz_1378 : Cond.code yX11_feed cX11_feed 4 (some .int) ∈ zTB := zTB_mem 1504 (by decide +kernel) (by decide +kernel)
theorem wz_528 : Cond.methodLink "AlpCommuneLaw" (61 : Nat) ({ cls := "AlpCommune", name := "feed", desc := "(II)I" } : MethodName) ∈ zTB := zTB_mem 654 (by decide +kernel) (by decide +kernel)
theorem wz_530 : Cond.selects "AlpCommune" ({ cls := "AlpCommune", name := "feed", desc := "(II)I" } : MethodName) ({ cls := "AlpCommune", name := "feed", desc := "(II)I" } : MethodName) ∈ zTB := zTB_mem 656 (by decide +kernel) (by decide +kernel)
theorem wz_529 : Cond.instanceMethod ({ cls := "AlpCommune", name := "feed", desc := "(II)I" } : MethodName) ∈ zTB := zTB_mem 655 (by decide +kernel) (by decide +kernel)
theorem wz_531 : Cond.code yX10_feed cX10_feed 4 (some .int) ∈ zTB := zTB_mem 657 (by decide +kernel) (by decide +kernel)
theorem wz_1379 : Cond.methodLink "AlpCommuneLaw" (68 : Nat) ({ cls := "AlpCommuneModel", name := "vote", desc := "(II)I" } : MethodName) ∈ zTB := zTB_mem 1505 (by decide +kernel) (by decide +kernel)
theorem wz_1381 : Cond.selects "AlpCommuneModel" ({ cls := "AlpCommuneModel", name := "vote", desc := "(II)I" } : MethodName) ({ cls := "AlpCommuneModel", name := "vote", desc := "(II)I" } : MethodName) ∈ zTB := zTB_mem 1507 (by decide +kernel) (by decide +kernel)
theorem wz_1380 : Cond.instanceMethod ({ cls := "AlpCommuneModel", name := "vote", desc := "(II)I" } : MethodName) ∈ zTB := zTB_mem 1506 (by decide +kernel) (by decide +kernel)
theorem wz_1382 : Cond.code yX11_vote cX11_vote 5 (some .int) ∈ zTB := zTB_mem 1508 (by decide +kernel) (by decide +kernel)
theorem wz_536 : Cond.methodLink "AlpCommuneLaw" (65 : Nat) ({ cls := "AlpCommune", name := "vote", desc := "(II)I" } : MethodName) ∈ zTB := zTB_mem 662 (by decide +kernel) (by decide +kernel)
theorem wz_538 : Cond.selects "AlpCommune" ({ cls := "AlpCommune", name := "vote", desc := "(II)I" } : MethodName) ({ cls := "AlpCommune", name := "vote", desc := "(II)I" } : MethodName) ∈ zTB := zTB_mem 664 (by decide +kernel) (by decide +kernel)
theorem wz_537 : Cond.instanceMethod ({ cls := "AlpCommune", name := "vote", desc := "(II)I" } : MethodName) ∈ zTB := zTB_mem 663 (by decide +kernel) (by decide +kernel)
theorem wz_539 : Cond.code yX10_vote cX10_vote 4 (some .int) ∈ zTB := zTB_mem 665 (by decide +kernel) (by decide +kernel)
theorem wz_1445 : Cond.methodLink "AlpCommuneLaw" (73 : Nat) ({ cls := "AlpCommuneModel", name := "voids", desc := "(I)I" } : MethodName) ∈ zTB := zTB_mem 1571 (by decide +kernel) (by decide +kernel)
theorem wz_1447 : Cond.selects "AlpCommuneModel" ({ cls := "AlpCommuneModel", name := "voids", desc := "(I)I" } : MethodName) ({ cls := "AlpCommuneModel", name := "voids", desc := "(I)I" } : MethodName) ∈ zTB := zTB_mem 1573 (by decide +kernel) (by decide +kernel)
theorem wz_1446 : Cond.instanceMethod ({ cls := "AlpCommuneModel", name := "voids", desc := "(I)I" } : MethodName) ∈ zTB := zTB_mem 1572 (by decide +kernel) (by decide +kernel)
theorem wz_1448 : Cond.code yX11_voids cX11_voids 4 (some .int) ∈ zTB := zTB_mem 1574 (by decide +kernel) (by decide +kernel)
theorem wz_643 : Cond.methodLink "AlpCommuneLaw" (69 : Nat) ({ cls := "AlpCommune", name := "voids", desc := "(I)I" } : MethodName) ∈ zTB := zTB_mem 769 (by decide +kernel) (by decide +kernel)
theorem wz_645 : Cond.selects "AlpCommune" ({ cls := "AlpCommune", name := "voids", desc := "(I)I" } : MethodName) ({ cls := "AlpCommune", name := "voids", desc := "(I)I" } : MethodName) ∈ zTB := zTB_mem 771 (by decide +kernel) (by decide +kernel)
theorem wz_644 : Cond.instanceMethod ({ cls := "AlpCommune", name := "voids", desc := "(I)I" } : MethodName) ∈ zTB := zTB_mem 770 (by decide +kernel) (by decide +kernel)
theorem wz_646 : Cond.code yX10_voids cX10_voids 4 (some .int) ∈ zTB := zTB_mem 772 (by decide +kernel) (by decide +kernel)
theorem wz_1450 : Cond.methodLink "AlpCommuneLaw" (77 : Nat) ({ cls := "AlpCommuneModel", name := "value", desc := "(IIII)I" } : MethodName) ∈ zTB := zTB_mem 1576 (by decide +kernel) (by decide +kernel)
theorem wz_1452 : Cond.selects "AlpCommuneModel" ({ cls := "AlpCommuneModel", name := "value", desc := "(IIII)I" } : MethodName) ({ cls := "AlpCommuneModel", name := "value", desc := "(IIII)I" } : MethodName) ∈ zTB := zTB_mem 1578 (by decide +kernel) (by decide +kernel)
theorem wz_1451 : Cond.instanceMethod ({ cls := "AlpCommuneModel", name := "value", desc := "(IIII)I" } : MethodName) ∈ zTB := zTB_mem 1577 (by decide +kernel) (by decide +kernel)
theorem wz_1453 : Cond.code yX11_value cX11_value 5 (some .int) ∈ zTB := zTB_mem 1579 (by decide +kernel) (by decide +kernel)
theorem wz_651 : Cond.methodLink "AlpCommuneLaw" (74 : Nat) ({ cls := "AlpCommune", name := "value", desc := "(IIII)I" } : MethodName) ∈ zTB := zTB_mem 777 (by decide +kernel) (by decide +kernel)
theorem wz_653 : Cond.selects "AlpCommune" ({ cls := "AlpCommune", name := "value", desc := "(IIII)I" } : MethodName) ({ cls := "AlpCommune", name := "value", desc := "(IIII)I" } : MethodName) ∈ zTB := zTB_mem 779 (by decide +kernel) (by decide +kernel)
theorem wz_652 : Cond.instanceMethod ({ cls := "AlpCommune", name := "value", desc := "(IIII)I" } : MethodName) ∈ zTB := zTB_mem 778 (by decide +kernel) (by decide +kernel)
theorem wz_654 : Cond.code yX10_value cX10_value 5 (some .int) ∈ zTB := zTB_mem 780 (by decide +kernel) (by decide +kernel)
theorem wz_1480 : Cond.methodLink "AlpCommuneLaw" (81 : Nat) ({ cls := "AlpCommuneModel", name := "why", desc := "(IIII)I" } : MethodName) ∈ zTB := zTB_mem 1606 (by decide +kernel) (by decide +kernel)
theorem wz_1482 : Cond.selects "AlpCommuneModel" ({ cls := "AlpCommuneModel", name := "why", desc := "(IIII)I" } : MethodName) ({ cls := "AlpCommuneModel", name := "why", desc := "(IIII)I" } : MethodName) ∈ zTB := zTB_mem 1608 (by decide +kernel) (by decide +kernel)
theorem wz_1481 : Cond.instanceMethod ({ cls := "AlpCommuneModel", name := "why", desc := "(IIII)I" } : MethodName) ∈ zTB := zTB_mem 1607 (by decide +kernel) (by decide +kernel)
theorem wz_1483 : Cond.code yX11_why cX11_why 5 (some .int) ∈ zTB := zTB_mem 1609 (by decide +kernel) (by decide +kernel)
theorem wz_683 : Cond.methodLink "AlpCommuneLaw" (78 : Nat) ({ cls := "AlpCommune", name := "why", desc := "(IIII)I" } : MethodName) ∈ zTB := zTB_mem 809 (by decide +kernel) (by decide +kernel)
theorem wz_685 : Cond.selects "AlpCommune" ({ cls := "AlpCommune", name := "why", desc := "(IIII)I" } : MethodName) ({ cls := "AlpCommune", name := "why", desc := "(IIII)I" } : MethodName) ∈ zTB := zTB_mem 811 (by decide +kernel) (by decide +kernel)
theorem wz_684 : Cond.instanceMethod ({ cls := "AlpCommune", name := "why", desc := "(IIII)I" } : MethodName) ∈ zTB := zTB_mem 810 (by decide +kernel) (by decide +kernel)
theorem wz_686 : Cond.code yX10_why cX10_why 5 (some .int) ∈ zTB := zTB_mem 812 (by decide +kernel) (by decide +kernel)
theorem wz_1484 : Cond.methodLink "AlpCommuneLaw" (85 : Nat) ({ cls := "AlpCommuneModel", name := "weather", desc := "(III)I" } : MethodName) ∈ zTB := zTB_mem 1610 (by decide +kernel) (by decide +kernel)
theorem wz_1486 : Cond.selects "AlpCommuneModel" ({ cls := "AlpCommuneModel", name := "weather", desc := "(III)I" } : MethodName) ({ cls := "AlpCommuneModel", name := "weather", desc := "(III)I" } : MethodName) ∈ zTB := zTB_mem 1612 (by decide +kernel) (by decide +kernel)
theorem wz_1485 : Cond.instanceMethod ({ cls := "AlpCommuneModel", name := "weather", desc := "(III)I" } : MethodName) ∈ zTB := zTB_mem 1611 (by decide +kernel) (by decide +kernel)
theorem wz_1487 : Cond.code yX11_weather cX11_weather 4 (some .int) ∈ zTB := zTB_mem 1613 (by decide +kernel) (by decide +kernel)
theorem wz_687 : Cond.methodLink "AlpCommuneLaw" (82 : Nat) ({ cls := "AlpCommune", name := "weather", desc := "(III)I" } : MethodName) ∈ zTB := zTB_mem 813 (by decide +kernel) (by decide +kernel)
theorem wz_689 : Cond.selects "AlpCommune" ({ cls := "AlpCommune", name := "weather", desc := "(III)I" } : MethodName) ({ cls := "AlpCommune", name := "weather", desc := "(III)I" } : MethodName) ∈ zTB := zTB_mem 815 (by decide +kernel) (by decide +kernel)
theorem wz_688 : Cond.instanceMethod ({ cls := "AlpCommune", name := "weather", desc := "(III)I" } : MethodName) ∈ zTB := zTB_mem 814 (by decide +kernel) (by decide +kernel)
theorem wz_690 : Cond.code yX10_weather cX10_weather 4 (some .int) ∈ zTB := zTB_mem 816 (by decide +kernel) (by decide +kernel)
theorem wz_1491 : Cond.methodLink "AlpCommuneLaw" (90 : Nat) ({ cls := "AlpCommuneModel", name := "sky", desc := "(IIIII)I" } : MethodName) ∈ zTB := zTB_mem 1617 (by decide +kernel) (by decide +kernel)
theorem wz_1493 : Cond.selects "AlpCommuneModel" ({ cls := "AlpCommuneModel", name := "sky", desc := "(IIIII)I" } : MethodName) ({ cls := "AlpCommuneModel", name := "sky", desc := "(IIIII)I" } : MethodName) ∈ zTB := zTB_mem 1619 (by decide +kernel) (by decide +kernel)
theorem wz_1492 : Cond.instanceMethod ({ cls := "AlpCommuneModel", name := "sky", desc := "(IIIII)I" } : MethodName) ∈ zTB := zTB_mem 1618 (by decide +kernel) (by decide +kernel)
theorem wz_1494 : Cond.code yX11_sky cX11_sky 9 (some .int) ∈ zTB := zTB_mem 1620 (by decide +kernel) (by decide +kernel)
theorem wz_705 : Cond.methodLink "AlpCommuneLaw" (86 : Nat) ({ cls := "AlpCommune", name := "sky", desc := "(IIIII)I" } : MethodName) ∈ zTB := zTB_mem 831 (by decide +kernel) (by decide +kernel)
theorem wz_707 : Cond.selects "AlpCommune" ({ cls := "AlpCommune", name := "sky", desc := "(IIIII)I" } : MethodName) ({ cls := "AlpCommune", name := "sky", desc := "(IIIII)I" } : MethodName) ∈ zTB := zTB_mem 833 (by decide +kernel) (by decide +kernel)
theorem wz_706 : Cond.instanceMethod ({ cls := "AlpCommune", name := "sky", desc := "(IIIII)I" } : MethodName) ∈ zTB := zTB_mem 832 (by decide +kernel) (by decide +kernel)
theorem wz_708 : Cond.code yX10_sky cX10_sky 11 (some .int) ∈ zTB := zTB_mem 834 (by decide +kernel) (by decide +kernel)
theorem wz_1495 : Cond.methodLink "AlpCommuneLaw" (94 : Nat) ({ cls := "AlpCommuneModel", name := "skyOf", desc := "(II)I" } : MethodName) ∈ zTB := zTB_mem 1621 (by decide +kernel) (by decide +kernel)
theorem wz_1497 : Cond.selects "AlpCommuneModel" ({ cls := "AlpCommuneModel", name := "skyOf", desc := "(II)I" } : MethodName) ({ cls := "AlpCommuneModel", name := "skyOf", desc := "(II)I" } : MethodName) ∈ zTB := zTB_mem 1623 (by decide +kernel) (by decide +kernel)
theorem wz_1496 : Cond.instanceMethod ({ cls := "AlpCommuneModel", name := "skyOf", desc := "(II)I" } : MethodName) ∈ zTB := zTB_mem 1622 (by decide +kernel) (by decide +kernel)
theorem wz_1498 : Cond.code yX11_skyOf cX11_skyOf 3 (some .int) ∈ zTB := zTB_mem 1624 (by decide +kernel) (by decide +kernel)
theorem wz_718 : Cond.methodLink "AlpCommuneLaw" (91 : Nat) ({ cls := "AlpCommune", name := "skyOf", desc := "(II)I" } : MethodName) ∈ zTB := zTB_mem 844 (by decide +kernel) (by decide +kernel)
theorem wz_720 : Cond.selects "AlpCommune" ({ cls := "AlpCommune", name := "skyOf", desc := "(II)I" } : MethodName) ({ cls := "AlpCommune", name := "skyOf", desc := "(II)I" } : MethodName) ∈ zTB := zTB_mem 846 (by decide +kernel) (by decide +kernel)
theorem wz_719 : Cond.instanceMethod ({ cls := "AlpCommune", name := "skyOf", desc := "(II)I" } : MethodName) ∈ zTB := zTB_mem 845 (by decide +kernel) (by decide +kernel)
theorem wz_721 : Cond.code yX10_skyOf cX10_skyOf 3 (some .int) ∈ zTB := zTB_mem 847 (by decide +kernel) (by decide +kernel)
theorem wz_1503 : Cond.methodLink "AlpCommuneLaw" (98 : Nat) ({ cls := "AlpCommuneModel", name := "alp", desc := "(II)I" } : MethodName) ∈ zTB := zTB_mem 1629 (by decide +kernel) (by decide +kernel)
theorem wz_1505 : Cond.selects "AlpCommuneModel" ({ cls := "AlpCommuneModel", name := "alp", desc := "(II)I" } : MethodName) ({ cls := "AlpCommuneModel", name := "alp", desc := "(II)I" } : MethodName) ∈ zTB := zTB_mem 1631 (by decide +kernel) (by decide +kernel)
theorem wz_1504 : Cond.instanceMethod ({ cls := "AlpCommuneModel", name := "alp", desc := "(II)I" } : MethodName) ∈ zTB := zTB_mem 1630 (by decide +kernel) (by decide +kernel)
theorem wz_1506 : Cond.code yX11_alp cX11_alp 3 (some .int) ∈ zTB := zTB_mem 1632 (by decide +kernel) (by decide +kernel)
theorem wz_728 : Cond.methodLink "AlpCommuneLaw" (95 : Nat) ({ cls := "AlpCommune", name := "alp", desc := "(II)I" } : MethodName) ∈ zTB := zTB_mem 854 (by decide +kernel) (by decide +kernel)
theorem wz_730 : Cond.selects "AlpCommune" ({ cls := "AlpCommune", name := "alp", desc := "(II)I" } : MethodName) ({ cls := "AlpCommune", name := "alp", desc := "(II)I" } : MethodName) ∈ zTB := zTB_mem 856 (by decide +kernel) (by decide +kernel)
theorem wz_729 : Cond.instanceMethod ({ cls := "AlpCommune", name := "alp", desc := "(II)I" } : MethodName) ∈ zTB := zTB_mem 855 (by decide +kernel) (by decide +kernel)
theorem wz_731 : Cond.code yX10_alp cX10_alp 3 (some .int) ∈ zTB := zTB_mem 857 (by decide +kernel) (by decide +kernel)
theorem wz_1507 : Cond.methodLink "AlpCommuneLaw" (102 : Nat) ({ cls := "AlpCommuneModel", name := "alpOf", desc := "(II)I" } : MethodName) ∈ zTB := zTB_mem 1633 (by decide +kernel) (by decide +kernel)
theorem wz_1509 : Cond.selects "AlpCommuneModel" ({ cls := "AlpCommuneModel", name := "alpOf", desc := "(II)I" } : MethodName) ({ cls := "AlpCommuneModel", name := "alpOf", desc := "(II)I" } : MethodName) ∈ zTB := zTB_mem 1635 (by decide +kernel) (by decide +kernel)
theorem wz_1508 : Cond.instanceMethod ({ cls := "AlpCommuneModel", name := "alpOf", desc := "(II)I" } : MethodName) ∈ zTB := zTB_mem 1634 (by decide +kernel) (by decide +kernel)
theorem wz_1510 : Cond.code yX11_alpOf cX11_alpOf 3 (some .int) ∈ zTB := zTB_mem 1636 (by decide +kernel) (by decide +kernel)
theorem wz_736 : Cond.methodLink "AlpCommuneLaw" (99 : Nat) ({ cls := "AlpCommune", name := "alpOf", desc := "(II)I" } : MethodName) ∈ zTB := zTB_mem 862 (by decide +kernel) (by decide +kernel)
theorem wz_738 : Cond.selects "AlpCommune" ({ cls := "AlpCommune", name := "alpOf", desc := "(II)I" } : MethodName) ({ cls := "AlpCommune", name := "alpOf", desc := "(II)I" } : MethodName) ∈ zTB := zTB_mem 864 (by decide +kernel) (by decide +kernel)
theorem wz_737 : Cond.instanceMethod ({ cls := "AlpCommune", name := "alpOf", desc := "(II)I" } : MethodName) ∈ zTB := zTB_mem 863 (by decide +kernel) (by decide +kernel)
theorem wz_739 : Cond.code yX10_alpOf cX10_alpOf 3 (some .int) ∈ zTB := zTB_mem 865 (by decide +kernel) (by decide +kernel)
theorem wz_1519 : Cond.methodLink "AlpCommuneLaw" (106 : Nat) ({ cls := "AlpCommuneModel", name := "drive", desc := "(III)I" } : MethodName) ∈ zTB := zTB_mem 1645 (by decide +kernel) (by decide +kernel)
theorem wz_1521 : Cond.selects "AlpCommuneModel" ({ cls := "AlpCommuneModel", name := "drive", desc := "(III)I" } : MethodName) ({ cls := "AlpCommuneModel", name := "drive", desc := "(III)I" } : MethodName) ∈ zTB := zTB_mem 1647 (by decide +kernel) (by decide +kernel)
theorem wz_1520 : Cond.instanceMethod ({ cls := "AlpCommuneModel", name := "drive", desc := "(III)I" } : MethodName) ∈ zTB := zTB_mem 1646 (by decide +kernel) (by decide +kernel)
theorem wz_1522 : Cond.code yX11_drive cX11_drive 6 (some .int) ∈ zTB := zTB_mem 1648 (by decide +kernel) (by decide +kernel)
theorem wz_748 : Cond.methodLink "AlpCommuneLaw" (103 : Nat) ({ cls := "AlpCommune", name := "drive", desc := "(III)I" } : MethodName) ∈ zTB := zTB_mem 874 (by decide +kernel) (by decide +kernel)
theorem wz_750 : Cond.selects "AlpCommune" ({ cls := "AlpCommune", name := "drive", desc := "(III)I" } : MethodName) ({ cls := "AlpCommune", name := "drive", desc := "(III)I" } : MethodName) ∈ zTB := zTB_mem 876 (by decide +kernel) (by decide +kernel)
theorem wz_749 : Cond.instanceMethod ({ cls := "AlpCommune", name := "drive", desc := "(III)I" } : MethodName) ∈ zTB := zTB_mem 875 (by decide +kernel) (by decide +kernel)
theorem wz_751 : Cond.code yX10_drive cX10_drive 5 (some .int) ∈ zTB := zTB_mem 877 (by decide +kernel) (by decide +kernel)
theorem wz_1531 : Cond.methodLink "AlpCommuneLaw" (110 : Nat) ({ cls := "AlpCommuneModel", name := "home", desc := "(III)I" } : MethodName) ∈ zTB := zTB_mem 1657 (by decide +kernel) (by decide +kernel)
theorem wz_1533 : Cond.selects "AlpCommuneModel" ({ cls := "AlpCommuneModel", name := "home", desc := "(III)I" } : MethodName) ({ cls := "AlpCommuneModel", name := "home", desc := "(III)I" } : MethodName) ∈ zTB := zTB_mem 1659 (by decide +kernel) (by decide +kernel)
theorem wz_1532 : Cond.instanceMethod ({ cls := "AlpCommuneModel", name := "home", desc := "(III)I" } : MethodName) ∈ zTB := zTB_mem 1658 (by decide +kernel) (by decide +kernel)
theorem wz_1534 : Cond.code yX11_home cX11_home 4 (some .int) ∈ zTB := zTB_mem 1660 (by decide +kernel) (by decide +kernel)
theorem wz_768 : Cond.methodLink "AlpCommuneLaw" (107 : Nat) ({ cls := "AlpCommune", name := "home", desc := "(III)I" } : MethodName) ∈ zTB := zTB_mem 894 (by decide +kernel) (by decide +kernel)
theorem wz_770 : Cond.selects "AlpCommune" ({ cls := "AlpCommune", name := "home", desc := "(III)I" } : MethodName) ({ cls := "AlpCommune", name := "home", desc := "(III)I" } : MethodName) ∈ zTB := zTB_mem 896 (by decide +kernel) (by decide +kernel)
theorem wz_769 : Cond.instanceMethod ({ cls := "AlpCommune", name := "home", desc := "(III)I" } : MethodName) ∈ zTB := zTB_mem 895 (by decide +kernel) (by decide +kernel)
theorem wz_771 : Cond.code yX10_home cX10_home 5 (some .int) ∈ zTB := zTB_mem 897 (by decide +kernel) (by decide +kernel)
theorem wz_1535 : Cond.methodLink "AlpCommuneLaw" (114 : Nat) ({ cls := "AlpCommuneModel", name := "book", desc := "(II)I" } : MethodName) ∈ zTB := zTB_mem 1661 (by decide +kernel) (by decide +kernel)
theorem wz_1537 : Cond.selects "AlpCommuneModel" ({ cls := "AlpCommuneModel", name := "book", desc := "(II)I" } : MethodName) ({ cls := "AlpCommuneModel", name := "book", desc := "(II)I" } : MethodName) ∈ zTB := zTB_mem 1663 (by decide +kernel) (by decide +kernel)
theorem wz_1536 : Cond.instanceMethod ({ cls := "AlpCommuneModel", name := "book", desc := "(II)I" } : MethodName) ∈ zTB := zTB_mem 1662 (by decide +kernel) (by decide +kernel)
theorem wz_1538 : Cond.code yX11_book cX11_book 3 (some .int) ∈ zTB := zTB_mem 1664 (by decide +kernel) (by decide +kernel)
theorem wz_772 : Cond.methodLink "AlpCommuneLaw" (111 : Nat) ({ cls := "AlpCommune", name := "book", desc := "(II)I" } : MethodName) ∈ zTB := zTB_mem 898 (by decide +kernel) (by decide +kernel)
theorem wz_774 : Cond.selects "AlpCommune" ({ cls := "AlpCommune", name := "book", desc := "(II)I" } : MethodName) ({ cls := "AlpCommune", name := "book", desc := "(II)I" } : MethodName) ∈ zTB := zTB_mem 900 (by decide +kernel) (by decide +kernel)
theorem wz_773 : Cond.instanceMethod ({ cls := "AlpCommune", name := "book", desc := "(II)I" } : MethodName) ∈ zTB := zTB_mem 899 (by decide +kernel) (by decide +kernel)
theorem wz_775 : Cond.code yX10_book cX10_book 3 (some .int) ∈ zTB := zTB_mem 901 (by decide +kernel) (by decide +kernel)
theorem wz_1539 : Cond.methodLink "AlpCommuneLaw" (118 : Nat) ({ cls := "AlpCommuneModel", name := "days", desc := "(I)I" } : MethodName) ∈ zTB := zTB_mem 1665 (by decide +kernel) (by decide +kernel)
theorem wz_1541 : Cond.selects "AlpCommuneModel" ({ cls := "AlpCommuneModel", name := "days", desc := "(I)I" } : MethodName) ({ cls := "AlpCommuneModel", name := "days", desc := "(I)I" } : MethodName) ∈ zTB := zTB_mem 1667 (by decide +kernel) (by decide +kernel)
theorem wz_1540 : Cond.instanceMethod ({ cls := "AlpCommuneModel", name := "days", desc := "(I)I" } : MethodName) ∈ zTB := zTB_mem 1666 (by decide +kernel) (by decide +kernel)
theorem wz_1542 : Cond.code yX11_days cX11_days 3 (some .int) ∈ zTB := zTB_mem 1668 (by decide +kernel) (by decide +kernel)
theorem wz_776 : Cond.methodLink "AlpCommuneLaw" (115 : Nat) ({ cls := "AlpCommune", name := "days", desc := "(I)I" } : MethodName) ∈ zTB := zTB_mem 902 (by decide +kernel) (by decide +kernel)
theorem wz_778 : Cond.selects "AlpCommune" ({ cls := "AlpCommune", name := "days", desc := "(I)I" } : MethodName) ({ cls := "AlpCommune", name := "days", desc := "(I)I" } : MethodName) ∈ zTB := zTB_mem 904 (by decide +kernel) (by decide +kernel)
theorem wz_777 : Cond.instanceMethod ({ cls := "AlpCommune", name := "days", desc := "(I)I" } : MethodName) ∈ zTB := zTB_mem 903 (by decide +kernel) (by decide +kernel)
theorem wz_779 : Cond.code yX10_days cX10_days 3 (some .int) ∈ zTB := zTB_mem 905 (by decide +kernel) (by decide +kernel)
theorem wz_1590 : Cond.methodLink "AlpCommuneLaw" (122 : Nat) ({ cls := "AlpCommuneModel", name := "slope", desc := "(I)I" } : MethodName) ∈ zTB := zTB_mem 1716 (by decide +kernel) (by decide +kernel)
theorem wz_1592 : Cond.selects "AlpCommuneModel" ({ cls := "AlpCommuneModel", name := "slope", desc := "(I)I" } : MethodName) ({ cls := "AlpCommuneModel", name := "slope", desc := "(I)I" } : MethodName) ∈ zTB := zTB_mem 1718 (by decide +kernel) (by decide +kernel)
theorem wz_1591 : Cond.instanceMethod ({ cls := "AlpCommuneModel", name := "slope", desc := "(I)I" } : MethodName) ∈ zTB := zTB_mem 1717 (by decide +kernel) (by decide +kernel)
theorem wz_1593 : Cond.code yX11_slope cX11_slope 2 (some .int) ∈ zTB := zTB_mem 1719 (by decide +kernel) (by decide +kernel)
theorem wz_857 : Cond.methodLink "AlpCommuneLaw" (119 : Nat) ({ cls := "AlpCommune", name := "slope", desc := "(I)I" } : MethodName) ∈ zTB := zTB_mem 983 (by decide +kernel) (by decide +kernel)
theorem wz_859 : Cond.selects "AlpCommune" ({ cls := "AlpCommune", name := "slope", desc := "(I)I" } : MethodName) ({ cls := "AlpCommune", name := "slope", desc := "(I)I" } : MethodName) ∈ zTB := zTB_mem 985 (by decide +kernel) (by decide +kernel)
theorem wz_858 : Cond.instanceMethod ({ cls := "AlpCommune", name := "slope", desc := "(I)I" } : MethodName) ∈ zTB := zTB_mem 984 (by decide +kernel) (by decide +kernel)
theorem wz_860 : Cond.code yX10_slope cX10_slope 2 (some .int) ∈ zTB := zTB_mem 986 (by decide +kernel) (by decide +kernel)
theorem wz_1594 : Cond.methodLink "AlpCommuneLaw" (126 : Nat) ({ cls := "AlpCommuneModel", name := "slopeOf", desc := "(II)I" } : MethodName) ∈ zTB := zTB_mem 1720 (by decide +kernel) (by decide +kernel)
theorem wz_1596 : Cond.selects "AlpCommuneModel" ({ cls := "AlpCommuneModel", name := "slopeOf", desc := "(II)I" } : MethodName) ({ cls := "AlpCommuneModel", name := "slopeOf", desc := "(II)I" } : MethodName) ∈ zTB := zTB_mem 1722 (by decide +kernel) (by decide +kernel)
theorem wz_1595 : Cond.instanceMethod ({ cls := "AlpCommuneModel", name := "slopeOf", desc := "(II)I" } : MethodName) ∈ zTB := zTB_mem 1721 (by decide +kernel) (by decide +kernel)
theorem wz_1597 : Cond.code yX11_slopeOf cX11_slopeOf 3 (some .int) ∈ zTB := zTB_mem 1723 (by decide +kernel) (by decide +kernel)
theorem wz_861 : Cond.methodLink "AlpCommuneLaw" (123 : Nat) ({ cls := "AlpCommune", name := "slopeOf", desc := "(II)I" } : MethodName) ∈ zTB := zTB_mem 987 (by decide +kernel) (by decide +kernel)
theorem wz_863 : Cond.selects "AlpCommune" ({ cls := "AlpCommune", name := "slopeOf", desc := "(II)I" } : MethodName) ({ cls := "AlpCommune", name := "slopeOf", desc := "(II)I" } : MethodName) ∈ zTB := zTB_mem 989 (by decide +kernel) (by decide +kernel)
theorem wz_862 : Cond.instanceMethod ({ cls := "AlpCommune", name := "slopeOf", desc := "(II)I" } : MethodName) ∈ zTB := zTB_mem 988 (by decide +kernel) (by decide +kernel)
theorem wz_864 : Cond.code yX10_slopeOf cX10_slopeOf 4 (some .int) ∈ zTB := zTB_mem 990 (by decide +kernel) (by decide +kernel)
theorem wz_1614 : Cond.methodLink "AlpCommuneLaw" (140 : Nat) ({ cls := "AlpCommuneModel", name := "measure", desc := "()I" } : MethodName) ∈ zTB := zTB_mem 1740 (by decide +kernel) (by decide +kernel)
theorem wz_1616 : Cond.selects "AlpCommuneModel" ({ cls := "AlpCommuneModel", name := "measure", desc := "()I" } : MethodName) ({ cls := "AlpCommuneModel", name := "measure", desc := "()I" } : MethodName) ∈ zTB := zTB_mem 1742 (by decide +kernel) (by decide +kernel)
theorem wz_1615 : Cond.instanceMethod ({ cls := "AlpCommuneModel", name := "measure", desc := "()I" } : MethodName) ∈ zTB := zTB_mem 1741 (by decide +kernel) (by decide +kernel)
theorem wz_1617 : Cond.code yX11_measure cX11_measure 3 (some .int) ∈ zTB := zTB_mem 1743 (by decide +kernel) (by decide +kernel)
theorem wz_887 : Cond.methodLink "AlpCommuneLaw" (137 : Nat) ({ cls := "AlpCommune", name := "measure", desc := "()I" } : MethodName) ∈ zTB := zTB_mem 1013 (by decide +kernel) (by decide +kernel)
theorem wz_889 : Cond.selects "AlpCommune" ({ cls := "AlpCommune", name := "measure", desc := "()I" } : MethodName) ({ cls := "AlpCommune", name := "measure", desc := "()I" } : MethodName) ∈ zTB := zTB_mem 1015 (by decide +kernel) (by decide +kernel)
theorem wz_888 : Cond.instanceMethod ({ cls := "AlpCommune", name := "measure", desc := "()I" } : MethodName) ∈ zTB := zTB_mem 1014 (by decide +kernel) (by decide +kernel)
theorem wz_890 : Cond.code yX10_measure cX10_measure 3 (some .int) ∈ zTB := zTB_mem 1016 (by decide +kernel) (by decide +kernel)
theorem wz_1618 : Cond.methodLink "AlpCommuneLaw" (144 : Nat) ({ cls := "AlpCommuneModel", name := "cheese", desc := "(I)I" } : MethodName) ∈ zTB := zTB_mem 1744 (by decide +kernel) (by decide +kernel)
theorem wz_1620 : Cond.selects "AlpCommuneModel" ({ cls := "AlpCommuneModel", name := "cheese", desc := "(I)I" } : MethodName) ({ cls := "AlpCommuneModel", name := "cheese", desc := "(I)I" } : MethodName) ∈ zTB := zTB_mem 1746 (by decide +kernel) (by decide +kernel)
theorem wz_1619 : Cond.instanceMethod ({ cls := "AlpCommuneModel", name := "cheese", desc := "(I)I" } : MethodName) ∈ zTB := zTB_mem 1745 (by decide +kernel) (by decide +kernel)
theorem wz_1621 : Cond.code yX11_cheese cX11_cheese 8 (some .int) ∈ zTB := zTB_mem 1747 (by decide +kernel) (by decide +kernel)
theorem wz_891 : Cond.methodLink "AlpCommuneLaw" (141 : Nat) ({ cls := "AlpCommune", name := "cheese", desc := "(I)I" } : MethodName) ∈ zTB := zTB_mem 1017 (by decide +kernel) (by decide +kernel)
theorem wz_893 : Cond.selects "AlpCommune" ({ cls := "AlpCommune", name := "cheese", desc := "(I)I" } : MethodName) ({ cls := "AlpCommune", name := "cheese", desc := "(I)I" } : MethodName) ∈ zTB := zTB_mem 1019 (by decide +kernel) (by decide +kernel)
theorem wz_892 : Cond.instanceMethod ({ cls := "AlpCommune", name := "cheese", desc := "(I)I" } : MethodName) ∈ zTB := zTB_mem 1018 (by decide +kernel) (by decide +kernel)
theorem wz_894 : Cond.code yX10_cheese cX10_cheese 6 (some .int) ∈ zTB := zTB_mem 1020 (by decide +kernel) (by decide +kernel)
theorem wz_1627 : Cond.methodLink "AlpCommuneLaw" (148 : Nat) ({ cls := "AlpCommuneModel", name := "rest", desc := "(I)I" } : MethodName) ∈ zTB := zTB_mem 1753 (by decide +kernel) (by decide +kernel)
theorem wz_1629 : Cond.selects "AlpCommuneModel" ({ cls := "AlpCommuneModel", name := "rest", desc := "(I)I" } : MethodName) ({ cls := "AlpCommuneModel", name := "rest", desc := "(I)I" } : MethodName) ∈ zTB := zTB_mem 1755 (by decide +kernel) (by decide +kernel)
theorem wz_1628 : Cond.instanceMethod ({ cls := "AlpCommuneModel", name := "rest", desc := "(I)I" } : MethodName) ∈ zTB := zTB_mem 1754 (by decide +kernel) (by decide +kernel)
theorem wz_1630 : Cond.code yX11_rest cX11_rest 2 (some .int) ∈ zTB := zTB_mem 1756 (by decide +kernel) (by decide +kernel)
theorem wz_913 : Cond.methodLink "AlpCommuneLaw" (145 : Nat) ({ cls := "AlpCommune", name := "rest", desc := "(I)I" } : MethodName) ∈ zTB := zTB_mem 1039 (by decide +kernel) (by decide +kernel)
theorem wz_915 : Cond.selects "AlpCommune" ({ cls := "AlpCommune", name := "rest", desc := "(I)I" } : MethodName) ({ cls := "AlpCommune", name := "rest", desc := "(I)I" } : MethodName) ∈ zTB := zTB_mem 1041 (by decide +kernel) (by decide +kernel)
theorem wz_914 : Cond.instanceMethod ({ cls := "AlpCommune", name := "rest", desc := "(I)I" } : MethodName) ∈ zTB := zTB_mem 1040 (by decide +kernel) (by decide +kernel)
theorem wz_916 : Cond.code yX10_rest cX10_rest 2 (some .int) ∈ zTB := zTB_mem 1042 (by decide +kernel) (by decide +kernel)
theorem wz_1632 : Cond.methodLink "AlpCommuneLaw" (152 : Nat) ({ cls := "AlpCommuneModel", name := "fell", desc := "(II)I" } : MethodName) ∈ zTB := zTB_mem 1758 (by decide +kernel) (by decide +kernel)
theorem wz_1634 : Cond.selects "AlpCommuneModel" ({ cls := "AlpCommuneModel", name := "fell", desc := "(II)I" } : MethodName) ({ cls := "AlpCommuneModel", name := "fell", desc := "(II)I" } : MethodName) ∈ zTB := zTB_mem 1760 (by decide +kernel) (by decide +kernel)
theorem wz_1633 : Cond.instanceMethod ({ cls := "AlpCommuneModel", name := "fell", desc := "(II)I" } : MethodName) ∈ zTB := zTB_mem 1759 (by decide +kernel) (by decide +kernel)
theorem wz_1635 : Cond.code yX11_fell cX11_fell 8 (some .int) ∈ zTB := zTB_mem 1761 (by decide +kernel) (by decide +kernel)
theorem wz_918 : Cond.methodLink "AlpCommuneLaw" (149 : Nat) ({ cls := "AlpCommune", name := "fell", desc := "(II)I" } : MethodName) ∈ zTB := zTB_mem 1044 (by decide +kernel) (by decide +kernel)
theorem wz_920 : Cond.selects "AlpCommune" ({ cls := "AlpCommune", name := "fell", desc := "(II)I" } : MethodName) ({ cls := "AlpCommune", name := "fell", desc := "(II)I" } : MethodName) ∈ zTB := zTB_mem 1046 (by decide +kernel) (by decide +kernel)
theorem wz_919 : Cond.instanceMethod ({ cls := "AlpCommune", name := "fell", desc := "(II)I" } : MethodName) ∈ zTB := zTB_mem 1045 (by decide +kernel) (by decide +kernel)
theorem wz_921 : Cond.code yX10_fell cX10_fell 5 (some .int) ∈ zTB := zTB_mem 1047 (by decide +kernel) (by decide +kernel)
theorem wz_1636 : Cond.methodLink "AlpCommuneLaw" (156 : Nat) ({ cls := "AlpCommuneModel", name := "channel", desc := "(III)I" } : MethodName) ∈ zTB := zTB_mem 1762 (by decide +kernel) (by decide +kernel)
theorem wz_1638 : Cond.selects "AlpCommuneModel" ({ cls := "AlpCommuneModel", name := "channel", desc := "(III)I" } : MethodName) ({ cls := "AlpCommuneModel", name := "channel", desc := "(III)I" } : MethodName) ∈ zTB := zTB_mem 1764 (by decide +kernel) (by decide +kernel)
theorem wz_1637 : Cond.instanceMethod ({ cls := "AlpCommuneModel", name := "channel", desc := "(III)I" } : MethodName) ∈ zTB := zTB_mem 1763 (by decide +kernel) (by decide +kernel)
theorem wz_1639 : Cond.code yX11_channel cX11_channel 4 (some .int) ∈ zTB := zTB_mem 1765 (by decide +kernel) (by decide +kernel)
theorem wz_931 : Cond.methodLink "AlpCommuneLaw" (153 : Nat) ({ cls := "AlpCommune", name := "channel", desc := "(III)I" } : MethodName) ∈ zTB := zTB_mem 1057 (by decide +kernel) (by decide +kernel)
theorem wz_933 : Cond.selects "AlpCommune" ({ cls := "AlpCommune", name := "channel", desc := "(III)I" } : MethodName) ({ cls := "AlpCommune", name := "channel", desc := "(III)I" } : MethodName) ∈ zTB := zTB_mem 1059 (by decide +kernel) (by decide +kernel)
theorem wz_932 : Cond.instanceMethod ({ cls := "AlpCommune", name := "channel", desc := "(III)I" } : MethodName) ∈ zTB := zTB_mem 1058 (by decide +kernel) (by decide +kernel)
theorem wz_934 : Cond.code yX10_channel cX10_channel 4 (some .int) ∈ zTB := zTB_mem 1060 (by decide +kernel) (by decide +kernel)
theorem wz_1640 : Cond.methodLink "AlpCommuneLaw" (160 : Nat) ({ cls := "AlpCommuneModel", name := "hour", desc := "(I)I" } : MethodName) ∈ zTB := zTB_mem 1766 (by decide +kernel) (by decide +kernel)
theorem wz_1642 : Cond.selects "AlpCommuneModel" ({ cls := "AlpCommuneModel", name := "hour", desc := "(I)I" } : MethodName) ({ cls := "AlpCommuneModel", name := "hour", desc := "(I)I" } : MethodName) ∈ zTB := zTB_mem 1768 (by decide +kernel) (by decide +kernel)
theorem wz_1641 : Cond.instanceMethod ({ cls := "AlpCommuneModel", name := "hour", desc := "(I)I" } : MethodName) ∈ zTB := zTB_mem 1767 (by decide +kernel) (by decide +kernel)
theorem wz_1643 : Cond.code yX11_hour cX11_hour 2 (some .int) ∈ zTB := zTB_mem 1769 (by decide +kernel) (by decide +kernel)
theorem wz_935 : Cond.methodLink "AlpCommuneLaw" (157 : Nat) ({ cls := "AlpCommune", name := "hour", desc := "(I)I" } : MethodName) ∈ zTB := zTB_mem 1061 (by decide +kernel) (by decide +kernel)
theorem wz_937 : Cond.selects "AlpCommune" ({ cls := "AlpCommune", name := "hour", desc := "(I)I" } : MethodName) ({ cls := "AlpCommune", name := "hour", desc := "(I)I" } : MethodName) ∈ zTB := zTB_mem 1063 (by decide +kernel) (by decide +kernel)
theorem wz_936 : Cond.instanceMethod ({ cls := "AlpCommune", name := "hour", desc := "(I)I" } : MethodName) ∈ zTB := zTB_mem 1062 (by decide +kernel) (by decide +kernel)
theorem wz_938 : Cond.code yX10_hour cX10_hour 2 (some .int) ∈ zTB := zTB_mem 1064 (by decide +kernel) (by decide +kernel)
theorem wz_1648 : Cond.methodLink "AlpCommuneLaw" (164 : Nat) ({ cls := "AlpCommuneModel", name := "gets", desc := "(III)I" } : MethodName) ∈ zTB := zTB_mem 1774 (by decide +kernel) (by decide +kernel)
theorem wz_1650 : Cond.selects "AlpCommuneModel" ({ cls := "AlpCommuneModel", name := "gets", desc := "(III)I" } : MethodName) ({ cls := "AlpCommuneModel", name := "gets", desc := "(III)I" } : MethodName) ∈ zTB := zTB_mem 1776 (by decide +kernel) (by decide +kernel)
theorem wz_1649 : Cond.instanceMethod ({ cls := "AlpCommuneModel", name := "gets", desc := "(III)I" } : MethodName) ∈ zTB := zTB_mem 1775 (by decide +kernel) (by decide +kernel)
theorem wz_1651 : Cond.code yX11_gets cX11_gets 7 (some .int) ∈ zTB := zTB_mem 1777 (by decide +kernel) (by decide +kernel)
theorem wz_944 : Cond.methodLink "AlpCommuneLaw" (161 : Nat) ({ cls := "AlpCommune", name := "gets", desc := "(III)I" } : MethodName) ∈ zTB := zTB_mem 1070 (by decide +kernel) (by decide +kernel)
theorem wz_946 : Cond.selects "AlpCommune" ({ cls := "AlpCommune", name := "gets", desc := "(III)I" } : MethodName) ({ cls := "AlpCommune", name := "gets", desc := "(III)I" } : MethodName) ∈ zTB := zTB_mem 1072 (by decide +kernel) (by decide +kernel)
theorem wz_945 : Cond.instanceMethod ({ cls := "AlpCommune", name := "gets", desc := "(III)I" } : MethodName) ∈ zTB := zTB_mem 1071 (by decide +kernel) (by decide +kernel)
theorem wz_947 : Cond.code yX10_gets cX10_gets 5 (some .int) ∈ zTB := zTB_mem 1073 (by decide +kernel) (by decide +kernel)
theorem wz_1652 : Cond.methodLink "AlpCommuneLaw" (168 : Nat) ({ cls := "AlpCommuneModel", name := "turn", desc := "(I)I" } : MethodName) ∈ zTB := zTB_mem 1778 (by decide +kernel) (by decide +kernel)
theorem wz_1654 : Cond.selects "AlpCommuneModel" ({ cls := "AlpCommuneModel", name := "turn", desc := "(I)I" } : MethodName) ({ cls := "AlpCommuneModel", name := "turn", desc := "(I)I" } : MethodName) ∈ zTB := zTB_mem 1780 (by decide +kernel) (by decide +kernel)
theorem wz_1653 : Cond.instanceMethod ({ cls := "AlpCommuneModel", name := "turn", desc := "(I)I" } : MethodName) ∈ zTB := zTB_mem 1779 (by decide +kernel) (by decide +kernel)
theorem wz_1655 : Cond.code yX11_turn cX11_turn 5 (some .int) ∈ zTB := zTB_mem 1781 (by decide +kernel) (by decide +kernel)
theorem wz_952 : Cond.methodLink "AlpCommuneLaw" (165 : Nat) ({ cls := "AlpCommune", name := "turn", desc := "(I)I" } : MethodName) ∈ zTB := zTB_mem 1078 (by decide +kernel) (by decide +kernel)
theorem wz_954 : Cond.selects "AlpCommune" ({ cls := "AlpCommune", name := "turn", desc := "(I)I" } : MethodName) ({ cls := "AlpCommune", name := "turn", desc := "(I)I" } : MethodName) ∈ zTB := zTB_mem 1080 (by decide +kernel) (by decide +kernel)
theorem wz_953 : Cond.instanceMethod ({ cls := "AlpCommune", name := "turn", desc := "(I)I" } : MethodName) ∈ zTB := zTB_mem 1079 (by decide +kernel) (by decide +kernel)
theorem wz_955 : Cond.code yX10_turn cX10_turn 4 (some .int) ∈ zTB := zTB_mem 1081 (by decide +kernel) (by decide +kernel)
theorem wz_1660 : Cond.methodLink "AlpCommuneLaw" (172 : Nat) ({ cls := "AlpCommuneModel", name := "work", desc := "(II)I" } : MethodName) ∈ zTB := zTB_mem 1786 (by decide +kernel) (by decide +kernel)
theorem wz_1662 : Cond.selects "AlpCommuneModel" ({ cls := "AlpCommuneModel", name := "work", desc := "(II)I" } : MethodName) ({ cls := "AlpCommuneModel", name := "work", desc := "(II)I" } : MethodName) ∈ zTB := zTB_mem 1788 (by decide +kernel) (by decide +kernel)
theorem wz_1661 : Cond.instanceMethod ({ cls := "AlpCommuneModel", name := "work", desc := "(II)I" } : MethodName) ∈ zTB := zTB_mem 1787 (by decide +kernel) (by decide +kernel)
theorem wz_1663 : Cond.code yX11_work cX11_work 3 (some .int) ∈ zTB := zTB_mem 1789 (by decide +kernel) (by decide +kernel)
theorem wz_963 : Cond.methodLink "AlpCommuneLaw" (169 : Nat) ({ cls := "AlpCommune", name := "work", desc := "(II)I" } : MethodName) ∈ zTB := zTB_mem 1089 (by decide +kernel) (by decide +kernel)
theorem wz_965 : Cond.selects "AlpCommune" ({ cls := "AlpCommune", name := "work", desc := "(II)I" } : MethodName) ({ cls := "AlpCommune", name := "work", desc := "(II)I" } : MethodName) ∈ zTB := zTB_mem 1091 (by decide +kernel) (by decide +kernel)
theorem wz_964 : Cond.instanceMethod ({ cls := "AlpCommune", name := "work", desc := "(II)I" } : MethodName) ∈ zTB := zTB_mem 1090 (by decide +kernel) (by decide +kernel)
theorem wz_966 : Cond.code yX10_work cX10_work 3 (some .int) ∈ zTB := zTB_mem 1092 (by decide +kernel) (by decide +kernel)
theorem wz_1664 : Cond.methodLink "AlpCommuneLaw" (176 : Nat) ({ cls := "AlpCommuneModel", name := "year", desc := "()I" } : MethodName) ∈ zTB := zTB_mem 1790 (by decide +kernel) (by decide +kernel)
theorem wz_1666 : Cond.selects "AlpCommuneModel" ({ cls := "AlpCommuneModel", name := "year", desc := "()I" } : MethodName) ({ cls := "AlpCommuneModel", name := "year", desc := "()I" } : MethodName) ∈ zTB := zTB_mem 1792 (by decide +kernel) (by decide +kernel)
theorem wz_1665 : Cond.instanceMethod ({ cls := "AlpCommuneModel", name := "year", desc := "()I" } : MethodName) ∈ zTB := zTB_mem 1791 (by decide +kernel) (by decide +kernel)
theorem wz_1667 : Cond.code yX11_year cX11_year 4 (some .int) ∈ zTB := zTB_mem 1793 (by decide +kernel) (by decide +kernel)
theorem wz_967 : Cond.methodLink "AlpCommuneLaw" (173 : Nat) ({ cls := "AlpCommune", name := "year", desc := "()I" } : MethodName) ∈ zTB := zTB_mem 1093 (by decide +kernel) (by decide +kernel)
theorem wz_969 : Cond.selects "AlpCommune" ({ cls := "AlpCommune", name := "year", desc := "()I" } : MethodName) ({ cls := "AlpCommune", name := "year", desc := "()I" } : MethodName) ∈ zTB := zTB_mem 1095 (by decide +kernel) (by decide +kernel)
theorem wz_968 : Cond.instanceMethod ({ cls := "AlpCommune", name := "year", desc := "()I" } : MethodName) ∈ zTB := zTB_mem 1094 (by decide +kernel) (by decide +kernel)
theorem wz_970 : Cond.code yX10_year cX10_year 7 (some .int) ∈ zTB := zTB_mem 1096 (by decide +kernel) (by decide +kernel)
theorem wz_1668 : Cond.methodLink "AlpCommuneLaw" (180 : Nat) ({ cls := "AlpCommuneModel", name := "plan", desc := "(III)I" } : MethodName) ∈ zTB := zTB_mem 1794 (by decide +kernel) (by decide +kernel)
theorem wz_1670 : Cond.selects "AlpCommuneModel" ({ cls := "AlpCommuneModel", name := "plan", desc := "(III)I" } : MethodName) ({ cls := "AlpCommuneModel", name := "plan", desc := "(III)I" } : MethodName) ∈ zTB := zTB_mem 1796 (by decide +kernel) (by decide +kernel)
theorem wz_1669 : Cond.instanceMethod ({ cls := "AlpCommuneModel", name := "plan", desc := "(III)I" } : MethodName) ∈ zTB := zTB_mem 1795 (by decide +kernel) (by decide +kernel)
theorem wz_1671 : Cond.code yX11_plan cX11_plan 10 (some .int) ∈ zTB := zTB_mem 1797 (by decide +kernel) (by decide +kernel)
theorem wz_971 : Cond.methodLink "AlpCommuneLaw" (177 : Nat) ({ cls := "AlpCommune", name := "plan", desc := "(III)I" } : MethodName) ∈ zTB := zTB_mem 1097 (by decide +kernel) (by decide +kernel)
theorem wz_973 : Cond.selects "AlpCommune" ({ cls := "AlpCommune", name := "plan", desc := "(III)I" } : MethodName) ({ cls := "AlpCommune", name := "plan", desc := "(III)I" } : MethodName) ∈ zTB := zTB_mem 1099 (by decide +kernel) (by decide +kernel)
theorem wz_972 : Cond.instanceMethod ({ cls := "AlpCommune", name := "plan", desc := "(III)I" } : MethodName) ∈ zTB := zTB_mem 1098 (by decide +kernel) (by decide +kernel)
theorem wz_974 : Cond.code yX10_plan cX10_plan 7 (some .int) ∈ zTB := zTB_mem 1100 (by decide +kernel) (by decide +kernel)
theorem wz_1677 : Cond.methodLink "AlpCommuneLaw" (184 : Nat) ({ cls := "AlpCommuneModel", name := "act", desc := "(III)I" } : MethodName) ∈ zTB := zTB_mem 1803 (by decide +kernel) (by decide +kernel)
theorem wz_1679 : Cond.selects "AlpCommuneModel" ({ cls := "AlpCommuneModel", name := "act", desc := "(III)I" } : MethodName) ({ cls := "AlpCommuneModel", name := "act", desc := "(III)I" } : MethodName) ∈ zTB := zTB_mem 1805 (by decide +kernel) (by decide +kernel)
theorem wz_1678 : Cond.instanceMethod ({ cls := "AlpCommuneModel", name := "act", desc := "(III)I" } : MethodName) ∈ zTB := zTB_mem 1804 (by decide +kernel) (by decide +kernel)
theorem wz_1680 : Cond.code yX11_act cX11_act 4 (some .int) ∈ zTB := zTB_mem 1806 (by decide +kernel) (by decide +kernel)
theorem wz_1011 : Cond.methodLink "AlpCommuneLaw" (181 : Nat) ({ cls := "AlpCommune", name := "act", desc := "(III)I" } : MethodName) ∈ zTB := zTB_mem 1137 (by decide +kernel) (by decide +kernel)
theorem wz_1013 : Cond.selects "AlpCommune" ({ cls := "AlpCommune", name := "act", desc := "(III)I" } : MethodName) ({ cls := "AlpCommune", name := "act", desc := "(III)I" } : MethodName) ∈ zTB := zTB_mem 1139 (by decide +kernel) (by decide +kernel)
theorem wz_1012 : Cond.instanceMethod ({ cls := "AlpCommune", name := "act", desc := "(III)I" } : MethodName) ∈ zTB := zTB_mem 1138 (by decide +kernel) (by decide +kernel)
theorem wz_1014 : Cond.code yX10_act cX10_act 4 (some .int) ∈ zTB := zTB_mem 1140 (by decide +kernel) (by decide +kernel)
theorem wz_1691 : Cond.methodLink "AlpCommuneLaw" (188 : Nat) ({ cls := "AlpCommuneModel", name := "trace", desc := "(I)I" } : MethodName) ∈ zTB := zTB_mem 1817 (by decide +kernel) (by decide +kernel)
theorem wz_1693 : Cond.selects "AlpCommuneModel" ({ cls := "AlpCommuneModel", name := "trace", desc := "(I)I" } : MethodName) ({ cls := "AlpCommuneModel", name := "trace", desc := "(I)I" } : MethodName) ∈ zTB := zTB_mem 1819 (by decide +kernel) (by decide +kernel)
theorem wz_1692 : Cond.instanceMethod ({ cls := "AlpCommuneModel", name := "trace", desc := "(I)I" } : MethodName) ∈ zTB := zTB_mem 1818 (by decide +kernel) (by decide +kernel)
theorem wz_1694 : Cond.code yX11_trace cX11_trace 2 (some .int) ∈ zTB := zTB_mem 1820 (by decide +kernel) (by decide +kernel)
theorem wz_1031 : Cond.methodLink "AlpCommuneLaw" (185 : Nat) ({ cls := "AlpCommune", name := "trace", desc := "(I)I" } : MethodName) ∈ zTB := zTB_mem 1157 (by decide +kernel) (by decide +kernel)
theorem wz_1033 : Cond.selects "AlpCommune" ({ cls := "AlpCommune", name := "trace", desc := "(I)I" } : MethodName) ({ cls := "AlpCommune", name := "trace", desc := "(I)I" } : MethodName) ∈ zTB := zTB_mem 1159 (by decide +kernel) (by decide +kernel)
theorem wz_1032 : Cond.instanceMethod ({ cls := "AlpCommune", name := "trace", desc := "(I)I" } : MethodName) ∈ zTB := zTB_mem 1158 (by decide +kernel) (by decide +kernel)
theorem wz_1034 : Cond.code yX10_trace cX10_trace 2 (some .int) ∈ zTB := zTB_mem 1160 (by decide +kernel) (by decide +kernel)
theorem wz_1695 : Cond.methodLink "AlpCommuneLaw" (192 : Nat) ({ cls := "AlpCommuneModel", name := "taken", desc := "(II)I" } : MethodName) ∈ zTB := zTB_mem 1821 (by decide +kernel) (by decide +kernel)
theorem wz_1697 : Cond.selects "AlpCommuneModel" ({ cls := "AlpCommuneModel", name := "taken", desc := "(II)I" } : MethodName) ({ cls := "AlpCommuneModel", name := "taken", desc := "(II)I" } : MethodName) ∈ zTB := zTB_mem 1823 (by decide +kernel) (by decide +kernel)
theorem wz_1696 : Cond.instanceMethod ({ cls := "AlpCommuneModel", name := "taken", desc := "(II)I" } : MethodName) ∈ zTB := zTB_mem 1822 (by decide +kernel) (by decide +kernel)
theorem wz_1698 : Cond.code yX11_taken cX11_taken 4 (some .int) ∈ zTB := zTB_mem 1824 (by decide +kernel) (by decide +kernel)
theorem wz_1035 : Cond.methodLink "AlpCommuneLaw" (189 : Nat) ({ cls := "AlpCommune", name := "taken", desc := "(II)I" } : MethodName) ∈ zTB := zTB_mem 1161 (by decide +kernel) (by decide +kernel)
theorem wz_1037 : Cond.selects "AlpCommune" ({ cls := "AlpCommune", name := "taken", desc := "(II)I" } : MethodName) ({ cls := "AlpCommune", name := "taken", desc := "(II)I" } : MethodName) ∈ zTB := zTB_mem 1163 (by decide +kernel) (by decide +kernel)
theorem wz_1036 : Cond.instanceMethod ({ cls := "AlpCommune", name := "taken", desc := "(II)I" } : MethodName) ∈ zTB := zTB_mem 1162 (by decide +kernel) (by decide +kernel)
theorem wz_1038 : Cond.code yX10_taken cX10_taken 4 (some .int) ∈ zTB := zTB_mem 1164 (by decide +kernel) (by decide +kernel)
theorem wz_1699 : Cond.methodLink "AlpCommuneLaw" (196 : Nat) ({ cls := "AlpCommuneModel", name := "count", desc := "(I)I" } : MethodName) ∈ zTB := zTB_mem 1825 (by decide +kernel) (by decide +kernel)
theorem wz_1701 : Cond.selects "AlpCommuneModel" ({ cls := "AlpCommuneModel", name := "count", desc := "(I)I" } : MethodName) ({ cls := "AlpCommuneModel", name := "count", desc := "(I)I" } : MethodName) ∈ zTB := zTB_mem 1827 (by decide +kernel) (by decide +kernel)
theorem wz_1700 : Cond.instanceMethod ({ cls := "AlpCommuneModel", name := "count", desc := "(I)I" } : MethodName) ∈ zTB := zTB_mem 1826 (by decide +kernel) (by decide +kernel)
theorem wz_1702 : Cond.code yX11_count cX11_count 2 (some .int) ∈ zTB := zTB_mem 1828 (by decide +kernel) (by decide +kernel)
theorem wz_1044 : Cond.methodLink "AlpCommuneLaw" (193 : Nat) ({ cls := "AlpCommune", name := "count", desc := "(I)I" } : MethodName) ∈ zTB := zTB_mem 1170 (by decide +kernel) (by decide +kernel)
theorem wz_1046 : Cond.selects "AlpCommune" ({ cls := "AlpCommune", name := "count", desc := "(I)I" } : MethodName) ({ cls := "AlpCommune", name := "count", desc := "(I)I" } : MethodName) ∈ zTB := zTB_mem 1172 (by decide +kernel) (by decide +kernel)
theorem wz_1045 : Cond.instanceMethod ({ cls := "AlpCommune", name := "count", desc := "(I)I" } : MethodName) ∈ zTB := zTB_mem 1171 (by decide +kernel) (by decide +kernel)
theorem wz_1047 : Cond.code yX10_count cX10_count 2 (some .int) ∈ zTB := zTB_mem 1173 (by decide +kernel) (by decide +kernel)
theorem wz_1703 : Cond.methodLink "AlpCommuneLaw" (200 : Nat) ({ cls := "AlpCommuneModel", name := "sheet", desc := "(III)I" } : MethodName) ∈ zTB := zTB_mem 1829 (by decide +kernel) (by decide +kernel)
theorem wz_1705 : Cond.selects "AlpCommuneModel" ({ cls := "AlpCommuneModel", name := "sheet", desc := "(III)I" } : MethodName) ({ cls := "AlpCommuneModel", name := "sheet", desc := "(III)I" } : MethodName) ∈ zTB := zTB_mem 1831 (by decide +kernel) (by decide +kernel)
theorem wz_1704 : Cond.instanceMethod ({ cls := "AlpCommuneModel", name := "sheet", desc := "(III)I" } : MethodName) ∈ zTB := zTB_mem 1830 (by decide +kernel) (by decide +kernel)
theorem wz_1706 : Cond.code yX11_sheet cX11_sheet 5 (some .int) ∈ zTB := zTB_mem 1832 (by decide +kernel) (by decide +kernel)
theorem wz_1052 : Cond.methodLink "AlpCommuneLaw" (197 : Nat) ({ cls := "AlpCommune", name := "sheet", desc := "(III)I" } : MethodName) ∈ zTB := zTB_mem 1178 (by decide +kernel) (by decide +kernel)
theorem wz_1054 : Cond.selects "AlpCommune" ({ cls := "AlpCommune", name := "sheet", desc := "(III)I" } : MethodName) ({ cls := "AlpCommune", name := "sheet", desc := "(III)I" } : MethodName) ∈ zTB := zTB_mem 1180 (by decide +kernel) (by decide +kernel)
theorem wz_1053 : Cond.instanceMethod ({ cls := "AlpCommune", name := "sheet", desc := "(III)I" } : MethodName) ∈ zTB := zTB_mem 1179 (by decide +kernel) (by decide +kernel)
theorem wz_1055 : Cond.code yX10_sheet cX10_sheet 4 (some .int) ∈ zTB := zTB_mem 1181 (by decide +kernel) (by decide +kernel)
theorem wz_1707 : Cond.methodLink "AlpCommuneLaw" (204 : Nat) ({ cls := "AlpCommuneModel", name := "cell", desc := "(III)I" } : MethodName) ∈ zTB := zTB_mem 1833 (by decide +kernel) (by decide +kernel)
theorem wz_1709 : Cond.selects "AlpCommuneModel" ({ cls := "AlpCommuneModel", name := "cell", desc := "(III)I" } : MethodName) ({ cls := "AlpCommuneModel", name := "cell", desc := "(III)I" } : MethodName) ∈ zTB := zTB_mem 1835 (by decide +kernel) (by decide +kernel)
theorem wz_1708 : Cond.instanceMethod ({ cls := "AlpCommuneModel", name := "cell", desc := "(III)I" } : MethodName) ∈ zTB := zTB_mem 1834 (by decide +kernel) (by decide +kernel)
theorem wz_1710 : Cond.code yX11_cell cX11_cell 4 (some .int) ∈ zTB := zTB_mem 1836 (by decide +kernel) (by decide +kernel)
theorem wz_1060 : Cond.methodLink "AlpCommuneLaw" (201 : Nat) ({ cls := "AlpCommune", name := "cell", desc := "(III)I" } : MethodName) ∈ zTB := zTB_mem 1186 (by decide +kernel) (by decide +kernel)
theorem wz_1062 : Cond.selects "AlpCommune" ({ cls := "AlpCommune", name := "cell", desc := "(III)I" } : MethodName) ({ cls := "AlpCommune", name := "cell", desc := "(III)I" } : MethodName) ∈ zTB := zTB_mem 1188 (by decide +kernel) (by decide +kernel)
theorem wz_1061 : Cond.instanceMethod ({ cls := "AlpCommune", name := "cell", desc := "(III)I" } : MethodName) ∈ zTB := zTB_mem 1187 (by decide +kernel) (by decide +kernel)
theorem wz_1063 : Cond.code yX10_cell cX10_cell 5 (some .int) ∈ zTB := zTB_mem 1189 (by decide +kernel) (by decide +kernel)
theorem wz_1711 : Cond.methodLink "AlpCommuneLaw" (208 : Nat) ({ cls := "AlpCommuneModel", name := "lose", desc := "(II)I" } : MethodName) ∈ zTB := zTB_mem 1837 (by decide +kernel) (by decide +kernel)
theorem wz_1713 : Cond.selects "AlpCommuneModel" ({ cls := "AlpCommuneModel", name := "lose", desc := "(II)I" } : MethodName) ({ cls := "AlpCommuneModel", name := "lose", desc := "(II)I" } : MethodName) ∈ zTB := zTB_mem 1839 (by decide +kernel) (by decide +kernel)
theorem wz_1712 : Cond.instanceMethod ({ cls := "AlpCommuneModel", name := "lose", desc := "(II)I" } : MethodName) ∈ zTB := zTB_mem 1838 (by decide +kernel) (by decide +kernel)
theorem wz_1714 : Cond.code yX11_lose cX11_lose 3 (some .int) ∈ zTB := zTB_mem 1840 (by decide +kernel) (by decide +kernel)
theorem wz_1068 : Cond.methodLink "AlpCommuneLaw" (205 : Nat) ({ cls := "AlpCommune", name := "lose", desc := "(II)I" } : MethodName) ∈ zTB := zTB_mem 1194 (by decide +kernel) (by decide +kernel)
theorem wz_1070 : Cond.selects "AlpCommune" ({ cls := "AlpCommune", name := "lose", desc := "(II)I" } : MethodName) ({ cls := "AlpCommune", name := "lose", desc := "(II)I" } : MethodName) ∈ zTB := zTB_mem 1196 (by decide +kernel) (by decide +kernel)
theorem wz_1069 : Cond.instanceMethod ({ cls := "AlpCommune", name := "lose", desc := "(II)I" } : MethodName) ∈ zTB := zTB_mem 1195 (by decide +kernel) (by decide +kernel)
theorem wz_1071 : Cond.code yX10_lose cX10_lose 4 (some .int) ∈ zTB := zTB_mem 1197 (by decide +kernel) (by decide +kernel)
theorem wz_1715 : Cond.methodLink "AlpCommuneLaw" (212 : Nat) ({ cls := "AlpCommuneModel", name := "copy", desc := "(IIIII)I" } : MethodName) ∈ zTB := zTB_mem 1841 (by decide +kernel) (by decide +kernel)
theorem wz_1717 : Cond.selects "AlpCommuneModel" ({ cls := "AlpCommuneModel", name := "copy", desc := "(IIIII)I" } : MethodName) ({ cls := "AlpCommuneModel", name := "copy", desc := "(IIIII)I" } : MethodName) ∈ zTB := zTB_mem 1843 (by decide +kernel) (by decide +kernel)
theorem wz_1716 : Cond.instanceMethod ({ cls := "AlpCommuneModel", name := "copy", desc := "(IIIII)I" } : MethodName) ∈ zTB := zTB_mem 1842 (by decide +kernel) (by decide +kernel)
theorem wz_1718 : Cond.code yX11_copy cX11_copy 6 (some .int) ∈ zTB := zTB_mem 1844 (by decide +kernel) (by decide +kernel)
theorem wz_1072 : Cond.methodLink "AlpCommuneLaw" (209 : Nat) ({ cls := "AlpCommune", name := "copy", desc := "(IIIII)I" } : MethodName) ∈ zTB := zTB_mem 1198 (by decide +kernel) (by decide +kernel)
theorem wz_1074 : Cond.selects "AlpCommune" ({ cls := "AlpCommune", name := "copy", desc := "(IIIII)I" } : MethodName) ({ cls := "AlpCommune", name := "copy", desc := "(IIIII)I" } : MethodName) ∈ zTB := zTB_mem 1200 (by decide +kernel) (by decide +kernel)
theorem wz_1073 : Cond.instanceMethod ({ cls := "AlpCommune", name := "copy", desc := "(IIIII)I" } : MethodName) ∈ zTB := zTB_mem 1199 (by decide +kernel) (by decide +kernel)
theorem wz_1075 : Cond.code yX10_copy cX10_copy 8 (some .int) ∈ zTB := zTB_mem 1201 (by decide +kernel) (by decide +kernel)
theorem wz_879 : Cond.methodLink "AlpCommuneLaw" (127 : Nat) ({ cls := "AlpCommune", name := "works", desc := "(IZ)I" } : MethodName) ∈ zTB := zTB_mem 1005 (by decide +kernel) (by decide +kernel)
theorem wz_881 : Cond.selects "AlpCommune" ({ cls := "AlpCommune", name := "works", desc := "(IZ)I" } : MethodName) ({ cls := "AlpCommune", name := "works", desc := "(IZ)I" } : MethodName) ∈ zTB := zTB_mem 1007 (by decide +kernel) (by decide +kernel)
theorem wz_880 : Cond.instanceMethod ({ cls := "AlpCommune", name := "works", desc := "(IZ)I" } : MethodName) ∈ zTB := zTB_mem 1006 (by decide +kernel) (by decide +kernel)
theorem wz_882 : Cond.code yX10_works cX10_works 3 (some .int) ∈ zTB := zTB_mem 1008 (by decide +kernel) (by decide +kernel)
theorem wz_883 : Cond.methodLink "AlpCommuneLaw" (132 : Nat) ({ cls := "AlpCommune", name := "shut", desc := "(Z)I" } : MethodName) ∈ zTB := zTB_mem 1009 (by decide +kernel) (by decide +kernel)
theorem wz_885 : Cond.selects "AlpCommune" ({ cls := "AlpCommune", name := "shut", desc := "(Z)I" } : MethodName) ({ cls := "AlpCommune", name := "shut", desc := "(Z)I" } : MethodName) ∈ zTB := zTB_mem 1011 (by decide +kernel) (by decide +kernel)
theorem wz_884 : Cond.instanceMethod ({ cls := "AlpCommune", name := "shut", desc := "(Z)I" } : MethodName) ∈ zTB := zTB_mem 1010 (by decide +kernel) (by decide +kernel)
theorem wz_886 : Cond.code yX10_shut cX10_shut 2 (some .int) ∈ zTB := zTB_mem 1012 (by decide +kernel) (by decide +kernel)
theorem wz_1610 : Cond.methodLink "AlpCommuneLaw" (136 : Nat) ({ cls := "AlpCommuneModel", name := "shut", desc := "(Z)I" } : MethodName) ∈ zTB := zTB_mem 1736 (by decide +kernel) (by decide +kernel)
theorem wz_1612 : Cond.selects "AlpCommuneModel" ({ cls := "AlpCommuneModel", name := "shut", desc := "(Z)I" } : MethodName) ({ cls := "AlpCommuneModel", name := "shut", desc := "(Z)I" } : MethodName) ∈ zTB := zTB_mem 1738 (by decide +kernel) (by decide +kernel)
theorem wz_1611 : Cond.instanceMethod ({ cls := "AlpCommuneModel", name := "shut", desc := "(Z)I" } : MethodName) ∈ zTB := zTB_mem 1737 (by decide +kernel) (by decide +kernel)
theorem wz_1613 : Cond.code yX11_shut cX11_shut 3 (some .int) ∈ zTB := zTB_mem 1739 (by decide +kernel) (by decide +kernel)
theorem wz_1606 : Cond.methodLink "AlpCommuneLaw" (131 : Nat) ({ cls := "AlpCommuneModel", name := "works", desc := "(IZ)I" } : MethodName) ∈ zTB := zTB_mem 1732 (by decide +kernel) (by decide +kernel)
theorem wz_1608 : Cond.selects "AlpCommuneModel" ({ cls := "AlpCommuneModel", name := "works", desc := "(IZ)I" } : MethodName) ({ cls := "AlpCommuneModel", name := "works", desc := "(IZ)I" } : MethodName) ∈ zTB := zTB_mem 1734 (by decide +kernel) (by decide +kernel)
theorem wz_1607 : Cond.instanceMethod ({ cls := "AlpCommuneModel", name := "works", desc := "(IZ)I" } : MethodName) ∈ zTB := zTB_mem 1733 (by decide +kernel) (by decide +kernel)
theorem wz_1609 : Cond.code yX11_works cX11_works 4 (some .int) ∈ zTB := zTB_mem 1735 (by decide +kernel) (by decide +kernel)
theorem zk_L_17 (C : zCx E cc RL nL ret Z h) (F : Nat) {b0 : Int32} {b1 : Int32} {b2 : Int32} {b3 : Int32} (hk : 0 < zN 60) (hh : 3 + 1 ≤ h) (hst8 : (st.map fun v => v.category).sum ≤ 8) (hd : decode cc pc = .ok (.invokevirtual 17, 3)) {g : Int32 → zMem → Option (α × zMem)} (kk : ∀ (r : Int32) (σ1 : zMem), zKO E nL Z QQ (pc + 3) L (.int r :: st) σ1 (g r σ1)) : zKO E nL Z QQ pc L (.int b3 :: .int b2 :: .int b1 :: .int b0 :: .ref (zad Z 60 0) :: st) σ (zb (f_X11_house F σ b0 b1 b2 b3) g) :=
  zr_callVI (As := [.int b0, .int b1, .int b2, .int b3]) (ia := 4) C (fun r σ1 ho => c_X11_house (zla E) Z F σ b0 b1 b2 b3 r σ1 ho) wz_1293 hk rfl rfl wz_1295 wz_1294 wz_1296 wz_12 (by decide +kernel) rfl (by decide) hh hd hst8 kk
theorem zk_L_13 (C : zCx E cc RL nL ret Z h) (F : Nat) {b0 : Int32} {b1 : Int32} {b2 : Int32} {b3 : Int32} (hk : 0 < zN 0) (hh : 2 + 1 ≤ h) (hst8 : (st.map fun v => v.category).sum ≤ 8) (hd : decode cc pc = .ok (.invokevirtual 13, 3)) {g : Int32 → zMem → Option (α × zMem)} (kk : ∀ (r : Int32) (σ1 : zMem), zKO E nL Z QQ (pc + 3) L (.int r :: st) σ1 (g r σ1)) : zKO E nL Z QQ pc L (.int b3 :: .int b2 :: .int b1 :: .int b0 :: .ref (zad Z 0 0) :: st) σ (zb (f_X10_house F σ b0 b1 b2 b3) g) :=
  zr_callVI (As := [.int b0, .int b1, .int b2, .int b3]) (ia := 4) C (fun r σ1 ho => c_X10_house (zla E) Z F σ b0 b1 b2 b3 r σ1 ho) wz_427 hk rfl rfl wz_429 wz_428 wz_430 wz_1 (by decide +kernel) rfl (by decide) hh hd hst8 kk
theorem zk_L_22 (C : zCx E cc RL nL ret Z h) (F : Nat) {b0 : Int32} {b1 : Int32} {b2 : Int32} (hk : 0 < zN 60) (hh : 3 + 1 ≤ h) (hst8 : (st.map fun v => v.category).sum ≤ 8) (hd : decode cc pc = .ok (.invokevirtual 22, 3)) {g : Int32 → zMem → Option (α × zMem)} (kk : ∀ (r : Int32) (σ1 : zMem), zKO E nL Z QQ (pc + 3) L (.int r :: st) σ1 (g r σ1)) : zKO E nL Z QQ pc L (.int b2 :: .int b1 :: .int b0 :: .ref (zad Z 60 0) :: st) σ (zb (f_X11_change F σ b0 b1 b2) g) :=
  zr_callVI (As := [.int b0, .int b1, .int b2]) (ia := 3) C (fun r σ1 ho => c_X11_change (zla E) Z F σ b0 b1 b2 r σ1 ho) wz_1304 hk rfl rfl wz_1306 wz_1305 wz_1307 wz_12 (by decide +kernel) rfl (by decide) hh hd hst8 kk
theorem zk_L_18 (C : zCx E cc RL nL ret Z h) (F : Nat) {b0 : Int32} {b1 : Int32} {b2 : Int32} (hk : 0 < zN 0) (hh : 2 + 1 ≤ h) (hst8 : (st.map fun v => v.category).sum ≤ 8) (hd : decode cc pc = .ok (.invokevirtual 18, 3)) {g : Int32 → zMem → Option (α × zMem)} (kk : ∀ (r : Int32) (σ1 : zMem), zKO E nL Z QQ (pc + 3) L (.int r :: st) σ1 (g r σ1)) : zKO E nL Z QQ pc L (.int b2 :: .int b1 :: .int b0 :: .ref (zad Z 0 0) :: st) σ (zb (f_X10_change F σ b0 b1 b2) g) :=
  zr_callVI (As := [.int b0, .int b1, .int b2]) (ia := 3) C (fun r σ1 ho => c_X10_change (zla E) Z F σ b0 b1 b2 r σ1 ho) wz_438 hk rfl rfl wz_440 wz_439 wz_441 wz_1 (by decide +kernel) rfl (by decide) hh hd hst8 kk
theorem zk_L_27 (C : zCx E cc RL nL ret Z h) (F : Nat) {b0 : Int32} {b1 : Int32} (hk : 0 < zN 60) (hh : 3 + 1 ≤ h) (hst8 : (st.map fun v => v.category).sum ≤ 8) (hd : decode cc pc = .ok (.invokevirtual 27, 3)) {g : Int32 → zMem → Option (α × zMem)} (kk : ∀ (r : Int32) (σ1 : zMem), zKO E nL Z QQ (pc + 3) L (.int r :: st) σ1 (g r σ1)) : zKO E nL Z QQ pc L (.int b1 :: .int b0 :: .ref (zad Z 60 0) :: st) σ (zb (f_X11_told F σ b0 b1) g) :=
  zr_callVI (As := [.int b0, .int b1]) (ia := 2) C (fun r σ1 ho => c_X11_told (zla E) Z F σ b0 b1 r σ1 ho) wz_1316 hk rfl rfl wz_1318 wz_1317 wz_1319 wz_12 (by decide +kernel) rfl (by decide) hh hd hst8 kk
theorem zk_L_23 (C : zCx E cc RL nL ret Z h) (F : Nat) {b0 : Int32} {b1 : Int32} (hk : 0 < zN 0) (hh : 3 + 1 ≤ h) (hst8 : (st.map fun v => v.category).sum ≤ 8) (hd : decode cc pc = .ok (.invokevirtual 23, 3)) {g : Int32 → zMem → Option (α × zMem)} (kk : ∀ (r : Int32) (σ1 : zMem), zKO E nL Z QQ (pc + 3) L (.int r :: st) σ1 (g r σ1)) : zKO E nL Z QQ pc L (.int b1 :: .int b0 :: .ref (zad Z 0 0) :: st) σ (zb (f_X10_told F σ b0 b1) g) :=
  zr_callVI (As := [.int b0, .int b1]) (ia := 2) C (fun r σ1 ho => c_X10_told (zla E) Z F σ b0 b1 r σ1 ho) wz_450 hk rfl rfl wz_452 wz_451 wz_453 wz_1 (by decide +kernel) rfl (by decide) hh hd hst8 kk
theorem zk_L_32 (C : zCx E cc RL nL ret Z h) (F : Nat)  (hk : 0 < zN 60) (hh : 1 + 1 ≤ h) (hst8 : (st.map fun v => v.category).sum ≤ 8) (hd : decode cc pc = .ok (.invokevirtual 32, 3)) {g : Int32 → zMem → Option (α × zMem)} (kk : ∀ (r : Int32) (σ1 : zMem), zKO E nL Z QQ (pc + 3) L (.int r :: st) σ1 (g r σ1)) : zKO E nL Z QQ pc L (.ref (zad Z 60 0) :: st) σ (zb (f_X11_counts F σ) g) :=
  zr_callVI (As := []) (ia := 0) C (fun r σ1 ho => c_X11_counts (zla E) Z F σ r σ1 ho) wz_1320 hk rfl rfl wz_1322 wz_1321 wz_1323 wz_12 (by decide +kernel) rfl (by decide) hh hd hst8 kk
theorem zk_L_28 (C : zCx E cc RL nL ret Z h) (F : Nat)  (hk : 0 < zN 0) (hh : 1 + 1 ≤ h) (hst8 : (st.map fun v => v.category).sum ≤ 8) (hd : decode cc pc = .ok (.invokevirtual 28, 3)) {g : Int32 → zMem → Option (α × zMem)} (kk : ∀ (r : Int32) (σ1 : zMem), zKO E nL Z QQ (pc + 3) L (.int r :: st) σ1 (g r σ1)) : zKO E nL Z QQ pc L (.ref (zad Z 0 0) :: st) σ (zb (f_X10_counts F σ) g) :=
  zr_callVI (As := []) (ia := 0) C (fun r σ1 ho => c_X10_counts (zla E) Z F σ r σ1 ho) wz_459 hk rfl rfl wz_461 wz_460 wz_462 wz_1 (by decide +kernel) rfl (by decide) hh hd hst8 kk
theorem zk_L_36 (C : zCx E cc RL nL ret Z h) (F : Nat) {b0 : Int32} {b1 : Int32} {b2 : Int32} (hk : 0 < zN 60) (hh : 3 + 1 ≤ h) (hst8 : (st.map fun v => v.category).sum ≤ 8) (hd : decode cc pc = .ok (.invokevirtual 36, 3)) {g : Int32 → zMem → Option (α × zMem)} (kk : ∀ (r : Int32) (σ1 : zMem), zKO E nL Z QQ (pc + 3) L (.int r :: st) σ1 (g r σ1)) : zKO E nL Z QQ pc L (.int b2 :: .int b1 :: .int b0 :: .ref (zad Z 60 0) :: st) σ (zb (f_X11_right F σ b0 b1 b2) g) :=
  zr_callVI (As := [.int b0, .int b1, .int b2]) (ia := 3) C (fun r σ1 ho => c_X11_right (zla E) Z F σ b0 b1 b2 r σ1 ho) wz_1324 hk rfl rfl wz_1326 wz_1325 wz_1327 wz_12 (by decide +kernel) rfl (by decide) hh hd hst8 kk
theorem zk_L_33 (C : zCx E cc RL nL ret Z h) (F : Nat) {b0 : Int32} {b1 : Int32} {b2 : Int32} (hk : 0 < zN 0) (hh : 2 + 1 ≤ h) (hst8 : (st.map fun v => v.category).sum ≤ 8) (hd : decode cc pc = .ok (.invokevirtual 33, 3)) {g : Int32 → zMem → Option (α × zMem)} (kk : ∀ (r : Int32) (σ1 : zMem), zKO E nL Z QQ (pc + 3) L (.int r :: st) σ1 (g r σ1)) : zKO E nL Z QQ pc L (.int b2 :: .int b1 :: .int b0 :: .ref (zad Z 0 0) :: st) σ (zb (f_X10_right F σ b0 b1 b2) g) :=
  zr_callVI (As := [.int b0, .int b1, .int b2]) (ia := 3) C (fun r σ1 ho => c_X10_right (zla E) Z F σ b0 b1 b2 r σ1 ho) wz_463 hk rfl rfl wz_465 wz_464 wz_466 wz_1 (by decide +kernel) rfl (by decide) hh hd hst8 kk
theorem zk_L_40 (C : zCx E cc RL nL ret Z h) (F : Nat) {b0 : Int32} {b1 : Int32} (hk : 0 < zN 60) (hh : 3 + 1 ≤ h) (hst8 : (st.map fun v => v.category).sum ≤ 8) (hd : decode cc pc = .ok (.invokevirtual 40, 3)) {g : Int32 → zMem → Option (α × zMem)} (kk : ∀ (r : Int32) (σ1 : zMem), zKO E nL Z QQ (pc + 3) L (.int r :: st) σ1 (g r σ1)) : zKO E nL Z QQ pc L (.int b1 :: .int b0 :: .ref (zad Z 60 0) :: st) σ (zb (f_X11_split F σ b0 b1) g) :=
  zr_callVI (As := [.int b0, .int b1]) (ia := 2) C (fun r σ1 ho => c_X11_split (zla E) Z F σ b0 b1 r σ1 ho) wz_1332 hk rfl rfl wz_1334 wz_1333 wz_1335 wz_12 (by decide +kernel) rfl (by decide) hh hd hst8 kk
theorem zk_L_37 (C : zCx E cc RL nL ret Z h) (F : Nat) {b0 : Int32} {b1 : Int32} (hk : 0 < zN 0) (hh : 2 + 1 ≤ h) (hst8 : (st.map fun v => v.category).sum ≤ 8) (hd : decode cc pc = .ok (.invokevirtual 37, 3)) {g : Int32 → zMem → Option (α × zMem)} (kk : ∀ (r : Int32) (σ1 : zMem), zKO E nL Z QQ (pc + 3) L (.int r :: st) σ1 (g r σ1)) : zKO E nL Z QQ pc L (.int b1 :: .int b0 :: .ref (zad Z 0 0) :: st) σ (zb (f_X10_split F σ b0 b1) g) :=
  zr_callVI (As := [.int b0, .int b1]) (ia := 2) C (fun r σ1 ho => c_X10_split (zla E) Z F σ b0 b1 r σ1 ho) wz_471 hk rfl rfl wz_473 wz_472 wz_474 wz_1 (by decide +kernel) rfl (by decide) hh hd hst8 kk
theorem zk_L_44 (C : zCx E cc RL nL ret Z h) (F : Nat) {b0 : Int32} {b1 : Int32} (hk : 0 < zN 60) (hh : 3 + 1 ≤ h) (hst8 : (st.map fun v => v.category).sum ≤ 8) (hd : decode cc pc = .ok (.invokevirtual 44, 3)) {g : Int32 → zMem → Option (α × zMem)} (kk : ∀ (r : Int32) (σ1 : zMem), zKO E nL Z QQ (pc + 3) L (.int r :: st) σ1 (g r σ1)) : zKO E nL Z QQ pc L (.int b1 :: .int b0 :: .ref (zad Z 60 0) :: st) σ (zb (f_X11_join F σ b0 b1) g) :=
  zr_callVI (As := [.int b0, .int b1]) (ia := 2) C (fun r σ1 ho => c_X11_join (zla E) Z F σ b0 b1 r σ1 ho) wz_1347 hk rfl rfl wz_1349 wz_1348 wz_1350 wz_12 (by decide +kernel) rfl (by decide) hh hd hst8 kk
theorem zk_L_41 (C : zCx E cc RL nL ret Z h) (F : Nat) {b0 : Int32} {b1 : Int32} (hk : 0 < zN 0) (hh : 3 + 1 ≤ h) (hst8 : (st.map fun v => v.category).sum ≤ 8) (hd : decode cc pc = .ok (.invokevirtual 41, 3)) {g : Int32 → zMem → Option (α × zMem)} (kk : ∀ (r : Int32) (σ1 : zMem), zKO E nL Z QQ (pc + 3) L (.int r :: st) σ1 (g r σ1)) : zKO E nL Z QQ pc L (.int b1 :: .int b0 :: .ref (zad Z 0 0) :: st) σ (zb (f_X10_join F σ b0 b1) g) :=
  zr_callVI (As := [.int b0, .int b1]) (ia := 2) C (fun r σ1 ho => c_X10_join (zla E) Z F σ b0 b1 r σ1 ho) wz_489 hk rfl rfl wz_491 wz_490 wz_492 wz_1 (by decide +kernel) rfl (by decide) hh hd hst8 kk
theorem zk_L_48 (C : zCx E cc RL nL ret Z h) (F : Nat) {b0 : Int32} {b1 : Int32} {b2 : Int32} (hk : 0 < zN 60) (hh : 3 + 1 ≤ h) (hst8 : (st.map fun v => v.category).sum ≤ 8) (hd : decode cc pc = .ok (.invokevirtual 48, 3)) {g : Int32 → zMem → Option (α × zMem)} (kk : ∀ (r : Int32) (σ1 : zMem), zKO E nL Z QQ (pc + 3) L (.int r :: st) σ1 (g r σ1)) : zKO E nL Z QQ pc L (.int b2 :: .int b1 :: .int b0 :: .ref (zad Z 60 0) :: st) σ (zb (f_X11_lend F σ b0 b1 b2) g) :=
  zr_callVI (As := [.int b0, .int b1, .int b2]) (ia := 3) C (fun r σ1 ho => c_X11_lend (zla E) Z F σ b0 b1 b2 r σ1 ho) wz_1351 hk rfl rfl wz_1353 wz_1352 wz_1354 wz_12 (by decide +kernel) rfl (by decide) hh hd hst8 kk
theorem zk_L_45 (C : zCx E cc RL nL ret Z h) (F : Nat) {b0 : Int32} {b1 : Int32} {b2 : Int32} (hk : 0 < zN 0) (hh : 2 + 1 ≤ h) (hst8 : (st.map fun v => v.category).sum ≤ 8) (hd : decode cc pc = .ok (.invokevirtual 45, 3)) {g : Int32 → zMem → Option (α × zMem)} (kk : ∀ (r : Int32) (σ1 : zMem), zKO E nL Z QQ (pc + 3) L (.int r :: st) σ1 (g r σ1)) : zKO E nL Z QQ pc L (.int b2 :: .int b1 :: .int b0 :: .ref (zad Z 0 0) :: st) σ (zb (f_X10_lend F σ b0 b1 b2) g) :=
  zr_callVI (As := [.int b0, .int b1, .int b2]) (ia := 3) C (fun r σ1 ho => c_X10_lend (zla E) Z F σ b0 b1 b2 r σ1 ho) wz_499 hk rfl rfl wz_501 wz_500 wz_502 wz_1 (by decide +kernel) rfl (by decide) hh hd hst8 kk
theorem zk_L_52 (C : zCx E cc RL nL ret Z h) (F : Nat) {b0 : Int32} {b1 : Int32} (hk : 0 < zN 60) (hh : 3 + 1 ≤ h) (hst8 : (st.map fun v => v.category).sum ≤ 8) (hd : decode cc pc = .ok (.invokevirtual 52, 3)) {g : Int32 → zMem → Option (α × zMem)} (kk : ∀ (r : Int32) (σ1 : zMem), zKO E nL Z QQ (pc + 3) L (.int r :: st) σ1 (g r σ1)) : zKO E nL Z QQ pc L (.int b1 :: .int b0 :: .ref (zad Z 60 0) :: st) σ (zb (f_X11_leave F σ b0 b1) g) :=
  zr_callVI (As := [.int b0, .int b1]) (ia := 2) C (fun r σ1 ho => c_X11_leave (zla E) Z F σ b0 b1 r σ1 ho) wz_1355 hk rfl rfl wz_1357 wz_1356 wz_1358 wz_12 (by decide +kernel) rfl (by decide) hh hd hst8 kk
theorem zk_L_49 (C : zCx E cc RL nL ret Z h) (F : Nat) {b0 : Int32} {b1 : Int32} (hk : 0 < zN 0) (hh : 2 + 1 ≤ h) (hst8 : (st.map fun v => v.category).sum ≤ 8) (hd : decode cc pc = .ok (.invokevirtual 49, 3)) {g : Int32 → zMem → Option (α × zMem)} (kk : ∀ (r : Int32) (σ1 : zMem), zKO E nL Z QQ (pc + 3) L (.int r :: st) σ1 (g r σ1)) : zKO E nL Z QQ pc L (.int b1 :: .int b0 :: .ref (zad Z 0 0) :: st) σ (zb (f_X10_leave F σ b0 b1) g) :=
  zr_callVI (As := [.int b0, .int b1]) (ia := 2) C (fun r σ1 ho => c_X10_leave (zla E) Z F σ b0 b1 r σ1 ho) wz_503 hk rfl rfl wz_505 wz_504 wz_506 wz_1 (by decide +kernel) rfl (by decide) hh hd hst8 kk
theorem zk_L_56 (C : zCx E cc RL nL ret Z h) (F : Nat) {b0 : Int32} {b1 : Int32} (hk : 0 < zN 60) (hh : 3 + 1 ≤ h) (hst8 : (st.map fun v => v.category).sum ≤ 8) (hd : decode cc pc = .ok (.invokevirtual 56, 3)) {g : Int32 → zMem → Option (α × zMem)} (kk : ∀ (r : Int32) (σ1 : zMem), zKO E nL Z QQ (pc + 3) L (.int r :: st) σ1 (g r σ1)) : zKO E nL Z QQ pc L (.int b1 :: .int b0 :: .ref (zad Z 60 0) :: st) σ (zb (f_X11_rightOf F σ b0 b1) g) :=
  zr_callVI (As := [.int b0, .int b1]) (ia := 2) C (fun r σ1 ho => c_X11_rightOf (zla E) Z F σ b0 b1 r σ1 ho) wz_1359 hk rfl rfl wz_1361 wz_1360 wz_1362 wz_12 (by decide +kernel) rfl (by decide) hh hd hst8 kk
theorem zk_L_53 (C : zCx E cc RL nL ret Z h) (F : Nat) {b0 : Int32} {b1 : Int32} (hk : 0 < zN 0) (hh : 3 + 1 ≤ h) (hst8 : (st.map fun v => v.category).sum ≤ 8) (hd : decode cc pc = .ok (.invokevirtual 53, 3)) {g : Int32 → zMem → Option (α × zMem)} (kk : ∀ (r : Int32) (σ1 : zMem), zKO E nL Z QQ (pc + 3) L (.int r :: st) σ1 (g r σ1)) : zKO E nL Z QQ pc L (.int b1 :: .int b0 :: .ref (zad Z 0 0) :: st) σ (zb (f_X10_rightOf F σ b0 b1) g) :=
  zr_callVI (As := [.int b0, .int b1]) (ia := 2) C (fun r σ1 ho => c_X10_rightOf (zla E) Z F σ b0 b1 r σ1 ho) wz_507 hk rfl rfl wz_509 wz_508 wz_510 wz_1 (by decide +kernel) rfl (by decide) hh hd hst8 kk
theorem zk_L_60 (C : zCx E cc RL nL ret Z h) (F : Nat) {b0 : Int32} {b1 : Int32} (hk : 0 < zN 60) (hh : 4 + 1 ≤ h) (hst8 : (st.map fun v => v.category).sum ≤ 8) (hd : decode cc pc = .ok (.invokevirtual 60, 3)) {g : Int32 → zMem → Option (α × zMem)} (kk : ∀ (r : Int32) (σ1 : zMem), zKO E nL Z QQ (pc + 3) L (.int r :: st) σ1 (g r σ1)) : zKO E nL Z QQ pc L (.int b1 :: .int b0 :: .ref (zad Z 60 0) :: st) σ (zb (f_X11_parts F σ b0 b1) g) :=
  zr_callVI (As := [.int b0, .int b1]) (ia := 2) C (fun r σ1 ho => c_X11_parts (zla E) Z F σ b0 b1 r σ1 ho) wz_1367 hk rfl rfl wz_1369 wz_1368 wz_1370 wz_12 (by decide +kernel) rfl (by decide) hh hd hst8 kk
theorem zk_L_57 (C : zCx E cc RL nL ret Z h) (F : Nat) {b0 : Int32} {b1 : Int32} (hk : 0 < zN 0) (hh : 4 + 1 ≤ h) (hst8 : (st.map fun v => v.category).sum ≤ 8) (hd : decode cc pc = .ok (.invokevirtual 57, 3)) {g : Int32 → zMem → Option (α × zMem)} (kk : ∀ (r : Int32) (σ1 : zMem), zKO E nL Z QQ (pc + 3) L (.int r :: st) σ1 (g r σ1)) : zKO E nL Z QQ pc L (.int b1 :: .int b0 :: .ref (zad Z 0 0) :: st) σ (zb (f_X10_parts F σ b0 b1) g) :=
  zr_callVI (As := [.int b0, .int b1]) (ia := 2) C (fun r σ1 ho => c_X10_parts (zla E) Z F σ b0 b1 r σ1 ho) wz_515 hk rfl rfl wz_517 wz_516 wz_518 wz_1 (by decide +kernel) rfl (by decide) hh hd hst8 kk
theorem zk_L_64 (C : zCx E cc RL nL ret Z h) (F : Nat) {b0 : Int32} {b1 : Int32} (hk : 0 < zN 60) (hh : 2 + 1 ≤ h) (hst8 : (st.map fun v => v.category).sum ≤ 8) (hd : decode cc pc = .ok (.invokevirtual 64, 3)) {g : Int32 → zMem → Option (α × zMem)} (kk : ∀ (r : Int32) (σ1 : zMem), zKO E nL Z QQ (pc + 3) L (.int r :: st) σ1 (g r σ1)) : zKO E nL Z QQ pc L (.int b1 :: .int b0 :: .ref (zad Z 60 0) :: st) σ (zb (f_X11_feed F σ b0 b1) g) :=
  zr_callVI (As := [.int b0, .int b1]) (ia := 2) C (fun r σ1 ho => c_X11_feed (zla E) Z F σ b0 b1 r σ1 ho) wz_1375 hk rfl rfl wz_1377 wz_1376 wz_1378 wz_12 (by decide +kernel) rfl (by decide) hh hd hst8 kk
theorem zk_L_61 (C : zCx E cc RL nL ret Z h) (F : Nat) {b0 : Int32} {b1 : Int32} (hk : 0 < zN 0) (hh : 2 + 1 ≤ h) (hst8 : (st.map fun v => v.category).sum ≤ 8) (hd : decode cc pc = .ok (.invokevirtual 61, 3)) {g : Int32 → zMem → Option (α × zMem)} (kk : ∀ (r : Int32) (σ1 : zMem), zKO E nL Z QQ (pc + 3) L (.int r :: st) σ1 (g r σ1)) : zKO E nL Z QQ pc L (.int b1 :: .int b0 :: .ref (zad Z 0 0) :: st) σ (zb (f_X10_feed F σ b0 b1) g) :=
  zr_callVI (As := [.int b0, .int b1]) (ia := 2) C (fun r σ1 ho => c_X10_feed (zla E) Z F σ b0 b1 r σ1 ho) wz_528 hk rfl rfl wz_530 wz_529 wz_531 wz_1 (by decide +kernel) rfl (by decide) hh hd hst8 kk
theorem zk_L_68 (C : zCx E cc RL nL ret Z h) (F : Nat) {b0 : Int32} {b1 : Int32} (hk : 0 < zN 60) (hh : 10 + 1 ≤ h) (hst8 : (st.map fun v => v.category).sum ≤ 8) (hd : decode cc pc = .ok (.invokevirtual 68, 3)) {g : Int32 → zMem → Option (α × zMem)} (kk : ∀ (r : Int32) (σ1 : zMem), zKO E nL Z QQ (pc + 3) L (.int r :: st) σ1 (g r σ1)) : zKO E nL Z QQ pc L (.int b1 :: .int b0 :: .ref (zad Z 60 0) :: st) σ (zb (f_X11_vote F σ b0 b1) g) :=
  zr_callVI (As := [.int b0, .int b1]) (ia := 2) C (fun r σ1 ho => c_X11_vote (zla E) Z F σ b0 b1 r σ1 ho) wz_1379 hk rfl rfl wz_1381 wz_1380 wz_1382 wz_12 (by decide +kernel) rfl (by decide) hh hd hst8 kk
theorem zk_L_65 (C : zCx E cc RL nL ret Z h) (F : Nat) {b0 : Int32} {b1 : Int32} (hk : 0 < zN 0) (hh : 10 + 1 ≤ h) (hst8 : (st.map fun v => v.category).sum ≤ 8) (hd : decode cc pc = .ok (.invokevirtual 65, 3)) {g : Int32 → zMem → Option (α × zMem)} (kk : ∀ (r : Int32) (σ1 : zMem), zKO E nL Z QQ (pc + 3) L (.int r :: st) σ1 (g r σ1)) : zKO E nL Z QQ pc L (.int b1 :: .int b0 :: .ref (zad Z 0 0) :: st) σ (zb (f_X10_vote F σ b0 b1) g) :=
  zr_callVI (As := [.int b0, .int b1]) (ia := 2) C (fun r σ1 ho => c_X10_vote (zla E) Z F σ b0 b1 r σ1 ho) wz_536 hk rfl rfl wz_538 wz_537 wz_539 wz_1 (by decide +kernel) rfl (by decide) hh hd hst8 kk
theorem zk_L_73 (C : zCx E cc RL nL ret Z h) (F : Nat) {b0 : Int32} (hk : 0 < zN 60) (hh : 2 + 1 ≤ h) (hst8 : (st.map fun v => v.category).sum ≤ 8) (hd : decode cc pc = .ok (.invokevirtual 73, 3)) {g : Int32 → zMem → Option (α × zMem)} (kk : ∀ (r : Int32) (σ1 : zMem), zKO E nL Z QQ (pc + 3) L (.int r :: st) σ1 (g r σ1)) : zKO E nL Z QQ pc L (.int b0 :: .ref (zad Z 60 0) :: st) σ (zb (f_X11_voids F σ b0) g) :=
  zr_callVI (As := [.int b0]) (ia := 1) C (fun r σ1 ho => c_X11_voids (zla E) Z F σ b0 r σ1 ho) wz_1445 hk rfl rfl wz_1447 wz_1446 wz_1448 wz_12 (by decide +kernel) rfl (by decide) hh hd hst8 kk
theorem zk_L_69 (C : zCx E cc RL nL ret Z h) (F : Nat) {b0 : Int32} (hk : 0 < zN 0) (hh : 2 + 1 ≤ h) (hst8 : (st.map fun v => v.category).sum ≤ 8) (hd : decode cc pc = .ok (.invokevirtual 69, 3)) {g : Int32 → zMem → Option (α × zMem)} (kk : ∀ (r : Int32) (σ1 : zMem), zKO E nL Z QQ (pc + 3) L (.int r :: st) σ1 (g r σ1)) : zKO E nL Z QQ pc L (.int b0 :: .ref (zad Z 0 0) :: st) σ (zb (f_X10_voids F σ b0) g) :=
  zr_callVI (As := [.int b0]) (ia := 1) C (fun r σ1 ho => c_X10_voids (zla E) Z F σ b0 r σ1 ho) wz_643 hk rfl rfl wz_645 wz_644 wz_646 wz_1 (by decide +kernel) rfl (by decide) hh hd hst8 kk
theorem zk_L_77 (C : zCx E cc RL nL ret Z h) (F : Nat) {b0 : Int32} {b1 : Int32} {b2 : Int32} {b3 : Int32} (hk : 0 < zN 60) (hh : 6 + 1 ≤ h) (hst8 : (st.map fun v => v.category).sum ≤ 8) (hd : decode cc pc = .ok (.invokevirtual 77, 3)) {g : Int32 → zMem → Option (α × zMem)} (kk : ∀ (r : Int32) (σ1 : zMem), zKO E nL Z QQ (pc + 3) L (.int r :: st) σ1 (g r σ1)) : zKO E nL Z QQ pc L (.int b3 :: .int b2 :: .int b1 :: .int b0 :: .ref (zad Z 60 0) :: st) σ (zb (f_X11_value F σ b0 b1 b2 b3) g) :=
  zr_callVI (As := [.int b0, .int b1, .int b2, .int b3]) (ia := 4) C (fun r σ1 ho => c_X11_value (zla E) Z F σ b0 b1 b2 b3 r σ1 ho) wz_1450 hk rfl rfl wz_1452 wz_1451 wz_1453 wz_12 (by decide +kernel) rfl (by decide) hh hd hst8 kk
theorem zk_L_74 (C : zCx E cc RL nL ret Z h) (F : Nat) {b0 : Int32} {b1 : Int32} {b2 : Int32} {b3 : Int32} (hk : 0 < zN 0) (hh : 4 + 1 ≤ h) (hst8 : (st.map fun v => v.category).sum ≤ 8) (hd : decode cc pc = .ok (.invokevirtual 74, 3)) {g : Int32 → zMem → Option (α × zMem)} (kk : ∀ (r : Int32) (σ1 : zMem), zKO E nL Z QQ (pc + 3) L (.int r :: st) σ1 (g r σ1)) : zKO E nL Z QQ pc L (.int b3 :: .int b2 :: .int b1 :: .int b0 :: .ref (zad Z 0 0) :: st) σ (zb (f_X10_value F σ b0 b1 b2 b3) g) :=
  zr_callVI (As := [.int b0, .int b1, .int b2, .int b3]) (ia := 4) C (fun r σ1 ho => c_X10_value (zla E) Z F σ b0 b1 b2 b3 r σ1 ho) wz_651 hk rfl rfl wz_653 wz_652 wz_654 wz_1 (by decide +kernel) rfl (by decide) hh hd hst8 kk
theorem zk_L_81 (C : zCx E cc RL nL ret Z h) (F : Nat) {b0 : Int32} {b1 : Int32} {b2 : Int32} {b3 : Int32} (hk : 0 < zN 60) (hh : 5 + 1 ≤ h) (hst8 : (st.map fun v => v.category).sum ≤ 8) (hd : decode cc pc = .ok (.invokevirtual 81, 3)) {g : Int32 → zMem → Option (α × zMem)} (kk : ∀ (r : Int32) (σ1 : zMem), zKO E nL Z QQ (pc + 3) L (.int r :: st) σ1 (g r σ1)) : zKO E nL Z QQ pc L (.int b3 :: .int b2 :: .int b1 :: .int b0 :: .ref (zad Z 60 0) :: st) σ (zb (f_X11_why F σ b0 b1 b2 b3) g) :=
  zr_callVI (As := [.int b0, .int b1, .int b2, .int b3]) (ia := 4) C (fun r σ1 ho => c_X11_why (zla E) Z F σ b0 b1 b2 b3 r σ1 ho) wz_1480 hk rfl rfl wz_1482 wz_1481 wz_1483 wz_12 (by decide +kernel) rfl (by decide) hh hd hst8 kk
theorem zk_L_78 (C : zCx E cc RL nL ret Z h) (F : Nat) {b0 : Int32} {b1 : Int32} {b2 : Int32} {b3 : Int32} (hk : 0 < zN 0) (hh : 4 + 1 ≤ h) (hst8 : (st.map fun v => v.category).sum ≤ 8) (hd : decode cc pc = .ok (.invokevirtual 78, 3)) {g : Int32 → zMem → Option (α × zMem)} (kk : ∀ (r : Int32) (σ1 : zMem), zKO E nL Z QQ (pc + 3) L (.int r :: st) σ1 (g r σ1)) : zKO E nL Z QQ pc L (.int b3 :: .int b2 :: .int b1 :: .int b0 :: .ref (zad Z 0 0) :: st) σ (zb (f_X10_why F σ b0 b1 b2 b3) g) :=
  zr_callVI (As := [.int b0, .int b1, .int b2, .int b3]) (ia := 4) C (fun r σ1 ho => c_X10_why (zla E) Z F σ b0 b1 b2 b3 r σ1 ho) wz_683 hk rfl rfl wz_685 wz_684 wz_686 wz_1 (by decide +kernel) rfl (by decide) hh hd hst8 kk
theorem zk_L_85 (C : zCx E cc RL nL ret Z h) (F : Nat) {b0 : Int32} {b1 : Int32} {b2 : Int32} (hk : 0 < zN 60) (hh : 3 + 1 ≤ h) (hst8 : (st.map fun v => v.category).sum ≤ 8) (hd : decode cc pc = .ok (.invokevirtual 85, 3)) {g : Int32 → zMem → Option (α × zMem)} (kk : ∀ (r : Int32) (σ1 : zMem), zKO E nL Z QQ (pc + 3) L (.int r :: st) σ1 (g r σ1)) : zKO E nL Z QQ pc L (.int b2 :: .int b1 :: .int b0 :: .ref (zad Z 60 0) :: st) σ (zb (f_X11_weather F σ b0 b1 b2) g) :=
  zr_callVI (As := [.int b0, .int b1, .int b2]) (ia := 3) C (fun r σ1 ho => c_X11_weather (zla E) Z F σ b0 b1 b2 r σ1 ho) wz_1484 hk rfl rfl wz_1486 wz_1485 wz_1487 wz_12 (by decide +kernel) rfl (by decide) hh hd hst8 kk
theorem zk_L_82 (C : zCx E cc RL nL ret Z h) (F : Nat) {b0 : Int32} {b1 : Int32} {b2 : Int32} (hk : 0 < zN 0) (hh : 2 + 1 ≤ h) (hst8 : (st.map fun v => v.category).sum ≤ 8) (hd : decode cc pc = .ok (.invokevirtual 82, 3)) {g : Int32 → zMem → Option (α × zMem)} (kk : ∀ (r : Int32) (σ1 : zMem), zKO E nL Z QQ (pc + 3) L (.int r :: st) σ1 (g r σ1)) : zKO E nL Z QQ pc L (.int b2 :: .int b1 :: .int b0 :: .ref (zad Z 0 0) :: st) σ (zb (f_X10_weather F σ b0 b1 b2) g) :=
  zr_callVI (As := [.int b0, .int b1, .int b2]) (ia := 3) C (fun r σ1 ho => c_X10_weather (zla E) Z F σ b0 b1 b2 r σ1 ho) wz_687 hk rfl rfl wz_689 wz_688 wz_690 wz_1 (by decide +kernel) rfl (by decide) hh hd hst8 kk
theorem zk_L_90 (C : zCx E cc RL nL ret Z h) (F : Nat) {b0 : Int32} {b1 : Int32} {b2 : Int32} {b3 : Int32} {b4 : Int32} (hk : 0 < zN 60) (hh : 3 + 1 ≤ h) (hst8 : (st.map fun v => v.category).sum ≤ 8) (hd : decode cc pc = .ok (.invokevirtual 90, 3)) {g : Int32 → zMem → Option (α × zMem)} (kk : ∀ (r : Int32) (σ1 : zMem), zKO E nL Z QQ (pc + 3) L (.int r :: st) σ1 (g r σ1)) : zKO E nL Z QQ pc L (.int b4 :: .int b3 :: .int b2 :: .int b1 :: .int b0 :: .ref (zad Z 60 0) :: st) σ (zb (f_X11_sky F σ b0 b1 b2 b3 b4) g) :=
  zr_callVI (As := [.int b0, .int b1, .int b2, .int b3, .int b4]) (ia := 5) C (fun r σ1 ho => c_X11_sky (zla E) Z F σ b0 b1 b2 b3 b4 r σ1 ho) wz_1491 hk rfl rfl wz_1493 wz_1492 wz_1494 wz_12 (by decide +kernel) rfl (by decide) hh hd hst8 kk
theorem zk_L_86 (C : zCx E cc RL nL ret Z h) (F : Nat) {b0 : Int32} {b1 : Int32} {b2 : Int32} {b3 : Int32} {b4 : Int32} (hk : 0 < zN 0) (hh : 2 + 1 ≤ h) (hst8 : (st.map fun v => v.category).sum ≤ 8) (hd : decode cc pc = .ok (.invokevirtual 86, 3)) {g : Int32 → zMem → Option (α × zMem)} (kk : ∀ (r : Int32) (σ1 : zMem), zKO E nL Z QQ (pc + 3) L (.int r :: st) σ1 (g r σ1)) : zKO E nL Z QQ pc L (.int b4 :: .int b3 :: .int b2 :: .int b1 :: .int b0 :: .ref (zad Z 0 0) :: st) σ (zb (f_X10_sky F σ b0 b1 b2 b3 b4) g) :=
  zr_callVI (As := [.int b0, .int b1, .int b2, .int b3, .int b4]) (ia := 5) C (fun r σ1 ho => c_X10_sky (zla E) Z F σ b0 b1 b2 b3 b4 r σ1 ho) wz_705 hk rfl rfl wz_707 wz_706 wz_708 wz_1 (by decide +kernel) rfl (by decide) hh hd hst8 kk
theorem zk_L_94 (C : zCx E cc RL nL ret Z h) (F : Nat) {b0 : Int32} {b1 : Int32} (hk : 0 < zN 60) (hh : 2 + 1 ≤ h) (hst8 : (st.map fun v => v.category).sum ≤ 8) (hd : decode cc pc = .ok (.invokevirtual 94, 3)) {g : Int32 → zMem → Option (α × zMem)} (kk : ∀ (r : Int32) (σ1 : zMem), zKO E nL Z QQ (pc + 3) L (.int r :: st) σ1 (g r σ1)) : zKO E nL Z QQ pc L (.int b1 :: .int b0 :: .ref (zad Z 60 0) :: st) σ (zb (f_X11_skyOf F σ b0 b1) g) :=
  zr_callVI (As := [.int b0, .int b1]) (ia := 2) C (fun r σ1 ho => c_X11_skyOf (zla E) Z F σ b0 b1 r σ1 ho) wz_1495 hk rfl rfl wz_1497 wz_1496 wz_1498 wz_12 (by decide +kernel) rfl (by decide) hh hd hst8 kk
theorem zk_L_91 (C : zCx E cc RL nL ret Z h) (F : Nat) {b0 : Int32} {b1 : Int32} (hk : 0 < zN 0) (hh : 2 + 1 ≤ h) (hst8 : (st.map fun v => v.category).sum ≤ 8) (hd : decode cc pc = .ok (.invokevirtual 91, 3)) {g : Int32 → zMem → Option (α × zMem)} (kk : ∀ (r : Int32) (σ1 : zMem), zKO E nL Z QQ (pc + 3) L (.int r :: st) σ1 (g r σ1)) : zKO E nL Z QQ pc L (.int b1 :: .int b0 :: .ref (zad Z 0 0) :: st) σ (zb (f_X10_skyOf F σ b0 b1) g) :=
  zr_callVI (As := [.int b0, .int b1]) (ia := 2) C (fun r σ1 ho => c_X10_skyOf (zla E) Z F σ b0 b1 r σ1 ho) wz_718 hk rfl rfl wz_720 wz_719 wz_721 wz_1 (by decide +kernel) rfl (by decide) hh hd hst8 kk
theorem zk_L_98 (C : zCx E cc RL nL ret Z h) (F : Nat) {b0 : Int32} {b1 : Int32} (hk : 0 < zN 60) (hh : 2 + 1 ≤ h) (hst8 : (st.map fun v => v.category).sum ≤ 8) (hd : decode cc pc = .ok (.invokevirtual 98, 3)) {g : Int32 → zMem → Option (α × zMem)} (kk : ∀ (r : Int32) (σ1 : zMem), zKO E nL Z QQ (pc + 3) L (.int r :: st) σ1 (g r σ1)) : zKO E nL Z QQ pc L (.int b1 :: .int b0 :: .ref (zad Z 60 0) :: st) σ (zb (f_X11_alp F σ b0 b1) g) :=
  zr_callVI (As := [.int b0, .int b1]) (ia := 2) C (fun r σ1 ho => c_X11_alp (zla E) Z F σ b0 b1 r σ1 ho) wz_1503 hk rfl rfl wz_1505 wz_1504 wz_1506 wz_12 (by decide +kernel) rfl (by decide) hh hd hst8 kk
theorem zk_L_95 (C : zCx E cc RL nL ret Z h) (F : Nat) {b0 : Int32} {b1 : Int32} (hk : 0 < zN 0) (hh : 2 + 1 ≤ h) (hst8 : (st.map fun v => v.category).sum ≤ 8) (hd : decode cc pc = .ok (.invokevirtual 95, 3)) {g : Int32 → zMem → Option (α × zMem)} (kk : ∀ (r : Int32) (σ1 : zMem), zKO E nL Z QQ (pc + 3) L (.int r :: st) σ1 (g r σ1)) : zKO E nL Z QQ pc L (.int b1 :: .int b0 :: .ref (zad Z 0 0) :: st) σ (zb (f_X10_alp F σ b0 b1) g) :=
  zr_callVI (As := [.int b0, .int b1]) (ia := 2) C (fun r σ1 ho => c_X10_alp (zla E) Z F σ b0 b1 r σ1 ho) wz_728 hk rfl rfl wz_730 wz_729 wz_731 wz_1 (by decide +kernel) rfl (by decide) hh hd hst8 kk
theorem zk_L_102 (C : zCx E cc RL nL ret Z h) (F : Nat) {b0 : Int32} {b1 : Int32} (hk : 0 < zN 60) (hh : 3 + 1 ≤ h) (hst8 : (st.map fun v => v.category).sum ≤ 8) (hd : decode cc pc = .ok (.invokevirtual 102, 3)) {g : Int32 → zMem → Option (α × zMem)} (kk : ∀ (r : Int32) (σ1 : zMem), zKO E nL Z QQ (pc + 3) L (.int r :: st) σ1 (g r σ1)) : zKO E nL Z QQ pc L (.int b1 :: .int b0 :: .ref (zad Z 60 0) :: st) σ (zb (f_X11_alpOf F σ b0 b1) g) :=
  zr_callVI (As := [.int b0, .int b1]) (ia := 2) C (fun r σ1 ho => c_X11_alpOf (zla E) Z F σ b0 b1 r σ1 ho) wz_1507 hk rfl rfl wz_1509 wz_1508 wz_1510 wz_12 (by decide +kernel) rfl (by decide) hh hd hst8 kk
theorem zk_L_99 (C : zCx E cc RL nL ret Z h) (F : Nat) {b0 : Int32} {b1 : Int32} (hk : 0 < zN 0) (hh : 2 + 1 ≤ h) (hst8 : (st.map fun v => v.category).sum ≤ 8) (hd : decode cc pc = .ok (.invokevirtual 99, 3)) {g : Int32 → zMem → Option (α × zMem)} (kk : ∀ (r : Int32) (σ1 : zMem), zKO E nL Z QQ (pc + 3) L (.int r :: st) σ1 (g r σ1)) : zKO E nL Z QQ pc L (.int b1 :: .int b0 :: .ref (zad Z 0 0) :: st) σ (zb (f_X10_alpOf F σ b0 b1) g) :=
  zr_callVI (As := [.int b0, .int b1]) (ia := 2) C (fun r σ1 ho => c_X10_alpOf (zla E) Z F σ b0 b1 r σ1 ho) wz_736 hk rfl rfl wz_738 wz_737 wz_739 wz_1 (by decide +kernel) rfl (by decide) hh hd hst8 kk
theorem zk_L_106 (C : zCx E cc RL nL ret Z h) (F : Nat) {b0 : Int32} {b1 : Int32} {b2 : Int32} (hk : 0 < zN 60) (hh : 8 + 1 ≤ h) (hst8 : (st.map fun v => v.category).sum ≤ 8) (hd : decode cc pc = .ok (.invokevirtual 106, 3)) {g : Int32 → zMem → Option (α × zMem)} (kk : ∀ (r : Int32) (σ1 : zMem), zKO E nL Z QQ (pc + 3) L (.int r :: st) σ1 (g r σ1)) : zKO E nL Z QQ pc L (.int b2 :: .int b1 :: .int b0 :: .ref (zad Z 60 0) :: st) σ (zb (f_X11_drive F σ b0 b1 b2) g) :=
  zr_callVI (As := [.int b0, .int b1, .int b2]) (ia := 3) C (fun r σ1 ho => c_X11_drive (zla E) Z F σ b0 b1 b2 r σ1 ho) wz_1519 hk rfl rfl wz_1521 wz_1520 wz_1522 wz_12 (by decide +kernel) rfl (by decide) hh hd hst8 kk
theorem zk_L_103 (C : zCx E cc RL nL ret Z h) (F : Nat) {b0 : Int32} {b1 : Int32} {b2 : Int32} (hk : 0 < zN 0) (hh : 7 + 1 ≤ h) (hst8 : (st.map fun v => v.category).sum ≤ 8) (hd : decode cc pc = .ok (.invokevirtual 103, 3)) {g : Int32 → zMem → Option (α × zMem)} (kk : ∀ (r : Int32) (σ1 : zMem), zKO E nL Z QQ (pc + 3) L (.int r :: st) σ1 (g r σ1)) : zKO E nL Z QQ pc L (.int b2 :: .int b1 :: .int b0 :: .ref (zad Z 0 0) :: st) σ (zb (f_X10_drive F σ b0 b1 b2) g) :=
  zr_callVI (As := [.int b0, .int b1, .int b2]) (ia := 3) C (fun r σ1 ho => c_X10_drive (zla E) Z F σ b0 b1 b2 r σ1 ho) wz_748 hk rfl rfl wz_750 wz_749 wz_751 wz_1 (by decide +kernel) rfl (by decide) hh hd hst8 kk
theorem zk_L_110 (C : zCx E cc RL nL ret Z h) (F : Nat) {b0 : Int32} {b1 : Int32} {b2 : Int32} (hk : 0 < zN 60) (hh : 3 + 1 ≤ h) (hst8 : (st.map fun v => v.category).sum ≤ 8) (hd : decode cc pc = .ok (.invokevirtual 110, 3)) {g : Int32 → zMem → Option (α × zMem)} (kk : ∀ (r : Int32) (σ1 : zMem), zKO E nL Z QQ (pc + 3) L (.int r :: st) σ1 (g r σ1)) : zKO E nL Z QQ pc L (.int b2 :: .int b1 :: .int b0 :: .ref (zad Z 60 0) :: st) σ (zb (f_X11_home F σ b0 b1 b2) g) :=
  zr_callVI (As := [.int b0, .int b1, .int b2]) (ia := 3) C (fun r σ1 ho => c_X11_home (zla E) Z F σ b0 b1 b2 r σ1 ho) wz_1531 hk rfl rfl wz_1533 wz_1532 wz_1534 wz_12 (by decide +kernel) rfl (by decide) hh hd hst8 kk
theorem zk_L_107 (C : zCx E cc RL nL ret Z h) (F : Nat) {b0 : Int32} {b1 : Int32} {b2 : Int32} (hk : 0 < zN 0) (hh : 2 + 1 ≤ h) (hst8 : (st.map fun v => v.category).sum ≤ 8) (hd : decode cc pc = .ok (.invokevirtual 107, 3)) {g : Int32 → zMem → Option (α × zMem)} (kk : ∀ (r : Int32) (σ1 : zMem), zKO E nL Z QQ (pc + 3) L (.int r :: st) σ1 (g r σ1)) : zKO E nL Z QQ pc L (.int b2 :: .int b1 :: .int b0 :: .ref (zad Z 0 0) :: st) σ (zb (f_X10_home F σ b0 b1 b2) g) :=
  zr_callVI (As := [.int b0, .int b1, .int b2]) (ia := 3) C (fun r σ1 ho => c_X10_home (zla E) Z F σ b0 b1 b2 r σ1 ho) wz_768 hk rfl rfl wz_770 wz_769 wz_771 wz_1 (by decide +kernel) rfl (by decide) hh hd hst8 kk
theorem zk_L_114 (C : zCx E cc RL nL ret Z h) (F : Nat) {b0 : Int32} {b1 : Int32} (hk : 0 < zN 60) (hh : 2 + 1 ≤ h) (hst8 : (st.map fun v => v.category).sum ≤ 8) (hd : decode cc pc = .ok (.invokevirtual 114, 3)) {g : Int32 → zMem → Option (α × zMem)} (kk : ∀ (r : Int32) (σ1 : zMem), zKO E nL Z QQ (pc + 3) L (.int r :: st) σ1 (g r σ1)) : zKO E nL Z QQ pc L (.int b1 :: .int b0 :: .ref (zad Z 60 0) :: st) σ (zb (f_X11_book F σ b0 b1) g) :=
  zr_callVI (As := [.int b0, .int b1]) (ia := 2) C (fun r σ1 ho => c_X11_book (zla E) Z F σ b0 b1 r σ1 ho) wz_1535 hk rfl rfl wz_1537 wz_1536 wz_1538 wz_12 (by decide +kernel) rfl (by decide) hh hd hst8 kk
theorem zk_L_111 (C : zCx E cc RL nL ret Z h) (F : Nat) {b0 : Int32} {b1 : Int32} (hk : 0 < zN 0) (hh : 1 + 1 ≤ h) (hst8 : (st.map fun v => v.category).sum ≤ 8) (hd : decode cc pc = .ok (.invokevirtual 111, 3)) {g : Int32 → zMem → Option (α × zMem)} (kk : ∀ (r : Int32) (σ1 : zMem), zKO E nL Z QQ (pc + 3) L (.int r :: st) σ1 (g r σ1)) : zKO E nL Z QQ pc L (.int b1 :: .int b0 :: .ref (zad Z 0 0) :: st) σ (zb (f_X10_book F σ b0 b1) g) :=
  zr_callVI (As := [.int b0, .int b1]) (ia := 2) C (fun r σ1 ho => c_X10_book (zla E) Z F σ b0 b1 r σ1 ho) wz_772 hk rfl rfl wz_774 wz_773 wz_775 wz_1 (by decide +kernel) rfl (by decide) hh hd hst8 kk
theorem zk_L_118 (C : zCx E cc RL nL ret Z h) (F : Nat) {b0 : Int32} (hk : 0 < zN 60) (hh : 9 + 1 ≤ h) (hst8 : (st.map fun v => v.category).sum ≤ 8) (hd : decode cc pc = .ok (.invokevirtual 118, 3)) {g : Int32 → zMem → Option (α × zMem)} (kk : ∀ (r : Int32) (σ1 : zMem), zKO E nL Z QQ (pc + 3) L (.int r :: st) σ1 (g r σ1)) : zKO E nL Z QQ pc L (.int b0 :: .ref (zad Z 60 0) :: st) σ (zb (f_X11_days F σ b0) g) :=
  zr_callVI (As := [.int b0]) (ia := 1) C (fun r σ1 ho => c_X11_days (zla E) Z F σ b0 r σ1 ho) wz_1539 hk rfl rfl wz_1541 wz_1540 wz_1542 wz_12 (by decide +kernel) rfl (by decide) hh hd hst8 kk
theorem zk_L_115 (C : zCx E cc RL nL ret Z h) (F : Nat) {b0 : Int32} (hk : 0 < zN 0) (hh : 7 + 1 ≤ h) (hst8 : (st.map fun v => v.category).sum ≤ 8) (hd : decode cc pc = .ok (.invokevirtual 115, 3)) {g : Int32 → zMem → Option (α × zMem)} (kk : ∀ (r : Int32) (σ1 : zMem), zKO E nL Z QQ (pc + 3) L (.int r :: st) σ1 (g r σ1)) : zKO E nL Z QQ pc L (.int b0 :: .ref (zad Z 0 0) :: st) σ (zb (f_X10_days F σ b0) g) :=
  zr_callVI (As := [.int b0]) (ia := 1) C (fun r σ1 ho => c_X10_days (zla E) Z F σ b0 r σ1 ho) wz_776 hk rfl rfl wz_778 wz_777 wz_779 wz_1 (by decide +kernel) rfl (by decide) hh hd hst8 kk
theorem zk_L_122 (C : zCx E cc RL nL ret Z h) (F : Nat) {b0 : Int32} (hk : 0 < zN 60) (hh : 2 + 1 ≤ h) (hst8 : (st.map fun v => v.category).sum ≤ 8) (hd : decode cc pc = .ok (.invokevirtual 122, 3)) {g : Int32 → zMem → Option (α × zMem)} (kk : ∀ (r : Int32) (σ1 : zMem), zKO E nL Z QQ (pc + 3) L (.int r :: st) σ1 (g r σ1)) : zKO E nL Z QQ pc L (.int b0 :: .ref (zad Z 60 0) :: st) σ (zb (f_X11_slope F σ b0) g) :=
  zr_callVI (As := [.int b0]) (ia := 1) C (fun r σ1 ho => c_X11_slope (zla E) Z F σ b0 r σ1 ho) wz_1590 hk rfl rfl wz_1592 wz_1591 wz_1593 wz_12 (by decide +kernel) rfl (by decide) hh hd hst8 kk
theorem zk_L_119 (C : zCx E cc RL nL ret Z h) (F : Nat) {b0 : Int32} (hk : 0 < zN 0) (hh : 1 + 1 ≤ h) (hst8 : (st.map fun v => v.category).sum ≤ 8) (hd : decode cc pc = .ok (.invokevirtual 119, 3)) {g : Int32 → zMem → Option (α × zMem)} (kk : ∀ (r : Int32) (σ1 : zMem), zKO E nL Z QQ (pc + 3) L (.int r :: st) σ1 (g r σ1)) : zKO E nL Z QQ pc L (.int b0 :: .ref (zad Z 0 0) :: st) σ (zb (f_X10_slope F σ b0) g) :=
  zr_callVI (As := [.int b0]) (ia := 1) C (fun r σ1 ho => c_X10_slope (zla E) Z F σ b0 r σ1 ho) wz_857 hk rfl rfl wz_859 wz_858 wz_860 wz_1 (by decide +kernel) rfl (by decide) hh hd hst8 kk
theorem zk_L_126 (C : zCx E cc RL nL ret Z h) (F : Nat) {b0 : Int32} {b1 : Int32} (hk : 0 < zN 60) (hh : 3 + 1 ≤ h) (hst8 : (st.map fun v => v.category).sum ≤ 8) (hd : decode cc pc = .ok (.invokevirtual 126, 3)) {g : Int32 → zMem → Option (α × zMem)} (kk : ∀ (r : Int32) (σ1 : zMem), zKO E nL Z QQ (pc + 3) L (.int r :: st) σ1 (g r σ1)) : zKO E nL Z QQ pc L (.int b1 :: .int b0 :: .ref (zad Z 60 0) :: st) σ (zb (f_X11_slopeOf F σ b0 b1) g) :=
  zr_callVI (As := [.int b0, .int b1]) (ia := 2) C (fun r σ1 ho => c_X11_slopeOf (zla E) Z F σ b0 b1 r σ1 ho) wz_1594 hk rfl rfl wz_1596 wz_1595 wz_1597 wz_12 (by decide +kernel) rfl (by decide) hh hd hst8 kk
theorem zk_L_123 (C : zCx E cc RL nL ret Z h) (F : Nat) {b0 : Int32} {b1 : Int32} (hk : 0 < zN 0) (hh : 3 + 1 ≤ h) (hst8 : (st.map fun v => v.category).sum ≤ 8) (hd : decode cc pc = .ok (.invokevirtual 123, 3)) {g : Int32 → zMem → Option (α × zMem)} (kk : ∀ (r : Int32) (σ1 : zMem), zKO E nL Z QQ (pc + 3) L (.int r :: st) σ1 (g r σ1)) : zKO E nL Z QQ pc L (.int b1 :: .int b0 :: .ref (zad Z 0 0) :: st) σ (zb (f_X10_slopeOf F σ b0 b1) g) :=
  zr_callVI (As := [.int b0, .int b1]) (ia := 2) C (fun r σ1 ho => c_X10_slopeOf (zla E) Z F σ b0 b1 r σ1 ho) wz_861 hk rfl rfl wz_863 wz_862 wz_864 wz_1 (by decide +kernel) rfl (by decide) hh hd hst8 kk
theorem zk_L_140 (C : zCx E cc RL nL ret Z h) (F : Nat)  (hk : 0 < zN 60) (hh : 1 + 1 ≤ h) (hst8 : (st.map fun v => v.category).sum ≤ 8) (hd : decode cc pc = .ok (.invokevirtual 140, 3)) {g : Int32 → zMem → Option (α × zMem)} (kk : ∀ (r : Int32) (σ1 : zMem), zKO E nL Z QQ (pc + 3) L (.int r :: st) σ1 (g r σ1)) : zKO E nL Z QQ pc L (.ref (zad Z 60 0) :: st) σ (zb (f_X11_measure F σ) g) :=
  zr_callVI (As := []) (ia := 0) C (fun r σ1 ho => c_X11_measure (zla E) Z F σ r σ1 ho) wz_1614 hk rfl rfl wz_1616 wz_1615 wz_1617 wz_12 (by decide +kernel) rfl (by decide) hh hd hst8 kk
theorem zk_L_137 (C : zCx E cc RL nL ret Z h) (F : Nat)  (hk : 0 < zN 0) (hh : 1 + 1 ≤ h) (hst8 : (st.map fun v => v.category).sum ≤ 8) (hd : decode cc pc = .ok (.invokevirtual 137, 3)) {g : Int32 → zMem → Option (α × zMem)} (kk : ∀ (r : Int32) (σ1 : zMem), zKO E nL Z QQ (pc + 3) L (.int r :: st) σ1 (g r σ1)) : zKO E nL Z QQ pc L (.ref (zad Z 0 0) :: st) σ (zb (f_X10_measure F σ) g) :=
  zr_callVI (As := []) (ia := 0) C (fun r σ1 ho => c_X10_measure (zla E) Z F σ r σ1 ho) wz_887 hk rfl rfl wz_889 wz_888 wz_890 wz_1 (by decide +kernel) rfl (by decide) hh hd hst8 kk
theorem zk_L_144 (C : zCx E cc RL nL ret Z h) (F : Nat) {b0 : Int32} (hk : 0 < zN 60) (hh : 2 + 1 ≤ h) (hst8 : (st.map fun v => v.category).sum ≤ 8) (hd : decode cc pc = .ok (.invokevirtual 144, 3)) {g : Int32 → zMem → Option (α × zMem)} (kk : ∀ (r : Int32) (σ1 : zMem), zKO E nL Z QQ (pc + 3) L (.int r :: st) σ1 (g r σ1)) : zKO E nL Z QQ pc L (.int b0 :: .ref (zad Z 60 0) :: st) σ (zb (f_X11_cheese F σ b0) g) :=
  zr_callVI (As := [.int b0]) (ia := 1) C (fun r σ1 ho => c_X11_cheese (zla E) Z F σ b0 r σ1 ho) wz_1618 hk rfl rfl wz_1620 wz_1619 wz_1621 wz_12 (by decide +kernel) rfl (by decide) hh hd hst8 kk
theorem zk_L_141 (C : zCx E cc RL nL ret Z h) (F : Nat) {b0 : Int32} (hk : 0 < zN 0) (hh : 3 + 1 ≤ h) (hst8 : (st.map fun v => v.category).sum ≤ 8) (hd : decode cc pc = .ok (.invokevirtual 141, 3)) {g : Int32 → zMem → Option (α × zMem)} (kk : ∀ (r : Int32) (σ1 : zMem), zKO E nL Z QQ (pc + 3) L (.int r :: st) σ1 (g r σ1)) : zKO E nL Z QQ pc L (.int b0 :: .ref (zad Z 0 0) :: st) σ (zb (f_X10_cheese F σ b0) g) :=
  zr_callVI (As := [.int b0]) (ia := 1) C (fun r σ1 ho => c_X10_cheese (zla E) Z F σ b0 r σ1 ho) wz_891 hk rfl rfl wz_893 wz_892 wz_894 wz_1 (by decide +kernel) rfl (by decide) hh hd hst8 kk
theorem zk_L_148 (C : zCx E cc RL nL ret Z h) (F : Nat) {b0 : Int32} (hk : 0 < zN 60) (hh : 3 + 1 ≤ h) (hst8 : (st.map fun v => v.category).sum ≤ 8) (hd : decode cc pc = .ok (.invokevirtual 148, 3)) {g : Int32 → zMem → Option (α × zMem)} (kk : ∀ (r : Int32) (σ1 : zMem), zKO E nL Z QQ (pc + 3) L (.int r :: st) σ1 (g r σ1)) : zKO E nL Z QQ pc L (.int b0 :: .ref (zad Z 60 0) :: st) σ (zb (f_X11_rest F σ b0) g) :=
  zr_callVI (As := [.int b0]) (ia := 1) C (fun r σ1 ho => c_X11_rest (zla E) Z F σ b0 r σ1 ho) wz_1627 hk rfl rfl wz_1629 wz_1628 wz_1630 wz_12 (by decide +kernel) rfl (by decide) hh hd hst8 kk
theorem zk_L_145 (C : zCx E cc RL nL ret Z h) (F : Nat) {b0 : Int32} (hk : 0 < zN 0) (hh : 2 + 1 ≤ h) (hst8 : (st.map fun v => v.category).sum ≤ 8) (hd : decode cc pc = .ok (.invokevirtual 145, 3)) {g : Int32 → zMem → Option (α × zMem)} (kk : ∀ (r : Int32) (σ1 : zMem), zKO E nL Z QQ (pc + 3) L (.int r :: st) σ1 (g r σ1)) : zKO E nL Z QQ pc L (.int b0 :: .ref (zad Z 0 0) :: st) σ (zb (f_X10_rest F σ b0) g) :=
  zr_callVI (As := [.int b0]) (ia := 1) C (fun r σ1 ho => c_X10_rest (zla E) Z F σ b0 r σ1 ho) wz_913 hk rfl rfl wz_915 wz_914 wz_916 wz_1 (by decide +kernel) rfl (by decide) hh hd hst8 kk
theorem zk_L_152 (C : zCx E cc RL nL ret Z h) (F : Nat) {b0 : Int32} {b1 : Int32} (hk : 0 < zN 60) (hh : 7 + 1 ≤ h) (hst8 : (st.map fun v => v.category).sum ≤ 8) (hd : decode cc pc = .ok (.invokevirtual 152, 3)) {g : Int32 → zMem → Option (α × zMem)} (kk : ∀ (r : Int32) (σ1 : zMem), zKO E nL Z QQ (pc + 3) L (.int r :: st) σ1 (g r σ1)) : zKO E nL Z QQ pc L (.int b1 :: .int b0 :: .ref (zad Z 60 0) :: st) σ (zb (f_X11_fell F σ b0 b1) g) :=
  zr_callVI (As := [.int b0, .int b1]) (ia := 2) C (fun r σ1 ho => c_X11_fell (zla E) Z F σ b0 b1 r σ1 ho) wz_1632 hk rfl rfl wz_1634 wz_1633 wz_1635 wz_12 (by decide +kernel) rfl (by decide) hh hd hst8 kk
theorem zk_L_149 (C : zCx E cc RL nL ret Z h) (F : Nat) {b0 : Int32} {b1 : Int32} (hk : 0 < zN 0) (hh : 6 + 1 ≤ h) (hst8 : (st.map fun v => v.category).sum ≤ 8) (hd : decode cc pc = .ok (.invokevirtual 149, 3)) {g : Int32 → zMem → Option (α × zMem)} (kk : ∀ (r : Int32) (σ1 : zMem), zKO E nL Z QQ (pc + 3) L (.int r :: st) σ1 (g r σ1)) : zKO E nL Z QQ pc L (.int b1 :: .int b0 :: .ref (zad Z 0 0) :: st) σ (zb (f_X10_fell F σ b0 b1) g) :=
  zr_callVI (As := [.int b0, .int b1]) (ia := 2) C (fun r σ1 ho => c_X10_fell (zla E) Z F σ b0 b1 r σ1 ho) wz_918 hk rfl rfl wz_920 wz_919 wz_921 wz_1 (by decide +kernel) rfl (by decide) hh hd hst8 kk
theorem zk_L_156 (C : zCx E cc RL nL ret Z h) (F : Nat) {b0 : Int32} {b1 : Int32} {b2 : Int32} (hk : 0 < zN 60) (hh : 3 + 1 ≤ h) (hst8 : (st.map fun v => v.category).sum ≤ 8) (hd : decode cc pc = .ok (.invokevirtual 156, 3)) {g : Int32 → zMem → Option (α × zMem)} (kk : ∀ (r : Int32) (σ1 : zMem), zKO E nL Z QQ (pc + 3) L (.int r :: st) σ1 (g r σ1)) : zKO E nL Z QQ pc L (.int b2 :: .int b1 :: .int b0 :: .ref (zad Z 60 0) :: st) σ (zb (f_X11_channel F σ b0 b1 b2) g) :=
  zr_callVI (As := [.int b0, .int b1, .int b2]) (ia := 3) C (fun r σ1 ho => c_X11_channel (zla E) Z F σ b0 b1 b2 r σ1 ho) wz_1636 hk rfl rfl wz_1638 wz_1637 wz_1639 wz_12 (by decide +kernel) rfl (by decide) hh hd hst8 kk
theorem zk_L_153 (C : zCx E cc RL nL ret Z h) (F : Nat) {b0 : Int32} {b1 : Int32} {b2 : Int32} (hk : 0 < zN 0) (hh : 2 + 1 ≤ h) (hst8 : (st.map fun v => v.category).sum ≤ 8) (hd : decode cc pc = .ok (.invokevirtual 153, 3)) {g : Int32 → zMem → Option (α × zMem)} (kk : ∀ (r : Int32) (σ1 : zMem), zKO E nL Z QQ (pc + 3) L (.int r :: st) σ1 (g r σ1)) : zKO E nL Z QQ pc L (.int b2 :: .int b1 :: .int b0 :: .ref (zad Z 0 0) :: st) σ (zb (f_X10_channel F σ b0 b1 b2) g) :=
  zr_callVI (As := [.int b0, .int b1, .int b2]) (ia := 3) C (fun r σ1 ho => c_X10_channel (zla E) Z F σ b0 b1 b2 r σ1 ho) wz_931 hk rfl rfl wz_933 wz_932 wz_934 wz_1 (by decide +kernel) rfl (by decide) hh hd hst8 kk
theorem zk_L_160 (C : zCx E cc RL nL ret Z h) (F : Nat) {b0 : Int32} (hk : 0 < zN 60) (hh : 5 + 1 ≤ h) (hst8 : (st.map fun v => v.category).sum ≤ 8) (hd : decode cc pc = .ok (.invokevirtual 160, 3)) {g : Int32 → zMem → Option (α × zMem)} (kk : ∀ (r : Int32) (σ1 : zMem), zKO E nL Z QQ (pc + 3) L (.int r :: st) σ1 (g r σ1)) : zKO E nL Z QQ pc L (.int b0 :: .ref (zad Z 60 0) :: st) σ (zb (f_X11_hour F σ b0) g) :=
  zr_callVI (As := [.int b0]) (ia := 1) C (fun r σ1 ho => c_X11_hour (zla E) Z F σ b0 r σ1 ho) wz_1640 hk rfl rfl wz_1642 wz_1641 wz_1643 wz_12 (by decide +kernel) rfl (by decide) hh hd hst8 kk
theorem zk_L_157 (C : zCx E cc RL nL ret Z h) (F : Nat) {b0 : Int32} (hk : 0 < zN 0) (hh : 4 + 1 ≤ h) (hst8 : (st.map fun v => v.category).sum ≤ 8) (hd : decode cc pc = .ok (.invokevirtual 157, 3)) {g : Int32 → zMem → Option (α × zMem)} (kk : ∀ (r : Int32) (σ1 : zMem), zKO E nL Z QQ (pc + 3) L (.int r :: st) σ1 (g r σ1)) : zKO E nL Z QQ pc L (.int b0 :: .ref (zad Z 0 0) :: st) σ (zb (f_X10_hour F σ b0) g) :=
  zr_callVI (As := [.int b0]) (ia := 1) C (fun r σ1 ho => c_X10_hour (zla E) Z F σ b0 r σ1 ho) wz_935 hk rfl rfl wz_937 wz_936 wz_938 wz_1 (by decide +kernel) rfl (by decide) hh hd hst8 kk
theorem zk_L_164 (C : zCx E cc RL nL ret Z h) (F : Nat) {b0 : Int32} {b1 : Int32} {b2 : Int32} (hk : 0 < zN 60) (hh : 5 + 1 ≤ h) (hst8 : (st.map fun v => v.category).sum ≤ 8) (hd : decode cc pc = .ok (.invokevirtual 164, 3)) {g : Int32 → zMem → Option (α × zMem)} (kk : ∀ (r : Int32) (σ1 : zMem), zKO E nL Z QQ (pc + 3) L (.int r :: st) σ1 (g r σ1)) : zKO E nL Z QQ pc L (.int b2 :: .int b1 :: .int b0 :: .ref (zad Z 60 0) :: st) σ (zb (f_X11_gets F σ b0 b1 b2) g) :=
  zr_callVI (As := [.int b0, .int b1, .int b2]) (ia := 3) C (fun r σ1 ho => c_X11_gets (zla E) Z F σ b0 b1 b2 r σ1 ho) wz_1648 hk rfl rfl wz_1650 wz_1649 wz_1651 wz_12 (by decide +kernel) rfl (by decide) hh hd hst8 kk
theorem zk_L_161 (C : zCx E cc RL nL ret Z h) (F : Nat) {b0 : Int32} {b1 : Int32} {b2 : Int32} (hk : 0 < zN 0) (hh : 4 + 1 ≤ h) (hst8 : (st.map fun v => v.category).sum ≤ 8) (hd : decode cc pc = .ok (.invokevirtual 161, 3)) {g : Int32 → zMem → Option (α × zMem)} (kk : ∀ (r : Int32) (σ1 : zMem), zKO E nL Z QQ (pc + 3) L (.int r :: st) σ1 (g r σ1)) : zKO E nL Z QQ pc L (.int b2 :: .int b1 :: .int b0 :: .ref (zad Z 0 0) :: st) σ (zb (f_X10_gets F σ b0 b1 b2) g) :=
  zr_callVI (As := [.int b0, .int b1, .int b2]) (ia := 3) C (fun r σ1 ho => c_X10_gets (zla E) Z F σ b0 b1 b2 r σ1 ho) wz_944 hk rfl rfl wz_946 wz_945 wz_947 wz_1 (by decide +kernel) rfl (by decide) hh hd hst8 kk
theorem zk_L_168 (C : zCx E cc RL nL ret Z h) (F : Nat) {b0 : Int32} (hk : 0 < zN 60) (hh : 7 + 1 ≤ h) (hst8 : (st.map fun v => v.category).sum ≤ 8) (hd : decode cc pc = .ok (.invokevirtual 168, 3)) {g : Int32 → zMem → Option (α × zMem)} (kk : ∀ (r : Int32) (σ1 : zMem), zKO E nL Z QQ (pc + 3) L (.int r :: st) σ1 (g r σ1)) : zKO E nL Z QQ pc L (.int b0 :: .ref (zad Z 60 0) :: st) σ (zb (f_X11_turn F σ b0) g) :=
  zr_callVI (As := [.int b0]) (ia := 1) C (fun r σ1 ho => c_X11_turn (zla E) Z F σ b0 r σ1 ho) wz_1652 hk rfl rfl wz_1654 wz_1653 wz_1655 wz_12 (by decide +kernel) rfl (by decide) hh hd hst8 kk
theorem zk_L_165 (C : zCx E cc RL nL ret Z h) (F : Nat) {b0 : Int32} (hk : 0 < zN 0) (hh : 5 + 1 ≤ h) (hst8 : (st.map fun v => v.category).sum ≤ 8) (hd : decode cc pc = .ok (.invokevirtual 165, 3)) {g : Int32 → zMem → Option (α × zMem)} (kk : ∀ (r : Int32) (σ1 : zMem), zKO E nL Z QQ (pc + 3) L (.int r :: st) σ1 (g r σ1)) : zKO E nL Z QQ pc L (.int b0 :: .ref (zad Z 0 0) :: st) σ (zb (f_X10_turn F σ b0) g) :=
  zr_callVI (As := [.int b0]) (ia := 1) C (fun r σ1 ho => c_X10_turn (zla E) Z F σ b0 r σ1 ho) wz_952 hk rfl rfl wz_954 wz_953 wz_955 wz_1 (by decide +kernel) rfl (by decide) hh hd hst8 kk
theorem zk_L_172 (C : zCx E cc RL nL ret Z h) (F : Nat) {b0 : Int32} {b1 : Int32} (hk : 0 < zN 60) (hh : 3 + 1 ≤ h) (hst8 : (st.map fun v => v.category).sum ≤ 8) (hd : decode cc pc = .ok (.invokevirtual 172, 3)) {g : Int32 → zMem → Option (α × zMem)} (kk : ∀ (r : Int32) (σ1 : zMem), zKO E nL Z QQ (pc + 3) L (.int r :: st) σ1 (g r σ1)) : zKO E nL Z QQ pc L (.int b1 :: .int b0 :: .ref (zad Z 60 0) :: st) σ (zb (f_X11_work F σ b0 b1) g) :=
  zr_callVI (As := [.int b0, .int b1]) (ia := 2) C (fun r σ1 ho => c_X11_work (zla E) Z F σ b0 b1 r σ1 ho) wz_1660 hk rfl rfl wz_1662 wz_1661 wz_1663 wz_12 (by decide +kernel) rfl (by decide) hh hd hst8 kk
theorem zk_L_169 (C : zCx E cc RL nL ret Z h) (F : Nat) {b0 : Int32} {b1 : Int32} (hk : 0 < zN 0) (hh : 2 + 1 ≤ h) (hst8 : (st.map fun v => v.category).sum ≤ 8) (hd : decode cc pc = .ok (.invokevirtual 169, 3)) {g : Int32 → zMem → Option (α × zMem)} (kk : ∀ (r : Int32) (σ1 : zMem), zKO E nL Z QQ (pc + 3) L (.int r :: st) σ1 (g r σ1)) : zKO E nL Z QQ pc L (.int b1 :: .int b0 :: .ref (zad Z 0 0) :: st) σ (zb (f_X10_work F σ b0 b1) g) :=
  zr_callVI (As := [.int b0, .int b1]) (ia := 2) C (fun r σ1 ho => c_X10_work (zla E) Z F σ b0 b1 r σ1 ho) wz_963 hk rfl rfl wz_965 wz_964 wz_966 wz_1 (by decide +kernel) rfl (by decide) hh hd hst8 kk
theorem zk_L_176 (C : zCx E cc RL nL ret Z h) (F : Nat)  (hk : 0 < zN 60) (hh : 7 + 1 ≤ h) (hst8 : (st.map fun v => v.category).sum ≤ 8) (hd : decode cc pc = .ok (.invokevirtual 176, 3)) {g : Int32 → zMem → Option (α × zMem)} (kk : ∀ (r : Int32) (σ1 : zMem), zKO E nL Z QQ (pc + 3) L (.int r :: st) σ1 (g r σ1)) : zKO E nL Z QQ pc L (.ref (zad Z 60 0) :: st) σ (zb (f_X11_year F σ) g) :=
  zr_callVI (As := []) (ia := 0) C (fun r σ1 ho => c_X11_year (zla E) Z F σ r σ1 ho) wz_1664 hk rfl rfl wz_1666 wz_1665 wz_1667 wz_12 (by decide +kernel) rfl (by decide) hh hd hst8 kk
theorem zk_L_173 (C : zCx E cc RL nL ret Z h) (F : Nat)  (hk : 0 < zN 0) (hh : 5 + 1 ≤ h) (hst8 : (st.map fun v => v.category).sum ≤ 8) (hd : decode cc pc = .ok (.invokevirtual 173, 3)) {g : Int32 → zMem → Option (α × zMem)} (kk : ∀ (r : Int32) (σ1 : zMem), zKO E nL Z QQ (pc + 3) L (.int r :: st) σ1 (g r σ1)) : zKO E nL Z QQ pc L (.ref (zad Z 0 0) :: st) σ (zb (f_X10_year F σ) g) :=
  zr_callVI (As := []) (ia := 0) C (fun r σ1 ho => c_X10_year (zla E) Z F σ r σ1 ho) wz_967 hk rfl rfl wz_969 wz_968 wz_970 wz_1 (by decide +kernel) rfl (by decide) hh hd hst8 kk
theorem zk_L_180 (C : zCx E cc RL nL ret Z h) (F : Nat) {b0 : Int32} {b1 : Int32} {b2 : Int32} (hk : 0 < zN 60) (hh : 4 + 1 ≤ h) (hst8 : (st.map fun v => v.category).sum ≤ 8) (hd : decode cc pc = .ok (.invokevirtual 180, 3)) {g : Int32 → zMem → Option (α × zMem)} (kk : ∀ (r : Int32) (σ1 : zMem), zKO E nL Z QQ (pc + 3) L (.int r :: st) σ1 (g r σ1)) : zKO E nL Z QQ pc L (.int b2 :: .int b1 :: .int b0 :: .ref (zad Z 60 0) :: st) σ (zb (f_X11_plan F σ b0 b1 b2) g) :=
  zr_callVI (As := [.int b0, .int b1, .int b2]) (ia := 3) C (fun r σ1 ho => c_X11_plan (zla E) Z F σ b0 b1 b2 r σ1 ho) wz_1668 hk rfl rfl wz_1670 wz_1669 wz_1671 wz_12 (by decide +kernel) rfl (by decide) hh hd hst8 kk
theorem zk_L_177 (C : zCx E cc RL nL ret Z h) (F : Nat) {b0 : Int32} {b1 : Int32} {b2 : Int32} (hk : 0 < zN 0) (hh : 4 + 1 ≤ h) (hst8 : (st.map fun v => v.category).sum ≤ 8) (hd : decode cc pc = .ok (.invokevirtual 177, 3)) {g : Int32 → zMem → Option (α × zMem)} (kk : ∀ (r : Int32) (σ1 : zMem), zKO E nL Z QQ (pc + 3) L (.int r :: st) σ1 (g r σ1)) : zKO E nL Z QQ pc L (.int b2 :: .int b1 :: .int b0 :: .ref (zad Z 0 0) :: st) σ (zb (f_X10_plan F σ b0 b1 b2) g) :=
  zr_callVI (As := [.int b0, .int b1, .int b2]) (ia := 3) C (fun r σ1 ho => c_X10_plan (zla E) Z F σ b0 b1 b2 r σ1 ho) wz_971 hk rfl rfl wz_973 wz_972 wz_974 wz_1 (by decide +kernel) rfl (by decide) hh hd hst8 kk
theorem zk_L_184 (C : zCx E cc RL nL ret Z h) (F : Nat) {b0 : Int32} {b1 : Int32} {b2 : Int32} (hk : 0 < zN 60) (hh : 10 + 1 ≤ h) (hst8 : (st.map fun v => v.category).sum ≤ 8) (hd : decode cc pc = .ok (.invokevirtual 184, 3)) {g : Int32 → zMem → Option (α × zMem)} (kk : ∀ (r : Int32) (σ1 : zMem), zKO E nL Z QQ (pc + 3) L (.int r :: st) σ1 (g r σ1)) : zKO E nL Z QQ pc L (.int b2 :: .int b1 :: .int b0 :: .ref (zad Z 60 0) :: st) σ (zb (f_X11_act F σ b0 b1 b2) g) :=
  zr_callVI (As := [.int b0, .int b1, .int b2]) (ia := 3) C (fun r σ1 ho => c_X11_act (zla E) Z F σ b0 b1 b2 r σ1 ho) wz_1677 hk rfl rfl wz_1679 wz_1678 wz_1680 wz_12 (by decide +kernel) rfl (by decide) hh hd hst8 kk
theorem zk_L_181 (C : zCx E cc RL nL ret Z h) (F : Nat) {b0 : Int32} {b1 : Int32} {b2 : Int32} (hk : 0 < zN 0) (hh : 5 + 1 ≤ h) (hst8 : (st.map fun v => v.category).sum ≤ 8) (hd : decode cc pc = .ok (.invokevirtual 181, 3)) {g : Int32 → zMem → Option (α × zMem)} (kk : ∀ (r : Int32) (σ1 : zMem), zKO E nL Z QQ (pc + 3) L (.int r :: st) σ1 (g r σ1)) : zKO E nL Z QQ pc L (.int b2 :: .int b1 :: .int b0 :: .ref (zad Z 0 0) :: st) σ (zb (f_X10_act F σ b0 b1 b2) g) :=
  zr_callVI (As := [.int b0, .int b1, .int b2]) (ia := 3) C (fun r σ1 ho => c_X10_act (zla E) Z F σ b0 b1 b2 r σ1 ho) wz_1011 hk rfl rfl wz_1013 wz_1012 wz_1014 wz_1 (by decide +kernel) rfl (by decide) hh hd hst8 kk
theorem zk_L_188 (C : zCx E cc RL nL ret Z h) (F : Nat) {b0 : Int32} (hk : 0 < zN 60) (hh : 2 + 1 ≤ h) (hst8 : (st.map fun v => v.category).sum ≤ 8) (hd : decode cc pc = .ok (.invokevirtual 188, 3)) {g : Int32 → zMem → Option (α × zMem)} (kk : ∀ (r : Int32) (σ1 : zMem), zKO E nL Z QQ (pc + 3) L (.int r :: st) σ1 (g r σ1)) : zKO E nL Z QQ pc L (.int b0 :: .ref (zad Z 60 0) :: st) σ (zb (f_X11_trace F σ b0) g) :=
  zr_callVI (As := [.int b0]) (ia := 1) C (fun r σ1 ho => c_X11_trace (zla E) Z F σ b0 r σ1 ho) wz_1691 hk rfl rfl wz_1693 wz_1692 wz_1694 wz_12 (by decide +kernel) rfl (by decide) hh hd hst8 kk
theorem zk_L_185 (C : zCx E cc RL nL ret Z h) (F : Nat) {b0 : Int32} (hk : 0 < zN 0) (hh : 1 + 1 ≤ h) (hst8 : (st.map fun v => v.category).sum ≤ 8) (hd : decode cc pc = .ok (.invokevirtual 185, 3)) {g : Int32 → zMem → Option (α × zMem)} (kk : ∀ (r : Int32) (σ1 : zMem), zKO E nL Z QQ (pc + 3) L (.int r :: st) σ1 (g r σ1)) : zKO E nL Z QQ pc L (.int b0 :: .ref (zad Z 0 0) :: st) σ (zb (f_X10_trace F σ b0) g) :=
  zr_callVI (As := [.int b0]) (ia := 1) C (fun r σ1 ho => c_X10_trace (zla E) Z F σ b0 r σ1 ho) wz_1031 hk rfl rfl wz_1033 wz_1032 wz_1034 wz_1 (by decide +kernel) rfl (by decide) hh hd hst8 kk
theorem zk_L_192 (C : zCx E cc RL nL ret Z h) (F : Nat) {b0 : Int32} {b1 : Int32} (hk : 0 < zN 60) (hh : 3 + 1 ≤ h) (hst8 : (st.map fun v => v.category).sum ≤ 8) (hd : decode cc pc = .ok (.invokevirtual 192, 3)) {g : Int32 → zMem → Option (α × zMem)} (kk : ∀ (r : Int32) (σ1 : zMem), zKO E nL Z QQ (pc + 3) L (.int r :: st) σ1 (g r σ1)) : zKO E nL Z QQ pc L (.int b1 :: .int b0 :: .ref (zad Z 60 0) :: st) σ (zb (f_X11_taken F σ b0 b1) g) :=
  zr_callVI (As := [.int b0, .int b1]) (ia := 2) C (fun r σ1 ho => c_X11_taken (zla E) Z F σ b0 b1 r σ1 ho) wz_1695 hk rfl rfl wz_1697 wz_1696 wz_1698 wz_12 (by decide +kernel) rfl (by decide) hh hd hst8 kk
theorem zk_L_189 (C : zCx E cc RL nL ret Z h) (F : Nat) {b0 : Int32} {b1 : Int32} (hk : 0 < zN 0) (hh : 2 + 1 ≤ h) (hst8 : (st.map fun v => v.category).sum ≤ 8) (hd : decode cc pc = .ok (.invokevirtual 189, 3)) {g : Int32 → zMem → Option (α × zMem)} (kk : ∀ (r : Int32) (σ1 : zMem), zKO E nL Z QQ (pc + 3) L (.int r :: st) σ1 (g r σ1)) : zKO E nL Z QQ pc L (.int b1 :: .int b0 :: .ref (zad Z 0 0) :: st) σ (zb (f_X10_taken F σ b0 b1) g) :=
  zr_callVI (As := [.int b0, .int b1]) (ia := 2) C (fun r σ1 ho => c_X10_taken (zla E) Z F σ b0 b1 r σ1 ho) wz_1035 hk rfl rfl wz_1037 wz_1036 wz_1038 wz_1 (by decide +kernel) rfl (by decide) hh hd hst8 kk
theorem zk_L_196 (C : zCx E cc RL nL ret Z h) (F : Nat) {b0 : Int32} (hk : 0 < zN 60) (hh : 1 + 1 ≤ h) (hst8 : (st.map fun v => v.category).sum ≤ 8) (hd : decode cc pc = .ok (.invokevirtual 196, 3)) {g : Int32 → zMem → Option (α × zMem)} (kk : ∀ (r : Int32) (σ1 : zMem), zKO E nL Z QQ (pc + 3) L (.int r :: st) σ1 (g r σ1)) : zKO E nL Z QQ pc L (.int b0 :: .ref (zad Z 60 0) :: st) σ (zb (f_X11_count F σ b0) g) :=
  zr_callVI (As := [.int b0]) (ia := 1) C (fun r σ1 ho => c_X11_count (zla E) Z F σ b0 r σ1 ho) wz_1699 hk rfl rfl wz_1701 wz_1700 wz_1702 wz_12 (by decide +kernel) rfl (by decide) hh hd hst8 kk
theorem zk_L_193 (C : zCx E cc RL nL ret Z h) (F : Nat) {b0 : Int32} (hk : 0 < zN 0) (hh : 2 + 1 ≤ h) (hst8 : (st.map fun v => v.category).sum ≤ 8) (hd : decode cc pc = .ok (.invokevirtual 193, 3)) {g : Int32 → zMem → Option (α × zMem)} (kk : ∀ (r : Int32) (σ1 : zMem), zKO E nL Z QQ (pc + 3) L (.int r :: st) σ1 (g r σ1)) : zKO E nL Z QQ pc L (.int b0 :: .ref (zad Z 0 0) :: st) σ (zb (f_X10_count F σ b0) g) :=
  zr_callVI (As := [.int b0]) (ia := 1) C (fun r σ1 ho => c_X10_count (zla E) Z F σ b0 r σ1 ho) wz_1044 hk rfl rfl wz_1046 wz_1045 wz_1047 wz_1 (by decide +kernel) rfl (by decide) hh hd hst8 kk
theorem zk_L_200 (C : zCx E cc RL nL ret Z h) (F : Nat) {b0 : Int32} {b1 : Int32} {b2 : Int32} (hk : 0 < zN 60) (hh : 2 + 1 ≤ h) (hst8 : (st.map fun v => v.category).sum ≤ 8) (hd : decode cc pc = .ok (.invokevirtual 200, 3)) {g : Int32 → zMem → Option (α × zMem)} (kk : ∀ (r : Int32) (σ1 : zMem), zKO E nL Z QQ (pc + 3) L (.int r :: st) σ1 (g r σ1)) : zKO E nL Z QQ pc L (.int b2 :: .int b1 :: .int b0 :: .ref (zad Z 60 0) :: st) σ (zb (f_X11_sheet F σ b0 b1 b2) g) :=
  zr_callVI (As := [.int b0, .int b1, .int b2]) (ia := 3) C (fun r σ1 ho => c_X11_sheet (zla E) Z F σ b0 b1 b2 r σ1 ho) wz_1703 hk rfl rfl wz_1705 wz_1704 wz_1706 wz_12 (by decide +kernel) rfl (by decide) hh hd hst8 kk
theorem zk_L_197 (C : zCx E cc RL nL ret Z h) (F : Nat) {b0 : Int32} {b1 : Int32} {b2 : Int32} (hk : 0 < zN 0) (hh : 2 + 1 ≤ h) (hst8 : (st.map fun v => v.category).sum ≤ 8) (hd : decode cc pc = .ok (.invokevirtual 197, 3)) {g : Int32 → zMem → Option (α × zMem)} (kk : ∀ (r : Int32) (σ1 : zMem), zKO E nL Z QQ (pc + 3) L (.int r :: st) σ1 (g r σ1)) : zKO E nL Z QQ pc L (.int b2 :: .int b1 :: .int b0 :: .ref (zad Z 0 0) :: st) σ (zb (f_X10_sheet F σ b0 b1 b2) g) :=
  zr_callVI (As := [.int b0, .int b1, .int b2]) (ia := 3) C (fun r σ1 ho => c_X10_sheet (zla E) Z F σ b0 b1 b2 r σ1 ho) wz_1052 hk rfl rfl wz_1054 wz_1053 wz_1055 wz_1 (by decide +kernel) rfl (by decide) hh hd hst8 kk
theorem zk_L_204 (C : zCx E cc RL nL ret Z h) (F : Nat) {b0 : Int32} {b1 : Int32} {b2 : Int32} (hk : 0 < zN 60) (hh : 2 + 1 ≤ h) (hst8 : (st.map fun v => v.category).sum ≤ 8) (hd : decode cc pc = .ok (.invokevirtual 204, 3)) {g : Int32 → zMem → Option (α × zMem)} (kk : ∀ (r : Int32) (σ1 : zMem), zKO E nL Z QQ (pc + 3) L (.int r :: st) σ1 (g r σ1)) : zKO E nL Z QQ pc L (.int b2 :: .int b1 :: .int b0 :: .ref (zad Z 60 0) :: st) σ (zb (f_X11_cell F σ b0 b1 b2) g) :=
  zr_callVI (As := [.int b0, .int b1, .int b2]) (ia := 3) C (fun r σ1 ho => c_X11_cell (zla E) Z F σ b0 b1 b2 r σ1 ho) wz_1707 hk rfl rfl wz_1709 wz_1708 wz_1710 wz_12 (by decide +kernel) rfl (by decide) hh hd hst8 kk
theorem zk_L_201 (C : zCx E cc RL nL ret Z h) (F : Nat) {b0 : Int32} {b1 : Int32} {b2 : Int32} (hk : 0 < zN 0) (hh : 2 + 1 ≤ h) (hst8 : (st.map fun v => v.category).sum ≤ 8) (hd : decode cc pc = .ok (.invokevirtual 201, 3)) {g : Int32 → zMem → Option (α × zMem)} (kk : ∀ (r : Int32) (σ1 : zMem), zKO E nL Z QQ (pc + 3) L (.int r :: st) σ1 (g r σ1)) : zKO E nL Z QQ pc L (.int b2 :: .int b1 :: .int b0 :: .ref (zad Z 0 0) :: st) σ (zb (f_X10_cell F σ b0 b1 b2) g) :=
  zr_callVI (As := [.int b0, .int b1, .int b2]) (ia := 3) C (fun r σ1 ho => c_X10_cell (zla E) Z F σ b0 b1 b2 r σ1 ho) wz_1060 hk rfl rfl wz_1062 wz_1061 wz_1063 wz_1 (by decide +kernel) rfl (by decide) hh hd hst8 kk
theorem zk_L_208 (C : zCx E cc RL nL ret Z h) (F : Nat) {b0 : Int32} {b1 : Int32} (hk : 0 < zN 60) (hh : 2 + 1 ≤ h) (hst8 : (st.map fun v => v.category).sum ≤ 8) (hd : decode cc pc = .ok (.invokevirtual 208, 3)) {g : Int32 → zMem → Option (α × zMem)} (kk : ∀ (r : Int32) (σ1 : zMem), zKO E nL Z QQ (pc + 3) L (.int r :: st) σ1 (g r σ1)) : zKO E nL Z QQ pc L (.int b1 :: .int b0 :: .ref (zad Z 60 0) :: st) σ (zb (f_X11_lose F σ b0 b1) g) :=
  zr_callVI (As := [.int b0, .int b1]) (ia := 2) C (fun r σ1 ho => c_X11_lose (zla E) Z F σ b0 b1 r σ1 ho) wz_1711 hk rfl rfl wz_1713 wz_1712 wz_1714 wz_12 (by decide +kernel) rfl (by decide) hh hd hst8 kk
theorem zk_L_205 (C : zCx E cc RL nL ret Z h) (F : Nat) {b0 : Int32} {b1 : Int32} (hk : 0 < zN 0) (hh : 2 + 1 ≤ h) (hst8 : (st.map fun v => v.category).sum ≤ 8) (hd : decode cc pc = .ok (.invokevirtual 205, 3)) {g : Int32 → zMem → Option (α × zMem)} (kk : ∀ (r : Int32) (σ1 : zMem), zKO E nL Z QQ (pc + 3) L (.int r :: st) σ1 (g r σ1)) : zKO E nL Z QQ pc L (.int b1 :: .int b0 :: .ref (zad Z 0 0) :: st) σ (zb (f_X10_lose F σ b0 b1) g) :=
  zr_callVI (As := [.int b0, .int b1]) (ia := 2) C (fun r σ1 ho => c_X10_lose (zla E) Z F σ b0 b1 r σ1 ho) wz_1068 hk rfl rfl wz_1070 wz_1069 wz_1071 wz_1 (by decide +kernel) rfl (by decide) hh hd hst8 kk
theorem zk_L_212 (C : zCx E cc RL nL ret Z h) (F : Nat) {b0 : Int32} {b1 : Int32} {b2 : Int32} {b3 : Int32} {b4 : Int32} (hk : 0 < zN 60) (hh : 2 + 1 ≤ h) (hst8 : (st.map fun v => v.category).sum ≤ 8) (hd : decode cc pc = .ok (.invokevirtual 212, 3)) {g : Int32 → zMem → Option (α × zMem)} (kk : ∀ (r : Int32) (σ1 : zMem), zKO E nL Z QQ (pc + 3) L (.int r :: st) σ1 (g r σ1)) : zKO E nL Z QQ pc L (.int b4 :: .int b3 :: .int b2 :: .int b1 :: .int b0 :: .ref (zad Z 60 0) :: st) σ (zb (f_X11_copy F σ b0 b1 b2 b3 b4) g) :=
  zr_callVI (As := [.int b0, .int b1, .int b2, .int b3, .int b4]) (ia := 5) C (fun r σ1 ho => c_X11_copy (zla E) Z F σ b0 b1 b2 b3 b4 r σ1 ho) wz_1715 hk rfl rfl wz_1717 wz_1716 wz_1718 wz_12 (by decide +kernel) rfl (by decide) hh hd hst8 kk
theorem zk_L_209 (C : zCx E cc RL nL ret Z h) (F : Nat) {b0 : Int32} {b1 : Int32} {b2 : Int32} {b3 : Int32} {b4 : Int32} (hk : 0 < zN 0) (hh : 2 + 1 ≤ h) (hst8 : (st.map fun v => v.category).sum ≤ 8) (hd : decode cc pc = .ok (.invokevirtual 209, 3)) {g : Int32 → zMem → Option (α × zMem)} (kk : ∀ (r : Int32) (σ1 : zMem), zKO E nL Z QQ (pc + 3) L (.int r :: st) σ1 (g r σ1)) : zKO E nL Z QQ pc L (.int b4 :: .int b3 :: .int b2 :: .int b1 :: .int b0 :: .ref (zad Z 0 0) :: st) σ (zb (f_X10_copy F σ b0 b1 b2 b3 b4) g) :=
  zr_callVI (As := [.int b0, .int b1, .int b2, .int b3, .int b4]) (ia := 5) C (fun r σ1 ho => c_X10_copy (zla E) Z F σ b0 b1 b2 b3 b4 r σ1 ho) wz_1072 hk rfl rfl wz_1074 wz_1073 wz_1075 wz_1 (by decide +kernel) rfl (by decide) hh hd hst8 kk
theorem zk_L_127 (C : zCx E cc RL nL ret Z h) (F : Nat) {b0 : Int32} {b1 : Int32} (hk : 0 < zN 0) (hh : 2 + 1 ≤ h) (hst8 : (st.map fun v => v.category).sum ≤ 8) (hd : decode cc pc = .ok (.invokevirtual 127, 3)) {g : Int32 → zMem → Option (α × zMem)} (kk : ∀ (r : Int32) (σ1 : zMem), zKO E nL Z QQ (pc + 3) L (.int r :: st) σ1 (g r σ1)) : zKO E nL Z QQ pc L (.int b1 :: .int b0 :: .ref (zad Z 0 0) :: st) σ (zb (f_X10_works F σ b0 b1) g) :=
  zr_callVI (As := [.int b0, .int b1]) (ia := 2) C (fun r σ1 ho => c_X10_works (zla E) Z F σ b0 b1 r σ1 ho) wz_879 hk rfl rfl wz_881 wz_880 wz_882 wz_1 (by decide +kernel) rfl (by decide) hh hd hst8 kk
theorem zk_L_132 (C : zCx E cc RL nL ret Z h) (F : Nat) {b0 : Int32} (hk : 0 < zN 0) (hh : 1 + 1 ≤ h) (hst8 : (st.map fun v => v.category).sum ≤ 8) (hd : decode cc pc = .ok (.invokevirtual 132, 3)) {g : Int32 → zMem → Option (α × zMem)} (kk : ∀ (r : Int32) (σ1 : zMem), zKO E nL Z QQ (pc + 3) L (.int r :: st) σ1 (g r σ1)) : zKO E nL Z QQ pc L (.int b0 :: .ref (zad Z 0 0) :: st) σ (zb (f_X10_shut F σ b0) g) :=
  zr_callVI (As := [.int b0]) (ia := 1) C (fun r σ1 ho => c_X10_shut (zla E) Z F σ b0 r σ1 ho) wz_883 hk rfl rfl wz_885 wz_884 wz_886 wz_1 (by decide +kernel) rfl (by decide) hh hd hst8 kk
theorem zk_L_136 (C : zCx E cc RL nL ret Z h) (F : Nat) {b0 : Int32} (hk : 0 < zN 60) (hh : 1 + 1 ≤ h) (hst8 : (st.map fun v => v.category).sum ≤ 8) (hd : decode cc pc = .ok (.invokevirtual 136, 3)) {g : Int32 → zMem → Option (α × zMem)} (kk : ∀ (r : Int32) (σ1 : zMem), zKO E nL Z QQ (pc + 3) L (.int r :: st) σ1 (g r σ1)) : zKO E nL Z QQ pc L (.int b0 :: .ref (zad Z 60 0) :: st) σ (zb (f_X11_shut F σ b0) g) :=
  zr_callVI (As := [.int b0]) (ia := 1) C (fun r σ1 ho => c_X11_shut (zla E) Z F σ b0 r σ1 ho) wz_1610 hk rfl rfl wz_1612 wz_1611 wz_1613 wz_12 (by decide +kernel) rfl (by decide) hh hd hst8 kk
theorem zk_L_131 (C : zCx E cc RL nL ret Z h) (F : Nat) {b0 : Int32} {b1 : Int32} (hk : 0 < zN 60) (hh : 3 + 1 ≤ h) (hst8 : (st.map fun v => v.category).sum ≤ 8) (hd : decode cc pc = .ok (.invokevirtual 131, 3)) {g : Int32 → zMem → Option (α × zMem)} (kk : ∀ (r : Int32) (σ1 : zMem), zKO E nL Z QQ (pc + 3) L (.int r :: st) σ1 (g r σ1)) : zKO E nL Z QQ pc L (.int b1 :: .int b0 :: .ref (zad Z 60 0) :: st) σ (zb (f_X11_works F σ b0 b1) g) :=
  zr_callVI (As := [.int b0, .int b1]) (ia := 2) C (fun r σ1 ho => c_X11_works (zla E) Z F σ b0 b1 r σ1 ho) wz_1606 hk rfl rfl wz_1608 wz_1607 wz_1609 wz_12 (by decide +kernel) rfl (by decide) hh hd hst8 kk
def f_L_law_1311 (F : Nat) (Z : zLay) (rec18 : zMem → Int32 → Option (Int32 × zMem)) (σ : zMem) (l3 : Int32) (s0 : Int32) (s2 : Int32) : Option (Int32 × zMem) := zb (f_X11_shut F σ s0) fun r1311 m1311 => if s2 = r1311 then (rec18 m1311 ((l3 + 6))) else (some (0, m1311))
set_option maxHeartbeats 4000000 in
set_option maxRecDepth 100000 in
theorem c_L_law_1311 (F : Nat) (Z : zLay) (rec18 : zMem → Int32 → Option (Int32 × zMem)) {E : zEn} {h : Nat} {QQ : Int32 → zMem → State → Prop} (hret : ∀ (pc : Nat) (L : List (Nat × Value)) (x : Int32) (σ : zMem), decode cL_law pc = .ok (.ireturn, 1) → zKO E 4 Z QQ pc L [.int x] σ (some (x, σ))) (C : zCx E cL_law RL 4 (some .boolean) Z h) (hh : 11 ≤ h) (hrec18 : ∀ (σ : zMem) (x : Int32), zKO E 4 Z QQ 18 [(0, .ref (zad Z 170 0)), (1, .ref (zad Z 0 0)), (2, .ref (zad Z 60 0)), (3, .int x)] [] σ (rec18 σ x)) (σ : zMem) (l3 : Int32) (s0 : Int32) (s2 : Int32) : zKO E 4 Z QQ 1311 [(0, .ref (zad Z 170 0)), (1, .ref (zad Z 0 0)), (2, .ref (zad Z 60 0)), (3, .int l3)] [.int s0, .ref (zad Z 60 0), .int s2] σ (f_L_law_1311 F Z rec18 σ l3 s0 s2) := by
  unfold f_L_law_1311
  refine zk_L_136 C F (Nat.le_of_ble_eq_true rfl) (Nat.le_trans (by decide) hh) (by simp [Value.category]) dL_law_1311 (fun r1311 m1311 => ?_)
  refine zr_icmp_eq (tgt := 1936) C dL_law_1314 (by decide) ?_ ?_
  · refine zr_iinc (kk := 3) (v := (l3 + 6)) (L1 := [(3, .int _), (0, .ref _), (1, .ref _), (2, .ref _)]) C dL_law_1936 rfl rfl (by decide) rfl ?_
    refine zr_goto (tgt := 18) C dL_law_1939 (by decide) ?_
    exact zr_sub [1, 2, 3, 0] rfl (hrec18 m1311 ((l3 + 6)))
  · refine zr_iconst (v := 0) C dL_law_1317 rfl ?_
    exact hret _ _ _ _ dL_law_1318
def f_L_law_1294 (F : Nat) (Z : zLay) (rec18 : zMem → Int32 → Option (Int32 × zMem)) (σ : zMem) (l3 : Int32) (s0 : Int32) : Option (Int32 × zMem) := zb (f_X10_shut F σ s0) fun r1294 m1294 => zg (inb ((l3 + 1)) Z.2.2.2.1) (if (Z.2.2.2.2 ((l3 + 1)).toNatClampNeg) = 0 then (f_L_law_1311 F Z rec18 m1294 l3 0 r1294) else (f_L_law_1311 F Z rec18 m1294 l3 1 r1294))
set_option maxHeartbeats 4000000 in
set_option maxRecDepth 100000 in
theorem c_L_law_1294 (F : Nat) (Z : zLay) (rec18 : zMem → Int32 → Option (Int32 × zMem)) {E : zEn} {h : Nat} {QQ : Int32 → zMem → State → Prop} (hret : ∀ (pc : Nat) (L : List (Nat × Value)) (x : Int32) (σ : zMem), decode cL_law pc = .ok (.ireturn, 1) → zKO E 4 Z QQ pc L [.int x] σ (some (x, σ))) (C : zCx E cL_law RL 4 (some .boolean) Z h) (hh : 11 ≤ h) (hrec18 : ∀ (σ : zMem) (x : Int32), zKO E 4 Z QQ 18 [(0, .ref (zad Z 170 0)), (1, .ref (zad Z 0 0)), (2, .ref (zad Z 60 0)), (3, .int x)] [] σ (rec18 σ x)) (σ : zMem) (l3 : Int32) (s0 : Int32) : zKO E 4 Z QQ 1294 [(0, .ref (zad Z 170 0)), (1, .ref (zad Z 0 0)), (2, .ref (zad Z 60 0)), (3, .int l3)] [.int s0, .ref (zad Z 0 0)] σ (f_L_law_1294 F Z rec18 σ l3 s0) := by
  unfold f_L_law_1294
  refine zk_L_132 C F (Nat.le_of_ble_eq_true rfl) (Nat.le_trans (by decide) hh) (by simp [Value.category]) dL_law_1294 (fun r1294 m1294 => ?_)
  refine zr_aload_n C dL_law_1297 rfl ?_
  refine zr_aload_n C dL_law_1298 rfl ?_
  refine zr_iload_n C dL_law_1299 rfl ?_
  refine zr_iconst (v := 1) C dL_law_1300 rfl ?_
  refine zr_iadd C dL_law_1301 ?_
  refine zr_sald0 C dL_law_1302 ?_
  refine zr_if_eq (tgt := 1310) C dL_law_1303 (by decide) ?_ ?_
  · refine zr_iconst (v := 0) C dL_law_1310 rfl ?_
    exact zr_sub [0, 1, 2, 3] rfl (c_L_law_1311 F Z rec18 hret C hh hrec18 m1294 l3 0 r1294)
  · refine zr_iconst (v := 1) C dL_law_1306 rfl ?_
    refine zr_goto (tgt := 1311) C dL_law_1307 (by decide) ?_
    exact zr_sub [0, 1, 2, 3] rfl (c_L_law_1311 F Z rec18 hret C hh hrec18 m1294 l3 1 r1294)
def f_L_law_1272 (F : Nat) (Z : zLay) (rec18 : zMem → Int32 → Option (Int32 × zMem)) (σ : zMem) (l3 : Int32) (s0 : Int32) (s1 : Int32) (s3 : Int32) : Option (Int32 × zMem) := zb (f_X11_works F σ s1 s0) fun r1272 m1272 => if s3 = r1272 then (rec18 m1272 ((l3 + 6))) else (some (0, m1272))
set_option maxHeartbeats 4000000 in
set_option maxRecDepth 100000 in
theorem c_L_law_1272 (F : Nat) (Z : zLay) (rec18 : zMem → Int32 → Option (Int32 × zMem)) {E : zEn} {h : Nat} {QQ : Int32 → zMem → State → Prop} (hret : ∀ (pc : Nat) (L : List (Nat × Value)) (x : Int32) (σ : zMem), decode cL_law pc = .ok (.ireturn, 1) → zKO E 4 Z QQ pc L [.int x] σ (some (x, σ))) (C : zCx E cL_law RL 4 (some .boolean) Z h) (hh : 11 ≤ h) (hrec18 : ∀ (σ : zMem) (x : Int32), zKO E 4 Z QQ 18 [(0, .ref (zad Z 170 0)), (1, .ref (zad Z 0 0)), (2, .ref (zad Z 60 0)), (3, .int x)] [] σ (rec18 σ x)) (σ : zMem) (l3 : Int32) (s0 : Int32) (s1 : Int32) (s3 : Int32) : zKO E 4 Z QQ 1272 [(0, .ref (zad Z 170 0)), (1, .ref (zad Z 0 0)), (2, .ref (zad Z 60 0)), (3, .int l3)] [.int s0, .int s1, .ref (zad Z 60 0), .int s3] σ (f_L_law_1272 F Z rec18 σ l3 s0 s1 s3) := by
  unfold f_L_law_1272
  refine zk_L_131 C F (Nat.le_of_ble_eq_true rfl) (Nat.le_trans (by decide) hh) (by simp [Value.category]) dL_law_1272 (fun r1272 m1272 => ?_)
  refine zr_icmp_eq (tgt := 1936) C dL_law_1275 (by decide) ?_ ?_
  · refine zr_iinc (kk := 3) (v := (l3 + 6)) (L1 := [(3, .int _), (0, .ref _), (1, .ref _), (2, .ref _)]) C dL_law_1936 rfl rfl (by decide) rfl ?_
    refine zr_goto (tgt := 18) C dL_law_1939 (by decide) ?_
    exact zr_sub [1, 2, 3, 0] rfl (hrec18 m1272 ((l3 + 6)))
  · refine zr_iconst (v := 0) C dL_law_1278 rfl ?_
    exact hret _ _ _ _ dL_law_1279
def f_L_law_1250 (F : Nat) (Z : zLay) (rec18 : zMem → Int32 → Option (Int32 × zMem)) (σ : zMem) (l3 : Int32) (s0 : Int32) (s1 : Int32) : Option (Int32 × zMem) := zb (f_X10_works F σ s1 s0) fun r1250 m1250 => zg (inb ((l3 + 1)) Z.2.2.2.1) (zg (inb ((l3 + 2)) Z.2.2.2.1) (if (Z.2.2.2.2 ((l3 + 2)).toNatClampNeg) = 0 then (f_L_law_1272 F Z rec18 m1250 l3 0 ((Z.2.2.2.2 ((l3 + 1)).toNatClampNeg)) r1250) else (f_L_law_1272 F Z rec18 m1250 l3 1 ((Z.2.2.2.2 ((l3 + 1)).toNatClampNeg)) r1250)))
set_option maxHeartbeats 4000000 in
set_option maxRecDepth 100000 in
theorem c_L_law_1250 (F : Nat) (Z : zLay) (rec18 : zMem → Int32 → Option (Int32 × zMem)) {E : zEn} {h : Nat} {QQ : Int32 → zMem → State → Prop} (hret : ∀ (pc : Nat) (L : List (Nat × Value)) (x : Int32) (σ : zMem), decode cL_law pc = .ok (.ireturn, 1) → zKO E 4 Z QQ pc L [.int x] σ (some (x, σ))) (C : zCx E cL_law RL 4 (some .boolean) Z h) (hh : 11 ≤ h) (hrec18 : ∀ (σ : zMem) (x : Int32), zKO E 4 Z QQ 18 [(0, .ref (zad Z 170 0)), (1, .ref (zad Z 0 0)), (2, .ref (zad Z 60 0)), (3, .int x)] [] σ (rec18 σ x)) (σ : zMem) (l3 : Int32) (s0 : Int32) (s1 : Int32) : zKO E 4 Z QQ 1250 [(0, .ref (zad Z 170 0)), (1, .ref (zad Z 0 0)), (2, .ref (zad Z 60 0)), (3, .int l3)] [.int s0, .int s1, .ref (zad Z 0 0)] σ (f_L_law_1250 F Z rec18 σ l3 s0 s1) := by
  unfold f_L_law_1250
  refine zk_L_127 C F (Nat.le_of_ble_eq_true rfl) (Nat.le_trans (by decide) hh) (by simp [Value.category]) dL_law_1250 (fun r1250 m1250 => ?_)
  refine zr_aload_n C dL_law_1253 rfl ?_
  refine zr_aload_n C dL_law_1254 rfl ?_
  refine zr_iload_n C dL_law_1255 rfl ?_
  refine zr_iconst (v := 1) C dL_law_1256 rfl ?_
  refine zr_iadd C dL_law_1257 ?_
  refine zr_sald0 C dL_law_1258 ?_
  refine zr_aload_n C dL_law_1259 rfl ?_
  refine zr_iload_n C dL_law_1260 rfl ?_
  refine zr_iconst (v := 2) C dL_law_1261 rfl ?_
  refine zr_iadd C dL_law_1262 ?_
  refine zr_sald0 C dL_law_1263 ?_
  refine zr_if_eq (tgt := 1271) C dL_law_1264 (by decide) ?_ ?_
  · refine zr_iconst (v := 0) C dL_law_1271 rfl ?_
    exact zr_sub [0, 1, 2, 3] rfl (c_L_law_1272 F Z rec18 hret C hh hrec18 m1250 l3 0 ((Z.2.2.2.2 ((l3 + 1)).toNatClampNeg)) r1250)
  · refine zr_iconst (v := 1) C dL_law_1267 rfl ?_
    refine zr_goto (tgt := 1272) C dL_law_1268 (by decide) ?_
    exact zr_sub [0, 1, 2, 3] rfl (c_L_law_1272 F Z rec18 hret C hh hrec18 m1250 l3 1 ((Z.2.2.2.2 ((l3 + 1)).toNatClampNeg)) r1250)
def f_L_law_18 (F : Nat) (Z : zLay) (rec18 : zMem → Int32 → Option (Int32 × zMem)) (σ : zMem) (x : Int32) : Option (Int32 × zMem) := if ((Z.2.2.2.1.toInt32) - 6) < x then (some (1, σ)) else (zg (inb x Z.2.2.2.1) (if (((Z.2.2.2.2 x.toNatClampNeg) &&& 63)).toInt < 0 ∨ 47 < (((Z.2.2.2.2 x.toNatClampNeg) &&& 63)).toInt then (rec18 σ ((x + 6))) else (if ((Z.2.2.2.2 x.toNatClampNeg) &&& 63) = 0 then (zg (inb ((x + 1)) Z.2.2.2.1) (zg (inb ((x + 2)) Z.2.2.2.1) (zg (inb ((x + 3)) Z.2.2.2.1) (zg (inb ((x + 4)) Z.2.2.2.1) (zb (f_X10_house F σ ((Z.2.2.2.2 ((x + 1)).toNatClampNeg)) ((Z.2.2.2.2 ((x + 2)).toNatClampNeg)) ((Z.2.2.2.2 ((x + 3)).toNatClampNeg)) ((Z.2.2.2.2 ((x + 4)).toNatClampNeg))) fun r261 m261 => zg (inb ((x + 1)) Z.2.2.2.1) (zg (inb ((x + 2)) Z.2.2.2.1) (zg (inb ((x + 3)) Z.2.2.2.1) (zg (inb ((x + 4)) Z.2.2.2.1) (zb (f_X11_house F m261 ((Z.2.2.2.2 ((x + 1)).toNatClampNeg)) ((Z.2.2.2.2 ((x + 2)).toNatClampNeg)) ((Z.2.2.2.2 ((x + 3)).toNatClampNeg)) ((Z.2.2.2.2 ((x + 4)).toNatClampNeg))) fun r285 m285 => if r261 = r285 then (rec18 m285 ((x + 6))) else (some (0, m285))))))))))) else (if ((Z.2.2.2.2 x.toNatClampNeg) &&& 63) = 1 then (zg (inb ((x + 1)) Z.2.2.2.1) (zg (inb ((x + 2)) Z.2.2.2.1) (zg (inb ((x + 3)) Z.2.2.2.1) (zb (f_X10_change F σ ((Z.2.2.2.2 ((x + 1)).toNatClampNeg)) ((Z.2.2.2.2 ((x + 2)).toNatClampNeg)) ((Z.2.2.2.2 ((x + 3)).toNatClampNeg))) fun r309 m309 => zg (inb ((x + 1)) Z.2.2.2.1) (zg (inb ((x + 2)) Z.2.2.2.1) (zg (inb ((x + 3)) Z.2.2.2.1) (zb (f_X11_change F m309 ((Z.2.2.2.2 ((x + 1)).toNatClampNeg)) ((Z.2.2.2.2 ((x + 2)).toNatClampNeg)) ((Z.2.2.2.2 ((x + 3)).toNatClampNeg))) fun r328 m328 => if r309 = r328 then (rec18 m328 ((x + 6))) else (some (0, m328))))))))) else (if ((Z.2.2.2.2 x.toNatClampNeg) &&& 63) = 2 then (zg (inb ((x + 1)) Z.2.2.2.1) (zg (inb ((x + 2)) Z.2.2.2.1) (zb (f_X10_told F σ ((Z.2.2.2.2 ((x + 1)).toNatClampNeg)) ((Z.2.2.2.2 ((x + 2)).toNatClampNeg))) fun r347 m347 => zg (inb ((x + 1)) Z.2.2.2.1) (zg (inb ((x + 2)) Z.2.2.2.1) (zb (f_X11_told F m347 ((Z.2.2.2.2 ((x + 1)).toNatClampNeg)) ((Z.2.2.2.2 ((x + 2)).toNatClampNeg))) fun r361 m361 => if r347 = r361 then (rec18 m361 ((x + 6))) else (some (0, m361))))))) else (if ((Z.2.2.2.2 x.toNatClampNeg) &&& 63) = 3 then (zb (f_X10_counts F σ) fun r370 m370 => zb (f_X11_counts F m370) fun r374 m374 => if r370 = r374 then (rec18 m374 ((x + 6))) else (some (0, m374))) else (if ((Z.2.2.2.2 x.toNatClampNeg) &&& 63) = 4 then (zg (inb ((x + 1)) Z.2.2.2.1) (zg (inb ((x + 2)) Z.2.2.2.1) (zg (inb ((x + 3)) Z.2.2.2.1) (zb (f_X10_right F σ ((Z.2.2.2.2 ((x + 1)).toNatClampNeg)) ((Z.2.2.2.2 ((x + 2)).toNatClampNeg)) ((Z.2.2.2.2 ((x + 3)).toNatClampNeg))) fun r398 m398 => zg (inb ((x + 1)) Z.2.2.2.1) (zg (inb ((x + 2)) Z.2.2.2.1) (zg (inb ((x + 3)) Z.2.2.2.1) (zb (f_X11_right F m398 ((Z.2.2.2.2 ((x + 1)).toNatClampNeg)) ((Z.2.2.2.2 ((x + 2)).toNatClampNeg)) ((Z.2.2.2.2 ((x + 3)).toNatClampNeg))) fun r417 m417 => if r398 = r417 then (rec18 m417 ((x + 6))) else (some (0, m417))))))))) else (if ((Z.2.2.2.2 x.toNatClampNeg) &&& 63) = 5 then (zg (inb ((x + 1)) Z.2.2.2.1) (zg (inb ((x + 2)) Z.2.2.2.1) (zb (f_X10_split F σ ((Z.2.2.2.2 ((x + 1)).toNatClampNeg)) ((Z.2.2.2.2 ((x + 2)).toNatClampNeg))) fun r436 m436 => zg (inb ((x + 1)) Z.2.2.2.1) (zg (inb ((x + 2)) Z.2.2.2.1) (zb (f_X11_split F m436 ((Z.2.2.2.2 ((x + 1)).toNatClampNeg)) ((Z.2.2.2.2 ((x + 2)).toNatClampNeg))) fun r450 m450 => if r436 = r450 then (rec18 m450 ((x + 6))) else (some (0, m450))))))) else (if ((Z.2.2.2.2 x.toNatClampNeg) &&& 63) = 6 then (zg (inb ((x + 1)) Z.2.2.2.1) (zg (inb ((x + 2)) Z.2.2.2.1) (zb (f_X10_join F σ ((Z.2.2.2.2 ((x + 1)).toNatClampNeg)) ((Z.2.2.2.2 ((x + 2)).toNatClampNeg))) fun r469 m469 => zg (inb ((x + 1)) Z.2.2.2.1) (zg (inb ((x + 2)) Z.2.2.2.1) (zb (f_X11_join F m469 ((Z.2.2.2.2 ((x + 1)).toNatClampNeg)) ((Z.2.2.2.2 ((x + 2)).toNatClampNeg))) fun r483 m483 => if r469 = r483 then (rec18 m483 ((x + 6))) else (some (0, m483))))))) else (if ((Z.2.2.2.2 x.toNatClampNeg) &&& 63) = 7 then (zg (inb ((x + 1)) Z.2.2.2.1) (zg (inb ((x + 2)) Z.2.2.2.1) (zg (inb ((x + 3)) Z.2.2.2.1) (zb (f_X10_lend F σ ((Z.2.2.2.2 ((x + 1)).toNatClampNeg)) ((Z.2.2.2.2 ((x + 2)).toNatClampNeg)) ((Z.2.2.2.2 ((x + 3)).toNatClampNeg))) fun r507 m507 => zg (inb ((x + 1)) Z.2.2.2.1) (zg (inb ((x + 2)) Z.2.2.2.1) (zg (inb ((x + 3)) Z.2.2.2.1) (zb (f_X11_lend F m507 ((Z.2.2.2.2 ((x + 1)).toNatClampNeg)) ((Z.2.2.2.2 ((x + 2)).toNatClampNeg)) ((Z.2.2.2.2 ((x + 3)).toNatClampNeg))) fun r526 m526 => if r507 = r526 then (rec18 m526 ((x + 6))) else (some (0, m526))))))))) else (if ((Z.2.2.2.2 x.toNatClampNeg) &&& 63) = 8 then (zg (inb ((x + 1)) Z.2.2.2.1) (zg (inb ((x + 2)) Z.2.2.2.1) (zb (f_X10_leave F σ ((Z.2.2.2.2 ((x + 1)).toNatClampNeg)) ((Z.2.2.2.2 ((x + 2)).toNatClampNeg))) fun r545 m545 => zg (inb ((x + 1)) Z.2.2.2.1) (zg (inb ((x + 2)) Z.2.2.2.1) (zb (f_X11_leave F m545 ((Z.2.2.2.2 ((x + 1)).toNatClampNeg)) ((Z.2.2.2.2 ((x + 2)).toNatClampNeg))) fun r559 m559 => if r545 = r559 then (rec18 m559 ((x + 6))) else (some (0, m559))))))) else (if ((Z.2.2.2.2 x.toNatClampNeg) &&& 63) = 9 then (zg (inb ((x + 1)) Z.2.2.2.1) (zg (inb ((x + 2)) Z.2.2.2.1) (zb (f_X10_rightOf F σ ((Z.2.2.2.2 ((x + 1)).toNatClampNeg)) ((Z.2.2.2.2 ((x + 2)).toNatClampNeg))) fun r578 m578 => zg (inb ((x + 1)) Z.2.2.2.1) (zg (inb ((x + 2)) Z.2.2.2.1) (zb (f_X11_rightOf F m578 ((Z.2.2.2.2 ((x + 1)).toNatClampNeg)) ((Z.2.2.2.2 ((x + 2)).toNatClampNeg))) fun r592 m592 => if r578 = r592 then (rec18 m592 ((x + 6))) else (some (0, m592))))))) else (if ((Z.2.2.2.2 x.toNatClampNeg) &&& 63) = 10 then (zg (inb ((x + 1)) Z.2.2.2.1) (zg (inb ((x + 2)) Z.2.2.2.1) (zb (f_X10_parts F σ ((Z.2.2.2.2 ((x + 1)).toNatClampNeg)) ((Z.2.2.2.2 ((x + 2)).toNatClampNeg))) fun r611 m611 => zg (inb ((x + 1)) Z.2.2.2.1) (zg (inb ((x + 2)) Z.2.2.2.1) (zb (f_X11_parts F m611 ((Z.2.2.2.2 ((x + 1)).toNatClampNeg)) ((Z.2.2.2.2 ((x + 2)).toNatClampNeg))) fun r625 m625 => if r611 = r625 then (rec18 m625 ((x + 6))) else (some (0, m625))))))) else (if ((Z.2.2.2.2 x.toNatClampNeg) &&& 63) = 11 then (zg (inb ((x + 1)) Z.2.2.2.1) (zg (inb ((x + 2)) Z.2.2.2.1) (zb (f_X10_feed F σ ((Z.2.2.2.2 ((x + 1)).toNatClampNeg)) ((Z.2.2.2.2 ((x + 2)).toNatClampNeg))) fun r644 m644 => zg (inb ((x + 1)) Z.2.2.2.1) (zg (inb ((x + 2)) Z.2.2.2.1) (zb (f_X11_feed F m644 ((Z.2.2.2.2 ((x + 1)).toNatClampNeg)) ((Z.2.2.2.2 ((x + 2)).toNatClampNeg))) fun r658 m658 => if r644 = r658 then (rec18 m658 ((x + 6))) else (some (0, m658))))))) else (if ((Z.2.2.2.2 x.toNatClampNeg) &&& 63) = 12 then (zg (inb ((x + 1)) Z.2.2.2.1) (zg (inb ((x + 2)) Z.2.2.2.1) (zb (f_X10_vote F σ ((Z.2.2.2.2 ((x + 1)).toNatClampNeg)) ((Z.2.2.2.2 ((x + 2)).toNatClampNeg))) fun r677 m677 => zg (inb ((x + 1)) Z.2.2.2.1) (zg (inb ((x + 2)) Z.2.2.2.1) (zb (f_X11_vote F m677 ((Z.2.2.2.2 ((x + 1)).toNatClampNeg)) ((Z.2.2.2.2 ((x + 2)).toNatClampNeg))) fun r691 m691 => if r677 = r691 then (rec18 m691 ((x + 6))) else (some (0, m691))))))) else (if ((Z.2.2.2.2 x.toNatClampNeg) &&& 63) = 13 then (zg (inb ((x + 1)) Z.2.2.2.1) (zb (f_X10_voids F σ ((Z.2.2.2.2 ((x + 1)).toNatClampNeg))) fun r705 m705 => zg (inb ((x + 1)) Z.2.2.2.1) (zb (f_X11_voids F m705 ((Z.2.2.2.2 ((x + 1)).toNatClampNeg))) fun r714 m714 => if r705 = r714 then (rec18 m714 ((x + 6))) else (some (0, m714))))) else (if ((Z.2.2.2.2 x.toNatClampNeg) &&& 63) = 14 then (zg (inb ((x + 1)) Z.2.2.2.1) (zg (inb ((x + 2)) Z.2.2.2.1) (zg (inb ((x + 3)) Z.2.2.2.1) (zg (inb ((x + 4)) Z.2.2.2.1) (zb (f_X10_value F σ ((Z.2.2.2.2 ((x + 1)).toNatClampNeg)) ((Z.2.2.2.2 ((x + 2)).toNatClampNeg)) ((Z.2.2.2.2 ((x + 3)).toNatClampNeg)) ((Z.2.2.2.2 ((x + 4)).toNatClampNeg))) fun r743 m743 => zg (inb ((x + 1)) Z.2.2.2.1) (zg (inb ((x + 2)) Z.2.2.2.1) (zg (inb ((x + 3)) Z.2.2.2.1) (zg (inb ((x + 4)) Z.2.2.2.1) (zb (f_X11_value F m743 ((Z.2.2.2.2 ((x + 1)).toNatClampNeg)) ((Z.2.2.2.2 ((x + 2)).toNatClampNeg)) ((Z.2.2.2.2 ((x + 3)).toNatClampNeg)) ((Z.2.2.2.2 ((x + 4)).toNatClampNeg))) fun r767 m767 => if r743 = r767 then (rec18 m767 ((x + 6))) else (some (0, m767))))))))))) else (if ((Z.2.2.2.2 x.toNatClampNeg) &&& 63) = 15 then (zg (inb ((x + 1)) Z.2.2.2.1) (zg (inb ((x + 2)) Z.2.2.2.1) (zg (inb ((x + 3)) Z.2.2.2.1) (zg (inb ((x + 4)) Z.2.2.2.1) (zb (f_X10_why F σ ((Z.2.2.2.2 ((x + 1)).toNatClampNeg)) ((Z.2.2.2.2 ((x + 2)).toNatClampNeg)) ((Z.2.2.2.2 ((x + 3)).toNatClampNeg)) ((Z.2.2.2.2 ((x + 4)).toNatClampNeg))) fun r796 m796 => zg (inb ((x + 1)) Z.2.2.2.1) (zg (inb ((x + 2)) Z.2.2.2.1) (zg (inb ((x + 3)) Z.2.2.2.1) (zg (inb ((x + 4)) Z.2.2.2.1) (zb (f_X11_why F m796 ((Z.2.2.2.2 ((x + 1)).toNatClampNeg)) ((Z.2.2.2.2 ((x + 2)).toNatClampNeg)) ((Z.2.2.2.2 ((x + 3)).toNatClampNeg)) ((Z.2.2.2.2 ((x + 4)).toNatClampNeg))) fun r820 m820 => if r796 = r820 then (rec18 m820 ((x + 6))) else (some (0, m820))))))))))) else (if ((Z.2.2.2.2 x.toNatClampNeg) &&& 63) = 16 then (zg (inb ((x + 1)) Z.2.2.2.1) (zg (inb ((x + 2)) Z.2.2.2.1) (zg (inb ((x + 3)) Z.2.2.2.1) (zb (f_X10_weather F σ ((Z.2.2.2.2 ((x + 1)).toNatClampNeg)) ((Z.2.2.2.2 ((x + 2)).toNatClampNeg)) ((Z.2.2.2.2 ((x + 3)).toNatClampNeg))) fun r844 m844 => zg (inb ((x + 1)) Z.2.2.2.1) (zg (inb ((x + 2)) Z.2.2.2.1) (zg (inb ((x + 3)) Z.2.2.2.1) (zb (f_X11_weather F m844 ((Z.2.2.2.2 ((x + 1)).toNatClampNeg)) ((Z.2.2.2.2 ((x + 2)).toNatClampNeg)) ((Z.2.2.2.2 ((x + 3)).toNatClampNeg))) fun r863 m863 => if r844 = r863 then (rec18 m863 ((x + 6))) else (some (0, m863))))))))) else (if ((Z.2.2.2.2 x.toNatClampNeg) &&& 63) = 17 then (zg (inb ((x + 1)) Z.2.2.2.1) (zg (inb ((x + 2)) Z.2.2.2.1) (zg (inb ((x + 3)) Z.2.2.2.1) (zg (inb ((x + 4)) Z.2.2.2.1) (zg (inb ((x + 5)) Z.2.2.2.1) (zb (f_X10_sky F σ ((Z.2.2.2.2 ((x + 1)).toNatClampNeg)) ((Z.2.2.2.2 ((x + 2)).toNatClampNeg)) ((Z.2.2.2.2 ((x + 3)).toNatClampNeg)) ((Z.2.2.2.2 ((x + 4)).toNatClampNeg)) ((Z.2.2.2.2 ((x + 5)).toNatClampNeg))) fun r897 m897 => zg (inb ((x + 1)) Z.2.2.2.1) (zg (inb ((x + 2)) Z.2.2.2.1) (zg (inb ((x + 3)) Z.2.2.2.1) (zg (inb ((x + 4)) Z.2.2.2.1) (zg (inb ((x + 5)) Z.2.2.2.1) (zb (f_X11_sky F m897 ((Z.2.2.2.2 ((x + 1)).toNatClampNeg)) ((Z.2.2.2.2 ((x + 2)).toNatClampNeg)) ((Z.2.2.2.2 ((x + 3)).toNatClampNeg)) ((Z.2.2.2.2 ((x + 4)).toNatClampNeg)) ((Z.2.2.2.2 ((x + 5)).toNatClampNeg))) fun r926 m926 => if r897 = r926 then (rec18 m926 ((x + 6))) else (some (0, m926))))))))))))) else (if ((Z.2.2.2.2 x.toNatClampNeg) &&& 63) = 18 then (zg (inb ((x + 1)) Z.2.2.2.1) (zg (inb ((x + 2)) Z.2.2.2.1) (zb (f_X10_skyOf F σ ((Z.2.2.2.2 ((x + 1)).toNatClampNeg)) ((Z.2.2.2.2 ((x + 2)).toNatClampNeg))) fun r945 m945 => zg (inb ((x + 1)) Z.2.2.2.1) (zg (inb ((x + 2)) Z.2.2.2.1) (zb (f_X11_skyOf F m945 ((Z.2.2.2.2 ((x + 1)).toNatClampNeg)) ((Z.2.2.2.2 ((x + 2)).toNatClampNeg))) fun r959 m959 => if r945 = r959 then (rec18 m959 ((x + 6))) else (some (0, m959))))))) else (if ((Z.2.2.2.2 x.toNatClampNeg) &&& 63) = 19 then (zg (inb ((x + 1)) Z.2.2.2.1) (zg (inb ((x + 2)) Z.2.2.2.1) (zb (f_X10_alp F σ ((Z.2.2.2.2 ((x + 1)).toNatClampNeg)) ((Z.2.2.2.2 ((x + 2)).toNatClampNeg))) fun r978 m978 => zg (inb ((x + 1)) Z.2.2.2.1) (zg (inb ((x + 2)) Z.2.2.2.1) (zb (f_X11_alp F m978 ((Z.2.2.2.2 ((x + 1)).toNatClampNeg)) ((Z.2.2.2.2 ((x + 2)).toNatClampNeg))) fun r992 m992 => if r978 = r992 then (rec18 m992 ((x + 6))) else (some (0, m992))))))) else (if ((Z.2.2.2.2 x.toNatClampNeg) &&& 63) = 20 then (zg (inb ((x + 1)) Z.2.2.2.1) (zg (inb ((x + 2)) Z.2.2.2.1) (zb (f_X10_alpOf F σ ((Z.2.2.2.2 ((x + 1)).toNatClampNeg)) ((Z.2.2.2.2 ((x + 2)).toNatClampNeg))) fun r1011 m1011 => zg (inb ((x + 1)) Z.2.2.2.1) (zg (inb ((x + 2)) Z.2.2.2.1) (zb (f_X11_alpOf F m1011 ((Z.2.2.2.2 ((x + 1)).toNatClampNeg)) ((Z.2.2.2.2 ((x + 2)).toNatClampNeg))) fun r1025 m1025 => if r1011 = r1025 then (rec18 m1025 ((x + 6))) else (some (0, m1025))))))) else (if ((Z.2.2.2.2 x.toNatClampNeg) &&& 63) = 21 then (zg (inb ((x + 1)) Z.2.2.2.1) (zg (inb ((x + 2)) Z.2.2.2.1) (zg (inb ((x + 3)) Z.2.2.2.1) (zb (f_X10_drive F σ ((Z.2.2.2.2 ((x + 1)).toNatClampNeg)) ((Z.2.2.2.2 ((x + 2)).toNatClampNeg)) ((Z.2.2.2.2 ((x + 3)).toNatClampNeg))) fun r1049 m1049 => zg (inb ((x + 1)) Z.2.2.2.1) (zg (inb ((x + 2)) Z.2.2.2.1) (zg (inb ((x + 3)) Z.2.2.2.1) (zb (f_X11_drive F m1049 ((Z.2.2.2.2 ((x + 1)).toNatClampNeg)) ((Z.2.2.2.2 ((x + 2)).toNatClampNeg)) ((Z.2.2.2.2 ((x + 3)).toNatClampNeg))) fun r1068 m1068 => if r1049 = r1068 then (rec18 m1068 ((x + 6))) else (some (0, m1068))))))))) else (if ((Z.2.2.2.2 x.toNatClampNeg) &&& 63) = 22 then (zg (inb ((x + 1)) Z.2.2.2.1) (zg (inb ((x + 2)) Z.2.2.2.1) (zg (inb ((x + 3)) Z.2.2.2.1) (zb (f_X10_home F σ ((Z.2.2.2.2 ((x + 1)).toNatClampNeg)) ((Z.2.2.2.2 ((x + 2)).toNatClampNeg)) ((Z.2.2.2.2 ((x + 3)).toNatClampNeg))) fun r1092 m1092 => zg (inb ((x + 1)) Z.2.2.2.1) (zg (inb ((x + 2)) Z.2.2.2.1) (zg (inb ((x + 3)) Z.2.2.2.1) (zb (f_X11_home F m1092 ((Z.2.2.2.2 ((x + 1)).toNatClampNeg)) ((Z.2.2.2.2 ((x + 2)).toNatClampNeg)) ((Z.2.2.2.2 ((x + 3)).toNatClampNeg))) fun r1111 m1111 => if r1092 = r1111 then (rec18 m1111 ((x + 6))) else (some (0, m1111))))))))) else (if ((Z.2.2.2.2 x.toNatClampNeg) &&& 63) = 23 then (zg (inb ((x + 1)) Z.2.2.2.1) (zg (inb ((x + 2)) Z.2.2.2.1) (zb (f_X10_book F σ ((Z.2.2.2.2 ((x + 1)).toNatClampNeg)) ((Z.2.2.2.2 ((x + 2)).toNatClampNeg))) fun r1130 m1130 => zg (inb ((x + 1)) Z.2.2.2.1) (zg (inb ((x + 2)) Z.2.2.2.1) (zb (f_X11_book F m1130 ((Z.2.2.2.2 ((x + 1)).toNatClampNeg)) ((Z.2.2.2.2 ((x + 2)).toNatClampNeg))) fun r1144 m1144 => if r1130 = r1144 then (rec18 m1144 ((x + 6))) else (some (0, m1144))))))) else (if ((Z.2.2.2.2 x.toNatClampNeg) &&& 63) = 24 then (zg (inb ((x + 1)) Z.2.2.2.1) (zb (f_X10_days F σ ((Z.2.2.2.2 ((x + 1)).toNatClampNeg))) fun r1158 m1158 => zg (inb ((x + 1)) Z.2.2.2.1) (zb (f_X11_days F m1158 ((Z.2.2.2.2 ((x + 1)).toNatClampNeg))) fun r1167 m1167 => if r1158 = r1167 then (rec18 m1167 ((x + 6))) else (some (0, m1167))))) else (if ((Z.2.2.2.2 x.toNatClampNeg) &&& 63) = 25 then (zg (inb ((x + 1)) Z.2.2.2.1) (zb (f_X10_slope F σ ((Z.2.2.2.2 ((x + 1)).toNatClampNeg))) fun r1181 m1181 => zg (inb ((x + 1)) Z.2.2.2.1) (zb (f_X11_slope F m1181 ((Z.2.2.2.2 ((x + 1)).toNatClampNeg))) fun r1190 m1190 => if r1181 = r1190 then (rec18 m1190 ((x + 6))) else (some (0, m1190))))) else (if ((Z.2.2.2.2 x.toNatClampNeg) &&& 63) = 26 then (zg (inb ((x + 1)) Z.2.2.2.1) (zg (inb ((x + 2)) Z.2.2.2.1) (zb (f_X10_slopeOf F σ ((Z.2.2.2.2 ((x + 1)).toNatClampNeg)) ((Z.2.2.2.2 ((x + 2)).toNatClampNeg))) fun r1209 m1209 => zg (inb ((x + 1)) Z.2.2.2.1) (zg (inb ((x + 2)) Z.2.2.2.1) (zb (f_X11_slopeOf F m1209 ((Z.2.2.2.2 ((x + 1)).toNatClampNeg)) ((Z.2.2.2.2 ((x + 2)).toNatClampNeg))) fun r1223 m1223 => if r1209 = r1223 then (rec18 m1223 ((x + 6))) else (some (0, m1223))))))) else (if ((Z.2.2.2.2 x.toNatClampNeg) &&& 63) = 27 then (zg (inb ((x + 1)) Z.2.2.2.1) (zg (inb ((x + 2)) Z.2.2.2.1) (if (Z.2.2.2.2 ((x + 2)).toNatClampNeg) = 0 then (f_L_law_1250 F Z rec18 σ x 0 ((Z.2.2.2.2 ((x + 1)).toNatClampNeg))) else (f_L_law_1250 F Z rec18 σ x 1 ((Z.2.2.2.2 ((x + 1)).toNatClampNeg)))))) else (if ((Z.2.2.2.2 x.toNatClampNeg) &&& 63) = 28 then (zg (inb ((x + 1)) Z.2.2.2.1) (if (Z.2.2.2.2 ((x + 1)).toNatClampNeg) = 0 then (f_L_law_1294 F Z rec18 σ x 0) else (f_L_law_1294 F Z rec18 σ x 1))) else (if ((Z.2.2.2.2 x.toNatClampNeg) &&& 63) = 29 then (zb (f_X10_measure F σ) fun r1320 m1320 => zb (f_X11_measure F m1320) fun r1324 m1324 => if r1320 = r1324 then (rec18 m1324 ((x + 6))) else (some (0, m1324))) else (if ((Z.2.2.2.2 x.toNatClampNeg) &&& 63) = 30 then (zg (inb ((x + 1)) Z.2.2.2.1) (zb (f_X10_cheese F σ ((Z.2.2.2.2 ((x + 1)).toNatClampNeg))) fun r1338 m1338 => zg (inb ((x + 1)) Z.2.2.2.1) (zb (f_X11_cheese F m1338 ((Z.2.2.2.2 ((x + 1)).toNatClampNeg))) fun r1347 m1347 => if r1338 = r1347 then (rec18 m1347 ((x + 6))) else (some (0, m1347))))) else (if ((Z.2.2.2.2 x.toNatClampNeg) &&& 63) = 31 then (zg (inb ((x + 1)) Z.2.2.2.1) (zb (f_X10_rest F σ ((Z.2.2.2.2 ((x + 1)).toNatClampNeg))) fun r1361 m1361 => zg (inb ((x + 1)) Z.2.2.2.1) (zb (f_X11_rest F m1361 ((Z.2.2.2.2 ((x + 1)).toNatClampNeg))) fun r1370 m1370 => if r1361 = r1370 then (rec18 m1370 ((x + 6))) else (some (0, m1370))))) else (if ((Z.2.2.2.2 x.toNatClampNeg) &&& 63) = 32 then (zg (inb ((x + 1)) Z.2.2.2.1) (zg (inb ((x + 2)) Z.2.2.2.1) (zb (f_X10_fell F σ ((Z.2.2.2.2 ((x + 1)).toNatClampNeg)) ((Z.2.2.2.2 ((x + 2)).toNatClampNeg))) fun r1389 m1389 => zg (inb ((x + 1)) Z.2.2.2.1) (zg (inb ((x + 2)) Z.2.2.2.1) (zb (f_X11_fell F m1389 ((Z.2.2.2.2 ((x + 1)).toNatClampNeg)) ((Z.2.2.2.2 ((x + 2)).toNatClampNeg))) fun r1403 m1403 => if r1389 = r1403 then (rec18 m1403 ((x + 6))) else (some (0, m1403))))))) else (if ((Z.2.2.2.2 x.toNatClampNeg) &&& 63) = 33 then (zg (inb ((x + 1)) Z.2.2.2.1) (zg (inb ((x + 2)) Z.2.2.2.1) (zg (inb ((x + 3)) Z.2.2.2.1) (zb (f_X10_channel F σ ((Z.2.2.2.2 ((x + 1)).toNatClampNeg)) ((Z.2.2.2.2 ((x + 2)).toNatClampNeg)) ((Z.2.2.2.2 ((x + 3)).toNatClampNeg))) fun r1427 m1427 => zg (inb ((x + 1)) Z.2.2.2.1) (zg (inb ((x + 2)) Z.2.2.2.1) (zg (inb ((x + 3)) Z.2.2.2.1) (zb (f_X11_channel F m1427 ((Z.2.2.2.2 ((x + 1)).toNatClampNeg)) ((Z.2.2.2.2 ((x + 2)).toNatClampNeg)) ((Z.2.2.2.2 ((x + 3)).toNatClampNeg))) fun r1446 m1446 => if r1427 = r1446 then (rec18 m1446 ((x + 6))) else (some (0, m1446))))))))) else (if ((Z.2.2.2.2 x.toNatClampNeg) &&& 63) = 34 then (zg (inb ((x + 1)) Z.2.2.2.1) (zb (f_X10_hour F σ ((Z.2.2.2.2 ((x + 1)).toNatClampNeg))) fun r1460 m1460 => zg (inb ((x + 1)) Z.2.2.2.1) (zb (f_X11_hour F m1460 ((Z.2.2.2.2 ((x + 1)).toNatClampNeg))) fun r1469 m1469 => if r1460 = r1469 then (rec18 m1469 ((x + 6))) else (some (0, m1469))))) else (if ((Z.2.2.2.2 x.toNatClampNeg) &&& 63) = 35 then (zg (inb ((x + 1)) Z.2.2.2.1) (zg (inb ((x + 2)) Z.2.2.2.1) (zg (inb ((x + 3)) Z.2.2.2.1) (zb (f_X10_gets F σ ((Z.2.2.2.2 ((x + 1)).toNatClampNeg)) ((Z.2.2.2.2 ((x + 2)).toNatClampNeg)) ((Z.2.2.2.2 ((x + 3)).toNatClampNeg))) fun r1493 m1493 => zg (inb ((x + 1)) Z.2.2.2.1) (zg (inb ((x + 2)) Z.2.2.2.1) (zg (inb ((x + 3)) Z.2.2.2.1) (zb (f_X11_gets F m1493 ((Z.2.2.2.2 ((x + 1)).toNatClampNeg)) ((Z.2.2.2.2 ((x + 2)).toNatClampNeg)) ((Z.2.2.2.2 ((x + 3)).toNatClampNeg))) fun r1512 m1512 => if r1493 = r1512 then (rec18 m1512 ((x + 6))) else (some (0, m1512))))))))) else (if ((Z.2.2.2.2 x.toNatClampNeg) &&& 63) = 36 then (zg (inb ((x + 1)) Z.2.2.2.1) (zb (f_X10_turn F σ ((Z.2.2.2.2 ((x + 1)).toNatClampNeg))) fun r1526 m1526 => zg (inb ((x + 1)) Z.2.2.2.1) (zb (f_X11_turn F m1526 ((Z.2.2.2.2 ((x + 1)).toNatClampNeg))) fun r1535 m1535 => if r1526 = r1535 then (rec18 m1535 ((x + 6))) else (some (0, m1535))))) else (if ((Z.2.2.2.2 x.toNatClampNeg) &&& 63) = 37 then (zg (inb ((x + 1)) Z.2.2.2.1) (zg (inb ((x + 2)) Z.2.2.2.1) (zb (f_X10_work F σ ((Z.2.2.2.2 ((x + 1)).toNatClampNeg)) ((Z.2.2.2.2 ((x + 2)).toNatClampNeg))) fun r1554 m1554 => zg (inb ((x + 1)) Z.2.2.2.1) (zg (inb ((x + 2)) Z.2.2.2.1) (zb (f_X11_work F m1554 ((Z.2.2.2.2 ((x + 1)).toNatClampNeg)) ((Z.2.2.2.2 ((x + 2)).toNatClampNeg))) fun r1568 m1568 => if r1554 = r1568 then (rec18 m1568 ((x + 6))) else (some (0, m1568))))))) else (if ((Z.2.2.2.2 x.toNatClampNeg) &&& 63) = 38 then (zb (f_X10_year F σ) fun r1577 m1577 => zb (f_X11_year F m1577) fun r1581 m1581 => if r1577 = r1581 then (rec18 m1581 ((x + 6))) else (some (0, m1581))) else (if ((Z.2.2.2.2 x.toNatClampNeg) &&& 63) = 39 then (zg (inb ((x + 1)) Z.2.2.2.1) (zg (inb ((x + 2)) Z.2.2.2.1) (zg (inb ((x + 3)) Z.2.2.2.1) (zb (f_X10_plan F σ ((Z.2.2.2.2 ((x + 1)).toNatClampNeg)) ((Z.2.2.2.2 ((x + 2)).toNatClampNeg)) ((Z.2.2.2.2 ((x + 3)).toNatClampNeg))) fun r1605 m1605 => zg (inb ((x + 1)) Z.2.2.2.1) (zg (inb ((x + 2)) Z.2.2.2.1) (zg (inb ((x + 3)) Z.2.2.2.1) (zb (f_X11_plan F m1605 ((Z.2.2.2.2 ((x + 1)).toNatClampNeg)) ((Z.2.2.2.2 ((x + 2)).toNatClampNeg)) ((Z.2.2.2.2 ((x + 3)).toNatClampNeg))) fun r1624 m1624 => if r1605 = r1624 then (rec18 m1624 ((x + 6))) else (some (0, m1624))))))))) else (if ((Z.2.2.2.2 x.toNatClampNeg) &&& 63) = 40 then (zg (inb ((x + 1)) Z.2.2.2.1) (zg (inb ((x + 2)) Z.2.2.2.1) (zg (inb ((x + 3)) Z.2.2.2.1) (zb (f_X10_act F σ ((Z.2.2.2.2 ((x + 1)).toNatClampNeg)) ((Z.2.2.2.2 ((x + 2)).toNatClampNeg)) ((Z.2.2.2.2 ((x + 3)).toNatClampNeg))) fun r1648 m1648 => zg (inb ((x + 1)) Z.2.2.2.1) (zg (inb ((x + 2)) Z.2.2.2.1) (zg (inb ((x + 3)) Z.2.2.2.1) (zb (f_X11_act F m1648 ((Z.2.2.2.2 ((x + 1)).toNatClampNeg)) ((Z.2.2.2.2 ((x + 2)).toNatClampNeg)) ((Z.2.2.2.2 ((x + 3)).toNatClampNeg))) fun r1667 m1667 => if r1648 = r1667 then (rec18 m1667 ((x + 6))) else (some (0, m1667))))))))) else (if ((Z.2.2.2.2 x.toNatClampNeg) &&& 63) = 41 then (zg (inb ((x + 1)) Z.2.2.2.1) (zb (f_X10_trace F σ ((Z.2.2.2.2 ((x + 1)).toNatClampNeg))) fun r1681 m1681 => zg (inb ((x + 1)) Z.2.2.2.1) (zb (f_X11_trace F m1681 ((Z.2.2.2.2 ((x + 1)).toNatClampNeg))) fun r1690 m1690 => if r1681 = r1690 then (rec18 m1690 ((x + 6))) else (some (0, m1690))))) else (if ((Z.2.2.2.2 x.toNatClampNeg) &&& 63) = 42 then (zg (inb ((x + 1)) Z.2.2.2.1) (zg (inb ((x + 2)) Z.2.2.2.1) (zb (f_X10_taken F σ ((Z.2.2.2.2 ((x + 1)).toNatClampNeg)) ((Z.2.2.2.2 ((x + 2)).toNatClampNeg))) fun r1709 m1709 => zg (inb ((x + 1)) Z.2.2.2.1) (zg (inb ((x + 2)) Z.2.2.2.1) (zb (f_X11_taken F m1709 ((Z.2.2.2.2 ((x + 1)).toNatClampNeg)) ((Z.2.2.2.2 ((x + 2)).toNatClampNeg))) fun r1723 m1723 => if r1709 = r1723 then (rec18 m1723 ((x + 6))) else (some (0, m1723))))))) else (if ((Z.2.2.2.2 x.toNatClampNeg) &&& 63) = 43 then (zg (inb ((x + 1)) Z.2.2.2.1) (zb (f_X10_count F σ ((Z.2.2.2.2 ((x + 1)).toNatClampNeg))) fun r1737 m1737 => zg (inb ((x + 1)) Z.2.2.2.1) (zb (f_X11_count F m1737 ((Z.2.2.2.2 ((x + 1)).toNatClampNeg))) fun r1746 m1746 => if r1737 = r1746 then (rec18 m1746 ((x + 6))) else (some (0, m1746))))) else (if ((Z.2.2.2.2 x.toNatClampNeg) &&& 63) = 44 then (zg (inb ((x + 1)) Z.2.2.2.1) (zg (inb ((x + 2)) Z.2.2.2.1) (zg (inb ((x + 3)) Z.2.2.2.1) (zb (f_X10_sheet F σ ((Z.2.2.2.2 ((x + 1)).toNatClampNeg)) ((Z.2.2.2.2 ((x + 2)).toNatClampNeg)) ((Z.2.2.2.2 ((x + 3)).toNatClampNeg))) fun r1770 m1770 => zg (inb ((x + 1)) Z.2.2.2.1) (zg (inb ((x + 2)) Z.2.2.2.1) (zg (inb ((x + 3)) Z.2.2.2.1) (zb (f_X11_sheet F m1770 ((Z.2.2.2.2 ((x + 1)).toNatClampNeg)) ((Z.2.2.2.2 ((x + 2)).toNatClampNeg)) ((Z.2.2.2.2 ((x + 3)).toNatClampNeg))) fun r1789 m1789 => if r1770 = r1789 then (rec18 m1789 ((x + 6))) else (some (0, m1789))))))))) else (if ((Z.2.2.2.2 x.toNatClampNeg) &&& 63) = 45 then (zg (inb ((x + 1)) Z.2.2.2.1) (zg (inb ((x + 2)) Z.2.2.2.1) (zg (inb ((x + 3)) Z.2.2.2.1) (zb (f_X10_cell F σ ((Z.2.2.2.2 ((x + 1)).toNatClampNeg)) ((Z.2.2.2.2 ((x + 2)).toNatClampNeg)) ((Z.2.2.2.2 ((x + 3)).toNatClampNeg))) fun r1813 m1813 => zg (inb ((x + 1)) Z.2.2.2.1) (zg (inb ((x + 2)) Z.2.2.2.1) (zg (inb ((x + 3)) Z.2.2.2.1) (zb (f_X11_cell F m1813 ((Z.2.2.2.2 ((x + 1)).toNatClampNeg)) ((Z.2.2.2.2 ((x + 2)).toNatClampNeg)) ((Z.2.2.2.2 ((x + 3)).toNatClampNeg))) fun r1832 m1832 => if r1813 = r1832 then (rec18 m1832 ((x + 6))) else (some (0, m1832))))))))) else (if ((Z.2.2.2.2 x.toNatClampNeg) &&& 63) = 46 then (zg (inb ((x + 1)) Z.2.2.2.1) (zg (inb ((x + 2)) Z.2.2.2.1) (zb (f_X10_lose F σ ((Z.2.2.2.2 ((x + 1)).toNatClampNeg)) ((Z.2.2.2.2 ((x + 2)).toNatClampNeg))) fun r1851 m1851 => zg (inb ((x + 1)) Z.2.2.2.1) (zg (inb ((x + 2)) Z.2.2.2.1) (zb (f_X11_lose F m1851 ((Z.2.2.2.2 ((x + 1)).toNatClampNeg)) ((Z.2.2.2.2 ((x + 2)).toNatClampNeg))) fun r1865 m1865 => if r1851 = r1865 then (rec18 m1865 ((x + 6))) else (some (0, m1865))))))) else (if ((Z.2.2.2.2 x.toNatClampNeg) &&& 63) = 47 then (zg (inb ((x + 1)) Z.2.2.2.1) (zg (inb ((x + 2)) Z.2.2.2.1) (zg (inb ((x + 3)) Z.2.2.2.1) (zg (inb ((x + 4)) Z.2.2.2.1) (zg (inb ((x + 5)) Z.2.2.2.1) (zb (f_X10_copy F σ ((Z.2.2.2.2 ((x + 1)).toNatClampNeg)) ((Z.2.2.2.2 ((x + 2)).toNatClampNeg)) ((Z.2.2.2.2 ((x + 3)).toNatClampNeg)) ((Z.2.2.2.2 ((x + 4)).toNatClampNeg)) ((Z.2.2.2.2 ((x + 5)).toNatClampNeg))) fun r1899 m1899 => zg (inb ((x + 1)) Z.2.2.2.1) (zg (inb ((x + 2)) Z.2.2.2.1) (zg (inb ((x + 3)) Z.2.2.2.1) (zg (inb ((x + 4)) Z.2.2.2.1) (zg (inb ((x + 5)) Z.2.2.2.1) (zb (f_X11_copy F m1899 ((Z.2.2.2.2 ((x + 1)).toNatClampNeg)) ((Z.2.2.2.2 ((x + 2)).toNatClampNeg)) ((Z.2.2.2.2 ((x + 3)).toNatClampNeg)) ((Z.2.2.2.2 ((x + 4)).toNatClampNeg)) ((Z.2.2.2.2 ((x + 5)).toNatClampNeg))) fun r1928 m1928 => if r1899 = r1928 then (rec18 m1928 ((x + 6))) else (some (0, m1928))))))))))))) else none))))))))))))))))))))))))))))))))))))))))))))))))))
set_option maxHeartbeats 4000000 in
set_option maxRecDepth 100000 in
theorem c_L_law_18 (F : Nat) (Z : zLay) {E : zEn} {h : Nat} {QQ : Int32 → zMem → State → Prop} (hret : ∀ (pc : Nat) (L : List (Nat × Value)) (x : Int32) (σ : zMem), decode cL_law pc = .ok (.ireturn, 1) → zKO E 4 Z QQ pc L [.int x] σ (some (x, σ))) (C : zCx E cL_law RL 4 (some .boolean) Z h) (hh : 11 ≤ h) : ∀ (n : Nat) (σ : zMem) (x : Int32), zKO E 4 Z QQ 18 [(0, .ref (zad Z 170 0)), (1, .ref (zad Z 0 0)), (2, .ref (zad Z 60 0)), (3, .int x)] [] σ (zit (f_L_law_18 F Z) n σ x) := by
  refine zr_loop (LL := fun (x : Int32) => [(0, .ref (zad Z 170 0)), (1, .ref (zad Z 0 0)), (2, .ref (zad Z 60 0)), (3, .int x)]) (ST := fun (x : Int32) => []) (fun rec18 hrec18 σ x => ?_)
  obtain ⟨l3, h9⟩ : ∃ y, y = x := ⟨x, rfl⟩
  subst h9
  show zKO E 4 Z QQ 18 [(0, .ref (zad Z 170 0)), (1, .ref (zad Z 0 0)), (2, .ref (zad Z 60 0)), (3, .int l3)] [] σ (if ((Z.2.2.2.1.toInt32) - 6) < l3 then (some (1, σ)) else (zg (inb l3 Z.2.2.2.1) (if (((Z.2.2.2.2 l3.toNatClampNeg) &&& 63)).toInt < 0 ∨ 47 < (((Z.2.2.2.2 l3.toNatClampNeg) &&& 63)).toInt then (rec18 σ ((l3 + 6))) else (if ((Z.2.2.2.2 l3.toNatClampNeg) &&& 63) = 0 then (zg (inb ((l3 + 1)) Z.2.2.2.1) (zg (inb ((l3 + 2)) Z.2.2.2.1) (zg (inb ((l3 + 3)) Z.2.2.2.1) (zg (inb ((l3 + 4)) Z.2.2.2.1) (zb (f_X10_house F σ ((Z.2.2.2.2 ((l3 + 1)).toNatClampNeg)) ((Z.2.2.2.2 ((l3 + 2)).toNatClampNeg)) ((Z.2.2.2.2 ((l3 + 3)).toNatClampNeg)) ((Z.2.2.2.2 ((l3 + 4)).toNatClampNeg))) fun r261 m261 => zg (inb ((l3 + 1)) Z.2.2.2.1) (zg (inb ((l3 + 2)) Z.2.2.2.1) (zg (inb ((l3 + 3)) Z.2.2.2.1) (zg (inb ((l3 + 4)) Z.2.2.2.1) (zb (f_X11_house F m261 ((Z.2.2.2.2 ((l3 + 1)).toNatClampNeg)) ((Z.2.2.2.2 ((l3 + 2)).toNatClampNeg)) ((Z.2.2.2.2 ((l3 + 3)).toNatClampNeg)) ((Z.2.2.2.2 ((l3 + 4)).toNatClampNeg))) fun r285 m285 => if r261 = r285 then (rec18 m285 ((l3 + 6))) else (some (0, m285))))))))))) else (if ((Z.2.2.2.2 l3.toNatClampNeg) &&& 63) = 1 then (zg (inb ((l3 + 1)) Z.2.2.2.1) (zg (inb ((l3 + 2)) Z.2.2.2.1) (zg (inb ((l3 + 3)) Z.2.2.2.1) (zb (f_X10_change F σ ((Z.2.2.2.2 ((l3 + 1)).toNatClampNeg)) ((Z.2.2.2.2 ((l3 + 2)).toNatClampNeg)) ((Z.2.2.2.2 ((l3 + 3)).toNatClampNeg))) fun r309 m309 => zg (inb ((l3 + 1)) Z.2.2.2.1) (zg (inb ((l3 + 2)) Z.2.2.2.1) (zg (inb ((l3 + 3)) Z.2.2.2.1) (zb (f_X11_change F m309 ((Z.2.2.2.2 ((l3 + 1)).toNatClampNeg)) ((Z.2.2.2.2 ((l3 + 2)).toNatClampNeg)) ((Z.2.2.2.2 ((l3 + 3)).toNatClampNeg))) fun r328 m328 => if r309 = r328 then (rec18 m328 ((l3 + 6))) else (some (0, m328))))))))) else (if ((Z.2.2.2.2 l3.toNatClampNeg) &&& 63) = 2 then (zg (inb ((l3 + 1)) Z.2.2.2.1) (zg (inb ((l3 + 2)) Z.2.2.2.1) (zb (f_X10_told F σ ((Z.2.2.2.2 ((l3 + 1)).toNatClampNeg)) ((Z.2.2.2.2 ((l3 + 2)).toNatClampNeg))) fun r347 m347 => zg (inb ((l3 + 1)) Z.2.2.2.1) (zg (inb ((l3 + 2)) Z.2.2.2.1) (zb (f_X11_told F m347 ((Z.2.2.2.2 ((l3 + 1)).toNatClampNeg)) ((Z.2.2.2.2 ((l3 + 2)).toNatClampNeg))) fun r361 m361 => if r347 = r361 then (rec18 m361 ((l3 + 6))) else (some (0, m361))))))) else (if ((Z.2.2.2.2 l3.toNatClampNeg) &&& 63) = 3 then (zb (f_X10_counts F σ) fun r370 m370 => zb (f_X11_counts F m370) fun r374 m374 => if r370 = r374 then (rec18 m374 ((l3 + 6))) else (some (0, m374))) else (if ((Z.2.2.2.2 l3.toNatClampNeg) &&& 63) = 4 then (zg (inb ((l3 + 1)) Z.2.2.2.1) (zg (inb ((l3 + 2)) Z.2.2.2.1) (zg (inb ((l3 + 3)) Z.2.2.2.1) (zb (f_X10_right F σ ((Z.2.2.2.2 ((l3 + 1)).toNatClampNeg)) ((Z.2.2.2.2 ((l3 + 2)).toNatClampNeg)) ((Z.2.2.2.2 ((l3 + 3)).toNatClampNeg))) fun r398 m398 => zg (inb ((l3 + 1)) Z.2.2.2.1) (zg (inb ((l3 + 2)) Z.2.2.2.1) (zg (inb ((l3 + 3)) Z.2.2.2.1) (zb (f_X11_right F m398 ((Z.2.2.2.2 ((l3 + 1)).toNatClampNeg)) ((Z.2.2.2.2 ((l3 + 2)).toNatClampNeg)) ((Z.2.2.2.2 ((l3 + 3)).toNatClampNeg))) fun r417 m417 => if r398 = r417 then (rec18 m417 ((l3 + 6))) else (some (0, m417))))))))) else (if ((Z.2.2.2.2 l3.toNatClampNeg) &&& 63) = 5 then (zg (inb ((l3 + 1)) Z.2.2.2.1) (zg (inb ((l3 + 2)) Z.2.2.2.1) (zb (f_X10_split F σ ((Z.2.2.2.2 ((l3 + 1)).toNatClampNeg)) ((Z.2.2.2.2 ((l3 + 2)).toNatClampNeg))) fun r436 m436 => zg (inb ((l3 + 1)) Z.2.2.2.1) (zg (inb ((l3 + 2)) Z.2.2.2.1) (zb (f_X11_split F m436 ((Z.2.2.2.2 ((l3 + 1)).toNatClampNeg)) ((Z.2.2.2.2 ((l3 + 2)).toNatClampNeg))) fun r450 m450 => if r436 = r450 then (rec18 m450 ((l3 + 6))) else (some (0, m450))))))) else (if ((Z.2.2.2.2 l3.toNatClampNeg) &&& 63) = 6 then (zg (inb ((l3 + 1)) Z.2.2.2.1) (zg (inb ((l3 + 2)) Z.2.2.2.1) (zb (f_X10_join F σ ((Z.2.2.2.2 ((l3 + 1)).toNatClampNeg)) ((Z.2.2.2.2 ((l3 + 2)).toNatClampNeg))) fun r469 m469 => zg (inb ((l3 + 1)) Z.2.2.2.1) (zg (inb ((l3 + 2)) Z.2.2.2.1) (zb (f_X11_join F m469 ((Z.2.2.2.2 ((l3 + 1)).toNatClampNeg)) ((Z.2.2.2.2 ((l3 + 2)).toNatClampNeg))) fun r483 m483 => if r469 = r483 then (rec18 m483 ((l3 + 6))) else (some (0, m483))))))) else (if ((Z.2.2.2.2 l3.toNatClampNeg) &&& 63) = 7 then (zg (inb ((l3 + 1)) Z.2.2.2.1) (zg (inb ((l3 + 2)) Z.2.2.2.1) (zg (inb ((l3 + 3)) Z.2.2.2.1) (zb (f_X10_lend F σ ((Z.2.2.2.2 ((l3 + 1)).toNatClampNeg)) ((Z.2.2.2.2 ((l3 + 2)).toNatClampNeg)) ((Z.2.2.2.2 ((l3 + 3)).toNatClampNeg))) fun r507 m507 => zg (inb ((l3 + 1)) Z.2.2.2.1) (zg (inb ((l3 + 2)) Z.2.2.2.1) (zg (inb ((l3 + 3)) Z.2.2.2.1) (zb (f_X11_lend F m507 ((Z.2.2.2.2 ((l3 + 1)).toNatClampNeg)) ((Z.2.2.2.2 ((l3 + 2)).toNatClampNeg)) ((Z.2.2.2.2 ((l3 + 3)).toNatClampNeg))) fun r526 m526 => if r507 = r526 then (rec18 m526 ((l3 + 6))) else (some (0, m526))))))))) else (if ((Z.2.2.2.2 l3.toNatClampNeg) &&& 63) = 8 then (zg (inb ((l3 + 1)) Z.2.2.2.1) (zg (inb ((l3 + 2)) Z.2.2.2.1) (zb (f_X10_leave F σ ((Z.2.2.2.2 ((l3 + 1)).toNatClampNeg)) ((Z.2.2.2.2 ((l3 + 2)).toNatClampNeg))) fun r545 m545 => zg (inb ((l3 + 1)) Z.2.2.2.1) (zg (inb ((l3 + 2)) Z.2.2.2.1) (zb (f_X11_leave F m545 ((Z.2.2.2.2 ((l3 + 1)).toNatClampNeg)) ((Z.2.2.2.2 ((l3 + 2)).toNatClampNeg))) fun r559 m559 => if r545 = r559 then (rec18 m559 ((l3 + 6))) else (some (0, m559))))))) else (if ((Z.2.2.2.2 l3.toNatClampNeg) &&& 63) = 9 then (zg (inb ((l3 + 1)) Z.2.2.2.1) (zg (inb ((l3 + 2)) Z.2.2.2.1) (zb (f_X10_rightOf F σ ((Z.2.2.2.2 ((l3 + 1)).toNatClampNeg)) ((Z.2.2.2.2 ((l3 + 2)).toNatClampNeg))) fun r578 m578 => zg (inb ((l3 + 1)) Z.2.2.2.1) (zg (inb ((l3 + 2)) Z.2.2.2.1) (zb (f_X11_rightOf F m578 ((Z.2.2.2.2 ((l3 + 1)).toNatClampNeg)) ((Z.2.2.2.2 ((l3 + 2)).toNatClampNeg))) fun r592 m592 => if r578 = r592 then (rec18 m592 ((l3 + 6))) else (some (0, m592))))))) else (if ((Z.2.2.2.2 l3.toNatClampNeg) &&& 63) = 10 then (zg (inb ((l3 + 1)) Z.2.2.2.1) (zg (inb ((l3 + 2)) Z.2.2.2.1) (zb (f_X10_parts F σ ((Z.2.2.2.2 ((l3 + 1)).toNatClampNeg)) ((Z.2.2.2.2 ((l3 + 2)).toNatClampNeg))) fun r611 m611 => zg (inb ((l3 + 1)) Z.2.2.2.1) (zg (inb ((l3 + 2)) Z.2.2.2.1) (zb (f_X11_parts F m611 ((Z.2.2.2.2 ((l3 + 1)).toNatClampNeg)) ((Z.2.2.2.2 ((l3 + 2)).toNatClampNeg))) fun r625 m625 => if r611 = r625 then (rec18 m625 ((l3 + 6))) else (some (0, m625))))))) else (if ((Z.2.2.2.2 l3.toNatClampNeg) &&& 63) = 11 then (zg (inb ((l3 + 1)) Z.2.2.2.1) (zg (inb ((l3 + 2)) Z.2.2.2.1) (zb (f_X10_feed F σ ((Z.2.2.2.2 ((l3 + 1)).toNatClampNeg)) ((Z.2.2.2.2 ((l3 + 2)).toNatClampNeg))) fun r644 m644 => zg (inb ((l3 + 1)) Z.2.2.2.1) (zg (inb ((l3 + 2)) Z.2.2.2.1) (zb (f_X11_feed F m644 ((Z.2.2.2.2 ((l3 + 1)).toNatClampNeg)) ((Z.2.2.2.2 ((l3 + 2)).toNatClampNeg))) fun r658 m658 => if r644 = r658 then (rec18 m658 ((l3 + 6))) else (some (0, m658))))))) else (if ((Z.2.2.2.2 l3.toNatClampNeg) &&& 63) = 12 then (zg (inb ((l3 + 1)) Z.2.2.2.1) (zg (inb ((l3 + 2)) Z.2.2.2.1) (zb (f_X10_vote F σ ((Z.2.2.2.2 ((l3 + 1)).toNatClampNeg)) ((Z.2.2.2.2 ((l3 + 2)).toNatClampNeg))) fun r677 m677 => zg (inb ((l3 + 1)) Z.2.2.2.1) (zg (inb ((l3 + 2)) Z.2.2.2.1) (zb (f_X11_vote F m677 ((Z.2.2.2.2 ((l3 + 1)).toNatClampNeg)) ((Z.2.2.2.2 ((l3 + 2)).toNatClampNeg))) fun r691 m691 => if r677 = r691 then (rec18 m691 ((l3 + 6))) else (some (0, m691))))))) else (if ((Z.2.2.2.2 l3.toNatClampNeg) &&& 63) = 13 then (zg (inb ((l3 + 1)) Z.2.2.2.1) (zb (f_X10_voids F σ ((Z.2.2.2.2 ((l3 + 1)).toNatClampNeg))) fun r705 m705 => zg (inb ((l3 + 1)) Z.2.2.2.1) (zb (f_X11_voids F m705 ((Z.2.2.2.2 ((l3 + 1)).toNatClampNeg))) fun r714 m714 => if r705 = r714 then (rec18 m714 ((l3 + 6))) else (some (0, m714))))) else (if ((Z.2.2.2.2 l3.toNatClampNeg) &&& 63) = 14 then (zg (inb ((l3 + 1)) Z.2.2.2.1) (zg (inb ((l3 + 2)) Z.2.2.2.1) (zg (inb ((l3 + 3)) Z.2.2.2.1) (zg (inb ((l3 + 4)) Z.2.2.2.1) (zb (f_X10_value F σ ((Z.2.2.2.2 ((l3 + 1)).toNatClampNeg)) ((Z.2.2.2.2 ((l3 + 2)).toNatClampNeg)) ((Z.2.2.2.2 ((l3 + 3)).toNatClampNeg)) ((Z.2.2.2.2 ((l3 + 4)).toNatClampNeg))) fun r743 m743 => zg (inb ((l3 + 1)) Z.2.2.2.1) (zg (inb ((l3 + 2)) Z.2.2.2.1) (zg (inb ((l3 + 3)) Z.2.2.2.1) (zg (inb ((l3 + 4)) Z.2.2.2.1) (zb (f_X11_value F m743 ((Z.2.2.2.2 ((l3 + 1)).toNatClampNeg)) ((Z.2.2.2.2 ((l3 + 2)).toNatClampNeg)) ((Z.2.2.2.2 ((l3 + 3)).toNatClampNeg)) ((Z.2.2.2.2 ((l3 + 4)).toNatClampNeg))) fun r767 m767 => if r743 = r767 then (rec18 m767 ((l3 + 6))) else (some (0, m767))))))))))) else (if ((Z.2.2.2.2 l3.toNatClampNeg) &&& 63) = 15 then (zg (inb ((l3 + 1)) Z.2.2.2.1) (zg (inb ((l3 + 2)) Z.2.2.2.1) (zg (inb ((l3 + 3)) Z.2.2.2.1) (zg (inb ((l3 + 4)) Z.2.2.2.1) (zb (f_X10_why F σ ((Z.2.2.2.2 ((l3 + 1)).toNatClampNeg)) ((Z.2.2.2.2 ((l3 + 2)).toNatClampNeg)) ((Z.2.2.2.2 ((l3 + 3)).toNatClampNeg)) ((Z.2.2.2.2 ((l3 + 4)).toNatClampNeg))) fun r796 m796 => zg (inb ((l3 + 1)) Z.2.2.2.1) (zg (inb ((l3 + 2)) Z.2.2.2.1) (zg (inb ((l3 + 3)) Z.2.2.2.1) (zg (inb ((l3 + 4)) Z.2.2.2.1) (zb (f_X11_why F m796 ((Z.2.2.2.2 ((l3 + 1)).toNatClampNeg)) ((Z.2.2.2.2 ((l3 + 2)).toNatClampNeg)) ((Z.2.2.2.2 ((l3 + 3)).toNatClampNeg)) ((Z.2.2.2.2 ((l3 + 4)).toNatClampNeg))) fun r820 m820 => if r796 = r820 then (rec18 m820 ((l3 + 6))) else (some (0, m820))))))))))) else (if ((Z.2.2.2.2 l3.toNatClampNeg) &&& 63) = 16 then (zg (inb ((l3 + 1)) Z.2.2.2.1) (zg (inb ((l3 + 2)) Z.2.2.2.1) (zg (inb ((l3 + 3)) Z.2.2.2.1) (zb (f_X10_weather F σ ((Z.2.2.2.2 ((l3 + 1)).toNatClampNeg)) ((Z.2.2.2.2 ((l3 + 2)).toNatClampNeg)) ((Z.2.2.2.2 ((l3 + 3)).toNatClampNeg))) fun r844 m844 => zg (inb ((l3 + 1)) Z.2.2.2.1) (zg (inb ((l3 + 2)) Z.2.2.2.1) (zg (inb ((l3 + 3)) Z.2.2.2.1) (zb (f_X11_weather F m844 ((Z.2.2.2.2 ((l3 + 1)).toNatClampNeg)) ((Z.2.2.2.2 ((l3 + 2)).toNatClampNeg)) ((Z.2.2.2.2 ((l3 + 3)).toNatClampNeg))) fun r863 m863 => if r844 = r863 then (rec18 m863 ((l3 + 6))) else (some (0, m863))))))))) else (if ((Z.2.2.2.2 l3.toNatClampNeg) &&& 63) = 17 then (zg (inb ((l3 + 1)) Z.2.2.2.1) (zg (inb ((l3 + 2)) Z.2.2.2.1) (zg (inb ((l3 + 3)) Z.2.2.2.1) (zg (inb ((l3 + 4)) Z.2.2.2.1) (zg (inb ((l3 + 5)) Z.2.2.2.1) (zb (f_X10_sky F σ ((Z.2.2.2.2 ((l3 + 1)).toNatClampNeg)) ((Z.2.2.2.2 ((l3 + 2)).toNatClampNeg)) ((Z.2.2.2.2 ((l3 + 3)).toNatClampNeg)) ((Z.2.2.2.2 ((l3 + 4)).toNatClampNeg)) ((Z.2.2.2.2 ((l3 + 5)).toNatClampNeg))) fun r897 m897 => zg (inb ((l3 + 1)) Z.2.2.2.1) (zg (inb ((l3 + 2)) Z.2.2.2.1) (zg (inb ((l3 + 3)) Z.2.2.2.1) (zg (inb ((l3 + 4)) Z.2.2.2.1) (zg (inb ((l3 + 5)) Z.2.2.2.1) (zb (f_X11_sky F m897 ((Z.2.2.2.2 ((l3 + 1)).toNatClampNeg)) ((Z.2.2.2.2 ((l3 + 2)).toNatClampNeg)) ((Z.2.2.2.2 ((l3 + 3)).toNatClampNeg)) ((Z.2.2.2.2 ((l3 + 4)).toNatClampNeg)) ((Z.2.2.2.2 ((l3 + 5)).toNatClampNeg))) fun r926 m926 => if r897 = r926 then (rec18 m926 ((l3 + 6))) else (some (0, m926))))))))))))) else (if ((Z.2.2.2.2 l3.toNatClampNeg) &&& 63) = 18 then (zg (inb ((l3 + 1)) Z.2.2.2.1) (zg (inb ((l3 + 2)) Z.2.2.2.1) (zb (f_X10_skyOf F σ ((Z.2.2.2.2 ((l3 + 1)).toNatClampNeg)) ((Z.2.2.2.2 ((l3 + 2)).toNatClampNeg))) fun r945 m945 => zg (inb ((l3 + 1)) Z.2.2.2.1) (zg (inb ((l3 + 2)) Z.2.2.2.1) (zb (f_X11_skyOf F m945 ((Z.2.2.2.2 ((l3 + 1)).toNatClampNeg)) ((Z.2.2.2.2 ((l3 + 2)).toNatClampNeg))) fun r959 m959 => if r945 = r959 then (rec18 m959 ((l3 + 6))) else (some (0, m959))))))) else (if ((Z.2.2.2.2 l3.toNatClampNeg) &&& 63) = 19 then (zg (inb ((l3 + 1)) Z.2.2.2.1) (zg (inb ((l3 + 2)) Z.2.2.2.1) (zb (f_X10_alp F σ ((Z.2.2.2.2 ((l3 + 1)).toNatClampNeg)) ((Z.2.2.2.2 ((l3 + 2)).toNatClampNeg))) fun r978 m978 => zg (inb ((l3 + 1)) Z.2.2.2.1) (zg (inb ((l3 + 2)) Z.2.2.2.1) (zb (f_X11_alp F m978 ((Z.2.2.2.2 ((l3 + 1)).toNatClampNeg)) ((Z.2.2.2.2 ((l3 + 2)).toNatClampNeg))) fun r992 m992 => if r978 = r992 then (rec18 m992 ((l3 + 6))) else (some (0, m992))))))) else (if ((Z.2.2.2.2 l3.toNatClampNeg) &&& 63) = 20 then (zg (inb ((l3 + 1)) Z.2.2.2.1) (zg (inb ((l3 + 2)) Z.2.2.2.1) (zb (f_X10_alpOf F σ ((Z.2.2.2.2 ((l3 + 1)).toNatClampNeg)) ((Z.2.2.2.2 ((l3 + 2)).toNatClampNeg))) fun r1011 m1011 => zg (inb ((l3 + 1)) Z.2.2.2.1) (zg (inb ((l3 + 2)) Z.2.2.2.1) (zb (f_X11_alpOf F m1011 ((Z.2.2.2.2 ((l3 + 1)).toNatClampNeg)) ((Z.2.2.2.2 ((l3 + 2)).toNatClampNeg))) fun r1025 m1025 => if r1011 = r1025 then (rec18 m1025 ((l3 + 6))) else (some (0, m1025))))))) else (if ((Z.2.2.2.2 l3.toNatClampNeg) &&& 63) = 21 then (zg (inb ((l3 + 1)) Z.2.2.2.1) (zg (inb ((l3 + 2)) Z.2.2.2.1) (zg (inb ((l3 + 3)) Z.2.2.2.1) (zb (f_X10_drive F σ ((Z.2.2.2.2 ((l3 + 1)).toNatClampNeg)) ((Z.2.2.2.2 ((l3 + 2)).toNatClampNeg)) ((Z.2.2.2.2 ((l3 + 3)).toNatClampNeg))) fun r1049 m1049 => zg (inb ((l3 + 1)) Z.2.2.2.1) (zg (inb ((l3 + 2)) Z.2.2.2.1) (zg (inb ((l3 + 3)) Z.2.2.2.1) (zb (f_X11_drive F m1049 ((Z.2.2.2.2 ((l3 + 1)).toNatClampNeg)) ((Z.2.2.2.2 ((l3 + 2)).toNatClampNeg)) ((Z.2.2.2.2 ((l3 + 3)).toNatClampNeg))) fun r1068 m1068 => if r1049 = r1068 then (rec18 m1068 ((l3 + 6))) else (some (0, m1068))))))))) else (if ((Z.2.2.2.2 l3.toNatClampNeg) &&& 63) = 22 then (zg (inb ((l3 + 1)) Z.2.2.2.1) (zg (inb ((l3 + 2)) Z.2.2.2.1) (zg (inb ((l3 + 3)) Z.2.2.2.1) (zb (f_X10_home F σ ((Z.2.2.2.2 ((l3 + 1)).toNatClampNeg)) ((Z.2.2.2.2 ((l3 + 2)).toNatClampNeg)) ((Z.2.2.2.2 ((l3 + 3)).toNatClampNeg))) fun r1092 m1092 => zg (inb ((l3 + 1)) Z.2.2.2.1) (zg (inb ((l3 + 2)) Z.2.2.2.1) (zg (inb ((l3 + 3)) Z.2.2.2.1) (zb (f_X11_home F m1092 ((Z.2.2.2.2 ((l3 + 1)).toNatClampNeg)) ((Z.2.2.2.2 ((l3 + 2)).toNatClampNeg)) ((Z.2.2.2.2 ((l3 + 3)).toNatClampNeg))) fun r1111 m1111 => if r1092 = r1111 then (rec18 m1111 ((l3 + 6))) else (some (0, m1111))))))))) else (if ((Z.2.2.2.2 l3.toNatClampNeg) &&& 63) = 23 then (zg (inb ((l3 + 1)) Z.2.2.2.1) (zg (inb ((l3 + 2)) Z.2.2.2.1) (zb (f_X10_book F σ ((Z.2.2.2.2 ((l3 + 1)).toNatClampNeg)) ((Z.2.2.2.2 ((l3 + 2)).toNatClampNeg))) fun r1130 m1130 => zg (inb ((l3 + 1)) Z.2.2.2.1) (zg (inb ((l3 + 2)) Z.2.2.2.1) (zb (f_X11_book F m1130 ((Z.2.2.2.2 ((l3 + 1)).toNatClampNeg)) ((Z.2.2.2.2 ((l3 + 2)).toNatClampNeg))) fun r1144 m1144 => if r1130 = r1144 then (rec18 m1144 ((l3 + 6))) else (some (0, m1144))))))) else (if ((Z.2.2.2.2 l3.toNatClampNeg) &&& 63) = 24 then (zg (inb ((l3 + 1)) Z.2.2.2.1) (zb (f_X10_days F σ ((Z.2.2.2.2 ((l3 + 1)).toNatClampNeg))) fun r1158 m1158 => zg (inb ((l3 + 1)) Z.2.2.2.1) (zb (f_X11_days F m1158 ((Z.2.2.2.2 ((l3 + 1)).toNatClampNeg))) fun r1167 m1167 => if r1158 = r1167 then (rec18 m1167 ((l3 + 6))) else (some (0, m1167))))) else (if ((Z.2.2.2.2 l3.toNatClampNeg) &&& 63) = 25 then (zg (inb ((l3 + 1)) Z.2.2.2.1) (zb (f_X10_slope F σ ((Z.2.2.2.2 ((l3 + 1)).toNatClampNeg))) fun r1181 m1181 => zg (inb ((l3 + 1)) Z.2.2.2.1) (zb (f_X11_slope F m1181 ((Z.2.2.2.2 ((l3 + 1)).toNatClampNeg))) fun r1190 m1190 => if r1181 = r1190 then (rec18 m1190 ((l3 + 6))) else (some (0, m1190))))) else (if ((Z.2.2.2.2 l3.toNatClampNeg) &&& 63) = 26 then (zg (inb ((l3 + 1)) Z.2.2.2.1) (zg (inb ((l3 + 2)) Z.2.2.2.1) (zb (f_X10_slopeOf F σ ((Z.2.2.2.2 ((l3 + 1)).toNatClampNeg)) ((Z.2.2.2.2 ((l3 + 2)).toNatClampNeg))) fun r1209 m1209 => zg (inb ((l3 + 1)) Z.2.2.2.1) (zg (inb ((l3 + 2)) Z.2.2.2.1) (zb (f_X11_slopeOf F m1209 ((Z.2.2.2.2 ((l3 + 1)).toNatClampNeg)) ((Z.2.2.2.2 ((l3 + 2)).toNatClampNeg))) fun r1223 m1223 => if r1209 = r1223 then (rec18 m1223 ((l3 + 6))) else (some (0, m1223))))))) else (if ((Z.2.2.2.2 l3.toNatClampNeg) &&& 63) = 27 then (zg (inb ((l3 + 1)) Z.2.2.2.1) (zg (inb ((l3 + 2)) Z.2.2.2.1) (if (Z.2.2.2.2 ((l3 + 2)).toNatClampNeg) = 0 then (f_L_law_1250 F Z rec18 σ l3 0 ((Z.2.2.2.2 ((l3 + 1)).toNatClampNeg))) else (f_L_law_1250 F Z rec18 σ l3 1 ((Z.2.2.2.2 ((l3 + 1)).toNatClampNeg)))))) else (if ((Z.2.2.2.2 l3.toNatClampNeg) &&& 63) = 28 then (zg (inb ((l3 + 1)) Z.2.2.2.1) (if (Z.2.2.2.2 ((l3 + 1)).toNatClampNeg) = 0 then (f_L_law_1294 F Z rec18 σ l3 0) else (f_L_law_1294 F Z rec18 σ l3 1))) else (if ((Z.2.2.2.2 l3.toNatClampNeg) &&& 63) = 29 then (zb (f_X10_measure F σ) fun r1320 m1320 => zb (f_X11_measure F m1320) fun r1324 m1324 => if r1320 = r1324 then (rec18 m1324 ((l3 + 6))) else (some (0, m1324))) else (if ((Z.2.2.2.2 l3.toNatClampNeg) &&& 63) = 30 then (zg (inb ((l3 + 1)) Z.2.2.2.1) (zb (f_X10_cheese F σ ((Z.2.2.2.2 ((l3 + 1)).toNatClampNeg))) fun r1338 m1338 => zg (inb ((l3 + 1)) Z.2.2.2.1) (zb (f_X11_cheese F m1338 ((Z.2.2.2.2 ((l3 + 1)).toNatClampNeg))) fun r1347 m1347 => if r1338 = r1347 then (rec18 m1347 ((l3 + 6))) else (some (0, m1347))))) else (if ((Z.2.2.2.2 l3.toNatClampNeg) &&& 63) = 31 then (zg (inb ((l3 + 1)) Z.2.2.2.1) (zb (f_X10_rest F σ ((Z.2.2.2.2 ((l3 + 1)).toNatClampNeg))) fun r1361 m1361 => zg (inb ((l3 + 1)) Z.2.2.2.1) (zb (f_X11_rest F m1361 ((Z.2.2.2.2 ((l3 + 1)).toNatClampNeg))) fun r1370 m1370 => if r1361 = r1370 then (rec18 m1370 ((l3 + 6))) else (some (0, m1370))))) else (if ((Z.2.2.2.2 l3.toNatClampNeg) &&& 63) = 32 then (zg (inb ((l3 + 1)) Z.2.2.2.1) (zg (inb ((l3 + 2)) Z.2.2.2.1) (zb (f_X10_fell F σ ((Z.2.2.2.2 ((l3 + 1)).toNatClampNeg)) ((Z.2.2.2.2 ((l3 + 2)).toNatClampNeg))) fun r1389 m1389 => zg (inb ((l3 + 1)) Z.2.2.2.1) (zg (inb ((l3 + 2)) Z.2.2.2.1) (zb (f_X11_fell F m1389 ((Z.2.2.2.2 ((l3 + 1)).toNatClampNeg)) ((Z.2.2.2.2 ((l3 + 2)).toNatClampNeg))) fun r1403 m1403 => if r1389 = r1403 then (rec18 m1403 ((l3 + 6))) else (some (0, m1403))))))) else (if ((Z.2.2.2.2 l3.toNatClampNeg) &&& 63) = 33 then (zg (inb ((l3 + 1)) Z.2.2.2.1) (zg (inb ((l3 + 2)) Z.2.2.2.1) (zg (inb ((l3 + 3)) Z.2.2.2.1) (zb (f_X10_channel F σ ((Z.2.2.2.2 ((l3 + 1)).toNatClampNeg)) ((Z.2.2.2.2 ((l3 + 2)).toNatClampNeg)) ((Z.2.2.2.2 ((l3 + 3)).toNatClampNeg))) fun r1427 m1427 => zg (inb ((l3 + 1)) Z.2.2.2.1) (zg (inb ((l3 + 2)) Z.2.2.2.1) (zg (inb ((l3 + 3)) Z.2.2.2.1) (zb (f_X11_channel F m1427 ((Z.2.2.2.2 ((l3 + 1)).toNatClampNeg)) ((Z.2.2.2.2 ((l3 + 2)).toNatClampNeg)) ((Z.2.2.2.2 ((l3 + 3)).toNatClampNeg))) fun r1446 m1446 => if r1427 = r1446 then (rec18 m1446 ((l3 + 6))) else (some (0, m1446))))))))) else (if ((Z.2.2.2.2 l3.toNatClampNeg) &&& 63) = 34 then (zg (inb ((l3 + 1)) Z.2.2.2.1) (zb (f_X10_hour F σ ((Z.2.2.2.2 ((l3 + 1)).toNatClampNeg))) fun r1460 m1460 => zg (inb ((l3 + 1)) Z.2.2.2.1) (zb (f_X11_hour F m1460 ((Z.2.2.2.2 ((l3 + 1)).toNatClampNeg))) fun r1469 m1469 => if r1460 = r1469 then (rec18 m1469 ((l3 + 6))) else (some (0, m1469))))) else (if ((Z.2.2.2.2 l3.toNatClampNeg) &&& 63) = 35 then (zg (inb ((l3 + 1)) Z.2.2.2.1) (zg (inb ((l3 + 2)) Z.2.2.2.1) (zg (inb ((l3 + 3)) Z.2.2.2.1) (zb (f_X10_gets F σ ((Z.2.2.2.2 ((l3 + 1)).toNatClampNeg)) ((Z.2.2.2.2 ((l3 + 2)).toNatClampNeg)) ((Z.2.2.2.2 ((l3 + 3)).toNatClampNeg))) fun r1493 m1493 => zg (inb ((l3 + 1)) Z.2.2.2.1) (zg (inb ((l3 + 2)) Z.2.2.2.1) (zg (inb ((l3 + 3)) Z.2.2.2.1) (zb (f_X11_gets F m1493 ((Z.2.2.2.2 ((l3 + 1)).toNatClampNeg)) ((Z.2.2.2.2 ((l3 + 2)).toNatClampNeg)) ((Z.2.2.2.2 ((l3 + 3)).toNatClampNeg))) fun r1512 m1512 => if r1493 = r1512 then (rec18 m1512 ((l3 + 6))) else (some (0, m1512))))))))) else (if ((Z.2.2.2.2 l3.toNatClampNeg) &&& 63) = 36 then (zg (inb ((l3 + 1)) Z.2.2.2.1) (zb (f_X10_turn F σ ((Z.2.2.2.2 ((l3 + 1)).toNatClampNeg))) fun r1526 m1526 => zg (inb ((l3 + 1)) Z.2.2.2.1) (zb (f_X11_turn F m1526 ((Z.2.2.2.2 ((l3 + 1)).toNatClampNeg))) fun r1535 m1535 => if r1526 = r1535 then (rec18 m1535 ((l3 + 6))) else (some (0, m1535))))) else (if ((Z.2.2.2.2 l3.toNatClampNeg) &&& 63) = 37 then (zg (inb ((l3 + 1)) Z.2.2.2.1) (zg (inb ((l3 + 2)) Z.2.2.2.1) (zb (f_X10_work F σ ((Z.2.2.2.2 ((l3 + 1)).toNatClampNeg)) ((Z.2.2.2.2 ((l3 + 2)).toNatClampNeg))) fun r1554 m1554 => zg (inb ((l3 + 1)) Z.2.2.2.1) (zg (inb ((l3 + 2)) Z.2.2.2.1) (zb (f_X11_work F m1554 ((Z.2.2.2.2 ((l3 + 1)).toNatClampNeg)) ((Z.2.2.2.2 ((l3 + 2)).toNatClampNeg))) fun r1568 m1568 => if r1554 = r1568 then (rec18 m1568 ((l3 + 6))) else (some (0, m1568))))))) else (if ((Z.2.2.2.2 l3.toNatClampNeg) &&& 63) = 38 then (zb (f_X10_year F σ) fun r1577 m1577 => zb (f_X11_year F m1577) fun r1581 m1581 => if r1577 = r1581 then (rec18 m1581 ((l3 + 6))) else (some (0, m1581))) else (if ((Z.2.2.2.2 l3.toNatClampNeg) &&& 63) = 39 then (zg (inb ((l3 + 1)) Z.2.2.2.1) (zg (inb ((l3 + 2)) Z.2.2.2.1) (zg (inb ((l3 + 3)) Z.2.2.2.1) (zb (f_X10_plan F σ ((Z.2.2.2.2 ((l3 + 1)).toNatClampNeg)) ((Z.2.2.2.2 ((l3 + 2)).toNatClampNeg)) ((Z.2.2.2.2 ((l3 + 3)).toNatClampNeg))) fun r1605 m1605 => zg (inb ((l3 + 1)) Z.2.2.2.1) (zg (inb ((l3 + 2)) Z.2.2.2.1) (zg (inb ((l3 + 3)) Z.2.2.2.1) (zb (f_X11_plan F m1605 ((Z.2.2.2.2 ((l3 + 1)).toNatClampNeg)) ((Z.2.2.2.2 ((l3 + 2)).toNatClampNeg)) ((Z.2.2.2.2 ((l3 + 3)).toNatClampNeg))) fun r1624 m1624 => if r1605 = r1624 then (rec18 m1624 ((l3 + 6))) else (some (0, m1624))))))))) else (if ((Z.2.2.2.2 l3.toNatClampNeg) &&& 63) = 40 then (zg (inb ((l3 + 1)) Z.2.2.2.1) (zg (inb ((l3 + 2)) Z.2.2.2.1) (zg (inb ((l3 + 3)) Z.2.2.2.1) (zb (f_X10_act F σ ((Z.2.2.2.2 ((l3 + 1)).toNatClampNeg)) ((Z.2.2.2.2 ((l3 + 2)).toNatClampNeg)) ((Z.2.2.2.2 ((l3 + 3)).toNatClampNeg))) fun r1648 m1648 => zg (inb ((l3 + 1)) Z.2.2.2.1) (zg (inb ((l3 + 2)) Z.2.2.2.1) (zg (inb ((l3 + 3)) Z.2.2.2.1) (zb (f_X11_act F m1648 ((Z.2.2.2.2 ((l3 + 1)).toNatClampNeg)) ((Z.2.2.2.2 ((l3 + 2)).toNatClampNeg)) ((Z.2.2.2.2 ((l3 + 3)).toNatClampNeg))) fun r1667 m1667 => if r1648 = r1667 then (rec18 m1667 ((l3 + 6))) else (some (0, m1667))))))))) else (if ((Z.2.2.2.2 l3.toNatClampNeg) &&& 63) = 41 then (zg (inb ((l3 + 1)) Z.2.2.2.1) (zb (f_X10_trace F σ ((Z.2.2.2.2 ((l3 + 1)).toNatClampNeg))) fun r1681 m1681 => zg (inb ((l3 + 1)) Z.2.2.2.1) (zb (f_X11_trace F m1681 ((Z.2.2.2.2 ((l3 + 1)).toNatClampNeg))) fun r1690 m1690 => if r1681 = r1690 then (rec18 m1690 ((l3 + 6))) else (some (0, m1690))))) else (if ((Z.2.2.2.2 l3.toNatClampNeg) &&& 63) = 42 then (zg (inb ((l3 + 1)) Z.2.2.2.1) (zg (inb ((l3 + 2)) Z.2.2.2.1) (zb (f_X10_taken F σ ((Z.2.2.2.2 ((l3 + 1)).toNatClampNeg)) ((Z.2.2.2.2 ((l3 + 2)).toNatClampNeg))) fun r1709 m1709 => zg (inb ((l3 + 1)) Z.2.2.2.1) (zg (inb ((l3 + 2)) Z.2.2.2.1) (zb (f_X11_taken F m1709 ((Z.2.2.2.2 ((l3 + 1)).toNatClampNeg)) ((Z.2.2.2.2 ((l3 + 2)).toNatClampNeg))) fun r1723 m1723 => if r1709 = r1723 then (rec18 m1723 ((l3 + 6))) else (some (0, m1723))))))) else (if ((Z.2.2.2.2 l3.toNatClampNeg) &&& 63) = 43 then (zg (inb ((l3 + 1)) Z.2.2.2.1) (zb (f_X10_count F σ ((Z.2.2.2.2 ((l3 + 1)).toNatClampNeg))) fun r1737 m1737 => zg (inb ((l3 + 1)) Z.2.2.2.1) (zb (f_X11_count F m1737 ((Z.2.2.2.2 ((l3 + 1)).toNatClampNeg))) fun r1746 m1746 => if r1737 = r1746 then (rec18 m1746 ((l3 + 6))) else (some (0, m1746))))) else (if ((Z.2.2.2.2 l3.toNatClampNeg) &&& 63) = 44 then (zg (inb ((l3 + 1)) Z.2.2.2.1) (zg (inb ((l3 + 2)) Z.2.2.2.1) (zg (inb ((l3 + 3)) Z.2.2.2.1) (zb (f_X10_sheet F σ ((Z.2.2.2.2 ((l3 + 1)).toNatClampNeg)) ((Z.2.2.2.2 ((l3 + 2)).toNatClampNeg)) ((Z.2.2.2.2 ((l3 + 3)).toNatClampNeg))) fun r1770 m1770 => zg (inb ((l3 + 1)) Z.2.2.2.1) (zg (inb ((l3 + 2)) Z.2.2.2.1) (zg (inb ((l3 + 3)) Z.2.2.2.1) (zb (f_X11_sheet F m1770 ((Z.2.2.2.2 ((l3 + 1)).toNatClampNeg)) ((Z.2.2.2.2 ((l3 + 2)).toNatClampNeg)) ((Z.2.2.2.2 ((l3 + 3)).toNatClampNeg))) fun r1789 m1789 => if r1770 = r1789 then (rec18 m1789 ((l3 + 6))) else (some (0, m1789))))))))) else (if ((Z.2.2.2.2 l3.toNatClampNeg) &&& 63) = 45 then (zg (inb ((l3 + 1)) Z.2.2.2.1) (zg (inb ((l3 + 2)) Z.2.2.2.1) (zg (inb ((l3 + 3)) Z.2.2.2.1) (zb (f_X10_cell F σ ((Z.2.2.2.2 ((l3 + 1)).toNatClampNeg)) ((Z.2.2.2.2 ((l3 + 2)).toNatClampNeg)) ((Z.2.2.2.2 ((l3 + 3)).toNatClampNeg))) fun r1813 m1813 => zg (inb ((l3 + 1)) Z.2.2.2.1) (zg (inb ((l3 + 2)) Z.2.2.2.1) (zg (inb ((l3 + 3)) Z.2.2.2.1) (zb (f_X11_cell F m1813 ((Z.2.2.2.2 ((l3 + 1)).toNatClampNeg)) ((Z.2.2.2.2 ((l3 + 2)).toNatClampNeg)) ((Z.2.2.2.2 ((l3 + 3)).toNatClampNeg))) fun r1832 m1832 => if r1813 = r1832 then (rec18 m1832 ((l3 + 6))) else (some (0, m1832))))))))) else (if ((Z.2.2.2.2 l3.toNatClampNeg) &&& 63) = 46 then (zg (inb ((l3 + 1)) Z.2.2.2.1) (zg (inb ((l3 + 2)) Z.2.2.2.1) (zb (f_X10_lose F σ ((Z.2.2.2.2 ((l3 + 1)).toNatClampNeg)) ((Z.2.2.2.2 ((l3 + 2)).toNatClampNeg))) fun r1851 m1851 => zg (inb ((l3 + 1)) Z.2.2.2.1) (zg (inb ((l3 + 2)) Z.2.2.2.1) (zb (f_X11_lose F m1851 ((Z.2.2.2.2 ((l3 + 1)).toNatClampNeg)) ((Z.2.2.2.2 ((l3 + 2)).toNatClampNeg))) fun r1865 m1865 => if r1851 = r1865 then (rec18 m1865 ((l3 + 6))) else (some (0, m1865))))))) else (if ((Z.2.2.2.2 l3.toNatClampNeg) &&& 63) = 47 then (zg (inb ((l3 + 1)) Z.2.2.2.1) (zg (inb ((l3 + 2)) Z.2.2.2.1) (zg (inb ((l3 + 3)) Z.2.2.2.1) (zg (inb ((l3 + 4)) Z.2.2.2.1) (zg (inb ((l3 + 5)) Z.2.2.2.1) (zb (f_X10_copy F σ ((Z.2.2.2.2 ((l3 + 1)).toNatClampNeg)) ((Z.2.2.2.2 ((l3 + 2)).toNatClampNeg)) ((Z.2.2.2.2 ((l3 + 3)).toNatClampNeg)) ((Z.2.2.2.2 ((l3 + 4)).toNatClampNeg)) ((Z.2.2.2.2 ((l3 + 5)).toNatClampNeg))) fun r1899 m1899 => zg (inb ((l3 + 1)) Z.2.2.2.1) (zg (inb ((l3 + 2)) Z.2.2.2.1) (zg (inb ((l3 + 3)) Z.2.2.2.1) (zg (inb ((l3 + 4)) Z.2.2.2.1) (zg (inb ((l3 + 5)) Z.2.2.2.1) (zb (f_X11_copy F m1899 ((Z.2.2.2.2 ((l3 + 1)).toNatClampNeg)) ((Z.2.2.2.2 ((l3 + 2)).toNatClampNeg)) ((Z.2.2.2.2 ((l3 + 3)).toNatClampNeg)) ((Z.2.2.2.2 ((l3 + 4)).toNatClampNeg)) ((Z.2.2.2.2 ((l3 + 5)).toNatClampNeg))) fun r1928 m1928 => if r1899 = r1928 then (rec18 m1928 ((l3 + 6))) else (some (0, m1928))))))))))))) else none)))))))))))))))))))))))))))))))))))))))))))))))))))
  refine zr_iload_n C dL_law_18 rfl ?_
  refine zr_aload_n C dL_law_19 rfl ?_
  refine zr_slen0 C dL_law_20 ?_
  refine zr_bipush (v := 6) C dL_law_21 rfl ?_
  refine zr_isub C dL_law_23 ?_
  refine zr_icmp_gt (tgt := 1942) C dL_law_24 (by decide) ?_ ?_
  · refine zr_iconst (v := 1) C dL_law_1942 rfl ?_
    exact hret _ _ _ _ dL_law_1943
  · refine zr_aload_n C dL_law_27 rfl ?_
    refine zr_iload_n C dL_law_28 rfl ?_
    refine zr_sald0 C dL_law_29 ?_
    refine zr_bipush (v := 63) C dL_law_30 rfl ?_
    refine zr_iand C dL_law_32 ?_
    refine zr_if (fun hx => ?_) (fun _ => ?_)
    · refine zr_tabOut (tgt := 1936) C dL_law_33 hx (by decide) ?_
      refine zr_iinc (kk := 3) (v := (l3 + 6)) (L1 := [(3, .int _), (0, .ref _), (1, .ref _), (2, .ref _)]) C dL_law_1936 rfl rfl (by decide) rfl ?_
      refine zr_goto (tgt := 18) C dL_law_1939 (by decide) ?_
      exact zr_sub [1, 2, 3, 0] rfl (hrec18 σ ((l3 + 6)))
    · refine zr_if (fun hx => ?_) (fun _ => ?_)
      · refine zr_tabIn (tgt := 240) C dL_law_33 (by rw [hx]; decide) (by rw [hx]; decide) (off := 207) (by rw [hx]; decide) (by decide) ?_
        refine zr_aload_n C dL_law_240 rfl ?_
        refine zr_aload_n C dL_law_241 rfl ?_
        refine zr_iload_n C dL_law_242 rfl ?_
        refine zr_iconst (v := 1) C dL_law_243 rfl ?_
        refine zr_iadd C dL_law_244 ?_
        refine zr_sald0 C dL_law_245 ?_
        refine zr_aload_n C dL_law_246 rfl ?_
        refine zr_iload_n C dL_law_247 rfl ?_
        refine zr_iconst (v := 2) C dL_law_248 rfl ?_
        refine zr_iadd C dL_law_249 ?_
        refine zr_sald0 C dL_law_250 ?_
        refine zr_aload_n C dL_law_251 rfl ?_
        refine zr_iload_n C dL_law_252 rfl ?_
        refine zr_iconst (v := 3) C dL_law_253 rfl ?_
        refine zr_iadd C dL_law_254 ?_
        refine zr_sald0 C dL_law_255 ?_
        refine zr_aload_n C dL_law_256 rfl ?_
        refine zr_iload_n C dL_law_257 rfl ?_
        refine zr_iconst (v := 4) C dL_law_258 rfl ?_
        refine zr_iadd C dL_law_259 ?_
        refine zr_sald0 C dL_law_260 ?_
        refine zk_L_13 C F (Nat.le_of_ble_eq_true rfl) (Nat.le_trans (by decide) hh) (by simp [Value.category]) dL_law_261 (fun r261 m261 => ?_)
        refine zr_aload_n C dL_law_264 rfl ?_
        refine zr_aload_n C dL_law_265 rfl ?_
        refine zr_iload_n C dL_law_266 rfl ?_
        refine zr_iconst (v := 1) C dL_law_267 rfl ?_
        refine zr_iadd C dL_law_268 ?_
        refine zr_sald0 C dL_law_269 ?_
        refine zr_aload_n C dL_law_270 rfl ?_
        refine zr_iload_n C dL_law_271 rfl ?_
        refine zr_iconst (v := 2) C dL_law_272 rfl ?_
        refine zr_iadd C dL_law_273 ?_
        refine zr_sald0 C dL_law_274 ?_
        refine zr_aload_n C dL_law_275 rfl ?_
        refine zr_iload_n C dL_law_276 rfl ?_
        refine zr_iconst (v := 3) C dL_law_277 rfl ?_
        refine zr_iadd C dL_law_278 ?_
        refine zr_sald0 C dL_law_279 ?_
        refine zr_aload_n C dL_law_280 rfl ?_
        refine zr_iload_n C dL_law_281 rfl ?_
        refine zr_iconst (v := 4) C dL_law_282 rfl ?_
        refine zr_iadd C dL_law_283 ?_
        refine zr_sald0 C dL_law_284 ?_
        refine zk_L_17 C F (Nat.le_of_ble_eq_true rfl) (Nat.le_trans (by decide) hh) (by simp [Value.category]) dL_law_285 (fun r285 m285 => ?_)
        refine zr_icmp_eq (tgt := 1936) C dL_law_288 (by decide) ?_ ?_
        · refine zr_iinc (kk := 3) (v := (l3 + 6)) (L1 := [(3, .int _), (0, .ref _), (1, .ref _), (2, .ref _)]) C dL_law_1936 rfl rfl (by decide) rfl ?_
          refine zr_goto (tgt := 18) C dL_law_1939 (by decide) ?_
          exact zr_sub [1, 2, 3, 0] rfl (hrec18 m285 ((l3 + 6)))
        · refine zr_iconst (v := 0) C dL_law_291 rfl ?_
          exact hret _ _ _ _ dL_law_292
      · refine zr_if (fun hx => ?_) (fun _ => ?_)
        · refine zr_tabIn (tgt := 293) C dL_law_33 (by rw [hx]; decide) (by rw [hx]; decide) (off := 260) (by rw [hx]; decide) (by decide) ?_
          refine zr_aload_n C dL_law_293 rfl ?_
          refine zr_aload_n C dL_law_294 rfl ?_
          refine zr_iload_n C dL_law_295 rfl ?_
          refine zr_iconst (v := 1) C dL_law_296 rfl ?_
          refine zr_iadd C dL_law_297 ?_
          refine zr_sald0 C dL_law_298 ?_
          refine zr_aload_n C dL_law_299 rfl ?_
          refine zr_iload_n C dL_law_300 rfl ?_
          refine zr_iconst (v := 2) C dL_law_301 rfl ?_
          refine zr_iadd C dL_law_302 ?_
          refine zr_sald0 C dL_law_303 ?_
          refine zr_aload_n C dL_law_304 rfl ?_
          refine zr_iload_n C dL_law_305 rfl ?_
          refine zr_iconst (v := 3) C dL_law_306 rfl ?_
          refine zr_iadd C dL_law_307 ?_
          refine zr_sald0 C dL_law_308 ?_
          refine zk_L_18 C F (Nat.le_of_ble_eq_true rfl) (Nat.le_trans (by decide) hh) (by simp [Value.category]) dL_law_309 (fun r309 m309 => ?_)
          refine zr_aload_n C dL_law_312 rfl ?_
          refine zr_aload_n C dL_law_313 rfl ?_
          refine zr_iload_n C dL_law_314 rfl ?_
          refine zr_iconst (v := 1) C dL_law_315 rfl ?_
          refine zr_iadd C dL_law_316 ?_
          refine zr_sald0 C dL_law_317 ?_
          refine zr_aload_n C dL_law_318 rfl ?_
          refine zr_iload_n C dL_law_319 rfl ?_
          refine zr_iconst (v := 2) C dL_law_320 rfl ?_
          refine zr_iadd C dL_law_321 ?_
          refine zr_sald0 C dL_law_322 ?_
          refine zr_aload_n C dL_law_323 rfl ?_
          refine zr_iload_n C dL_law_324 rfl ?_
          refine zr_iconst (v := 3) C dL_law_325 rfl ?_
          refine zr_iadd C dL_law_326 ?_
          refine zr_sald0 C dL_law_327 ?_
          refine zk_L_22 C F (Nat.le_of_ble_eq_true rfl) (Nat.le_trans (by decide) hh) (by simp [Value.category]) dL_law_328 (fun r328 m328 => ?_)
          refine zr_icmp_eq (tgt := 1936) C dL_law_331 (by decide) ?_ ?_
          · refine zr_iinc (kk := 3) (v := (l3 + 6)) (L1 := [(3, .int _), (0, .ref _), (1, .ref _), (2, .ref _)]) C dL_law_1936 rfl rfl (by decide) rfl ?_
            refine zr_goto (tgt := 18) C dL_law_1939 (by decide) ?_
            exact zr_sub [1, 2, 3, 0] rfl (hrec18 m328 ((l3 + 6)))
          · refine zr_iconst (v := 0) C dL_law_334 rfl ?_
            exact hret _ _ _ _ dL_law_335
        · refine zr_if (fun hx => ?_) (fun _ => ?_)
          · refine zr_tabIn (tgt := 336) C dL_law_33 (by rw [hx]; decide) (by rw [hx]; decide) (off := 303) (by rw [hx]; decide) (by decide) ?_
            refine zr_aload_n C dL_law_336 rfl ?_
            refine zr_aload_n C dL_law_337 rfl ?_
            refine zr_iload_n C dL_law_338 rfl ?_
            refine zr_iconst (v := 1) C dL_law_339 rfl ?_
            refine zr_iadd C dL_law_340 ?_
            refine zr_sald0 C dL_law_341 ?_
            refine zr_aload_n C dL_law_342 rfl ?_
            refine zr_iload_n C dL_law_343 rfl ?_
            refine zr_iconst (v := 2) C dL_law_344 rfl ?_
            refine zr_iadd C dL_law_345 ?_
            refine zr_sald0 C dL_law_346 ?_
            refine zk_L_23 C F (Nat.le_of_ble_eq_true rfl) (Nat.le_trans (by decide) hh) (by simp [Value.category]) dL_law_347 (fun r347 m347 => ?_)
            refine zr_aload_n C dL_law_350 rfl ?_
            refine zr_aload_n C dL_law_351 rfl ?_
            refine zr_iload_n C dL_law_352 rfl ?_
            refine zr_iconst (v := 1) C dL_law_353 rfl ?_
            refine zr_iadd C dL_law_354 ?_
            refine zr_sald0 C dL_law_355 ?_
            refine zr_aload_n C dL_law_356 rfl ?_
            refine zr_iload_n C dL_law_357 rfl ?_
            refine zr_iconst (v := 2) C dL_law_358 rfl ?_
            refine zr_iadd C dL_law_359 ?_
            refine zr_sald0 C dL_law_360 ?_
            refine zk_L_27 C F (Nat.le_of_ble_eq_true rfl) (Nat.le_trans (by decide) hh) (by simp [Value.category]) dL_law_361 (fun r361 m361 => ?_)
            refine zr_icmp_eq (tgt := 1936) C dL_law_364 (by decide) ?_ ?_
            · refine zr_iinc (kk := 3) (v := (l3 + 6)) (L1 := [(3, .int _), (0, .ref _), (1, .ref _), (2, .ref _)]) C dL_law_1936 rfl rfl (by decide) rfl ?_
              refine zr_goto (tgt := 18) C dL_law_1939 (by decide) ?_
              exact zr_sub [1, 2, 3, 0] rfl (hrec18 m361 ((l3 + 6)))
            · refine zr_iconst (v := 0) C dL_law_367 rfl ?_
              exact hret _ _ _ _ dL_law_368
          · refine zr_if (fun hx => ?_) (fun _ => ?_)
            · refine zr_tabIn (tgt := 369) C dL_law_33 (by rw [hx]; decide) (by rw [hx]; decide) (off := 336) (by rw [hx]; decide) (by decide) ?_
              refine zr_aload_n C dL_law_369 rfl ?_
              refine zk_L_28 C F (Nat.le_of_ble_eq_true rfl) (Nat.le_trans (by decide) hh) (by simp [Value.category]) dL_law_370 (fun r370 m370 => ?_)
              refine zr_aload_n C dL_law_373 rfl ?_
              refine zk_L_32 C F (Nat.le_of_ble_eq_true rfl) (Nat.le_trans (by decide) hh) (by simp [Value.category]) dL_law_374 (fun r374 m374 => ?_)
              refine zr_icmp_eq (tgt := 1936) C dL_law_377 (by decide) ?_ ?_
              · refine zr_iinc (kk := 3) (v := (l3 + 6)) (L1 := [(3, .int _), (0, .ref _), (1, .ref _), (2, .ref _)]) C dL_law_1936 rfl rfl (by decide) rfl ?_
                refine zr_goto (tgt := 18) C dL_law_1939 (by decide) ?_
                exact zr_sub [1, 2, 3, 0] rfl (hrec18 m374 ((l3 + 6)))
              · refine zr_iconst (v := 0) C dL_law_380 rfl ?_
                exact hret _ _ _ _ dL_law_381
            · refine zr_if (fun hx => ?_) (fun _ => ?_)
              · refine zr_tabIn (tgt := 382) C dL_law_33 (by rw [hx]; decide) (by rw [hx]; decide) (off := 349) (by rw [hx]; decide) (by decide) ?_
                refine zr_aload_n C dL_law_382 rfl ?_
                refine zr_aload_n C dL_law_383 rfl ?_
                refine zr_iload_n C dL_law_384 rfl ?_
                refine zr_iconst (v := 1) C dL_law_385 rfl ?_
                refine zr_iadd C dL_law_386 ?_
                refine zr_sald0 C dL_law_387 ?_
                refine zr_aload_n C dL_law_388 rfl ?_
                refine zr_iload_n C dL_law_389 rfl ?_
                refine zr_iconst (v := 2) C dL_law_390 rfl ?_
                refine zr_iadd C dL_law_391 ?_
                refine zr_sald0 C dL_law_392 ?_
                refine zr_aload_n C dL_law_393 rfl ?_
                refine zr_iload_n C dL_law_394 rfl ?_
                refine zr_iconst (v := 3) C dL_law_395 rfl ?_
                refine zr_iadd C dL_law_396 ?_
                refine zr_sald0 C dL_law_397 ?_
                refine zk_L_33 C F (Nat.le_of_ble_eq_true rfl) (Nat.le_trans (by decide) hh) (by simp [Value.category]) dL_law_398 (fun r398 m398 => ?_)
                refine zr_aload_n C dL_law_401 rfl ?_
                refine zr_aload_n C dL_law_402 rfl ?_
                refine zr_iload_n C dL_law_403 rfl ?_
                refine zr_iconst (v := 1) C dL_law_404 rfl ?_
                refine zr_iadd C dL_law_405 ?_
                refine zr_sald0 C dL_law_406 ?_
                refine zr_aload_n C dL_law_407 rfl ?_
                refine zr_iload_n C dL_law_408 rfl ?_
                refine zr_iconst (v := 2) C dL_law_409 rfl ?_
                refine zr_iadd C dL_law_410 ?_
                refine zr_sald0 C dL_law_411 ?_
                refine zr_aload_n C dL_law_412 rfl ?_
                refine zr_iload_n C dL_law_413 rfl ?_
                refine zr_iconst (v := 3) C dL_law_414 rfl ?_
                refine zr_iadd C dL_law_415 ?_
                refine zr_sald0 C dL_law_416 ?_
                refine zk_L_36 C F (Nat.le_of_ble_eq_true rfl) (Nat.le_trans (by decide) hh) (by simp [Value.category]) dL_law_417 (fun r417 m417 => ?_)
                refine zr_icmp_eq (tgt := 1936) C dL_law_420 (by decide) ?_ ?_
                · refine zr_iinc (kk := 3) (v := (l3 + 6)) (L1 := [(3, .int _), (0, .ref _), (1, .ref _), (2, .ref _)]) C dL_law_1936 rfl rfl (by decide) rfl ?_
                  refine zr_goto (tgt := 18) C dL_law_1939 (by decide) ?_
                  exact zr_sub [1, 2, 3, 0] rfl (hrec18 m417 ((l3 + 6)))
                · refine zr_iconst (v := 0) C dL_law_423 rfl ?_
                  exact hret _ _ _ _ dL_law_424
              · refine zr_if (fun hx => ?_) (fun _ => ?_)
                · refine zr_tabIn (tgt := 425) C dL_law_33 (by rw [hx]; decide) (by rw [hx]; decide) (off := 392) (by rw [hx]; decide) (by decide) ?_
                  refine zr_aload_n C dL_law_425 rfl ?_
                  refine zr_aload_n C dL_law_426 rfl ?_
                  refine zr_iload_n C dL_law_427 rfl ?_
                  refine zr_iconst (v := 1) C dL_law_428 rfl ?_
                  refine zr_iadd C dL_law_429 ?_
                  refine zr_sald0 C dL_law_430 ?_
                  refine zr_aload_n C dL_law_431 rfl ?_
                  refine zr_iload_n C dL_law_432 rfl ?_
                  refine zr_iconst (v := 2) C dL_law_433 rfl ?_
                  refine zr_iadd C dL_law_434 ?_
                  refine zr_sald0 C dL_law_435 ?_
                  refine zk_L_37 C F (Nat.le_of_ble_eq_true rfl) (Nat.le_trans (by decide) hh) (by simp [Value.category]) dL_law_436 (fun r436 m436 => ?_)
                  refine zr_aload_n C dL_law_439 rfl ?_
                  refine zr_aload_n C dL_law_440 rfl ?_
                  refine zr_iload_n C dL_law_441 rfl ?_
                  refine zr_iconst (v := 1) C dL_law_442 rfl ?_
                  refine zr_iadd C dL_law_443 ?_
                  refine zr_sald0 C dL_law_444 ?_
                  refine zr_aload_n C dL_law_445 rfl ?_
                  refine zr_iload_n C dL_law_446 rfl ?_
                  refine zr_iconst (v := 2) C dL_law_447 rfl ?_
                  refine zr_iadd C dL_law_448 ?_
                  refine zr_sald0 C dL_law_449 ?_
                  refine zk_L_40 C F (Nat.le_of_ble_eq_true rfl) (Nat.le_trans (by decide) hh) (by simp [Value.category]) dL_law_450 (fun r450 m450 => ?_)
                  refine zr_icmp_eq (tgt := 1936) C dL_law_453 (by decide) ?_ ?_
                  · refine zr_iinc (kk := 3) (v := (l3 + 6)) (L1 := [(3, .int _), (0, .ref _), (1, .ref _), (2, .ref _)]) C dL_law_1936 rfl rfl (by decide) rfl ?_
                    refine zr_goto (tgt := 18) C dL_law_1939 (by decide) ?_
                    exact zr_sub [1, 2, 3, 0] rfl (hrec18 m450 ((l3 + 6)))
                  · refine zr_iconst (v := 0) C dL_law_456 rfl ?_
                    exact hret _ _ _ _ dL_law_457
                · refine zr_if (fun hx => ?_) (fun _ => ?_)
                  · refine zr_tabIn (tgt := 458) C dL_law_33 (by rw [hx]; decide) (by rw [hx]; decide) (off := 425) (by rw [hx]; decide) (by decide) ?_
                    refine zr_aload_n C dL_law_458 rfl ?_
                    refine zr_aload_n C dL_law_459 rfl ?_
                    refine zr_iload_n C dL_law_460 rfl ?_
                    refine zr_iconst (v := 1) C dL_law_461 rfl ?_
                    refine zr_iadd C dL_law_462 ?_
                    refine zr_sald0 C dL_law_463 ?_
                    refine zr_aload_n C dL_law_464 rfl ?_
                    refine zr_iload_n C dL_law_465 rfl ?_
                    refine zr_iconst (v := 2) C dL_law_466 rfl ?_
                    refine zr_iadd C dL_law_467 ?_
                    refine zr_sald0 C dL_law_468 ?_
                    refine zk_L_41 C F (Nat.le_of_ble_eq_true rfl) (Nat.le_trans (by decide) hh) (by simp [Value.category]) dL_law_469 (fun r469 m469 => ?_)
                    refine zr_aload_n C dL_law_472 rfl ?_
                    refine zr_aload_n C dL_law_473 rfl ?_
                    refine zr_iload_n C dL_law_474 rfl ?_
                    refine zr_iconst (v := 1) C dL_law_475 rfl ?_
                    refine zr_iadd C dL_law_476 ?_
                    refine zr_sald0 C dL_law_477 ?_
                    refine zr_aload_n C dL_law_478 rfl ?_
                    refine zr_iload_n C dL_law_479 rfl ?_
                    refine zr_iconst (v := 2) C dL_law_480 rfl ?_
                    refine zr_iadd C dL_law_481 ?_
                    refine zr_sald0 C dL_law_482 ?_
                    refine zk_L_44 C F (Nat.le_of_ble_eq_true rfl) (Nat.le_trans (by decide) hh) (by simp [Value.category]) dL_law_483 (fun r483 m483 => ?_)
                    refine zr_icmp_eq (tgt := 1936) C dL_law_486 (by decide) ?_ ?_
                    · refine zr_iinc (kk := 3) (v := (l3 + 6)) (L1 := [(3, .int _), (0, .ref _), (1, .ref _), (2, .ref _)]) C dL_law_1936 rfl rfl (by decide) rfl ?_
                      refine zr_goto (tgt := 18) C dL_law_1939 (by decide) ?_
                      exact zr_sub [1, 2, 3, 0] rfl (hrec18 m483 ((l3 + 6)))
                    · refine zr_iconst (v := 0) C dL_law_489 rfl ?_
                      exact hret _ _ _ _ dL_law_490
                  · refine zr_if (fun hx => ?_) (fun _ => ?_)
                    · refine zr_tabIn (tgt := 491) C dL_law_33 (by rw [hx]; decide) (by rw [hx]; decide) (off := 458) (by rw [hx]; decide) (by decide) ?_
                      refine zr_aload_n C dL_law_491 rfl ?_
                      refine zr_aload_n C dL_law_492 rfl ?_
                      refine zr_iload_n C dL_law_493 rfl ?_
                      refine zr_iconst (v := 1) C dL_law_494 rfl ?_
                      refine zr_iadd C dL_law_495 ?_
                      refine zr_sald0 C dL_law_496 ?_
                      refine zr_aload_n C dL_law_497 rfl ?_
                      refine zr_iload_n C dL_law_498 rfl ?_
                      refine zr_iconst (v := 2) C dL_law_499 rfl ?_
                      refine zr_iadd C dL_law_500 ?_
                      refine zr_sald0 C dL_law_501 ?_
                      refine zr_aload_n C dL_law_502 rfl ?_
                      refine zr_iload_n C dL_law_503 rfl ?_
                      refine zr_iconst (v := 3) C dL_law_504 rfl ?_
                      refine zr_iadd C dL_law_505 ?_
                      refine zr_sald0 C dL_law_506 ?_
                      refine zk_L_45 C F (Nat.le_of_ble_eq_true rfl) (Nat.le_trans (by decide) hh) (by simp [Value.category]) dL_law_507 (fun r507 m507 => ?_)
                      refine zr_aload_n C dL_law_510 rfl ?_
                      refine zr_aload_n C dL_law_511 rfl ?_
                      refine zr_iload_n C dL_law_512 rfl ?_
                      refine zr_iconst (v := 1) C dL_law_513 rfl ?_
                      refine zr_iadd C dL_law_514 ?_
                      refine zr_sald0 C dL_law_515 ?_
                      refine zr_aload_n C dL_law_516 rfl ?_
                      refine zr_iload_n C dL_law_517 rfl ?_
                      refine zr_iconst (v := 2) C dL_law_518 rfl ?_
                      refine zr_iadd C dL_law_519 ?_
                      refine zr_sald0 C dL_law_520 ?_
                      refine zr_aload_n C dL_law_521 rfl ?_
                      refine zr_iload_n C dL_law_522 rfl ?_
                      refine zr_iconst (v := 3) C dL_law_523 rfl ?_
                      refine zr_iadd C dL_law_524 ?_
                      refine zr_sald0 C dL_law_525 ?_
                      refine zk_L_48 C F (Nat.le_of_ble_eq_true rfl) (Nat.le_trans (by decide) hh) (by simp [Value.category]) dL_law_526 (fun r526 m526 => ?_)
                      refine zr_icmp_eq (tgt := 1936) C dL_law_529 (by decide) ?_ ?_
                      · refine zr_iinc (kk := 3) (v := (l3 + 6)) (L1 := [(3, .int _), (0, .ref _), (1, .ref _), (2, .ref _)]) C dL_law_1936 rfl rfl (by decide) rfl ?_
                        refine zr_goto (tgt := 18) C dL_law_1939 (by decide) ?_
                        exact zr_sub [1, 2, 3, 0] rfl (hrec18 m526 ((l3 + 6)))
                      · refine zr_iconst (v := 0) C dL_law_532 rfl ?_
                        exact hret _ _ _ _ dL_law_533
                    · refine zr_if (fun hx => ?_) (fun _ => ?_)
                      · refine zr_tabIn (tgt := 534) C dL_law_33 (by rw [hx]; decide) (by rw [hx]; decide) (off := 501) (by rw [hx]; decide) (by decide) ?_
                        refine zr_aload_n C dL_law_534 rfl ?_
                        refine zr_aload_n C dL_law_535 rfl ?_
                        refine zr_iload_n C dL_law_536 rfl ?_
                        refine zr_iconst (v := 1) C dL_law_537 rfl ?_
                        refine zr_iadd C dL_law_538 ?_
                        refine zr_sald0 C dL_law_539 ?_
                        refine zr_aload_n C dL_law_540 rfl ?_
                        refine zr_iload_n C dL_law_541 rfl ?_
                        refine zr_iconst (v := 2) C dL_law_542 rfl ?_
                        refine zr_iadd C dL_law_543 ?_
                        refine zr_sald0 C dL_law_544 ?_
                        refine zk_L_49 C F (Nat.le_of_ble_eq_true rfl) (Nat.le_trans (by decide) hh) (by simp [Value.category]) dL_law_545 (fun r545 m545 => ?_)
                        refine zr_aload_n C dL_law_548 rfl ?_
                        refine zr_aload_n C dL_law_549 rfl ?_
                        refine zr_iload_n C dL_law_550 rfl ?_
                        refine zr_iconst (v := 1) C dL_law_551 rfl ?_
                        refine zr_iadd C dL_law_552 ?_
                        refine zr_sald0 C dL_law_553 ?_
                        refine zr_aload_n C dL_law_554 rfl ?_
                        refine zr_iload_n C dL_law_555 rfl ?_
                        refine zr_iconst (v := 2) C dL_law_556 rfl ?_
                        refine zr_iadd C dL_law_557 ?_
                        refine zr_sald0 C dL_law_558 ?_
                        refine zk_L_52 C F (Nat.le_of_ble_eq_true rfl) (Nat.le_trans (by decide) hh) (by simp [Value.category]) dL_law_559 (fun r559 m559 => ?_)
                        refine zr_icmp_eq (tgt := 1936) C dL_law_562 (by decide) ?_ ?_
                        · refine zr_iinc (kk := 3) (v := (l3 + 6)) (L1 := [(3, .int _), (0, .ref _), (1, .ref _), (2, .ref _)]) C dL_law_1936 rfl rfl (by decide) rfl ?_
                          refine zr_goto (tgt := 18) C dL_law_1939 (by decide) ?_
                          exact zr_sub [1, 2, 3, 0] rfl (hrec18 m559 ((l3 + 6)))
                        · refine zr_iconst (v := 0) C dL_law_565 rfl ?_
                          exact hret _ _ _ _ dL_law_566
                      · refine zr_if (fun hx => ?_) (fun _ => ?_)
                        · refine zr_tabIn (tgt := 567) C dL_law_33 (by rw [hx]; decide) (by rw [hx]; decide) (off := 534) (by rw [hx]; decide) (by decide) ?_
                          refine zr_aload_n C dL_law_567 rfl ?_
                          refine zr_aload_n C dL_law_568 rfl ?_
                          refine zr_iload_n C dL_law_569 rfl ?_
                          refine zr_iconst (v := 1) C dL_law_570 rfl ?_
                          refine zr_iadd C dL_law_571 ?_
                          refine zr_sald0 C dL_law_572 ?_
                          refine zr_aload_n C dL_law_573 rfl ?_
                          refine zr_iload_n C dL_law_574 rfl ?_
                          refine zr_iconst (v := 2) C dL_law_575 rfl ?_
                          refine zr_iadd C dL_law_576 ?_
                          refine zr_sald0 C dL_law_577 ?_
                          refine zk_L_53 C F (Nat.le_of_ble_eq_true rfl) (Nat.le_trans (by decide) hh) (by simp [Value.category]) dL_law_578 (fun r578 m578 => ?_)
                          refine zr_aload_n C dL_law_581 rfl ?_
                          refine zr_aload_n C dL_law_582 rfl ?_
                          refine zr_iload_n C dL_law_583 rfl ?_
                          refine zr_iconst (v := 1) C dL_law_584 rfl ?_
                          refine zr_iadd C dL_law_585 ?_
                          refine zr_sald0 C dL_law_586 ?_
                          refine zr_aload_n C dL_law_587 rfl ?_
                          refine zr_iload_n C dL_law_588 rfl ?_
                          refine zr_iconst (v := 2) C dL_law_589 rfl ?_
                          refine zr_iadd C dL_law_590 ?_
                          refine zr_sald0 C dL_law_591 ?_
                          refine zk_L_56 C F (Nat.le_of_ble_eq_true rfl) (Nat.le_trans (by decide) hh) (by simp [Value.category]) dL_law_592 (fun r592 m592 => ?_)
                          refine zr_icmp_eq (tgt := 1936) C dL_law_595 (by decide) ?_ ?_
                          · refine zr_iinc (kk := 3) (v := (l3 + 6)) (L1 := [(3, .int _), (0, .ref _), (1, .ref _), (2, .ref _)]) C dL_law_1936 rfl rfl (by decide) rfl ?_
                            refine zr_goto (tgt := 18) C dL_law_1939 (by decide) ?_
                            exact zr_sub [1, 2, 3, 0] rfl (hrec18 m592 ((l3 + 6)))
                          · refine zr_iconst (v := 0) C dL_law_598 rfl ?_
                            exact hret _ _ _ _ dL_law_599
                        · refine zr_if (fun hx => ?_) (fun _ => ?_)
                          · refine zr_tabIn (tgt := 600) C dL_law_33 (by rw [hx]; decide) (by rw [hx]; decide) (off := 567) (by rw [hx]; decide) (by decide) ?_
                            refine zr_aload_n C dL_law_600 rfl ?_
                            refine zr_aload_n C dL_law_601 rfl ?_
                            refine zr_iload_n C dL_law_602 rfl ?_
                            refine zr_iconst (v := 1) C dL_law_603 rfl ?_
                            refine zr_iadd C dL_law_604 ?_
                            refine zr_sald0 C dL_law_605 ?_
                            refine zr_aload_n C dL_law_606 rfl ?_
                            refine zr_iload_n C dL_law_607 rfl ?_
                            refine zr_iconst (v := 2) C dL_law_608 rfl ?_
                            refine zr_iadd C dL_law_609 ?_
                            refine zr_sald0 C dL_law_610 ?_
                            refine zk_L_57 C F (Nat.le_of_ble_eq_true rfl) (Nat.le_trans (by decide) hh) (by simp [Value.category]) dL_law_611 (fun r611 m611 => ?_)
                            refine zr_aload_n C dL_law_614 rfl ?_
                            refine zr_aload_n C dL_law_615 rfl ?_
                            refine zr_iload_n C dL_law_616 rfl ?_
                            refine zr_iconst (v := 1) C dL_law_617 rfl ?_
                            refine zr_iadd C dL_law_618 ?_
                            refine zr_sald0 C dL_law_619 ?_
                            refine zr_aload_n C dL_law_620 rfl ?_
                            refine zr_iload_n C dL_law_621 rfl ?_
                            refine zr_iconst (v := 2) C dL_law_622 rfl ?_
                            refine zr_iadd C dL_law_623 ?_
                            refine zr_sald0 C dL_law_624 ?_
                            refine zk_L_60 C F (Nat.le_of_ble_eq_true rfl) (Nat.le_trans (by decide) hh) (by simp [Value.category]) dL_law_625 (fun r625 m625 => ?_)
                            refine zr_icmp_eq (tgt := 1936) C dL_law_628 (by decide) ?_ ?_
                            · refine zr_iinc (kk := 3) (v := (l3 + 6)) (L1 := [(3, .int _), (0, .ref _), (1, .ref _), (2, .ref _)]) C dL_law_1936 rfl rfl (by decide) rfl ?_
                              refine zr_goto (tgt := 18) C dL_law_1939 (by decide) ?_
                              exact zr_sub [1, 2, 3, 0] rfl (hrec18 m625 ((l3 + 6)))
                            · refine zr_iconst (v := 0) C dL_law_631 rfl ?_
                              exact hret _ _ _ _ dL_law_632
                          · refine zr_if (fun hx => ?_) (fun _ => ?_)
                            · refine zr_tabIn (tgt := 633) C dL_law_33 (by rw [hx]; decide) (by rw [hx]; decide) (off := 600) (by rw [hx]; decide) (by decide) ?_
                              refine zr_aload_n C dL_law_633 rfl ?_
                              refine zr_aload_n C dL_law_634 rfl ?_
                              refine zr_iload_n C dL_law_635 rfl ?_
                              refine zr_iconst (v := 1) C dL_law_636 rfl ?_
                              refine zr_iadd C dL_law_637 ?_
                              refine zr_sald0 C dL_law_638 ?_
                              refine zr_aload_n C dL_law_639 rfl ?_
                              refine zr_iload_n C dL_law_640 rfl ?_
                              refine zr_iconst (v := 2) C dL_law_641 rfl ?_
                              refine zr_iadd C dL_law_642 ?_
                              refine zr_sald0 C dL_law_643 ?_
                              refine zk_L_61 C F (Nat.le_of_ble_eq_true rfl) (Nat.le_trans (by decide) hh) (by simp [Value.category]) dL_law_644 (fun r644 m644 => ?_)
                              refine zr_aload_n C dL_law_647 rfl ?_
                              refine zr_aload_n C dL_law_648 rfl ?_
                              refine zr_iload_n C dL_law_649 rfl ?_
                              refine zr_iconst (v := 1) C dL_law_650 rfl ?_
                              refine zr_iadd C dL_law_651 ?_
                              refine zr_sald0 C dL_law_652 ?_
                              refine zr_aload_n C dL_law_653 rfl ?_
                              refine zr_iload_n C dL_law_654 rfl ?_
                              refine zr_iconst (v := 2) C dL_law_655 rfl ?_
                              refine zr_iadd C dL_law_656 ?_
                              refine zr_sald0 C dL_law_657 ?_
                              refine zk_L_64 C F (Nat.le_of_ble_eq_true rfl) (Nat.le_trans (by decide) hh) (by simp [Value.category]) dL_law_658 (fun r658 m658 => ?_)
                              refine zr_icmp_eq (tgt := 1936) C dL_law_661 (by decide) ?_ ?_
                              · refine zr_iinc (kk := 3) (v := (l3 + 6)) (L1 := [(3, .int _), (0, .ref _), (1, .ref _), (2, .ref _)]) C dL_law_1936 rfl rfl (by decide) rfl ?_
                                refine zr_goto (tgt := 18) C dL_law_1939 (by decide) ?_
                                exact zr_sub [1, 2, 3, 0] rfl (hrec18 m658 ((l3 + 6)))
                              · refine zr_iconst (v := 0) C dL_law_664 rfl ?_
                                exact hret _ _ _ _ dL_law_665
                            · refine zr_if (fun hx => ?_) (fun _ => ?_)
                              · refine zr_tabIn (tgt := 666) C dL_law_33 (by rw [hx]; decide) (by rw [hx]; decide) (off := 633) (by rw [hx]; decide) (by decide) ?_
                                refine zr_aload_n C dL_law_666 rfl ?_
                                refine zr_aload_n C dL_law_667 rfl ?_
                                refine zr_iload_n C dL_law_668 rfl ?_
                                refine zr_iconst (v := 1) C dL_law_669 rfl ?_
                                refine zr_iadd C dL_law_670 ?_
                                refine zr_sald0 C dL_law_671 ?_
                                refine zr_aload_n C dL_law_672 rfl ?_
                                refine zr_iload_n C dL_law_673 rfl ?_
                                refine zr_iconst (v := 2) C dL_law_674 rfl ?_
                                refine zr_iadd C dL_law_675 ?_
                                refine zr_sald0 C dL_law_676 ?_
                                refine zk_L_65 C F (Nat.le_of_ble_eq_true rfl) (Nat.le_trans (by decide) hh) (by simp [Value.category]) dL_law_677 (fun r677 m677 => ?_)
                                refine zr_aload_n C dL_law_680 rfl ?_
                                refine zr_aload_n C dL_law_681 rfl ?_
                                refine zr_iload_n C dL_law_682 rfl ?_
                                refine zr_iconst (v := 1) C dL_law_683 rfl ?_
                                refine zr_iadd C dL_law_684 ?_
                                refine zr_sald0 C dL_law_685 ?_
                                refine zr_aload_n C dL_law_686 rfl ?_
                                refine zr_iload_n C dL_law_687 rfl ?_
                                refine zr_iconst (v := 2) C dL_law_688 rfl ?_
                                refine zr_iadd C dL_law_689 ?_
                                refine zr_sald0 C dL_law_690 ?_
                                refine zk_L_68 C F (Nat.le_of_ble_eq_true rfl) (Nat.le_trans (by decide) hh) (by simp [Value.category]) dL_law_691 (fun r691 m691 => ?_)
                                refine zr_icmp_eq (tgt := 1936) C dL_law_694 (by decide) ?_ ?_
                                · refine zr_iinc (kk := 3) (v := (l3 + 6)) (L1 := [(3, .int _), (0, .ref _), (1, .ref _), (2, .ref _)]) C dL_law_1936 rfl rfl (by decide) rfl ?_
                                  refine zr_goto (tgt := 18) C dL_law_1939 (by decide) ?_
                                  exact zr_sub [1, 2, 3, 0] rfl (hrec18 m691 ((l3 + 6)))
                                · refine zr_iconst (v := 0) C dL_law_697 rfl ?_
                                  exact hret _ _ _ _ dL_law_698
                              · refine zr_if (fun hx => ?_) (fun _ => ?_)
                                · refine zr_tabIn (tgt := 699) C dL_law_33 (by rw [hx]; decide) (by rw [hx]; decide) (off := 666) (by rw [hx]; decide) (by decide) ?_
                                  refine zr_aload_n C dL_law_699 rfl ?_
                                  refine zr_aload_n C dL_law_700 rfl ?_
                                  refine zr_iload_n C dL_law_701 rfl ?_
                                  refine zr_iconst (v := 1) C dL_law_702 rfl ?_
                                  refine zr_iadd C dL_law_703 ?_
                                  refine zr_sald0 C dL_law_704 ?_
                                  refine zk_L_69 C F (Nat.le_of_ble_eq_true rfl) (Nat.le_trans (by decide) hh) (by simp [Value.category]) dL_law_705 (fun r705 m705 => ?_)
                                  refine zr_aload_n C dL_law_708 rfl ?_
                                  refine zr_aload_n C dL_law_709 rfl ?_
                                  refine zr_iload_n C dL_law_710 rfl ?_
                                  refine zr_iconst (v := 1) C dL_law_711 rfl ?_
                                  refine zr_iadd C dL_law_712 ?_
                                  refine zr_sald0 C dL_law_713 ?_
                                  refine zk_L_73 C F (Nat.le_of_ble_eq_true rfl) (Nat.le_trans (by decide) hh) (by simp [Value.category]) dL_law_714 (fun r714 m714 => ?_)
                                  refine zr_icmp_eq (tgt := 1936) C dL_law_717 (by decide) ?_ ?_
                                  · refine zr_iinc (kk := 3) (v := (l3 + 6)) (L1 := [(3, .int _), (0, .ref _), (1, .ref _), (2, .ref _)]) C dL_law_1936 rfl rfl (by decide) rfl ?_
                                    refine zr_goto (tgt := 18) C dL_law_1939 (by decide) ?_
                                    exact zr_sub [1, 2, 3, 0] rfl (hrec18 m714 ((l3 + 6)))
                                  · refine zr_iconst (v := 0) C dL_law_720 rfl ?_
                                    exact hret _ _ _ _ dL_law_721
                                · refine zr_if (fun hx => ?_) (fun _ => ?_)
                                  · refine zr_tabIn (tgt := 722) C dL_law_33 (by rw [hx]; decide) (by rw [hx]; decide) (off := 689) (by rw [hx]; decide) (by decide) ?_
                                    refine zr_aload_n C dL_law_722 rfl ?_
                                    refine zr_aload_n C dL_law_723 rfl ?_
                                    refine zr_iload_n C dL_law_724 rfl ?_
                                    refine zr_iconst (v := 1) C dL_law_725 rfl ?_
                                    refine zr_iadd C dL_law_726 ?_
                                    refine zr_sald0 C dL_law_727 ?_
                                    refine zr_aload_n C dL_law_728 rfl ?_
                                    refine zr_iload_n C dL_law_729 rfl ?_
                                    refine zr_iconst (v := 2) C dL_law_730 rfl ?_
                                    refine zr_iadd C dL_law_731 ?_
                                    refine zr_sald0 C dL_law_732 ?_
                                    refine zr_aload_n C dL_law_733 rfl ?_
                                    refine zr_iload_n C dL_law_734 rfl ?_
                                    refine zr_iconst (v := 3) C dL_law_735 rfl ?_
                                    refine zr_iadd C dL_law_736 ?_
                                    refine zr_sald0 C dL_law_737 ?_
                                    refine zr_aload_n C dL_law_738 rfl ?_
                                    refine zr_iload_n C dL_law_739 rfl ?_
                                    refine zr_iconst (v := 4) C dL_law_740 rfl ?_
                                    refine zr_iadd C dL_law_741 ?_
                                    refine zr_sald0 C dL_law_742 ?_
                                    refine zk_L_74 C F (Nat.le_of_ble_eq_true rfl) (Nat.le_trans (by decide) hh) (by simp [Value.category]) dL_law_743 (fun r743 m743 => ?_)
                                    refine zr_aload_n C dL_law_746 rfl ?_
                                    refine zr_aload_n C dL_law_747 rfl ?_
                                    refine zr_iload_n C dL_law_748 rfl ?_
                                    refine zr_iconst (v := 1) C dL_law_749 rfl ?_
                                    refine zr_iadd C dL_law_750 ?_
                                    refine zr_sald0 C dL_law_751 ?_
                                    refine zr_aload_n C dL_law_752 rfl ?_
                                    refine zr_iload_n C dL_law_753 rfl ?_
                                    refine zr_iconst (v := 2) C dL_law_754 rfl ?_
                                    refine zr_iadd C dL_law_755 ?_
                                    refine zr_sald0 C dL_law_756 ?_
                                    refine zr_aload_n C dL_law_757 rfl ?_
                                    refine zr_iload_n C dL_law_758 rfl ?_
                                    refine zr_iconst (v := 3) C dL_law_759 rfl ?_
                                    refine zr_iadd C dL_law_760 ?_
                                    refine zr_sald0 C dL_law_761 ?_
                                    refine zr_aload_n C dL_law_762 rfl ?_
                                    refine zr_iload_n C dL_law_763 rfl ?_
                                    refine zr_iconst (v := 4) C dL_law_764 rfl ?_
                                    refine zr_iadd C dL_law_765 ?_
                                    refine zr_sald0 C dL_law_766 ?_
                                    refine zk_L_77 C F (Nat.le_of_ble_eq_true rfl) (Nat.le_trans (by decide) hh) (by simp [Value.category]) dL_law_767 (fun r767 m767 => ?_)
                                    refine zr_icmp_eq (tgt := 1936) C dL_law_770 (by decide) ?_ ?_
                                    · refine zr_iinc (kk := 3) (v := (l3 + 6)) (L1 := [(3, .int _), (0, .ref _), (1, .ref _), (2, .ref _)]) C dL_law_1936 rfl rfl (by decide) rfl ?_
                                      refine zr_goto (tgt := 18) C dL_law_1939 (by decide) ?_
                                      exact zr_sub [1, 2, 3, 0] rfl (hrec18 m767 ((l3 + 6)))
                                    · refine zr_iconst (v := 0) C dL_law_773 rfl ?_
                                      exact hret _ _ _ _ dL_law_774
                                  · refine zr_if (fun hx => ?_) (fun _ => ?_)
                                    · refine zr_tabIn (tgt := 775) C dL_law_33 (by rw [hx]; decide) (by rw [hx]; decide) (off := 742) (by rw [hx]; decide) (by decide) ?_
                                      refine zr_aload_n C dL_law_775 rfl ?_
                                      refine zr_aload_n C dL_law_776 rfl ?_
                                      refine zr_iload_n C dL_law_777 rfl ?_
                                      refine zr_iconst (v := 1) C dL_law_778 rfl ?_
                                      refine zr_iadd C dL_law_779 ?_
                                      refine zr_sald0 C dL_law_780 ?_
                                      refine zr_aload_n C dL_law_781 rfl ?_
                                      refine zr_iload_n C dL_law_782 rfl ?_
                                      refine zr_iconst (v := 2) C dL_law_783 rfl ?_
                                      refine zr_iadd C dL_law_784 ?_
                                      refine zr_sald0 C dL_law_785 ?_
                                      refine zr_aload_n C dL_law_786 rfl ?_
                                      refine zr_iload_n C dL_law_787 rfl ?_
                                      refine zr_iconst (v := 3) C dL_law_788 rfl ?_
                                      refine zr_iadd C dL_law_789 ?_
                                      refine zr_sald0 C dL_law_790 ?_
                                      refine zr_aload_n C dL_law_791 rfl ?_
                                      refine zr_iload_n C dL_law_792 rfl ?_
                                      refine zr_iconst (v := 4) C dL_law_793 rfl ?_
                                      refine zr_iadd C dL_law_794 ?_
                                      refine zr_sald0 C dL_law_795 ?_
                                      refine zk_L_78 C F (Nat.le_of_ble_eq_true rfl) (Nat.le_trans (by decide) hh) (by simp [Value.category]) dL_law_796 (fun r796 m796 => ?_)
                                      refine zr_aload_n C dL_law_799 rfl ?_
                                      refine zr_aload_n C dL_law_800 rfl ?_
                                      refine zr_iload_n C dL_law_801 rfl ?_
                                      refine zr_iconst (v := 1) C dL_law_802 rfl ?_
                                      refine zr_iadd C dL_law_803 ?_
                                      refine zr_sald0 C dL_law_804 ?_
                                      refine zr_aload_n C dL_law_805 rfl ?_
                                      refine zr_iload_n C dL_law_806 rfl ?_
                                      refine zr_iconst (v := 2) C dL_law_807 rfl ?_
                                      refine zr_iadd C dL_law_808 ?_
                                      refine zr_sald0 C dL_law_809 ?_
                                      refine zr_aload_n C dL_law_810 rfl ?_
                                      refine zr_iload_n C dL_law_811 rfl ?_
                                      refine zr_iconst (v := 3) C dL_law_812 rfl ?_
                                      refine zr_iadd C dL_law_813 ?_
                                      refine zr_sald0 C dL_law_814 ?_
                                      refine zr_aload_n C dL_law_815 rfl ?_
                                      refine zr_iload_n C dL_law_816 rfl ?_
                                      refine zr_iconst (v := 4) C dL_law_817 rfl ?_
                                      refine zr_iadd C dL_law_818 ?_
                                      refine zr_sald0 C dL_law_819 ?_
                                      refine zk_L_81 C F (Nat.le_of_ble_eq_true rfl) (Nat.le_trans (by decide) hh) (by simp [Value.category]) dL_law_820 (fun r820 m820 => ?_)
                                      refine zr_icmp_eq (tgt := 1936) C dL_law_823 (by decide) ?_ ?_
                                      · refine zr_iinc (kk := 3) (v := (l3 + 6)) (L1 := [(3, .int _), (0, .ref _), (1, .ref _), (2, .ref _)]) C dL_law_1936 rfl rfl (by decide) rfl ?_
                                        refine zr_goto (tgt := 18) C dL_law_1939 (by decide) ?_
                                        exact zr_sub [1, 2, 3, 0] rfl (hrec18 m820 ((l3 + 6)))
                                      · refine zr_iconst (v := 0) C dL_law_826 rfl ?_
                                        exact hret _ _ _ _ dL_law_827
                                    · refine zr_if (fun hx => ?_) (fun _ => ?_)
                                      · refine zr_tabIn (tgt := 828) C dL_law_33 (by rw [hx]; decide) (by rw [hx]; decide) (off := 795) (by rw [hx]; decide) (by decide) ?_
                                        refine zr_aload_n C dL_law_828 rfl ?_
                                        refine zr_aload_n C dL_law_829 rfl ?_
                                        refine zr_iload_n C dL_law_830 rfl ?_
                                        refine zr_iconst (v := 1) C dL_law_831 rfl ?_
                                        refine zr_iadd C dL_law_832 ?_
                                        refine zr_sald0 C dL_law_833 ?_
                                        refine zr_aload_n C dL_law_834 rfl ?_
                                        refine zr_iload_n C dL_law_835 rfl ?_
                                        refine zr_iconst (v := 2) C dL_law_836 rfl ?_
                                        refine zr_iadd C dL_law_837 ?_
                                        refine zr_sald0 C dL_law_838 ?_
                                        refine zr_aload_n C dL_law_839 rfl ?_
                                        refine zr_iload_n C dL_law_840 rfl ?_
                                        refine zr_iconst (v := 3) C dL_law_841 rfl ?_
                                        refine zr_iadd C dL_law_842 ?_
                                        refine zr_sald0 C dL_law_843 ?_
                                        refine zk_L_82 C F (Nat.le_of_ble_eq_true rfl) (Nat.le_trans (by decide) hh) (by simp [Value.category]) dL_law_844 (fun r844 m844 => ?_)
                                        refine zr_aload_n C dL_law_847 rfl ?_
                                        refine zr_aload_n C dL_law_848 rfl ?_
                                        refine zr_iload_n C dL_law_849 rfl ?_
                                        refine zr_iconst (v := 1) C dL_law_850 rfl ?_
                                        refine zr_iadd C dL_law_851 ?_
                                        refine zr_sald0 C dL_law_852 ?_
                                        refine zr_aload_n C dL_law_853 rfl ?_
                                        refine zr_iload_n C dL_law_854 rfl ?_
                                        refine zr_iconst (v := 2) C dL_law_855 rfl ?_
                                        refine zr_iadd C dL_law_856 ?_
                                        refine zr_sald0 C dL_law_857 ?_
                                        refine zr_aload_n C dL_law_858 rfl ?_
                                        refine zr_iload_n C dL_law_859 rfl ?_
                                        refine zr_iconst (v := 3) C dL_law_860 rfl ?_
                                        refine zr_iadd C dL_law_861 ?_
                                        refine zr_sald0 C dL_law_862 ?_
                                        refine zk_L_85 C F (Nat.le_of_ble_eq_true rfl) (Nat.le_trans (by decide) hh) (by simp [Value.category]) dL_law_863 (fun r863 m863 => ?_)
                                        refine zr_icmp_eq (tgt := 1936) C dL_law_866 (by decide) ?_ ?_
                                        · refine zr_iinc (kk := 3) (v := (l3 + 6)) (L1 := [(3, .int _), (0, .ref _), (1, .ref _), (2, .ref _)]) C dL_law_1936 rfl rfl (by decide) rfl ?_
                                          refine zr_goto (tgt := 18) C dL_law_1939 (by decide) ?_
                                          exact zr_sub [1, 2, 3, 0] rfl (hrec18 m863 ((l3 + 6)))
                                        · refine zr_iconst (v := 0) C dL_law_869 rfl ?_
                                          exact hret _ _ _ _ dL_law_870
                                      · refine zr_if (fun hx => ?_) (fun _ => ?_)
                                        · refine zr_tabIn (tgt := 871) C dL_law_33 (by rw [hx]; decide) (by rw [hx]; decide) (off := 838) (by rw [hx]; decide) (by decide) ?_
                                          refine zr_aload_n C dL_law_871 rfl ?_
                                          refine zr_aload_n C dL_law_872 rfl ?_
                                          refine zr_iload_n C dL_law_873 rfl ?_
                                          refine zr_iconst (v := 1) C dL_law_874 rfl ?_
                                          refine zr_iadd C dL_law_875 ?_
                                          refine zr_sald0 C dL_law_876 ?_
                                          refine zr_aload_n C dL_law_877 rfl ?_
                                          refine zr_iload_n C dL_law_878 rfl ?_
                                          refine zr_iconst (v := 2) C dL_law_879 rfl ?_
                                          refine zr_iadd C dL_law_880 ?_
                                          refine zr_sald0 C dL_law_881 ?_
                                          refine zr_aload_n C dL_law_882 rfl ?_
                                          refine zr_iload_n C dL_law_883 rfl ?_
                                          refine zr_iconst (v := 3) C dL_law_884 rfl ?_
                                          refine zr_iadd C dL_law_885 ?_
                                          refine zr_sald0 C dL_law_886 ?_
                                          refine zr_aload_n C dL_law_887 rfl ?_
                                          refine zr_iload_n C dL_law_888 rfl ?_
                                          refine zr_iconst (v := 4) C dL_law_889 rfl ?_
                                          refine zr_iadd C dL_law_890 ?_
                                          refine zr_sald0 C dL_law_891 ?_
                                          refine zr_aload_n C dL_law_892 rfl ?_
                                          refine zr_iload_n C dL_law_893 rfl ?_
                                          refine zr_iconst (v := 5) C dL_law_894 rfl ?_
                                          refine zr_iadd C dL_law_895 ?_
                                          refine zr_sald0 C dL_law_896 ?_
                                          refine zk_L_86 C F (Nat.le_of_ble_eq_true rfl) (Nat.le_trans (by decide) hh) (by simp [Value.category]) dL_law_897 (fun r897 m897 => ?_)
                                          refine zr_aload_n C dL_law_900 rfl ?_
                                          refine zr_aload_n C dL_law_901 rfl ?_
                                          refine zr_iload_n C dL_law_902 rfl ?_
                                          refine zr_iconst (v := 1) C dL_law_903 rfl ?_
                                          refine zr_iadd C dL_law_904 ?_
                                          refine zr_sald0 C dL_law_905 ?_
                                          refine zr_aload_n C dL_law_906 rfl ?_
                                          refine zr_iload_n C dL_law_907 rfl ?_
                                          refine zr_iconst (v := 2) C dL_law_908 rfl ?_
                                          refine zr_iadd C dL_law_909 ?_
                                          refine zr_sald0 C dL_law_910 ?_
                                          refine zr_aload_n C dL_law_911 rfl ?_
                                          refine zr_iload_n C dL_law_912 rfl ?_
                                          refine zr_iconst (v := 3) C dL_law_913 rfl ?_
                                          refine zr_iadd C dL_law_914 ?_
                                          refine zr_sald0 C dL_law_915 ?_
                                          refine zr_aload_n C dL_law_916 rfl ?_
                                          refine zr_iload_n C dL_law_917 rfl ?_
                                          refine zr_iconst (v := 4) C dL_law_918 rfl ?_
                                          refine zr_iadd C dL_law_919 ?_
                                          refine zr_sald0 C dL_law_920 ?_
                                          refine zr_aload_n C dL_law_921 rfl ?_
                                          refine zr_iload_n C dL_law_922 rfl ?_
                                          refine zr_iconst (v := 5) C dL_law_923 rfl ?_
                                          refine zr_iadd C dL_law_924 ?_
                                          refine zr_sald0 C dL_law_925 ?_
                                          refine zk_L_90 C F (Nat.le_of_ble_eq_true rfl) (Nat.le_trans (by decide) hh) (by simp [Value.category]) dL_law_926 (fun r926 m926 => ?_)
                                          refine zr_icmp_eq (tgt := 1936) C dL_law_929 (by decide) ?_ ?_
                                          · refine zr_iinc (kk := 3) (v := (l3 + 6)) (L1 := [(3, .int _), (0, .ref _), (1, .ref _), (2, .ref _)]) C dL_law_1936 rfl rfl (by decide) rfl ?_
                                            refine zr_goto (tgt := 18) C dL_law_1939 (by decide) ?_
                                            exact zr_sub [1, 2, 3, 0] rfl (hrec18 m926 ((l3 + 6)))
                                          · refine zr_iconst (v := 0) C dL_law_932 rfl ?_
                                            exact hret _ _ _ _ dL_law_933
                                        · refine zr_if (fun hx => ?_) (fun _ => ?_)
                                          · refine zr_tabIn (tgt := 934) C dL_law_33 (by rw [hx]; decide) (by rw [hx]; decide) (off := 901) (by rw [hx]; decide) (by decide) ?_
                                            refine zr_aload_n C dL_law_934 rfl ?_
                                            refine zr_aload_n C dL_law_935 rfl ?_
                                            refine zr_iload_n C dL_law_936 rfl ?_
                                            refine zr_iconst (v := 1) C dL_law_937 rfl ?_
                                            refine zr_iadd C dL_law_938 ?_
                                            refine zr_sald0 C dL_law_939 ?_
                                            refine zr_aload_n C dL_law_940 rfl ?_
                                            refine zr_iload_n C dL_law_941 rfl ?_
                                            refine zr_iconst (v := 2) C dL_law_942 rfl ?_
                                            refine zr_iadd C dL_law_943 ?_
                                            refine zr_sald0 C dL_law_944 ?_
                                            refine zk_L_91 C F (Nat.le_of_ble_eq_true rfl) (Nat.le_trans (by decide) hh) (by simp [Value.category]) dL_law_945 (fun r945 m945 => ?_)
                                            refine zr_aload_n C dL_law_948 rfl ?_
                                            refine zr_aload_n C dL_law_949 rfl ?_
                                            refine zr_iload_n C dL_law_950 rfl ?_
                                            refine zr_iconst (v := 1) C dL_law_951 rfl ?_
                                            refine zr_iadd C dL_law_952 ?_
                                            refine zr_sald0 C dL_law_953 ?_
                                            refine zr_aload_n C dL_law_954 rfl ?_
                                            refine zr_iload_n C dL_law_955 rfl ?_
                                            refine zr_iconst (v := 2) C dL_law_956 rfl ?_
                                            refine zr_iadd C dL_law_957 ?_
                                            refine zr_sald0 C dL_law_958 ?_
                                            refine zk_L_94 C F (Nat.le_of_ble_eq_true rfl) (Nat.le_trans (by decide) hh) (by simp [Value.category]) dL_law_959 (fun r959 m959 => ?_)
                                            refine zr_icmp_eq (tgt := 1936) C dL_law_962 (by decide) ?_ ?_
                                            · refine zr_iinc (kk := 3) (v := (l3 + 6)) (L1 := [(3, .int _), (0, .ref _), (1, .ref _), (2, .ref _)]) C dL_law_1936 rfl rfl (by decide) rfl ?_
                                              refine zr_goto (tgt := 18) C dL_law_1939 (by decide) ?_
                                              exact zr_sub [1, 2, 3, 0] rfl (hrec18 m959 ((l3 + 6)))
                                            · refine zr_iconst (v := 0) C dL_law_965 rfl ?_
                                              exact hret _ _ _ _ dL_law_966
                                          · refine zr_if (fun hx => ?_) (fun _ => ?_)
                                            · refine zr_tabIn (tgt := 967) C dL_law_33 (by rw [hx]; decide) (by rw [hx]; decide) (off := 934) (by rw [hx]; decide) (by decide) ?_
                                              refine zr_aload_n C dL_law_967 rfl ?_
                                              refine zr_aload_n C dL_law_968 rfl ?_
                                              refine zr_iload_n C dL_law_969 rfl ?_
                                              refine zr_iconst (v := 1) C dL_law_970 rfl ?_
                                              refine zr_iadd C dL_law_971 ?_
                                              refine zr_sald0 C dL_law_972 ?_
                                              refine zr_aload_n C dL_law_973 rfl ?_
                                              refine zr_iload_n C dL_law_974 rfl ?_
                                              refine zr_iconst (v := 2) C dL_law_975 rfl ?_
                                              refine zr_iadd C dL_law_976 ?_
                                              refine zr_sald0 C dL_law_977 ?_
                                              refine zk_L_95 C F (Nat.le_of_ble_eq_true rfl) (Nat.le_trans (by decide) hh) (by simp [Value.category]) dL_law_978 (fun r978 m978 => ?_)
                                              refine zr_aload_n C dL_law_981 rfl ?_
                                              refine zr_aload_n C dL_law_982 rfl ?_
                                              refine zr_iload_n C dL_law_983 rfl ?_
                                              refine zr_iconst (v := 1) C dL_law_984 rfl ?_
                                              refine zr_iadd C dL_law_985 ?_
                                              refine zr_sald0 C dL_law_986 ?_
                                              refine zr_aload_n C dL_law_987 rfl ?_
                                              refine zr_iload_n C dL_law_988 rfl ?_
                                              refine zr_iconst (v := 2) C dL_law_989 rfl ?_
                                              refine zr_iadd C dL_law_990 ?_
                                              refine zr_sald0 C dL_law_991 ?_
                                              refine zk_L_98 C F (Nat.le_of_ble_eq_true rfl) (Nat.le_trans (by decide) hh) (by simp [Value.category]) dL_law_992 (fun r992 m992 => ?_)
                                              refine zr_icmp_eq (tgt := 1936) C dL_law_995 (by decide) ?_ ?_
                                              · refine zr_iinc (kk := 3) (v := (l3 + 6)) (L1 := [(3, .int _), (0, .ref _), (1, .ref _), (2, .ref _)]) C dL_law_1936 rfl rfl (by decide) rfl ?_
                                                refine zr_goto (tgt := 18) C dL_law_1939 (by decide) ?_
                                                exact zr_sub [1, 2, 3, 0] rfl (hrec18 m992 ((l3 + 6)))
                                              · refine zr_iconst (v := 0) C dL_law_998 rfl ?_
                                                exact hret _ _ _ _ dL_law_999
                                            · refine zr_if (fun hx => ?_) (fun _ => ?_)
                                              · refine zr_tabIn (tgt := 1000) C dL_law_33 (by rw [hx]; decide) (by rw [hx]; decide) (off := 967) (by rw [hx]; decide) (by decide) ?_
                                                refine zr_aload_n C dL_law_1000 rfl ?_
                                                refine zr_aload_n C dL_law_1001 rfl ?_
                                                refine zr_iload_n C dL_law_1002 rfl ?_
                                                refine zr_iconst (v := 1) C dL_law_1003 rfl ?_
                                                refine zr_iadd C dL_law_1004 ?_
                                                refine zr_sald0 C dL_law_1005 ?_
                                                refine zr_aload_n C dL_law_1006 rfl ?_
                                                refine zr_iload_n C dL_law_1007 rfl ?_
                                                refine zr_iconst (v := 2) C dL_law_1008 rfl ?_
                                                refine zr_iadd C dL_law_1009 ?_
                                                refine zr_sald0 C dL_law_1010 ?_
                                                refine zk_L_99 C F (Nat.le_of_ble_eq_true rfl) (Nat.le_trans (by decide) hh) (by simp [Value.category]) dL_law_1011 (fun r1011 m1011 => ?_)
                                                refine zr_aload_n C dL_law_1014 rfl ?_
                                                refine zr_aload_n C dL_law_1015 rfl ?_
                                                refine zr_iload_n C dL_law_1016 rfl ?_
                                                refine zr_iconst (v := 1) C dL_law_1017 rfl ?_
                                                refine zr_iadd C dL_law_1018 ?_
                                                refine zr_sald0 C dL_law_1019 ?_
                                                refine zr_aload_n C dL_law_1020 rfl ?_
                                                refine zr_iload_n C dL_law_1021 rfl ?_
                                                refine zr_iconst (v := 2) C dL_law_1022 rfl ?_
                                                refine zr_iadd C dL_law_1023 ?_
                                                refine zr_sald0 C dL_law_1024 ?_
                                                refine zk_L_102 C F (Nat.le_of_ble_eq_true rfl) (Nat.le_trans (by decide) hh) (by simp [Value.category]) dL_law_1025 (fun r1025 m1025 => ?_)
                                                refine zr_icmp_eq (tgt := 1936) C dL_law_1028 (by decide) ?_ ?_
                                                · refine zr_iinc (kk := 3) (v := (l3 + 6)) (L1 := [(3, .int _), (0, .ref _), (1, .ref _), (2, .ref _)]) C dL_law_1936 rfl rfl (by decide) rfl ?_
                                                  refine zr_goto (tgt := 18) C dL_law_1939 (by decide) ?_
                                                  exact zr_sub [1, 2, 3, 0] rfl (hrec18 m1025 ((l3 + 6)))
                                                · refine zr_iconst (v := 0) C dL_law_1031 rfl ?_
                                                  exact hret _ _ _ _ dL_law_1032
                                              · refine zr_if (fun hx => ?_) (fun _ => ?_)
                                                · refine zr_tabIn (tgt := 1033) C dL_law_33 (by rw [hx]; decide) (by rw [hx]; decide) (off := 1000) (by rw [hx]; decide) (by decide) ?_
                                                  refine zr_aload_n C dL_law_1033 rfl ?_
                                                  refine zr_aload_n C dL_law_1034 rfl ?_
                                                  refine zr_iload_n C dL_law_1035 rfl ?_
                                                  refine zr_iconst (v := 1) C dL_law_1036 rfl ?_
                                                  refine zr_iadd C dL_law_1037 ?_
                                                  refine zr_sald0 C dL_law_1038 ?_
                                                  refine zr_aload_n C dL_law_1039 rfl ?_
                                                  refine zr_iload_n C dL_law_1040 rfl ?_
                                                  refine zr_iconst (v := 2) C dL_law_1041 rfl ?_
                                                  refine zr_iadd C dL_law_1042 ?_
                                                  refine zr_sald0 C dL_law_1043 ?_
                                                  refine zr_aload_n C dL_law_1044 rfl ?_
                                                  refine zr_iload_n C dL_law_1045 rfl ?_
                                                  refine zr_iconst (v := 3) C dL_law_1046 rfl ?_
                                                  refine zr_iadd C dL_law_1047 ?_
                                                  refine zr_sald0 C dL_law_1048 ?_
                                                  refine zk_L_103 C F (Nat.le_of_ble_eq_true rfl) (Nat.le_trans (by decide) hh) (by simp [Value.category]) dL_law_1049 (fun r1049 m1049 => ?_)
                                                  refine zr_aload_n C dL_law_1052 rfl ?_
                                                  refine zr_aload_n C dL_law_1053 rfl ?_
                                                  refine zr_iload_n C dL_law_1054 rfl ?_
                                                  refine zr_iconst (v := 1) C dL_law_1055 rfl ?_
                                                  refine zr_iadd C dL_law_1056 ?_
                                                  refine zr_sald0 C dL_law_1057 ?_
                                                  refine zr_aload_n C dL_law_1058 rfl ?_
                                                  refine zr_iload_n C dL_law_1059 rfl ?_
                                                  refine zr_iconst (v := 2) C dL_law_1060 rfl ?_
                                                  refine zr_iadd C dL_law_1061 ?_
                                                  refine zr_sald0 C dL_law_1062 ?_
                                                  refine zr_aload_n C dL_law_1063 rfl ?_
                                                  refine zr_iload_n C dL_law_1064 rfl ?_
                                                  refine zr_iconst (v := 3) C dL_law_1065 rfl ?_
                                                  refine zr_iadd C dL_law_1066 ?_
                                                  refine zr_sald0 C dL_law_1067 ?_
                                                  refine zk_L_106 C F (Nat.le_of_ble_eq_true rfl) (Nat.le_trans (by decide) hh) (by simp [Value.category]) dL_law_1068 (fun r1068 m1068 => ?_)
                                                  refine zr_icmp_eq (tgt := 1936) C dL_law_1071 (by decide) ?_ ?_
                                                  · refine zr_iinc (kk := 3) (v := (l3 + 6)) (L1 := [(3, .int _), (0, .ref _), (1, .ref _), (2, .ref _)]) C dL_law_1936 rfl rfl (by decide) rfl ?_
                                                    refine zr_goto (tgt := 18) C dL_law_1939 (by decide) ?_
                                                    exact zr_sub [1, 2, 3, 0] rfl (hrec18 m1068 ((l3 + 6)))
                                                  · refine zr_iconst (v := 0) C dL_law_1074 rfl ?_
                                                    exact hret _ _ _ _ dL_law_1075
                                                · refine zr_if (fun hx => ?_) (fun _ => ?_)
                                                  · refine zr_tabIn (tgt := 1076) C dL_law_33 (by rw [hx]; decide) (by rw [hx]; decide) (off := 1043) (by rw [hx]; decide) (by decide) ?_
                                                    refine zr_aload_n C dL_law_1076 rfl ?_
                                                    refine zr_aload_n C dL_law_1077 rfl ?_
                                                    refine zr_iload_n C dL_law_1078 rfl ?_
                                                    refine zr_iconst (v := 1) C dL_law_1079 rfl ?_
                                                    refine zr_iadd C dL_law_1080 ?_
                                                    refine zr_sald0 C dL_law_1081 ?_
                                                    refine zr_aload_n C dL_law_1082 rfl ?_
                                                    refine zr_iload_n C dL_law_1083 rfl ?_
                                                    refine zr_iconst (v := 2) C dL_law_1084 rfl ?_
                                                    refine zr_iadd C dL_law_1085 ?_
                                                    refine zr_sald0 C dL_law_1086 ?_
                                                    refine zr_aload_n C dL_law_1087 rfl ?_
                                                    refine zr_iload_n C dL_law_1088 rfl ?_
                                                    refine zr_iconst (v := 3) C dL_law_1089 rfl ?_
                                                    refine zr_iadd C dL_law_1090 ?_
                                                    refine zr_sald0 C dL_law_1091 ?_
                                                    refine zk_L_107 C F (Nat.le_of_ble_eq_true rfl) (Nat.le_trans (by decide) hh) (by simp [Value.category]) dL_law_1092 (fun r1092 m1092 => ?_)
                                                    refine zr_aload_n C dL_law_1095 rfl ?_
                                                    refine zr_aload_n C dL_law_1096 rfl ?_
                                                    refine zr_iload_n C dL_law_1097 rfl ?_
                                                    refine zr_iconst (v := 1) C dL_law_1098 rfl ?_
                                                    refine zr_iadd C dL_law_1099 ?_
                                                    refine zr_sald0 C dL_law_1100 ?_
                                                    refine zr_aload_n C dL_law_1101 rfl ?_
                                                    refine zr_iload_n C dL_law_1102 rfl ?_
                                                    refine zr_iconst (v := 2) C dL_law_1103 rfl ?_
                                                    refine zr_iadd C dL_law_1104 ?_
                                                    refine zr_sald0 C dL_law_1105 ?_
                                                    refine zr_aload_n C dL_law_1106 rfl ?_
                                                    refine zr_iload_n C dL_law_1107 rfl ?_
                                                    refine zr_iconst (v := 3) C dL_law_1108 rfl ?_
                                                    refine zr_iadd C dL_law_1109 ?_
                                                    refine zr_sald0 C dL_law_1110 ?_
                                                    refine zk_L_110 C F (Nat.le_of_ble_eq_true rfl) (Nat.le_trans (by decide) hh) (by simp [Value.category]) dL_law_1111 (fun r1111 m1111 => ?_)
                                                    refine zr_icmp_eq (tgt := 1936) C dL_law_1114 (by decide) ?_ ?_
                                                    · refine zr_iinc (kk := 3) (v := (l3 + 6)) (L1 := [(3, .int _), (0, .ref _), (1, .ref _), (2, .ref _)]) C dL_law_1936 rfl rfl (by decide) rfl ?_
                                                      refine zr_goto (tgt := 18) C dL_law_1939 (by decide) ?_
                                                      exact zr_sub [1, 2, 3, 0] rfl (hrec18 m1111 ((l3 + 6)))
                                                    · refine zr_iconst (v := 0) C dL_law_1117 rfl ?_
                                                      exact hret _ _ _ _ dL_law_1118
                                                  · refine zr_if (fun hx => ?_) (fun _ => ?_)
                                                    · refine zr_tabIn (tgt := 1119) C dL_law_33 (by rw [hx]; decide) (by rw [hx]; decide) (off := 1086) (by rw [hx]; decide) (by decide) ?_
                                                      refine zr_aload_n C dL_law_1119 rfl ?_
                                                      refine zr_aload_n C dL_law_1120 rfl ?_
                                                      refine zr_iload_n C dL_law_1121 rfl ?_
                                                      refine zr_iconst (v := 1) C dL_law_1122 rfl ?_
                                                      refine zr_iadd C dL_law_1123 ?_
                                                      refine zr_sald0 C dL_law_1124 ?_
                                                      refine zr_aload_n C dL_law_1125 rfl ?_
                                                      refine zr_iload_n C dL_law_1126 rfl ?_
                                                      refine zr_iconst (v := 2) C dL_law_1127 rfl ?_
                                                      refine zr_iadd C dL_law_1128 ?_
                                                      refine zr_sald0 C dL_law_1129 ?_
                                                      refine zk_L_111 C F (Nat.le_of_ble_eq_true rfl) (Nat.le_trans (by decide) hh) (by simp [Value.category]) dL_law_1130 (fun r1130 m1130 => ?_)
                                                      refine zr_aload_n C dL_law_1133 rfl ?_
                                                      refine zr_aload_n C dL_law_1134 rfl ?_
                                                      refine zr_iload_n C dL_law_1135 rfl ?_
                                                      refine zr_iconst (v := 1) C dL_law_1136 rfl ?_
                                                      refine zr_iadd C dL_law_1137 ?_
                                                      refine zr_sald0 C dL_law_1138 ?_
                                                      refine zr_aload_n C dL_law_1139 rfl ?_
                                                      refine zr_iload_n C dL_law_1140 rfl ?_
                                                      refine zr_iconst (v := 2) C dL_law_1141 rfl ?_
                                                      refine zr_iadd C dL_law_1142 ?_
                                                      refine zr_sald0 C dL_law_1143 ?_
                                                      refine zk_L_114 C F (Nat.le_of_ble_eq_true rfl) (Nat.le_trans (by decide) hh) (by simp [Value.category]) dL_law_1144 (fun r1144 m1144 => ?_)
                                                      refine zr_icmp_eq (tgt := 1936) C dL_law_1147 (by decide) ?_ ?_
                                                      · refine zr_iinc (kk := 3) (v := (l3 + 6)) (L1 := [(3, .int _), (0, .ref _), (1, .ref _), (2, .ref _)]) C dL_law_1936 rfl rfl (by decide) rfl ?_
                                                        refine zr_goto (tgt := 18) C dL_law_1939 (by decide) ?_
                                                        exact zr_sub [1, 2, 3, 0] rfl (hrec18 m1144 ((l3 + 6)))
                                                      · refine zr_iconst (v := 0) C dL_law_1150 rfl ?_
                                                        exact hret _ _ _ _ dL_law_1151
                                                    · refine zr_if (fun hx => ?_) (fun _ => ?_)
                                                      · refine zr_tabIn (tgt := 1152) C dL_law_33 (by rw [hx]; decide) (by rw [hx]; decide) (off := 1119) (by rw [hx]; decide) (by decide) ?_
                                                        refine zr_aload_n C dL_law_1152 rfl ?_
                                                        refine zr_aload_n C dL_law_1153 rfl ?_
                                                        refine zr_iload_n C dL_law_1154 rfl ?_
                                                        refine zr_iconst (v := 1) C dL_law_1155 rfl ?_
                                                        refine zr_iadd C dL_law_1156 ?_
                                                        refine zr_sald0 C dL_law_1157 ?_
                                                        refine zk_L_115 C F (Nat.le_of_ble_eq_true rfl) (Nat.le_trans (by decide) hh) (by simp [Value.category]) dL_law_1158 (fun r1158 m1158 => ?_)
                                                        refine zr_aload_n C dL_law_1161 rfl ?_
                                                        refine zr_aload_n C dL_law_1162 rfl ?_
                                                        refine zr_iload_n C dL_law_1163 rfl ?_
                                                        refine zr_iconst (v := 1) C dL_law_1164 rfl ?_
                                                        refine zr_iadd C dL_law_1165 ?_
                                                        refine zr_sald0 C dL_law_1166 ?_
                                                        refine zk_L_118 C F (Nat.le_of_ble_eq_true rfl) (Nat.le_trans (by decide) hh) (by simp [Value.category]) dL_law_1167 (fun r1167 m1167 => ?_)
                                                        refine zr_icmp_eq (tgt := 1936) C dL_law_1170 (by decide) ?_ ?_
                                                        · refine zr_iinc (kk := 3) (v := (l3 + 6)) (L1 := [(3, .int _), (0, .ref _), (1, .ref _), (2, .ref _)]) C dL_law_1936 rfl rfl (by decide) rfl ?_
                                                          refine zr_goto (tgt := 18) C dL_law_1939 (by decide) ?_
                                                          exact zr_sub [1, 2, 3, 0] rfl (hrec18 m1167 ((l3 + 6)))
                                                        · refine zr_iconst (v := 0) C dL_law_1173 rfl ?_
                                                          exact hret _ _ _ _ dL_law_1174
                                                      · refine zr_if (fun hx => ?_) (fun _ => ?_)
                                                        · refine zr_tabIn (tgt := 1175) C dL_law_33 (by rw [hx]; decide) (by rw [hx]; decide) (off := 1142) (by rw [hx]; decide) (by decide) ?_
                                                          refine zr_aload_n C dL_law_1175 rfl ?_
                                                          refine zr_aload_n C dL_law_1176 rfl ?_
                                                          refine zr_iload_n C dL_law_1177 rfl ?_
                                                          refine zr_iconst (v := 1) C dL_law_1178 rfl ?_
                                                          refine zr_iadd C dL_law_1179 ?_
                                                          refine zr_sald0 C dL_law_1180 ?_
                                                          refine zk_L_119 C F (Nat.le_of_ble_eq_true rfl) (Nat.le_trans (by decide) hh) (by simp [Value.category]) dL_law_1181 (fun r1181 m1181 => ?_)
                                                          refine zr_aload_n C dL_law_1184 rfl ?_
                                                          refine zr_aload_n C dL_law_1185 rfl ?_
                                                          refine zr_iload_n C dL_law_1186 rfl ?_
                                                          refine zr_iconst (v := 1) C dL_law_1187 rfl ?_
                                                          refine zr_iadd C dL_law_1188 ?_
                                                          refine zr_sald0 C dL_law_1189 ?_
                                                          refine zk_L_122 C F (Nat.le_of_ble_eq_true rfl) (Nat.le_trans (by decide) hh) (by simp [Value.category]) dL_law_1190 (fun r1190 m1190 => ?_)
                                                          refine zr_icmp_eq (tgt := 1936) C dL_law_1193 (by decide) ?_ ?_
                                                          · refine zr_iinc (kk := 3) (v := (l3 + 6)) (L1 := [(3, .int _), (0, .ref _), (1, .ref _), (2, .ref _)]) C dL_law_1936 rfl rfl (by decide) rfl ?_
                                                            refine zr_goto (tgt := 18) C dL_law_1939 (by decide) ?_
                                                            exact zr_sub [1, 2, 3, 0] rfl (hrec18 m1190 ((l3 + 6)))
                                                          · refine zr_iconst (v := 0) C dL_law_1196 rfl ?_
                                                            exact hret _ _ _ _ dL_law_1197
                                                        · refine zr_if (fun hx => ?_) (fun _ => ?_)
                                                          · refine zr_tabIn (tgt := 1198) C dL_law_33 (by rw [hx]; decide) (by rw [hx]; decide) (off := 1165) (by rw [hx]; decide) (by decide) ?_
                                                            refine zr_aload_n C dL_law_1198 rfl ?_
                                                            refine zr_aload_n C dL_law_1199 rfl ?_
                                                            refine zr_iload_n C dL_law_1200 rfl ?_
                                                            refine zr_iconst (v := 1) C dL_law_1201 rfl ?_
                                                            refine zr_iadd C dL_law_1202 ?_
                                                            refine zr_sald0 C dL_law_1203 ?_
                                                            refine zr_aload_n C dL_law_1204 rfl ?_
                                                            refine zr_iload_n C dL_law_1205 rfl ?_
                                                            refine zr_iconst (v := 2) C dL_law_1206 rfl ?_
                                                            refine zr_iadd C dL_law_1207 ?_
                                                            refine zr_sald0 C dL_law_1208 ?_
                                                            refine zk_L_123 C F (Nat.le_of_ble_eq_true rfl) (Nat.le_trans (by decide) hh) (by simp [Value.category]) dL_law_1209 (fun r1209 m1209 => ?_)
                                                            refine zr_aload_n C dL_law_1212 rfl ?_
                                                            refine zr_aload_n C dL_law_1213 rfl ?_
                                                            refine zr_iload_n C dL_law_1214 rfl ?_
                                                            refine zr_iconst (v := 1) C dL_law_1215 rfl ?_
                                                            refine zr_iadd C dL_law_1216 ?_
                                                            refine zr_sald0 C dL_law_1217 ?_
                                                            refine zr_aload_n C dL_law_1218 rfl ?_
                                                            refine zr_iload_n C dL_law_1219 rfl ?_
                                                            refine zr_iconst (v := 2) C dL_law_1220 rfl ?_
                                                            refine zr_iadd C dL_law_1221 ?_
                                                            refine zr_sald0 C dL_law_1222 ?_
                                                            refine zk_L_126 C F (Nat.le_of_ble_eq_true rfl) (Nat.le_trans (by decide) hh) (by simp [Value.category]) dL_law_1223 (fun r1223 m1223 => ?_)
                                                            refine zr_icmp_eq (tgt := 1936) C dL_law_1226 (by decide) ?_ ?_
                                                            · refine zr_iinc (kk := 3) (v := (l3 + 6)) (L1 := [(3, .int _), (0, .ref _), (1, .ref _), (2, .ref _)]) C dL_law_1936 rfl rfl (by decide) rfl ?_
                                                              refine zr_goto (tgt := 18) C dL_law_1939 (by decide) ?_
                                                              exact zr_sub [1, 2, 3, 0] rfl (hrec18 m1223 ((l3 + 6)))
                                                            · refine zr_iconst (v := 0) C dL_law_1229 rfl ?_
                                                              exact hret _ _ _ _ dL_law_1230
                                                          · refine zr_if (fun hx => ?_) (fun _ => ?_)
                                                            · refine zr_tabIn (tgt := 1231) C dL_law_33 (by rw [hx]; decide) (by rw [hx]; decide) (off := 1198) (by rw [hx]; decide) (by decide) ?_
                                                              refine zr_aload_n C dL_law_1231 rfl ?_
                                                              refine zr_aload_n C dL_law_1232 rfl ?_
                                                              refine zr_iload_n C dL_law_1233 rfl ?_
                                                              refine zr_iconst (v := 1) C dL_law_1234 rfl ?_
                                                              refine zr_iadd C dL_law_1235 ?_
                                                              refine zr_sald0 C dL_law_1236 ?_
                                                              refine zr_aload_n C dL_law_1237 rfl ?_
                                                              refine zr_iload_n C dL_law_1238 rfl ?_
                                                              refine zr_iconst (v := 2) C dL_law_1239 rfl ?_
                                                              refine zr_iadd C dL_law_1240 ?_
                                                              refine zr_sald0 C dL_law_1241 ?_
                                                              refine zr_if_eq (tgt := 1249) C dL_law_1242 (by decide) ?_ ?_
                                                              · refine zr_iconst (v := 0) C dL_law_1249 rfl ?_
                                                                exact zr_sub [0, 1, 2, 3] rfl (c_L_law_1250 F Z rec18 hret C hh hrec18 σ l3 0 ((Z.2.2.2.2 ((l3 + 1)).toNatClampNeg)))
                                                              · refine zr_iconst (v := 1) C dL_law_1245 rfl ?_
                                                                refine zr_goto (tgt := 1250) C dL_law_1246 (by decide) ?_
                                                                exact zr_sub [0, 1, 2, 3] rfl (c_L_law_1250 F Z rec18 hret C hh hrec18 σ l3 1 ((Z.2.2.2.2 ((l3 + 1)).toNatClampNeg)))
                                                            · refine zr_if (fun hx => ?_) (fun _ => ?_)
                                                              · refine zr_tabIn (tgt := 1280) C dL_law_33 (by rw [hx]; decide) (by rw [hx]; decide) (off := 1247) (by rw [hx]; decide) (by decide) ?_
                                                                refine zr_aload_n C dL_law_1280 rfl ?_
                                                                refine zr_aload_n C dL_law_1281 rfl ?_
                                                                refine zr_iload_n C dL_law_1282 rfl ?_
                                                                refine zr_iconst (v := 1) C dL_law_1283 rfl ?_
                                                                refine zr_iadd C dL_law_1284 ?_
                                                                refine zr_sald0 C dL_law_1285 ?_
                                                                refine zr_if_eq (tgt := 1293) C dL_law_1286 (by decide) ?_ ?_
                                                                · refine zr_iconst (v := 0) C dL_law_1293 rfl ?_
                                                                  exact zr_sub [0, 1, 2, 3] rfl (c_L_law_1294 F Z rec18 hret C hh hrec18 σ l3 0)
                                                                · refine zr_iconst (v := 1) C dL_law_1289 rfl ?_
                                                                  refine zr_goto (tgt := 1294) C dL_law_1290 (by decide) ?_
                                                                  exact zr_sub [0, 1, 2, 3] rfl (c_L_law_1294 F Z rec18 hret C hh hrec18 σ l3 1)
                                                              · refine zr_if (fun hx => ?_) (fun _ => ?_)
                                                                · refine zr_tabIn (tgt := 1319) C dL_law_33 (by rw [hx]; decide) (by rw [hx]; decide) (off := 1286) (by rw [hx]; decide) (by decide) ?_
                                                                  refine zr_aload_n C dL_law_1319 rfl ?_
                                                                  refine zk_L_137 C F (Nat.le_of_ble_eq_true rfl) (Nat.le_trans (by decide) hh) (by simp [Value.category]) dL_law_1320 (fun r1320 m1320 => ?_)
                                                                  refine zr_aload_n C dL_law_1323 rfl ?_
                                                                  refine zk_L_140 C F (Nat.le_of_ble_eq_true rfl) (Nat.le_trans (by decide) hh) (by simp [Value.category]) dL_law_1324 (fun r1324 m1324 => ?_)
                                                                  refine zr_icmp_eq (tgt := 1936) C dL_law_1327 (by decide) ?_ ?_
                                                                  · refine zr_iinc (kk := 3) (v := (l3 + 6)) (L1 := [(3, .int _), (0, .ref _), (1, .ref _), (2, .ref _)]) C dL_law_1936 rfl rfl (by decide) rfl ?_
                                                                    refine zr_goto (tgt := 18) C dL_law_1939 (by decide) ?_
                                                                    exact zr_sub [1, 2, 3, 0] rfl (hrec18 m1324 ((l3 + 6)))
                                                                  · refine zr_iconst (v := 0) C dL_law_1330 rfl ?_
                                                                    exact hret _ _ _ _ dL_law_1331
                                                                · refine zr_if (fun hx => ?_) (fun _ => ?_)
                                                                  · refine zr_tabIn (tgt := 1332) C dL_law_33 (by rw [hx]; decide) (by rw [hx]; decide) (off := 1299) (by rw [hx]; decide) (by decide) ?_
                                                                    refine zr_aload_n C dL_law_1332 rfl ?_
                                                                    refine zr_aload_n C dL_law_1333 rfl ?_
                                                                    refine zr_iload_n C dL_law_1334 rfl ?_
                                                                    refine zr_iconst (v := 1) C dL_law_1335 rfl ?_
                                                                    refine zr_iadd C dL_law_1336 ?_
                                                                    refine zr_sald0 C dL_law_1337 ?_
                                                                    refine zk_L_141 C F (Nat.le_of_ble_eq_true rfl) (Nat.le_trans (by decide) hh) (by simp [Value.category]) dL_law_1338 (fun r1338 m1338 => ?_)
                                                                    refine zr_aload_n C dL_law_1341 rfl ?_
                                                                    refine zr_aload_n C dL_law_1342 rfl ?_
                                                                    refine zr_iload_n C dL_law_1343 rfl ?_
                                                                    refine zr_iconst (v := 1) C dL_law_1344 rfl ?_
                                                                    refine zr_iadd C dL_law_1345 ?_
                                                                    refine zr_sald0 C dL_law_1346 ?_
                                                                    refine zk_L_144 C F (Nat.le_of_ble_eq_true rfl) (Nat.le_trans (by decide) hh) (by simp [Value.category]) dL_law_1347 (fun r1347 m1347 => ?_)
                                                                    refine zr_icmp_eq (tgt := 1936) C dL_law_1350 (by decide) ?_ ?_
                                                                    · refine zr_iinc (kk := 3) (v := (l3 + 6)) (L1 := [(3, .int _), (0, .ref _), (1, .ref _), (2, .ref _)]) C dL_law_1936 rfl rfl (by decide) rfl ?_
                                                                      refine zr_goto (tgt := 18) C dL_law_1939 (by decide) ?_
                                                                      exact zr_sub [1, 2, 3, 0] rfl (hrec18 m1347 ((l3 + 6)))
                                                                    · refine zr_iconst (v := 0) C dL_law_1353 rfl ?_
                                                                      exact hret _ _ _ _ dL_law_1354
                                                                  · refine zr_if (fun hx => ?_) (fun _ => ?_)
                                                                    · refine zr_tabIn (tgt := 1355) C dL_law_33 (by rw [hx]; decide) (by rw [hx]; decide) (off := 1322) (by rw [hx]; decide) (by decide) ?_
                                                                      refine zr_aload_n C dL_law_1355 rfl ?_
                                                                      refine zr_aload_n C dL_law_1356 rfl ?_
                                                                      refine zr_iload_n C dL_law_1357 rfl ?_
                                                                      refine zr_iconst (v := 1) C dL_law_1358 rfl ?_
                                                                      refine zr_iadd C dL_law_1359 ?_
                                                                      refine zr_sald0 C dL_law_1360 ?_
                                                                      refine zk_L_145 C F (Nat.le_of_ble_eq_true rfl) (Nat.le_trans (by decide) hh) (by simp [Value.category]) dL_law_1361 (fun r1361 m1361 => ?_)
                                                                      refine zr_aload_n C dL_law_1364 rfl ?_
                                                                      refine zr_aload_n C dL_law_1365 rfl ?_
                                                                      refine zr_iload_n C dL_law_1366 rfl ?_
                                                                      refine zr_iconst (v := 1) C dL_law_1367 rfl ?_
                                                                      refine zr_iadd C dL_law_1368 ?_
                                                                      refine zr_sald0 C dL_law_1369 ?_
                                                                      refine zk_L_148 C F (Nat.le_of_ble_eq_true rfl) (Nat.le_trans (by decide) hh) (by simp [Value.category]) dL_law_1370 (fun r1370 m1370 => ?_)
                                                                      refine zr_icmp_eq (tgt := 1936) C dL_law_1373 (by decide) ?_ ?_
                                                                      · refine zr_iinc (kk := 3) (v := (l3 + 6)) (L1 := [(3, .int _), (0, .ref _), (1, .ref _), (2, .ref _)]) C dL_law_1936 rfl rfl (by decide) rfl ?_
                                                                        refine zr_goto (tgt := 18) C dL_law_1939 (by decide) ?_
                                                                        exact zr_sub [1, 2, 3, 0] rfl (hrec18 m1370 ((l3 + 6)))
                                                                      · refine zr_iconst (v := 0) C dL_law_1376 rfl ?_
                                                                        exact hret _ _ _ _ dL_law_1377
                                                                    · refine zr_if (fun hx => ?_) (fun _ => ?_)
                                                                      · refine zr_tabIn (tgt := 1378) C dL_law_33 (by rw [hx]; decide) (by rw [hx]; decide) (off := 1345) (by rw [hx]; decide) (by decide) ?_
                                                                        refine zr_aload_n C dL_law_1378 rfl ?_
                                                                        refine zr_aload_n C dL_law_1379 rfl ?_
                                                                        refine zr_iload_n C dL_law_1380 rfl ?_
                                                                        refine zr_iconst (v := 1) C dL_law_1381 rfl ?_
                                                                        refine zr_iadd C dL_law_1382 ?_
                                                                        refine zr_sald0 C dL_law_1383 ?_
                                                                        refine zr_aload_n C dL_law_1384 rfl ?_
                                                                        refine zr_iload_n C dL_law_1385 rfl ?_
                                                                        refine zr_iconst (v := 2) C dL_law_1386 rfl ?_
                                                                        refine zr_iadd C dL_law_1387 ?_
                                                                        refine zr_sald0 C dL_law_1388 ?_
                                                                        refine zk_L_149 C F (Nat.le_of_ble_eq_true rfl) (Nat.le_trans (by decide) hh) (by simp [Value.category]) dL_law_1389 (fun r1389 m1389 => ?_)
                                                                        refine zr_aload_n C dL_law_1392 rfl ?_
                                                                        refine zr_aload_n C dL_law_1393 rfl ?_
                                                                        refine zr_iload_n C dL_law_1394 rfl ?_
                                                                        refine zr_iconst (v := 1) C dL_law_1395 rfl ?_
                                                                        refine zr_iadd C dL_law_1396 ?_
                                                                        refine zr_sald0 C dL_law_1397 ?_
                                                                        refine zr_aload_n C dL_law_1398 rfl ?_
                                                                        refine zr_iload_n C dL_law_1399 rfl ?_
                                                                        refine zr_iconst (v := 2) C dL_law_1400 rfl ?_
                                                                        refine zr_iadd C dL_law_1401 ?_
                                                                        refine zr_sald0 C dL_law_1402 ?_
                                                                        refine zk_L_152 C F (Nat.le_of_ble_eq_true rfl) (Nat.le_trans (by decide) hh) (by simp [Value.category]) dL_law_1403 (fun r1403 m1403 => ?_)
                                                                        refine zr_icmp_eq (tgt := 1936) C dL_law_1406 (by decide) ?_ ?_
                                                                        · refine zr_iinc (kk := 3) (v := (l3 + 6)) (L1 := [(3, .int _), (0, .ref _), (1, .ref _), (2, .ref _)]) C dL_law_1936 rfl rfl (by decide) rfl ?_
                                                                          refine zr_goto (tgt := 18) C dL_law_1939 (by decide) ?_
                                                                          exact zr_sub [1, 2, 3, 0] rfl (hrec18 m1403 ((l3 + 6)))
                                                                        · refine zr_iconst (v := 0) C dL_law_1409 rfl ?_
                                                                          exact hret _ _ _ _ dL_law_1410
                                                                      · refine zr_if (fun hx => ?_) (fun _ => ?_)
                                                                        · refine zr_tabIn (tgt := 1411) C dL_law_33 (by rw [hx]; decide) (by rw [hx]; decide) (off := 1378) (by rw [hx]; decide) (by decide) ?_
                                                                          refine zr_aload_n C dL_law_1411 rfl ?_
                                                                          refine zr_aload_n C dL_law_1412 rfl ?_
                                                                          refine zr_iload_n C dL_law_1413 rfl ?_
                                                                          refine zr_iconst (v := 1) C dL_law_1414 rfl ?_
                                                                          refine zr_iadd C dL_law_1415 ?_
                                                                          refine zr_sald0 C dL_law_1416 ?_
                                                                          refine zr_aload_n C dL_law_1417 rfl ?_
                                                                          refine zr_iload_n C dL_law_1418 rfl ?_
                                                                          refine zr_iconst (v := 2) C dL_law_1419 rfl ?_
                                                                          refine zr_iadd C dL_law_1420 ?_
                                                                          refine zr_sald0 C dL_law_1421 ?_
                                                                          refine zr_aload_n C dL_law_1422 rfl ?_
                                                                          refine zr_iload_n C dL_law_1423 rfl ?_
                                                                          refine zr_iconst (v := 3) C dL_law_1424 rfl ?_
                                                                          refine zr_iadd C dL_law_1425 ?_
                                                                          refine zr_sald0 C dL_law_1426 ?_
                                                                          refine zk_L_153 C F (Nat.le_of_ble_eq_true rfl) (Nat.le_trans (by decide) hh) (by simp [Value.category]) dL_law_1427 (fun r1427 m1427 => ?_)
                                                                          refine zr_aload_n C dL_law_1430 rfl ?_
                                                                          refine zr_aload_n C dL_law_1431 rfl ?_
                                                                          refine zr_iload_n C dL_law_1432 rfl ?_
                                                                          refine zr_iconst (v := 1) C dL_law_1433 rfl ?_
                                                                          refine zr_iadd C dL_law_1434 ?_
                                                                          refine zr_sald0 C dL_law_1435 ?_
                                                                          refine zr_aload_n C dL_law_1436 rfl ?_
                                                                          refine zr_iload_n C dL_law_1437 rfl ?_
                                                                          refine zr_iconst (v := 2) C dL_law_1438 rfl ?_
                                                                          refine zr_iadd C dL_law_1439 ?_
                                                                          refine zr_sald0 C dL_law_1440 ?_
                                                                          refine zr_aload_n C dL_law_1441 rfl ?_
                                                                          refine zr_iload_n C dL_law_1442 rfl ?_
                                                                          refine zr_iconst (v := 3) C dL_law_1443 rfl ?_
                                                                          refine zr_iadd C dL_law_1444 ?_
                                                                          refine zr_sald0 C dL_law_1445 ?_
                                                                          refine zk_L_156 C F (Nat.le_of_ble_eq_true rfl) (Nat.le_trans (by decide) hh) (by simp [Value.category]) dL_law_1446 (fun r1446 m1446 => ?_)
                                                                          refine zr_icmp_eq (tgt := 1936) C dL_law_1449 (by decide) ?_ ?_
                                                                          · refine zr_iinc (kk := 3) (v := (l3 + 6)) (L1 := [(3, .int _), (0, .ref _), (1, .ref _), (2, .ref _)]) C dL_law_1936 rfl rfl (by decide) rfl ?_
                                                                            refine zr_goto (tgt := 18) C dL_law_1939 (by decide) ?_
                                                                            exact zr_sub [1, 2, 3, 0] rfl (hrec18 m1446 ((l3 + 6)))
                                                                          · refine zr_iconst (v := 0) C dL_law_1452 rfl ?_
                                                                            exact hret _ _ _ _ dL_law_1453
                                                                        · refine zr_if (fun hx => ?_) (fun _ => ?_)
                                                                          · refine zr_tabIn (tgt := 1454) C dL_law_33 (by rw [hx]; decide) (by rw [hx]; decide) (off := 1421) (by rw [hx]; decide) (by decide) ?_
                                                                            refine zr_aload_n C dL_law_1454 rfl ?_
                                                                            refine zr_aload_n C dL_law_1455 rfl ?_
                                                                            refine zr_iload_n C dL_law_1456 rfl ?_
                                                                            refine zr_iconst (v := 1) C dL_law_1457 rfl ?_
                                                                            refine zr_iadd C dL_law_1458 ?_
                                                                            refine zr_sald0 C dL_law_1459 ?_
                                                                            refine zk_L_157 C F (Nat.le_of_ble_eq_true rfl) (Nat.le_trans (by decide) hh) (by simp [Value.category]) dL_law_1460 (fun r1460 m1460 => ?_)
                                                                            refine zr_aload_n C dL_law_1463 rfl ?_
                                                                            refine zr_aload_n C dL_law_1464 rfl ?_
                                                                            refine zr_iload_n C dL_law_1465 rfl ?_
                                                                            refine zr_iconst (v := 1) C dL_law_1466 rfl ?_
                                                                            refine zr_iadd C dL_law_1467 ?_
                                                                            refine zr_sald0 C dL_law_1468 ?_
                                                                            refine zk_L_160 C F (Nat.le_of_ble_eq_true rfl) (Nat.le_trans (by decide) hh) (by simp [Value.category]) dL_law_1469 (fun r1469 m1469 => ?_)
                                                                            refine zr_icmp_eq (tgt := 1936) C dL_law_1472 (by decide) ?_ ?_
                                                                            · refine zr_iinc (kk := 3) (v := (l3 + 6)) (L1 := [(3, .int _), (0, .ref _), (1, .ref _), (2, .ref _)]) C dL_law_1936 rfl rfl (by decide) rfl ?_
                                                                              refine zr_goto (tgt := 18) C dL_law_1939 (by decide) ?_
                                                                              exact zr_sub [1, 2, 3, 0] rfl (hrec18 m1469 ((l3 + 6)))
                                                                            · refine zr_iconst (v := 0) C dL_law_1475 rfl ?_
                                                                              exact hret _ _ _ _ dL_law_1476
                                                                          · refine zr_if (fun hx => ?_) (fun _ => ?_)
                                                                            · refine zr_tabIn (tgt := 1477) C dL_law_33 (by rw [hx]; decide) (by rw [hx]; decide) (off := 1444) (by rw [hx]; decide) (by decide) ?_
                                                                              refine zr_aload_n C dL_law_1477 rfl ?_
                                                                              refine zr_aload_n C dL_law_1478 rfl ?_
                                                                              refine zr_iload_n C dL_law_1479 rfl ?_
                                                                              refine zr_iconst (v := 1) C dL_law_1480 rfl ?_
                                                                              refine zr_iadd C dL_law_1481 ?_
                                                                              refine zr_sald0 C dL_law_1482 ?_
                                                                              refine zr_aload_n C dL_law_1483 rfl ?_
                                                                              refine zr_iload_n C dL_law_1484 rfl ?_
                                                                              refine zr_iconst (v := 2) C dL_law_1485 rfl ?_
                                                                              refine zr_iadd C dL_law_1486 ?_
                                                                              refine zr_sald0 C dL_law_1487 ?_
                                                                              refine zr_aload_n C dL_law_1488 rfl ?_
                                                                              refine zr_iload_n C dL_law_1489 rfl ?_
                                                                              refine zr_iconst (v := 3) C dL_law_1490 rfl ?_
                                                                              refine zr_iadd C dL_law_1491 ?_
                                                                              refine zr_sald0 C dL_law_1492 ?_
                                                                              refine zk_L_161 C F (Nat.le_of_ble_eq_true rfl) (Nat.le_trans (by decide) hh) (by simp [Value.category]) dL_law_1493 (fun r1493 m1493 => ?_)
                                                                              refine zr_aload_n C dL_law_1496 rfl ?_
                                                                              refine zr_aload_n C dL_law_1497 rfl ?_
                                                                              refine zr_iload_n C dL_law_1498 rfl ?_
                                                                              refine zr_iconst (v := 1) C dL_law_1499 rfl ?_
                                                                              refine zr_iadd C dL_law_1500 ?_
                                                                              refine zr_sald0 C dL_law_1501 ?_
                                                                              refine zr_aload_n C dL_law_1502 rfl ?_
                                                                              refine zr_iload_n C dL_law_1503 rfl ?_
                                                                              refine zr_iconst (v := 2) C dL_law_1504 rfl ?_
                                                                              refine zr_iadd C dL_law_1505 ?_
                                                                              refine zr_sald0 C dL_law_1506 ?_
                                                                              refine zr_aload_n C dL_law_1507 rfl ?_
                                                                              refine zr_iload_n C dL_law_1508 rfl ?_
                                                                              refine zr_iconst (v := 3) C dL_law_1509 rfl ?_
                                                                              refine zr_iadd C dL_law_1510 ?_
                                                                              refine zr_sald0 C dL_law_1511 ?_
                                                                              refine zk_L_164 C F (Nat.le_of_ble_eq_true rfl) (Nat.le_trans (by decide) hh) (by simp [Value.category]) dL_law_1512 (fun r1512 m1512 => ?_)
                                                                              refine zr_icmp_eq (tgt := 1936) C dL_law_1515 (by decide) ?_ ?_
                                                                              · refine zr_iinc (kk := 3) (v := (l3 + 6)) (L1 := [(3, .int _), (0, .ref _), (1, .ref _), (2, .ref _)]) C dL_law_1936 rfl rfl (by decide) rfl ?_
                                                                                refine zr_goto (tgt := 18) C dL_law_1939 (by decide) ?_
                                                                                exact zr_sub [1, 2, 3, 0] rfl (hrec18 m1512 ((l3 + 6)))
                                                                              · refine zr_iconst (v := 0) C dL_law_1518 rfl ?_
                                                                                exact hret _ _ _ _ dL_law_1519
                                                                            · refine zr_if (fun hx => ?_) (fun _ => ?_)
                                                                              · refine zr_tabIn (tgt := 1520) C dL_law_33 (by rw [hx]; decide) (by rw [hx]; decide) (off := 1487) (by rw [hx]; decide) (by decide) ?_
                                                                                refine zr_aload_n C dL_law_1520 rfl ?_
                                                                                refine zr_aload_n C dL_law_1521 rfl ?_
                                                                                refine zr_iload_n C dL_law_1522 rfl ?_
                                                                                refine zr_iconst (v := 1) C dL_law_1523 rfl ?_
                                                                                refine zr_iadd C dL_law_1524 ?_
                                                                                refine zr_sald0 C dL_law_1525 ?_
                                                                                refine zk_L_165 C F (Nat.le_of_ble_eq_true rfl) (Nat.le_trans (by decide) hh) (by simp [Value.category]) dL_law_1526 (fun r1526 m1526 => ?_)
                                                                                refine zr_aload_n C dL_law_1529 rfl ?_
                                                                                refine zr_aload_n C dL_law_1530 rfl ?_
                                                                                refine zr_iload_n C dL_law_1531 rfl ?_
                                                                                refine zr_iconst (v := 1) C dL_law_1532 rfl ?_
                                                                                refine zr_iadd C dL_law_1533 ?_
                                                                                refine zr_sald0 C dL_law_1534 ?_
                                                                                refine zk_L_168 C F (Nat.le_of_ble_eq_true rfl) (Nat.le_trans (by decide) hh) (by simp [Value.category]) dL_law_1535 (fun r1535 m1535 => ?_)
                                                                                refine zr_icmp_eq (tgt := 1936) C dL_law_1538 (by decide) ?_ ?_
                                                                                · refine zr_iinc (kk := 3) (v := (l3 + 6)) (L1 := [(3, .int _), (0, .ref _), (1, .ref _), (2, .ref _)]) C dL_law_1936 rfl rfl (by decide) rfl ?_
                                                                                  refine zr_goto (tgt := 18) C dL_law_1939 (by decide) ?_
                                                                                  exact zr_sub [1, 2, 3, 0] rfl (hrec18 m1535 ((l3 + 6)))
                                                                                · refine zr_iconst (v := 0) C dL_law_1541 rfl ?_
                                                                                  exact hret _ _ _ _ dL_law_1542
                                                                              · refine zr_if (fun hx => ?_) (fun _ => ?_)
                                                                                · refine zr_tabIn (tgt := 1543) C dL_law_33 (by rw [hx]; decide) (by rw [hx]; decide) (off := 1510) (by rw [hx]; decide) (by decide) ?_
                                                                                  refine zr_aload_n C dL_law_1543 rfl ?_
                                                                                  refine zr_aload_n C dL_law_1544 rfl ?_
                                                                                  refine zr_iload_n C dL_law_1545 rfl ?_
                                                                                  refine zr_iconst (v := 1) C dL_law_1546 rfl ?_
                                                                                  refine zr_iadd C dL_law_1547 ?_
                                                                                  refine zr_sald0 C dL_law_1548 ?_
                                                                                  refine zr_aload_n C dL_law_1549 rfl ?_
                                                                                  refine zr_iload_n C dL_law_1550 rfl ?_
                                                                                  refine zr_iconst (v := 2) C dL_law_1551 rfl ?_
                                                                                  refine zr_iadd C dL_law_1552 ?_
                                                                                  refine zr_sald0 C dL_law_1553 ?_
                                                                                  refine zk_L_169 C F (Nat.le_of_ble_eq_true rfl) (Nat.le_trans (by decide) hh) (by simp [Value.category]) dL_law_1554 (fun r1554 m1554 => ?_)
                                                                                  refine zr_aload_n C dL_law_1557 rfl ?_
                                                                                  refine zr_aload_n C dL_law_1558 rfl ?_
                                                                                  refine zr_iload_n C dL_law_1559 rfl ?_
                                                                                  refine zr_iconst (v := 1) C dL_law_1560 rfl ?_
                                                                                  refine zr_iadd C dL_law_1561 ?_
                                                                                  refine zr_sald0 C dL_law_1562 ?_
                                                                                  refine zr_aload_n C dL_law_1563 rfl ?_
                                                                                  refine zr_iload_n C dL_law_1564 rfl ?_
                                                                                  refine zr_iconst (v := 2) C dL_law_1565 rfl ?_
                                                                                  refine zr_iadd C dL_law_1566 ?_
                                                                                  refine zr_sald0 C dL_law_1567 ?_
                                                                                  refine zk_L_172 C F (Nat.le_of_ble_eq_true rfl) (Nat.le_trans (by decide) hh) (by simp [Value.category]) dL_law_1568 (fun r1568 m1568 => ?_)
                                                                                  refine zr_icmp_eq (tgt := 1936) C dL_law_1571 (by decide) ?_ ?_
                                                                                  · refine zr_iinc (kk := 3) (v := (l3 + 6)) (L1 := [(3, .int _), (0, .ref _), (1, .ref _), (2, .ref _)]) C dL_law_1936 rfl rfl (by decide) rfl ?_
                                                                                    refine zr_goto (tgt := 18) C dL_law_1939 (by decide) ?_
                                                                                    exact zr_sub [1, 2, 3, 0] rfl (hrec18 m1568 ((l3 + 6)))
                                                                                  · refine zr_iconst (v := 0) C dL_law_1574 rfl ?_
                                                                                    exact hret _ _ _ _ dL_law_1575
                                                                                · refine zr_if (fun hx => ?_) (fun _ => ?_)
                                                                                  · refine zr_tabIn (tgt := 1576) C dL_law_33 (by rw [hx]; decide) (by rw [hx]; decide) (off := 1543) (by rw [hx]; decide) (by decide) ?_
                                                                                    refine zr_aload_n C dL_law_1576 rfl ?_
                                                                                    refine zk_L_173 C F (Nat.le_of_ble_eq_true rfl) (Nat.le_trans (by decide) hh) (by simp [Value.category]) dL_law_1577 (fun r1577 m1577 => ?_)
                                                                                    refine zr_aload_n C dL_law_1580 rfl ?_
                                                                                    refine zk_L_176 C F (Nat.le_of_ble_eq_true rfl) (Nat.le_trans (by decide) hh) (by simp [Value.category]) dL_law_1581 (fun r1581 m1581 => ?_)
                                                                                    refine zr_icmp_eq (tgt := 1936) C dL_law_1584 (by decide) ?_ ?_
                                                                                    · refine zr_iinc (kk := 3) (v := (l3 + 6)) (L1 := [(3, .int _), (0, .ref _), (1, .ref _), (2, .ref _)]) C dL_law_1936 rfl rfl (by decide) rfl ?_
                                                                                      refine zr_goto (tgt := 18) C dL_law_1939 (by decide) ?_
                                                                                      exact zr_sub [1, 2, 3, 0] rfl (hrec18 m1581 ((l3 + 6)))
                                                                                    · refine zr_iconst (v := 0) C dL_law_1587 rfl ?_
                                                                                      exact hret _ _ _ _ dL_law_1588
                                                                                  · refine zr_if (fun hx => ?_) (fun _ => ?_)
                                                                                    · refine zr_tabIn (tgt := 1589) C dL_law_33 (by rw [hx]; decide) (by rw [hx]; decide) (off := 1556) (by rw [hx]; decide) (by decide) ?_
                                                                                      refine zr_aload_n C dL_law_1589 rfl ?_
                                                                                      refine zr_aload_n C dL_law_1590 rfl ?_
                                                                                      refine zr_iload_n C dL_law_1591 rfl ?_
                                                                                      refine zr_iconst (v := 1) C dL_law_1592 rfl ?_
                                                                                      refine zr_iadd C dL_law_1593 ?_
                                                                                      refine zr_sald0 C dL_law_1594 ?_
                                                                                      refine zr_aload_n C dL_law_1595 rfl ?_
                                                                                      refine zr_iload_n C dL_law_1596 rfl ?_
                                                                                      refine zr_iconst (v := 2) C dL_law_1597 rfl ?_
                                                                                      refine zr_iadd C dL_law_1598 ?_
                                                                                      refine zr_sald0 C dL_law_1599 ?_
                                                                                      refine zr_aload_n C dL_law_1600 rfl ?_
                                                                                      refine zr_iload_n C dL_law_1601 rfl ?_
                                                                                      refine zr_iconst (v := 3) C dL_law_1602 rfl ?_
                                                                                      refine zr_iadd C dL_law_1603 ?_
                                                                                      refine zr_sald0 C dL_law_1604 ?_
                                                                                      refine zk_L_177 C F (Nat.le_of_ble_eq_true rfl) (Nat.le_trans (by decide) hh) (by simp [Value.category]) dL_law_1605 (fun r1605 m1605 => ?_)
                                                                                      refine zr_aload_n C dL_law_1608 rfl ?_
                                                                                      refine zr_aload_n C dL_law_1609 rfl ?_
                                                                                      refine zr_iload_n C dL_law_1610 rfl ?_
                                                                                      refine zr_iconst (v := 1) C dL_law_1611 rfl ?_
                                                                                      refine zr_iadd C dL_law_1612 ?_
                                                                                      refine zr_sald0 C dL_law_1613 ?_
                                                                                      refine zr_aload_n C dL_law_1614 rfl ?_
                                                                                      refine zr_iload_n C dL_law_1615 rfl ?_
                                                                                      refine zr_iconst (v := 2) C dL_law_1616 rfl ?_
                                                                                      refine zr_iadd C dL_law_1617 ?_
                                                                                      refine zr_sald0 C dL_law_1618 ?_
                                                                                      refine zr_aload_n C dL_law_1619 rfl ?_
                                                                                      refine zr_iload_n C dL_law_1620 rfl ?_
                                                                                      refine zr_iconst (v := 3) C dL_law_1621 rfl ?_
                                                                                      refine zr_iadd C dL_law_1622 ?_
                                                                                      refine zr_sald0 C dL_law_1623 ?_
                                                                                      refine zk_L_180 C F (Nat.le_of_ble_eq_true rfl) (Nat.le_trans (by decide) hh) (by simp [Value.category]) dL_law_1624 (fun r1624 m1624 => ?_)
                                                                                      refine zr_icmp_eq (tgt := 1936) C dL_law_1627 (by decide) ?_ ?_
                                                                                      · refine zr_iinc (kk := 3) (v := (l3 + 6)) (L1 := [(3, .int _), (0, .ref _), (1, .ref _), (2, .ref _)]) C dL_law_1936 rfl rfl (by decide) rfl ?_
                                                                                        refine zr_goto (tgt := 18) C dL_law_1939 (by decide) ?_
                                                                                        exact zr_sub [1, 2, 3, 0] rfl (hrec18 m1624 ((l3 + 6)))
                                                                                      · refine zr_iconst (v := 0) C dL_law_1630 rfl ?_
                                                                                        exact hret _ _ _ _ dL_law_1631
                                                                                    · refine zr_if (fun hx => ?_) (fun _ => ?_)
                                                                                      · refine zr_tabIn (tgt := 1632) C dL_law_33 (by rw [hx]; decide) (by rw [hx]; decide) (off := 1599) (by rw [hx]; decide) (by decide) ?_
                                                                                        refine zr_aload_n C dL_law_1632 rfl ?_
                                                                                        refine zr_aload_n C dL_law_1633 rfl ?_
                                                                                        refine zr_iload_n C dL_law_1634 rfl ?_
                                                                                        refine zr_iconst (v := 1) C dL_law_1635 rfl ?_
                                                                                        refine zr_iadd C dL_law_1636 ?_
                                                                                        refine zr_sald0 C dL_law_1637 ?_
                                                                                        refine zr_aload_n C dL_law_1638 rfl ?_
                                                                                        refine zr_iload_n C dL_law_1639 rfl ?_
                                                                                        refine zr_iconst (v := 2) C dL_law_1640 rfl ?_
                                                                                        refine zr_iadd C dL_law_1641 ?_
                                                                                        refine zr_sald0 C dL_law_1642 ?_
                                                                                        refine zr_aload_n C dL_law_1643 rfl ?_
                                                                                        refine zr_iload_n C dL_law_1644 rfl ?_
                                                                                        refine zr_iconst (v := 3) C dL_law_1645 rfl ?_
                                                                                        refine zr_iadd C dL_law_1646 ?_
                                                                                        refine zr_sald0 C dL_law_1647 ?_
                                                                                        refine zk_L_181 C F (Nat.le_of_ble_eq_true rfl) (Nat.le_trans (by decide) hh) (by simp [Value.category]) dL_law_1648 (fun r1648 m1648 => ?_)
                                                                                        refine zr_aload_n C dL_law_1651 rfl ?_
                                                                                        refine zr_aload_n C dL_law_1652 rfl ?_
                                                                                        refine zr_iload_n C dL_law_1653 rfl ?_
                                                                                        refine zr_iconst (v := 1) C dL_law_1654 rfl ?_
                                                                                        refine zr_iadd C dL_law_1655 ?_
                                                                                        refine zr_sald0 C dL_law_1656 ?_
                                                                                        refine zr_aload_n C dL_law_1657 rfl ?_
                                                                                        refine zr_iload_n C dL_law_1658 rfl ?_
                                                                                        refine zr_iconst (v := 2) C dL_law_1659 rfl ?_
                                                                                        refine zr_iadd C dL_law_1660 ?_
                                                                                        refine zr_sald0 C dL_law_1661 ?_
                                                                                        refine zr_aload_n C dL_law_1662 rfl ?_
                                                                                        refine zr_iload_n C dL_law_1663 rfl ?_
                                                                                        refine zr_iconst (v := 3) C dL_law_1664 rfl ?_
                                                                                        refine zr_iadd C dL_law_1665 ?_
                                                                                        refine zr_sald0 C dL_law_1666 ?_
                                                                                        refine zk_L_184 C F (Nat.le_of_ble_eq_true rfl) (Nat.le_trans (by decide) hh) (by simp [Value.category]) dL_law_1667 (fun r1667 m1667 => ?_)
                                                                                        refine zr_icmp_eq (tgt := 1936) C dL_law_1670 (by decide) ?_ ?_
                                                                                        · refine zr_iinc (kk := 3) (v := (l3 + 6)) (L1 := [(3, .int _), (0, .ref _), (1, .ref _), (2, .ref _)]) C dL_law_1936 rfl rfl (by decide) rfl ?_
                                                                                          refine zr_goto (tgt := 18) C dL_law_1939 (by decide) ?_
                                                                                          exact zr_sub [1, 2, 3, 0] rfl (hrec18 m1667 ((l3 + 6)))
                                                                                        · refine zr_iconst (v := 0) C dL_law_1673 rfl ?_
                                                                                          exact hret _ _ _ _ dL_law_1674
                                                                                      · refine zr_if (fun hx => ?_) (fun _ => ?_)
                                                                                        · refine zr_tabIn (tgt := 1675) C dL_law_33 (by rw [hx]; decide) (by rw [hx]; decide) (off := 1642) (by rw [hx]; decide) (by decide) ?_
                                                                                          refine zr_aload_n C dL_law_1675 rfl ?_
                                                                                          refine zr_aload_n C dL_law_1676 rfl ?_
                                                                                          refine zr_iload_n C dL_law_1677 rfl ?_
                                                                                          refine zr_iconst (v := 1) C dL_law_1678 rfl ?_
                                                                                          refine zr_iadd C dL_law_1679 ?_
                                                                                          refine zr_sald0 C dL_law_1680 ?_
                                                                                          refine zk_L_185 C F (Nat.le_of_ble_eq_true rfl) (Nat.le_trans (by decide) hh) (by simp [Value.category]) dL_law_1681 (fun r1681 m1681 => ?_)
                                                                                          refine zr_aload_n C dL_law_1684 rfl ?_
                                                                                          refine zr_aload_n C dL_law_1685 rfl ?_
                                                                                          refine zr_iload_n C dL_law_1686 rfl ?_
                                                                                          refine zr_iconst (v := 1) C dL_law_1687 rfl ?_
                                                                                          refine zr_iadd C dL_law_1688 ?_
                                                                                          refine zr_sald0 C dL_law_1689 ?_
                                                                                          refine zk_L_188 C F (Nat.le_of_ble_eq_true rfl) (Nat.le_trans (by decide) hh) (by simp [Value.category]) dL_law_1690 (fun r1690 m1690 => ?_)
                                                                                          refine zr_icmp_eq (tgt := 1936) C dL_law_1693 (by decide) ?_ ?_
                                                                                          · refine zr_iinc (kk := 3) (v := (l3 + 6)) (L1 := [(3, .int _), (0, .ref _), (1, .ref _), (2, .ref _)]) C dL_law_1936 rfl rfl (by decide) rfl ?_
                                                                                            refine zr_goto (tgt := 18) C dL_law_1939 (by decide) ?_
                                                                                            exact zr_sub [1, 2, 3, 0] rfl (hrec18 m1690 ((l3 + 6)))
                                                                                          · refine zr_iconst (v := 0) C dL_law_1696 rfl ?_
                                                                                            exact hret _ _ _ _ dL_law_1697
                                                                                        · refine zr_if (fun hx => ?_) (fun _ => ?_)
                                                                                          · refine zr_tabIn (tgt := 1698) C dL_law_33 (by rw [hx]; decide) (by rw [hx]; decide) (off := 1665) (by rw [hx]; decide) (by decide) ?_
                                                                                            refine zr_aload_n C dL_law_1698 rfl ?_
                                                                                            refine zr_aload_n C dL_law_1699 rfl ?_
                                                                                            refine zr_iload_n C dL_law_1700 rfl ?_
                                                                                            refine zr_iconst (v := 1) C dL_law_1701 rfl ?_
                                                                                            refine zr_iadd C dL_law_1702 ?_
                                                                                            refine zr_sald0 C dL_law_1703 ?_
                                                                                            refine zr_aload_n C dL_law_1704 rfl ?_
                                                                                            refine zr_iload_n C dL_law_1705 rfl ?_
                                                                                            refine zr_iconst (v := 2) C dL_law_1706 rfl ?_
                                                                                            refine zr_iadd C dL_law_1707 ?_
                                                                                            refine zr_sald0 C dL_law_1708 ?_
                                                                                            refine zk_L_189 C F (Nat.le_of_ble_eq_true rfl) (Nat.le_trans (by decide) hh) (by simp [Value.category]) dL_law_1709 (fun r1709 m1709 => ?_)
                                                                                            refine zr_aload_n C dL_law_1712 rfl ?_
                                                                                            refine zr_aload_n C dL_law_1713 rfl ?_
                                                                                            refine zr_iload_n C dL_law_1714 rfl ?_
                                                                                            refine zr_iconst (v := 1) C dL_law_1715 rfl ?_
                                                                                            refine zr_iadd C dL_law_1716 ?_
                                                                                            refine zr_sald0 C dL_law_1717 ?_
                                                                                            refine zr_aload_n C dL_law_1718 rfl ?_
                                                                                            refine zr_iload_n C dL_law_1719 rfl ?_
                                                                                            refine zr_iconst (v := 2) C dL_law_1720 rfl ?_
                                                                                            refine zr_iadd C dL_law_1721 ?_
                                                                                            refine zr_sald0 C dL_law_1722 ?_
                                                                                            refine zk_L_192 C F (Nat.le_of_ble_eq_true rfl) (Nat.le_trans (by decide) hh) (by simp [Value.category]) dL_law_1723 (fun r1723 m1723 => ?_)
                                                                                            refine zr_icmp_eq (tgt := 1936) C dL_law_1726 (by decide) ?_ ?_
                                                                                            · refine zr_iinc (kk := 3) (v := (l3 + 6)) (L1 := [(3, .int _), (0, .ref _), (1, .ref _), (2, .ref _)]) C dL_law_1936 rfl rfl (by decide) rfl ?_
                                                                                              refine zr_goto (tgt := 18) C dL_law_1939 (by decide) ?_
                                                                                              exact zr_sub [1, 2, 3, 0] rfl (hrec18 m1723 ((l3 + 6)))
                                                                                            · refine zr_iconst (v := 0) C dL_law_1729 rfl ?_
                                                                                              exact hret _ _ _ _ dL_law_1730
                                                                                          · refine zr_if (fun hx => ?_) (fun _ => ?_)
                                                                                            · refine zr_tabIn (tgt := 1731) C dL_law_33 (by rw [hx]; decide) (by rw [hx]; decide) (off := 1698) (by rw [hx]; decide) (by decide) ?_
                                                                                              refine zr_aload_n C dL_law_1731 rfl ?_
                                                                                              refine zr_aload_n C dL_law_1732 rfl ?_
                                                                                              refine zr_iload_n C dL_law_1733 rfl ?_
                                                                                              refine zr_iconst (v := 1) C dL_law_1734 rfl ?_
                                                                                              refine zr_iadd C dL_law_1735 ?_
                                                                                              refine zr_sald0 C dL_law_1736 ?_
                                                                                              refine zk_L_193 C F (Nat.le_of_ble_eq_true rfl) (Nat.le_trans (by decide) hh) (by simp [Value.category]) dL_law_1737 (fun r1737 m1737 => ?_)
                                                                                              refine zr_aload_n C dL_law_1740 rfl ?_
                                                                                              refine zr_aload_n C dL_law_1741 rfl ?_
                                                                                              refine zr_iload_n C dL_law_1742 rfl ?_
                                                                                              refine zr_iconst (v := 1) C dL_law_1743 rfl ?_
                                                                                              refine zr_iadd C dL_law_1744 ?_
                                                                                              refine zr_sald0 C dL_law_1745 ?_
                                                                                              refine zk_L_196 C F (Nat.le_of_ble_eq_true rfl) (Nat.le_trans (by decide) hh) (by simp [Value.category]) dL_law_1746 (fun r1746 m1746 => ?_)
                                                                                              refine zr_icmp_eq (tgt := 1936) C dL_law_1749 (by decide) ?_ ?_
                                                                                              · refine zr_iinc (kk := 3) (v := (l3 + 6)) (L1 := [(3, .int _), (0, .ref _), (1, .ref _), (2, .ref _)]) C dL_law_1936 rfl rfl (by decide) rfl ?_
                                                                                                refine zr_goto (tgt := 18) C dL_law_1939 (by decide) ?_
                                                                                                exact zr_sub [1, 2, 3, 0] rfl (hrec18 m1746 ((l3 + 6)))
                                                                                              · refine zr_iconst (v := 0) C dL_law_1752 rfl ?_
                                                                                                exact hret _ _ _ _ dL_law_1753
                                                                                            · refine zr_if (fun hx => ?_) (fun _ => ?_)
                                                                                              · refine zr_tabIn (tgt := 1754) C dL_law_33 (by rw [hx]; decide) (by rw [hx]; decide) (off := 1721) (by rw [hx]; decide) (by decide) ?_
                                                                                                refine zr_aload_n C dL_law_1754 rfl ?_
                                                                                                refine zr_aload_n C dL_law_1755 rfl ?_
                                                                                                refine zr_iload_n C dL_law_1756 rfl ?_
                                                                                                refine zr_iconst (v := 1) C dL_law_1757 rfl ?_
                                                                                                refine zr_iadd C dL_law_1758 ?_
                                                                                                refine zr_sald0 C dL_law_1759 ?_
                                                                                                refine zr_aload_n C dL_law_1760 rfl ?_
                                                                                                refine zr_iload_n C dL_law_1761 rfl ?_
                                                                                                refine zr_iconst (v := 2) C dL_law_1762 rfl ?_
                                                                                                refine zr_iadd C dL_law_1763 ?_
                                                                                                refine zr_sald0 C dL_law_1764 ?_
                                                                                                refine zr_aload_n C dL_law_1765 rfl ?_
                                                                                                refine zr_iload_n C dL_law_1766 rfl ?_
                                                                                                refine zr_iconst (v := 3) C dL_law_1767 rfl ?_
                                                                                                refine zr_iadd C dL_law_1768 ?_
                                                                                                refine zr_sald0 C dL_law_1769 ?_
                                                                                                refine zk_L_197 C F (Nat.le_of_ble_eq_true rfl) (Nat.le_trans (by decide) hh) (by simp [Value.category]) dL_law_1770 (fun r1770 m1770 => ?_)
                                                                                                refine zr_aload_n C dL_law_1773 rfl ?_
                                                                                                refine zr_aload_n C dL_law_1774 rfl ?_
                                                                                                refine zr_iload_n C dL_law_1775 rfl ?_
                                                                                                refine zr_iconst (v := 1) C dL_law_1776 rfl ?_
                                                                                                refine zr_iadd C dL_law_1777 ?_
                                                                                                refine zr_sald0 C dL_law_1778 ?_
                                                                                                refine zr_aload_n C dL_law_1779 rfl ?_
                                                                                                refine zr_iload_n C dL_law_1780 rfl ?_
                                                                                                refine zr_iconst (v := 2) C dL_law_1781 rfl ?_
                                                                                                refine zr_iadd C dL_law_1782 ?_
                                                                                                refine zr_sald0 C dL_law_1783 ?_
                                                                                                refine zr_aload_n C dL_law_1784 rfl ?_
                                                                                                refine zr_iload_n C dL_law_1785 rfl ?_
                                                                                                refine zr_iconst (v := 3) C dL_law_1786 rfl ?_
                                                                                                refine zr_iadd C dL_law_1787 ?_
                                                                                                refine zr_sald0 C dL_law_1788 ?_
                                                                                                refine zk_L_200 C F (Nat.le_of_ble_eq_true rfl) (Nat.le_trans (by decide) hh) (by simp [Value.category]) dL_law_1789 (fun r1789 m1789 => ?_)
                                                                                                refine zr_icmp_eq (tgt := 1936) C dL_law_1792 (by decide) ?_ ?_
                                                                                                · refine zr_iinc (kk := 3) (v := (l3 + 6)) (L1 := [(3, .int _), (0, .ref _), (1, .ref _), (2, .ref _)]) C dL_law_1936 rfl rfl (by decide) rfl ?_
                                                                                                  refine zr_goto (tgt := 18) C dL_law_1939 (by decide) ?_
                                                                                                  exact zr_sub [1, 2, 3, 0] rfl (hrec18 m1789 ((l3 + 6)))
                                                                                                · refine zr_iconst (v := 0) C dL_law_1795 rfl ?_
                                                                                                  exact hret _ _ _ _ dL_law_1796
                                                                                              · refine zr_if (fun hx => ?_) (fun _ => ?_)
                                                                                                · refine zr_tabIn (tgt := 1797) C dL_law_33 (by rw [hx]; decide) (by rw [hx]; decide) (off := 1764) (by rw [hx]; decide) (by decide) ?_
                                                                                                  refine zr_aload_n C dL_law_1797 rfl ?_
                                                                                                  refine zr_aload_n C dL_law_1798 rfl ?_
                                                                                                  refine zr_iload_n C dL_law_1799 rfl ?_
                                                                                                  refine zr_iconst (v := 1) C dL_law_1800 rfl ?_
                                                                                                  refine zr_iadd C dL_law_1801 ?_
                                                                                                  refine zr_sald0 C dL_law_1802 ?_
                                                                                                  refine zr_aload_n C dL_law_1803 rfl ?_
                                                                                                  refine zr_iload_n C dL_law_1804 rfl ?_
                                                                                                  refine zr_iconst (v := 2) C dL_law_1805 rfl ?_
                                                                                                  refine zr_iadd C dL_law_1806 ?_
                                                                                                  refine zr_sald0 C dL_law_1807 ?_
                                                                                                  refine zr_aload_n C dL_law_1808 rfl ?_
                                                                                                  refine zr_iload_n C dL_law_1809 rfl ?_
                                                                                                  refine zr_iconst (v := 3) C dL_law_1810 rfl ?_
                                                                                                  refine zr_iadd C dL_law_1811 ?_
                                                                                                  refine zr_sald0 C dL_law_1812 ?_
                                                                                                  refine zk_L_201 C F (Nat.le_of_ble_eq_true rfl) (Nat.le_trans (by decide) hh) (by simp [Value.category]) dL_law_1813 (fun r1813 m1813 => ?_)
                                                                                                  refine zr_aload_n C dL_law_1816 rfl ?_
                                                                                                  refine zr_aload_n C dL_law_1817 rfl ?_
                                                                                                  refine zr_iload_n C dL_law_1818 rfl ?_
                                                                                                  refine zr_iconst (v := 1) C dL_law_1819 rfl ?_
                                                                                                  refine zr_iadd C dL_law_1820 ?_
                                                                                                  refine zr_sald0 C dL_law_1821 ?_
                                                                                                  refine zr_aload_n C dL_law_1822 rfl ?_
                                                                                                  refine zr_iload_n C dL_law_1823 rfl ?_
                                                                                                  refine zr_iconst (v := 2) C dL_law_1824 rfl ?_
                                                                                                  refine zr_iadd C dL_law_1825 ?_
                                                                                                  refine zr_sald0 C dL_law_1826 ?_
                                                                                                  refine zr_aload_n C dL_law_1827 rfl ?_
                                                                                                  refine zr_iload_n C dL_law_1828 rfl ?_
                                                                                                  refine zr_iconst (v := 3) C dL_law_1829 rfl ?_
                                                                                                  refine zr_iadd C dL_law_1830 ?_
                                                                                                  refine zr_sald0 C dL_law_1831 ?_
                                                                                                  refine zk_L_204 C F (Nat.le_of_ble_eq_true rfl) (Nat.le_trans (by decide) hh) (by simp [Value.category]) dL_law_1832 (fun r1832 m1832 => ?_)
                                                                                                  refine zr_icmp_eq (tgt := 1936) C dL_law_1835 (by decide) ?_ ?_
                                                                                                  · refine zr_iinc (kk := 3) (v := (l3 + 6)) (L1 := [(3, .int _), (0, .ref _), (1, .ref _), (2, .ref _)]) C dL_law_1936 rfl rfl (by decide) rfl ?_
                                                                                                    refine zr_goto (tgt := 18) C dL_law_1939 (by decide) ?_
                                                                                                    exact zr_sub [1, 2, 3, 0] rfl (hrec18 m1832 ((l3 + 6)))
                                                                                                  · refine zr_iconst (v := 0) C dL_law_1838 rfl ?_
                                                                                                    exact hret _ _ _ _ dL_law_1839
                                                                                                · refine zr_if (fun hx => ?_) (fun _ => ?_)
                                                                                                  · refine zr_tabIn (tgt := 1840) C dL_law_33 (by rw [hx]; decide) (by rw [hx]; decide) (off := 1807) (by rw [hx]; decide) (by decide) ?_
                                                                                                    refine zr_aload_n C dL_law_1840 rfl ?_
                                                                                                    refine zr_aload_n C dL_law_1841 rfl ?_
                                                                                                    refine zr_iload_n C dL_law_1842 rfl ?_
                                                                                                    refine zr_iconst (v := 1) C dL_law_1843 rfl ?_
                                                                                                    refine zr_iadd C dL_law_1844 ?_
                                                                                                    refine zr_sald0 C dL_law_1845 ?_
                                                                                                    refine zr_aload_n C dL_law_1846 rfl ?_
                                                                                                    refine zr_iload_n C dL_law_1847 rfl ?_
                                                                                                    refine zr_iconst (v := 2) C dL_law_1848 rfl ?_
                                                                                                    refine zr_iadd C dL_law_1849 ?_
                                                                                                    refine zr_sald0 C dL_law_1850 ?_
                                                                                                    refine zk_L_205 C F (Nat.le_of_ble_eq_true rfl) (Nat.le_trans (by decide) hh) (by simp [Value.category]) dL_law_1851 (fun r1851 m1851 => ?_)
                                                                                                    refine zr_aload_n C dL_law_1854 rfl ?_
                                                                                                    refine zr_aload_n C dL_law_1855 rfl ?_
                                                                                                    refine zr_iload_n C dL_law_1856 rfl ?_
                                                                                                    refine zr_iconst (v := 1) C dL_law_1857 rfl ?_
                                                                                                    refine zr_iadd C dL_law_1858 ?_
                                                                                                    refine zr_sald0 C dL_law_1859 ?_
                                                                                                    refine zr_aload_n C dL_law_1860 rfl ?_
                                                                                                    refine zr_iload_n C dL_law_1861 rfl ?_
                                                                                                    refine zr_iconst (v := 2) C dL_law_1862 rfl ?_
                                                                                                    refine zr_iadd C dL_law_1863 ?_
                                                                                                    refine zr_sald0 C dL_law_1864 ?_
                                                                                                    refine zk_L_208 C F (Nat.le_of_ble_eq_true rfl) (Nat.le_trans (by decide) hh) (by simp [Value.category]) dL_law_1865 (fun r1865 m1865 => ?_)
                                                                                                    refine zr_icmp_eq (tgt := 1936) C dL_law_1868 (by decide) ?_ ?_
                                                                                                    · refine zr_iinc (kk := 3) (v := (l3 + 6)) (L1 := [(3, .int _), (0, .ref _), (1, .ref _), (2, .ref _)]) C dL_law_1936 rfl rfl (by decide) rfl ?_
                                                                                                      refine zr_goto (tgt := 18) C dL_law_1939 (by decide) ?_
                                                                                                      exact zr_sub [1, 2, 3, 0] rfl (hrec18 m1865 ((l3 + 6)))
                                                                                                    · refine zr_iconst (v := 0) C dL_law_1871 rfl ?_
                                                                                                      exact hret _ _ _ _ dL_law_1872
                                                                                                  · refine zr_if (fun hx => ?_) (fun _ => ?_)
                                                                                                    · refine zr_tabIn (tgt := 1873) C dL_law_33 (by rw [hx]; decide) (by rw [hx]; decide) (off := 1840) (by rw [hx]; decide) (by decide) ?_
                                                                                                      refine zr_aload_n C dL_law_1873 rfl ?_
                                                                                                      refine zr_aload_n C dL_law_1874 rfl ?_
                                                                                                      refine zr_iload_n C dL_law_1875 rfl ?_
                                                                                                      refine zr_iconst (v := 1) C dL_law_1876 rfl ?_
                                                                                                      refine zr_iadd C dL_law_1877 ?_
                                                                                                      refine zr_sald0 C dL_law_1878 ?_
                                                                                                      refine zr_aload_n C dL_law_1879 rfl ?_
                                                                                                      refine zr_iload_n C dL_law_1880 rfl ?_
                                                                                                      refine zr_iconst (v := 2) C dL_law_1881 rfl ?_
                                                                                                      refine zr_iadd C dL_law_1882 ?_
                                                                                                      refine zr_sald0 C dL_law_1883 ?_
                                                                                                      refine zr_aload_n C dL_law_1884 rfl ?_
                                                                                                      refine zr_iload_n C dL_law_1885 rfl ?_
                                                                                                      refine zr_iconst (v := 3) C dL_law_1886 rfl ?_
                                                                                                      refine zr_iadd C dL_law_1887 ?_
                                                                                                      refine zr_sald0 C dL_law_1888 ?_
                                                                                                      refine zr_aload_n C dL_law_1889 rfl ?_
                                                                                                      refine zr_iload_n C dL_law_1890 rfl ?_
                                                                                                      refine zr_iconst (v := 4) C dL_law_1891 rfl ?_
                                                                                                      refine zr_iadd C dL_law_1892 ?_
                                                                                                      refine zr_sald0 C dL_law_1893 ?_
                                                                                                      refine zr_aload_n C dL_law_1894 rfl ?_
                                                                                                      refine zr_iload_n C dL_law_1895 rfl ?_
                                                                                                      refine zr_iconst (v := 5) C dL_law_1896 rfl ?_
                                                                                                      refine zr_iadd C dL_law_1897 ?_
                                                                                                      refine zr_sald0 C dL_law_1898 ?_
                                                                                                      refine zk_L_209 C F (Nat.le_of_ble_eq_true rfl) (Nat.le_trans (by decide) hh) (by simp [Value.category]) dL_law_1899 (fun r1899 m1899 => ?_)
                                                                                                      refine zr_aload_n C dL_law_1902 rfl ?_
                                                                                                      refine zr_aload_n C dL_law_1903 rfl ?_
                                                                                                      refine zr_iload_n C dL_law_1904 rfl ?_
                                                                                                      refine zr_iconst (v := 1) C dL_law_1905 rfl ?_
                                                                                                      refine zr_iadd C dL_law_1906 ?_
                                                                                                      refine zr_sald0 C dL_law_1907 ?_
                                                                                                      refine zr_aload_n C dL_law_1908 rfl ?_
                                                                                                      refine zr_iload_n C dL_law_1909 rfl ?_
                                                                                                      refine zr_iconst (v := 2) C dL_law_1910 rfl ?_
                                                                                                      refine zr_iadd C dL_law_1911 ?_
                                                                                                      refine zr_sald0 C dL_law_1912 ?_
                                                                                                      refine zr_aload_n C dL_law_1913 rfl ?_
                                                                                                      refine zr_iload_n C dL_law_1914 rfl ?_
                                                                                                      refine zr_iconst (v := 3) C dL_law_1915 rfl ?_
                                                                                                      refine zr_iadd C dL_law_1916 ?_
                                                                                                      refine zr_sald0 C dL_law_1917 ?_
                                                                                                      refine zr_aload_n C dL_law_1918 rfl ?_
                                                                                                      refine zr_iload_n C dL_law_1919 rfl ?_
                                                                                                      refine zr_iconst (v := 4) C dL_law_1920 rfl ?_
                                                                                                      refine zr_iadd C dL_law_1921 ?_
                                                                                                      refine zr_sald0 C dL_law_1922 ?_
                                                                                                      refine zr_aload_n C dL_law_1923 rfl ?_
                                                                                                      refine zr_iload_n C dL_law_1924 rfl ?_
                                                                                                      refine zr_iconst (v := 5) C dL_law_1925 rfl ?_
                                                                                                      refine zr_iadd C dL_law_1926 ?_
                                                                                                      refine zr_sald0 C dL_law_1927 ?_
                                                                                                      refine zk_L_212 C F (Nat.le_of_ble_eq_true rfl) (Nat.le_trans (by decide) hh) (by simp [Value.category]) dL_law_1928 (fun r1928 m1928 => ?_)
                                                                                                      refine zr_icmp_eq (tgt := 1936) C dL_law_1931 (by decide) ?_ ?_
                                                                                                      · refine zr_iinc (kk := 3) (v := (l3 + 6)) (L1 := [(3, .int _), (0, .ref _), (1, .ref _), (2, .ref _)]) C dL_law_1936 rfl rfl (by decide) rfl ?_
                                                                                                        refine zr_goto (tgt := 18) C dL_law_1939 (by decide) ?_
                                                                                                        exact zr_sub [1, 2, 3, 0] rfl (hrec18 m1928 ((l3 + 6)))
                                                                                                      · refine zr_iconst (v := 0) C dL_law_1934 rfl ?_
                                                                                                        exact hret _ _ _ _ dL_law_1935
                                                                                                    · exact zr_none
end ZM
