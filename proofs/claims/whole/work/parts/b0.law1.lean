/-! WHAT STANDS AT EVERY PLACE OF THE LAW, 1 -/
theorem cl361_5 : ([(477, .iconst 1, 478), (478, .iadd, 479), (479, .iaload, 480), (480, .aload_n 3, 481), (481, .invokestatic 139, 484), (484, .istore 5, 486), (486, .aload_n 2, 487), (487, .aload_n 0, 488), (488, .iload 4, 490), (490, .iconst 1, 491), (491, .iadd, 492), (492, .iaload, 493), (493, .invokevirtual 141, 496), (496, .istore 6, 498), (498, .aload_n 2, 499), (499, .invokevirtual 128, 502), (502, .iload 5, 504), (504, .if_icmp .eq 5, 507), (507, .iconst 0, 508), (508, .ireturn, 509), (509, .iload 5, 511), (511, .ifCond .ne 15, 514), (514, .aload_n 3, 515), (515, .iconst 0, 516), (516, .laload, 517), (517, .iload 6, 519), (519, .i2l, 520), (520, .lcmp, 521), (521, .ifCond .eq 5, 524), (524, .iconst 0, 525), (525, .ireturn, 526), (526, .goto 2050, 529), (529, .aload_n 1, 530), (530, .invokevirtual 142, 533), (533, .aload_n 2, 534), (534, .invokevirtual 145, 537), (537, .if_icmp .eq 2039, 540), (540, .iconst 0, 541), (541, .ireturn, 542), (542, .aload_n 1, 543)] : List (Nat × Instr × Nat)).all (fun q => decide (pm_code 361 q.1 = some q.2)) = true := by decide +kernel
theorem c361_477 : pm_code 361 477 = some (.iconst 1, 478) := pm_of cl361_5 0 (q := (477, .iconst 1, 478)) rfl
theorem c361_478 : pm_code 361 478 = some (.iadd, 479) := pm_of cl361_5 1 (q := (478, .iadd, 479)) rfl
theorem c361_479 : pm_code 361 479 = some (.iaload, 480) := pm_of cl361_5 2 (q := (479, .iaload, 480)) rfl
theorem c361_480 : pm_code 361 480 = some (.aload_n 3, 481) := pm_of cl361_5 3 (q := (480, .aload_n 3, 481)) rfl
theorem c361_481 : pm_code 361 481 = some (.invokestatic 139, 484) := pm_of cl361_5 4 (q := (481, .invokestatic 139, 484)) rfl
theorem c361_484 : pm_code 361 484 = some (.istore 5, 486) := pm_of cl361_5 5 (q := (484, .istore 5, 486)) rfl
theorem c361_486 : pm_code 361 486 = some (.aload_n 2, 487) := pm_of cl361_5 6 (q := (486, .aload_n 2, 487)) rfl
theorem c361_487 : pm_code 361 487 = some (.aload_n 0, 488) := pm_of cl361_5 7 (q := (487, .aload_n 0, 488)) rfl
theorem c361_488 : pm_code 361 488 = some (.iload 4, 490) := pm_of cl361_5 8 (q := (488, .iload 4, 490)) rfl
theorem c361_490 : pm_code 361 490 = some (.iconst 1, 491) := pm_of cl361_5 9 (q := (490, .iconst 1, 491)) rfl
theorem c361_491 : pm_code 361 491 = some (.iadd, 492) := pm_of cl361_5 10 (q := (491, .iadd, 492)) rfl
theorem c361_492 : pm_code 361 492 = some (.iaload, 493) := pm_of cl361_5 11 (q := (492, .iaload, 493)) rfl
theorem c361_493 : pm_code 361 493 = some (.invokevirtual 141, 496) := pm_of cl361_5 12 (q := (493, .invokevirtual 141, 496)) rfl
theorem c361_496 : pm_code 361 496 = some (.istore 6, 498) := pm_of cl361_5 13 (q := (496, .istore 6, 498)) rfl
theorem c361_498 : pm_code 361 498 = some (.aload_n 2, 499) := pm_of cl361_5 14 (q := (498, .aload_n 2, 499)) rfl
theorem c361_499 : pm_code 361 499 = some (.invokevirtual 128, 502) := pm_of cl361_5 15 (q := (499, .invokevirtual 128, 502)) rfl
theorem c361_502 : pm_code 361 502 = some (.iload 5, 504) := pm_of cl361_5 16 (q := (502, .iload 5, 504)) rfl
theorem c361_504 : pm_code 361 504 = some (.if_icmp .eq 5, 507) := pm_of cl361_5 17 (q := (504, .if_icmp .eq 5, 507)) rfl
theorem c361_507 : pm_code 361 507 = some (.iconst 0, 508) := pm_of cl361_5 18 (q := (507, .iconst 0, 508)) rfl
theorem c361_508 : pm_code 361 508 = some (.ireturn, 509) := pm_of cl361_5 19 (q := (508, .ireturn, 509)) rfl
theorem c361_509 : pm_code 361 509 = some (.iload 5, 511) := pm_of cl361_5 20 (q := (509, .iload 5, 511)) rfl
theorem c361_511 : pm_code 361 511 = some (.ifCond .ne 15, 514) := pm_of cl361_5 21 (q := (511, .ifCond .ne 15, 514)) rfl
theorem c361_514 : pm_code 361 514 = some (.aload_n 3, 515) := pm_of cl361_5 22 (q := (514, .aload_n 3, 515)) rfl
theorem c361_515 : pm_code 361 515 = some (.iconst 0, 516) := pm_of cl361_5 23 (q := (515, .iconst 0, 516)) rfl
theorem c361_516 : pm_code 361 516 = some (.laload, 517) := pm_of cl361_5 24 (q := (516, .laload, 517)) rfl
theorem c361_517 : pm_code 361 517 = some (.iload 6, 519) := pm_of cl361_5 25 (q := (517, .iload 6, 519)) rfl
theorem c361_519 : pm_code 361 519 = some (.i2l, 520) := pm_of cl361_5 26 (q := (519, .i2l, 520)) rfl
theorem c361_520 : pm_code 361 520 = some (.lcmp, 521) := pm_of cl361_5 27 (q := (520, .lcmp, 521)) rfl
theorem c361_521 : pm_code 361 521 = some (.ifCond .eq 5, 524) := pm_of cl361_5 28 (q := (521, .ifCond .eq 5, 524)) rfl
theorem c361_524 : pm_code 361 524 = some (.iconst 0, 525) := pm_of cl361_5 29 (q := (524, .iconst 0, 525)) rfl
theorem c361_525 : pm_code 361 525 = some (.ireturn, 526) := pm_of cl361_5 30 (q := (525, .ireturn, 526)) rfl
theorem c361_526 : pm_code 361 526 = some (.goto 2050, 529) := pm_of cl361_5 31 (q := (526, .goto 2050, 529)) rfl
theorem c361_529 : pm_code 361 529 = some (.aload_n 1, 530) := pm_of cl361_5 32 (q := (529, .aload_n 1, 530)) rfl
theorem c361_530 : pm_code 361 530 = some (.invokevirtual 142, 533) := pm_of cl361_5 33 (q := (530, .invokevirtual 142, 533)) rfl
theorem c361_533 : pm_code 361 533 = some (.aload_n 2, 534) := pm_of cl361_5 34 (q := (533, .aload_n 2, 534)) rfl
theorem c361_534 : pm_code 361 534 = some (.invokevirtual 145, 537) := pm_of cl361_5 35 (q := (534, .invokevirtual 145, 537)) rfl
theorem c361_537 : pm_code 361 537 = some (.if_icmp .eq 2039, 540) := pm_of cl361_5 36 (q := (537, .if_icmp .eq 2039, 540)) rfl
theorem c361_540 : pm_code 361 540 = some (.iconst 0, 541) := pm_of cl361_5 37 (q := (540, .iconst 0, 541)) rfl
theorem c361_541 : pm_code 361 541 = some (.ireturn, 542) := pm_of cl361_5 38 (q := (541, .ireturn, 542)) rfl
theorem c361_542 : pm_code 361 542 = some (.aload_n 1, 543) := pm_of cl361_5 39 (q := (542, .aload_n 1, 543)) rfl
theorem cl361_6 : ([(543, .invokevirtual 146, 546), (546, .aload_n 2, 547), (547, .invokevirtual 149, 550), (550, .if_icmp .eq 2026, 553), (553, .iconst 0, 554), (554, .ireturn, 555), (555, .aload_n 1, 556), (556, .aload_n 0, 557), (557, .iload 4, 559), (559, .iconst 1, 560), (560, .iadd, 561), (561, .iaload, 562), (562, .aload_n 3, 563), (563, .invokestatic 150, 566), (566, .istore 5, 568), (568, .aload_n 2, 569), (569, .aload_n 0, 570), (570, .iload 4, 572), (572, .iconst 1, 573), (573, .iadd, 574), (574, .iaload, 575), (575, .invokevirtual 152, 578), (578, .istore 6, 580), (580, .aload_n 2, 581), (581, .invokevirtual 128, 584), (584, .iload 5, 586), (586, .if_icmp .eq 5, 589), (589, .iconst 0, 590), (590, .ireturn, 591), (591, .iload 5, 593), (593, .ifCond .ne 15, 596), (596, .aload_n 3, 597), (597, .iconst 0, 598), (598, .laload, 599), (599, .iload 6, 601), (601, .i2l, 602), (602, .lcmp, 603), (603, .ifCond .eq 5, 606), (606, .iconst 0, 607), (607, .ireturn, 608)] : List (Nat × Instr × Nat)).all (fun q => decide (pm_code 361 q.1 = some q.2)) = true := by decide +kernel
theorem c361_543 : pm_code 361 543 = some (.invokevirtual 146, 546) := pm_of cl361_6 0 (q := (543, .invokevirtual 146, 546)) rfl
theorem c361_546 : pm_code 361 546 = some (.aload_n 2, 547) := pm_of cl361_6 1 (q := (546, .aload_n 2, 547)) rfl
theorem c361_547 : pm_code 361 547 = some (.invokevirtual 149, 550) := pm_of cl361_6 2 (q := (547, .invokevirtual 149, 550)) rfl
theorem c361_550 : pm_code 361 550 = some (.if_icmp .eq 2026, 553) := pm_of cl361_6 3 (q := (550, .if_icmp .eq 2026, 553)) rfl
theorem c361_553 : pm_code 361 553 = some (.iconst 0, 554) := pm_of cl361_6 4 (q := (553, .iconst 0, 554)) rfl
theorem c361_554 : pm_code 361 554 = some (.ireturn, 555) := pm_of cl361_6 5 (q := (554, .ireturn, 555)) rfl
theorem c361_555 : pm_code 361 555 = some (.aload_n 1, 556) := pm_of cl361_6 6 (q := (555, .aload_n 1, 556)) rfl
theorem c361_556 : pm_code 361 556 = some (.aload_n 0, 557) := pm_of cl361_6 7 (q := (556, .aload_n 0, 557)) rfl
theorem c361_557 : pm_code 361 557 = some (.iload 4, 559) := pm_of cl361_6 8 (q := (557, .iload 4, 559)) rfl
theorem c361_559 : pm_code 361 559 = some (.iconst 1, 560) := pm_of cl361_6 9 (q := (559, .iconst 1, 560)) rfl
theorem c361_560 : pm_code 361 560 = some (.iadd, 561) := pm_of cl361_6 10 (q := (560, .iadd, 561)) rfl
theorem c361_561 : pm_code 361 561 = some (.iaload, 562) := pm_of cl361_6 11 (q := (561, .iaload, 562)) rfl
theorem c361_562 : pm_code 361 562 = some (.aload_n 3, 563) := pm_of cl361_6 12 (q := (562, .aload_n 3, 563)) rfl
theorem c361_563 : pm_code 361 563 = some (.invokestatic 150, 566) := pm_of cl361_6 13 (q := (563, .invokestatic 150, 566)) rfl
theorem c361_566 : pm_code 361 566 = some (.istore 5, 568) := pm_of cl361_6 14 (q := (566, .istore 5, 568)) rfl
theorem c361_568 : pm_code 361 568 = some (.aload_n 2, 569) := pm_of cl361_6 15 (q := (568, .aload_n 2, 569)) rfl
theorem c361_569 : pm_code 361 569 = some (.aload_n 0, 570) := pm_of cl361_6 16 (q := (569, .aload_n 0, 570)) rfl
theorem c361_570 : pm_code 361 570 = some (.iload 4, 572) := pm_of cl361_6 17 (q := (570, .iload 4, 572)) rfl
theorem c361_572 : pm_code 361 572 = some (.iconst 1, 573) := pm_of cl361_6 18 (q := (572, .iconst 1, 573)) rfl
theorem c361_573 : pm_code 361 573 = some (.iadd, 574) := pm_of cl361_6 19 (q := (573, .iadd, 574)) rfl
theorem c361_574 : pm_code 361 574 = some (.iaload, 575) := pm_of cl361_6 20 (q := (574, .iaload, 575)) rfl
theorem c361_575 : pm_code 361 575 = some (.invokevirtual 152, 578) := pm_of cl361_6 21 (q := (575, .invokevirtual 152, 578)) rfl
theorem c361_578 : pm_code 361 578 = some (.istore 6, 580) := pm_of cl361_6 22 (q := (578, .istore 6, 580)) rfl
theorem c361_580 : pm_code 361 580 = some (.aload_n 2, 581) := pm_of cl361_6 23 (q := (580, .aload_n 2, 581)) rfl
theorem c361_581 : pm_code 361 581 = some (.invokevirtual 128, 584) := pm_of cl361_6 24 (q := (581, .invokevirtual 128, 584)) rfl
theorem c361_584 : pm_code 361 584 = some (.iload 5, 586) := pm_of cl361_6 25 (q := (584, .iload 5, 586)) rfl
theorem c361_586 : pm_code 361 586 = some (.if_icmp .eq 5, 589) := pm_of cl361_6 26 (q := (586, .if_icmp .eq 5, 589)) rfl
theorem c361_589 : pm_code 361 589 = some (.iconst 0, 590) := pm_of cl361_6 27 (q := (589, .iconst 0, 590)) rfl
theorem c361_590 : pm_code 361 590 = some (.ireturn, 591) := pm_of cl361_6 28 (q := (590, .ireturn, 591)) rfl
theorem c361_591 : pm_code 361 591 = some (.iload 5, 593) := pm_of cl361_6 29 (q := (591, .iload 5, 593)) rfl
theorem c361_593 : pm_code 361 593 = some (.ifCond .ne 15, 596) := pm_of cl361_6 30 (q := (593, .ifCond .ne 15, 596)) rfl
theorem c361_596 : pm_code 361 596 = some (.aload_n 3, 597) := pm_of cl361_6 31 (q := (596, .aload_n 3, 597)) rfl
theorem c361_597 : pm_code 361 597 = some (.iconst 0, 598) := pm_of cl361_6 32 (q := (597, .iconst 0, 598)) rfl
theorem c361_598 : pm_code 361 598 = some (.laload, 599) := pm_of cl361_6 33 (q := (598, .laload, 599)) rfl
theorem c361_599 : pm_code 361 599 = some (.iload 6, 601) := pm_of cl361_6 34 (q := (599, .iload 6, 601)) rfl
theorem c361_601 : pm_code 361 601 = some (.i2l, 602) := pm_of cl361_6 35 (q := (601, .i2l, 602)) rfl
theorem c361_602 : pm_code 361 602 = some (.lcmp, 603) := pm_of cl361_6 36 (q := (602, .lcmp, 603)) rfl
theorem c361_603 : pm_code 361 603 = some (.ifCond .eq 5, 606) := pm_of cl361_6 37 (q := (603, .ifCond .eq 5, 606)) rfl
theorem c361_606 : pm_code 361 606 = some (.iconst 0, 607) := pm_of cl361_6 38 (q := (606, .iconst 0, 607)) rfl
theorem c361_607 : pm_code 361 607 = some (.ireturn, 608) := pm_of cl361_6 39 (q := (607, .ireturn, 608)) rfl
theorem cl361_7 : ([(608, .goto 1968, 611), (611, .aload_n 1, 612), (612, .aload_n 0, 613), (613, .iload 4, 615), (615, .iconst 1, 616), (616, .iadd, 617), (617, .iaload, 618), (618, .aload_n 0, 619), (619, .iload 4, 621), (621, .iconst 2, 622), (622, .iadd, 623), (623, .iaload, 624), (624, .aload_n 3, 625), (625, .invokestatic 153, 628), (628, .istore 5, 630), (630, .aload_n 2, 631), (631, .aload_n 0, 632), (632, .iload 4, 634), (634, .iconst 1, 635), (635, .iadd, 636), (636, .iaload, 637), (637, .aload_n 0, 638), (638, .iload 4, 640), (640, .iconst 2, 641), (641, .iadd, 642), (642, .iaload, 643), (643, .invokevirtual 155, 646), (646, .istore 6, 648), (648, .aload_n 2, 649), (649, .invokevirtual 128, 652), (652, .iload 5, 654), (654, .if_icmp .eq 5, 657), (657, .iconst 0, 658), (658, .ireturn, 659), (659, .iload 5, 661), (661, .ifCond .ne 15, 664), (664, .aload_n 3, 665), (665, .iconst 0, 666), (666, .laload, 667), (667, .iload 6, 669)] : List (Nat × Instr × Nat)).all (fun q => decide (pm_code 361 q.1 = some q.2)) = true := by decide +kernel
theorem c361_608 : pm_code 361 608 = some (.goto 1968, 611) := pm_of cl361_7 0 (q := (608, .goto 1968, 611)) rfl
theorem c361_611 : pm_code 361 611 = some (.aload_n 1, 612) := pm_of cl361_7 1 (q := (611, .aload_n 1, 612)) rfl
theorem c361_612 : pm_code 361 612 = some (.aload_n 0, 613) := pm_of cl361_7 2 (q := (612, .aload_n 0, 613)) rfl
theorem c361_613 : pm_code 361 613 = some (.iload 4, 615) := pm_of cl361_7 3 (q := (613, .iload 4, 615)) rfl
theorem c361_615 : pm_code 361 615 = some (.iconst 1, 616) := pm_of cl361_7 4 (q := (615, .iconst 1, 616)) rfl
theorem c361_616 : pm_code 361 616 = some (.iadd, 617) := pm_of cl361_7 5 (q := (616, .iadd, 617)) rfl
theorem c361_617 : pm_code 361 617 = some (.iaload, 618) := pm_of cl361_7 6 (q := (617, .iaload, 618)) rfl
theorem c361_618 : pm_code 361 618 = some (.aload_n 0, 619) := pm_of cl361_7 7 (q := (618, .aload_n 0, 619)) rfl
theorem c361_619 : pm_code 361 619 = some (.iload 4, 621) := pm_of cl361_7 8 (q := (619, .iload 4, 621)) rfl
theorem c361_621 : pm_code 361 621 = some (.iconst 2, 622) := pm_of cl361_7 9 (q := (621, .iconst 2, 622)) rfl
theorem c361_622 : pm_code 361 622 = some (.iadd, 623) := pm_of cl361_7 10 (q := (622, .iadd, 623)) rfl
theorem c361_623 : pm_code 361 623 = some (.iaload, 624) := pm_of cl361_7 11 (q := (623, .iaload, 624)) rfl
theorem c361_624 : pm_code 361 624 = some (.aload_n 3, 625) := pm_of cl361_7 12 (q := (624, .aload_n 3, 625)) rfl
theorem c361_625 : pm_code 361 625 = some (.invokestatic 153, 628) := pm_of cl361_7 13 (q := (625, .invokestatic 153, 628)) rfl
theorem c361_628 : pm_code 361 628 = some (.istore 5, 630) := pm_of cl361_7 14 (q := (628, .istore 5, 630)) rfl
theorem c361_630 : pm_code 361 630 = some (.aload_n 2, 631) := pm_of cl361_7 15 (q := (630, .aload_n 2, 631)) rfl
theorem c361_631 : pm_code 361 631 = some (.aload_n 0, 632) := pm_of cl361_7 16 (q := (631, .aload_n 0, 632)) rfl
theorem c361_632 : pm_code 361 632 = some (.iload 4, 634) := pm_of cl361_7 17 (q := (632, .iload 4, 634)) rfl
theorem c361_634 : pm_code 361 634 = some (.iconst 1, 635) := pm_of cl361_7 18 (q := (634, .iconst 1, 635)) rfl
theorem c361_635 : pm_code 361 635 = some (.iadd, 636) := pm_of cl361_7 19 (q := (635, .iadd, 636)) rfl
theorem c361_636 : pm_code 361 636 = some (.iaload, 637) := pm_of cl361_7 20 (q := (636, .iaload, 637)) rfl
theorem c361_637 : pm_code 361 637 = some (.aload_n 0, 638) := pm_of cl361_7 21 (q := (637, .aload_n 0, 638)) rfl
theorem c361_638 : pm_code 361 638 = some (.iload 4, 640) := pm_of cl361_7 22 (q := (638, .iload 4, 640)) rfl
theorem c361_640 : pm_code 361 640 = some (.iconst 2, 641) := pm_of cl361_7 23 (q := (640, .iconst 2, 641)) rfl
theorem c361_641 : pm_code 361 641 = some (.iadd, 642) := pm_of cl361_7 24 (q := (641, .iadd, 642)) rfl
theorem c361_642 : pm_code 361 642 = some (.iaload, 643) := pm_of cl361_7 25 (q := (642, .iaload, 643)) rfl
theorem c361_643 : pm_code 361 643 = some (.invokevirtual 155, 646) := pm_of cl361_7 26 (q := (643, .invokevirtual 155, 646)) rfl
theorem c361_646 : pm_code 361 646 = some (.istore 6, 648) := pm_of cl361_7 27 (q := (646, .istore 6, 648)) rfl
theorem c361_648 : pm_code 361 648 = some (.aload_n 2, 649) := pm_of cl361_7 28 (q := (648, .aload_n 2, 649)) rfl
theorem c361_649 : pm_code 361 649 = some (.invokevirtual 128, 652) := pm_of cl361_7 29 (q := (649, .invokevirtual 128, 652)) rfl
theorem c361_652 : pm_code 361 652 = some (.iload 5, 654) := pm_of cl361_7 30 (q := (652, .iload 5, 654)) rfl
theorem c361_654 : pm_code 361 654 = some (.if_icmp .eq 5, 657) := pm_of cl361_7 31 (q := (654, .if_icmp .eq 5, 657)) rfl
theorem c361_657 : pm_code 361 657 = some (.iconst 0, 658) := pm_of cl361_7 32 (q := (657, .iconst 0, 658)) rfl
theorem c361_658 : pm_code 361 658 = some (.ireturn, 659) := pm_of cl361_7 33 (q := (658, .ireturn, 659)) rfl
theorem c361_659 : pm_code 361 659 = some (.iload 5, 661) := pm_of cl361_7 34 (q := (659, .iload 5, 661)) rfl
theorem c361_661 : pm_code 361 661 = some (.ifCond .ne 15, 664) := pm_of cl361_7 35 (q := (661, .ifCond .ne 15, 664)) rfl
theorem c361_664 : pm_code 361 664 = some (.aload_n 3, 665) := pm_of cl361_7 36 (q := (664, .aload_n 3, 665)) rfl
theorem c361_665 : pm_code 361 665 = some (.iconst 0, 666) := pm_of cl361_7 37 (q := (665, .iconst 0, 666)) rfl
theorem c361_666 : pm_code 361 666 = some (.laload, 667) := pm_of cl361_7 38 (q := (666, .laload, 667)) rfl
theorem c361_667 : pm_code 361 667 = some (.iload 6, 669) := pm_of cl361_7 39 (q := (667, .iload 6, 669)) rfl
theorem cl361_8 : ([(669, .i2l, 670), (670, .lcmp, 671), (671, .ifCond .eq 5, 674), (674, .iconst 0, 675), (675, .ireturn, 676), (676, .goto 1900, 679), (679, .aload_n 1, 680), (680, .aload_n 0, 681), (681, .iload 4, 683), (683, .iconst 1, 684), (684, .iadd, 685), (685, .iaload, 686), (686, .aload_n 0, 687), (687, .iload 4, 689), (689, .iconst 2, 690), (690, .iadd, 691), (691, .iaload, 692), (692, .aload_n 3, 693), (693, .invokestatic 156, 696), (696, .istore 5, 698), (698, .aload_n 2, 699), (699, .aload_n 0, 700), (700, .iload 4, 702), (702, .iconst 1, 703), (703, .iadd, 704), (704, .iaload, 705), (705, .aload_n 0, 706), (706, .iload 4, 708), (708, .iconst 2, 709), (709, .iadd, 710), (710, .iaload, 711), (711, .invokevirtual 158, 714), (714, .istore 6, 716), (716, .aload_n 2, 717), (717, .invokevirtual 128, 720), (720, .iload 5, 722), (722, .if_icmp .eq 5, 725), (725, .iconst 0, 726), (726, .ireturn, 727), (727, .iload 5, 729)] : List (Nat × Instr × Nat)).all (fun q => decide (pm_code 361 q.1 = some q.2)) = true := by decide +kernel
theorem c361_669 : pm_code 361 669 = some (.i2l, 670) := pm_of cl361_8 0 (q := (669, .i2l, 670)) rfl
theorem c361_670 : pm_code 361 670 = some (.lcmp, 671) := pm_of cl361_8 1 (q := (670, .lcmp, 671)) rfl
theorem c361_671 : pm_code 361 671 = some (.ifCond .eq 5, 674) := pm_of cl361_8 2 (q := (671, .ifCond .eq 5, 674)) rfl
theorem c361_674 : pm_code 361 674 = some (.iconst 0, 675) := pm_of cl361_8 3 (q := (674, .iconst 0, 675)) rfl
theorem c361_675 : pm_code 361 675 = some (.ireturn, 676) := pm_of cl361_8 4 (q := (675, .ireturn, 676)) rfl
theorem c361_676 : pm_code 361 676 = some (.goto 1900, 679) := pm_of cl361_8 5 (q := (676, .goto 1900, 679)) rfl
theorem c361_679 : pm_code 361 679 = some (.aload_n 1, 680) := pm_of cl361_8 6 (q := (679, .aload_n 1, 680)) rfl
theorem c361_680 : pm_code 361 680 = some (.aload_n 0, 681) := pm_of cl361_8 7 (q := (680, .aload_n 0, 681)) rfl
theorem c361_681 : pm_code 361 681 = some (.iload 4, 683) := pm_of cl361_8 8 (q := (681, .iload 4, 683)) rfl
theorem c361_683 : pm_code 361 683 = some (.iconst 1, 684) := pm_of cl361_8 9 (q := (683, .iconst 1, 684)) rfl
theorem c361_684 : pm_code 361 684 = some (.iadd, 685) := pm_of cl361_8 10 (q := (684, .iadd, 685)) rfl
theorem c361_685 : pm_code 361 685 = some (.iaload, 686) := pm_of cl361_8 11 (q := (685, .iaload, 686)) rfl
theorem c361_686 : pm_code 361 686 = some (.aload_n 0, 687) := pm_of cl361_8 12 (q := (686, .aload_n 0, 687)) rfl
theorem c361_687 : pm_code 361 687 = some (.iload 4, 689) := pm_of cl361_8 13 (q := (687, .iload 4, 689)) rfl
theorem c361_689 : pm_code 361 689 = some (.iconst 2, 690) := pm_of cl361_8 14 (q := (689, .iconst 2, 690)) rfl
theorem c361_690 : pm_code 361 690 = some (.iadd, 691) := pm_of cl361_8 15 (q := (690, .iadd, 691)) rfl
theorem c361_691 : pm_code 361 691 = some (.iaload, 692) := pm_of cl361_8 16 (q := (691, .iaload, 692)) rfl
theorem c361_692 : pm_code 361 692 = some (.aload_n 3, 693) := pm_of cl361_8 17 (q := (692, .aload_n 3, 693)) rfl
theorem c361_693 : pm_code 361 693 = some (.invokestatic 156, 696) := pm_of cl361_8 18 (q := (693, .invokestatic 156, 696)) rfl
theorem c361_696 : pm_code 361 696 = some (.istore 5, 698) := pm_of cl361_8 19 (q := (696, .istore 5, 698)) rfl
theorem c361_698 : pm_code 361 698 = some (.aload_n 2, 699) := pm_of cl361_8 20 (q := (698, .aload_n 2, 699)) rfl
theorem c361_699 : pm_code 361 699 = some (.aload_n 0, 700) := pm_of cl361_8 21 (q := (699, .aload_n 0, 700)) rfl
theorem c361_700 : pm_code 361 700 = some (.iload 4, 702) := pm_of cl361_8 22 (q := (700, .iload 4, 702)) rfl
theorem c361_702 : pm_code 361 702 = some (.iconst 1, 703) := pm_of cl361_8 23 (q := (702, .iconst 1, 703)) rfl
theorem c361_703 : pm_code 361 703 = some (.iadd, 704) := pm_of cl361_8 24 (q := (703, .iadd, 704)) rfl
theorem c361_704 : pm_code 361 704 = some (.iaload, 705) := pm_of cl361_8 25 (q := (704, .iaload, 705)) rfl
theorem c361_705 : pm_code 361 705 = some (.aload_n 0, 706) := pm_of cl361_8 26 (q := (705, .aload_n 0, 706)) rfl
theorem c361_706 : pm_code 361 706 = some (.iload 4, 708) := pm_of cl361_8 27 (q := (706, .iload 4, 708)) rfl
theorem c361_708 : pm_code 361 708 = some (.iconst 2, 709) := pm_of cl361_8 28 (q := (708, .iconst 2, 709)) rfl
theorem c361_709 : pm_code 361 709 = some (.iadd, 710) := pm_of cl361_8 29 (q := (709, .iadd, 710)) rfl
theorem c361_710 : pm_code 361 710 = some (.iaload, 711) := pm_of cl361_8 30 (q := (710, .iaload, 711)) rfl
theorem c361_711 : pm_code 361 711 = some (.invokevirtual 158, 714) := pm_of cl361_8 31 (q := (711, .invokevirtual 158, 714)) rfl
theorem c361_714 : pm_code 361 714 = some (.istore 6, 716) := pm_of cl361_8 32 (q := (714, .istore 6, 716)) rfl
theorem c361_716 : pm_code 361 716 = some (.aload_n 2, 717) := pm_of cl361_8 33 (q := (716, .aload_n 2, 717)) rfl
theorem c361_717 : pm_code 361 717 = some (.invokevirtual 128, 720) := pm_of cl361_8 34 (q := (717, .invokevirtual 128, 720)) rfl
theorem c361_720 : pm_code 361 720 = some (.iload 5, 722) := pm_of cl361_8 35 (q := (720, .iload 5, 722)) rfl
theorem c361_722 : pm_code 361 722 = some (.if_icmp .eq 5, 725) := pm_of cl361_8 36 (q := (722, .if_icmp .eq 5, 725)) rfl
theorem c361_725 : pm_code 361 725 = some (.iconst 0, 726) := pm_of cl361_8 37 (q := (725, .iconst 0, 726)) rfl
theorem c361_726 : pm_code 361 726 = some (.ireturn, 727) := pm_of cl361_8 38 (q := (726, .ireturn, 727)) rfl
theorem c361_727 : pm_code 361 727 = some (.iload 5, 729) := pm_of cl361_8 39 (q := (727, .iload 5, 729)) rfl
theorem cl361_9 : ([(729, .ifCond .ne 15, 732), (732, .aload_n 3, 733), (733, .iconst 0, 734), (734, .laload, 735), (735, .iload 6, 737), (737, .i2l, 738), (738, .lcmp, 739), (739, .ifCond .eq 5, 742), (742, .iconst 0, 743), (743, .ireturn, 744), (744, .goto 1832, 747), (747, .aload_n 1, 748), (748, .aload_n 0, 749), (749, .iload 4, 751), (751, .iconst 1, 752), (752, .iadd, 753), (753, .iaload, 754), (754, .aload_n 0, 755), (755, .iload 4, 757), (757, .iconst 2, 758), (758, .iadd, 759), (759, .iaload, 760), (760, .aload_n 3, 761), (761, .invokestatic 159, 764), (764, .istore 5, 766), (766, .aload_n 2, 767), (767, .aload_n 0, 768), (768, .iload 4, 770), (770, .iconst 1, 771), (771, .iadd, 772), (772, .iaload, 773), (773, .aload_n 0, 774), (774, .iload 4, 776), (776, .iconst 2, 777), (777, .iadd, 778), (778, .iaload, 779), (779, .invokevirtual 161, 782), (782, .istore 6, 784), (784, .aload_n 2, 785), (785, .invokevirtual 128, 788)] : List (Nat × Instr × Nat)).all (fun q => decide (pm_code 361 q.1 = some q.2)) = true := by decide +kernel
theorem c361_729 : pm_code 361 729 = some (.ifCond .ne 15, 732) := pm_of cl361_9 0 (q := (729, .ifCond .ne 15, 732)) rfl
theorem c361_732 : pm_code 361 732 = some (.aload_n 3, 733) := pm_of cl361_9 1 (q := (732, .aload_n 3, 733)) rfl
theorem c361_733 : pm_code 361 733 = some (.iconst 0, 734) := pm_of cl361_9 2 (q := (733, .iconst 0, 734)) rfl
theorem c361_734 : pm_code 361 734 = some (.laload, 735) := pm_of cl361_9 3 (q := (734, .laload, 735)) rfl
theorem c361_735 : pm_code 361 735 = some (.iload 6, 737) := pm_of cl361_9 4 (q := (735, .iload 6, 737)) rfl
theorem c361_737 : pm_code 361 737 = some (.i2l, 738) := pm_of cl361_9 5 (q := (737, .i2l, 738)) rfl
theorem c361_738 : pm_code 361 738 = some (.lcmp, 739) := pm_of cl361_9 6 (q := (738, .lcmp, 739)) rfl
theorem c361_739 : pm_code 361 739 = some (.ifCond .eq 5, 742) := pm_of cl361_9 7 (q := (739, .ifCond .eq 5, 742)) rfl
theorem c361_742 : pm_code 361 742 = some (.iconst 0, 743) := pm_of cl361_9 8 (q := (742, .iconst 0, 743)) rfl
theorem c361_743 : pm_code 361 743 = some (.ireturn, 744) := pm_of cl361_9 9 (q := (743, .ireturn, 744)) rfl
theorem c361_744 : pm_code 361 744 = some (.goto 1832, 747) := pm_of cl361_9 10 (q := (744, .goto 1832, 747)) rfl
theorem c361_747 : pm_code 361 747 = some (.aload_n 1, 748) := pm_of cl361_9 11 (q := (747, .aload_n 1, 748)) rfl
theorem c361_748 : pm_code 361 748 = some (.aload_n 0, 749) := pm_of cl361_9 12 (q := (748, .aload_n 0, 749)) rfl
theorem c361_749 : pm_code 361 749 = some (.iload 4, 751) := pm_of cl361_9 13 (q := (749, .iload 4, 751)) rfl
theorem c361_751 : pm_code 361 751 = some (.iconst 1, 752) := pm_of cl361_9 14 (q := (751, .iconst 1, 752)) rfl
theorem c361_752 : pm_code 361 752 = some (.iadd, 753) := pm_of cl361_9 15 (q := (752, .iadd, 753)) rfl
theorem c361_753 : pm_code 361 753 = some (.iaload, 754) := pm_of cl361_9 16 (q := (753, .iaload, 754)) rfl
theorem c361_754 : pm_code 361 754 = some (.aload_n 0, 755) := pm_of cl361_9 17 (q := (754, .aload_n 0, 755)) rfl
theorem c361_755 : pm_code 361 755 = some (.iload 4, 757) := pm_of cl361_9 18 (q := (755, .iload 4, 757)) rfl
theorem c361_757 : pm_code 361 757 = some (.iconst 2, 758) := pm_of cl361_9 19 (q := (757, .iconst 2, 758)) rfl
theorem c361_758 : pm_code 361 758 = some (.iadd, 759) := pm_of cl361_9 20 (q := (758, .iadd, 759)) rfl
theorem c361_759 : pm_code 361 759 = some (.iaload, 760) := pm_of cl361_9 21 (q := (759, .iaload, 760)) rfl
theorem c361_760 : pm_code 361 760 = some (.aload_n 3, 761) := pm_of cl361_9 22 (q := (760, .aload_n 3, 761)) rfl
theorem c361_761 : pm_code 361 761 = some (.invokestatic 159, 764) := pm_of cl361_9 23 (q := (761, .invokestatic 159, 764)) rfl
theorem c361_764 : pm_code 361 764 = some (.istore 5, 766) := pm_of cl361_9 24 (q := (764, .istore 5, 766)) rfl
theorem c361_766 : pm_code 361 766 = some (.aload_n 2, 767) := pm_of cl361_9 25 (q := (766, .aload_n 2, 767)) rfl
theorem c361_767 : pm_code 361 767 = some (.aload_n 0, 768) := pm_of cl361_9 26 (q := (767, .aload_n 0, 768)) rfl
theorem c361_768 : pm_code 361 768 = some (.iload 4, 770) := pm_of cl361_9 27 (q := (768, .iload 4, 770)) rfl
theorem c361_770 : pm_code 361 770 = some (.iconst 1, 771) := pm_of cl361_9 28 (q := (770, .iconst 1, 771)) rfl
theorem c361_771 : pm_code 361 771 = some (.iadd, 772) := pm_of cl361_9 29 (q := (771, .iadd, 772)) rfl
theorem c361_772 : pm_code 361 772 = some (.iaload, 773) := pm_of cl361_9 30 (q := (772, .iaload, 773)) rfl
theorem c361_773 : pm_code 361 773 = some (.aload_n 0, 774) := pm_of cl361_9 31 (q := (773, .aload_n 0, 774)) rfl
theorem c361_774 : pm_code 361 774 = some (.iload 4, 776) := pm_of cl361_9 32 (q := (774, .iload 4, 776)) rfl
theorem c361_776 : pm_code 361 776 = some (.iconst 2, 777) := pm_of cl361_9 33 (q := (776, .iconst 2, 777)) rfl
theorem c361_777 : pm_code 361 777 = some (.iadd, 778) := pm_of cl361_9 34 (q := (777, .iadd, 778)) rfl
theorem c361_778 : pm_code 361 778 = some (.iaload, 779) := pm_of cl361_9 35 (q := (778, .iaload, 779)) rfl
theorem c361_779 : pm_code 361 779 = some (.invokevirtual 161, 782) := pm_of cl361_9 36 (q := (779, .invokevirtual 161, 782)) rfl
theorem c361_782 : pm_code 361 782 = some (.istore 6, 784) := pm_of cl361_9 37 (q := (782, .istore 6, 784)) rfl
theorem c361_784 : pm_code 361 784 = some (.aload_n 2, 785) := pm_of cl361_9 38 (q := (784, .aload_n 2, 785)) rfl
theorem c361_785 : pm_code 361 785 = some (.invokevirtual 128, 788) := pm_of cl361_9 39 (q := (785, .invokevirtual 128, 788)) rfl
