/-! WHAT STANDS AT EVERY PLACE, ON -/
theorem k362 : pm_k 362 = 14 := by decide +kernel
theorem ml362 : pm_ml 362 = 2 := by decide +kernel
theorem rt362 : pm_rt 362 = (some .int) := by decide +kernel
theorem hh362 : pm_hh 362 = [] := by decide +kernel
theorem cl362_0 : ([(0, .iload_n 0, 1), (1, .iload_n 1, 2), (2, .if_icmp .lt 7, 5), (5, .iload_n 0, 6), (6, .goto 4, 9), (9, .iload_n 1, 10), (10, .ireturn, 11)] : List (Nat × Instr × Nat)).all (fun q => decide (pm_code 362 q.1 = some q.2)) = true := by decide +kernel
theorem c362_0 : pm_code 362 0 = some (.iload_n 0, 1) := pm_of cl362_0 0 (q := (0, .iload_n 0, 1)) rfl
theorem c362_1 : pm_code 362 1 = some (.iload_n 1, 2) := pm_of cl362_0 1 (q := (1, .iload_n 1, 2)) rfl
theorem c362_2 : pm_code 362 2 = some (.if_icmp .lt 7, 5) := pm_of cl362_0 2 (q := (2, .if_icmp .lt 7, 5)) rfl
theorem c362_5 : pm_code 362 5 = some (.iload_n 0, 6) := pm_of cl362_0 3 (q := (5, .iload_n 0, 6)) rfl
theorem c362_6 : pm_code 362 6 = some (.goto 4, 9) := pm_of cl362_0 4 (q := (6, .goto 4, 9)) rfl
theorem c362_9 : pm_code 362 9 = some (.iload_n 1, 10) := pm_of cl362_0 5 (q := (9, .iload_n 1, 10)) rfl
theorem c362_10 : pm_code 362 10 = some (.ireturn, 11) := pm_of cl362_0 6 (q := (10, .ireturn, 11)) rfl
theorem k363 : pm_k 363 = 14 := by decide +kernel
theorem ml363 : pm_ml 363 = 2 := by decide +kernel
theorem rt363 : pm_rt 363 = (some .int) := by decide +kernel
theorem hh363 : pm_hh 363 = [] := by decide +kernel
theorem cl363_0 : ([(0, .iload_n 0, 1), (1, .iload_n 1, 2), (2, .if_icmp .gt 7, 5), (5, .iload_n 0, 6), (6, .goto 4, 9), (9, .iload_n 1, 10), (10, .ireturn, 11)] : List (Nat × Instr × Nat)).all (fun q => decide (pm_code 363 q.1 = some q.2)) = true := by decide +kernel
theorem c363_0 : pm_code 363 0 = some (.iload_n 0, 1) := pm_of cl363_0 0 (q := (0, .iload_n 0, 1)) rfl
theorem c363_1 : pm_code 363 1 = some (.iload_n 1, 2) := pm_of cl363_0 1 (q := (1, .iload_n 1, 2)) rfl
theorem c363_2 : pm_code 363 2 = some (.if_icmp .gt 7, 5) := pm_of cl363_0 2 (q := (2, .if_icmp .gt 7, 5)) rfl
theorem c363_5 : pm_code 363 5 = some (.iload_n 0, 6) := pm_of cl363_0 3 (q := (5, .iload_n 0, 6)) rfl
theorem c363_6 : pm_code 363 6 = some (.goto 4, 9) := pm_of cl363_0 4 (q := (6, .goto 4, 9)) rfl
theorem c363_9 : pm_code 363 9 = some (.iload_n 1, 10) := pm_of cl363_0 5 (q := (9, .iload_n 1, 10)) rfl
theorem c363_10 : pm_code 363 10 = some (.ireturn, 11) := pm_of cl363_0 6 (q := (10, .ireturn, 11)) rfl
theorem k364 : pm_k 364 = 14 := by decide +kernel
theorem ml364 : pm_ml 364 = 4 := by decide +kernel
theorem rt364 : pm_rt 364 = (some .long) := by decide +kernel
theorem hh364 : pm_hh 364 = [] := by decide +kernel
theorem cl364_0 : ([(0, .lload_n 0, 1), (1, .lload_n 2, 2), (2, .lcmp, 3), (3, .ifCond .lt 7, 6), (6, .lload_n 0, 7), (7, .goto 4, 10), (10, .lload_n 2, 11), (11, .lreturn, 12)] : List (Nat × Instr × Nat)).all (fun q => decide (pm_code 364 q.1 = some q.2)) = true := by decide +kernel
theorem c364_0 : pm_code 364 0 = some (.lload_n 0, 1) := pm_of cl364_0 0 (q := (0, .lload_n 0, 1)) rfl
theorem c364_1 : pm_code 364 1 = some (.lload_n 2, 2) := pm_of cl364_0 1 (q := (1, .lload_n 2, 2)) rfl
theorem c364_2 : pm_code 364 2 = some (.lcmp, 3) := pm_of cl364_0 2 (q := (2, .lcmp, 3)) rfl
theorem c364_3 : pm_code 364 3 = some (.ifCond .lt 7, 6) := pm_of cl364_0 3 (q := (3, .ifCond .lt 7, 6)) rfl
theorem c364_6 : pm_code 364 6 = some (.lload_n 0, 7) := pm_of cl364_0 4 (q := (6, .lload_n 0, 7)) rfl
theorem c364_7 : pm_code 364 7 = some (.goto 4, 10) := pm_of cl364_0 5 (q := (7, .goto 4, 10)) rfl
theorem c364_10 : pm_code 364 10 = some (.lload_n 2, 11) := pm_of cl364_0 6 (q := (10, .lload_n 2, 11)) rfl
theorem c364_11 : pm_code 364 11 = some (.lreturn, 12) := pm_of cl364_0 7 (q := (11, .lreturn, 12)) rfl
theorem k365 : pm_k 365 = 15 := by decide +kernel
theorem ml365 : pm_ml 365 = 1 := by decide +kernel
theorem rt365 : pm_rt 365 = (some .int) := by decide +kernel
theorem hh365 : pm_hh 365 = [] := by decide +kernel
theorem cl365_0 : ([(0, .iload_n 0, 1), (1, .iload_n 0, 2), (2, .iconst 1, 3), (3, .iushr, 4), (4, .ldc_w 265, 7), (7, .iand, 8), (8, .isub, 9), (9, .istore_n 0, 10), (10, .iload_n 0, 11), (11, .ldc_w 266, 14), (14, .iand, 15), (15, .iload_n 0, 16), (16, .iconst 2, 17), (17, .iushr, 18), (18, .ldc_w 266, 21), (21, .iand, 22), (22, .iadd, 23), (23, .istore_n 0, 24), (24, .iload_n 0, 25), (25, .iload_n 0, 26), (26, .iconst 4, 27), (27, .iushr, 28), (28, .iadd, 29), (29, .ldc_w 267, 32), (32, .iand, 33), (33, .istore_n 0, 34), (34, .iload_n 0, 35), (35, .iload_n 0, 36), (36, .bipush 8, 38), (38, .iushr, 39), (39, .iadd, 40), (40, .istore_n 0, 41), (41, .iload_n 0, 42), (42, .iload_n 0, 43), (43, .bipush 16, 45), (45, .iushr, 46), (46, .iadd, 47), (47, .istore_n 0, 48), (48, .iload_n 0, 49), (49, .bipush 63, 51)] : List (Nat × Instr × Nat)).all (fun q => decide (pm_code 365 q.1 = some q.2)) = true := by decide +kernel
theorem c365_0 : pm_code 365 0 = some (.iload_n 0, 1) := pm_of cl365_0 0 (q := (0, .iload_n 0, 1)) rfl
theorem c365_1 : pm_code 365 1 = some (.iload_n 0, 2) := pm_of cl365_0 1 (q := (1, .iload_n 0, 2)) rfl
theorem c365_2 : pm_code 365 2 = some (.iconst 1, 3) := pm_of cl365_0 2 (q := (2, .iconst 1, 3)) rfl
theorem c365_3 : pm_code 365 3 = some (.iushr, 4) := pm_of cl365_0 3 (q := (3, .iushr, 4)) rfl
theorem c365_4 : pm_code 365 4 = some (.ldc_w 265, 7) := pm_of cl365_0 4 (q := (4, .ldc_w 265, 7)) rfl
theorem c365_7 : pm_code 365 7 = some (.iand, 8) := pm_of cl365_0 5 (q := (7, .iand, 8)) rfl
theorem c365_8 : pm_code 365 8 = some (.isub, 9) := pm_of cl365_0 6 (q := (8, .isub, 9)) rfl
theorem c365_9 : pm_code 365 9 = some (.istore_n 0, 10) := pm_of cl365_0 7 (q := (9, .istore_n 0, 10)) rfl
theorem c365_10 : pm_code 365 10 = some (.iload_n 0, 11) := pm_of cl365_0 8 (q := (10, .iload_n 0, 11)) rfl
theorem c365_11 : pm_code 365 11 = some (.ldc_w 266, 14) := pm_of cl365_0 9 (q := (11, .ldc_w 266, 14)) rfl
theorem c365_14 : pm_code 365 14 = some (.iand, 15) := pm_of cl365_0 10 (q := (14, .iand, 15)) rfl
theorem c365_15 : pm_code 365 15 = some (.iload_n 0, 16) := pm_of cl365_0 11 (q := (15, .iload_n 0, 16)) rfl
theorem c365_16 : pm_code 365 16 = some (.iconst 2, 17) := pm_of cl365_0 12 (q := (16, .iconst 2, 17)) rfl
theorem c365_17 : pm_code 365 17 = some (.iushr, 18) := pm_of cl365_0 13 (q := (17, .iushr, 18)) rfl
theorem c365_18 : pm_code 365 18 = some (.ldc_w 266, 21) := pm_of cl365_0 14 (q := (18, .ldc_w 266, 21)) rfl
theorem c365_21 : pm_code 365 21 = some (.iand, 22) := pm_of cl365_0 15 (q := (21, .iand, 22)) rfl
theorem c365_22 : pm_code 365 22 = some (.iadd, 23) := pm_of cl365_0 16 (q := (22, .iadd, 23)) rfl
theorem c365_23 : pm_code 365 23 = some (.istore_n 0, 24) := pm_of cl365_0 17 (q := (23, .istore_n 0, 24)) rfl
theorem c365_24 : pm_code 365 24 = some (.iload_n 0, 25) := pm_of cl365_0 18 (q := (24, .iload_n 0, 25)) rfl
theorem c365_25 : pm_code 365 25 = some (.iload_n 0, 26) := pm_of cl365_0 19 (q := (25, .iload_n 0, 26)) rfl
theorem c365_26 : pm_code 365 26 = some (.iconst 4, 27) := pm_of cl365_0 20 (q := (26, .iconst 4, 27)) rfl
theorem c365_27 : pm_code 365 27 = some (.iushr, 28) := pm_of cl365_0 21 (q := (27, .iushr, 28)) rfl
theorem c365_28 : pm_code 365 28 = some (.iadd, 29) := pm_of cl365_0 22 (q := (28, .iadd, 29)) rfl
theorem c365_29 : pm_code 365 29 = some (.ldc_w 267, 32) := pm_of cl365_0 23 (q := (29, .ldc_w 267, 32)) rfl
theorem c365_32 : pm_code 365 32 = some (.iand, 33) := pm_of cl365_0 24 (q := (32, .iand, 33)) rfl
theorem c365_33 : pm_code 365 33 = some (.istore_n 0, 34) := pm_of cl365_0 25 (q := (33, .istore_n 0, 34)) rfl
theorem c365_34 : pm_code 365 34 = some (.iload_n 0, 35) := pm_of cl365_0 26 (q := (34, .iload_n 0, 35)) rfl
theorem c365_35 : pm_code 365 35 = some (.iload_n 0, 36) := pm_of cl365_0 27 (q := (35, .iload_n 0, 36)) rfl
theorem c365_36 : pm_code 365 36 = some (.bipush 8, 38) := pm_of cl365_0 28 (q := (36, .bipush 8, 38)) rfl
theorem c365_38 : pm_code 365 38 = some (.iushr, 39) := pm_of cl365_0 29 (q := (38, .iushr, 39)) rfl
theorem c365_39 : pm_code 365 39 = some (.iadd, 40) := pm_of cl365_0 30 (q := (39, .iadd, 40)) rfl
theorem c365_40 : pm_code 365 40 = some (.istore_n 0, 41) := pm_of cl365_0 31 (q := (40, .istore_n 0, 41)) rfl
theorem c365_41 : pm_code 365 41 = some (.iload_n 0, 42) := pm_of cl365_0 32 (q := (41, .iload_n 0, 42)) rfl
theorem c365_42 : pm_code 365 42 = some (.iload_n 0, 43) := pm_of cl365_0 33 (q := (42, .iload_n 0, 43)) rfl
theorem c365_43 : pm_code 365 43 = some (.bipush 16, 45) := pm_of cl365_0 34 (q := (43, .bipush 16, 45)) rfl
theorem c365_45 : pm_code 365 45 = some (.iushr, 46) := pm_of cl365_0 35 (q := (45, .iushr, 46)) rfl
theorem c365_46 : pm_code 365 46 = some (.iadd, 47) := pm_of cl365_0 36 (q := (46, .iadd, 47)) rfl
theorem c365_47 : pm_code 365 47 = some (.istore_n 0, 48) := pm_of cl365_0 37 (q := (47, .istore_n 0, 48)) rfl
theorem c365_48 : pm_code 365 48 = some (.iload_n 0, 49) := pm_of cl365_0 38 (q := (48, .iload_n 0, 49)) rfl
theorem c365_49 : pm_code 365 49 = some (.bipush 63, 51) := pm_of cl365_0 39 (q := (49, .bipush 63, 51)) rfl
theorem cl365_1 : ([(51, .iand, 52), (52, .ireturn, 53)] : List (Nat × Instr × Nat)).all (fun q => decide (pm_code 365 q.1 = some q.2)) = true := by decide +kernel
theorem c365_51 : pm_code 365 51 = some (.iand, 52) := pm_of cl365_1 0 (q := (51, .iand, 52)) rfl
theorem c365_52 : pm_code 365 52 = some (.ireturn, 53) := pm_of cl365_1 1 (q := (52, .ireturn, 53)) rfl
theorem k366 : pm_k 366 = 16 := by decide +kernel
theorem ml366 : pm_ml 366 = 1 := by decide +kernel
theorem rt366 : pm_rt 366 = (some .int) := by decide +kernel
theorem hh366 : pm_hh 366 = [] := by decide +kernel
theorem rc366 : pm_cl 16 = (pm_y 366).cls := by decide +kernel
theorem cl366_0 : ([(0, .aload_n 0, 1), (1, .getfield 9, 4), (4, .arraylength, 5), (5, .aload_n 0, 6), (6, .invokevirtual 335, 9), (9, .ishr, 10), (10, .ireturn, 11)] : List (Nat × Instr × Nat)).all (fun q => decide (pm_code 366 q.1 = some q.2)) = true := by decide +kernel
theorem c366_0 : pm_code 366 0 = some (.aload_n 0, 1) := pm_of cl366_0 0 (q := (0, .aload_n 0, 1)) rfl
theorem c366_1 : pm_code 366 1 = some (.getfield 9, 4) := pm_of cl366_0 1 (q := (1, .getfield 9, 4)) rfl
theorem c366_4 : pm_code 366 4 = some (.arraylength, 5) := pm_of cl366_0 2 (q := (4, .arraylength, 5)) rfl
theorem c366_5 : pm_code 366 5 = some (.aload_n 0, 6) := pm_of cl366_0 3 (q := (5, .aload_n 0, 6)) rfl
theorem c366_6 : pm_code 366 6 = some (.invokevirtual 335, 9) := pm_of cl366_0 4 (q := (6, .invokevirtual 335, 9)) rfl
theorem c366_9 : pm_code 366 9 = some (.ishr, 10) := pm_of cl366_0 5 (q := (9, .ishr, 10)) rfl
theorem c366_10 : pm_code 366 10 = some (.ireturn, 11) := pm_of cl366_0 6 (q := (10, .ireturn, 11)) rfl
theorem k367 : pm_k 367 = 16 := by decide +kernel
theorem ml367 : pm_ml 367 = 1 := by decide +kernel
theorem rt367 : pm_rt 367 = (some .byte) := by decide +kernel
theorem hh367 : pm_hh 367 = [] := by decide +kernel
theorem rc367 : pm_cl 16 = (pm_y 367).cls := by decide +kernel
theorem cl367_0 : ([(0, .getstatic 38, 3), (3, .ifCond .eq 10, 6), (6, .aload_n 0, 7), (7, .getfield 15, 10), (10, .goto 4, 13), (13, .iconst 1, 14), (14, .ireturn, 15)] : List (Nat × Instr × Nat)).all (fun q => decide (pm_code 367 q.1 = some q.2)) = true := by decide +kernel
theorem c367_0 : pm_code 367 0 = some (.getstatic 38, 3) := pm_of cl367_0 0 (q := (0, .getstatic 38, 3)) rfl
theorem c367_3 : pm_code 367 3 = some (.ifCond .eq 10, 6) := pm_of cl367_0 1 (q := (3, .ifCond .eq 10, 6)) rfl
theorem c367_6 : pm_code 367 6 = some (.aload_n 0, 7) := pm_of cl367_0 2 (q := (6, .aload_n 0, 7)) rfl
theorem c367_7 : pm_code 367 7 = some (.getfield 15, 10) := pm_of cl367_0 3 (q := (7, .getfield 15, 10)) rfl
theorem c367_10 : pm_code 367 10 = some (.goto 4, 13) := pm_of cl367_0 4 (q := (10, .goto 4, 13)) rfl
theorem c367_13 : pm_code 367 13 = some (.iconst 1, 14) := pm_of cl367_0 5 (q := (13, .iconst 1, 14)) rfl
theorem c367_14 : pm_code 367 14 = some (.ireturn, 15) := pm_of cl367_0 6 (q := (14, .ireturn, 15)) rfl
theorem k368 : pm_k 368 = 16 := by decide +kernel
theorem ml368 : pm_ml 368 = 2 := by decide +kernel
theorem rt368 : pm_rt 368 = (some .char) := by decide +kernel
theorem hh368 : pm_hh 368 = [] := by decide +kernel
theorem rc368 : pm_cl 16 = (pm_y 368).cls := by decide +kernel
theorem cl368_0 : ([(0, .aload_n 0, 1), (1, .invokevirtual 492, 4), (4, .ifCond .eq 12, 7), (7, .aload_n 0, 8), (8, .getfield 9, 11), (11, .iload_n 1, 12), (12, .invokestatic 495, 15), (15, .ireturn, 16), (16, .aload_n 0, 17), (17, .getfield 9, 20), (20, .iload_n 1, 21), (21, .invokestatic 498, 24), (24, .ireturn, 25)] : List (Nat × Instr × Nat)).all (fun q => decide (pm_code 368 q.1 = some q.2)) = true := by decide +kernel
theorem c368_0 : pm_code 368 0 = some (.aload_n 0, 1) := pm_of cl368_0 0 (q := (0, .aload_n 0, 1)) rfl
theorem c368_1 : pm_code 368 1 = some (.invokevirtual 492, 4) := pm_of cl368_0 1 (q := (1, .invokevirtual 492, 4)) rfl
theorem c368_4 : pm_code 368 4 = some (.ifCond .eq 12, 7) := pm_of cl368_0 2 (q := (4, .ifCond .eq 12, 7)) rfl
theorem c368_7 : pm_code 368 7 = some (.aload_n 0, 8) := pm_of cl368_0 3 (q := (7, .aload_n 0, 8)) rfl
theorem c368_8 : pm_code 368 8 = some (.getfield 9, 11) := pm_of cl368_0 4 (q := (8, .getfield 9, 11)) rfl
theorem c368_11 : pm_code 368 11 = some (.iload_n 1, 12) := pm_of cl368_0 5 (q := (11, .iload_n 1, 12)) rfl
theorem c368_12 : pm_code 368 12 = some (.invokestatic 495, 15) := pm_of cl368_0 6 (q := (12, .invokestatic 495, 15)) rfl
theorem c368_15 : pm_code 368 15 = some (.ireturn, 16) := pm_of cl368_0 7 (q := (15, .ireturn, 16)) rfl
theorem c368_16 : pm_code 368 16 = some (.aload_n 0, 17) := pm_of cl368_0 8 (q := (16, .aload_n 0, 17)) rfl
theorem c368_17 : pm_code 368 17 = some (.getfield 9, 20) := pm_of cl368_0 9 (q := (17, .getfield 9, 20)) rfl
theorem c368_20 : pm_code 368 20 = some (.iload_n 1, 21) := pm_of cl368_0 10 (q := (20, .iload_n 1, 21)) rfl
theorem c368_21 : pm_code 368 21 = some (.invokestatic 498, 24) := pm_of cl368_0 11 (q := (21, .invokestatic 498, 24)) rfl
theorem c368_24 : pm_code 368 24 = some (.ireturn, 25) := pm_of cl368_0 12 (q := (24, .ireturn, 25)) rfl
theorem k369 : pm_k 369 = 16 := by decide +kernel
theorem ml369 : pm_ml 369 = 1 := by decide +kernel
theorem rt369 : pm_rt 369 = (some .boolean) := by decide +kernel
theorem hh369 : pm_hh 369 = [] := by decide +kernel
theorem rc369 : pm_cl 16 = (pm_y 369).cls := by decide +kernel
theorem cl369_0 : ([(0, .getstatic 38, 3), (3, .ifCond .eq 14, 6), (6, .aload_n 0, 7), (7, .getfield 15, 10), (10, .ifCond .ne 7, 13), (13, .iconst 1, 14), (14, .goto 4, 17), (17, .iconst 0, 18), (18, .ireturn, 19)] : List (Nat × Instr × Nat)).all (fun q => decide (pm_code 369 q.1 = some q.2)) = true := by decide +kernel
theorem c369_0 : pm_code 369 0 = some (.getstatic 38, 3) := pm_of cl369_0 0 (q := (0, .getstatic 38, 3)) rfl
theorem c369_3 : pm_code 369 3 = some (.ifCond .eq 14, 6) := pm_of cl369_0 1 (q := (3, .ifCond .eq 14, 6)) rfl
theorem c369_6 : pm_code 369 6 = some (.aload_n 0, 7) := pm_of cl369_0 2 (q := (6, .aload_n 0, 7)) rfl
theorem c369_7 : pm_code 369 7 = some (.getfield 15, 10) := pm_of cl369_0 3 (q := (7, .getfield 15, 10)) rfl
theorem c369_10 : pm_code 369 10 = some (.ifCond .ne 7, 13) := pm_of cl369_0 4 (q := (10, .ifCond .ne 7, 13)) rfl
theorem c369_13 : pm_code 369 13 = some (.iconst 1, 14) := pm_of cl369_0 5 (q := (13, .iconst 1, 14)) rfl
theorem c369_14 : pm_code 369 14 = some (.goto 4, 17) := pm_of cl369_0 6 (q := (14, .goto 4, 17)) rfl
theorem c369_17 : pm_code 369 17 = some (.iconst 0, 18) := pm_of cl369_0 7 (q := (17, .iconst 0, 18)) rfl
theorem c369_18 : pm_code 369 18 = some (.ireturn, 19) := pm_of cl369_0 8 (q := (18, .ireturn, 19)) rfl
theorem k370 : pm_k 370 = 17 := by decide +kernel
theorem ml370 : pm_ml 370 = 2 := by decide +kernel
theorem rt370 : pm_rt 370 = (some .char) := by decide +kernel
theorem hh370 : pm_hh 370 = [] := by decide +kernel
theorem cl370_0 : ([(0, .iload_n 1, 1), (1, .aload_n 0, 2), (2, .arraylength, 3), (3, .invokestatic 9, 6), (6, .aload_n 0, 7), (7, .iload_n 1, 8), (8, .baload, 9), (9, .sipush 255, 12), (12, .iand, 13), (13, .i2c, 14), (14, .ireturn, 15)] : List (Nat × Instr × Nat)).all (fun q => decide (pm_code 370 q.1 = some q.2)) = true := by decide +kernel
theorem c370_0 : pm_code 370 0 = some (.iload_n 1, 1) := pm_of cl370_0 0 (q := (0, .iload_n 1, 1)) rfl
theorem c370_1 : pm_code 370 1 = some (.aload_n 0, 2) := pm_of cl370_0 1 (q := (1, .aload_n 0, 2)) rfl
theorem c370_2 : pm_code 370 2 = some (.arraylength, 3) := pm_of cl370_0 2 (q := (2, .arraylength, 3)) rfl
theorem c370_3 : pm_code 370 3 = some (.invokestatic 9, 6) := pm_of cl370_0 3 (q := (3, .invokestatic 9, 6)) rfl
theorem c370_6 : pm_code 370 6 = some (.aload_n 0, 7) := pm_of cl370_0 4 (q := (6, .aload_n 0, 7)) rfl
theorem c370_7 : pm_code 370 7 = some (.iload_n 1, 8) := pm_of cl370_0 5 (q := (7, .iload_n 1, 8)) rfl
theorem c370_8 : pm_code 370 8 = some (.baload, 9) := pm_of cl370_0 6 (q := (8, .baload, 9)) rfl
theorem c370_9 : pm_code 370 9 = some (.sipush 255, 12) := pm_of cl370_0 7 (q := (9, .sipush 255, 12)) rfl
theorem c370_12 : pm_code 370 12 = some (.iand, 13) := pm_of cl370_0 8 (q := (12, .iand, 13)) rfl
theorem c370_13 : pm_code 370 13 = some (.i2c, 14) := pm_of cl370_0 9 (q := (13, .i2c, 14)) rfl
theorem c370_14 : pm_code 370 14 = some (.ireturn, 15) := pm_of cl370_0 10 (q := (14, .ireturn, 15)) rfl
theorem k371 : pm_k 371 = 16 := by decide +kernel
theorem ml371 : pm_ml 371 = 2 := by decide +kernel
theorem rt371 : pm_rt 371 = none := by decide +kernel
theorem hh371 : pm_hh 371 = [] := by decide +kernel
theorem rc371 : pm_cl 16 = (pm_y 371).cls := by decide +kernel
theorem cl371_0 : ([(0, .iload_n 0, 1), (1, .iload_n 1, 2), (2, .getstatic 1053, 5), (5, .invokestatic 1059, 8), (8, .pop, 9), (9, .return_, 10)] : List (Nat × Instr × Nat)).all (fun q => decide (pm_code 371 q.1 = some q.2)) = true := by decide +kernel
theorem c371_0 : pm_code 371 0 = some (.iload_n 0, 1) := pm_of cl371_0 0 (q := (0, .iload_n 0, 1)) rfl
theorem c371_1 : pm_code 371 1 = some (.iload_n 1, 2) := pm_of cl371_0 1 (q := (1, .iload_n 1, 2)) rfl
theorem c371_2 : pm_code 371 2 = some (.getstatic 1053, 5) := pm_of cl371_0 2 (q := (2, .getstatic 1053, 5)) rfl
theorem c371_5 : pm_code 371 5 = some (.invokestatic 1059, 8) := pm_of cl371_0 3 (q := (5, .invokestatic 1059, 8)) rfl
theorem c371_8 : pm_code 371 8 = some (.pop, 9) := pm_of cl371_0 4 (q := (8, .pop, 9)) rfl
theorem c371_9 : pm_code 371 9 = some (.return_, 10) := pm_of cl371_0 5 (q := (9, .return_, 10)) rfl
theorem k372 : pm_k 372 = 18 := by decide +kernel
theorem ml372 : pm_ml 372 = 3 := by decide +kernel
theorem rt372 : pm_rt 372 = (some .int) := by decide +kernel
theorem hh372 : pm_hh 372 = [] := by decide +kernel
theorem cl372_0 : ([(0, .iload_n 0, 1), (1, .ifCond .lt 8, 4), (4, .iload_n 0, 5), (5, .iload_n 1, 6), (6, .if_icmp .lt 10, 9), (9, .aload_n 2, 10), (10, .iload_n 0, 11), (11, .iload_n 1, 12), (12, .invokestatic 95, 15), (15, .athrow, 16), (16, .iload_n 0, 17), (17, .ireturn, 18)] : List (Nat × Instr × Nat)).all (fun q => decide (pm_code 372 q.1 = some q.2)) = true := by decide +kernel
theorem c372_0 : pm_code 372 0 = some (.iload_n 0, 1) := pm_of cl372_0 0 (q := (0, .iload_n 0, 1)) rfl
theorem c372_1 : pm_code 372 1 = some (.ifCond .lt 8, 4) := pm_of cl372_0 1 (q := (1, .ifCond .lt 8, 4)) rfl
theorem c372_4 : pm_code 372 4 = some (.iload_n 0, 5) := pm_of cl372_0 2 (q := (4, .iload_n 0, 5)) rfl
theorem c372_5 : pm_code 372 5 = some (.iload_n 1, 6) := pm_of cl372_0 3 (q := (5, .iload_n 1, 6)) rfl
theorem c372_6 : pm_code 372 6 = some (.if_icmp .lt 10, 9) := pm_of cl372_0 4 (q := (6, .if_icmp .lt 10, 9)) rfl
theorem c372_9 : pm_code 372 9 = some (.aload_n 2, 10) := pm_of cl372_0 5 (q := (9, .aload_n 2, 10)) rfl
theorem c372_10 : pm_code 372 10 = some (.iload_n 0, 11) := pm_of cl372_0 6 (q := (10, .iload_n 0, 11)) rfl
theorem c372_11 : pm_code 372 11 = some (.iload_n 1, 12) := pm_of cl372_0 7 (q := (11, .iload_n 1, 12)) rfl
theorem c372_12 : pm_code 372 12 = some (.invokestatic 95, 15) := pm_of cl372_0 8 (q := (12, .invokestatic 95, 15)) rfl
theorem c372_15 : pm_code 372 15 = some (.athrow, 16) := pm_of cl372_0 9 (q := (15, .athrow, 16)) rfl
theorem c372_16 : pm_code 372 16 = some (.iload_n 0, 17) := pm_of cl372_0 10 (q := (16, .iload_n 0, 17)) rfl
theorem c372_17 : pm_code 372 17 = some (.ireturn, 18) := pm_of cl372_0 11 (q := (17, .ireturn, 18)) rfl
