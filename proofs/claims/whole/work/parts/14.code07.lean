/-! WHAT STANDS AT EVERY PLACE, ON -/
theorem k288 : pm_k 288 = 12 := by decide +kernel
theorem ml288 : pm_ml 288 = 3 := by decide +kernel
theorem rt288 : pm_rt 288 = (some .int) := by decide +kernel
theorem hh288 : pm_hh 288 = [] := by decide +kernel
theorem rc288 : pm_cl 12 = (pm_y 288).cls := by decide +kernel
theorem cl288_0 : ([(0, .aload_n 0, 1), (1, .iconst 0, 2), (2, .putfield 3, 5), (5, .aload_n 0, 6), (6, .iload_n 1, 7), (7, .iconst 1, 8), (8, .invokevirtual 407, 11), (11, .ifCond .eq 12, 14), (14, .aload_n 0, 15), (15, .iload_n 2, 16), (16, .iconst 1, 17), (17, .invokevirtual 404, 20), (20, .ifCond .ne 5, 23), (23, .iconst 0, 24), (24, .ireturn, 25), (25, .aload_n 0, 26), (26, .invokevirtual 330, 29), (29, .aload_n 0, 30), (30, .iload_n 1, 31), (31, .iload_n 2, 32), (32, .invokevirtual 413, 35), (35, .ireturn, 36)] : List (Nat × Instr × Nat)).all (fun q => decide (pm_code 288 q.1 = some q.2)) = true := by decide +kernel
theorem c288_0 : pm_code 288 0 = some (.aload_n 0, 1) := pm_of cl288_0 0 (q := (0, .aload_n 0, 1)) rfl
theorem c288_1 : pm_code 288 1 = some (.iconst 0, 2) := pm_of cl288_0 1 (q := (1, .iconst 0, 2)) rfl
theorem c288_2 : pm_code 288 2 = some (.putfield 3, 5) := pm_of cl288_0 2 (q := (2, .putfield 3, 5)) rfl
theorem c288_5 : pm_code 288 5 = some (.aload_n 0, 6) := pm_of cl288_0 3 (q := (5, .aload_n 0, 6)) rfl
theorem c288_6 : pm_code 288 6 = some (.iload_n 1, 7) := pm_of cl288_0 4 (q := (6, .iload_n 1, 7)) rfl
theorem c288_7 : pm_code 288 7 = some (.iconst 1, 8) := pm_of cl288_0 5 (q := (7, .iconst 1, 8)) rfl
theorem c288_8 : pm_code 288 8 = some (.invokevirtual 407, 11) := pm_of cl288_0 6 (q := (8, .invokevirtual 407, 11)) rfl
theorem c288_11 : pm_code 288 11 = some (.ifCond .eq 12, 14) := pm_of cl288_0 7 (q := (11, .ifCond .eq 12, 14)) rfl
theorem c288_14 : pm_code 288 14 = some (.aload_n 0, 15) := pm_of cl288_0 8 (q := (14, .aload_n 0, 15)) rfl
theorem c288_15 : pm_code 288 15 = some (.iload_n 2, 16) := pm_of cl288_0 9 (q := (15, .iload_n 2, 16)) rfl
theorem c288_16 : pm_code 288 16 = some (.iconst 1, 17) := pm_of cl288_0 10 (q := (16, .iconst 1, 17)) rfl
theorem c288_17 : pm_code 288 17 = some (.invokevirtual 404, 20) := pm_of cl288_0 11 (q := (17, .invokevirtual 404, 20)) rfl
theorem c288_20 : pm_code 288 20 = some (.ifCond .ne 5, 23) := pm_of cl288_0 12 (q := (20, .ifCond .ne 5, 23)) rfl
theorem c288_23 : pm_code 288 23 = some (.iconst 0, 24) := pm_of cl288_0 13 (q := (23, .iconst 0, 24)) rfl
theorem c288_24 : pm_code 288 24 = some (.ireturn, 25) := pm_of cl288_0 14 (q := (24, .ireturn, 25)) rfl
theorem c288_25 : pm_code 288 25 = some (.aload_n 0, 26) := pm_of cl288_0 15 (q := (25, .aload_n 0, 26)) rfl
theorem c288_26 : pm_code 288 26 = some (.invokevirtual 330, 29) := pm_of cl288_0 16 (q := (26, .invokevirtual 330, 29)) rfl
theorem c288_29 : pm_code 288 29 = some (.aload_n 0, 30) := pm_of cl288_0 17 (q := (29, .aload_n 0, 30)) rfl
theorem c288_30 : pm_code 288 30 = some (.iload_n 1, 31) := pm_of cl288_0 18 (q := (30, .iload_n 1, 31)) rfl
theorem c288_31 : pm_code 288 31 = some (.iload_n 2, 32) := pm_of cl288_0 19 (q := (31, .iload_n 2, 32)) rfl
theorem c288_32 : pm_code 288 32 = some (.invokevirtual 413, 35) := pm_of cl288_0 20 (q := (32, .invokevirtual 413, 35)) rfl
theorem c288_35 : pm_code 288 35 = some (.ireturn, 36) := pm_of cl288_0 21 (q := (35, .ireturn, 36)) rfl
theorem k289 : pm_k 289 = 12 := by decide +kernel
theorem ml289 : pm_ml 289 = 4 := by decide +kernel
theorem rt289 : pm_rt 289 = (some .int) := by decide +kernel
theorem hh289 : pm_hh 289 = [] := by decide +kernel
theorem rc289 : pm_cl 12 = (pm_y 289).cls := by decide +kernel
theorem cl289_0 : ([(0, .aload_n 0, 1), (1, .getfield 32, 4), (4, .iconst 3, 5), (5, .iload_n 1, 6), (6, .imul, 7), (7, .iconst 1, 8), (8, .iadd, 9), (9, .iaload, 10), (10, .aload_n 0, 11), (11, .iload_n 2, 12), (12, .invokevirtual 380, 15), (15, .imul, 16), (16, .bipush 52, 18), (18, .idiv, 19), (19, .istore_n 3, 20), (20, .aload_n 0, 21), (21, .getfield 32, 24), (24, .iconst 3, 25), (25, .iload_n 1, 26), (26, .imul, 27), (27, .iaload, 28), (28, .aload_n 0, 29), (29, .getfield 29, 32), (32, .iconst 4, 33), (33, .iload_n 2, 34), (34, .imul, 35), (35, .iconst 1, 36), (36, .iadd, 37), (37, .iaload, 38), (38, .if_icmp .ne 7, 41), (41, .iload_n 3, 42), (42, .goto 6, 45), (45, .iload_n 3, 46), (46, .iconst 2, 47), (47, .idiv, 48), (48, .ireturn, 49)] : List (Nat × Instr × Nat)).all (fun q => decide (pm_code 289 q.1 = some q.2)) = true := by decide +kernel
theorem c289_0 : pm_code 289 0 = some (.aload_n 0, 1) := pm_of cl289_0 0 (q := (0, .aload_n 0, 1)) rfl
theorem c289_1 : pm_code 289 1 = some (.getfield 32, 4) := pm_of cl289_0 1 (q := (1, .getfield 32, 4)) rfl
theorem c289_4 : pm_code 289 4 = some (.iconst 3, 5) := pm_of cl289_0 2 (q := (4, .iconst 3, 5)) rfl
theorem c289_5 : pm_code 289 5 = some (.iload_n 1, 6) := pm_of cl289_0 3 (q := (5, .iload_n 1, 6)) rfl
theorem c289_6 : pm_code 289 6 = some (.imul, 7) := pm_of cl289_0 4 (q := (6, .imul, 7)) rfl
theorem c289_7 : pm_code 289 7 = some (.iconst 1, 8) := pm_of cl289_0 5 (q := (7, .iconst 1, 8)) rfl
theorem c289_8 : pm_code 289 8 = some (.iadd, 9) := pm_of cl289_0 6 (q := (8, .iadd, 9)) rfl
theorem c289_9 : pm_code 289 9 = some (.iaload, 10) := pm_of cl289_0 7 (q := (9, .iaload, 10)) rfl
theorem c289_10 : pm_code 289 10 = some (.aload_n 0, 11) := pm_of cl289_0 8 (q := (10, .aload_n 0, 11)) rfl
theorem c289_11 : pm_code 289 11 = some (.iload_n 2, 12) := pm_of cl289_0 9 (q := (11, .iload_n 2, 12)) rfl
theorem c289_12 : pm_code 289 12 = some (.invokevirtual 380, 15) := pm_of cl289_0 10 (q := (12, .invokevirtual 380, 15)) rfl
theorem c289_15 : pm_code 289 15 = some (.imul, 16) := pm_of cl289_0 11 (q := (15, .imul, 16)) rfl
theorem c289_16 : pm_code 289 16 = some (.bipush 52, 18) := pm_of cl289_0 12 (q := (16, .bipush 52, 18)) rfl
theorem c289_18 : pm_code 289 18 = some (.idiv, 19) := pm_of cl289_0 13 (q := (18, .idiv, 19)) rfl
theorem c289_19 : pm_code 289 19 = some (.istore_n 3, 20) := pm_of cl289_0 14 (q := (19, .istore_n 3, 20)) rfl
theorem c289_20 : pm_code 289 20 = some (.aload_n 0, 21) := pm_of cl289_0 15 (q := (20, .aload_n 0, 21)) rfl
theorem c289_21 : pm_code 289 21 = some (.getfield 32, 24) := pm_of cl289_0 16 (q := (21, .getfield 32, 24)) rfl
theorem c289_24 : pm_code 289 24 = some (.iconst 3, 25) := pm_of cl289_0 17 (q := (24, .iconst 3, 25)) rfl
theorem c289_25 : pm_code 289 25 = some (.iload_n 1, 26) := pm_of cl289_0 18 (q := (25, .iload_n 1, 26)) rfl
theorem c289_26 : pm_code 289 26 = some (.imul, 27) := pm_of cl289_0 19 (q := (26, .imul, 27)) rfl
theorem c289_27 : pm_code 289 27 = some (.iaload, 28) := pm_of cl289_0 20 (q := (27, .iaload, 28)) rfl
theorem c289_28 : pm_code 289 28 = some (.aload_n 0, 29) := pm_of cl289_0 21 (q := (28, .aload_n 0, 29)) rfl
theorem c289_29 : pm_code 289 29 = some (.getfield 29, 32) := pm_of cl289_0 22 (q := (29, .getfield 29, 32)) rfl
theorem c289_32 : pm_code 289 32 = some (.iconst 4, 33) := pm_of cl289_0 23 (q := (32, .iconst 4, 33)) rfl
theorem c289_33 : pm_code 289 33 = some (.iload_n 2, 34) := pm_of cl289_0 24 (q := (33, .iload_n 2, 34)) rfl
theorem c289_34 : pm_code 289 34 = some (.imul, 35) := pm_of cl289_0 25 (q := (34, .imul, 35)) rfl
theorem c289_35 : pm_code 289 35 = some (.iconst 1, 36) := pm_of cl289_0 26 (q := (35, .iconst 1, 36)) rfl
theorem c289_36 : pm_code 289 36 = some (.iadd, 37) := pm_of cl289_0 27 (q := (36, .iadd, 37)) rfl
theorem c289_37 : pm_code 289 37 = some (.iaload, 38) := pm_of cl289_0 28 (q := (37, .iaload, 38)) rfl
theorem c289_38 : pm_code 289 38 = some (.if_icmp .ne 7, 41) := pm_of cl289_0 29 (q := (38, .if_icmp .ne 7, 41)) rfl
theorem c289_41 : pm_code 289 41 = some (.iload_n 3, 42) := pm_of cl289_0 30 (q := (41, .iload_n 3, 42)) rfl
theorem c289_42 : pm_code 289 42 = some (.goto 6, 45) := pm_of cl289_0 31 (q := (42, .goto 6, 45)) rfl
theorem c289_45 : pm_code 289 45 = some (.iload_n 3, 46) := pm_of cl289_0 32 (q := (45, .iload_n 3, 46)) rfl
theorem c289_46 : pm_code 289 46 = some (.iconst 2, 47) := pm_of cl289_0 33 (q := (46, .iconst 2, 47)) rfl
theorem c289_47 : pm_code 289 47 = some (.idiv, 48) := pm_of cl289_0 34 (q := (47, .idiv, 48)) rfl
theorem c289_48 : pm_code 289 48 = some (.ireturn, 49) := pm_of cl289_0 35 (q := (48, .ireturn, 49)) rfl
theorem k290 : pm_k 290 = 12 := by decide +kernel
theorem ml290 : pm_ml 290 = 4 := by decide +kernel
theorem rt290 : pm_rt 290 = (some .int) := by decide +kernel
theorem hh290 : pm_hh 290 = [] := by decide +kernel
theorem rc290 : pm_cl 12 = (pm_y 290).cls := by decide +kernel
theorem cl290_0 : ([(0, .aload_n 0, 1), (1, .iconst 0, 2), (2, .putfield 3, 5), (5, .aload_n 0, 6), (6, .iload_n 1, 7), (7, .iconst 0, 8), (8, .iconst 1, 9), (9, .invokestatic 290, 12), (12, .iconst 1, 13), (13, .iconst 1, 14), (14, .invokevirtual 207, 17), (17, .ifCond .ne 5, 20), (20, .iconst 0, 21), (21, .ireturn, 22), (22, .aload_n 0, 23), (23, .invokevirtual 425, 26), (26, .iload_n 1, 27), (27, .ifCond .ne 8, 30), (30, .aload_n 0, 31), (31, .getfield 416, 34), (34, .ireturn, 35), (35, .iconst 0, 36), (36, .istore_n 2, 37), (37, .iconst 0, 38), (38, .istore_n 3, 39), (39, .iload_n 3, 40), (40, .aload_n 0, 41), (41, .getfield 169, 44), (44, .if_icmp .ge 27, 47), (47, .iload_n 2, 48), (48, .aload_n 0, 49), (49, .getfield 86, 52), (52, .iload_n 3, 53), (53, .iaload, 54), (54, .iconst (-1), 55), (55, .if_icmp .ne 7, 58), (58, .iconst 0, 59), (59, .goto 4, 62), (62, .iconst 1, 63), (63, .iadd, 64)] : List (Nat × Instr × Nat)).all (fun q => decide (pm_code 290 q.1 = some q.2)) = true := by decide +kernel
theorem c290_0 : pm_code 290 0 = some (.aload_n 0, 1) := pm_of cl290_0 0 (q := (0, .aload_n 0, 1)) rfl
theorem c290_1 : pm_code 290 1 = some (.iconst 0, 2) := pm_of cl290_0 1 (q := (1, .iconst 0, 2)) rfl
theorem c290_2 : pm_code 290 2 = some (.putfield 3, 5) := pm_of cl290_0 2 (q := (2, .putfield 3, 5)) rfl
theorem c290_5 : pm_code 290 5 = some (.aload_n 0, 6) := pm_of cl290_0 3 (q := (5, .aload_n 0, 6)) rfl
theorem c290_6 : pm_code 290 6 = some (.iload_n 1, 7) := pm_of cl290_0 4 (q := (6, .iload_n 1, 7)) rfl
theorem c290_7 : pm_code 290 7 = some (.iconst 0, 8) := pm_of cl290_0 5 (q := (7, .iconst 0, 8)) rfl
theorem c290_8 : pm_code 290 8 = some (.iconst 1, 9) := pm_of cl290_0 6 (q := (8, .iconst 1, 9)) rfl
theorem c290_9 : pm_code 290 9 = some (.invokestatic 290, 12) := pm_of cl290_0 7 (q := (9, .invokestatic 290, 12)) rfl
theorem c290_12 : pm_code 290 12 = some (.iconst 1, 13) := pm_of cl290_0 8 (q := (12, .iconst 1, 13)) rfl
theorem c290_13 : pm_code 290 13 = some (.iconst 1, 14) := pm_of cl290_0 9 (q := (13, .iconst 1, 14)) rfl
theorem c290_14 : pm_code 290 14 = some (.invokevirtual 207, 17) := pm_of cl290_0 10 (q := (14, .invokevirtual 207, 17)) rfl
theorem c290_17 : pm_code 290 17 = some (.ifCond .ne 5, 20) := pm_of cl290_0 11 (q := (17, .ifCond .ne 5, 20)) rfl
theorem c290_20 : pm_code 290 20 = some (.iconst 0, 21) := pm_of cl290_0 12 (q := (20, .iconst 0, 21)) rfl
theorem c290_21 : pm_code 290 21 = some (.ireturn, 22) := pm_of cl290_0 13 (q := (21, .ireturn, 22)) rfl
theorem c290_22 : pm_code 290 22 = some (.aload_n 0, 23) := pm_of cl290_0 14 (q := (22, .aload_n 0, 23)) rfl
theorem c290_23 : pm_code 290 23 = some (.invokevirtual 425, 26) := pm_of cl290_0 15 (q := (23, .invokevirtual 425, 26)) rfl
theorem c290_26 : pm_code 290 26 = some (.iload_n 1, 27) := pm_of cl290_0 16 (q := (26, .iload_n 1, 27)) rfl
theorem c290_27 : pm_code 290 27 = some (.ifCond .ne 8, 30) := pm_of cl290_0 17 (q := (27, .ifCond .ne 8, 30)) rfl
theorem c290_30 : pm_code 290 30 = some (.aload_n 0, 31) := pm_of cl290_0 18 (q := (30, .aload_n 0, 31)) rfl
theorem c290_31 : pm_code 290 31 = some (.getfield 416, 34) := pm_of cl290_0 19 (q := (31, .getfield 416, 34)) rfl
theorem c290_34 : pm_code 290 34 = some (.ireturn, 35) := pm_of cl290_0 20 (q := (34, .ireturn, 35)) rfl
theorem c290_35 : pm_code 290 35 = some (.iconst 0, 36) := pm_of cl290_0 21 (q := (35, .iconst 0, 36)) rfl
theorem c290_36 : pm_code 290 36 = some (.istore_n 2, 37) := pm_of cl290_0 22 (q := (36, .istore_n 2, 37)) rfl
theorem c290_37 : pm_code 290 37 = some (.iconst 0, 38) := pm_of cl290_0 23 (q := (37, .iconst 0, 38)) rfl
theorem c290_38 : pm_code 290 38 = some (.istore_n 3, 39) := pm_of cl290_0 24 (q := (38, .istore_n 3, 39)) rfl
theorem c290_39 : pm_code 290 39 = some (.iload_n 3, 40) := pm_of cl290_0 25 (q := (39, .iload_n 3, 40)) rfl
theorem c290_40 : pm_code 290 40 = some (.aload_n 0, 41) := pm_of cl290_0 26 (q := (40, .aload_n 0, 41)) rfl
theorem c290_41 : pm_code 290 41 = some (.getfield 169, 44) := pm_of cl290_0 27 (q := (41, .getfield 169, 44)) rfl
theorem c290_44 : pm_code 290 44 = some (.if_icmp .ge 27, 47) := pm_of cl290_0 28 (q := (44, .if_icmp .ge 27, 47)) rfl
theorem c290_47 : pm_code 290 47 = some (.iload_n 2, 48) := pm_of cl290_0 29 (q := (47, .iload_n 2, 48)) rfl
theorem c290_48 : pm_code 290 48 = some (.aload_n 0, 49) := pm_of cl290_0 30 (q := (48, .aload_n 0, 49)) rfl
theorem c290_49 : pm_code 290 49 = some (.getfield 86, 52) := pm_of cl290_0 31 (q := (49, .getfield 86, 52)) rfl
theorem c290_52 : pm_code 290 52 = some (.iload_n 3, 53) := pm_of cl290_0 32 (q := (52, .iload_n 3, 53)) rfl
theorem c290_53 : pm_code 290 53 = some (.iaload, 54) := pm_of cl290_0 33 (q := (53, .iaload, 54)) rfl
theorem c290_54 : pm_code 290 54 = some (.iconst (-1), 55) := pm_of cl290_0 34 (q := (54, .iconst (-1), 55)) rfl
theorem c290_55 : pm_code 290 55 = some (.if_icmp .ne 7, 58) := pm_of cl290_0 35 (q := (55, .if_icmp .ne 7, 58)) rfl
theorem c290_58 : pm_code 290 58 = some (.iconst 0, 59) := pm_of cl290_0 36 (q := (58, .iconst 0, 59)) rfl
theorem c290_59 : pm_code 290 59 = some (.goto 4, 62) := pm_of cl290_0 37 (q := (59, .goto 4, 62)) rfl
theorem c290_62 : pm_code 290 62 = some (.iconst 1, 63) := pm_of cl290_0 38 (q := (62, .iconst 1, 63)) rfl
theorem c290_63 : pm_code 290 63 = some (.iadd, 64) := pm_of cl290_0 39 (q := (63, .iadd, 64)) rfl
theorem cl290_1 : ([(64, .istore_n 2, 65), (65, .iinc 3 1, 68), (68, .goto (-29), 71), (71, .iload_n 2, 72), (72, .ireturn, 73)] : List (Nat × Instr × Nat)).all (fun q => decide (pm_code 290 q.1 = some q.2)) = true := by decide +kernel
theorem c290_64 : pm_code 290 64 = some (.istore_n 2, 65) := pm_of cl290_1 0 (q := (64, .istore_n 2, 65)) rfl
theorem c290_65 : pm_code 290 65 = some (.iinc 3 1, 68) := pm_of cl290_1 1 (q := (65, .iinc 3 1, 68)) rfl
theorem c290_68 : pm_code 290 68 = some (.goto (-29), 71) := pm_of cl290_1 2 (q := (68, .goto (-29), 71)) rfl
theorem c290_71 : pm_code 290 71 = some (.iload_n 2, 72) := pm_of cl290_1 3 (q := (71, .iload_n 2, 72)) rfl
theorem c290_72 : pm_code 290 72 = some (.ireturn, 73) := pm_of cl290_1 4 (q := (72, .ireturn, 73)) rfl
theorem k291 : pm_k 291 = 12 := by decide +kernel
theorem ml291 : pm_ml 291 = 3 := by decide +kernel
theorem rt291 : pm_rt 291 = none := by decide +kernel
theorem hh291 : pm_hh 291 = [] := by decide +kernel
theorem rc291 : pm_cl 12 = (pm_y 291).cls := by decide +kernel
theorem cl291_0 : ([(0, .aload_n 0, 1), (1, .invokevirtual 330, 4), (4, .iconst 0, 5), (5, .istore_n 1, 6), (6, .iload_n 1, 7), (7, .aload_n 0, 8), (8, .getfield 172, 11), (11, .if_icmp .ge 64, 14), (14, .aload_n 0, 15), (15, .getfield 80, 18), (18, .iload_n 1, 19), (19, .aload_n 0, 20), (20, .getfield 32, 23), (23, .iconst 3, 24), (24, .iload_n 1, 25), (25, .imul, 26), (26, .iconst 2, 27), (27, .iadd, 28), (28, .iaload, 29), (29, .aload_n 0, 30), (30, .iload_n 1, 31), (31, .invokevirtual 377, 34), (34, .isub, 35), (35, .iastore, 36), (36, .iconst 0, 37), (37, .istore_n 2, 38), (38, .iload_n 2, 39), (39, .aload_n 0, 40), (40, .getfield 169, 43), (43, .if_icmp .ge 26, 46), (46, .aload_n 0, 47), (47, .getfield 77, 50), (50, .bipush 8, 52), (52, .iload_n 1, 53), (53, .imul, 54), (54, .iload_n 2, 55), (55, .iadd, 56), (56, .aload_n 0, 57), (57, .iload_n 1, 58), (58, .iload_n 2, 59)] : List (Nat × Instr × Nat)).all (fun q => decide (pm_code 291 q.1 = some q.2)) = true := by decide +kernel
theorem c291_0 : pm_code 291 0 = some (.aload_n 0, 1) := pm_of cl291_0 0 (q := (0, .aload_n 0, 1)) rfl
theorem c291_1 : pm_code 291 1 = some (.invokevirtual 330, 4) := pm_of cl291_0 1 (q := (1, .invokevirtual 330, 4)) rfl
theorem c291_4 : pm_code 291 4 = some (.iconst 0, 5) := pm_of cl291_0 2 (q := (4, .iconst 0, 5)) rfl
theorem c291_5 : pm_code 291 5 = some (.istore_n 1, 6) := pm_of cl291_0 3 (q := (5, .istore_n 1, 6)) rfl
theorem c291_6 : pm_code 291 6 = some (.iload_n 1, 7) := pm_of cl291_0 4 (q := (6, .iload_n 1, 7)) rfl
theorem c291_7 : pm_code 291 7 = some (.aload_n 0, 8) := pm_of cl291_0 5 (q := (7, .aload_n 0, 8)) rfl
theorem c291_8 : pm_code 291 8 = some (.getfield 172, 11) := pm_of cl291_0 6 (q := (8, .getfield 172, 11)) rfl
theorem c291_11 : pm_code 291 11 = some (.if_icmp .ge 64, 14) := pm_of cl291_0 7 (q := (11, .if_icmp .ge 64, 14)) rfl
theorem c291_14 : pm_code 291 14 = some (.aload_n 0, 15) := pm_of cl291_0 8 (q := (14, .aload_n 0, 15)) rfl
theorem c291_15 : pm_code 291 15 = some (.getfield 80, 18) := pm_of cl291_0 9 (q := (15, .getfield 80, 18)) rfl
theorem c291_18 : pm_code 291 18 = some (.iload_n 1, 19) := pm_of cl291_0 10 (q := (18, .iload_n 1, 19)) rfl
theorem c291_19 : pm_code 291 19 = some (.aload_n 0, 20) := pm_of cl291_0 11 (q := (19, .aload_n 0, 20)) rfl
theorem c291_20 : pm_code 291 20 = some (.getfield 32, 23) := pm_of cl291_0 12 (q := (20, .getfield 32, 23)) rfl
theorem c291_23 : pm_code 291 23 = some (.iconst 3, 24) := pm_of cl291_0 13 (q := (23, .iconst 3, 24)) rfl
theorem c291_24 : pm_code 291 24 = some (.iload_n 1, 25) := pm_of cl291_0 14 (q := (24, .iload_n 1, 25)) rfl
theorem c291_25 : pm_code 291 25 = some (.imul, 26) := pm_of cl291_0 15 (q := (25, .imul, 26)) rfl
theorem c291_26 : pm_code 291 26 = some (.iconst 2, 27) := pm_of cl291_0 16 (q := (26, .iconst 2, 27)) rfl
theorem c291_27 : pm_code 291 27 = some (.iadd, 28) := pm_of cl291_0 17 (q := (27, .iadd, 28)) rfl
theorem c291_28 : pm_code 291 28 = some (.iaload, 29) := pm_of cl291_0 18 (q := (28, .iaload, 29)) rfl
theorem c291_29 : pm_code 291 29 = some (.aload_n 0, 30) := pm_of cl291_0 19 (q := (29, .aload_n 0, 30)) rfl
theorem c291_30 : pm_code 291 30 = some (.iload_n 1, 31) := pm_of cl291_0 20 (q := (30, .iload_n 1, 31)) rfl
theorem c291_31 : pm_code 291 31 = some (.invokevirtual 377, 34) := pm_of cl291_0 21 (q := (31, .invokevirtual 377, 34)) rfl
theorem c291_34 : pm_code 291 34 = some (.isub, 35) := pm_of cl291_0 22 (q := (34, .isub, 35)) rfl
theorem c291_35 : pm_code 291 35 = some (.iastore, 36) := pm_of cl291_0 23 (q := (35, .iastore, 36)) rfl
theorem c291_36 : pm_code 291 36 = some (.iconst 0, 37) := pm_of cl291_0 24 (q := (36, .iconst 0, 37)) rfl
theorem c291_37 : pm_code 291 37 = some (.istore_n 2, 38) := pm_of cl291_0 25 (q := (37, .istore_n 2, 38)) rfl
theorem c291_38 : pm_code 291 38 = some (.iload_n 2, 39) := pm_of cl291_0 26 (q := (38, .iload_n 2, 39)) rfl
theorem c291_39 : pm_code 291 39 = some (.aload_n 0, 40) := pm_of cl291_0 27 (q := (39, .aload_n 0, 40)) rfl
theorem c291_40 : pm_code 291 40 = some (.getfield 169, 43) := pm_of cl291_0 28 (q := (40, .getfield 169, 43)) rfl
theorem c291_43 : pm_code 291 43 = some (.if_icmp .ge 26, 46) := pm_of cl291_0 29 (q := (43, .if_icmp .ge 26, 46)) rfl
theorem c291_46 : pm_code 291 46 = some (.aload_n 0, 47) := pm_of cl291_0 30 (q := (46, .aload_n 0, 47)) rfl
theorem c291_47 : pm_code 291 47 = some (.getfield 77, 50) := pm_of cl291_0 31 (q := (47, .getfield 77, 50)) rfl
theorem c291_50 : pm_code 291 50 = some (.bipush 8, 52) := pm_of cl291_0 32 (q := (50, .bipush 8, 52)) rfl
theorem c291_52 : pm_code 291 52 = some (.iload_n 1, 53) := pm_of cl291_0 33 (q := (52, .iload_n 1, 53)) rfl
theorem c291_53 : pm_code 291 53 = some (.imul, 54) := pm_of cl291_0 34 (q := (53, .imul, 54)) rfl
theorem c291_54 : pm_code 291 54 = some (.iload_n 2, 55) := pm_of cl291_0 35 (q := (54, .iload_n 2, 55)) rfl
theorem c291_55 : pm_code 291 55 = some (.iadd, 56) := pm_of cl291_0 36 (q := (55, .iadd, 56)) rfl
theorem c291_56 : pm_code 291 56 = some (.aload_n 0, 57) := pm_of cl291_0 37 (q := (56, .aload_n 0, 57)) rfl
theorem c291_57 : pm_code 291 57 = some (.iload_n 1, 58) := pm_of cl291_0 38 (q := (57, .iload_n 1, 58)) rfl
theorem c291_58 : pm_code 291 58 = some (.iload_n 2, 59) := pm_of cl291_0 39 (q := (58, .iload_n 2, 59)) rfl
theorem cl291_1 : ([(59, .invokevirtual 413, 62), (62, .iastore, 63), (63, .iinc 2 1, 66), (66, .goto (-28), 69), (69, .iinc 1 1, 72), (72, .goto (-66), 75), (75, .aload_n 0, 76), (76, .iconst (-1), 77), (77, .putfield 416, 80), (80, .aload_n 0, 81), (81, .iconst 0, 82), (82, .iconst 0, 83), (83, .invokevirtual 419, 86), (86, .return_, 87)] : List (Nat × Instr × Nat)).all (fun q => decide (pm_code 291 q.1 = some q.2)) = true := by decide +kernel
theorem c291_59 : pm_code 291 59 = some (.invokevirtual 413, 62) := pm_of cl291_1 0 (q := (59, .invokevirtual 413, 62)) rfl
theorem c291_62 : pm_code 291 62 = some (.iastore, 63) := pm_of cl291_1 1 (q := (62, .iastore, 63)) rfl
theorem c291_63 : pm_code 291 63 = some (.iinc 2 1, 66) := pm_of cl291_1 2 (q := (63, .iinc 2 1, 66)) rfl
theorem c291_66 : pm_code 291 66 = some (.goto (-28), 69) := pm_of cl291_1 3 (q := (66, .goto (-28), 69)) rfl
theorem c291_69 : pm_code 291 69 = some (.iinc 1 1, 72) := pm_of cl291_1 4 (q := (69, .iinc 1 1, 72)) rfl
theorem c291_72 : pm_code 291 72 = some (.goto (-66), 75) := pm_of cl291_1 5 (q := (72, .goto (-66), 75)) rfl
theorem c291_75 : pm_code 291 75 = some (.aload_n 0, 76) := pm_of cl291_1 6 (q := (75, .aload_n 0, 76)) rfl
theorem c291_76 : pm_code 291 76 = some (.iconst (-1), 77) := pm_of cl291_1 7 (q := (76, .iconst (-1), 77)) rfl
theorem c291_77 : pm_code 291 77 = some (.putfield 416, 80) := pm_of cl291_1 8 (q := (77, .putfield 416, 80)) rfl
theorem c291_80 : pm_code 291 80 = some (.aload_n 0, 81) := pm_of cl291_1 9 (q := (80, .aload_n 0, 81)) rfl
theorem c291_81 : pm_code 291 81 = some (.iconst 0, 82) := pm_of cl291_1 10 (q := (81, .iconst 0, 82)) rfl
theorem c291_82 : pm_code 291 82 = some (.iconst 0, 83) := pm_of cl291_1 11 (q := (82, .iconst 0, 83)) rfl
theorem c291_83 : pm_code 291 83 = some (.invokevirtual 419, 86) := pm_of cl291_1 12 (q := (83, .invokevirtual 419, 86)) rfl
theorem c291_86 : pm_code 291 86 = some (.return_, 87) := pm_of cl291_1 13 (q := (86, .return_, 87)) rfl
theorem k292 : pm_k 292 = 12 := by decide +kernel
theorem ml292 : pm_ml 292 = 4 := by decide +kernel
theorem rt292 : pm_rt 292 = none := by decide +kernel
theorem hh292 : pm_hh 292 = [] := by decide +kernel
theorem rc292 : pm_cl 12 = (pm_y 292).cls := by decide +kernel
theorem cl292_0 : ([(0, .iload_n 1, 1), (1, .aload_n 0, 2), (2, .getfield 169, 5), (5, .if_icmp .ne 32, 8), (8, .iload_n 2, 9), (9, .aload_n 0, 10), (10, .getfield 416, 13), (13, .if_icmp .gt 4, 16), (16, .return_, 17), (17, .aload_n 0, 18), (18, .iload_n 2, 19), (19, .putfield 416, 22), (22, .aload_n 0, 23), (23, .aload_n 0, 24), (24, .getfield 83, 27), (27, .aload_n 0, 28), (28, .getfield 86, 31), (31, .bipush 8, 33), (33, .invokevirtual 178, 36), (36, .return_, 37), (37, .aload_n 0, 38), (38, .getfield 65, 41), (41, .iconst 0, 42), (42, .iload_n 1, 43), (43, .iadd, 44), (44, .iaload, 45), (45, .iconst 1, 46), (46, .if_icmp .eq 19, 49), (49, .aload_n 0, 50), (50, .getfield 83, 53), (53, .iload_n 1, 54), (54, .iconst (-1), 55), (55, .iastore, 56), (56, .aload_n 0, 57), (57, .iload_n 1, 58), (58, .iconst 1, 59), (59, .iadd, 60), (60, .iload_n 2, 61), (61, .invokevirtual 419, 64), (64, .return_, 65)] : List (Nat × Instr × Nat)).all (fun q => decide (pm_code 292 q.1 = some q.2)) = true := by decide +kernel
theorem c292_0 : pm_code 292 0 = some (.iload_n 1, 1) := pm_of cl292_0 0 (q := (0, .iload_n 1, 1)) rfl
theorem c292_1 : pm_code 292 1 = some (.aload_n 0, 2) := pm_of cl292_0 1 (q := (1, .aload_n 0, 2)) rfl
theorem c292_2 : pm_code 292 2 = some (.getfield 169, 5) := pm_of cl292_0 2 (q := (2, .getfield 169, 5)) rfl
theorem c292_5 : pm_code 292 5 = some (.if_icmp .ne 32, 8) := pm_of cl292_0 3 (q := (5, .if_icmp .ne 32, 8)) rfl
theorem c292_8 : pm_code 292 8 = some (.iload_n 2, 9) := pm_of cl292_0 4 (q := (8, .iload_n 2, 9)) rfl
theorem c292_9 : pm_code 292 9 = some (.aload_n 0, 10) := pm_of cl292_0 5 (q := (9, .aload_n 0, 10)) rfl
theorem c292_10 : pm_code 292 10 = some (.getfield 416, 13) := pm_of cl292_0 6 (q := (10, .getfield 416, 13)) rfl
theorem c292_13 : pm_code 292 13 = some (.if_icmp .gt 4, 16) := pm_of cl292_0 7 (q := (13, .if_icmp .gt 4, 16)) rfl
theorem c292_16 : pm_code 292 16 = some (.return_, 17) := pm_of cl292_0 8 (q := (16, .return_, 17)) rfl
theorem c292_17 : pm_code 292 17 = some (.aload_n 0, 18) := pm_of cl292_0 9 (q := (17, .aload_n 0, 18)) rfl
theorem c292_18 : pm_code 292 18 = some (.iload_n 2, 19) := pm_of cl292_0 10 (q := (18, .iload_n 2, 19)) rfl
theorem c292_19 : pm_code 292 19 = some (.putfield 416, 22) := pm_of cl292_0 11 (q := (19, .putfield 416, 22)) rfl
theorem c292_22 : pm_code 292 22 = some (.aload_n 0, 23) := pm_of cl292_0 12 (q := (22, .aload_n 0, 23)) rfl
theorem c292_23 : pm_code 292 23 = some (.aload_n 0, 24) := pm_of cl292_0 13 (q := (23, .aload_n 0, 24)) rfl
theorem c292_24 : pm_code 292 24 = some (.getfield 83, 27) := pm_of cl292_0 14 (q := (24, .getfield 83, 27)) rfl
theorem c292_27 : pm_code 292 27 = some (.aload_n 0, 28) := pm_of cl292_0 15 (q := (27, .aload_n 0, 28)) rfl
theorem c292_28 : pm_code 292 28 = some (.getfield 86, 31) := pm_of cl292_0 16 (q := (28, .getfield 86, 31)) rfl
theorem c292_31 : pm_code 292 31 = some (.bipush 8, 33) := pm_of cl292_0 17 (q := (31, .bipush 8, 33)) rfl
theorem c292_33 : pm_code 292 33 = some (.invokevirtual 178, 36) := pm_of cl292_0 18 (q := (33, .invokevirtual 178, 36)) rfl
theorem c292_36 : pm_code 292 36 = some (.return_, 37) := pm_of cl292_0 19 (q := (36, .return_, 37)) rfl
theorem c292_37 : pm_code 292 37 = some (.aload_n 0, 38) := pm_of cl292_0 20 (q := (37, .aload_n 0, 38)) rfl
theorem c292_38 : pm_code 292 38 = some (.getfield 65, 41) := pm_of cl292_0 21 (q := (38, .getfield 65, 41)) rfl
theorem c292_41 : pm_code 292 41 = some (.iconst 0, 42) := pm_of cl292_0 22 (q := (41, .iconst 0, 42)) rfl
theorem c292_42 : pm_code 292 42 = some (.iload_n 1, 43) := pm_of cl292_0 23 (q := (42, .iload_n 1, 43)) rfl
theorem c292_43 : pm_code 292 43 = some (.iadd, 44) := pm_of cl292_0 24 (q := (43, .iadd, 44)) rfl
theorem c292_44 : pm_code 292 44 = some (.iaload, 45) := pm_of cl292_0 25 (q := (44, .iaload, 45)) rfl
theorem c292_45 : pm_code 292 45 = some (.iconst 1, 46) := pm_of cl292_0 26 (q := (45, .iconst 1, 46)) rfl
theorem c292_46 : pm_code 292 46 = some (.if_icmp .eq 19, 49) := pm_of cl292_0 27 (q := (46, .if_icmp .eq 19, 49)) rfl
theorem c292_49 : pm_code 292 49 = some (.aload_n 0, 50) := pm_of cl292_0 28 (q := (49, .aload_n 0, 50)) rfl
theorem c292_50 : pm_code 292 50 = some (.getfield 83, 53) := pm_of cl292_0 29 (q := (50, .getfield 83, 53)) rfl
theorem c292_53 : pm_code 292 53 = some (.iload_n 1, 54) := pm_of cl292_0 30 (q := (53, .iload_n 1, 54)) rfl
theorem c292_54 : pm_code 292 54 = some (.iconst (-1), 55) := pm_of cl292_0 31 (q := (54, .iconst (-1), 55)) rfl
theorem c292_55 : pm_code 292 55 = some (.iastore, 56) := pm_of cl292_0 32 (q := (55, .iastore, 56)) rfl
theorem c292_56 : pm_code 292 56 = some (.aload_n 0, 57) := pm_of cl292_0 33 (q := (56, .aload_n 0, 57)) rfl
theorem c292_57 : pm_code 292 57 = some (.iload_n 1, 58) := pm_of cl292_0 34 (q := (57, .iload_n 1, 58)) rfl
theorem c292_58 : pm_code 292 58 = some (.iconst 1, 59) := pm_of cl292_0 35 (q := (58, .iconst 1, 59)) rfl
theorem c292_59 : pm_code 292 59 = some (.iadd, 60) := pm_of cl292_0 36 (q := (59, .iadd, 60)) rfl
theorem c292_60 : pm_code 292 60 = some (.iload_n 2, 61) := pm_of cl292_0 37 (q := (60, .iload_n 2, 61)) rfl
theorem c292_61 : pm_code 292 61 = some (.invokevirtual 419, 64) := pm_of cl292_0 38 (q := (61, .invokevirtual 419, 64)) rfl
theorem c292_64 : pm_code 292 64 = some (.return_, 65) := pm_of cl292_0 39 (q := (64, .return_, 65)) rfl
theorem cl292_1 : ([(65, .iconst (-1), 66), (66, .istore_n 3, 67), (67, .iload_n 3, 68), (68, .aload_n 0, 69), (69, .getfield 172, 72), (72, .if_icmp .ge 87, 75), (75, .aload_n 0, 76), (76, .iload_n 1, 77), (77, .iload_n 3, 78), (78, .invokevirtual 422, 81), (81, .ifCond .ne 6, 84), (84, .goto 69, 87), (87, .aload_n 0, 88), (88, .getfield 83, 91), (91, .iload_n 1, 92), (92, .iload_n 3, 93), (93, .iastore, 94), (94, .iload_n 3, 95), (95, .iconst (-1), 96), (96, .if_icmp .eq 13, 99), (99, .aload_n 0, 100), (100, .getfield 80, 103), (103, .iload_n 3, 104), (104, .dup2, 105), (105, .iaload, 106), (106, .iconst 1, 107), (107, .isub, 108), (108, .iastore, 109), (109, .aload_n 0, 110), (110, .iload_n 1, 111), (111, .iconst 1, 112), (112, .iadd, 113), (113, .iload_n 3, 114), (114, .iconst (-1), 115), (115, .if_icmp .ne 7, 118), (118, .iload_n 2, 119), (119, .goto 16, 122), (122, .iload_n 2, 123), (123, .aload_n 0, 124), (124, .getfield 77, 127)] : List (Nat × Instr × Nat)).all (fun q => decide (pm_code 292 q.1 = some q.2)) = true := by decide +kernel
theorem c292_65 : pm_code 292 65 = some (.iconst (-1), 66) := pm_of cl292_1 0 (q := (65, .iconst (-1), 66)) rfl
theorem c292_66 : pm_code 292 66 = some (.istore_n 3, 67) := pm_of cl292_1 1 (q := (66, .istore_n 3, 67)) rfl
theorem c292_67 : pm_code 292 67 = some (.iload_n 3, 68) := pm_of cl292_1 2 (q := (67, .iload_n 3, 68)) rfl
theorem c292_68 : pm_code 292 68 = some (.aload_n 0, 69) := pm_of cl292_1 3 (q := (68, .aload_n 0, 69)) rfl
theorem c292_69 : pm_code 292 69 = some (.getfield 172, 72) := pm_of cl292_1 4 (q := (69, .getfield 172, 72)) rfl
theorem c292_72 : pm_code 292 72 = some (.if_icmp .ge 87, 75) := pm_of cl292_1 5 (q := (72, .if_icmp .ge 87, 75)) rfl
theorem c292_75 : pm_code 292 75 = some (.aload_n 0, 76) := pm_of cl292_1 6 (q := (75, .aload_n 0, 76)) rfl
theorem c292_76 : pm_code 292 76 = some (.iload_n 1, 77) := pm_of cl292_1 7 (q := (76, .iload_n 1, 77)) rfl
theorem c292_77 : pm_code 292 77 = some (.iload_n 3, 78) := pm_of cl292_1 8 (q := (77, .iload_n 3, 78)) rfl
theorem c292_78 : pm_code 292 78 = some (.invokevirtual 422, 81) := pm_of cl292_1 9 (q := (78, .invokevirtual 422, 81)) rfl
theorem c292_81 : pm_code 292 81 = some (.ifCond .ne 6, 84) := pm_of cl292_1 10 (q := (81, .ifCond .ne 6, 84)) rfl
theorem c292_84 : pm_code 292 84 = some (.goto 69, 87) := pm_of cl292_1 11 (q := (84, .goto 69, 87)) rfl
theorem c292_87 : pm_code 292 87 = some (.aload_n 0, 88) := pm_of cl292_1 12 (q := (87, .aload_n 0, 88)) rfl
theorem c292_88 : pm_code 292 88 = some (.getfield 83, 91) := pm_of cl292_1 13 (q := (88, .getfield 83, 91)) rfl
theorem c292_91 : pm_code 292 91 = some (.iload_n 1, 92) := pm_of cl292_1 14 (q := (91, .iload_n 1, 92)) rfl
theorem c292_92 : pm_code 292 92 = some (.iload_n 3, 93) := pm_of cl292_1 15 (q := (92, .iload_n 3, 93)) rfl
theorem c292_93 : pm_code 292 93 = some (.iastore, 94) := pm_of cl292_1 16 (q := (93, .iastore, 94)) rfl
theorem c292_94 : pm_code 292 94 = some (.iload_n 3, 95) := pm_of cl292_1 17 (q := (94, .iload_n 3, 95)) rfl
theorem c292_95 : pm_code 292 95 = some (.iconst (-1), 96) := pm_of cl292_1 18 (q := (95, .iconst (-1), 96)) rfl
theorem c292_96 : pm_code 292 96 = some (.if_icmp .eq 13, 99) := pm_of cl292_1 19 (q := (96, .if_icmp .eq 13, 99)) rfl
theorem c292_99 : pm_code 292 99 = some (.aload_n 0, 100) := pm_of cl292_1 20 (q := (99, .aload_n 0, 100)) rfl
theorem c292_100 : pm_code 292 100 = some (.getfield 80, 103) := pm_of cl292_1 21 (q := (100, .getfield 80, 103)) rfl
theorem c292_103 : pm_code 292 103 = some (.iload_n 3, 104) := pm_of cl292_1 22 (q := (103, .iload_n 3, 104)) rfl
theorem c292_104 : pm_code 292 104 = some (.dup2, 105) := pm_of cl292_1 23 (q := (104, .dup2, 105)) rfl
theorem c292_105 : pm_code 292 105 = some (.iaload, 106) := pm_of cl292_1 24 (q := (105, .iaload, 106)) rfl
theorem c292_106 : pm_code 292 106 = some (.iconst 1, 107) := pm_of cl292_1 25 (q := (106, .iconst 1, 107)) rfl
theorem c292_107 : pm_code 292 107 = some (.isub, 108) := pm_of cl292_1 26 (q := (107, .isub, 108)) rfl
theorem c292_108 : pm_code 292 108 = some (.iastore, 109) := pm_of cl292_1 27 (q := (108, .iastore, 109)) rfl
theorem c292_109 : pm_code 292 109 = some (.aload_n 0, 110) := pm_of cl292_1 28 (q := (109, .aload_n 0, 110)) rfl
theorem c292_110 : pm_code 292 110 = some (.iload_n 1, 111) := pm_of cl292_1 29 (q := (110, .iload_n 1, 111)) rfl
theorem c292_111 : pm_code 292 111 = some (.iconst 1, 112) := pm_of cl292_1 30 (q := (111, .iconst 1, 112)) rfl
theorem c292_112 : pm_code 292 112 = some (.iadd, 113) := pm_of cl292_1 31 (q := (112, .iadd, 113)) rfl
theorem c292_113 : pm_code 292 113 = some (.iload_n 3, 114) := pm_of cl292_1 32 (q := (113, .iload_n 3, 114)) rfl
theorem c292_114 : pm_code 292 114 = some (.iconst (-1), 115) := pm_of cl292_1 33 (q := (114, .iconst (-1), 115)) rfl
theorem c292_115 : pm_code 292 115 = some (.if_icmp .ne 7, 118) := pm_of cl292_1 34 (q := (115, .if_icmp .ne 7, 118)) rfl
theorem c292_118 : pm_code 292 118 = some (.iload_n 2, 119) := pm_of cl292_1 35 (q := (118, .iload_n 2, 119)) rfl
theorem c292_119 : pm_code 292 119 = some (.goto 16, 122) := pm_of cl292_1 36 (q := (119, .goto 16, 122)) rfl
theorem c292_122 : pm_code 292 122 = some (.iload_n 2, 123) := pm_of cl292_1 37 (q := (122, .iload_n 2, 123)) rfl
theorem c292_123 : pm_code 292 123 = some (.aload_n 0, 124) := pm_of cl292_1 38 (q := (123, .aload_n 0, 124)) rfl
theorem c292_124 : pm_code 292 124 = some (.getfield 77, 127) := pm_of cl292_1 39 (q := (124, .getfield 77, 127)) rfl
theorem cl292_2 : ([(127, .bipush 8, 129), (129, .iload_n 3, 130), (130, .imul, 131), (131, .iload_n 1, 132), (132, .iadd, 133), (133, .iaload, 134), (134, .iadd, 135), (135, .invokevirtual 419, 138), (138, .iload_n 3, 139), (139, .iconst (-1), 140), (140, .if_icmp .eq 13, 143), (143, .aload_n 0, 144), (144, .getfield 80, 147), (147, .iload_n 3, 148), (148, .dup2, 149), (149, .iaload, 150), (150, .iconst 1, 151), (151, .iadd, 152), (152, .iastore, 153), (153, .iinc 3 1, 156), (156, .goto (-89), 159), (159, .return_, 160)] : List (Nat × Instr × Nat)).all (fun q => decide (pm_code 292 q.1 = some q.2)) = true := by decide +kernel
theorem c292_127 : pm_code 292 127 = some (.bipush 8, 129) := pm_of cl292_2 0 (q := (127, .bipush 8, 129)) rfl
theorem c292_129 : pm_code 292 129 = some (.iload_n 3, 130) := pm_of cl292_2 1 (q := (129, .iload_n 3, 130)) rfl
theorem c292_130 : pm_code 292 130 = some (.imul, 131) := pm_of cl292_2 2 (q := (130, .imul, 131)) rfl
theorem c292_131 : pm_code 292 131 = some (.iload_n 1, 132) := pm_of cl292_2 3 (q := (131, .iload_n 1, 132)) rfl
theorem c292_132 : pm_code 292 132 = some (.iadd, 133) := pm_of cl292_2 4 (q := (132, .iadd, 133)) rfl
theorem c292_133 : pm_code 292 133 = some (.iaload, 134) := pm_of cl292_2 5 (q := (133, .iaload, 134)) rfl
theorem c292_134 : pm_code 292 134 = some (.iadd, 135) := pm_of cl292_2 6 (q := (134, .iadd, 135)) rfl
theorem c292_135 : pm_code 292 135 = some (.invokevirtual 419, 138) := pm_of cl292_2 7 (q := (135, .invokevirtual 419, 138)) rfl
theorem c292_138 : pm_code 292 138 = some (.iload_n 3, 139) := pm_of cl292_2 8 (q := (138, .iload_n 3, 139)) rfl
theorem c292_139 : pm_code 292 139 = some (.iconst (-1), 140) := pm_of cl292_2 9 (q := (139, .iconst (-1), 140)) rfl
theorem c292_140 : pm_code 292 140 = some (.if_icmp .eq 13, 143) := pm_of cl292_2 10 (q := (140, .if_icmp .eq 13, 143)) rfl
theorem c292_143 : pm_code 292 143 = some (.aload_n 0, 144) := pm_of cl292_2 11 (q := (143, .aload_n 0, 144)) rfl
theorem c292_144 : pm_code 292 144 = some (.getfield 80, 147) := pm_of cl292_2 12 (q := (144, .getfield 80, 147)) rfl
theorem c292_147 : pm_code 292 147 = some (.iload_n 3, 148) := pm_of cl292_2 13 (q := (147, .iload_n 3, 148)) rfl
theorem c292_148 : pm_code 292 148 = some (.dup2, 149) := pm_of cl292_2 14 (q := (148, .dup2, 149)) rfl
theorem c292_149 : pm_code 292 149 = some (.iaload, 150) := pm_of cl292_2 15 (q := (149, .iaload, 150)) rfl
theorem c292_150 : pm_code 292 150 = some (.iconst 1, 151) := pm_of cl292_2 16 (q := (150, .iconst 1, 151)) rfl
theorem c292_151 : pm_code 292 151 = some (.iadd, 152) := pm_of cl292_2 17 (q := (151, .iadd, 152)) rfl
theorem c292_152 : pm_code 292 152 = some (.iastore, 153) := pm_of cl292_2 18 (q := (152, .iastore, 153)) rfl
theorem c292_153 : pm_code 292 153 = some (.iinc 3 1, 156) := pm_of cl292_2 19 (q := (153, .iinc 3 1, 156)) rfl
theorem c292_156 : pm_code 292 156 = some (.goto (-89), 159) := pm_of cl292_2 20 (q := (156, .goto (-89), 159)) rfl
theorem c292_159 : pm_code 292 159 = some (.return_, 160) := pm_of cl292_2 21 (q := (159, .return_, 160)) rfl
theorem k293 : pm_k 293 = 12 := by decide +kernel
theorem ml293 : pm_ml 293 = 4 := by decide +kernel
theorem rt293 : pm_rt 293 = (some .boolean) := by decide +kernel
theorem hh293 : pm_hh 293 = [] := by decide +kernel
theorem rc293 : pm_cl 12 = (pm_y 293).cls := by decide +kernel
theorem cl293_0 : ([(0, .iconst 0, 1), (1, .istore_n 3, 2), (2, .iload_n 3, 3), (3, .iload_n 1, 4), (4, .if_icmp .ge 42, 7), (7, .aload_n 0, 8), (8, .iload_n 3, 9), (9, .iload_n 1, 10), (10, .invokevirtual 357, 13), (13, .ifCond .eq 27, 16), (16, .aload_n 0, 17), (17, .getfield 65, 20), (20, .iconst 0, 21), (21, .iload_n 3, 22), (22, .iadd, 23), (23, .iaload, 24), (24, .iconst 1, 25), (25, .if_icmp .ne 15, 28), (28, .aload_n 0, 29), (29, .getfield 83, 32), (32, .iload_n 3, 33), (33, .iaload, 34), (34, .iload_n 2, 35), (35, .if_icmp .eq 5, 38), (38, .iconst 0, 39), (39, .ireturn, 40), (40, .iinc 3 1, 43), (43, .goto (-41), 46), (46, .iload_n 2, 47), (47, .iconst (-1), 48), (48, .if_icmp .eq 12, 51), (51, .aload_n 0, 52), (52, .getfield 80, 55), (55, .iload_n 2, 56), (56, .iaload, 57), (57, .ifCond .le 7, 60), (60, .iconst 1, 61), (61, .goto 4, 64), (64, .iconst 0, 65), (65, .ireturn, 66)] : List (Nat × Instr × Nat)).all (fun q => decide (pm_code 293 q.1 = some q.2)) = true := by decide +kernel
theorem c293_0 : pm_code 293 0 = some (.iconst 0, 1) := pm_of cl293_0 0 (q := (0, .iconst 0, 1)) rfl
theorem c293_1 : pm_code 293 1 = some (.istore_n 3, 2) := pm_of cl293_0 1 (q := (1, .istore_n 3, 2)) rfl
theorem c293_2 : pm_code 293 2 = some (.iload_n 3, 3) := pm_of cl293_0 2 (q := (2, .iload_n 3, 3)) rfl
theorem c293_3 : pm_code 293 3 = some (.iload_n 1, 4) := pm_of cl293_0 3 (q := (3, .iload_n 1, 4)) rfl
theorem c293_4 : pm_code 293 4 = some (.if_icmp .ge 42, 7) := pm_of cl293_0 4 (q := (4, .if_icmp .ge 42, 7)) rfl
theorem c293_7 : pm_code 293 7 = some (.aload_n 0, 8) := pm_of cl293_0 5 (q := (7, .aload_n 0, 8)) rfl
theorem c293_8 : pm_code 293 8 = some (.iload_n 3, 9) := pm_of cl293_0 6 (q := (8, .iload_n 3, 9)) rfl
theorem c293_9 : pm_code 293 9 = some (.iload_n 1, 10) := pm_of cl293_0 7 (q := (9, .iload_n 1, 10)) rfl
theorem c293_10 : pm_code 293 10 = some (.invokevirtual 357, 13) := pm_of cl293_0 8 (q := (10, .invokevirtual 357, 13)) rfl
theorem c293_13 : pm_code 293 13 = some (.ifCond .eq 27, 16) := pm_of cl293_0 9 (q := (13, .ifCond .eq 27, 16)) rfl
theorem c293_16 : pm_code 293 16 = some (.aload_n 0, 17) := pm_of cl293_0 10 (q := (16, .aload_n 0, 17)) rfl
theorem c293_17 : pm_code 293 17 = some (.getfield 65, 20) := pm_of cl293_0 11 (q := (17, .getfield 65, 20)) rfl
theorem c293_20 : pm_code 293 20 = some (.iconst 0, 21) := pm_of cl293_0 12 (q := (20, .iconst 0, 21)) rfl
theorem c293_21 : pm_code 293 21 = some (.iload_n 3, 22) := pm_of cl293_0 13 (q := (21, .iload_n 3, 22)) rfl
theorem c293_22 : pm_code 293 22 = some (.iadd, 23) := pm_of cl293_0 14 (q := (22, .iadd, 23)) rfl
theorem c293_23 : pm_code 293 23 = some (.iaload, 24) := pm_of cl293_0 15 (q := (23, .iaload, 24)) rfl
theorem c293_24 : pm_code 293 24 = some (.iconst 1, 25) := pm_of cl293_0 16 (q := (24, .iconst 1, 25)) rfl
theorem c293_25 : pm_code 293 25 = some (.if_icmp .ne 15, 28) := pm_of cl293_0 17 (q := (25, .if_icmp .ne 15, 28)) rfl
theorem c293_28 : pm_code 293 28 = some (.aload_n 0, 29) := pm_of cl293_0 18 (q := (28, .aload_n 0, 29)) rfl
theorem c293_29 : pm_code 293 29 = some (.getfield 83, 32) := pm_of cl293_0 19 (q := (29, .getfield 83, 32)) rfl
theorem c293_32 : pm_code 293 32 = some (.iload_n 3, 33) := pm_of cl293_0 20 (q := (32, .iload_n 3, 33)) rfl
theorem c293_33 : pm_code 293 33 = some (.iaload, 34) := pm_of cl293_0 21 (q := (33, .iaload, 34)) rfl
theorem c293_34 : pm_code 293 34 = some (.iload_n 2, 35) := pm_of cl293_0 22 (q := (34, .iload_n 2, 35)) rfl
theorem c293_35 : pm_code 293 35 = some (.if_icmp .eq 5, 38) := pm_of cl293_0 23 (q := (35, .if_icmp .eq 5, 38)) rfl
theorem c293_38 : pm_code 293 38 = some (.iconst 0, 39) := pm_of cl293_0 24 (q := (38, .iconst 0, 39)) rfl
theorem c293_39 : pm_code 293 39 = some (.ireturn, 40) := pm_of cl293_0 25 (q := (39, .ireturn, 40)) rfl
theorem c293_40 : pm_code 293 40 = some (.iinc 3 1, 43) := pm_of cl293_0 26 (q := (40, .iinc 3 1, 43)) rfl
theorem c293_43 : pm_code 293 43 = some (.goto (-41), 46) := pm_of cl293_0 27 (q := (43, .goto (-41), 46)) rfl
theorem c293_46 : pm_code 293 46 = some (.iload_n 2, 47) := pm_of cl293_0 28 (q := (46, .iload_n 2, 47)) rfl
theorem c293_47 : pm_code 293 47 = some (.iconst (-1), 48) := pm_of cl293_0 29 (q := (47, .iconst (-1), 48)) rfl
theorem c293_48 : pm_code 293 48 = some (.if_icmp .eq 12, 51) := pm_of cl293_0 30 (q := (48, .if_icmp .eq 12, 51)) rfl
theorem c293_51 : pm_code 293 51 = some (.aload_n 0, 52) := pm_of cl293_0 31 (q := (51, .aload_n 0, 52)) rfl
theorem c293_52 : pm_code 293 52 = some (.getfield 80, 55) := pm_of cl293_0 32 (q := (52, .getfield 80, 55)) rfl
theorem c293_55 : pm_code 293 55 = some (.iload_n 2, 56) := pm_of cl293_0 33 (q := (55, .iload_n 2, 56)) rfl
theorem c293_56 : pm_code 293 56 = some (.iaload, 57) := pm_of cl293_0 34 (q := (56, .iaload, 57)) rfl
theorem c293_57 : pm_code 293 57 = some (.ifCond .le 7, 60) := pm_of cl293_0 35 (q := (57, .ifCond .le 7, 60)) rfl
theorem c293_60 : pm_code 293 60 = some (.iconst 1, 61) := pm_of cl293_0 36 (q := (60, .iconst 1, 61)) rfl
theorem c293_61 : pm_code 293 61 = some (.goto 4, 64) := pm_of cl293_0 37 (q := (61, .goto 4, 64)) rfl
theorem c293_64 : pm_code 293 64 = some (.iconst 0, 65) := pm_of cl293_0 38 (q := (64, .iconst 0, 65)) rfl
theorem c293_65 : pm_code 293 65 = some (.ireturn, 66) := pm_of cl293_0 39 (q := (65, .ireturn, 66)) rfl
theorem k294 : pm_k 294 = 12 := by decide +kernel
theorem ml294 : pm_ml 294 = 2 := by decide +kernel
theorem rt294 : pm_rt 294 = (some .int) := by decide +kernel
theorem hh294 : pm_hh 294 = [] := by decide +kernel
theorem rc294 : pm_cl 12 = (pm_y 294).cls := by decide +kernel
theorem cl294_0 : ([(0, .aload_n 0, 1), (1, .iconst 0, 2), (2, .putfield 3, 5), (5, .aload_n 0, 6), (6, .iload_n 1, 7), (7, .iconst 1, 8), (8, .invokevirtual 404, 11), (11, .ifCond .ne 5, 14), (14, .iconst 0, 15), (15, .ireturn, 16), (16, .aload_n 0, 17), (17, .invokevirtual 425, 20), (20, .aload_n 0, 21), (21, .getfield 86, 24), (24, .iload_n 1, 25), (25, .iaload, 26), (26, .ireturn, 27)] : List (Nat × Instr × Nat)).all (fun q => decide (pm_code 294 q.1 = some q.2)) = true := by decide +kernel
theorem c294_0 : pm_code 294 0 = some (.aload_n 0, 1) := pm_of cl294_0 0 (q := (0, .aload_n 0, 1)) rfl
theorem c294_1 : pm_code 294 1 = some (.iconst 0, 2) := pm_of cl294_0 1 (q := (1, .iconst 0, 2)) rfl
theorem c294_2 : pm_code 294 2 = some (.putfield 3, 5) := pm_of cl294_0 2 (q := (2, .putfield 3, 5)) rfl
theorem c294_5 : pm_code 294 5 = some (.aload_n 0, 6) := pm_of cl294_0 3 (q := (5, .aload_n 0, 6)) rfl
theorem c294_6 : pm_code 294 6 = some (.iload_n 1, 7) := pm_of cl294_0 4 (q := (6, .iload_n 1, 7)) rfl
theorem c294_7 : pm_code 294 7 = some (.iconst 1, 8) := pm_of cl294_0 5 (q := (7, .iconst 1, 8)) rfl
theorem c294_8 : pm_code 294 8 = some (.invokevirtual 404, 11) := pm_of cl294_0 6 (q := (8, .invokevirtual 404, 11)) rfl
theorem c294_11 : pm_code 294 11 = some (.ifCond .ne 5, 14) := pm_of cl294_0 7 (q := (11, .ifCond .ne 5, 14)) rfl
theorem c294_14 : pm_code 294 14 = some (.iconst 0, 15) := pm_of cl294_0 8 (q := (14, .iconst 0, 15)) rfl
theorem c294_15 : pm_code 294 15 = some (.ireturn, 16) := pm_of cl294_0 9 (q := (15, .ireturn, 16)) rfl
theorem c294_16 : pm_code 294 16 = some (.aload_n 0, 17) := pm_of cl294_0 10 (q := (16, .aload_n 0, 17)) rfl
theorem c294_17 : pm_code 294 17 = some (.invokevirtual 425, 20) := pm_of cl294_0 11 (q := (17, .invokevirtual 425, 20)) rfl
theorem c294_20 : pm_code 294 20 = some (.aload_n 0, 21) := pm_of cl294_0 12 (q := (20, .aload_n 0, 21)) rfl
theorem c294_21 : pm_code 294 21 = some (.getfield 86, 24) := pm_of cl294_0 13 (q := (21, .getfield 86, 24)) rfl
theorem c294_24 : pm_code 294 24 = some (.iload_n 1, 25) := pm_of cl294_0 14 (q := (24, .iload_n 1, 25)) rfl
theorem c294_25 : pm_code 294 25 = some (.iaload, 26) := pm_of cl294_0 15 (q := (25, .iaload, 26)) rfl
theorem c294_26 : pm_code 294 26 = some (.ireturn, 27) := pm_of cl294_0 16 (q := (26, .ireturn, 27)) rfl
theorem k295 : pm_k 295 = 12 := by decide +kernel
theorem ml295 : pm_ml 295 = 4 := by decide +kernel
theorem rt295 : pm_rt 295 = (some .int) := by decide +kernel
theorem hh295 : pm_hh 295 = [] := by decide +kernel
theorem rc295 : pm_cl 12 = (pm_y 295).cls := by decide +kernel
theorem cl295_0 : ([(0, .aload_n 0, 1), (1, .iconst 0, 2), (2, .putfield 3, 5), (5, .iconst 0, 6), (6, .istore_n 1, 7), (7, .iconst 0, 8), (8, .istore_n 2, 9), (9, .iload_n 2, 10), (10, .aload_n 0, 11), (11, .getfield 169, 14), (14, .if_icmp .ge 84, 17), (17, .iconst 0, 18), (18, .istore_n 3, 19), (19, .iload_n 3, 20), (20, .iload_n 2, 21), (21, .if_icmp .ge 71, 24), (24, .iload_n 1, 25), (25, .aload_n 0, 26), (26, .iload_n 2, 27), (27, .iload_n 3, 28), (28, .invokevirtual 357, 31), (31, .ifCond .eq 52, 34), (34, .aload_n 0, 35), (35, .getfield 62, 38), (38, .iconst 0, 39), (39, .iload_n 2, 40), (40, .iadd, 41), (41, .iaload, 42), (42, .iconst 2, 43), (43, .if_icmp .ne 40, 46), (46, .aload_n 0, 47), (47, .getfield 62, 50), (50, .iconst 0, 51), (51, .iload_n 3, 52), (52, .iadd, 53), (53, .iaload, 54), (54, .iconst 2, 55), (55, .if_icmp .ne 28, 58), (58, .aload_n 0, 59), (59, .getfield 62, 62)] : List (Nat × Instr × Nat)).all (fun q => decide (pm_code 295 q.1 = some q.2)) = true := by decide +kernel
theorem c295_0 : pm_code 295 0 = some (.aload_n 0, 1) := pm_of cl295_0 0 (q := (0, .aload_n 0, 1)) rfl
theorem c295_1 : pm_code 295 1 = some (.iconst 0, 2) := pm_of cl295_0 1 (q := (1, .iconst 0, 2)) rfl
theorem c295_2 : pm_code 295 2 = some (.putfield 3, 5) := pm_of cl295_0 2 (q := (2, .putfield 3, 5)) rfl
theorem c295_5 : pm_code 295 5 = some (.iconst 0, 6) := pm_of cl295_0 3 (q := (5, .iconst 0, 6)) rfl
theorem c295_6 : pm_code 295 6 = some (.istore_n 1, 7) := pm_of cl295_0 4 (q := (6, .istore_n 1, 7)) rfl
theorem c295_7 : pm_code 295 7 = some (.iconst 0, 8) := pm_of cl295_0 5 (q := (7, .iconst 0, 8)) rfl
theorem c295_8 : pm_code 295 8 = some (.istore_n 2, 9) := pm_of cl295_0 6 (q := (8, .istore_n 2, 9)) rfl
theorem c295_9 : pm_code 295 9 = some (.iload_n 2, 10) := pm_of cl295_0 7 (q := (9, .iload_n 2, 10)) rfl
theorem c295_10 : pm_code 295 10 = some (.aload_n 0, 11) := pm_of cl295_0 8 (q := (10, .aload_n 0, 11)) rfl
theorem c295_11 : pm_code 295 11 = some (.getfield 169, 14) := pm_of cl295_0 9 (q := (11, .getfield 169, 14)) rfl
theorem c295_14 : pm_code 295 14 = some (.if_icmp .ge 84, 17) := pm_of cl295_0 10 (q := (14, .if_icmp .ge 84, 17)) rfl
theorem c295_17 : pm_code 295 17 = some (.iconst 0, 18) := pm_of cl295_0 11 (q := (17, .iconst 0, 18)) rfl
theorem c295_18 : pm_code 295 18 = some (.istore_n 3, 19) := pm_of cl295_0 12 (q := (18, .istore_n 3, 19)) rfl
theorem c295_19 : pm_code 295 19 = some (.iload_n 3, 20) := pm_of cl295_0 13 (q := (19, .iload_n 3, 20)) rfl
theorem c295_20 : pm_code 295 20 = some (.iload_n 2, 21) := pm_of cl295_0 14 (q := (20, .iload_n 2, 21)) rfl
theorem c295_21 : pm_code 295 21 = some (.if_icmp .ge 71, 24) := pm_of cl295_0 15 (q := (21, .if_icmp .ge 71, 24)) rfl
theorem c295_24 : pm_code 295 24 = some (.iload_n 1, 25) := pm_of cl295_0 16 (q := (24, .iload_n 1, 25)) rfl
theorem c295_25 : pm_code 295 25 = some (.aload_n 0, 26) := pm_of cl295_0 17 (q := (25, .aload_n 0, 26)) rfl
theorem c295_26 : pm_code 295 26 = some (.iload_n 2, 27) := pm_of cl295_0 18 (q := (26, .iload_n 2, 27)) rfl
theorem c295_27 : pm_code 295 27 = some (.iload_n 3, 28) := pm_of cl295_0 19 (q := (27, .iload_n 3, 28)) rfl
theorem c295_28 : pm_code 295 28 = some (.invokevirtual 357, 31) := pm_of cl295_0 20 (q := (28, .invokevirtual 357, 31)) rfl
theorem c295_31 : pm_code 295 31 = some (.ifCond .eq 52, 34) := pm_of cl295_0 21 (q := (31, .ifCond .eq 52, 34)) rfl
theorem c295_34 : pm_code 295 34 = some (.aload_n 0, 35) := pm_of cl295_0 22 (q := (34, .aload_n 0, 35)) rfl
theorem c295_35 : pm_code 295 35 = some (.getfield 62, 38) := pm_of cl295_0 23 (q := (35, .getfield 62, 38)) rfl
theorem c295_38 : pm_code 295 38 = some (.iconst 0, 39) := pm_of cl295_0 24 (q := (38, .iconst 0, 39)) rfl
theorem c295_39 : pm_code 295 39 = some (.iload_n 2, 40) := pm_of cl295_0 25 (q := (39, .iload_n 2, 40)) rfl
theorem c295_40 : pm_code 295 40 = some (.iadd, 41) := pm_of cl295_0 26 (q := (40, .iadd, 41)) rfl
theorem c295_41 : pm_code 295 41 = some (.iaload, 42) := pm_of cl295_0 27 (q := (41, .iaload, 42)) rfl
theorem c295_42 : pm_code 295 42 = some (.iconst 2, 43) := pm_of cl295_0 28 (q := (42, .iconst 2, 43)) rfl
theorem c295_43 : pm_code 295 43 = some (.if_icmp .ne 40, 46) := pm_of cl295_0 29 (q := (43, .if_icmp .ne 40, 46)) rfl
theorem c295_46 : pm_code 295 46 = some (.aload_n 0, 47) := pm_of cl295_0 30 (q := (46, .aload_n 0, 47)) rfl
theorem c295_47 : pm_code 295 47 = some (.getfield 62, 50) := pm_of cl295_0 31 (q := (47, .getfield 62, 50)) rfl
theorem c295_50 : pm_code 295 50 = some (.iconst 0, 51) := pm_of cl295_0 32 (q := (50, .iconst 0, 51)) rfl
theorem c295_51 : pm_code 295 51 = some (.iload_n 3, 52) := pm_of cl295_0 33 (q := (51, .iload_n 3, 52)) rfl
theorem c295_52 : pm_code 295 52 = some (.iadd, 53) := pm_of cl295_0 34 (q := (52, .iadd, 53)) rfl
theorem c295_53 : pm_code 295 53 = some (.iaload, 54) := pm_of cl295_0 35 (q := (53, .iaload, 54)) rfl
theorem c295_54 : pm_code 295 54 = some (.iconst 2, 55) := pm_of cl295_0 36 (q := (54, .iconst 2, 55)) rfl
theorem c295_55 : pm_code 295 55 = some (.if_icmp .ne 28, 58) := pm_of cl295_0 37 (q := (55, .if_icmp .ne 28, 58)) rfl
theorem c295_58 : pm_code 295 58 = some (.aload_n 0, 59) := pm_of cl295_0 38 (q := (58, .aload_n 0, 59)) rfl
theorem c295_59 : pm_code 295 59 = some (.getfield 62, 62) := pm_of cl295_0 39 (q := (59, .getfield 62, 62)) rfl
theorem cl295_1 : ([(62, .bipush 8, 64), (64, .iload_n 2, 65), (65, .iadd, 66), (66, .iaload, 67), (67, .aload_n 0, 68), (68, .getfield 62, 71), (71, .bipush 8, 73), (73, .iload_n 3, 74), (74, .iadd, 75), (75, .iaload, 76), (76, .if_icmp .eq 7, 79), (79, .iconst 1, 80), (80, .goto 4, 83), (83, .iconst 0, 84), (84, .iadd, 85), (85, .istore_n 1, 86), (86, .iinc 3 1, 89), (89, .goto (-70), 92), (92, .iinc 2 1, 95), (95, .goto (-86), 98), (98, .iload_n 1, 99), (99, .ireturn, 100)] : List (Nat × Instr × Nat)).all (fun q => decide (pm_code 295 q.1 = some q.2)) = true := by decide +kernel
theorem c295_62 : pm_code 295 62 = some (.bipush 8, 64) := pm_of cl295_1 0 (q := (62, .bipush 8, 64)) rfl
theorem c295_64 : pm_code 295 64 = some (.iload_n 2, 65) := pm_of cl295_1 1 (q := (64, .iload_n 2, 65)) rfl
theorem c295_65 : pm_code 295 65 = some (.iadd, 66) := pm_of cl295_1 2 (q := (65, .iadd, 66)) rfl
theorem c295_66 : pm_code 295 66 = some (.iaload, 67) := pm_of cl295_1 3 (q := (66, .iaload, 67)) rfl
theorem c295_67 : pm_code 295 67 = some (.aload_n 0, 68) := pm_of cl295_1 4 (q := (67, .aload_n 0, 68)) rfl
theorem c295_68 : pm_code 295 68 = some (.getfield 62, 71) := pm_of cl295_1 5 (q := (68, .getfield 62, 71)) rfl
theorem c295_71 : pm_code 295 71 = some (.bipush 8, 73) := pm_of cl295_1 6 (q := (71, .bipush 8, 73)) rfl
theorem c295_73 : pm_code 295 73 = some (.iload_n 3, 74) := pm_of cl295_1 7 (q := (73, .iload_n 3, 74)) rfl
theorem c295_74 : pm_code 295 74 = some (.iadd, 75) := pm_of cl295_1 8 (q := (74, .iadd, 75)) rfl
theorem c295_75 : pm_code 295 75 = some (.iaload, 76) := pm_of cl295_1 9 (q := (75, .iaload, 76)) rfl
theorem c295_76 : pm_code 295 76 = some (.if_icmp .eq 7, 79) := pm_of cl295_1 10 (q := (76, .if_icmp .eq 7, 79)) rfl
theorem c295_79 : pm_code 295 79 = some (.iconst 1, 80) := pm_of cl295_1 11 (q := (79, .iconst 1, 80)) rfl
theorem c295_80 : pm_code 295 80 = some (.goto 4, 83) := pm_of cl295_1 12 (q := (80, .goto 4, 83)) rfl
theorem c295_83 : pm_code 295 83 = some (.iconst 0, 84) := pm_of cl295_1 13 (q := (83, .iconst 0, 84)) rfl
theorem c295_84 : pm_code 295 84 = some (.iadd, 85) := pm_of cl295_1 14 (q := (84, .iadd, 85)) rfl
theorem c295_85 : pm_code 295 85 = some (.istore_n 1, 86) := pm_of cl295_1 15 (q := (85, .istore_n 1, 86)) rfl
theorem c295_86 : pm_code 295 86 = some (.iinc 3 1, 89) := pm_of cl295_1 16 (q := (86, .iinc 3 1, 89)) rfl
theorem c295_89 : pm_code 295 89 = some (.goto (-70), 92) := pm_of cl295_1 17 (q := (89, .goto (-70), 92)) rfl
theorem c295_92 : pm_code 295 92 = some (.iinc 2 1, 95) := pm_of cl295_1 18 (q := (92, .iinc 2 1, 95)) rfl
theorem c295_95 : pm_code 295 95 = some (.goto (-86), 98) := pm_of cl295_1 19 (q := (95, .goto (-86), 98)) rfl
theorem c295_98 : pm_code 295 98 = some (.iload_n 1, 99) := pm_of cl295_1 20 (q := (98, .iload_n 1, 99)) rfl
theorem c295_99 : pm_code 295 99 = some (.ireturn, 100) := pm_of cl295_1 21 (q := (99, .ireturn, 100)) rfl
theorem k296 : pm_k 296 = 12 := by decide +kernel
theorem ml296 : pm_ml 296 = 4 := by decide +kernel
theorem rt296 : pm_rt 296 = (some .int) := by decide +kernel
theorem hh296 : pm_hh 296 = [] := by decide +kernel
theorem rc296 : pm_cl 12 = (pm_y 296).cls := by decide +kernel
theorem cl296_0 : ([(0, .aload_n 0, 1), (1, .iconst 0, 2), (2, .putfield 3, 5), (5, .aload_n 0, 6), (6, .iload_n 1, 7), (7, .iconst 1, 8), (8, .invokevirtual 404, 11), (11, .ifCond .ne 5, 14), (14, .iconst 0, 15), (15, .ireturn, 16), (16, .iconst 0, 17), (17, .istore_n 2, 18), (18, .iconst 0, 19), (19, .istore_n 3, 20), (20, .iload_n 3, 21), (21, .aload_n 0, 22), (22, .getfield 169, 25), (25, .if_icmp .ge 28, 28), (28, .iload_n 2, 29), (29, .aload_n 0, 30), (30, .iload_n 1, 31), (31, .iload_n 3, 32), (32, .invokevirtual 357, 35), (35, .ifCond .eq 9, 38), (38, .iconst 1, 39), (39, .iload_n 3, 40), (40, .ishl, 41), (41, .goto 4, 44), (44, .iconst 0, 45), (45, .ior, 46), (46, .istore_n 2, 47), (47, .iinc 3 1, 50), (50, .goto (-30), 53), (53, .iload_n 2, 54), (54, .ireturn, 55)] : List (Nat × Instr × Nat)).all (fun q => decide (pm_code 296 q.1 = some q.2)) = true := by decide +kernel
theorem c296_0 : pm_code 296 0 = some (.aload_n 0, 1) := pm_of cl296_0 0 (q := (0, .aload_n 0, 1)) rfl
theorem c296_1 : pm_code 296 1 = some (.iconst 0, 2) := pm_of cl296_0 1 (q := (1, .iconst 0, 2)) rfl
theorem c296_2 : pm_code 296 2 = some (.putfield 3, 5) := pm_of cl296_0 2 (q := (2, .putfield 3, 5)) rfl
theorem c296_5 : pm_code 296 5 = some (.aload_n 0, 6) := pm_of cl296_0 3 (q := (5, .aload_n 0, 6)) rfl
theorem c296_6 : pm_code 296 6 = some (.iload_n 1, 7) := pm_of cl296_0 4 (q := (6, .iload_n 1, 7)) rfl
theorem c296_7 : pm_code 296 7 = some (.iconst 1, 8) := pm_of cl296_0 5 (q := (7, .iconst 1, 8)) rfl
theorem c296_8 : pm_code 296 8 = some (.invokevirtual 404, 11) := pm_of cl296_0 6 (q := (8, .invokevirtual 404, 11)) rfl
theorem c296_11 : pm_code 296 11 = some (.ifCond .ne 5, 14) := pm_of cl296_0 7 (q := (11, .ifCond .ne 5, 14)) rfl
theorem c296_14 : pm_code 296 14 = some (.iconst 0, 15) := pm_of cl296_0 8 (q := (14, .iconst 0, 15)) rfl
theorem c296_15 : pm_code 296 15 = some (.ireturn, 16) := pm_of cl296_0 9 (q := (15, .ireturn, 16)) rfl
theorem c296_16 : pm_code 296 16 = some (.iconst 0, 17) := pm_of cl296_0 10 (q := (16, .iconst 0, 17)) rfl
theorem c296_17 : pm_code 296 17 = some (.istore_n 2, 18) := pm_of cl296_0 11 (q := (17, .istore_n 2, 18)) rfl
theorem c296_18 : pm_code 296 18 = some (.iconst 0, 19) := pm_of cl296_0 12 (q := (18, .iconst 0, 19)) rfl
theorem c296_19 : pm_code 296 19 = some (.istore_n 3, 20) := pm_of cl296_0 13 (q := (19, .istore_n 3, 20)) rfl
theorem c296_20 : pm_code 296 20 = some (.iload_n 3, 21) := pm_of cl296_0 14 (q := (20, .iload_n 3, 21)) rfl
theorem c296_21 : pm_code 296 21 = some (.aload_n 0, 22) := pm_of cl296_0 15 (q := (21, .aload_n 0, 22)) rfl
theorem c296_22 : pm_code 296 22 = some (.getfield 169, 25) := pm_of cl296_0 16 (q := (22, .getfield 169, 25)) rfl
theorem c296_25 : pm_code 296 25 = some (.if_icmp .ge 28, 28) := pm_of cl296_0 17 (q := (25, .if_icmp .ge 28, 28)) rfl
theorem c296_28 : pm_code 296 28 = some (.iload_n 2, 29) := pm_of cl296_0 18 (q := (28, .iload_n 2, 29)) rfl
theorem c296_29 : pm_code 296 29 = some (.aload_n 0, 30) := pm_of cl296_0 19 (q := (29, .aload_n 0, 30)) rfl
theorem c296_30 : pm_code 296 30 = some (.iload_n 1, 31) := pm_of cl296_0 20 (q := (30, .iload_n 1, 31)) rfl
theorem c296_31 : pm_code 296 31 = some (.iload_n 3, 32) := pm_of cl296_0 21 (q := (31, .iload_n 3, 32)) rfl
theorem c296_32 : pm_code 296 32 = some (.invokevirtual 357, 35) := pm_of cl296_0 22 (q := (32, .invokevirtual 357, 35)) rfl
theorem c296_35 : pm_code 296 35 = some (.ifCond .eq 9, 38) := pm_of cl296_0 23 (q := (35, .ifCond .eq 9, 38)) rfl
theorem c296_38 : pm_code 296 38 = some (.iconst 1, 39) := pm_of cl296_0 24 (q := (38, .iconst 1, 39)) rfl
theorem c296_39 : pm_code 296 39 = some (.iload_n 3, 40) := pm_of cl296_0 25 (q := (39, .iload_n 3, 40)) rfl
theorem c296_40 : pm_code 296 40 = some (.ishl, 41) := pm_of cl296_0 26 (q := (40, .ishl, 41)) rfl
theorem c296_41 : pm_code 296 41 = some (.goto 4, 44) := pm_of cl296_0 27 (q := (41, .goto 4, 44)) rfl
theorem c296_44 : pm_code 296 44 = some (.iconst 0, 45) := pm_of cl296_0 28 (q := (44, .iconst 0, 45)) rfl
theorem c296_45 : pm_code 296 45 = some (.ior, 46) := pm_of cl296_0 29 (q := (45, .ior, 46)) rfl
theorem c296_46 : pm_code 296 46 = some (.istore_n 2, 47) := pm_of cl296_0 30 (q := (46, .istore_n 2, 47)) rfl
theorem c296_47 : pm_code 296 47 = some (.iinc 3 1, 50) := pm_of cl296_0 31 (q := (47, .iinc 3 1, 50)) rfl
theorem c296_50 : pm_code 296 50 = some (.goto (-30), 53) := pm_of cl296_0 32 (q := (50, .goto (-30), 53)) rfl
theorem c296_53 : pm_code 296 53 = some (.iload_n 2, 54) := pm_of cl296_0 33 (q := (53, .iload_n 2, 54)) rfl
theorem c296_54 : pm_code 296 54 = some (.ireturn, 55) := pm_of cl296_0 34 (q := (54, .ireturn, 55)) rfl
theorem k297 : pm_k 297 = 12 := by decide +kernel
theorem ml297 : pm_ml 297 = 2 := by decide +kernel
theorem rt297 : pm_rt 297 = (some .int) := by decide +kernel
theorem hh297 : pm_hh 297 = [] := by decide +kernel
theorem rc297 : pm_cl 12 = (pm_y 297).cls := by decide +kernel
theorem cl297_0 : ([(0, .aload_n 0, 1), (1, .iconst 0, 2), (2, .putfield 3, 5), (5, .aload_n 0, 6), (6, .iload_n 1, 7), (7, .iconst 1, 8), (8, .invokevirtual 404, 11), (11, .ifCond .ne 5, 14), (14, .iconst 0, 15), (15, .ireturn, 16), (16, .aload_n 0, 17), (17, .invokevirtual 330, 20), (20, .aload_n 0, 21), (21, .getfield 65, 24), (24, .iconst 0, 25), (25, .iload_n 1, 26), (26, .iadd, 27), (27, .iaload, 28), (28, .ifCond .ne 7, 31), (31, .iconst (-1), 32), (32, .goto 10, 35), (35, .aload_n 0, 36), (36, .iload_n 1, 37), (37, .invokevirtual 380, 40), (40, .iconst 4, 41), (41, .idiv, 42), (42, .ireturn, 43)] : List (Nat × Instr × Nat)).all (fun q => decide (pm_code 297 q.1 = some q.2)) = true := by decide +kernel
theorem c297_0 : pm_code 297 0 = some (.aload_n 0, 1) := pm_of cl297_0 0 (q := (0, .aload_n 0, 1)) rfl
theorem c297_1 : pm_code 297 1 = some (.iconst 0, 2) := pm_of cl297_0 1 (q := (1, .iconst 0, 2)) rfl
theorem c297_2 : pm_code 297 2 = some (.putfield 3, 5) := pm_of cl297_0 2 (q := (2, .putfield 3, 5)) rfl
theorem c297_5 : pm_code 297 5 = some (.aload_n 0, 6) := pm_of cl297_0 3 (q := (5, .aload_n 0, 6)) rfl
theorem c297_6 : pm_code 297 6 = some (.iload_n 1, 7) := pm_of cl297_0 4 (q := (6, .iload_n 1, 7)) rfl
theorem c297_7 : pm_code 297 7 = some (.iconst 1, 8) := pm_of cl297_0 5 (q := (7, .iconst 1, 8)) rfl
theorem c297_8 : pm_code 297 8 = some (.invokevirtual 404, 11) := pm_of cl297_0 6 (q := (8, .invokevirtual 404, 11)) rfl
theorem c297_11 : pm_code 297 11 = some (.ifCond .ne 5, 14) := pm_of cl297_0 7 (q := (11, .ifCond .ne 5, 14)) rfl
theorem c297_14 : pm_code 297 14 = some (.iconst 0, 15) := pm_of cl297_0 8 (q := (14, .iconst 0, 15)) rfl
theorem c297_15 : pm_code 297 15 = some (.ireturn, 16) := pm_of cl297_0 9 (q := (15, .ireturn, 16)) rfl
theorem c297_16 : pm_code 297 16 = some (.aload_n 0, 17) := pm_of cl297_0 10 (q := (16, .aload_n 0, 17)) rfl
theorem c297_17 : pm_code 297 17 = some (.invokevirtual 330, 20) := pm_of cl297_0 11 (q := (17, .invokevirtual 330, 20)) rfl
theorem c297_20 : pm_code 297 20 = some (.aload_n 0, 21) := pm_of cl297_0 12 (q := (20, .aload_n 0, 21)) rfl
theorem c297_21 : pm_code 297 21 = some (.getfield 65, 24) := pm_of cl297_0 13 (q := (21, .getfield 65, 24)) rfl
theorem c297_24 : pm_code 297 24 = some (.iconst 0, 25) := pm_of cl297_0 14 (q := (24, .iconst 0, 25)) rfl
theorem c297_25 : pm_code 297 25 = some (.iload_n 1, 26) := pm_of cl297_0 15 (q := (25, .iload_n 1, 26)) rfl
theorem c297_26 : pm_code 297 26 = some (.iadd, 27) := pm_of cl297_0 16 (q := (26, .iadd, 27)) rfl
theorem c297_27 : pm_code 297 27 = some (.iaload, 28) := pm_of cl297_0 17 (q := (27, .iaload, 28)) rfl
theorem c297_28 : pm_code 297 28 = some (.ifCond .ne 7, 31) := pm_of cl297_0 18 (q := (28, .ifCond .ne 7, 31)) rfl
theorem c297_31 : pm_code 297 31 = some (.iconst (-1), 32) := pm_of cl297_0 19 (q := (31, .iconst (-1), 32)) rfl
theorem c297_32 : pm_code 297 32 = some (.goto 10, 35) := pm_of cl297_0 20 (q := (32, .goto 10, 35)) rfl
theorem c297_35 : pm_code 297 35 = some (.aload_n 0, 36) := pm_of cl297_0 21 (q := (35, .aload_n 0, 36)) rfl
theorem c297_36 : pm_code 297 36 = some (.iload_n 1, 37) := pm_of cl297_0 22 (q := (36, .iload_n 1, 37)) rfl
theorem c297_37 : pm_code 297 37 = some (.invokevirtual 380, 40) := pm_of cl297_0 23 (q := (37, .invokevirtual 380, 40)) rfl
theorem c297_40 : pm_code 297 40 = some (.iconst 4, 41) := pm_of cl297_0 24 (q := (40, .iconst 4, 41)) rfl
theorem c297_41 : pm_code 297 41 = some (.idiv, 42) := pm_of cl297_0 25 (q := (41, .idiv, 42)) rfl
theorem c297_42 : pm_code 297 42 = some (.ireturn, 43) := pm_of cl297_0 26 (q := (42, .ireturn, 43)) rfl
theorem k298 : pm_k 298 = 12 := by decide +kernel
theorem ml298 : pm_ml 298 = 2 := by decide +kernel
theorem rt298 : pm_rt 298 = (some .boolean) := by decide +kernel
theorem hh298 : pm_hh 298 = [] := by decide +kernel
theorem rc298 : pm_cl 12 = (pm_y 298).cls := by decide +kernel
theorem cl298_0 : ([(0, .aload_n 0, 1), (1, .iconst 0, 2), (2, .putfield 3, 5), (5, .aload_n 0, 6), (6, .iload_n 1, 7), (7, .iconst 1, 8), (8, .invokevirtual 404, 11), (11, .ifCond .ne 5, 14), (14, .iconst 0, 15), (15, .ireturn, 16), (16, .aload_n 0, 17), (17, .invokevirtual 330, 20), (20, .aload_n 0, 21), (21, .iload_n 1, 22), (22, .invokevirtual 383, 25), (25, .ireturn, 26)] : List (Nat × Instr × Nat)).all (fun q => decide (pm_code 298 q.1 = some q.2)) = true := by decide +kernel
theorem c298_0 : pm_code 298 0 = some (.aload_n 0, 1) := pm_of cl298_0 0 (q := (0, .aload_n 0, 1)) rfl
theorem c298_1 : pm_code 298 1 = some (.iconst 0, 2) := pm_of cl298_0 1 (q := (1, .iconst 0, 2)) rfl
theorem c298_2 : pm_code 298 2 = some (.putfield 3, 5) := pm_of cl298_0 2 (q := (2, .putfield 3, 5)) rfl
theorem c298_5 : pm_code 298 5 = some (.aload_n 0, 6) := pm_of cl298_0 3 (q := (5, .aload_n 0, 6)) rfl
theorem c298_6 : pm_code 298 6 = some (.iload_n 1, 7) := pm_of cl298_0 4 (q := (6, .iload_n 1, 7)) rfl
theorem c298_7 : pm_code 298 7 = some (.iconst 1, 8) := pm_of cl298_0 5 (q := (7, .iconst 1, 8)) rfl
theorem c298_8 : pm_code 298 8 = some (.invokevirtual 404, 11) := pm_of cl298_0 6 (q := (8, .invokevirtual 404, 11)) rfl
theorem c298_11 : pm_code 298 11 = some (.ifCond .ne 5, 14) := pm_of cl298_0 7 (q := (11, .ifCond .ne 5, 14)) rfl
theorem c298_14 : pm_code 298 14 = some (.iconst 0, 15) := pm_of cl298_0 8 (q := (14, .iconst 0, 15)) rfl
theorem c298_15 : pm_code 298 15 = some (.ireturn, 16) := pm_of cl298_0 9 (q := (15, .ireturn, 16)) rfl
theorem c298_16 : pm_code 298 16 = some (.aload_n 0, 17) := pm_of cl298_0 10 (q := (16, .aload_n 0, 17)) rfl
theorem c298_17 : pm_code 298 17 = some (.invokevirtual 330, 20) := pm_of cl298_0 11 (q := (17, .invokevirtual 330, 20)) rfl
theorem c298_20 : pm_code 298 20 = some (.aload_n 0, 21) := pm_of cl298_0 12 (q := (20, .aload_n 0, 21)) rfl
theorem c298_21 : pm_code 298 21 = some (.iload_n 1, 22) := pm_of cl298_0 13 (q := (21, .iload_n 1, 22)) rfl
theorem c298_22 : pm_code 298 22 = some (.invokevirtual 383, 25) := pm_of cl298_0 14 (q := (22, .invokevirtual 383, 25)) rfl
theorem c298_25 : pm_code 298 25 = some (.ireturn, 26) := pm_of cl298_0 15 (q := (25, .ireturn, 26)) rfl
theorem k299 : pm_k 299 = 12 := by decide +kernel
theorem ml299 : pm_ml 299 = 2 := by decide +kernel
theorem rt299 : pm_rt 299 = (some .int) := by decide +kernel
theorem hh299 : pm_hh 299 = [] := by decide +kernel
theorem rc299 : pm_cl 12 = (pm_y 299).cls := by decide +kernel
theorem cl299_0 : ([(0, .aload_n 0, 1), (1, .iconst 0, 2), (2, .putfield 3, 5), (5, .aload_n 0, 6), (6, .iload_n 1, 7), (7, .iconst 0, 8), (8, .bipush 99, 10), (10, .invokestatic 290, 13), (13, .iconst 1, 14), (14, .iconst 1, 15), (15, .invokevirtual 207, 18), (18, .ifCond .ne 5, 21), (21, .iconst 0, 22), (22, .ireturn, 23), (23, .aload_n 0, 24), (24, .invokevirtual 330, 27), (27, .aload_n 0, 28), (28, .iconst 0, 29), (29, .invokevirtual 374, 32), (32, .iload_n 1, 33), (33, .imul, 34), (34, .ireturn, 35)] : List (Nat × Instr × Nat)).all (fun q => decide (pm_code 299 q.1 = some q.2)) = true := by decide +kernel
theorem c299_0 : pm_code 299 0 = some (.aload_n 0, 1) := pm_of cl299_0 0 (q := (0, .aload_n 0, 1)) rfl
theorem c299_1 : pm_code 299 1 = some (.iconst 0, 2) := pm_of cl299_0 1 (q := (1, .iconst 0, 2)) rfl
theorem c299_2 : pm_code 299 2 = some (.putfield 3, 5) := pm_of cl299_0 2 (q := (2, .putfield 3, 5)) rfl
theorem c299_5 : pm_code 299 5 = some (.aload_n 0, 6) := pm_of cl299_0 3 (q := (5, .aload_n 0, 6)) rfl
theorem c299_6 : pm_code 299 6 = some (.iload_n 1, 7) := pm_of cl299_0 4 (q := (6, .iload_n 1, 7)) rfl
theorem c299_7 : pm_code 299 7 = some (.iconst 0, 8) := pm_of cl299_0 5 (q := (7, .iconst 0, 8)) rfl
theorem c299_8 : pm_code 299 8 = some (.bipush 99, 10) := pm_of cl299_0 6 (q := (8, .bipush 99, 10)) rfl
theorem c299_10 : pm_code 299 10 = some (.invokestatic 290, 13) := pm_of cl299_0 7 (q := (10, .invokestatic 290, 13)) rfl
theorem c299_13 : pm_code 299 13 = some (.iconst 1, 14) := pm_of cl299_0 8 (q := (13, .iconst 1, 14)) rfl
theorem c299_14 : pm_code 299 14 = some (.iconst 1, 15) := pm_of cl299_0 9 (q := (14, .iconst 1, 15)) rfl
theorem c299_15 : pm_code 299 15 = some (.invokevirtual 207, 18) := pm_of cl299_0 10 (q := (15, .invokevirtual 207, 18)) rfl
theorem c299_18 : pm_code 299 18 = some (.ifCond .ne 5, 21) := pm_of cl299_0 11 (q := (18, .ifCond .ne 5, 21)) rfl
theorem c299_21 : pm_code 299 21 = some (.iconst 0, 22) := pm_of cl299_0 12 (q := (21, .iconst 0, 22)) rfl
theorem c299_22 : pm_code 299 22 = some (.ireturn, 23) := pm_of cl299_0 13 (q := (22, .ireturn, 23)) rfl
theorem c299_23 : pm_code 299 23 = some (.aload_n 0, 24) := pm_of cl299_0 14 (q := (23, .aload_n 0, 24)) rfl
theorem c299_24 : pm_code 299 24 = some (.invokevirtual 330, 27) := pm_of cl299_0 15 (q := (24, .invokevirtual 330, 27)) rfl
theorem c299_27 : pm_code 299 27 = some (.aload_n 0, 28) := pm_of cl299_0 16 (q := (27, .aload_n 0, 28)) rfl
theorem c299_28 : pm_code 299 28 = some (.iconst 0, 29) := pm_of cl299_0 17 (q := (28, .iconst 0, 29)) rfl
theorem c299_29 : pm_code 299 29 = some (.invokevirtual 374, 32) := pm_of cl299_0 18 (q := (29, .invokevirtual 374, 32)) rfl
theorem c299_32 : pm_code 299 32 = some (.iload_n 1, 33) := pm_of cl299_0 19 (q := (32, .iload_n 1, 33)) rfl
theorem c299_33 : pm_code 299 33 = some (.imul, 34) := pm_of cl299_0 20 (q := (33, .imul, 34)) rfl
theorem c299_34 : pm_code 299 34 = some (.ireturn, 35) := pm_of cl299_0 21 (q := (34, .ireturn, 35)) rfl
theorem k300 : pm_k 300 = 12 := by decide +kernel
theorem ml300 : pm_ml 300 = 3 := by decide +kernel
theorem rt300 : pm_rt 300 = (some .int) := by decide +kernel
theorem hh300 : pm_hh 300 = [] := by decide +kernel
theorem rc300 : pm_cl 12 = (pm_y 300).cls := by decide +kernel
theorem cl300_0 : ([(0, .aload_n 0, 1), (1, .iconst 0, 2), (2, .putfield 3, 5), (5, .aload_n 0, 6), (6, .iload_n 1, 7), (7, .iconst 0, 8), (8, .bipush 99, 10), (10, .invokestatic 290, 13), (13, .iconst 1, 14), (14, .iconst 1, 15), (15, .invokevirtual 207, 18), (18, .ifCond .ne 5, 21), (21, .iconst 0, 22), (22, .ireturn, 23), (23, .aload_n 0, 24), (24, .invokevirtual 330, 27), (27, .aload_n 0, 28), (28, .iconst 0, 29), (29, .invokevirtual 374, 32), (32, .ifCond .ne 5, 35), (35, .iconst (-1), 36), (36, .ireturn, 37), (37, .aload_n 0, 38), (38, .getfield 65, 41), (41, .bipush 65, 43), (43, .iaload, 44), (44, .aload_n 0, 45), (45, .iconst 0, 46), (46, .invokevirtual 374, 49), (49, .idiv, 50), (50, .istore_n 2, 51), (51, .iload_n 2, 52), (52, .iload_n 1, 53), (53, .if_icmp .ge 7, 56), (56, .iload_n 2, 57), (57, .goto 4, 60), (60, .iload_n 1, 61), (61, .ireturn, 62)] : List (Nat × Instr × Nat)).all (fun q => decide (pm_code 300 q.1 = some q.2)) = true := by decide +kernel
theorem c300_0 : pm_code 300 0 = some (.aload_n 0, 1) := pm_of cl300_0 0 (q := (0, .aload_n 0, 1)) rfl
theorem c300_1 : pm_code 300 1 = some (.iconst 0, 2) := pm_of cl300_0 1 (q := (1, .iconst 0, 2)) rfl
theorem c300_2 : pm_code 300 2 = some (.putfield 3, 5) := pm_of cl300_0 2 (q := (2, .putfield 3, 5)) rfl
theorem c300_5 : pm_code 300 5 = some (.aload_n 0, 6) := pm_of cl300_0 3 (q := (5, .aload_n 0, 6)) rfl
theorem c300_6 : pm_code 300 6 = some (.iload_n 1, 7) := pm_of cl300_0 4 (q := (6, .iload_n 1, 7)) rfl
theorem c300_7 : pm_code 300 7 = some (.iconst 0, 8) := pm_of cl300_0 5 (q := (7, .iconst 0, 8)) rfl
theorem c300_8 : pm_code 300 8 = some (.bipush 99, 10) := pm_of cl300_0 6 (q := (8, .bipush 99, 10)) rfl
theorem c300_10 : pm_code 300 10 = some (.invokestatic 290, 13) := pm_of cl300_0 7 (q := (10, .invokestatic 290, 13)) rfl
theorem c300_13 : pm_code 300 13 = some (.iconst 1, 14) := pm_of cl300_0 8 (q := (13, .iconst 1, 14)) rfl
theorem c300_14 : pm_code 300 14 = some (.iconst 1, 15) := pm_of cl300_0 9 (q := (14, .iconst 1, 15)) rfl
theorem c300_15 : pm_code 300 15 = some (.invokevirtual 207, 18) := pm_of cl300_0 10 (q := (15, .invokevirtual 207, 18)) rfl
theorem c300_18 : pm_code 300 18 = some (.ifCond .ne 5, 21) := pm_of cl300_0 11 (q := (18, .ifCond .ne 5, 21)) rfl
theorem c300_21 : pm_code 300 21 = some (.iconst 0, 22) := pm_of cl300_0 12 (q := (21, .iconst 0, 22)) rfl
theorem c300_22 : pm_code 300 22 = some (.ireturn, 23) := pm_of cl300_0 13 (q := (22, .ireturn, 23)) rfl
theorem c300_23 : pm_code 300 23 = some (.aload_n 0, 24) := pm_of cl300_0 14 (q := (23, .aload_n 0, 24)) rfl
theorem c300_24 : pm_code 300 24 = some (.invokevirtual 330, 27) := pm_of cl300_0 15 (q := (24, .invokevirtual 330, 27)) rfl
theorem c300_27 : pm_code 300 27 = some (.aload_n 0, 28) := pm_of cl300_0 16 (q := (27, .aload_n 0, 28)) rfl
theorem c300_28 : pm_code 300 28 = some (.iconst 0, 29) := pm_of cl300_0 17 (q := (28, .iconst 0, 29)) rfl
theorem c300_29 : pm_code 300 29 = some (.invokevirtual 374, 32) := pm_of cl300_0 18 (q := (29, .invokevirtual 374, 32)) rfl
theorem c300_32 : pm_code 300 32 = some (.ifCond .ne 5, 35) := pm_of cl300_0 19 (q := (32, .ifCond .ne 5, 35)) rfl
theorem c300_35 : pm_code 300 35 = some (.iconst (-1), 36) := pm_of cl300_0 20 (q := (35, .iconst (-1), 36)) rfl
theorem c300_36 : pm_code 300 36 = some (.ireturn, 37) := pm_of cl300_0 21 (q := (36, .ireturn, 37)) rfl
theorem c300_37 : pm_code 300 37 = some (.aload_n 0, 38) := pm_of cl300_0 22 (q := (37, .aload_n 0, 38)) rfl
theorem c300_38 : pm_code 300 38 = some (.getfield 65, 41) := pm_of cl300_0 23 (q := (38, .getfield 65, 41)) rfl
theorem c300_41 : pm_code 300 41 = some (.bipush 65, 43) := pm_of cl300_0 24 (q := (41, .bipush 65, 43)) rfl
theorem c300_43 : pm_code 300 43 = some (.iaload, 44) := pm_of cl300_0 25 (q := (43, .iaload, 44)) rfl
theorem c300_44 : pm_code 300 44 = some (.aload_n 0, 45) := pm_of cl300_0 26 (q := (44, .aload_n 0, 45)) rfl
theorem c300_45 : pm_code 300 45 = some (.iconst 0, 46) := pm_of cl300_0 27 (q := (45, .iconst 0, 46)) rfl
theorem c300_46 : pm_code 300 46 = some (.invokevirtual 374, 49) := pm_of cl300_0 28 (q := (46, .invokevirtual 374, 49)) rfl
theorem c300_49 : pm_code 300 49 = some (.idiv, 50) := pm_of cl300_0 29 (q := (49, .idiv, 50)) rfl
theorem c300_50 : pm_code 300 50 = some (.istore_n 2, 51) := pm_of cl300_0 30 (q := (50, .istore_n 2, 51)) rfl
theorem c300_51 : pm_code 300 51 = some (.iload_n 2, 52) := pm_of cl300_0 31 (q := (51, .iload_n 2, 52)) rfl
theorem c300_52 : pm_code 300 52 = some (.iload_n 1, 53) := pm_of cl300_0 32 (q := (52, .iload_n 1, 53)) rfl
theorem c300_53 : pm_code 300 53 = some (.if_icmp .ge 7, 56) := pm_of cl300_0 33 (q := (53, .if_icmp .ge 7, 56)) rfl
theorem c300_56 : pm_code 300 56 = some (.iload_n 2, 57) := pm_of cl300_0 34 (q := (56, .iload_n 2, 57)) rfl
theorem c300_57 : pm_code 300 57 = some (.goto 4, 60) := pm_of cl300_0 35 (q := (57, .goto 4, 60)) rfl
theorem c300_60 : pm_code 300 60 = some (.iload_n 1, 61) := pm_of cl300_0 36 (q := (60, .iload_n 1, 61)) rfl
theorem c300_61 : pm_code 300 61 = some (.ireturn, 62) := pm_of cl300_0 37 (q := (61, .ireturn, 62)) rfl
theorem k301 : pm_k 301 = 12 := by decide +kernel
theorem ml301 : pm_ml 301 = 2 := by decide +kernel
theorem rt301 : pm_rt 301 = (some .int) := by decide +kernel
theorem hh301 : pm_hh 301 = [] := by decide +kernel
theorem rc301 : pm_cl 12 = (pm_y 301).cls := by decide +kernel
theorem cl301_0 : ([(0, .aload_n 0, 1), (1, .iconst 0, 2), (2, .putfield 3, 5), (5, .aload_n 0, 6), (6, .invokevirtual 330, 9), (9, .iconst 0, 10), (10, .istore_n 1, 11), (11, .iload_n 1, 12), (12, .bipush 99, 14), (14, .if_icmp .gt 22, 17), (17, .aload_n 0, 18), (18, .invokevirtual 401, 21), (21, .aload_n 0, 22), (22, .getfield 351, 25), (25, .ifCond .le 5, 28), (28, .iload_n 1, 29), (29, .ireturn, 30), (30, .iinc 1 1, 33), (33, .goto (-22), 36), (36, .iconst (-1), 37), (37, .ireturn, 38)] : List (Nat × Instr × Nat)).all (fun q => decide (pm_code 301 q.1 = some q.2)) = true := by decide +kernel
theorem c301_0 : pm_code 301 0 = some (.aload_n 0, 1) := pm_of cl301_0 0 (q := (0, .aload_n 0, 1)) rfl
theorem c301_1 : pm_code 301 1 = some (.iconst 0, 2) := pm_of cl301_0 1 (q := (1, .iconst 0, 2)) rfl
theorem c301_2 : pm_code 301 2 = some (.putfield 3, 5) := pm_of cl301_0 2 (q := (2, .putfield 3, 5)) rfl
theorem c301_5 : pm_code 301 5 = some (.aload_n 0, 6) := pm_of cl301_0 3 (q := (5, .aload_n 0, 6)) rfl
theorem c301_6 : pm_code 301 6 = some (.invokevirtual 330, 9) := pm_of cl301_0 4 (q := (6, .invokevirtual 330, 9)) rfl
theorem c301_9 : pm_code 301 9 = some (.iconst 0, 10) := pm_of cl301_0 5 (q := (9, .iconst 0, 10)) rfl
theorem c301_10 : pm_code 301 10 = some (.istore_n 1, 11) := pm_of cl301_0 6 (q := (10, .istore_n 1, 11)) rfl
theorem c301_11 : pm_code 301 11 = some (.iload_n 1, 12) := pm_of cl301_0 7 (q := (11, .iload_n 1, 12)) rfl
theorem c301_12 : pm_code 301 12 = some (.bipush 99, 14) := pm_of cl301_0 8 (q := (12, .bipush 99, 14)) rfl
theorem c301_14 : pm_code 301 14 = some (.if_icmp .gt 22, 17) := pm_of cl301_0 9 (q := (14, .if_icmp .gt 22, 17)) rfl
theorem c301_17 : pm_code 301 17 = some (.aload_n 0, 18) := pm_of cl301_0 10 (q := (17, .aload_n 0, 18)) rfl
theorem c301_18 : pm_code 301 18 = some (.invokevirtual 401, 21) := pm_of cl301_0 11 (q := (18, .invokevirtual 401, 21)) rfl
theorem c301_21 : pm_code 301 21 = some (.aload_n 0, 22) := pm_of cl301_0 12 (q := (21, .aload_n 0, 22)) rfl
theorem c301_22 : pm_code 301 22 = some (.getfield 351, 25) := pm_of cl301_0 13 (q := (22, .getfield 351, 25)) rfl
theorem c301_25 : pm_code 301 25 = some (.ifCond .le 5, 28) := pm_of cl301_0 14 (q := (25, .ifCond .le 5, 28)) rfl
theorem c301_28 : pm_code 301 28 = some (.iload_n 1, 29) := pm_of cl301_0 15 (q := (28, .iload_n 1, 29)) rfl
theorem c301_29 : pm_code 301 29 = some (.ireturn, 30) := pm_of cl301_0 16 (q := (29, .ireturn, 30)) rfl
theorem c301_30 : pm_code 301 30 = some (.iinc 1 1, 33) := pm_of cl301_0 17 (q := (30, .iinc 1 1, 33)) rfl
theorem c301_33 : pm_code 301 33 = some (.goto (-22), 36) := pm_of cl301_0 18 (q := (33, .goto (-22), 36)) rfl
theorem c301_36 : pm_code 301 36 = some (.iconst (-1), 37) := pm_of cl301_0 19 (q := (36, .iconst (-1), 37)) rfl
theorem c301_37 : pm_code 301 37 = some (.ireturn, 38) := pm_of cl301_0 20 (q := (37, .ireturn, 38)) rfl
theorem k302 : pm_k 302 = 12 := by decide +kernel
theorem ml302 : pm_ml 302 = 8 := by decide +kernel
theorem rt302 : pm_rt 302 = (some .int) := by decide +kernel
theorem hh302 : pm_hh 302 = [] := by decide +kernel
theorem rc302 : pm_cl 12 = (pm_y 302).cls := by decide +kernel
theorem cl302_0 : ([(0, .aload_n 0, 1), (1, .iconst 0, 2), (2, .putfield 3, 5), (5, .aload_n 0, 6), (6, .iload_n 1, 7), (7, .iconst 1, 8), (8, .invokevirtual 404, 11), (11, .ifCond .eq 18, 14), (14, .aload_n 0, 15), (15, .iload_n 2, 16), (16, .iconst 0, 17), (17, .iconst 3, 18), (18, .invokestatic 290, 21), (21, .iconst 2, 22), (22, .iconst 1, 23), (23, .invokevirtual 207, 26), (26, .ifCond .ne 5, 29), (29, .iconst 0, 30), (30, .ireturn, 31), (31, .aload_n 0, 32), (32, .iload_n 1, 33), (33, .invokevirtual 431, 36), (36, .iconst 0, 37), (37, .istore_n 3, 38), (38, .iconst (-1), 39), (39, .istore 4, 41), (41, .iconst (-1), 42), (42, .istore 5, 44), (44, .iconst (-1), 45), (45, .istore 6, 47), (47, .iconst 0, 48), (48, .istore 7, 50), (50, .iload 7, 52), (52, .sipush 225, 55), (55, .if_icmp .ge 112, 58), (58, .aload_n 0, 59), (59, .getfield 89, 62), (62, .iload 7, 64), (64, .baload, 65), (65, .ifCond .ne 6, 68)] : List (Nat × Instr × Nat)).all (fun q => decide (pm_code 302 q.1 = some q.2)) = true := by decide +kernel
theorem c302_0 : pm_code 302 0 = some (.aload_n 0, 1) := pm_of cl302_0 0 (q := (0, .aload_n 0, 1)) rfl
theorem c302_1 : pm_code 302 1 = some (.iconst 0, 2) := pm_of cl302_0 1 (q := (1, .iconst 0, 2)) rfl
theorem c302_2 : pm_code 302 2 = some (.putfield 3, 5) := pm_of cl302_0 2 (q := (2, .putfield 3, 5)) rfl
theorem c302_5 : pm_code 302 5 = some (.aload_n 0, 6) := pm_of cl302_0 3 (q := (5, .aload_n 0, 6)) rfl
theorem c302_6 : pm_code 302 6 = some (.iload_n 1, 7) := pm_of cl302_0 4 (q := (6, .iload_n 1, 7)) rfl
theorem c302_7 : pm_code 302 7 = some (.iconst 1, 8) := pm_of cl302_0 5 (q := (7, .iconst 1, 8)) rfl
theorem c302_8 : pm_code 302 8 = some (.invokevirtual 404, 11) := pm_of cl302_0 6 (q := (8, .invokevirtual 404, 11)) rfl
theorem c302_11 : pm_code 302 11 = some (.ifCond .eq 18, 14) := pm_of cl302_0 7 (q := (11, .ifCond .eq 18, 14)) rfl
theorem c302_14 : pm_code 302 14 = some (.aload_n 0, 15) := pm_of cl302_0 8 (q := (14, .aload_n 0, 15)) rfl
theorem c302_15 : pm_code 302 15 = some (.iload_n 2, 16) := pm_of cl302_0 9 (q := (15, .iload_n 2, 16)) rfl
theorem c302_16 : pm_code 302 16 = some (.iconst 0, 17) := pm_of cl302_0 10 (q := (16, .iconst 0, 17)) rfl
theorem c302_17 : pm_code 302 17 = some (.iconst 3, 18) := pm_of cl302_0 11 (q := (17, .iconst 3, 18)) rfl
theorem c302_18 : pm_code 302 18 = some (.invokestatic 290, 21) := pm_of cl302_0 12 (q := (18, .invokestatic 290, 21)) rfl
theorem c302_21 : pm_code 302 21 = some (.iconst 2, 22) := pm_of cl302_0 13 (q := (21, .iconst 2, 22)) rfl
theorem c302_22 : pm_code 302 22 = some (.iconst 1, 23) := pm_of cl302_0 14 (q := (22, .iconst 1, 23)) rfl
theorem c302_23 : pm_code 302 23 = some (.invokevirtual 207, 26) := pm_of cl302_0 15 (q := (23, .invokevirtual 207, 26)) rfl
theorem c302_26 : pm_code 302 26 = some (.ifCond .ne 5, 29) := pm_of cl302_0 16 (q := (26, .ifCond .ne 5, 29)) rfl
theorem c302_29 : pm_code 302 29 = some (.iconst 0, 30) := pm_of cl302_0 17 (q := (29, .iconst 0, 30)) rfl
theorem c302_30 : pm_code 302 30 = some (.ireturn, 31) := pm_of cl302_0 18 (q := (30, .ireturn, 31)) rfl
theorem c302_31 : pm_code 302 31 = some (.aload_n 0, 32) := pm_of cl302_0 19 (q := (31, .aload_n 0, 32)) rfl
theorem c302_32 : pm_code 302 32 = some (.iload_n 1, 33) := pm_of cl302_0 20 (q := (32, .iload_n 1, 33)) rfl
theorem c302_33 : pm_code 302 33 = some (.invokevirtual 431, 36) := pm_of cl302_0 21 (q := (33, .invokevirtual 431, 36)) rfl
theorem c302_36 : pm_code 302 36 = some (.iconst 0, 37) := pm_of cl302_0 22 (q := (36, .iconst 0, 37)) rfl
theorem c302_37 : pm_code 302 37 = some (.istore_n 3, 38) := pm_of cl302_0 23 (q := (37, .istore_n 3, 38)) rfl
theorem c302_38 : pm_code 302 38 = some (.iconst (-1), 39) := pm_of cl302_0 24 (q := (38, .iconst (-1), 39)) rfl
theorem c302_39 : pm_code 302 39 = some (.istore 4, 41) := pm_of cl302_0 25 (q := (39, .istore 4, 41)) rfl
theorem c302_41 : pm_code 302 41 = some (.iconst (-1), 42) := pm_of cl302_0 26 (q := (41, .iconst (-1), 42)) rfl
theorem c302_42 : pm_code 302 42 = some (.istore 5, 44) := pm_of cl302_0 27 (q := (42, .istore 5, 44)) rfl
theorem c302_44 : pm_code 302 44 = some (.iconst (-1), 45) := pm_of cl302_0 28 (q := (44, .iconst (-1), 45)) rfl
theorem c302_45 : pm_code 302 45 = some (.istore 6, 47) := pm_of cl302_0 29 (q := (45, .istore 6, 47)) rfl
theorem c302_47 : pm_code 302 47 = some (.iconst 0, 48) := pm_of cl302_0 30 (q := (47, .iconst 0, 48)) rfl
theorem c302_48 : pm_code 302 48 = some (.istore 7, 50) := pm_of cl302_0 31 (q := (48, .istore 7, 50)) rfl
theorem c302_50 : pm_code 302 50 = some (.iload 7, 52) := pm_of cl302_0 32 (q := (50, .iload 7, 52)) rfl
theorem c302_52 : pm_code 302 52 = some (.sipush 225, 55) := pm_of cl302_0 33 (q := (52, .sipush 225, 55)) rfl
theorem c302_55 : pm_code 302 55 = some (.if_icmp .ge 112, 58) := pm_of cl302_0 34 (q := (55, .if_icmp .ge 112, 58)) rfl
theorem c302_58 : pm_code 302 58 = some (.aload_n 0, 59) := pm_of cl302_0 35 (q := (58, .aload_n 0, 59)) rfl
theorem c302_59 : pm_code 302 59 = some (.getfield 89, 62) := pm_of cl302_0 36 (q := (59, .getfield 89, 62)) rfl
theorem c302_62 : pm_code 302 62 = some (.iload 7, 64) := pm_of cl302_0 37 (q := (62, .iload 7, 64)) rfl
theorem c302_64 : pm_code 302 64 = some (.baload, 65) := pm_of cl302_0 38 (q := (64, .baload, 65)) rfl
theorem c302_65 : pm_code 302 65 = some (.ifCond .ne 6, 68) := pm_of cl302_0 39 (q := (65, .ifCond .ne 6, 68)) rfl
theorem cl302_1 : ([(68, .goto 93, 71), (71, .iinc 3 1, 74), (74, .iload 4, 76), (76, .iconst (-1), 77), (77, .if_icmp .ne 22, 80), (80, .bipush 100, 82), (82, .iload 7, 84), (84, .bipush 25, 86), (86, .idiv, 87), (87, .iconst 1, 88), (88, .iadd, 89), (89, .imul, 90), (90, .iload 7, 92), (92, .bipush 25, 94), (94, .irem, 95), (95, .iadd, 96), (96, .goto 5, 99), (99, .iload 4, 101), (101, .istore 4, 103), (103, .iload 5, 105), (105, .iconst (-1), 106), (106, .if_icmp .eq 15, 109), (109, .aload_n 0, 110), (110, .getfield 93, 113), (113, .iload 7, 115), (115, .iaload, 116), (116, .iload 5, 118), (118, .if_icmp .ge 13, 121), (121, .aload_n 0, 122), (122, .getfield 93, 125), (125, .iload 7, 127), (127, .iaload, 128), (128, .goto 5, 131), (131, .iload 5, 133), (133, .istore 5, 135), (135, .aload_n 0, 136), (136, .getfield 93, 139), (139, .iload 7, 141), (141, .iaload, 142), (142, .iload 6, 144)] : List (Nat × Instr × Nat)).all (fun q => decide (pm_code 302 q.1 = some q.2)) = true := by decide +kernel
theorem c302_68 : pm_code 302 68 = some (.goto 93, 71) := pm_of cl302_1 0 (q := (68, .goto 93, 71)) rfl
theorem c302_71 : pm_code 302 71 = some (.iinc 3 1, 74) := pm_of cl302_1 1 (q := (71, .iinc 3 1, 74)) rfl
theorem c302_74 : pm_code 302 74 = some (.iload 4, 76) := pm_of cl302_1 2 (q := (74, .iload 4, 76)) rfl
theorem c302_76 : pm_code 302 76 = some (.iconst (-1), 77) := pm_of cl302_1 3 (q := (76, .iconst (-1), 77)) rfl
theorem c302_77 : pm_code 302 77 = some (.if_icmp .ne 22, 80) := pm_of cl302_1 4 (q := (77, .if_icmp .ne 22, 80)) rfl
theorem c302_80 : pm_code 302 80 = some (.bipush 100, 82) := pm_of cl302_1 5 (q := (80, .bipush 100, 82)) rfl
theorem c302_82 : pm_code 302 82 = some (.iload 7, 84) := pm_of cl302_1 6 (q := (82, .iload 7, 84)) rfl
theorem c302_84 : pm_code 302 84 = some (.bipush 25, 86) := pm_of cl302_1 7 (q := (84, .bipush 25, 86)) rfl
theorem c302_86 : pm_code 302 86 = some (.idiv, 87) := pm_of cl302_1 8 (q := (86, .idiv, 87)) rfl
theorem c302_87 : pm_code 302 87 = some (.iconst 1, 88) := pm_of cl302_1 9 (q := (87, .iconst 1, 88)) rfl
theorem c302_88 : pm_code 302 88 = some (.iadd, 89) := pm_of cl302_1 10 (q := (88, .iadd, 89)) rfl
theorem c302_89 : pm_code 302 89 = some (.imul, 90) := pm_of cl302_1 11 (q := (89, .imul, 90)) rfl
theorem c302_90 : pm_code 302 90 = some (.iload 7, 92) := pm_of cl302_1 12 (q := (90, .iload 7, 92)) rfl
theorem c302_92 : pm_code 302 92 = some (.bipush 25, 94) := pm_of cl302_1 13 (q := (92, .bipush 25, 94)) rfl
theorem c302_94 : pm_code 302 94 = some (.irem, 95) := pm_of cl302_1 14 (q := (94, .irem, 95)) rfl
theorem c302_95 : pm_code 302 95 = some (.iadd, 96) := pm_of cl302_1 15 (q := (95, .iadd, 96)) rfl
theorem c302_96 : pm_code 302 96 = some (.goto 5, 99) := pm_of cl302_1 16 (q := (96, .goto 5, 99)) rfl
theorem c302_99 : pm_code 302 99 = some (.iload 4, 101) := pm_of cl302_1 17 (q := (99, .iload 4, 101)) rfl
theorem c302_101 : pm_code 302 101 = some (.istore 4, 103) := pm_of cl302_1 18 (q := (101, .istore 4, 103)) rfl
theorem c302_103 : pm_code 302 103 = some (.iload 5, 105) := pm_of cl302_1 19 (q := (103, .iload 5, 105)) rfl
theorem c302_105 : pm_code 302 105 = some (.iconst (-1), 106) := pm_of cl302_1 20 (q := (105, .iconst (-1), 106)) rfl
theorem c302_106 : pm_code 302 106 = some (.if_icmp .eq 15, 109) := pm_of cl302_1 21 (q := (106, .if_icmp .eq 15, 109)) rfl
theorem c302_109 : pm_code 302 109 = some (.aload_n 0, 110) := pm_of cl302_1 22 (q := (109, .aload_n 0, 110)) rfl
theorem c302_110 : pm_code 302 110 = some (.getfield 93, 113) := pm_of cl302_1 23 (q := (110, .getfield 93, 113)) rfl
theorem c302_113 : pm_code 302 113 = some (.iload 7, 115) := pm_of cl302_1 24 (q := (113, .iload 7, 115)) rfl
theorem c302_115 : pm_code 302 115 = some (.iaload, 116) := pm_of cl302_1 25 (q := (115, .iaload, 116)) rfl
theorem c302_116 : pm_code 302 116 = some (.iload 5, 118) := pm_of cl302_1 26 (q := (116, .iload 5, 118)) rfl
theorem c302_118 : pm_code 302 118 = some (.if_icmp .ge 13, 121) := pm_of cl302_1 27 (q := (118, .if_icmp .ge 13, 121)) rfl
theorem c302_121 : pm_code 302 121 = some (.aload_n 0, 122) := pm_of cl302_1 28 (q := (121, .aload_n 0, 122)) rfl
theorem c302_122 : pm_code 302 122 = some (.getfield 93, 125) := pm_of cl302_1 29 (q := (122, .getfield 93, 125)) rfl
theorem c302_125 : pm_code 302 125 = some (.iload 7, 127) := pm_of cl302_1 30 (q := (125, .iload 7, 127)) rfl
theorem c302_127 : pm_code 302 127 = some (.iaload, 128) := pm_of cl302_1 31 (q := (127, .iaload, 128)) rfl
theorem c302_128 : pm_code 302 128 = some (.goto 5, 131) := pm_of cl302_1 32 (q := (128, .goto 5, 131)) rfl
theorem c302_131 : pm_code 302 131 = some (.iload 5, 133) := pm_of cl302_1 33 (q := (131, .iload 5, 133)) rfl
theorem c302_133 : pm_code 302 133 = some (.istore 5, 135) := pm_of cl302_1 34 (q := (133, .istore 5, 135)) rfl
theorem c302_135 : pm_code 302 135 = some (.aload_n 0, 136) := pm_of cl302_1 35 (q := (135, .aload_n 0, 136)) rfl
theorem c302_136 : pm_code 302 136 = some (.getfield 93, 139) := pm_of cl302_1 36 (q := (136, .getfield 93, 139)) rfl
theorem c302_139 : pm_code 302 139 = some (.iload 7, 141) := pm_of cl302_1 37 (q := (139, .iload 7, 141)) rfl
theorem c302_141 : pm_code 302 141 = some (.iaload, 142) := pm_of cl302_1 38 (q := (141, .iaload, 142)) rfl
theorem c302_142 : pm_code 302 142 = some (.iload 6, 144) := pm_of cl302_1 39 (q := (142, .iload 6, 144)) rfl
theorem cl302_2 : ([(144, .if_icmp .le 13, 147), (147, .aload_n 0, 148), (148, .getfield 93, 151), (151, .iload 7, 153), (153, .iaload, 154), (154, .goto 5, 157), (157, .iload 6, 159), (159, .istore 6, 161), (161, .iinc 7 1, 164), (164, .goto (-114), 167), (167, .iload_n 2, 168), (168, .ifCond .ne 7, 171), (171, .iload_n 3, 172), (172, .goto 25, 175), (175, .iload_n 2, 176), (176, .iconst 1, 177), (177, .if_icmp .ne 8, 180), (180, .iload 4, 182), (182, .goto 15, 185), (185, .iload_n 2, 186), (186, .iconst 2, 187), (187, .if_icmp .ne 8, 190), (190, .iload 5, 192), (192, .goto 5, 195), (195, .iload 6, 197), (197, .ireturn, 198)] : List (Nat × Instr × Nat)).all (fun q => decide (pm_code 302 q.1 = some q.2)) = true := by decide +kernel
theorem c302_144 : pm_code 302 144 = some (.if_icmp .le 13, 147) := pm_of cl302_2 0 (q := (144, .if_icmp .le 13, 147)) rfl
theorem c302_147 : pm_code 302 147 = some (.aload_n 0, 148) := pm_of cl302_2 1 (q := (147, .aload_n 0, 148)) rfl
theorem c302_148 : pm_code 302 148 = some (.getfield 93, 151) := pm_of cl302_2 2 (q := (148, .getfield 93, 151)) rfl
theorem c302_151 : pm_code 302 151 = some (.iload 7, 153) := pm_of cl302_2 3 (q := (151, .iload 7, 153)) rfl
theorem c302_153 : pm_code 302 153 = some (.iaload, 154) := pm_of cl302_2 4 (q := (153, .iaload, 154)) rfl
theorem c302_154 : pm_code 302 154 = some (.goto 5, 157) := pm_of cl302_2 5 (q := (154, .goto 5, 157)) rfl
theorem c302_157 : pm_code 302 157 = some (.iload 6, 159) := pm_of cl302_2 6 (q := (157, .iload 6, 159)) rfl
theorem c302_159 : pm_code 302 159 = some (.istore 6, 161) := pm_of cl302_2 7 (q := (159, .istore 6, 161)) rfl
theorem c302_161 : pm_code 302 161 = some (.iinc 7 1, 164) := pm_of cl302_2 8 (q := (161, .iinc 7 1, 164)) rfl
theorem c302_164 : pm_code 302 164 = some (.goto (-114), 167) := pm_of cl302_2 9 (q := (164, .goto (-114), 167)) rfl
theorem c302_167 : pm_code 302 167 = some (.iload_n 2, 168) := pm_of cl302_2 10 (q := (167, .iload_n 2, 168)) rfl
theorem c302_168 : pm_code 302 168 = some (.ifCond .ne 7, 171) := pm_of cl302_2 11 (q := (168, .ifCond .ne 7, 171)) rfl
theorem c302_171 : pm_code 302 171 = some (.iload_n 3, 172) := pm_of cl302_2 12 (q := (171, .iload_n 3, 172)) rfl
theorem c302_172 : pm_code 302 172 = some (.goto 25, 175) := pm_of cl302_2 13 (q := (172, .goto 25, 175)) rfl
theorem c302_175 : pm_code 302 175 = some (.iload_n 2, 176) := pm_of cl302_2 14 (q := (175, .iload_n 2, 176)) rfl
theorem c302_176 : pm_code 302 176 = some (.iconst 1, 177) := pm_of cl302_2 15 (q := (176, .iconst 1, 177)) rfl
theorem c302_177 : pm_code 302 177 = some (.if_icmp .ne 8, 180) := pm_of cl302_2 16 (q := (177, .if_icmp .ne 8, 180)) rfl
theorem c302_180 : pm_code 302 180 = some (.iload 4, 182) := pm_of cl302_2 17 (q := (180, .iload 4, 182)) rfl
theorem c302_182 : pm_code 302 182 = some (.goto 15, 185) := pm_of cl302_2 18 (q := (182, .goto 15, 185)) rfl
theorem c302_185 : pm_code 302 185 = some (.iload_n 2, 186) := pm_of cl302_2 19 (q := (185, .iload_n 2, 186)) rfl
theorem c302_186 : pm_code 302 186 = some (.iconst 2, 187) := pm_of cl302_2 20 (q := (186, .iconst 2, 187)) rfl
theorem c302_187 : pm_code 302 187 = some (.if_icmp .ne 8, 190) := pm_of cl302_2 21 (q := (187, .if_icmp .ne 8, 190)) rfl
theorem c302_190 : pm_code 302 190 = some (.iload 5, 192) := pm_of cl302_2 22 (q := (190, .iload 5, 192)) rfl
theorem c302_192 : pm_code 302 192 = some (.goto 5, 195) := pm_of cl302_2 23 (q := (192, .goto 5, 195)) rfl
theorem c302_195 : pm_code 302 195 = some (.iload 6, 197) := pm_of cl302_2 24 (q := (195, .iload 6, 197)) rfl
theorem c302_197 : pm_code 302 197 = some (.ireturn, 198) := pm_of cl302_2 25 (q := (197, .ireturn, 198)) rfl
theorem k303 : pm_k 303 = 12 := by decide +kernel
theorem ml303 : pm_ml 303 = 4 := by decide +kernel
theorem rt303 : pm_rt 303 = none := by decide +kernel
theorem hh303 : pm_hh 303 = [] := by decide +kernel
theorem rc303 : pm_cl 12 = (pm_y 303).cls := by decide +kernel
theorem cl303_0 : ([(0, .aload_n 0, 1), (1, .invokevirtual 330, 4), (4, .iconst 0, 5), (5, .istore_n 2, 6), (6, .iload_n 2, 7), (7, .sipush 225, 10), (10, .if_icmp .ge 104, 13), (13, .aload_n 0, 14), (14, .getfield 93, 17), (17, .iload_n 2, 18), (18, .aload_n 0, 19), (19, .iload_n 1, 20), (20, .iconst 0, 21), (21, .iload_n 2, 22), (22, .bipush 25, 24), (24, .idiv, 25), (25, .iconst 1, 26), (26, .iadd, 27), (27, .iload_n 2, 28), (28, .bipush 25, 30), (30, .irem, 31), (31, .invokevirtual 367, 34), (34, .iastore, 35), (35, .aload_n 0, 36), (36, .getfield 89, 39), (39, .iload_n 2, 40), (40, .iconst 1, 41), (41, .bastore, 42), (42, .iconst 0, 43), (43, .istore_n 3, 44), (44, .iload_n 3, 45), (45, .aload_n 0, 46), (46, .getfield 182, 49), (49, .if_icmp .ge 59, 52), (52, .aload_n 0, 53), (53, .getfield 89, 56), (56, .iload_n 2, 57), (57, .aload_n 0, 58), (58, .getfield 89, 61), (61, .iload_n 2, 62)] : List (Nat × Instr × Nat)).all (fun q => decide (pm_code 303 q.1 = some q.2)) = true := by decide +kernel
theorem c303_0 : pm_code 303 0 = some (.aload_n 0, 1) := pm_of cl303_0 0 (q := (0, .aload_n 0, 1)) rfl
theorem c303_1 : pm_code 303 1 = some (.invokevirtual 330, 4) := pm_of cl303_0 1 (q := (1, .invokevirtual 330, 4)) rfl
theorem c303_4 : pm_code 303 4 = some (.iconst 0, 5) := pm_of cl303_0 2 (q := (4, .iconst 0, 5)) rfl
theorem c303_5 : pm_code 303 5 = some (.istore_n 2, 6) := pm_of cl303_0 3 (q := (5, .istore_n 2, 6)) rfl
theorem c303_6 : pm_code 303 6 = some (.iload_n 2, 7) := pm_of cl303_0 4 (q := (6, .iload_n 2, 7)) rfl
theorem c303_7 : pm_code 303 7 = some (.sipush 225, 10) := pm_of cl303_0 5 (q := (7, .sipush 225, 10)) rfl
theorem c303_10 : pm_code 303 10 = some (.if_icmp .ge 104, 13) := pm_of cl303_0 6 (q := (10, .if_icmp .ge 104, 13)) rfl
theorem c303_13 : pm_code 303 13 = some (.aload_n 0, 14) := pm_of cl303_0 7 (q := (13, .aload_n 0, 14)) rfl
theorem c303_14 : pm_code 303 14 = some (.getfield 93, 17) := pm_of cl303_0 8 (q := (14, .getfield 93, 17)) rfl
theorem c303_17 : pm_code 303 17 = some (.iload_n 2, 18) := pm_of cl303_0 9 (q := (17, .iload_n 2, 18)) rfl
theorem c303_18 : pm_code 303 18 = some (.aload_n 0, 19) := pm_of cl303_0 10 (q := (18, .aload_n 0, 19)) rfl
theorem c303_19 : pm_code 303 19 = some (.iload_n 1, 20) := pm_of cl303_0 11 (q := (19, .iload_n 1, 20)) rfl
theorem c303_20 : pm_code 303 20 = some (.iconst 0, 21) := pm_of cl303_0 12 (q := (20, .iconst 0, 21)) rfl
theorem c303_21 : pm_code 303 21 = some (.iload_n 2, 22) := pm_of cl303_0 13 (q := (21, .iload_n 2, 22)) rfl
theorem c303_22 : pm_code 303 22 = some (.bipush 25, 24) := pm_of cl303_0 14 (q := (22, .bipush 25, 24)) rfl
theorem c303_24 : pm_code 303 24 = some (.idiv, 25) := pm_of cl303_0 15 (q := (24, .idiv, 25)) rfl
theorem c303_25 : pm_code 303 25 = some (.iconst 1, 26) := pm_of cl303_0 16 (q := (25, .iconst 1, 26)) rfl
theorem c303_26 : pm_code 303 26 = some (.iadd, 27) := pm_of cl303_0 17 (q := (26, .iadd, 27)) rfl
theorem c303_27 : pm_code 303 27 = some (.iload_n 2, 28) := pm_of cl303_0 18 (q := (27, .iload_n 2, 28)) rfl
theorem c303_28 : pm_code 303 28 = some (.bipush 25, 30) := pm_of cl303_0 19 (q := (28, .bipush 25, 30)) rfl
theorem c303_30 : pm_code 303 30 = some (.irem, 31) := pm_of cl303_0 20 (q := (30, .irem, 31)) rfl
theorem c303_31 : pm_code 303 31 = some (.invokevirtual 367, 34) := pm_of cl303_0 21 (q := (31, .invokevirtual 367, 34)) rfl
theorem c303_34 : pm_code 303 34 = some (.iastore, 35) := pm_of cl303_0 22 (q := (34, .iastore, 35)) rfl
theorem c303_35 : pm_code 303 35 = some (.aload_n 0, 36) := pm_of cl303_0 23 (q := (35, .aload_n 0, 36)) rfl
theorem c303_36 : pm_code 303 36 = some (.getfield 89, 39) := pm_of cl303_0 24 (q := (36, .getfield 89, 39)) rfl
theorem c303_39 : pm_code 303 39 = some (.iload_n 2, 40) := pm_of cl303_0 25 (q := (39, .iload_n 2, 40)) rfl
theorem c303_40 : pm_code 303 40 = some (.iconst 1, 41) := pm_of cl303_0 26 (q := (40, .iconst 1, 41)) rfl
theorem c303_41 : pm_code 303 41 = some (.bastore, 42) := pm_of cl303_0 27 (q := (41, .bastore, 42)) rfl
theorem c303_42 : pm_code 303 42 = some (.iconst 0, 43) := pm_of cl303_0 28 (q := (42, .iconst 0, 43)) rfl
theorem c303_43 : pm_code 303 43 = some (.istore_n 3, 44) := pm_of cl303_0 29 (q := (43, .istore_n 3, 44)) rfl
theorem c303_44 : pm_code 303 44 = some (.iload_n 3, 45) := pm_of cl303_0 30 (q := (44, .iload_n 3, 45)) rfl
theorem c303_45 : pm_code 303 45 = some (.aload_n 0, 46) := pm_of cl303_0 31 (q := (45, .aload_n 0, 46)) rfl
theorem c303_46 : pm_code 303 46 = some (.getfield 182, 49) := pm_of cl303_0 32 (q := (46, .getfield 182, 49)) rfl
theorem c303_49 : pm_code 303 49 = some (.if_icmp .ge 59, 52) := pm_of cl303_0 33 (q := (49, .if_icmp .ge 59, 52)) rfl
theorem c303_52 : pm_code 303 52 = some (.aload_n 0, 53) := pm_of cl303_0 34 (q := (52, .aload_n 0, 53)) rfl
theorem c303_53 : pm_code 303 53 = some (.getfield 89, 56) := pm_of cl303_0 35 (q := (53, .getfield 89, 56)) rfl
theorem c303_56 : pm_code 303 56 = some (.iload_n 2, 57) := pm_of cl303_0 36 (q := (56, .iload_n 2, 57)) rfl
theorem c303_57 : pm_code 303 57 = some (.aload_n 0, 58) := pm_of cl303_0 37 (q := (57, .aload_n 0, 58)) rfl
theorem c303_58 : pm_code 303 58 = some (.getfield 89, 61) := pm_of cl303_0 38 (q := (58, .getfield 89, 61)) rfl
theorem c303_61 : pm_code 303 61 = some (.iload_n 2, 62) := pm_of cl303_0 39 (q := (61, .iload_n 2, 62)) rfl
theorem cl303_1 : ([(62, .baload, 63), (63, .ifCond .eq 37, 66), (66, .aload_n 0, 67), (67, .getfield 93, 70), (70, .iload_n 2, 71), (71, .iaload, 72), (72, .aload_n 0, 73), (73, .getfield 74, 76), (76, .iconst 2, 77), (77, .iload_n 3, 78), (78, .imul, 79), (79, .iaload, 80), (80, .invokestatic 428, 83), (83, .aload_n 0, 84), (84, .getfield 74, 87), (87, .iconst 2, 88), (88, .iload_n 3, 89), (89, .imul, 90), (90, .iconst 1, 91), (91, .iadd, 92), (92, .iaload, 93), (93, .if_icmp .ne 7, 96), (96, .iconst 1, 97), (97, .goto 4, 100), (100, .iconst 0, 101), (101, .bastore, 102), (102, .iinc 3 1, 105), (105, .goto (-61), 108), (108, .iinc 2 1, 111), (111, .goto (-105), 114), (114, .return_, 115)] : List (Nat × Instr × Nat)).all (fun q => decide (pm_code 303 q.1 = some q.2)) = true := by decide +kernel
theorem c303_62 : pm_code 303 62 = some (.baload, 63) := pm_of cl303_1 0 (q := (62, .baload, 63)) rfl
theorem c303_63 : pm_code 303 63 = some (.ifCond .eq 37, 66) := pm_of cl303_1 1 (q := (63, .ifCond .eq 37, 66)) rfl
theorem c303_66 : pm_code 303 66 = some (.aload_n 0, 67) := pm_of cl303_1 2 (q := (66, .aload_n 0, 67)) rfl
theorem c303_67 : pm_code 303 67 = some (.getfield 93, 70) := pm_of cl303_1 3 (q := (67, .getfield 93, 70)) rfl
theorem c303_70 : pm_code 303 70 = some (.iload_n 2, 71) := pm_of cl303_1 4 (q := (70, .iload_n 2, 71)) rfl
theorem c303_71 : pm_code 303 71 = some (.iaload, 72) := pm_of cl303_1 5 (q := (71, .iaload, 72)) rfl
theorem c303_72 : pm_code 303 72 = some (.aload_n 0, 73) := pm_of cl303_1 6 (q := (72, .aload_n 0, 73)) rfl
theorem c303_73 : pm_code 303 73 = some (.getfield 74, 76) := pm_of cl303_1 7 (q := (73, .getfield 74, 76)) rfl
theorem c303_76 : pm_code 303 76 = some (.iconst 2, 77) := pm_of cl303_1 8 (q := (76, .iconst 2, 77)) rfl
theorem c303_77 : pm_code 303 77 = some (.iload_n 3, 78) := pm_of cl303_1 9 (q := (77, .iload_n 3, 78)) rfl
theorem c303_78 : pm_code 303 78 = some (.imul, 79) := pm_of cl303_1 10 (q := (78, .imul, 79)) rfl
theorem c303_79 : pm_code 303 79 = some (.iaload, 80) := pm_of cl303_1 11 (q := (79, .iaload, 80)) rfl
theorem c303_80 : pm_code 303 80 = some (.invokestatic 428, 83) := pm_of cl303_1 12 (q := (80, .invokestatic 428, 83)) rfl
theorem c303_83 : pm_code 303 83 = some (.aload_n 0, 84) := pm_of cl303_1 13 (q := (83, .aload_n 0, 84)) rfl
theorem c303_84 : pm_code 303 84 = some (.getfield 74, 87) := pm_of cl303_1 14 (q := (84, .getfield 74, 87)) rfl
theorem c303_87 : pm_code 303 87 = some (.iconst 2, 88) := pm_of cl303_1 15 (q := (87, .iconst 2, 88)) rfl
theorem c303_88 : pm_code 303 88 = some (.iload_n 3, 89) := pm_of cl303_1 16 (q := (88, .iload_n 3, 89)) rfl
theorem c303_89 : pm_code 303 89 = some (.imul, 90) := pm_of cl303_1 17 (q := (89, .imul, 90)) rfl
theorem c303_90 : pm_code 303 90 = some (.iconst 1, 91) := pm_of cl303_1 18 (q := (90, .iconst 1, 91)) rfl
theorem c303_91 : pm_code 303 91 = some (.iadd, 92) := pm_of cl303_1 19 (q := (91, .iadd, 92)) rfl
theorem c303_92 : pm_code 303 92 = some (.iaload, 93) := pm_of cl303_1 20 (q := (92, .iaload, 93)) rfl
theorem c303_93 : pm_code 303 93 = some (.if_icmp .ne 7, 96) := pm_of cl303_1 21 (q := (93, .if_icmp .ne 7, 96)) rfl
theorem c303_96 : pm_code 303 96 = some (.iconst 1, 97) := pm_of cl303_1 22 (q := (96, .iconst 1, 97)) rfl
theorem c303_97 : pm_code 303 97 = some (.goto 4, 100) := pm_of cl303_1 23 (q := (97, .goto 4, 100)) rfl
theorem c303_100 : pm_code 303 100 = some (.iconst 0, 101) := pm_of cl303_1 24 (q := (100, .iconst 0, 101)) rfl
theorem c303_101 : pm_code 303 101 = some (.bastore, 102) := pm_of cl303_1 25 (q := (101, .bastore, 102)) rfl
theorem c303_102 : pm_code 303 102 = some (.iinc 3 1, 105) := pm_of cl303_1 26 (q := (102, .iinc 3 1, 105)) rfl
theorem c303_105 : pm_code 303 105 = some (.goto (-61), 108) := pm_of cl303_1 27 (q := (105, .goto (-61), 108)) rfl
theorem c303_108 : pm_code 303 108 = some (.iinc 2 1, 111) := pm_of cl303_1 28 (q := (108, .iinc 2 1, 111)) rfl
theorem c303_111 : pm_code 303 111 = some (.goto (-105), 114) := pm_of cl303_1 29 (q := (111, .goto (-105), 114)) rfl
theorem c303_114 : pm_code 303 114 = some (.return_, 115) := pm_of cl303_1 30 (q := (114, .return_, 115)) rfl
theorem k304 : pm_k 304 = 12 := by decide +kernel
theorem ml304 : pm_ml 304 = 2 := by decide +kernel
theorem rt304 : pm_rt 304 = (some .int) := by decide +kernel
theorem hh304 : pm_hh 304 = [] := by decide +kernel
theorem rc304 : pm_cl 12 = (pm_y 304).cls := by decide +kernel
theorem cl304_0 : ([(0, .iload_n 0, 1), (1, .iload_n 1, 2), (2, .if_icmp .le 9, 5), (5, .iload_n 0, 6), (6, .iload_n 1, 7), (7, .isub, 8), (8, .goto 4, 11), (11, .iconst 0, 12), (12, .ireturn, 13)] : List (Nat × Instr × Nat)).all (fun q => decide (pm_code 304 q.1 = some q.2)) = true := by decide +kernel
theorem c304_0 : pm_code 304 0 = some (.iload_n 0, 1) := pm_of cl304_0 0 (q := (0, .iload_n 0, 1)) rfl
theorem c304_1 : pm_code 304 1 = some (.iload_n 1, 2) := pm_of cl304_0 1 (q := (1, .iload_n 1, 2)) rfl
theorem c304_2 : pm_code 304 2 = some (.if_icmp .le 9, 5) := pm_of cl304_0 2 (q := (2, .if_icmp .le 9, 5)) rfl
theorem c304_5 : pm_code 304 5 = some (.iload_n 0, 6) := pm_of cl304_0 3 (q := (5, .iload_n 0, 6)) rfl
theorem c304_6 : pm_code 304 6 = some (.iload_n 1, 7) := pm_of cl304_0 4 (q := (6, .iload_n 1, 7)) rfl
theorem c304_7 : pm_code 304 7 = some (.isub, 8) := pm_of cl304_0 5 (q := (7, .isub, 8)) rfl
theorem c304_8 : pm_code 304 8 = some (.goto 4, 11) := pm_of cl304_0 6 (q := (8, .goto 4, 11)) rfl
theorem c304_11 : pm_code 304 11 = some (.iconst 0, 12) := pm_of cl304_0 7 (q := (11, .iconst 0, 12)) rfl
theorem c304_12 : pm_code 304 12 = some (.ireturn, 13) := pm_of cl304_0 8 (q := (12, .ireturn, 13)) rfl
theorem k305 : pm_k 305 = 12 := by decide +kernel
theorem ml305 : pm_ml 305 = 7 := by decide +kernel
theorem rt305 : pm_rt 305 = (some .int) := by decide +kernel
theorem hh305 : pm_hh 305 = [] := by decide +kernel
theorem rc305 : pm_cl 12 = (pm_y 305).cls := by decide +kernel
theorem cl305_0 : ([(0, .aload_n 0, 1), (1, .iconst 0, 2), (2, .putfield 3, 5), (5, .aload_n 0, 6), (6, .iload_n 1, 7), (7, .iconst 1, 8), (8, .invokevirtual 404, 11), (11, .ifCond .eq 18, 14), (14, .aload_n 0, 15), (15, .iload_n 2, 16), (16, .iconst 0, 17), (17, .iconst 1, 18), (18, .invokestatic 290, 21), (21, .iconst 2, 22), (22, .iconst 1, 23), (23, .invokevirtual 207, 26), (26, .ifCond .ne 5, 29), (29, .iconst 0, 30), (30, .ireturn, 31), (31, .aload_n 0, 32), (32, .iload_n 1, 33), (33, .invokevirtual 431, 36), (36, .iconst (-1), 37), (37, .istore_n 3, 38), (38, .iconst (-1), 39), (39, .istore 4, 41), (41, .iconst 0, 42), (42, .istore 5, 44), (44, .iload 5, 46), (46, .sipush 500, 49), (49, .if_icmp .ge 51, 52), (52, .aload_n 0, 53), (53, .iload 5, 55), (55, .invokevirtual 434, 58), (58, .ifCond .eq 6, 61), (61, .goto 33, 64), (64, .aload_n 0, 65), (65, .iload 5, 67), (67, .invokevirtual 437, 70), (70, .istore 6, 72)] : List (Nat × Instr × Nat)).all (fun q => decide (pm_code 305 q.1 = some q.2)) = true := by decide +kernel
theorem c305_0 : pm_code 305 0 = some (.aload_n 0, 1) := pm_of cl305_0 0 (q := (0, .aload_n 0, 1)) rfl
theorem c305_1 : pm_code 305 1 = some (.iconst 0, 2) := pm_of cl305_0 1 (q := (1, .iconst 0, 2)) rfl
theorem c305_2 : pm_code 305 2 = some (.putfield 3, 5) := pm_of cl305_0 2 (q := (2, .putfield 3, 5)) rfl
theorem c305_5 : pm_code 305 5 = some (.aload_n 0, 6) := pm_of cl305_0 3 (q := (5, .aload_n 0, 6)) rfl
theorem c305_6 : pm_code 305 6 = some (.iload_n 1, 7) := pm_of cl305_0 4 (q := (6, .iload_n 1, 7)) rfl
theorem c305_7 : pm_code 305 7 = some (.iconst 1, 8) := pm_of cl305_0 5 (q := (7, .iconst 1, 8)) rfl
theorem c305_8 : pm_code 305 8 = some (.invokevirtual 404, 11) := pm_of cl305_0 6 (q := (8, .invokevirtual 404, 11)) rfl
theorem c305_11 : pm_code 305 11 = some (.ifCond .eq 18, 14) := pm_of cl305_0 7 (q := (11, .ifCond .eq 18, 14)) rfl
theorem c305_14 : pm_code 305 14 = some (.aload_n 0, 15) := pm_of cl305_0 8 (q := (14, .aload_n 0, 15)) rfl
theorem c305_15 : pm_code 305 15 = some (.iload_n 2, 16) := pm_of cl305_0 9 (q := (15, .iload_n 2, 16)) rfl
theorem c305_16 : pm_code 305 16 = some (.iconst 0, 17) := pm_of cl305_0 10 (q := (16, .iconst 0, 17)) rfl
theorem c305_17 : pm_code 305 17 = some (.iconst 1, 18) := pm_of cl305_0 11 (q := (17, .iconst 1, 18)) rfl
theorem c305_18 : pm_code 305 18 = some (.invokestatic 290, 21) := pm_of cl305_0 12 (q := (18, .invokestatic 290, 21)) rfl
theorem c305_21 : pm_code 305 21 = some (.iconst 2, 22) := pm_of cl305_0 13 (q := (21, .iconst 2, 22)) rfl
theorem c305_22 : pm_code 305 22 = some (.iconst 1, 23) := pm_of cl305_0 14 (q := (22, .iconst 1, 23)) rfl
theorem c305_23 : pm_code 305 23 = some (.invokevirtual 207, 26) := pm_of cl305_0 15 (q := (23, .invokevirtual 207, 26)) rfl
theorem c305_26 : pm_code 305 26 = some (.ifCond .ne 5, 29) := pm_of cl305_0 16 (q := (26, .ifCond .ne 5, 29)) rfl
theorem c305_29 : pm_code 305 29 = some (.iconst 0, 30) := pm_of cl305_0 17 (q := (29, .iconst 0, 30)) rfl
theorem c305_30 : pm_code 305 30 = some (.ireturn, 31) := pm_of cl305_0 18 (q := (30, .ireturn, 31)) rfl
theorem c305_31 : pm_code 305 31 = some (.aload_n 0, 32) := pm_of cl305_0 19 (q := (31, .aload_n 0, 32)) rfl
theorem c305_32 : pm_code 305 32 = some (.iload_n 1, 33) := pm_of cl305_0 20 (q := (32, .iload_n 1, 33)) rfl
theorem c305_33 : pm_code 305 33 = some (.invokevirtual 431, 36) := pm_of cl305_0 21 (q := (33, .invokevirtual 431, 36)) rfl
theorem c305_36 : pm_code 305 36 = some (.iconst (-1), 37) := pm_of cl305_0 22 (q := (36, .iconst (-1), 37)) rfl
theorem c305_37 : pm_code 305 37 = some (.istore_n 3, 38) := pm_of cl305_0 23 (q := (37, .istore_n 3, 38)) rfl
theorem c305_38 : pm_code 305 38 = some (.iconst (-1), 39) := pm_of cl305_0 24 (q := (38, .iconst (-1), 39)) rfl
theorem c305_39 : pm_code 305 39 = some (.istore 4, 41) := pm_of cl305_0 25 (q := (39, .istore 4, 41)) rfl
theorem c305_41 : pm_code 305 41 = some (.iconst 0, 42) := pm_of cl305_0 26 (q := (41, .iconst 0, 42)) rfl
theorem c305_42 : pm_code 305 42 = some (.istore 5, 44) := pm_of cl305_0 27 (q := (42, .istore 5, 44)) rfl
theorem c305_44 : pm_code 305 44 = some (.iload 5, 46) := pm_of cl305_0 28 (q := (44, .iload 5, 46)) rfl
theorem c305_46 : pm_code 305 46 = some (.sipush 500, 49) := pm_of cl305_0 29 (q := (46, .sipush 500, 49)) rfl
theorem c305_49 : pm_code 305 49 = some (.if_icmp .ge 51, 52) := pm_of cl305_0 30 (q := (49, .if_icmp .ge 51, 52)) rfl
theorem c305_52 : pm_code 305 52 = some (.aload_n 0, 53) := pm_of cl305_0 31 (q := (52, .aload_n 0, 53)) rfl
theorem c305_53 : pm_code 305 53 = some (.iload 5, 55) := pm_of cl305_0 32 (q := (53, .iload 5, 55)) rfl
theorem c305_55 : pm_code 305 55 = some (.invokevirtual 434, 58) := pm_of cl305_0 33 (q := (55, .invokevirtual 434, 58)) rfl
theorem c305_58 : pm_code 305 58 = some (.ifCond .eq 6, 61) := pm_of cl305_0 34 (q := (58, .ifCond .eq 6, 61)) rfl
theorem c305_61 : pm_code 305 61 = some (.goto 33, 64) := pm_of cl305_0 35 (q := (61, .goto 33, 64)) rfl
theorem c305_64 : pm_code 305 64 = some (.aload_n 0, 65) := pm_of cl305_0 36 (q := (64, .aload_n 0, 65)) rfl
theorem c305_65 : pm_code 305 65 = some (.iload 5, 67) := pm_of cl305_0 37 (q := (65, .iload 5, 67)) rfl
theorem c305_67 : pm_code 305 67 = some (.invokevirtual 437, 70) := pm_of cl305_0 38 (q := (67, .invokevirtual 437, 70)) rfl
theorem c305_70 : pm_code 305 70 = some (.istore 6, 72) := pm_of cl305_0 39 (q := (70, .istore 6, 72)) rfl
theorem cl305_1 : ([(72, .iload_n 3, 73), (73, .iconst (-1), 74), (74, .if_icmp .eq 13, 77), (77, .iload 6, 79), (79, .iload 4, 81), (81, .if_icmp .lt 6, 84), (84, .goto 10, 87), (87, .iload 5, 89), (89, .istore_n 3, 90), (90, .iload 6, 92), (92, .istore 4, 94), (94, .iinc 5 1, 97), (97, .goto (-53), 100), (100, .iload_n 2, 101), (101, .ifCond .ne 7, 104), (104, .iload_n 3, 105), (105, .goto 5, 108), (108, .iload 4, 110), (110, .ireturn, 111)] : List (Nat × Instr × Nat)).all (fun q => decide (pm_code 305 q.1 = some q.2)) = true := by decide +kernel
theorem c305_72 : pm_code 305 72 = some (.iload_n 3, 73) := pm_of cl305_1 0 (q := (72, .iload_n 3, 73)) rfl
theorem c305_73 : pm_code 305 73 = some (.iconst (-1), 74) := pm_of cl305_1 1 (q := (73, .iconst (-1), 74)) rfl
theorem c305_74 : pm_code 305 74 = some (.if_icmp .eq 13, 77) := pm_of cl305_1 2 (q := (74, .if_icmp .eq 13, 77)) rfl
theorem c305_77 : pm_code 305 77 = some (.iload 6, 79) := pm_of cl305_1 3 (q := (77, .iload 6, 79)) rfl
theorem c305_79 : pm_code 305 79 = some (.iload 4, 81) := pm_of cl305_1 4 (q := (79, .iload 4, 81)) rfl
theorem c305_81 : pm_code 305 81 = some (.if_icmp .lt 6, 84) := pm_of cl305_1 5 (q := (81, .if_icmp .lt 6, 84)) rfl
theorem c305_84 : pm_code 305 84 = some (.goto 10, 87) := pm_of cl305_1 6 (q := (84, .goto 10, 87)) rfl
theorem c305_87 : pm_code 305 87 = some (.iload 5, 89) := pm_of cl305_1 7 (q := (87, .iload 5, 89)) rfl
theorem c305_89 : pm_code 305 89 = some (.istore_n 3, 90) := pm_of cl305_1 8 (q := (89, .istore_n 3, 90)) rfl
theorem c305_90 : pm_code 305 90 = some (.iload 6, 92) := pm_of cl305_1 9 (q := (90, .iload 6, 92)) rfl
theorem c305_92 : pm_code 305 92 = some (.istore 4, 94) := pm_of cl305_1 10 (q := (92, .istore 4, 94)) rfl
theorem c305_94 : pm_code 305 94 = some (.iinc 5 1, 97) := pm_of cl305_1 11 (q := (94, .iinc 5 1, 97)) rfl
theorem c305_97 : pm_code 305 97 = some (.goto (-53), 100) := pm_of cl305_1 12 (q := (97, .goto (-53), 100)) rfl
theorem c305_100 : pm_code 305 100 = some (.iload_n 2, 101) := pm_of cl305_1 13 (q := (100, .iload_n 2, 101)) rfl
theorem c305_101 : pm_code 305 101 = some (.ifCond .ne 7, 104) := pm_of cl305_1 14 (q := (101, .ifCond .ne 7, 104)) rfl
theorem c305_104 : pm_code 305 104 = some (.iload_n 3, 105) := pm_of cl305_1 15 (q := (104, .iload_n 3, 105)) rfl
theorem c305_105 : pm_code 305 105 = some (.goto 5, 108) := pm_of cl305_1 16 (q := (105, .goto 5, 108)) rfl
theorem c305_108 : pm_code 305 108 = some (.iload 4, 110) := pm_of cl305_1 17 (q := (108, .iload 4, 110)) rfl
theorem c305_110 : pm_code 305 110 = some (.ireturn, 111) := pm_of cl305_1 18 (q := (110, .ireturn, 111)) rfl
theorem k306 : pm_k 306 = 12 := by decide +kernel
theorem ml306 : pm_ml 306 = 3 := by decide +kernel
theorem rt306 : pm_rt 306 = (some .boolean) := by decide +kernel
theorem hh306 : pm_hh 306 = [] := by decide +kernel
theorem rc306 : pm_cl 12 = (pm_y 306).cls := by decide +kernel
theorem cl306_0 : ([(0, .iconst 0, 1), (1, .istore_n 2, 2), (2, .iload_n 2, 3), (3, .aload_n 0, 4), (4, .getfield 182, 7), (7, .if_icmp .ge 23, 10), (10, .aload_n 0, 11), (11, .getfield 74, 14), (14, .iconst 2, 15), (15, .iload_n 2, 16), (16, .imul, 17), (17, .iaload, 18), (18, .iload_n 1, 19), (19, .if_icmp .ne 5, 22), (22, .iconst 1, 23), (23, .ireturn, 24), (24, .iinc 2 1, 27), (27, .goto (-25), 30), (30, .iconst 0, 31), (31, .ireturn, 32)] : List (Nat × Instr × Nat)).all (fun q => decide (pm_code 306 q.1 = some q.2)) = true := by decide +kernel
theorem c306_0 : pm_code 306 0 = some (.iconst 0, 1) := pm_of cl306_0 0 (q := (0, .iconst 0, 1)) rfl
theorem c306_1 : pm_code 306 1 = some (.istore_n 2, 2) := pm_of cl306_0 1 (q := (1, .istore_n 2, 2)) rfl
theorem c306_2 : pm_code 306 2 = some (.iload_n 2, 3) := pm_of cl306_0 2 (q := (2, .iload_n 2, 3)) rfl
theorem c306_3 : pm_code 306 3 = some (.aload_n 0, 4) := pm_of cl306_0 3 (q := (3, .aload_n 0, 4)) rfl
theorem c306_4 : pm_code 306 4 = some (.getfield 182, 7) := pm_of cl306_0 4 (q := (4, .getfield 182, 7)) rfl
theorem c306_7 : pm_code 306 7 = some (.if_icmp .ge 23, 10) := pm_of cl306_0 5 (q := (7, .if_icmp .ge 23, 10)) rfl
theorem c306_10 : pm_code 306 10 = some (.aload_n 0, 11) := pm_of cl306_0 6 (q := (10, .aload_n 0, 11)) rfl
theorem c306_11 : pm_code 306 11 = some (.getfield 74, 14) := pm_of cl306_0 7 (q := (11, .getfield 74, 14)) rfl
theorem c306_14 : pm_code 306 14 = some (.iconst 2, 15) := pm_of cl306_0 8 (q := (14, .iconst 2, 15)) rfl
theorem c306_15 : pm_code 306 15 = some (.iload_n 2, 16) := pm_of cl306_0 9 (q := (15, .iload_n 2, 16)) rfl
theorem c306_16 : pm_code 306 16 = some (.imul, 17) := pm_of cl306_0 10 (q := (16, .imul, 17)) rfl
theorem c306_17 : pm_code 306 17 = some (.iaload, 18) := pm_of cl306_0 11 (q := (17, .iaload, 18)) rfl
theorem c306_18 : pm_code 306 18 = some (.iload_n 1, 19) := pm_of cl306_0 12 (q := (18, .iload_n 1, 19)) rfl
theorem c306_19 : pm_code 306 19 = some (.if_icmp .ne 5, 22) := pm_of cl306_0 13 (q := (19, .if_icmp .ne 5, 22)) rfl
theorem c306_22 : pm_code 306 22 = some (.iconst 1, 23) := pm_of cl306_0 14 (q := (22, .iconst 1, 23)) rfl
theorem c306_23 : pm_code 306 23 = some (.ireturn, 24) := pm_of cl306_0 15 (q := (23, .ireturn, 24)) rfl
theorem c306_24 : pm_code 306 24 = some (.iinc 2 1, 27) := pm_of cl306_0 16 (q := (24, .iinc 2 1, 27)) rfl
theorem c306_27 : pm_code 306 27 = some (.goto (-25), 30) := pm_of cl306_0 17 (q := (27, .goto (-25), 30)) rfl
theorem c306_30 : pm_code 306 30 = some (.iconst 0, 31) := pm_of cl306_0 18 (q := (30, .iconst 0, 31)) rfl
theorem c306_31 : pm_code 306 31 = some (.ireturn, 32) := pm_of cl306_0 19 (q := (31, .ireturn, 32)) rfl
theorem k307 : pm_k 307 = 12 := by decide +kernel
theorem ml307 : pm_ml 307 = 5 := by decide +kernel
theorem rt307 : pm_rt 307 = (some .int) := by decide +kernel
theorem hh307 : pm_hh 307 = [] := by decide +kernel
theorem rc307 : pm_cl 12 = (pm_y 307).cls := by decide +kernel
theorem cl307_0 : ([(0, .iconst 0, 1), (1, .istore_n 2, 2), (2, .iload_n 2, 3), (3, .sipush 1000, 6), (6, .if_icmp .ge 16, 9), (9, .aload_n 0, 10), (10, .getfield 96, 13), (13, .iload_n 2, 14), (14, .iconst 0, 15), (15, .iastore, 16), (16, .iinc 2 1, 19), (19, .goto (-17), 22), (22, .iconst 0, 23), (23, .istore_n 2, 24), (24, .iconst 0, 25), (25, .istore_n 3, 26), (26, .iload_n 3, 27), (27, .sipush 225, 30), (30, .if_icmp .ge 67, 33), (33, .aload_n 0, 34), (34, .getfield 89, 37), (37, .iload_n 3, 38), (38, .baload, 39), (39, .ifCond .ne 6, 42), (42, .goto 49, 45), (45, .aload_n 0, 46), (46, .getfield 93, 49), (49, .iload_n 3, 50), (50, .iaload, 51), (51, .iload_n 1, 52), (52, .invokestatic 428, 55), (55, .istore 4, 57), (57, .aload_n 0, 58), (58, .getfield 96, 61), (61, .iload 4, 63), (63, .dup2, 64), (64, .iaload, 65), (65, .iconst 1, 66), (66, .iadd, 67), (67, .iastore, 68)] : List (Nat × Instr × Nat)).all (fun q => decide (pm_code 307 q.1 = some q.2)) = true := by decide +kernel
theorem c307_0 : pm_code 307 0 = some (.iconst 0, 1) := pm_of cl307_0 0 (q := (0, .iconst 0, 1)) rfl
theorem c307_1 : pm_code 307 1 = some (.istore_n 2, 2) := pm_of cl307_0 1 (q := (1, .istore_n 2, 2)) rfl
theorem c307_2 : pm_code 307 2 = some (.iload_n 2, 3) := pm_of cl307_0 2 (q := (2, .iload_n 2, 3)) rfl
theorem c307_3 : pm_code 307 3 = some (.sipush 1000, 6) := pm_of cl307_0 3 (q := (3, .sipush 1000, 6)) rfl
theorem c307_6 : pm_code 307 6 = some (.if_icmp .ge 16, 9) := pm_of cl307_0 4 (q := (6, .if_icmp .ge 16, 9)) rfl
theorem c307_9 : pm_code 307 9 = some (.aload_n 0, 10) := pm_of cl307_0 5 (q := (9, .aload_n 0, 10)) rfl
theorem c307_10 : pm_code 307 10 = some (.getfield 96, 13) := pm_of cl307_0 6 (q := (10, .getfield 96, 13)) rfl
theorem c307_13 : pm_code 307 13 = some (.iload_n 2, 14) := pm_of cl307_0 7 (q := (13, .iload_n 2, 14)) rfl
theorem c307_14 : pm_code 307 14 = some (.iconst 0, 15) := pm_of cl307_0 8 (q := (14, .iconst 0, 15)) rfl
theorem c307_15 : pm_code 307 15 = some (.iastore, 16) := pm_of cl307_0 9 (q := (15, .iastore, 16)) rfl
theorem c307_16 : pm_code 307 16 = some (.iinc 2 1, 19) := pm_of cl307_0 10 (q := (16, .iinc 2 1, 19)) rfl
theorem c307_19 : pm_code 307 19 = some (.goto (-17), 22) := pm_of cl307_0 11 (q := (19, .goto (-17), 22)) rfl
theorem c307_22 : pm_code 307 22 = some (.iconst 0, 23) := pm_of cl307_0 12 (q := (22, .iconst 0, 23)) rfl
theorem c307_23 : pm_code 307 23 = some (.istore_n 2, 24) := pm_of cl307_0 13 (q := (23, .istore_n 2, 24)) rfl
theorem c307_24 : pm_code 307 24 = some (.iconst 0, 25) := pm_of cl307_0 14 (q := (24, .iconst 0, 25)) rfl
theorem c307_25 : pm_code 307 25 = some (.istore_n 3, 26) := pm_of cl307_0 15 (q := (25, .istore_n 3, 26)) rfl
theorem c307_26 : pm_code 307 26 = some (.iload_n 3, 27) := pm_of cl307_0 16 (q := (26, .iload_n 3, 27)) rfl
theorem c307_27 : pm_code 307 27 = some (.sipush 225, 30) := pm_of cl307_0 17 (q := (27, .sipush 225, 30)) rfl
theorem c307_30 : pm_code 307 30 = some (.if_icmp .ge 67, 33) := pm_of cl307_0 18 (q := (30, .if_icmp .ge 67, 33)) rfl
theorem c307_33 : pm_code 307 33 = some (.aload_n 0, 34) := pm_of cl307_0 19 (q := (33, .aload_n 0, 34)) rfl
theorem c307_34 : pm_code 307 34 = some (.getfield 89, 37) := pm_of cl307_0 20 (q := (34, .getfield 89, 37)) rfl
theorem c307_37 : pm_code 307 37 = some (.iload_n 3, 38) := pm_of cl307_0 21 (q := (37, .iload_n 3, 38)) rfl
theorem c307_38 : pm_code 307 38 = some (.baload, 39) := pm_of cl307_0 22 (q := (38, .baload, 39)) rfl
theorem c307_39 : pm_code 307 39 = some (.ifCond .ne 6, 42) := pm_of cl307_0 23 (q := (39, .ifCond .ne 6, 42)) rfl
theorem c307_42 : pm_code 307 42 = some (.goto 49, 45) := pm_of cl307_0 24 (q := (42, .goto 49, 45)) rfl
theorem c307_45 : pm_code 307 45 = some (.aload_n 0, 46) := pm_of cl307_0 25 (q := (45, .aload_n 0, 46)) rfl
theorem c307_46 : pm_code 307 46 = some (.getfield 93, 49) := pm_of cl307_0 26 (q := (46, .getfield 93, 49)) rfl
theorem c307_49 : pm_code 307 49 = some (.iload_n 3, 50) := pm_of cl307_0 27 (q := (49, .iload_n 3, 50)) rfl
theorem c307_50 : pm_code 307 50 = some (.iaload, 51) := pm_of cl307_0 28 (q := (50, .iaload, 51)) rfl
theorem c307_51 : pm_code 307 51 = some (.iload_n 1, 52) := pm_of cl307_0 29 (q := (51, .iload_n 1, 52)) rfl
theorem c307_52 : pm_code 307 52 = some (.invokestatic 428, 55) := pm_of cl307_0 30 (q := (52, .invokestatic 428, 55)) rfl
theorem c307_55 : pm_code 307 55 = some (.istore 4, 57) := pm_of cl307_0 31 (q := (55, .istore 4, 57)) rfl
theorem c307_57 : pm_code 307 57 = some (.aload_n 0, 58) := pm_of cl307_0 32 (q := (57, .aload_n 0, 58)) rfl
theorem c307_58 : pm_code 307 58 = some (.getfield 96, 61) := pm_of cl307_0 33 (q := (58, .getfield 96, 61)) rfl
theorem c307_61 : pm_code 307 61 = some (.iload 4, 63) := pm_of cl307_0 34 (q := (61, .iload 4, 63)) rfl
theorem c307_63 : pm_code 307 63 = some (.dup2, 64) := pm_of cl307_0 35 (q := (63, .dup2, 64)) rfl
theorem c307_64 : pm_code 307 64 = some (.iaload, 65) := pm_of cl307_0 36 (q := (64, .iaload, 65)) rfl
theorem c307_65 : pm_code 307 65 = some (.iconst 1, 66) := pm_of cl307_0 37 (q := (65, .iconst 1, 66)) rfl
theorem c307_66 : pm_code 307 66 = some (.iadd, 67) := pm_of cl307_0 38 (q := (66, .iadd, 67)) rfl
theorem c307_67 : pm_code 307 67 = some (.iastore, 68) := pm_of cl307_0 39 (q := (67, .iastore, 68)) rfl
theorem cl307_1 : ([(68, .aload_n 0, 69), (69, .getfield 96, 72), (72, .iload 4, 74), (74, .iaload, 75), (75, .iload_n 2, 76), (76, .if_icmp .le 13, 79), (79, .aload_n 0, 80), (80, .getfield 96, 83), (83, .iload 4, 85), (85, .iaload, 86), (86, .goto 4, 89), (89, .iload_n 2, 90), (90, .istore_n 2, 91), (91, .iinc 3 1, 94), (94, .goto (-68), 97), (97, .iload_n 2, 98), (98, .ireturn, 99)] : List (Nat × Instr × Nat)).all (fun q => decide (pm_code 307 q.1 = some q.2)) = true := by decide +kernel
theorem c307_68 : pm_code 307 68 = some (.aload_n 0, 69) := pm_of cl307_1 0 (q := (68, .aload_n 0, 69)) rfl
theorem c307_69 : pm_code 307 69 = some (.getfield 96, 72) := pm_of cl307_1 1 (q := (69, .getfield 96, 72)) rfl
theorem c307_72 : pm_code 307 72 = some (.iload 4, 74) := pm_of cl307_1 2 (q := (72, .iload 4, 74)) rfl
theorem c307_74 : pm_code 307 74 = some (.iaload, 75) := pm_of cl307_1 3 (q := (74, .iaload, 75)) rfl
theorem c307_75 : pm_code 307 75 = some (.iload_n 2, 76) := pm_of cl307_1 4 (q := (75, .iload_n 2, 76)) rfl
theorem c307_76 : pm_code 307 76 = some (.if_icmp .le 13, 79) := pm_of cl307_1 5 (q := (76, .if_icmp .le 13, 79)) rfl
theorem c307_79 : pm_code 307 79 = some (.aload_n 0, 80) := pm_of cl307_1 6 (q := (79, .aload_n 0, 80)) rfl
theorem c307_80 : pm_code 307 80 = some (.getfield 96, 83) := pm_of cl307_1 7 (q := (80, .getfield 96, 83)) rfl
theorem c307_83 : pm_code 307 83 = some (.iload 4, 85) := pm_of cl307_1 8 (q := (83, .iload 4, 85)) rfl
theorem c307_85 : pm_code 307 85 = some (.iaload, 86) := pm_of cl307_1 9 (q := (85, .iaload, 86)) rfl
theorem c307_86 : pm_code 307 86 = some (.goto 4, 89) := pm_of cl307_1 10 (q := (86, .goto 4, 89)) rfl
theorem c307_89 : pm_code 307 89 = some (.iload_n 2, 90) := pm_of cl307_1 11 (q := (89, .iload_n 2, 90)) rfl
theorem c307_90 : pm_code 307 90 = some (.istore_n 2, 91) := pm_of cl307_1 12 (q := (90, .istore_n 2, 91)) rfl
theorem c307_91 : pm_code 307 91 = some (.iinc 3 1, 94) := pm_of cl307_1 13 (q := (91, .iinc 3 1, 94)) rfl
theorem c307_94 : pm_code 307 94 = some (.goto (-68), 97) := pm_of cl307_1 14 (q := (94, .goto (-68), 97)) rfl
theorem c307_97 : pm_code 307 97 = some (.iload_n 2, 98) := pm_of cl307_1 15 (q := (97, .iload_n 2, 98)) rfl
theorem c307_98 : pm_code 307 98 = some (.ireturn, 99) := pm_of cl307_1 16 (q := (98, .ireturn, 99)) rfl
theorem k308 : pm_k 308 = 12 := by decide +kernel
theorem ml308 : pm_ml 308 = 4 := by decide +kernel
theorem rt308 : pm_rt 308 = (some .long) := by decide +kernel
theorem hh308 : pm_hh 308 = [] := by decide +kernel
theorem rc308 : pm_cl 12 = (pm_y 308).cls := by decide +kernel
theorem cl308_0 : ([(0, .aload_n 0, 1), (1, .iconst 0, 2), (2, .putfield 3, 5), (5, .aload_n 0, 6), (6, .iload_n 1, 7), (7, .iconst 1, 8), (8, .bipush 9, 10), (10, .invokestatic 290, 13), (13, .ifCond .eq 33, 16), (16, .iload_n 1, 17), (17, .iconst 2, 18), (18, .irem, 19), (19, .iconst 1, 20), (20, .if_icmp .ne 26, 23), (23, .iload_n 2, 24), (24, .iconst 0, 25), (25, .bipush 16, 27), (27, .invokestatic 290, 30), (30, .ifCond .eq 16, 33), (33, .iload_n 3, 34), (34, .iconst 0, 35), (35, .iconst 1, 36), (36, .invokestatic 290, 39), (39, .ifCond .eq 7, 42), (42, .iconst 1, 43), (43, .goto 4, 46), (46, .iconst 0, 47), (47, .iconst 1, 48), (48, .iconst 1, 49), (49, .invokevirtual 207, 52), (52, .ifCond .ne 5, 55), (55, .lconst 0, 56), (56, .lreturn, 57), (57, .iload_n 1, 58), (58, .iload_n 2, 59), (59, .invokestatic 444, 62), (62, .ldc2_w 448, 65), (65, .iload_n 1, 66), (66, .invokestatic 440, 69), (69, .iload_n 3, 70)] : List (Nat × Instr × Nat)).all (fun q => decide (pm_code 308 q.1 = some q.2)) = true := by decide +kernel
theorem c308_0 : pm_code 308 0 = some (.aload_n 0, 1) := pm_of cl308_0 0 (q := (0, .aload_n 0, 1)) rfl
theorem c308_1 : pm_code 308 1 = some (.iconst 0, 2) := pm_of cl308_0 1 (q := (1, .iconst 0, 2)) rfl
theorem c308_2 : pm_code 308 2 = some (.putfield 3, 5) := pm_of cl308_0 2 (q := (2, .putfield 3, 5)) rfl
theorem c308_5 : pm_code 308 5 = some (.aload_n 0, 6) := pm_of cl308_0 3 (q := (5, .aload_n 0, 6)) rfl
theorem c308_6 : pm_code 308 6 = some (.iload_n 1, 7) := pm_of cl308_0 4 (q := (6, .iload_n 1, 7)) rfl
theorem c308_7 : pm_code 308 7 = some (.iconst 1, 8) := pm_of cl308_0 5 (q := (7, .iconst 1, 8)) rfl
theorem c308_8 : pm_code 308 8 = some (.bipush 9, 10) := pm_of cl308_0 6 (q := (8, .bipush 9, 10)) rfl
theorem c308_10 : pm_code 308 10 = some (.invokestatic 290, 13) := pm_of cl308_0 7 (q := (10, .invokestatic 290, 13)) rfl
theorem c308_13 : pm_code 308 13 = some (.ifCond .eq 33, 16) := pm_of cl308_0 8 (q := (13, .ifCond .eq 33, 16)) rfl
theorem c308_16 : pm_code 308 16 = some (.iload_n 1, 17) := pm_of cl308_0 9 (q := (16, .iload_n 1, 17)) rfl
theorem c308_17 : pm_code 308 17 = some (.iconst 2, 18) := pm_of cl308_0 10 (q := (17, .iconst 2, 18)) rfl
theorem c308_18 : pm_code 308 18 = some (.irem, 19) := pm_of cl308_0 11 (q := (18, .irem, 19)) rfl
theorem c308_19 : pm_code 308 19 = some (.iconst 1, 20) := pm_of cl308_0 12 (q := (19, .iconst 1, 20)) rfl
theorem c308_20 : pm_code 308 20 = some (.if_icmp .ne 26, 23) := pm_of cl308_0 13 (q := (20, .if_icmp .ne 26, 23)) rfl
theorem c308_23 : pm_code 308 23 = some (.iload_n 2, 24) := pm_of cl308_0 14 (q := (23, .iload_n 2, 24)) rfl
theorem c308_24 : pm_code 308 24 = some (.iconst 0, 25) := pm_of cl308_0 15 (q := (24, .iconst 0, 25)) rfl
theorem c308_25 : pm_code 308 25 = some (.bipush 16, 27) := pm_of cl308_0 16 (q := (25, .bipush 16, 27)) rfl
theorem c308_27 : pm_code 308 27 = some (.invokestatic 290, 30) := pm_of cl308_0 17 (q := (27, .invokestatic 290, 30)) rfl
theorem c308_30 : pm_code 308 30 = some (.ifCond .eq 16, 33) := pm_of cl308_0 18 (q := (30, .ifCond .eq 16, 33)) rfl
theorem c308_33 : pm_code 308 33 = some (.iload_n 3, 34) := pm_of cl308_0 19 (q := (33, .iload_n 3, 34)) rfl
theorem c308_34 : pm_code 308 34 = some (.iconst 0, 35) := pm_of cl308_0 20 (q := (34, .iconst 0, 35)) rfl
theorem c308_35 : pm_code 308 35 = some (.iconst 1, 36) := pm_of cl308_0 21 (q := (35, .iconst 1, 36)) rfl
theorem c308_36 : pm_code 308 36 = some (.invokestatic 290, 39) := pm_of cl308_0 22 (q := (36, .invokestatic 290, 39)) rfl
theorem c308_39 : pm_code 308 39 = some (.ifCond .eq 7, 42) := pm_of cl308_0 23 (q := (39, .ifCond .eq 7, 42)) rfl
theorem c308_42 : pm_code 308 42 = some (.iconst 1, 43) := pm_of cl308_0 24 (q := (42, .iconst 1, 43)) rfl
theorem c308_43 : pm_code 308 43 = some (.goto 4, 46) := pm_of cl308_0 25 (q := (43, .goto 4, 46)) rfl
theorem c308_46 : pm_code 308 46 = some (.iconst 0, 47) := pm_of cl308_0 26 (q := (46, .iconst 0, 47)) rfl
theorem c308_47 : pm_code 308 47 = some (.iconst 1, 48) := pm_of cl308_0 27 (q := (47, .iconst 1, 48)) rfl
theorem c308_48 : pm_code 308 48 = some (.iconst 1, 49) := pm_of cl308_0 28 (q := (48, .iconst 1, 49)) rfl
theorem c308_49 : pm_code 308 49 = some (.invokevirtual 207, 52) := pm_of cl308_0 29 (q := (49, .invokevirtual 207, 52)) rfl
theorem c308_52 : pm_code 308 52 = some (.ifCond .ne 5, 55) := pm_of cl308_0 30 (q := (52, .ifCond .ne 5, 55)) rfl
theorem c308_55 : pm_code 308 55 = some (.lconst 0, 56) := pm_of cl308_0 31 (q := (55, .lconst 0, 56)) rfl
theorem c308_56 : pm_code 308 56 = some (.lreturn, 57) := pm_of cl308_0 32 (q := (56, .lreturn, 57)) rfl
theorem c308_57 : pm_code 308 57 = some (.iload_n 1, 58) := pm_of cl308_0 33 (q := (57, .iload_n 1, 58)) rfl
theorem c308_58 : pm_code 308 58 = some (.iload_n 2, 59) := pm_of cl308_0 34 (q := (58, .iload_n 2, 59)) rfl
theorem c308_59 : pm_code 308 59 = some (.invokestatic 444, 62) := pm_of cl308_0 35 (q := (59, .invokestatic 444, 62)) rfl
theorem c308_62 : pm_code 308 62 = some (.ldc2_w 448, 65) := pm_of cl308_0 36 (q := (62, .ldc2_w 448, 65)) rfl
theorem c308_65 : pm_code 308 65 = some (.iload_n 1, 66) := pm_of cl308_0 37 (q := (65, .iload_n 1, 66)) rfl
theorem c308_66 : pm_code 308 66 = some (.invokestatic 440, 69) := pm_of cl308_0 38 (q := (66, .invokestatic 440, 69)) rfl
theorem c308_69 : pm_code 308 69 = some (.iload_n 3, 70) := pm_of cl308_0 39 (q := (69, .iload_n 3, 70)) rfl
theorem cl308_1 : ([(70, .invokestatic 450, 73), (73, .lreturn, 74)] : List (Nat × Instr × Nat)).all (fun q => decide (pm_code 308 q.1 = some q.2)) = true := by decide +kernel
theorem c308_70 : pm_code 308 70 = some (.invokestatic 450, 73) := pm_of cl308_1 0 (q := (70, .invokestatic 450, 73)) rfl
theorem c308_73 : pm_code 308 73 = some (.lreturn, 74) := pm_of cl308_1 1 (q := (73, .lreturn, 74)) rfl
theorem k309 : pm_k 309 = 12 := by decide +kernel
theorem ml309 : pm_ml 309 = 7 := by decide +kernel
theorem rt309 : pm_rt 309 = (some .long) := by decide +kernel
theorem hh309 : pm_hh 309 = [] := by decide +kernel
theorem rc309 : pm_cl 12 = (pm_y 309).cls := by decide +kernel
theorem cl309_0 : ([(0, .lconst 0, 1), (1, .lstore_n 2, 2), (2, .iconst 0, 3), (3, .istore 4, 5), (5, .iload 4, 7), (7, .iconst 1, 8), (8, .iload_n 0, 9), (9, .ishl, 10), (10, .if_icmp .ge 74, 13), (13, .iconst 0, 14), (14, .istore 5, 16), (16, .iconst 0, 17), (17, .istore 6, 19), (19, .iload 6, 21), (21, .iload_n 0, 22), (22, .if_icmp .ge 21, 25), (25, .iload 5, 27), (27, .iload 4, 29), (29, .iload 6, 31), (31, .ishr, 32), (32, .iconst 1, 33), (33, .iand, 34), (34, .iadd, 35), (35, .istore 5, 37), (37, .iinc 6 1, 40), (40, .goto (-21), 43), (43, .lload_n 2, 44), (44, .iconst 2, 45), (45, .iload 5, 47), (47, .imul, 48), (48, .iload_n 0, 49), (49, .if_icmp .le 26, 52), (52, .iload_n 1, 53), (53, .i2l, 54), (54, .iload 5, 56), (56, .invokestatic 440, 59), (59, .bipush 16, 61), (61, .iload_n 1, 62), (62, .isub, 63), (63, .i2l, 64)] : List (Nat × Instr × Nat)).all (fun q => decide (pm_code 309 q.1 = some q.2)) = true := by decide +kernel
theorem c309_0 : pm_code 309 0 = some (.lconst 0, 1) := pm_of cl309_0 0 (q := (0, .lconst 0, 1)) rfl
theorem c309_1 : pm_code 309 1 = some (.lstore_n 2, 2) := pm_of cl309_0 1 (q := (1, .lstore_n 2, 2)) rfl
theorem c309_2 : pm_code 309 2 = some (.iconst 0, 3) := pm_of cl309_0 2 (q := (2, .iconst 0, 3)) rfl
theorem c309_3 : pm_code 309 3 = some (.istore 4, 5) := pm_of cl309_0 3 (q := (3, .istore 4, 5)) rfl
theorem c309_5 : pm_code 309 5 = some (.iload 4, 7) := pm_of cl309_0 4 (q := (5, .iload 4, 7)) rfl
theorem c309_7 : pm_code 309 7 = some (.iconst 1, 8) := pm_of cl309_0 5 (q := (7, .iconst 1, 8)) rfl
theorem c309_8 : pm_code 309 8 = some (.iload_n 0, 9) := pm_of cl309_0 6 (q := (8, .iload_n 0, 9)) rfl
theorem c309_9 : pm_code 309 9 = some (.ishl, 10) := pm_of cl309_0 7 (q := (9, .ishl, 10)) rfl
theorem c309_10 : pm_code 309 10 = some (.if_icmp .ge 74, 13) := pm_of cl309_0 8 (q := (10, .if_icmp .ge 74, 13)) rfl
theorem c309_13 : pm_code 309 13 = some (.iconst 0, 14) := pm_of cl309_0 9 (q := (13, .iconst 0, 14)) rfl
theorem c309_14 : pm_code 309 14 = some (.istore 5, 16) := pm_of cl309_0 10 (q := (14, .istore 5, 16)) rfl
theorem c309_16 : pm_code 309 16 = some (.iconst 0, 17) := pm_of cl309_0 11 (q := (16, .iconst 0, 17)) rfl
theorem c309_17 : pm_code 309 17 = some (.istore 6, 19) := pm_of cl309_0 12 (q := (17, .istore 6, 19)) rfl
theorem c309_19 : pm_code 309 19 = some (.iload 6, 21) := pm_of cl309_0 13 (q := (19, .iload 6, 21)) rfl
theorem c309_21 : pm_code 309 21 = some (.iload_n 0, 22) := pm_of cl309_0 14 (q := (21, .iload_n 0, 22)) rfl
theorem c309_22 : pm_code 309 22 = some (.if_icmp .ge 21, 25) := pm_of cl309_0 15 (q := (22, .if_icmp .ge 21, 25)) rfl
theorem c309_25 : pm_code 309 25 = some (.iload 5, 27) := pm_of cl309_0 16 (q := (25, .iload 5, 27)) rfl
theorem c309_27 : pm_code 309 27 = some (.iload 4, 29) := pm_of cl309_0 17 (q := (27, .iload 4, 29)) rfl
theorem c309_29 : pm_code 309 29 = some (.iload 6, 31) := pm_of cl309_0 18 (q := (29, .iload 6, 31)) rfl
theorem c309_31 : pm_code 309 31 = some (.ishr, 32) := pm_of cl309_0 19 (q := (31, .ishr, 32)) rfl
theorem c309_32 : pm_code 309 32 = some (.iconst 1, 33) := pm_of cl309_0 20 (q := (32, .iconst 1, 33)) rfl
theorem c309_33 : pm_code 309 33 = some (.iand, 34) := pm_of cl309_0 21 (q := (33, .iand, 34)) rfl
theorem c309_34 : pm_code 309 34 = some (.iadd, 35) := pm_of cl309_0 22 (q := (34, .iadd, 35)) rfl
theorem c309_35 : pm_code 309 35 = some (.istore 5, 37) := pm_of cl309_0 23 (q := (35, .istore 5, 37)) rfl
theorem c309_37 : pm_code 309 37 = some (.iinc 6 1, 40) := pm_of cl309_0 24 (q := (37, .iinc 6 1, 40)) rfl
theorem c309_40 : pm_code 309 40 = some (.goto (-21), 43) := pm_of cl309_0 25 (q := (40, .goto (-21), 43)) rfl
theorem c309_43 : pm_code 309 43 = some (.lload_n 2, 44) := pm_of cl309_0 26 (q := (43, .lload_n 2, 44)) rfl
theorem c309_44 : pm_code 309 44 = some (.iconst 2, 45) := pm_of cl309_0 27 (q := (44, .iconst 2, 45)) rfl
theorem c309_45 : pm_code 309 45 = some (.iload 5, 47) := pm_of cl309_0 28 (q := (45, .iload 5, 47)) rfl
theorem c309_47 : pm_code 309 47 = some (.imul, 48) := pm_of cl309_0 29 (q := (47, .imul, 48)) rfl
theorem c309_48 : pm_code 309 48 = some (.iload_n 0, 49) := pm_of cl309_0 30 (q := (48, .iload_n 0, 49)) rfl
theorem c309_49 : pm_code 309 49 = some (.if_icmp .le 26, 52) := pm_of cl309_0 31 (q := (49, .if_icmp .le 26, 52)) rfl
theorem c309_52 : pm_code 309 52 = some (.iload_n 1, 53) := pm_of cl309_0 32 (q := (52, .iload_n 1, 53)) rfl
theorem c309_53 : pm_code 309 53 = some (.i2l, 54) := pm_of cl309_0 33 (q := (53, .i2l, 54)) rfl
theorem c309_54 : pm_code 309 54 = some (.iload 5, 56) := pm_of cl309_0 34 (q := (54, .iload 5, 56)) rfl
theorem c309_56 : pm_code 309 56 = some (.invokestatic 440, 59) := pm_of cl309_0 35 (q := (56, .invokestatic 440, 59)) rfl
theorem c309_59 : pm_code 309 59 = some (.bipush 16, 61) := pm_of cl309_0 36 (q := (59, .bipush 16, 61)) rfl
theorem c309_61 : pm_code 309 61 = some (.iload_n 1, 62) := pm_of cl309_0 37 (q := (61, .iload_n 1, 62)) rfl
theorem c309_62 : pm_code 309 62 = some (.isub, 63) := pm_of cl309_0 38 (q := (62, .isub, 63)) rfl
theorem c309_63 : pm_code 309 63 = some (.i2l, 64) := pm_of cl309_0 39 (q := (63, .i2l, 64)) rfl
theorem cl309_1 : ([(64, .iload_n 0, 65), (65, .iload 5, 67), (67, .isub, 68), (68, .invokestatic 440, 71), (71, .lmul, 72), (72, .goto 4, 75), (75, .lconst 0, 76), (76, .ladd, 77), (77, .lstore_n 2, 78), (78, .iinc 4 1, 81), (81, .goto (-76), 84), (84, .lload_n 2, 85), (85, .lreturn, 86)] : List (Nat × Instr × Nat)).all (fun q => decide (pm_code 309 q.1 = some q.2)) = true := by decide +kernel
theorem c309_64 : pm_code 309 64 = some (.iload_n 0, 65) := pm_of cl309_1 0 (q := (64, .iload_n 0, 65)) rfl
theorem c309_65 : pm_code 309 65 = some (.iload 5, 67) := pm_of cl309_1 1 (q := (65, .iload 5, 67)) rfl
theorem c309_67 : pm_code 309 67 = some (.isub, 68) := pm_of cl309_1 2 (q := (67, .isub, 68)) rfl
theorem c309_68 : pm_code 309 68 = some (.invokestatic 440, 71) := pm_of cl309_1 3 (q := (68, .invokestatic 440, 71)) rfl
theorem c309_71 : pm_code 309 71 = some (.lmul, 72) := pm_of cl309_1 4 (q := (71, .lmul, 72)) rfl
theorem c309_72 : pm_code 309 72 = some (.goto 4, 75) := pm_of cl309_1 5 (q := (72, .goto 4, 75)) rfl
theorem c309_75 : pm_code 309 75 = some (.lconst 0, 76) := pm_of cl309_1 6 (q := (75, .lconst 0, 76)) rfl
theorem c309_76 : pm_code 309 76 = some (.ladd, 77) := pm_of cl309_1 7 (q := (76, .ladd, 77)) rfl
theorem c309_77 : pm_code 309 77 = some (.lstore_n 2, 78) := pm_of cl309_1 8 (q := (77, .lstore_n 2, 78)) rfl
theorem c309_78 : pm_code 309 78 = some (.iinc 4 1, 81) := pm_of cl309_1 9 (q := (78, .iinc 4 1, 81)) rfl
theorem c309_81 : pm_code 309 81 = some (.goto (-76), 84) := pm_of cl309_1 10 (q := (81, .goto (-76), 84)) rfl
theorem c309_84 : pm_code 309 84 = some (.lload_n 2, 85) := pm_of cl309_1 11 (q := (84, .lload_n 2, 85)) rfl
theorem c309_85 : pm_code 309 85 = some (.lreturn, 86) := pm_of cl309_1 12 (q := (85, .lreturn, 86)) rfl
theorem k310 : pm_k 310 = 12 := by decide +kernel
theorem ml310 : pm_ml 310 = 6 := by decide +kernel
theorem rt310 : pm_rt 310 = (some .long) := by decide +kernel
theorem hh310 : pm_hh 310 = [] := by decide +kernel
theorem rc310 : pm_cl 12 = (pm_y 310).cls := by decide +kernel
theorem cl310_0 : ([(0, .lconst 1, 1), (1, .lstore_n 3, 2), (2, .iconst 0, 3), (3, .istore 5, 5), (5, .iload 5, 7), (7, .iload_n 2, 8), (8, .if_icmp .ge 13, 11), (11, .lload_n 3, 12), (12, .lload_n 0, 13), (13, .lmul, 14), (14, .lstore_n 3, 15), (15, .iinc 5 1, 18), (18, .goto (-13), 21), (21, .lload_n 3, 22), (22, .lreturn, 23)] : List (Nat × Instr × Nat)).all (fun q => decide (pm_code 310 q.1 = some q.2)) = true := by decide +kernel
theorem c310_0 : pm_code 310 0 = some (.lconst 1, 1) := pm_of cl310_0 0 (q := (0, .lconst 1, 1)) rfl
theorem c310_1 : pm_code 310 1 = some (.lstore_n 3, 2) := pm_of cl310_0 1 (q := (1, .lstore_n 3, 2)) rfl
theorem c310_2 : pm_code 310 2 = some (.iconst 0, 3) := pm_of cl310_0 2 (q := (2, .iconst 0, 3)) rfl
theorem c310_3 : pm_code 310 3 = some (.istore 5, 5) := pm_of cl310_0 3 (q := (3, .istore 5, 5)) rfl
theorem c310_5 : pm_code 310 5 = some (.iload 5, 7) := pm_of cl310_0 4 (q := (5, .iload 5, 7)) rfl
theorem c310_7 : pm_code 310 7 = some (.iload_n 2, 8) := pm_of cl310_0 5 (q := (7, .iload_n 2, 8)) rfl
theorem c310_8 : pm_code 310 8 = some (.if_icmp .ge 13, 11) := pm_of cl310_0 6 (q := (8, .if_icmp .ge 13, 11)) rfl
theorem c310_11 : pm_code 310 11 = some (.lload_n 3, 12) := pm_of cl310_0 7 (q := (11, .lload_n 3, 12)) rfl
theorem c310_12 : pm_code 310 12 = some (.lload_n 0, 13) := pm_of cl310_0 8 (q := (12, .lload_n 0, 13)) rfl
theorem c310_13 : pm_code 310 13 = some (.lmul, 14) := pm_of cl310_0 9 (q := (13, .lmul, 14)) rfl
theorem c310_14 : pm_code 310 14 = some (.lstore_n 3, 15) := pm_of cl310_0 10 (q := (14, .lstore_n 3, 15)) rfl
theorem c310_15 : pm_code 310 15 = some (.iinc 5 1, 18) := pm_of cl310_0 11 (q := (15, .iinc 5 1, 18)) rfl
theorem c310_18 : pm_code 310 18 = some (.goto (-13), 21) := pm_of cl310_0 12 (q := (18, .goto (-13), 21)) rfl
theorem c310_21 : pm_code 310 21 = some (.lload_n 3, 22) := pm_of cl310_0 13 (q := (21, .lload_n 3, 22)) rfl
theorem c310_22 : pm_code 310 22 = some (.lreturn, 23) := pm_of cl310_0 14 (q := (22, .lreturn, 23)) rfl
theorem k311 : pm_k 311 = 12 := by decide +kernel
theorem ml311 : pm_ml 311 = 11 := by decide +kernel
theorem rt311 : pm_rt 311 = (some .long) := by decide +kernel
theorem hh311 : pm_hh 311 = [] := by decide +kernel
theorem rc311 : pm_cl 12 = (pm_y 311).cls := by decide +kernel
theorem cl311_0 : ([(0, .lload_n 0, 1), (1, .lstore 5, 3), (3, .lload_n 2, 4), (4, .lstore 7, 6), (6, .lload 7, 8), (8, .lconst 0, 9), (9, .lcmp, 10), (10, .ifCond .eq 21, 13), (13, .lload 5, 15), (15, .lload 7, 17), (17, .lrem, 18), (18, .lstore 9, 20), (20, .lload 7, 22), (22, .lstore 5, 24), (24, .lload 9, 26), (26, .lstore 7, 28), (28, .goto (-22), 31), (31, .iload 4, 33), (33, .ifCond .ne 7, 36), (36, .lload_n 0, 37), (37, .goto 4, 40), (40, .lload_n 2, 41), (41, .lload 5, 43), (43, .ldiv, 44), (44, .lreturn, 45)] : List (Nat × Instr × Nat)).all (fun q => decide (pm_code 311 q.1 = some q.2)) = true := by decide +kernel
theorem c311_0 : pm_code 311 0 = some (.lload_n 0, 1) := pm_of cl311_0 0 (q := (0, .lload_n 0, 1)) rfl
theorem c311_1 : pm_code 311 1 = some (.lstore 5, 3) := pm_of cl311_0 1 (q := (1, .lstore 5, 3)) rfl
theorem c311_3 : pm_code 311 3 = some (.lload_n 2, 4) := pm_of cl311_0 2 (q := (3, .lload_n 2, 4)) rfl
theorem c311_4 : pm_code 311 4 = some (.lstore 7, 6) := pm_of cl311_0 3 (q := (4, .lstore 7, 6)) rfl
theorem c311_6 : pm_code 311 6 = some (.lload 7, 8) := pm_of cl311_0 4 (q := (6, .lload 7, 8)) rfl
theorem c311_8 : pm_code 311 8 = some (.lconst 0, 9) := pm_of cl311_0 5 (q := (8, .lconst 0, 9)) rfl
theorem c311_9 : pm_code 311 9 = some (.lcmp, 10) := pm_of cl311_0 6 (q := (9, .lcmp, 10)) rfl
theorem c311_10 : pm_code 311 10 = some (.ifCond .eq 21, 13) := pm_of cl311_0 7 (q := (10, .ifCond .eq 21, 13)) rfl
theorem c311_13 : pm_code 311 13 = some (.lload 5, 15) := pm_of cl311_0 8 (q := (13, .lload 5, 15)) rfl
theorem c311_15 : pm_code 311 15 = some (.lload 7, 17) := pm_of cl311_0 9 (q := (15, .lload 7, 17)) rfl
theorem c311_17 : pm_code 311 17 = some (.lrem, 18) := pm_of cl311_0 10 (q := (17, .lrem, 18)) rfl
theorem c311_18 : pm_code 311 18 = some (.lstore 9, 20) := pm_of cl311_0 11 (q := (18, .lstore 9, 20)) rfl
theorem c311_20 : pm_code 311 20 = some (.lload 7, 22) := pm_of cl311_0 12 (q := (20, .lload 7, 22)) rfl
theorem c311_22 : pm_code 311 22 = some (.lstore 5, 24) := pm_of cl311_0 13 (q := (22, .lstore 5, 24)) rfl
theorem c311_24 : pm_code 311 24 = some (.lload 9, 26) := pm_of cl311_0 14 (q := (24, .lload 9, 26)) rfl
theorem c311_26 : pm_code 311 26 = some (.lstore 7, 28) := pm_of cl311_0 15 (q := (26, .lstore 7, 28)) rfl
theorem c311_28 : pm_code 311 28 = some (.goto (-22), 31) := pm_of cl311_0 16 (q := (28, .goto (-22), 31)) rfl
theorem c311_31 : pm_code 311 31 = some (.iload 4, 33) := pm_of cl311_0 17 (q := (31, .iload 4, 33)) rfl
theorem c311_33 : pm_code 311 33 = some (.ifCond .ne 7, 36) := pm_of cl311_0 18 (q := (33, .ifCond .ne 7, 36)) rfl
theorem c311_36 : pm_code 311 36 = some (.lload_n 0, 37) := pm_of cl311_0 19 (q := (36, .lload_n 0, 37)) rfl
theorem c311_37 : pm_code 311 37 = some (.goto 4, 40) := pm_of cl311_0 20 (q := (37, .goto 4, 40)) rfl
theorem c311_40 : pm_code 311 40 = some (.lload_n 2, 41) := pm_of cl311_0 21 (q := (40, .lload_n 2, 41)) rfl
theorem c311_41 : pm_code 311 41 = some (.lload 5, 43) := pm_of cl311_0 22 (q := (41, .lload 5, 43)) rfl
theorem c311_43 : pm_code 311 43 = some (.ldiv, 44) := pm_of cl311_0 23 (q := (43, .ldiv, 44)) rfl
theorem c311_44 : pm_code 311 44 = some (.lreturn, 45) := pm_of cl311_0 24 (q := (44, .lreturn, 45)) rfl
theorem k312 : pm_k 312 = 12 := by decide +kernel
theorem ml312 : pm_ml 312 = 4 := by decide +kernel
theorem rt312 : pm_rt 312 = (some .int) := by decide +kernel
theorem hh312 : pm_hh 312 = [] := by decide +kernel
theorem rc312 : pm_cl 12 = (pm_y 312).cls := by decide +kernel
theorem cl312_0 : ([(0, .aload_n 0, 1), (1, .iconst 0, 2), (2, .putfield 3, 5), (5, .aload_n 0, 6), (6, .iload_n 1, 7), (7, .iconst 0, 8), (8, .bipush 16, 10), (10, .invokestatic 290, 13), (13, .ifCond .eq 17, 16), (16, .iload_n 2, 17), (17, .iconst 0, 18), (18, .bipush 16, 20), (20, .invokestatic 290, 23), (23, .ifCond .eq 7, 26), (26, .iconst 1, 27), (27, .goto 4, 30), (30, .iconst 0, 31), (31, .iconst 1, 32), (32, .iconst 1, 33), (33, .invokevirtual 207, 36), (36, .ifCond .ne 5, 39), (39, .iconst 0, 40), (40, .ireturn, 41), (41, .iconst 1, 42), (42, .istore_n 3, 43), (43, .iload_n 3, 44), (44, .bipush 9, 46), (46, .if_icmp .gt 34, 49), (49, .ldc2_w 448, 52), (52, .iload_n 3, 53), (53, .iload_n 1, 54), (54, .invokestatic 444, 57), (57, .lmul, 58), (58, .iload_n 2, 59), (59, .i2l, 60), (60, .ldc2_w 448, 63), (63, .iload_n 3, 64), (64, .invokestatic 440, 67), (67, .lmul, 68), (68, .lcmp, 69)] : List (Nat × Instr × Nat)).all (fun q => decide (pm_code 312 q.1 = some q.2)) = true := by decide +kernel
theorem c312_0 : pm_code 312 0 = some (.aload_n 0, 1) := pm_of cl312_0 0 (q := (0, .aload_n 0, 1)) rfl
theorem c312_1 : pm_code 312 1 = some (.iconst 0, 2) := pm_of cl312_0 1 (q := (1, .iconst 0, 2)) rfl
theorem c312_2 : pm_code 312 2 = some (.putfield 3, 5) := pm_of cl312_0 2 (q := (2, .putfield 3, 5)) rfl
theorem c312_5 : pm_code 312 5 = some (.aload_n 0, 6) := pm_of cl312_0 3 (q := (5, .aload_n 0, 6)) rfl
theorem c312_6 : pm_code 312 6 = some (.iload_n 1, 7) := pm_of cl312_0 4 (q := (6, .iload_n 1, 7)) rfl
theorem c312_7 : pm_code 312 7 = some (.iconst 0, 8) := pm_of cl312_0 5 (q := (7, .iconst 0, 8)) rfl
theorem c312_8 : pm_code 312 8 = some (.bipush 16, 10) := pm_of cl312_0 6 (q := (8, .bipush 16, 10)) rfl
theorem c312_10 : pm_code 312 10 = some (.invokestatic 290, 13) := pm_of cl312_0 7 (q := (10, .invokestatic 290, 13)) rfl
theorem c312_13 : pm_code 312 13 = some (.ifCond .eq 17, 16) := pm_of cl312_0 8 (q := (13, .ifCond .eq 17, 16)) rfl
theorem c312_16 : pm_code 312 16 = some (.iload_n 2, 17) := pm_of cl312_0 9 (q := (16, .iload_n 2, 17)) rfl
theorem c312_17 : pm_code 312 17 = some (.iconst 0, 18) := pm_of cl312_0 10 (q := (17, .iconst 0, 18)) rfl
theorem c312_18 : pm_code 312 18 = some (.bipush 16, 20) := pm_of cl312_0 11 (q := (18, .bipush 16, 20)) rfl
theorem c312_20 : pm_code 312 20 = some (.invokestatic 290, 23) := pm_of cl312_0 12 (q := (20, .invokestatic 290, 23)) rfl
theorem c312_23 : pm_code 312 23 = some (.ifCond .eq 7, 26) := pm_of cl312_0 13 (q := (23, .ifCond .eq 7, 26)) rfl
theorem c312_26 : pm_code 312 26 = some (.iconst 1, 27) := pm_of cl312_0 14 (q := (26, .iconst 1, 27)) rfl
theorem c312_27 : pm_code 312 27 = some (.goto 4, 30) := pm_of cl312_0 15 (q := (27, .goto 4, 30)) rfl
theorem c312_30 : pm_code 312 30 = some (.iconst 0, 31) := pm_of cl312_0 16 (q := (30, .iconst 0, 31)) rfl
theorem c312_31 : pm_code 312 31 = some (.iconst 1, 32) := pm_of cl312_0 17 (q := (31, .iconst 1, 32)) rfl
theorem c312_32 : pm_code 312 32 = some (.iconst 1, 33) := pm_of cl312_0 18 (q := (32, .iconst 1, 33)) rfl
theorem c312_33 : pm_code 312 33 = some (.invokevirtual 207, 36) := pm_of cl312_0 19 (q := (33, .invokevirtual 207, 36)) rfl
theorem c312_36 : pm_code 312 36 = some (.ifCond .ne 5, 39) := pm_of cl312_0 20 (q := (36, .ifCond .ne 5, 39)) rfl
theorem c312_39 : pm_code 312 39 = some (.iconst 0, 40) := pm_of cl312_0 21 (q := (39, .iconst 0, 40)) rfl
theorem c312_40 : pm_code 312 40 = some (.ireturn, 41) := pm_of cl312_0 22 (q := (40, .ireturn, 41)) rfl
theorem c312_41 : pm_code 312 41 = some (.iconst 1, 42) := pm_of cl312_0 23 (q := (41, .iconst 1, 42)) rfl
theorem c312_42 : pm_code 312 42 = some (.istore_n 3, 43) := pm_of cl312_0 24 (q := (42, .istore_n 3, 43)) rfl
theorem c312_43 : pm_code 312 43 = some (.iload_n 3, 44) := pm_of cl312_0 25 (q := (43, .iload_n 3, 44)) rfl
theorem c312_44 : pm_code 312 44 = some (.bipush 9, 46) := pm_of cl312_0 26 (q := (44, .bipush 9, 46)) rfl
theorem c312_46 : pm_code 312 46 = some (.if_icmp .gt 34, 49) := pm_of cl312_0 27 (q := (46, .if_icmp .gt 34, 49)) rfl
theorem c312_49 : pm_code 312 49 = some (.ldc2_w 448, 52) := pm_of cl312_0 28 (q := (49, .ldc2_w 448, 52)) rfl
theorem c312_52 : pm_code 312 52 = some (.iload_n 3, 53) := pm_of cl312_0 29 (q := (52, .iload_n 3, 53)) rfl
theorem c312_53 : pm_code 312 53 = some (.iload_n 1, 54) := pm_of cl312_0 30 (q := (53, .iload_n 1, 54)) rfl
theorem c312_54 : pm_code 312 54 = some (.invokestatic 444, 57) := pm_of cl312_0 31 (q := (54, .invokestatic 444, 57)) rfl
theorem c312_57 : pm_code 312 57 = some (.lmul, 58) := pm_of cl312_0 32 (q := (57, .lmul, 58)) rfl
theorem c312_58 : pm_code 312 58 = some (.iload_n 2, 59) := pm_of cl312_0 33 (q := (58, .iload_n 2, 59)) rfl
theorem c312_59 : pm_code 312 59 = some (.i2l, 60) := pm_of cl312_0 34 (q := (59, .i2l, 60)) rfl
theorem c312_60 : pm_code 312 60 = some (.ldc2_w 448, 63) := pm_of cl312_0 35 (q := (60, .ldc2_w 448, 63)) rfl
theorem c312_63 : pm_code 312 63 = some (.iload_n 3, 64) := pm_of cl312_0 36 (q := (63, .iload_n 3, 64)) rfl
theorem c312_64 : pm_code 312 64 = some (.invokestatic 440, 67) := pm_of cl312_0 37 (q := (64, .invokestatic 440, 67)) rfl
theorem c312_67 : pm_code 312 67 = some (.lmul, 68) := pm_of cl312_0 38 (q := (67, .lmul, 68)) rfl
theorem c312_68 : pm_code 312 68 = some (.lcmp, 69) := pm_of cl312_0 39 (q := (68, .lcmp, 69)) rfl
theorem cl312_1 : ([(69, .ifCond .lt 5, 72), (72, .iload_n 3, 73), (73, .ireturn, 74), (74, .iinc 3 2, 77), (77, .goto (-34), 80), (80, .iconst (-1), 81), (81, .ireturn, 82)] : List (Nat × Instr × Nat)).all (fun q => decide (pm_code 312 q.1 = some q.2)) = true := by decide +kernel
theorem c312_69 : pm_code 312 69 = some (.ifCond .lt 5, 72) := pm_of cl312_1 0 (q := (69, .ifCond .lt 5, 72)) rfl
theorem c312_72 : pm_code 312 72 = some (.iload_n 3, 73) := pm_of cl312_1 1 (q := (72, .iload_n 3, 73)) rfl
theorem c312_73 : pm_code 312 73 = some (.ireturn, 74) := pm_of cl312_1 2 (q := (73, .ireturn, 74)) rfl
theorem c312_74 : pm_code 312 74 = some (.iinc 3 2, 77) := pm_of cl312_1 3 (q := (74, .iinc 3 2, 77)) rfl
theorem c312_77 : pm_code 312 77 = some (.goto (-34), 80) := pm_of cl312_1 4 (q := (77, .goto (-34), 80)) rfl
theorem c312_80 : pm_code 312 80 = some (.iconst (-1), 81) := pm_of cl312_1 5 (q := (80, .iconst (-1), 81)) rfl
theorem c312_81 : pm_code 312 81 = some (.ireturn, 82) := pm_of cl312_1 6 (q := (81, .ireturn, 82)) rfl
theorem k313 : pm_k 313 = 12 := by decide +kernel
theorem ml313 : pm_ml 313 = 7 := by decide +kernel
theorem rt313 : pm_rt 313 = (some .int) := by decide +kernel
theorem hh313 : pm_hh 313 = [] := by decide +kernel
theorem rc313 : pm_cl 12 = (pm_y 313).cls := by decide +kernel
theorem cl313_0 : ([(0, .aload_n 0, 1), (1, .iconst 0, 2), (2, .putfield 3, 5), (5, .aload_n 0, 6), (6, .iload_n 1, 7), (7, .iconst 0, 8), (8, .sipush 9999, 11), (11, .invokestatic 290, 14), (14, .ifCond .eq 28, 17), (17, .iload_n 2, 18), (18, .iconst 0, 19), (19, .sipush 999, 22), (22, .invokestatic 290, 25), (25, .ifCond .eq 17, 28), (28, .iload_n 3, 29), (29, .iconst 0, 30), (30, .bipush 100, 32), (32, .invokestatic 290, 35), (35, .ifCond .eq 7, 38), (38, .iconst 1, 39), (39, .goto 4, 42), (42, .iconst 0, 43), (43, .iconst 1, 44), (44, .iconst 1, 45), (45, .invokevirtual 207, 48), (48, .ifCond .ne 5, 51), (51, .iconst 0, 52), (52, .ireturn, 53), (53, .iload_n 1, 54), (54, .i2l, 55), (55, .lstore 4, 57), (57, .iconst 0, 58), (58, .istore 6, 60), (60, .iload 6, 62), (62, .sipush 600, 65), (65, .if_icmp .gt 49, 68), (68, .lload 4, 70), (70, .ldc2_w 453, 73), (73, .lcmp, 74), (74, .ifCond .ge 40, 77)] : List (Nat × Instr × Nat)).all (fun q => decide (pm_code 313 q.1 = some q.2)) = true := by decide +kernel
theorem c313_0 : pm_code 313 0 = some (.aload_n 0, 1) := pm_of cl313_0 0 (q := (0, .aload_n 0, 1)) rfl
theorem c313_1 : pm_code 313 1 = some (.iconst 0, 2) := pm_of cl313_0 1 (q := (1, .iconst 0, 2)) rfl
theorem c313_2 : pm_code 313 2 = some (.putfield 3, 5) := pm_of cl313_0 2 (q := (2, .putfield 3, 5)) rfl
theorem c313_5 : pm_code 313 5 = some (.aload_n 0, 6) := pm_of cl313_0 3 (q := (5, .aload_n 0, 6)) rfl
theorem c313_6 : pm_code 313 6 = some (.iload_n 1, 7) := pm_of cl313_0 4 (q := (6, .iload_n 1, 7)) rfl
theorem c313_7 : pm_code 313 7 = some (.iconst 0, 8) := pm_of cl313_0 5 (q := (7, .iconst 0, 8)) rfl
theorem c313_8 : pm_code 313 8 = some (.sipush 9999, 11) := pm_of cl313_0 6 (q := (8, .sipush 9999, 11)) rfl
theorem c313_11 : pm_code 313 11 = some (.invokestatic 290, 14) := pm_of cl313_0 7 (q := (11, .invokestatic 290, 14)) rfl
theorem c313_14 : pm_code 313 14 = some (.ifCond .eq 28, 17) := pm_of cl313_0 8 (q := (14, .ifCond .eq 28, 17)) rfl
theorem c313_17 : pm_code 313 17 = some (.iload_n 2, 18) := pm_of cl313_0 9 (q := (17, .iload_n 2, 18)) rfl
theorem c313_18 : pm_code 313 18 = some (.iconst 0, 19) := pm_of cl313_0 10 (q := (18, .iconst 0, 19)) rfl
theorem c313_19 : pm_code 313 19 = some (.sipush 999, 22) := pm_of cl313_0 11 (q := (19, .sipush 999, 22)) rfl
theorem c313_22 : pm_code 313 22 = some (.invokestatic 290, 25) := pm_of cl313_0 12 (q := (22, .invokestatic 290, 25)) rfl
theorem c313_25 : pm_code 313 25 = some (.ifCond .eq 17, 28) := pm_of cl313_0 13 (q := (25, .ifCond .eq 17, 28)) rfl
theorem c313_28 : pm_code 313 28 = some (.iload_n 3, 29) := pm_of cl313_0 14 (q := (28, .iload_n 3, 29)) rfl
theorem c313_29 : pm_code 313 29 = some (.iconst 0, 30) := pm_of cl313_0 15 (q := (29, .iconst 0, 30)) rfl
theorem c313_30 : pm_code 313 30 = some (.bipush 100, 32) := pm_of cl313_0 16 (q := (30, .bipush 100, 32)) rfl
theorem c313_32 : pm_code 313 32 = some (.invokestatic 290, 35) := pm_of cl313_0 17 (q := (32, .invokestatic 290, 35)) rfl
theorem c313_35 : pm_code 313 35 = some (.ifCond .eq 7, 38) := pm_of cl313_0 18 (q := (35, .ifCond .eq 7, 38)) rfl
theorem c313_38 : pm_code 313 38 = some (.iconst 1, 39) := pm_of cl313_0 19 (q := (38, .iconst 1, 39)) rfl
theorem c313_39 : pm_code 313 39 = some (.goto 4, 42) := pm_of cl313_0 20 (q := (39, .goto 4, 42)) rfl
theorem c313_42 : pm_code 313 42 = some (.iconst 0, 43) := pm_of cl313_0 21 (q := (42, .iconst 0, 43)) rfl
theorem c313_43 : pm_code 313 43 = some (.iconst 1, 44) := pm_of cl313_0 22 (q := (43, .iconst 1, 44)) rfl
theorem c313_44 : pm_code 313 44 = some (.iconst 1, 45) := pm_of cl313_0 23 (q := (44, .iconst 1, 45)) rfl
theorem c313_45 : pm_code 313 45 = some (.invokevirtual 207, 48) := pm_of cl313_0 24 (q := (45, .invokevirtual 207, 48)) rfl
theorem c313_48 : pm_code 313 48 = some (.ifCond .ne 5, 51) := pm_of cl313_0 25 (q := (48, .ifCond .ne 5, 51)) rfl
theorem c313_51 : pm_code 313 51 = some (.iconst 0, 52) := pm_of cl313_0 26 (q := (51, .iconst 0, 52)) rfl
theorem c313_52 : pm_code 313 52 = some (.ireturn, 53) := pm_of cl313_0 27 (q := (52, .ireturn, 53)) rfl
theorem c313_53 : pm_code 313 53 = some (.iload_n 1, 54) := pm_of cl313_0 28 (q := (53, .iload_n 1, 54)) rfl
theorem c313_54 : pm_code 313 54 = some (.i2l, 55) := pm_of cl313_0 29 (q := (54, .i2l, 55)) rfl
theorem c313_55 : pm_code 313 55 = some (.lstore 4, 57) := pm_of cl313_0 30 (q := (55, .lstore 4, 57)) rfl
theorem c313_57 : pm_code 313 57 = some (.iconst 0, 58) := pm_of cl313_0 31 (q := (57, .iconst 0, 58)) rfl
theorem c313_58 : pm_code 313 58 = some (.istore 6, 60) := pm_of cl313_0 32 (q := (58, .istore 6, 60)) rfl
theorem c313_60 : pm_code 313 60 = some (.iload 6, 62) := pm_of cl313_0 33 (q := (60, .iload 6, 62)) rfl
theorem c313_62 : pm_code 313 62 = some (.sipush 600, 65) := pm_of cl313_0 34 (q := (62, .sipush 600, 65)) rfl
theorem c313_65 : pm_code 313 65 = some (.if_icmp .gt 49, 68) := pm_of cl313_0 35 (q := (65, .if_icmp .gt 49, 68)) rfl
theorem c313_68 : pm_code 313 68 = some (.lload 4, 70) := pm_of cl313_0 36 (q := (68, .lload 4, 70)) rfl
theorem c313_70 : pm_code 313 70 = some (.ldc2_w 453, 73) := pm_of cl313_0 37 (q := (70, .ldc2_w 453, 73)) rfl
theorem c313_73 : pm_code 313 73 = some (.lcmp, 74) := pm_of cl313_0 38 (q := (73, .lcmp, 74)) rfl
theorem c313_74 : pm_code 313 74 = some (.ifCond .ge 40, 77) := pm_of cl313_0 39 (q := (74, .ifCond .ge 40, 77)) rfl
theorem cl313_1 : ([(77, .lload 4, 79), (79, .lconst 0, 80), (80, .lcmp, 81), (81, .ifCond .gt 6, 84), (84, .iload 6, 86), (86, .ireturn, 87), (87, .lload 4, 89), (89, .lload 4, 91), (91, .iload_n 3, 92), (92, .i2l, 93), (93, .lmul, 94), (94, .ldc2_w 455, 97), (97, .ldiv, 98), (98, .ladd, 99), (99, .lstore 4, 101), (101, .lload 4, 103), (103, .iload_n 2, 104), (104, .i2l, 105), (105, .lsub, 106), (106, .lstore 4, 108), (108, .iinc 6 1, 111), (111, .goto (-51), 114), (114, .iconst (-1), 115), (115, .ireturn, 116)] : List (Nat × Instr × Nat)).all (fun q => decide (pm_code 313 q.1 = some q.2)) = true := by decide +kernel
theorem c313_77 : pm_code 313 77 = some (.lload 4, 79) := pm_of cl313_1 0 (q := (77, .lload 4, 79)) rfl
theorem c313_79 : pm_code 313 79 = some (.lconst 0, 80) := pm_of cl313_1 1 (q := (79, .lconst 0, 80)) rfl
theorem c313_80 : pm_code 313 80 = some (.lcmp, 81) := pm_of cl313_1 2 (q := (80, .lcmp, 81)) rfl
theorem c313_81 : pm_code 313 81 = some (.ifCond .gt 6, 84) := pm_of cl313_1 3 (q := (81, .ifCond .gt 6, 84)) rfl
theorem c313_84 : pm_code 313 84 = some (.iload 6, 86) := pm_of cl313_1 4 (q := (84, .iload 6, 86)) rfl
theorem c313_86 : pm_code 313 86 = some (.ireturn, 87) := pm_of cl313_1 5 (q := (86, .ireturn, 87)) rfl
theorem c313_87 : pm_code 313 87 = some (.lload 4, 89) := pm_of cl313_1 6 (q := (87, .lload 4, 89)) rfl
theorem c313_89 : pm_code 313 89 = some (.lload 4, 91) := pm_of cl313_1 7 (q := (89, .lload 4, 91)) rfl
theorem c313_91 : pm_code 313 91 = some (.iload_n 3, 92) := pm_of cl313_1 8 (q := (91, .iload_n 3, 92)) rfl
theorem c313_92 : pm_code 313 92 = some (.i2l, 93) := pm_of cl313_1 9 (q := (92, .i2l, 93)) rfl
theorem c313_93 : pm_code 313 93 = some (.lmul, 94) := pm_of cl313_1 10 (q := (93, .lmul, 94)) rfl
theorem c313_94 : pm_code 313 94 = some (.ldc2_w 455, 97) := pm_of cl313_1 11 (q := (94, .ldc2_w 455, 97)) rfl
theorem c313_97 : pm_code 313 97 = some (.ldiv, 98) := pm_of cl313_1 12 (q := (97, .ldiv, 98)) rfl
theorem c313_98 : pm_code 313 98 = some (.ladd, 99) := pm_of cl313_1 13 (q := (98, .ladd, 99)) rfl
theorem c313_99 : pm_code 313 99 = some (.lstore 4, 101) := pm_of cl313_1 14 (q := (99, .lstore 4, 101)) rfl
theorem c313_101 : pm_code 313 101 = some (.lload 4, 103) := pm_of cl313_1 15 (q := (101, .lload 4, 103)) rfl
theorem c313_103 : pm_code 313 103 = some (.iload_n 2, 104) := pm_of cl313_1 16 (q := (103, .iload_n 2, 104)) rfl
theorem c313_104 : pm_code 313 104 = some (.i2l, 105) := pm_of cl313_1 17 (q := (104, .i2l, 105)) rfl
theorem c313_105 : pm_code 313 105 = some (.lsub, 106) := pm_of cl313_1 18 (q := (105, .lsub, 106)) rfl
theorem c313_106 : pm_code 313 106 = some (.lstore 4, 108) := pm_of cl313_1 19 (q := (106, .lstore 4, 108)) rfl
theorem c313_108 : pm_code 313 108 = some (.iinc 6 1, 111) := pm_of cl313_1 20 (q := (108, .iinc 6 1, 111)) rfl
theorem c313_111 : pm_code 313 111 = some (.goto (-51), 114) := pm_of cl313_1 21 (q := (111, .goto (-51), 114)) rfl
theorem c313_114 : pm_code 313 114 = some (.iconst (-1), 115) := pm_of cl313_1 22 (q := (114, .iconst (-1), 115)) rfl
theorem c313_115 : pm_code 313 115 = some (.ireturn, 116) := pm_of cl313_1 23 (q := (115, .ireturn, 116)) rfl
theorem k314 : pm_k 314 = 12 := by decide +kernel
theorem ml314 : pm_ml 314 = 6 := by decide +kernel
theorem rt314 : pm_rt 314 = (some .int) := by decide +kernel
theorem hh314 : pm_hh 314 = [] := by decide +kernel
theorem rc314 : pm_cl 12 = (pm_y 314).cls := by decide +kernel
theorem cl314_0 : ([(0, .aload_n 0, 1), (1, .iconst 0, 2), (2, .putfield 3, 5), (5, .aload_n 0, 6), (6, .iload_n 1, 7), (7, .iconst 1, 8), (8, .invokevirtual 407, 11), (11, .ifCond .eq 19, 14), (14, .aload_n 0, 15), (15, .iload_n 2, 16), (16, .iconst 0, 17), (17, .bipush 99, 19), (19, .invokestatic 290, 22), (22, .iconst 2, 23), (23, .iconst 1, 24), (24, .invokevirtual 207, 27), (27, .ifCond .ne 5, 30), (30, .iconst 0, 31), (31, .ireturn, 32), (32, .aload_n 0, 33), (33, .invokevirtual 330, 36), (36, .iconst 0, 37), (37, .istore_n 3, 38), (38, .iload_n 3, 39), (39, .iconst 5, 40), (40, .if_icmp .ge 16, 43), (43, .aload_n 0, 44), (44, .getfield 99, 47), (47, .iload_n 3, 48), (48, .iconst 0, 49), (49, .iastore, 50), (50, .iinc 3 1, 53), (53, .goto (-15), 56), (56, .iconst 0, 57), (57, .istore_n 3, 58), (58, .iload_n 3, 59), (59, .iload_n 2, 60), (60, .if_icmp .ge 101, 63), (63, .iconst (-1), 64), (64, .istore 4, 66)] : List (Nat × Instr × Nat)).all (fun q => decide (pm_code 314 q.1 = some q.2)) = true := by decide +kernel
theorem c314_0 : pm_code 314 0 = some (.aload_n 0, 1) := pm_of cl314_0 0 (q := (0, .aload_n 0, 1)) rfl
theorem c314_1 : pm_code 314 1 = some (.iconst 0, 2) := pm_of cl314_0 1 (q := (1, .iconst 0, 2)) rfl
theorem c314_2 : pm_code 314 2 = some (.putfield 3, 5) := pm_of cl314_0 2 (q := (2, .putfield 3, 5)) rfl
theorem c314_5 : pm_code 314 5 = some (.aload_n 0, 6) := pm_of cl314_0 3 (q := (5, .aload_n 0, 6)) rfl
theorem c314_6 : pm_code 314 6 = some (.iload_n 1, 7) := pm_of cl314_0 4 (q := (6, .iload_n 1, 7)) rfl
theorem c314_7 : pm_code 314 7 = some (.iconst 1, 8) := pm_of cl314_0 5 (q := (7, .iconst 1, 8)) rfl
theorem c314_8 : pm_code 314 8 = some (.invokevirtual 407, 11) := pm_of cl314_0 6 (q := (8, .invokevirtual 407, 11)) rfl
theorem c314_11 : pm_code 314 11 = some (.ifCond .eq 19, 14) := pm_of cl314_0 7 (q := (11, .ifCond .eq 19, 14)) rfl
theorem c314_14 : pm_code 314 14 = some (.aload_n 0, 15) := pm_of cl314_0 8 (q := (14, .aload_n 0, 15)) rfl
theorem c314_15 : pm_code 314 15 = some (.iload_n 2, 16) := pm_of cl314_0 9 (q := (15, .iload_n 2, 16)) rfl
theorem c314_16 : pm_code 314 16 = some (.iconst 0, 17) := pm_of cl314_0 10 (q := (16, .iconst 0, 17)) rfl
theorem c314_17 : pm_code 314 17 = some (.bipush 99, 19) := pm_of cl314_0 11 (q := (17, .bipush 99, 19)) rfl
theorem c314_19 : pm_code 314 19 = some (.invokestatic 290, 22) := pm_of cl314_0 12 (q := (19, .invokestatic 290, 22)) rfl
theorem c314_22 : pm_code 314 22 = some (.iconst 2, 23) := pm_of cl314_0 13 (q := (22, .iconst 2, 23)) rfl
theorem c314_23 : pm_code 314 23 = some (.iconst 1, 24) := pm_of cl314_0 14 (q := (23, .iconst 1, 24)) rfl
theorem c314_24 : pm_code 314 24 = some (.invokevirtual 207, 27) := pm_of cl314_0 15 (q := (24, .invokevirtual 207, 27)) rfl
theorem c314_27 : pm_code 314 27 = some (.ifCond .ne 5, 30) := pm_of cl314_0 16 (q := (27, .ifCond .ne 5, 30)) rfl
theorem c314_30 : pm_code 314 30 = some (.iconst 0, 31) := pm_of cl314_0 17 (q := (30, .iconst 0, 31)) rfl
theorem c314_31 : pm_code 314 31 = some (.ireturn, 32) := pm_of cl314_0 18 (q := (31, .ireturn, 32)) rfl
theorem c314_32 : pm_code 314 32 = some (.aload_n 0, 33) := pm_of cl314_0 19 (q := (32, .aload_n 0, 33)) rfl
theorem c314_33 : pm_code 314 33 = some (.invokevirtual 330, 36) := pm_of cl314_0 20 (q := (33, .invokevirtual 330, 36)) rfl
theorem c314_36 : pm_code 314 36 = some (.iconst 0, 37) := pm_of cl314_0 21 (q := (36, .iconst 0, 37)) rfl
theorem c314_37 : pm_code 314 37 = some (.istore_n 3, 38) := pm_of cl314_0 22 (q := (37, .istore_n 3, 38)) rfl
theorem c314_38 : pm_code 314 38 = some (.iload_n 3, 39) := pm_of cl314_0 23 (q := (38, .iload_n 3, 39)) rfl
theorem c314_39 : pm_code 314 39 = some (.iconst 5, 40) := pm_of cl314_0 24 (q := (39, .iconst 5, 40)) rfl
theorem c314_40 : pm_code 314 40 = some (.if_icmp .ge 16, 43) := pm_of cl314_0 25 (q := (40, .if_icmp .ge 16, 43)) rfl
theorem c314_43 : pm_code 314 43 = some (.aload_n 0, 44) := pm_of cl314_0 26 (q := (43, .aload_n 0, 44)) rfl
theorem c314_44 : pm_code 314 44 = some (.getfield 99, 47) := pm_of cl314_0 27 (q := (44, .getfield 99, 47)) rfl
theorem c314_47 : pm_code 314 47 = some (.iload_n 3, 48) := pm_of cl314_0 28 (q := (47, .iload_n 3, 48)) rfl
theorem c314_48 : pm_code 314 48 = some (.iconst 0, 49) := pm_of cl314_0 29 (q := (48, .iconst 0, 49)) rfl
theorem c314_49 : pm_code 314 49 = some (.iastore, 50) := pm_of cl314_0 30 (q := (49, .iastore, 50)) rfl
theorem c314_50 : pm_code 314 50 = some (.iinc 3 1, 53) := pm_of cl314_0 31 (q := (50, .iinc 3 1, 53)) rfl
theorem c314_53 : pm_code 314 53 = some (.goto (-15), 56) := pm_of cl314_0 32 (q := (53, .goto (-15), 56)) rfl
theorem c314_56 : pm_code 314 56 = some (.iconst 0, 57) := pm_of cl314_0 33 (q := (56, .iconst 0, 57)) rfl
theorem c314_57 : pm_code 314 57 = some (.istore_n 3, 58) := pm_of cl314_0 34 (q := (57, .istore_n 3, 58)) rfl
theorem c314_58 : pm_code 314 58 = some (.iload_n 3, 59) := pm_of cl314_0 35 (q := (58, .iload_n 3, 59)) rfl
theorem c314_59 : pm_code 314 59 = some (.iload_n 2, 60) := pm_of cl314_0 36 (q := (59, .iload_n 2, 60)) rfl
theorem c314_60 : pm_code 314 60 = some (.if_icmp .ge 101, 63) := pm_of cl314_0 37 (q := (60, .if_icmp .ge 101, 63)) rfl
theorem c314_63 : pm_code 314 63 = some (.iconst (-1), 64) := pm_of cl314_0 38 (q := (63, .iconst (-1), 64)) rfl
theorem c314_64 : pm_code 314 64 = some (.istore 4, 66) := pm_of cl314_0 39 (q := (64, .istore 4, 66)) rfl
theorem cl314_1 : ([(66, .iconst 0, 67), (67, .istore 5, 69), (69, .iload 5, 71), (71, .aload_n 0, 72), (72, .getfield 172, 75), (75, .if_icmp .ge 63, 78), (78, .aload_n 0, 79), (79, .iload 5, 81), (81, .invokevirtual 377, 84), (84, .ifCond .le 48, 87), (87, .iload 4, 89), (89, .iconst (-1), 90), (90, .if_icmp .eq 38, 93), (93, .aload_n 0, 94), (94, .iload 5, 96), (96, .invokevirtual 377, 99), (99, .iconst 1, 100), (100, .aload_n 0, 101), (101, .getfield 99, 104), (104, .iload 4, 106), (106, .iaload, 107), (107, .iadd, 108), (108, .imul, 109), (109, .aload_n 0, 110), (110, .iload 4, 112), (112, .invokevirtual 377, 115), (115, .iconst 1, 116), (116, .aload_n 0, 117), (117, .getfield 99, 120), (120, .iload 5, 122), (122, .iaload, 123), (123, .iadd, 124), (124, .imul, 125), (125, .if_icmp .le 7, 128), (128, .iload 5, 130), (130, .istore 4, 132), (132, .iinc 5 1, 135), (135, .goto (-66), 138), (138, .iload 4, 140), (140, .iconst (-1), 141)] : List (Nat × Instr × Nat)).all (fun q => decide (pm_code 314 q.1 = some q.2)) = true := by decide +kernel
theorem c314_66 : pm_code 314 66 = some (.iconst 0, 67) := pm_of cl314_1 0 (q := (66, .iconst 0, 67)) rfl
theorem c314_67 : pm_code 314 67 = some (.istore 5, 69) := pm_of cl314_1 1 (q := (67, .istore 5, 69)) rfl
theorem c314_69 : pm_code 314 69 = some (.iload 5, 71) := pm_of cl314_1 2 (q := (69, .iload 5, 71)) rfl
theorem c314_71 : pm_code 314 71 = some (.aload_n 0, 72) := pm_of cl314_1 3 (q := (71, .aload_n 0, 72)) rfl
theorem c314_72 : pm_code 314 72 = some (.getfield 172, 75) := pm_of cl314_1 4 (q := (72, .getfield 172, 75)) rfl
theorem c314_75 : pm_code 314 75 = some (.if_icmp .ge 63, 78) := pm_of cl314_1 5 (q := (75, .if_icmp .ge 63, 78)) rfl
theorem c314_78 : pm_code 314 78 = some (.aload_n 0, 79) := pm_of cl314_1 6 (q := (78, .aload_n 0, 79)) rfl
theorem c314_79 : pm_code 314 79 = some (.iload 5, 81) := pm_of cl314_1 7 (q := (79, .iload 5, 81)) rfl
theorem c314_81 : pm_code 314 81 = some (.invokevirtual 377, 84) := pm_of cl314_1 8 (q := (81, .invokevirtual 377, 84)) rfl
theorem c314_84 : pm_code 314 84 = some (.ifCond .le 48, 87) := pm_of cl314_1 9 (q := (84, .ifCond .le 48, 87)) rfl
theorem c314_87 : pm_code 314 87 = some (.iload 4, 89) := pm_of cl314_1 10 (q := (87, .iload 4, 89)) rfl
theorem c314_89 : pm_code 314 89 = some (.iconst (-1), 90) := pm_of cl314_1 11 (q := (89, .iconst (-1), 90)) rfl
theorem c314_90 : pm_code 314 90 = some (.if_icmp .eq 38, 93) := pm_of cl314_1 12 (q := (90, .if_icmp .eq 38, 93)) rfl
theorem c314_93 : pm_code 314 93 = some (.aload_n 0, 94) := pm_of cl314_1 13 (q := (93, .aload_n 0, 94)) rfl
theorem c314_94 : pm_code 314 94 = some (.iload 5, 96) := pm_of cl314_1 14 (q := (94, .iload 5, 96)) rfl
theorem c314_96 : pm_code 314 96 = some (.invokevirtual 377, 99) := pm_of cl314_1 15 (q := (96, .invokevirtual 377, 99)) rfl
theorem c314_99 : pm_code 314 99 = some (.iconst 1, 100) := pm_of cl314_1 16 (q := (99, .iconst 1, 100)) rfl
theorem c314_100 : pm_code 314 100 = some (.aload_n 0, 101) := pm_of cl314_1 17 (q := (100, .aload_n 0, 101)) rfl
theorem c314_101 : pm_code 314 101 = some (.getfield 99, 104) := pm_of cl314_1 18 (q := (101, .getfield 99, 104)) rfl
theorem c314_104 : pm_code 314 104 = some (.iload 4, 106) := pm_of cl314_1 19 (q := (104, .iload 4, 106)) rfl
theorem c314_106 : pm_code 314 106 = some (.iaload, 107) := pm_of cl314_1 20 (q := (106, .iaload, 107)) rfl
theorem c314_107 : pm_code 314 107 = some (.iadd, 108) := pm_of cl314_1 21 (q := (107, .iadd, 108)) rfl
theorem c314_108 : pm_code 314 108 = some (.imul, 109) := pm_of cl314_1 22 (q := (108, .imul, 109)) rfl
theorem c314_109 : pm_code 314 109 = some (.aload_n 0, 110) := pm_of cl314_1 23 (q := (109, .aload_n 0, 110)) rfl
theorem c314_110 : pm_code 314 110 = some (.iload 4, 112) := pm_of cl314_1 24 (q := (110, .iload 4, 112)) rfl
theorem c314_112 : pm_code 314 112 = some (.invokevirtual 377, 115) := pm_of cl314_1 25 (q := (112, .invokevirtual 377, 115)) rfl
theorem c314_115 : pm_code 314 115 = some (.iconst 1, 116) := pm_of cl314_1 26 (q := (115, .iconst 1, 116)) rfl
theorem c314_116 : pm_code 314 116 = some (.aload_n 0, 117) := pm_of cl314_1 27 (q := (116, .aload_n 0, 117)) rfl
theorem c314_117 : pm_code 314 117 = some (.getfield 99, 120) := pm_of cl314_1 28 (q := (117, .getfield 99, 120)) rfl
theorem c314_120 : pm_code 314 120 = some (.iload 5, 122) := pm_of cl314_1 29 (q := (120, .iload 5, 122)) rfl
theorem c314_122 : pm_code 314 122 = some (.iaload, 123) := pm_of cl314_1 30 (q := (122, .iaload, 123)) rfl
theorem c314_123 : pm_code 314 123 = some (.iadd, 124) := pm_of cl314_1 31 (q := (123, .iadd, 124)) rfl
theorem c314_124 : pm_code 314 124 = some (.imul, 125) := pm_of cl314_1 32 (q := (124, .imul, 125)) rfl
theorem c314_125 : pm_code 314 125 = some (.if_icmp .le 7, 128) := pm_of cl314_1 33 (q := (125, .if_icmp .le 7, 128)) rfl
theorem c314_128 : pm_code 314 128 = some (.iload 5, 130) := pm_of cl314_1 34 (q := (128, .iload 5, 130)) rfl
theorem c314_130 : pm_code 314 130 = some (.istore 4, 132) := pm_of cl314_1 35 (q := (130, .istore 4, 132)) rfl
theorem c314_132 : pm_code 314 132 = some (.iinc 5 1, 135) := pm_of cl314_1 36 (q := (132, .iinc 5 1, 135)) rfl
theorem c314_135 : pm_code 314 135 = some (.goto (-66), 138) := pm_of cl314_1 37 (q := (135, .goto (-66), 138)) rfl
theorem c314_138 : pm_code 314 138 = some (.iload 4, 140) := pm_of cl314_1 38 (q := (138, .iload 4, 140)) rfl
theorem c314_140 : pm_code 314 140 = some (.iconst (-1), 141) := pm_of cl314_1 39 (q := (140, .iconst (-1), 141)) rfl
theorem cl314_2 : ([(141, .if_icmp .eq 14, 144), (144, .aload_n 0, 145), (145, .getfield 99, 148), (148, .iload 4, 150), (150, .dup2, 151), (151, .iaload, 152), (152, .iconst 1, 153), (153, .iadd, 154), (154, .iastore, 155), (155, .iinc 3 1, 158), (158, .goto (-100), 161), (161, .aload_n 0, 162), (162, .getfield 99, 165), (165, .iload_n 1, 166), (166, .iaload, 167), (167, .ireturn, 168)] : List (Nat × Instr × Nat)).all (fun q => decide (pm_code 314 q.1 = some q.2)) = true := by decide +kernel
theorem c314_141 : pm_code 314 141 = some (.if_icmp .eq 14, 144) := pm_of cl314_2 0 (q := (141, .if_icmp .eq 14, 144)) rfl
theorem c314_144 : pm_code 314 144 = some (.aload_n 0, 145) := pm_of cl314_2 1 (q := (144, .aload_n 0, 145)) rfl
theorem c314_145 : pm_code 314 145 = some (.getfield 99, 148) := pm_of cl314_2 2 (q := (145, .getfield 99, 148)) rfl
theorem c314_148 : pm_code 314 148 = some (.iload 4, 150) := pm_of cl314_2 3 (q := (148, .iload 4, 150)) rfl
theorem c314_150 : pm_code 314 150 = some (.dup2, 151) := pm_of cl314_2 4 (q := (150, .dup2, 151)) rfl
theorem c314_151 : pm_code 314 151 = some (.iaload, 152) := pm_of cl314_2 5 (q := (151, .iaload, 152)) rfl
theorem c314_152 : pm_code 314 152 = some (.iconst 1, 153) := pm_of cl314_2 6 (q := (152, .iconst 1, 153)) rfl
theorem c314_153 : pm_code 314 153 = some (.iadd, 154) := pm_of cl314_2 7 (q := (153, .iadd, 154)) rfl
theorem c314_154 : pm_code 314 154 = some (.iastore, 155) := pm_of cl314_2 8 (q := (154, .iastore, 155)) rfl
theorem c314_155 : pm_code 314 155 = some (.iinc 3 1, 158) := pm_of cl314_2 9 (q := (155, .iinc 3 1, 158)) rfl
theorem c314_158 : pm_code 314 158 = some (.goto (-100), 161) := pm_of cl314_2 10 (q := (158, .goto (-100), 161)) rfl
theorem c314_161 : pm_code 314 161 = some (.aload_n 0, 162) := pm_of cl314_2 11 (q := (161, .aload_n 0, 162)) rfl
theorem c314_162 : pm_code 314 162 = some (.getfield 99, 165) := pm_of cl314_2 12 (q := (162, .getfield 99, 165)) rfl
theorem c314_165 : pm_code 314 165 = some (.iload_n 1, 166) := pm_of cl314_2 13 (q := (165, .iload_n 1, 166)) rfl
theorem c314_166 : pm_code 314 166 = some (.iaload, 167) := pm_of cl314_2 14 (q := (166, .iaload, 167)) rfl
theorem c314_167 : pm_code 314 167 = some (.ireturn, 168) := pm_of cl314_2 15 (q := (167, .ireturn, 168)) rfl
theorem k315 : pm_k 315 = 12 := by decide +kernel
theorem ml315 : pm_ml 315 = 8 := by decide +kernel
theorem rt315 : pm_rt 315 = (some .int) := by decide +kernel
theorem hh315 : pm_hh 315 = [] := by decide +kernel
theorem rc315 : pm_cl 12 = (pm_y 315).cls := by decide +kernel
theorem cl315_0 : ([(0, .aload_n 0, 1), (1, .iconst 0, 2), (2, .putfield 3, 5), (5, .aload_n 0, 6), (6, .iload_n 1, 7), (7, .iconst 0, 8), (8, .bipush 20, 10), (10, .invokestatic 290, 13), (13, .ifCond .eq 37, 16), (16, .iload_n 2, 17), (17, .iconst 0, 18), (18, .bipush 99, 20), (20, .invokestatic 290, 23), (23, .ifCond .eq 27, 26), (26, .iload_n 3, 27), (27, .iconst 0, 28), (28, .bipush 99, 30), (30, .invokestatic 290, 33), (33, .ifCond .eq 17, 36), (36, .iload 4, 38), (38, .iconst 0, 39), (39, .iconst 2, 40), (40, .invokestatic 290, 43), (43, .ifCond .eq 7, 46), (46, .iconst 1, 47), (47, .goto 4, 50), (50, .iconst 0, 51), (51, .iconst 1, 52), (52, .iconst 1, 53), (53, .invokevirtual 207, 56), (56, .ifCond .ne 5, 59), (59, .iconst 0, 60), (60, .ireturn, 61), (61, .iconst 0, 62), (62, .istore 5, 64), (64, .iconst (-1), 65), (65, .istore 6, 67), (67, .iconst 0, 68), (68, .istore 7, 70), (70, .iload 7, 72)] : List (Nat × Instr × Nat)).all (fun q => decide (pm_code 315 q.1 = some q.2)) = true := by decide +kernel
theorem c315_0 : pm_code 315 0 = some (.aload_n 0, 1) := pm_of cl315_0 0 (q := (0, .aload_n 0, 1)) rfl
theorem c315_1 : pm_code 315 1 = some (.iconst 0, 2) := pm_of cl315_0 1 (q := (1, .iconst 0, 2)) rfl
theorem c315_2 : pm_code 315 2 = some (.putfield 3, 5) := pm_of cl315_0 2 (q := (2, .putfield 3, 5)) rfl
theorem c315_5 : pm_code 315 5 = some (.aload_n 0, 6) := pm_of cl315_0 3 (q := (5, .aload_n 0, 6)) rfl
theorem c315_6 : pm_code 315 6 = some (.iload_n 1, 7) := pm_of cl315_0 4 (q := (6, .iload_n 1, 7)) rfl
theorem c315_7 : pm_code 315 7 = some (.iconst 0, 8) := pm_of cl315_0 5 (q := (7, .iconst 0, 8)) rfl
theorem c315_8 : pm_code 315 8 = some (.bipush 20, 10) := pm_of cl315_0 6 (q := (8, .bipush 20, 10)) rfl
theorem c315_10 : pm_code 315 10 = some (.invokestatic 290, 13) := pm_of cl315_0 7 (q := (10, .invokestatic 290, 13)) rfl
theorem c315_13 : pm_code 315 13 = some (.ifCond .eq 37, 16) := pm_of cl315_0 8 (q := (13, .ifCond .eq 37, 16)) rfl
theorem c315_16 : pm_code 315 16 = some (.iload_n 2, 17) := pm_of cl315_0 9 (q := (16, .iload_n 2, 17)) rfl
theorem c315_17 : pm_code 315 17 = some (.iconst 0, 18) := pm_of cl315_0 10 (q := (17, .iconst 0, 18)) rfl
theorem c315_18 : pm_code 315 18 = some (.bipush 99, 20) := pm_of cl315_0 11 (q := (18, .bipush 99, 20)) rfl
theorem c315_20 : pm_code 315 20 = some (.invokestatic 290, 23) := pm_of cl315_0 12 (q := (20, .invokestatic 290, 23)) rfl
theorem c315_23 : pm_code 315 23 = some (.ifCond .eq 27, 26) := pm_of cl315_0 13 (q := (23, .ifCond .eq 27, 26)) rfl
theorem c315_26 : pm_code 315 26 = some (.iload_n 3, 27) := pm_of cl315_0 14 (q := (26, .iload_n 3, 27)) rfl
theorem c315_27 : pm_code 315 27 = some (.iconst 0, 28) := pm_of cl315_0 15 (q := (27, .iconst 0, 28)) rfl
theorem c315_28 : pm_code 315 28 = some (.bipush 99, 30) := pm_of cl315_0 16 (q := (28, .bipush 99, 30)) rfl
theorem c315_30 : pm_code 315 30 = some (.invokestatic 290, 33) := pm_of cl315_0 17 (q := (30, .invokestatic 290, 33)) rfl
theorem c315_33 : pm_code 315 33 = some (.ifCond .eq 17, 36) := pm_of cl315_0 18 (q := (33, .ifCond .eq 17, 36)) rfl
theorem c315_36 : pm_code 315 36 = some (.iload 4, 38) := pm_of cl315_0 19 (q := (36, .iload 4, 38)) rfl
theorem c315_38 : pm_code 315 38 = some (.iconst 0, 39) := pm_of cl315_0 20 (q := (38, .iconst 0, 39)) rfl
theorem c315_39 : pm_code 315 39 = some (.iconst 2, 40) := pm_of cl315_0 21 (q := (39, .iconst 2, 40)) rfl
theorem c315_40 : pm_code 315 40 = some (.invokestatic 290, 43) := pm_of cl315_0 22 (q := (40, .invokestatic 290, 43)) rfl
theorem c315_43 : pm_code 315 43 = some (.ifCond .eq 7, 46) := pm_of cl315_0 23 (q := (43, .ifCond .eq 7, 46)) rfl
theorem c315_46 : pm_code 315 46 = some (.iconst 1, 47) := pm_of cl315_0 24 (q := (46, .iconst 1, 47)) rfl
theorem c315_47 : pm_code 315 47 = some (.goto 4, 50) := pm_of cl315_0 25 (q := (47, .goto 4, 50)) rfl
theorem c315_50 : pm_code 315 50 = some (.iconst 0, 51) := pm_of cl315_0 26 (q := (50, .iconst 0, 51)) rfl
theorem c315_51 : pm_code 315 51 = some (.iconst 1, 52) := pm_of cl315_0 27 (q := (51, .iconst 1, 52)) rfl
theorem c315_52 : pm_code 315 52 = some (.iconst 1, 53) := pm_of cl315_0 28 (q := (52, .iconst 1, 53)) rfl
theorem c315_53 : pm_code 315 53 = some (.invokevirtual 207, 56) := pm_of cl315_0 29 (q := (53, .invokevirtual 207, 56)) rfl
theorem c315_56 : pm_code 315 56 = some (.ifCond .ne 5, 59) := pm_of cl315_0 30 (q := (56, .ifCond .ne 5, 59)) rfl
theorem c315_59 : pm_code 315 59 = some (.iconst 0, 60) := pm_of cl315_0 31 (q := (59, .iconst 0, 60)) rfl
theorem c315_60 : pm_code 315 60 = some (.ireturn, 61) := pm_of cl315_0 32 (q := (60, .ireturn, 61)) rfl
theorem c315_61 : pm_code 315 61 = some (.iconst 0, 62) := pm_of cl315_0 33 (q := (61, .iconst 0, 62)) rfl
theorem c315_62 : pm_code 315 62 = some (.istore 5, 64) := pm_of cl315_0 34 (q := (62, .istore 5, 64)) rfl
theorem c315_64 : pm_code 315 64 = some (.iconst (-1), 65) := pm_of cl315_0 35 (q := (64, .iconst (-1), 65)) rfl
theorem c315_65 : pm_code 315 65 = some (.istore 6, 67) := pm_of cl315_0 36 (q := (65, .istore 6, 67)) rfl
theorem c315_67 : pm_code 315 67 = some (.iconst 0, 68) := pm_of cl315_0 37 (q := (67, .iconst 0, 68)) rfl
theorem c315_68 : pm_code 315 68 = some (.istore 7, 70) := pm_of cl315_0 38 (q := (68, .istore 7, 70)) rfl
theorem c315_70 : pm_code 315 70 = some (.iload 7, 72) := pm_of cl315_0 39 (q := (70, .iload 7, 72)) rfl
theorem cl315_1 : ([(72, .iload_n 1, 73), (73, .iconst 1, 74), (74, .iadd, 75), (75, .iload_n 1, 76), (76, .iconst 1, 77), (77, .iadd, 78), (78, .imul, 79), (79, .if_icmp .ge 65, 82), (82, .iload 7, 84), (84, .iload_n 1, 85), (85, .iconst 1, 86), (86, .iadd, 87), (87, .idiv, 88), (88, .iload 7, 90), (90, .iload_n 1, 91), (91, .iconst 1, 92), (92, .iadd, 93), (93, .irem, 94), (94, .iload_n 1, 95), (95, .iload_n 2, 96), (96, .iload_n 3, 97), (97, .invokestatic 460, 100), (100, .ifCond .ne 6, 103), (103, .goto 35, 106), (106, .iinc 5 1, 109), (109, .iload 6, 111), (111, .iconst (-1), 112), (112, .if_icmp .ne 22, 115), (115, .bipush 100, 117), (117, .iload 7, 119), (119, .iload_n 1, 120), (120, .iconst 1, 121), (121, .iadd, 122), (122, .idiv, 123), (123, .imul, 124), (124, .iload 7, 126), (126, .iload_n 1, 127), (127, .iconst 1, 128), (128, .iadd, 129), (129, .irem, 130)] : List (Nat × Instr × Nat)).all (fun q => decide (pm_code 315 q.1 = some q.2)) = true := by decide +kernel
theorem c315_72 : pm_code 315 72 = some (.iload_n 1, 73) := pm_of cl315_1 0 (q := (72, .iload_n 1, 73)) rfl
theorem c315_73 : pm_code 315 73 = some (.iconst 1, 74) := pm_of cl315_1 1 (q := (73, .iconst 1, 74)) rfl
theorem c315_74 : pm_code 315 74 = some (.iadd, 75) := pm_of cl315_1 2 (q := (74, .iadd, 75)) rfl
theorem c315_75 : pm_code 315 75 = some (.iload_n 1, 76) := pm_of cl315_1 3 (q := (75, .iload_n 1, 76)) rfl
theorem c315_76 : pm_code 315 76 = some (.iconst 1, 77) := pm_of cl315_1 4 (q := (76, .iconst 1, 77)) rfl
theorem c315_77 : pm_code 315 77 = some (.iadd, 78) := pm_of cl315_1 5 (q := (77, .iadd, 78)) rfl
theorem c315_78 : pm_code 315 78 = some (.imul, 79) := pm_of cl315_1 6 (q := (78, .imul, 79)) rfl
theorem c315_79 : pm_code 315 79 = some (.if_icmp .ge 65, 82) := pm_of cl315_1 7 (q := (79, .if_icmp .ge 65, 82)) rfl
theorem c315_82 : pm_code 315 82 = some (.iload 7, 84) := pm_of cl315_1 8 (q := (82, .iload 7, 84)) rfl
theorem c315_84 : pm_code 315 84 = some (.iload_n 1, 85) := pm_of cl315_1 9 (q := (84, .iload_n 1, 85)) rfl
theorem c315_85 : pm_code 315 85 = some (.iconst 1, 86) := pm_of cl315_1 10 (q := (85, .iconst 1, 86)) rfl
theorem c315_86 : pm_code 315 86 = some (.iadd, 87) := pm_of cl315_1 11 (q := (86, .iadd, 87)) rfl
theorem c315_87 : pm_code 315 87 = some (.idiv, 88) := pm_of cl315_1 12 (q := (87, .idiv, 88)) rfl
theorem c315_88 : pm_code 315 88 = some (.iload 7, 90) := pm_of cl315_1 13 (q := (88, .iload 7, 90)) rfl
theorem c315_90 : pm_code 315 90 = some (.iload_n 1, 91) := pm_of cl315_1 14 (q := (90, .iload_n 1, 91)) rfl
theorem c315_91 : pm_code 315 91 = some (.iconst 1, 92) := pm_of cl315_1 15 (q := (91, .iconst 1, 92)) rfl
theorem c315_92 : pm_code 315 92 = some (.iadd, 93) := pm_of cl315_1 16 (q := (92, .iadd, 93)) rfl
theorem c315_93 : pm_code 315 93 = some (.irem, 94) := pm_of cl315_1 17 (q := (93, .irem, 94)) rfl
theorem c315_94 : pm_code 315 94 = some (.iload_n 1, 95) := pm_of cl315_1 18 (q := (94, .iload_n 1, 95)) rfl
theorem c315_95 : pm_code 315 95 = some (.iload_n 2, 96) := pm_of cl315_1 19 (q := (95, .iload_n 2, 96)) rfl
theorem c315_96 : pm_code 315 96 = some (.iload_n 3, 97) := pm_of cl315_1 20 (q := (96, .iload_n 3, 97)) rfl
theorem c315_97 : pm_code 315 97 = some (.invokestatic 460, 100) := pm_of cl315_1 21 (q := (97, .invokestatic 460, 100)) rfl
theorem c315_100 : pm_code 315 100 = some (.ifCond .ne 6, 103) := pm_of cl315_1 22 (q := (100, .ifCond .ne 6, 103)) rfl
theorem c315_103 : pm_code 315 103 = some (.goto 35, 106) := pm_of cl315_1 23 (q := (103, .goto 35, 106)) rfl
theorem c315_106 : pm_code 315 106 = some (.iinc 5 1, 109) := pm_of cl315_1 24 (q := (106, .iinc 5 1, 109)) rfl
theorem c315_109 : pm_code 315 109 = some (.iload 6, 111) := pm_of cl315_1 25 (q := (109, .iload 6, 111)) rfl
theorem c315_111 : pm_code 315 111 = some (.iconst (-1), 112) := pm_of cl315_1 26 (q := (111, .iconst (-1), 112)) rfl
theorem c315_112 : pm_code 315 112 = some (.if_icmp .ne 22, 115) := pm_of cl315_1 27 (q := (112, .if_icmp .ne 22, 115)) rfl
theorem c315_115 : pm_code 315 115 = some (.bipush 100, 117) := pm_of cl315_1 28 (q := (115, .bipush 100, 117)) rfl
theorem c315_117 : pm_code 315 117 = some (.iload 7, 119) := pm_of cl315_1 29 (q := (117, .iload 7, 119)) rfl
theorem c315_119 : pm_code 315 119 = some (.iload_n 1, 120) := pm_of cl315_1 30 (q := (119, .iload_n 1, 120)) rfl
theorem c315_120 : pm_code 315 120 = some (.iconst 1, 121) := pm_of cl315_1 31 (q := (120, .iconst 1, 121)) rfl
theorem c315_121 : pm_code 315 121 = some (.iadd, 122) := pm_of cl315_1 32 (q := (121, .iadd, 122)) rfl
theorem c315_122 : pm_code 315 122 = some (.idiv, 123) := pm_of cl315_1 33 (q := (122, .idiv, 123)) rfl
theorem c315_123 : pm_code 315 123 = some (.imul, 124) := pm_of cl315_1 34 (q := (123, .imul, 124)) rfl
theorem c315_124 : pm_code 315 124 = some (.iload 7, 126) := pm_of cl315_1 35 (q := (124, .iload 7, 126)) rfl
theorem c315_126 : pm_code 315 126 = some (.iload_n 1, 127) := pm_of cl315_1 36 (q := (126, .iload_n 1, 127)) rfl
theorem c315_127 : pm_code 315 127 = some (.iconst 1, 128) := pm_of cl315_1 37 (q := (127, .iconst 1, 128)) rfl
theorem c315_128 : pm_code 315 128 = some (.iadd, 129) := pm_of cl315_1 38 (q := (128, .iadd, 129)) rfl
theorem c315_129 : pm_code 315 129 = some (.irem, 130) := pm_of cl315_1 39 (q := (129, .irem, 130)) rfl
theorem cl315_2 : ([(130, .iadd, 131), (131, .goto 5, 134), (134, .iload 6, 136), (136, .istore 6, 138), (138, .iinc 7 1, 141), (141, .goto (-71), 144), (144, .iload 4, 146), (146, .ifCond .ne 8, 149), (149, .iload 5, 151), (151, .goto 53, 154), (154, .iload 4, 156), (156, .iconst 1, 157), (157, .if_icmp .ne 8, 160), (160, .iload 6, 162), (162, .goto 42, 165), (165, .iload 6, 167), (167, .iconst (-1), 168), (168, .if_icmp .ne 7, 171), (171, .iconst 0, 172), (172, .goto 32, 175), (175, .iload 6, 177), (177, .bipush 100, 179), (179, .idiv, 180), (180, .iload 6, 182), (182, .bipush 100, 184), (184, .irem, 185), (185, .iload_n 2, 186), (186, .invokestatic 457, 189), (189, .iload 6, 191), (191, .bipush 100, 193), (193, .irem, 194), (194, .iload 6, 196), (196, .bipush 100, 198), (198, .idiv, 199), (199, .iload_n 3, 200), (200, .invokestatic 457, 203), (203, .iadd, 204), (204, .ireturn, 205)] : List (Nat × Instr × Nat)).all (fun q => decide (pm_code 315 q.1 = some q.2)) = true := by decide +kernel
theorem c315_130 : pm_code 315 130 = some (.iadd, 131) := pm_of cl315_2 0 (q := (130, .iadd, 131)) rfl
theorem c315_131 : pm_code 315 131 = some (.goto 5, 134) := pm_of cl315_2 1 (q := (131, .goto 5, 134)) rfl
theorem c315_134 : pm_code 315 134 = some (.iload 6, 136) := pm_of cl315_2 2 (q := (134, .iload 6, 136)) rfl
theorem c315_136 : pm_code 315 136 = some (.istore 6, 138) := pm_of cl315_2 3 (q := (136, .istore 6, 138)) rfl
theorem c315_138 : pm_code 315 138 = some (.iinc 7 1, 141) := pm_of cl315_2 4 (q := (138, .iinc 7 1, 141)) rfl
theorem c315_141 : pm_code 315 141 = some (.goto (-71), 144) := pm_of cl315_2 5 (q := (141, .goto (-71), 144)) rfl
theorem c315_144 : pm_code 315 144 = some (.iload 4, 146) := pm_of cl315_2 6 (q := (144, .iload 4, 146)) rfl
theorem c315_146 : pm_code 315 146 = some (.ifCond .ne 8, 149) := pm_of cl315_2 7 (q := (146, .ifCond .ne 8, 149)) rfl
theorem c315_149 : pm_code 315 149 = some (.iload 5, 151) := pm_of cl315_2 8 (q := (149, .iload 5, 151)) rfl
theorem c315_151 : pm_code 315 151 = some (.goto 53, 154) := pm_of cl315_2 9 (q := (151, .goto 53, 154)) rfl
theorem c315_154 : pm_code 315 154 = some (.iload 4, 156) := pm_of cl315_2 10 (q := (154, .iload 4, 156)) rfl
theorem c315_156 : pm_code 315 156 = some (.iconst 1, 157) := pm_of cl315_2 11 (q := (156, .iconst 1, 157)) rfl
theorem c315_157 : pm_code 315 157 = some (.if_icmp .ne 8, 160) := pm_of cl315_2 12 (q := (157, .if_icmp .ne 8, 160)) rfl
theorem c315_160 : pm_code 315 160 = some (.iload 6, 162) := pm_of cl315_2 13 (q := (160, .iload 6, 162)) rfl
theorem c315_162 : pm_code 315 162 = some (.goto 42, 165) := pm_of cl315_2 14 (q := (162, .goto 42, 165)) rfl
theorem c315_165 : pm_code 315 165 = some (.iload 6, 167) := pm_of cl315_2 15 (q := (165, .iload 6, 167)) rfl
theorem c315_167 : pm_code 315 167 = some (.iconst (-1), 168) := pm_of cl315_2 16 (q := (167, .iconst (-1), 168)) rfl
theorem c315_168 : pm_code 315 168 = some (.if_icmp .ne 7, 171) := pm_of cl315_2 17 (q := (168, .if_icmp .ne 7, 171)) rfl
theorem c315_171 : pm_code 315 171 = some (.iconst 0, 172) := pm_of cl315_2 18 (q := (171, .iconst 0, 172)) rfl
theorem c315_172 : pm_code 315 172 = some (.goto 32, 175) := pm_of cl315_2 19 (q := (172, .goto 32, 175)) rfl
theorem c315_175 : pm_code 315 175 = some (.iload 6, 177) := pm_of cl315_2 20 (q := (175, .iload 6, 177)) rfl
theorem c315_177 : pm_code 315 177 = some (.bipush 100, 179) := pm_of cl315_2 21 (q := (177, .bipush 100, 179)) rfl
theorem c315_179 : pm_code 315 179 = some (.idiv, 180) := pm_of cl315_2 22 (q := (179, .idiv, 180)) rfl
theorem c315_180 : pm_code 315 180 = some (.iload 6, 182) := pm_of cl315_2 23 (q := (180, .iload 6, 182)) rfl
theorem c315_182 : pm_code 315 182 = some (.bipush 100, 184) := pm_of cl315_2 24 (q := (182, .bipush 100, 184)) rfl
theorem c315_184 : pm_code 315 184 = some (.irem, 185) := pm_of cl315_2 25 (q := (184, .irem, 185)) rfl
theorem c315_185 : pm_code 315 185 = some (.iload_n 2, 186) := pm_of cl315_2 26 (q := (185, .iload_n 2, 186)) rfl
theorem c315_186 : pm_code 315 186 = some (.invokestatic 457, 189) := pm_of cl315_2 27 (q := (186, .invokestatic 457, 189)) rfl
theorem c315_189 : pm_code 315 189 = some (.iload 6, 191) := pm_of cl315_2 28 (q := (189, .iload 6, 191)) rfl
theorem c315_191 : pm_code 315 191 = some (.bipush 100, 193) := pm_of cl315_2 29 (q := (191, .bipush 100, 193)) rfl
theorem c315_193 : pm_code 315 193 = some (.irem, 194) := pm_of cl315_2 30 (q := (193, .irem, 194)) rfl
theorem c315_194 : pm_code 315 194 = some (.iload 6, 196) := pm_of cl315_2 31 (q := (194, .iload 6, 196)) rfl
theorem c315_196 : pm_code 315 196 = some (.bipush 100, 198) := pm_of cl315_2 32 (q := (196, .bipush 100, 198)) rfl
theorem c315_198 : pm_code 315 198 = some (.idiv, 199) := pm_of cl315_2 33 (q := (198, .idiv, 199)) rfl
theorem c315_199 : pm_code 315 199 = some (.iload_n 3, 200) := pm_of cl315_2 34 (q := (199, .iload_n 3, 200)) rfl
theorem c315_200 : pm_code 315 200 = some (.invokestatic 457, 203) := pm_of cl315_2 35 (q := (200, .invokestatic 457, 203)) rfl
theorem c315_203 : pm_code 315 203 = some (.iadd, 204) := pm_of cl315_2 36 (q := (203, .iadd, 204)) rfl
theorem c315_204 : pm_code 315 204 = some (.ireturn, 205) := pm_of cl315_2 37 (q := (204, .ireturn, 205)) rfl
