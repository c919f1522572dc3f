/-! WHAT STANDS AT EVERY PLACE, ON -/
theorem k316 : pm_k 316 = 12 := by decide +kernel
theorem ml316 : pm_ml 316 = 6 := by decide +kernel
theorem rt316 : pm_rt 316 = (some .boolean) := by decide +kernel
theorem hh316 : pm_hh 316 = [] := by decide +kernel
theorem rc316 : pm_cl 12 = (pm_y 316).cls := by decide +kernel
theorem cl316_0 : ([(0, .iconst 0, 1), (1, .istore 5, 3), (3, .iload 5, 5), (5, .iload_n 2, 6), (6, .if_icmp .gt 45, 9), (9, .iload 5, 11), (11, .iload_n 1, 12), (12, .iload_n 3, 13), (13, .invokestatic 457, 16), (16, .iload_n 0, 17), (17, .iload_n 1, 18), (18, .iload_n 3, 19), (19, .invokestatic 457, 22), (22, .if_icmp .gt 21, 25), (25, .iload 5, 27), (27, .iload_n 0, 28), (28, .iload 4, 30), (30, .invokestatic 457, 33), (33, .iload_n 1, 34), (34, .iload_n 0, 35), (35, .iload 4, 37), (37, .invokestatic 457, 40), (40, .if_icmp .le 5, 43), (43, .iconst 0, 44), (44, .ireturn, 45), (45, .iinc 5 1, 48), (48, .goto (-45), 51), (51, .iconst 1, 52), (52, .ireturn, 53)] : List (Nat × Instr × Nat)).all (fun q => decide (pm_code 316 q.1 = some q.2)) = true := by decide +kernel
theorem c316_0 : pm_code 316 0 = some (.iconst 0, 1) := pm_of cl316_0 0 (q := (0, .iconst 0, 1)) rfl
theorem c316_1 : pm_code 316 1 = some (.istore 5, 3) := pm_of cl316_0 1 (q := (1, .istore 5, 3)) rfl
theorem c316_3 : pm_code 316 3 = some (.iload 5, 5) := pm_of cl316_0 2 (q := (3, .iload 5, 5)) rfl
theorem c316_5 : pm_code 316 5 = some (.iload_n 2, 6) := pm_of cl316_0 3 (q := (5, .iload_n 2, 6)) rfl
theorem c316_6 : pm_code 316 6 = some (.if_icmp .gt 45, 9) := pm_of cl316_0 4 (q := (6, .if_icmp .gt 45, 9)) rfl
theorem c316_9 : pm_code 316 9 = some (.iload 5, 11) := pm_of cl316_0 5 (q := (9, .iload 5, 11)) rfl
theorem c316_11 : pm_code 316 11 = some (.iload_n 1, 12) := pm_of cl316_0 6 (q := (11, .iload_n 1, 12)) rfl
theorem c316_12 : pm_code 316 12 = some (.iload_n 3, 13) := pm_of cl316_0 7 (q := (12, .iload_n 3, 13)) rfl
theorem c316_13 : pm_code 316 13 = some (.invokestatic 457, 16) := pm_of cl316_0 8 (q := (13, .invokestatic 457, 16)) rfl
theorem c316_16 : pm_code 316 16 = some (.iload_n 0, 17) := pm_of cl316_0 9 (q := (16, .iload_n 0, 17)) rfl
theorem c316_17 : pm_code 316 17 = some (.iload_n 1, 18) := pm_of cl316_0 10 (q := (17, .iload_n 1, 18)) rfl
theorem c316_18 : pm_code 316 18 = some (.iload_n 3, 19) := pm_of cl316_0 11 (q := (18, .iload_n 3, 19)) rfl
theorem c316_19 : pm_code 316 19 = some (.invokestatic 457, 22) := pm_of cl316_0 12 (q := (19, .invokestatic 457, 22)) rfl
theorem c316_22 : pm_code 316 22 = some (.if_icmp .gt 21, 25) := pm_of cl316_0 13 (q := (22, .if_icmp .gt 21, 25)) rfl
theorem c316_25 : pm_code 316 25 = some (.iload 5, 27) := pm_of cl316_0 14 (q := (25, .iload 5, 27)) rfl
theorem c316_27 : pm_code 316 27 = some (.iload_n 0, 28) := pm_of cl316_0 15 (q := (27, .iload_n 0, 28)) rfl
theorem c316_28 : pm_code 316 28 = some (.iload 4, 30) := pm_of cl316_0 16 (q := (28, .iload 4, 30)) rfl
theorem c316_30 : pm_code 316 30 = some (.invokestatic 457, 33) := pm_of cl316_0 17 (q := (30, .invokestatic 457, 33)) rfl
theorem c316_33 : pm_code 316 33 = some (.iload_n 1, 34) := pm_of cl316_0 18 (q := (33, .iload_n 1, 34)) rfl
theorem c316_34 : pm_code 316 34 = some (.iload_n 0, 35) := pm_of cl316_0 19 (q := (34, .iload_n 0, 35)) rfl
theorem c316_35 : pm_code 316 35 = some (.iload 4, 37) := pm_of cl316_0 20 (q := (35, .iload 4, 37)) rfl
theorem c316_37 : pm_code 316 37 = some (.invokestatic 457, 40) := pm_of cl316_0 21 (q := (37, .invokestatic 457, 40)) rfl
theorem c316_40 : pm_code 316 40 = some (.if_icmp .le 5, 43) := pm_of cl316_0 22 (q := (40, .if_icmp .le 5, 43)) rfl
theorem c316_43 : pm_code 316 43 = some (.iconst 0, 44) := pm_of cl316_0 23 (q := (43, .iconst 0, 44)) rfl
theorem c316_44 : pm_code 316 44 = some (.ireturn, 45) := pm_of cl316_0 24 (q := (44, .ireturn, 45)) rfl
theorem c316_45 : pm_code 316 45 = some (.iinc 5 1, 48) := pm_of cl316_0 25 (q := (45, .iinc 5 1, 48)) rfl
theorem c316_48 : pm_code 316 48 = some (.goto (-45), 51) := pm_of cl316_0 26 (q := (48, .goto (-45), 51)) rfl
theorem c316_51 : pm_code 316 51 = some (.iconst 1, 52) := pm_of cl316_0 27 (q := (51, .iconst 1, 52)) rfl
theorem c316_52 : pm_code 316 52 = some (.ireturn, 53) := pm_of cl316_0 28 (q := (52, .ireturn, 53)) rfl
theorem k317 : pm_k 317 = 12 := by decide +kernel
theorem ml317 : pm_ml 317 = 3 := by decide +kernel
theorem rt317 : pm_rt 317 = (some .int) := by decide +kernel
theorem hh317 : pm_hh 317 = [] := by decide +kernel
theorem rc317 : pm_cl 12 = (pm_y 317).cls := by decide +kernel
theorem cl317_0 : ([(0, .iload_n 0, 1), (1, .iload_n 1, 2), (2, .if_icmp .le 9, 5), (5, .iload_n 2, 6), (6, .iload_n 0, 7), (7, .isub, 8), (8, .goto 17, 11), (11, .iload_n 0, 12), (12, .iload_n 1, 13), (13, .if_icmp .ne 11, 16), (16, .iload_n 2, 17), (17, .iload_n 0, 18), (18, .isub, 19), (19, .iconst 2, 20), (20, .idiv, 21), (21, .goto 4, 24), (24, .iconst 0, 25), (25, .ireturn, 26)] : List (Nat × Instr × Nat)).all (fun q => decide (pm_code 317 q.1 = some q.2)) = true := by decide +kernel
theorem c317_0 : pm_code 317 0 = some (.iload_n 0, 1) := pm_of cl317_0 0 (q := (0, .iload_n 0, 1)) rfl
theorem c317_1 : pm_code 317 1 = some (.iload_n 1, 2) := pm_of cl317_0 1 (q := (1, .iload_n 1, 2)) rfl
theorem c317_2 : pm_code 317 2 = some (.if_icmp .le 9, 5) := pm_of cl317_0 2 (q := (2, .if_icmp .le 9, 5)) rfl
theorem c317_5 : pm_code 317 5 = some (.iload_n 2, 6) := pm_of cl317_0 3 (q := (5, .iload_n 2, 6)) rfl
theorem c317_6 : pm_code 317 6 = some (.iload_n 0, 7) := pm_of cl317_0 4 (q := (6, .iload_n 0, 7)) rfl
theorem c317_7 : pm_code 317 7 = some (.isub, 8) := pm_of cl317_0 5 (q := (7, .isub, 8)) rfl
theorem c317_8 : pm_code 317 8 = some (.goto 17, 11) := pm_of cl317_0 6 (q := (8, .goto 17, 11)) rfl
theorem c317_11 : pm_code 317 11 = some (.iload_n 0, 12) := pm_of cl317_0 7 (q := (11, .iload_n 0, 12)) rfl
theorem c317_12 : pm_code 317 12 = some (.iload_n 1, 13) := pm_of cl317_0 8 (q := (12, .iload_n 1, 13)) rfl
theorem c317_13 : pm_code 317 13 = some (.if_icmp .ne 11, 16) := pm_of cl317_0 9 (q := (13, .if_icmp .ne 11, 16)) rfl
theorem c317_16 : pm_code 317 16 = some (.iload_n 2, 17) := pm_of cl317_0 10 (q := (16, .iload_n 2, 17)) rfl
theorem c317_17 : pm_code 317 17 = some (.iload_n 0, 18) := pm_of cl317_0 11 (q := (17, .iload_n 0, 18)) rfl
theorem c317_18 : pm_code 317 18 = some (.isub, 19) := pm_of cl317_0 12 (q := (18, .isub, 19)) rfl
theorem c317_19 : pm_code 317 19 = some (.iconst 2, 20) := pm_of cl317_0 13 (q := (19, .iconst 2, 20)) rfl
theorem c317_20 : pm_code 317 20 = some (.idiv, 21) := pm_of cl317_0 14 (q := (20, .idiv, 21)) rfl
theorem c317_21 : pm_code 317 21 = some (.goto 4, 24) := pm_of cl317_0 15 (q := (21, .goto 4, 24)) rfl
theorem c317_24 : pm_code 317 24 = some (.iconst 0, 25) := pm_of cl317_0 16 (q := (24, .iconst 0, 25)) rfl
theorem c317_25 : pm_code 317 25 = some (.ireturn, 26) := pm_of cl317_0 17 (q := (25, .ireturn, 26)) rfl
theorem k318 : pm_k 318 = 12 := by decide +kernel
theorem ml318 : pm_ml 318 = 4 := by decide +kernel
theorem rt318 : pm_rt 318 = (some .int) := by decide +kernel
theorem hh318 : pm_hh 318 = [] := by decide +kernel
theorem rc318 : pm_cl 12 = (pm_y 318).cls := by decide +kernel
theorem cl318_0 : ([(0, .aload_n 0, 1), (1, .iconst 0, 2), (2, .putfield 3, 5), (5, .aload_n 0, 6), (6, .iload_n 1, 7), (7, .iconst 0, 8), (8, .bipush 99, 10), (10, .invokestatic 290, 13), (13, .ifCond .eq 27, 16), (16, .iload_n 2, 17), (17, .iconst 0, 18), (18, .bipush 99, 20), (20, .invokestatic 290, 23), (23, .ifCond .eq 17, 26), (26, .iload_n 3, 27), (27, .iconst 0, 28), (28, .bipush 99, 30), (30, .invokestatic 290, 33), (33, .ifCond .eq 7, 36), (36, .iconst 1, 37), (37, .goto 4, 40), (40, .iconst 0, 41), (41, .iconst 1, 42), (42, .iconst 1, 43), (43, .invokevirtual 207, 46), (46, .ifCond .ne 5, 49), (49, .iconst 0, 50), (50, .ireturn, 51), (51, .iload_n 1, 52), (52, .iload_n 2, 53), (53, .iload_n 3, 54), (54, .invokestatic 457, 57), (57, .ireturn, 58)] : List (Nat × Instr × Nat)).all (fun q => decide (pm_code 318 q.1 = some q.2)) = true := by decide +kernel
theorem c318_0 : pm_code 318 0 = some (.aload_n 0, 1) := pm_of cl318_0 0 (q := (0, .aload_n 0, 1)) rfl
theorem c318_1 : pm_code 318 1 = some (.iconst 0, 2) := pm_of cl318_0 1 (q := (1, .iconst 0, 2)) rfl
theorem c318_2 : pm_code 318 2 = some (.putfield 3, 5) := pm_of cl318_0 2 (q := (2, .putfield 3, 5)) rfl
theorem c318_5 : pm_code 318 5 = some (.aload_n 0, 6) := pm_of cl318_0 3 (q := (5, .aload_n 0, 6)) rfl
theorem c318_6 : pm_code 318 6 = some (.iload_n 1, 7) := pm_of cl318_0 4 (q := (6, .iload_n 1, 7)) rfl
theorem c318_7 : pm_code 318 7 = some (.iconst 0, 8) := pm_of cl318_0 5 (q := (7, .iconst 0, 8)) rfl
theorem c318_8 : pm_code 318 8 = some (.bipush 99, 10) := pm_of cl318_0 6 (q := (8, .bipush 99, 10)) rfl
theorem c318_10 : pm_code 318 10 = some (.invokestatic 290, 13) := pm_of cl318_0 7 (q := (10, .invokestatic 290, 13)) rfl
theorem c318_13 : pm_code 318 13 = some (.ifCond .eq 27, 16) := pm_of cl318_0 8 (q := (13, .ifCond .eq 27, 16)) rfl
theorem c318_16 : pm_code 318 16 = some (.iload_n 2, 17) := pm_of cl318_0 9 (q := (16, .iload_n 2, 17)) rfl
theorem c318_17 : pm_code 318 17 = some (.iconst 0, 18) := pm_of cl318_0 10 (q := (17, .iconst 0, 18)) rfl
theorem c318_18 : pm_code 318 18 = some (.bipush 99, 20) := pm_of cl318_0 11 (q := (18, .bipush 99, 20)) rfl
theorem c318_20 : pm_code 318 20 = some (.invokestatic 290, 23) := pm_of cl318_0 12 (q := (20, .invokestatic 290, 23)) rfl
theorem c318_23 : pm_code 318 23 = some (.ifCond .eq 17, 26) := pm_of cl318_0 13 (q := (23, .ifCond .eq 17, 26)) rfl
theorem c318_26 : pm_code 318 26 = some (.iload_n 3, 27) := pm_of cl318_0 14 (q := (26, .iload_n 3, 27)) rfl
theorem c318_27 : pm_code 318 27 = some (.iconst 0, 28) := pm_of cl318_0 15 (q := (27, .iconst 0, 28)) rfl
theorem c318_28 : pm_code 318 28 = some (.bipush 99, 30) := pm_of cl318_0 16 (q := (28, .bipush 99, 30)) rfl
theorem c318_30 : pm_code 318 30 = some (.invokestatic 290, 33) := pm_of cl318_0 17 (q := (30, .invokestatic 290, 33)) rfl
theorem c318_33 : pm_code 318 33 = some (.ifCond .eq 7, 36) := pm_of cl318_0 18 (q := (33, .ifCond .eq 7, 36)) rfl
theorem c318_36 : pm_code 318 36 = some (.iconst 1, 37) := pm_of cl318_0 19 (q := (36, .iconst 1, 37)) rfl
theorem c318_37 : pm_code 318 37 = some (.goto 4, 40) := pm_of cl318_0 20 (q := (37, .goto 4, 40)) rfl
theorem c318_40 : pm_code 318 40 = some (.iconst 0, 41) := pm_of cl318_0 21 (q := (40, .iconst 0, 41)) rfl
theorem c318_41 : pm_code 318 41 = some (.iconst 1, 42) := pm_of cl318_0 22 (q := (41, .iconst 1, 42)) rfl
theorem c318_42 : pm_code 318 42 = some (.iconst 1, 43) := pm_of cl318_0 23 (q := (42, .iconst 1, 43)) rfl
theorem c318_43 : pm_code 318 43 = some (.invokevirtual 207, 46) := pm_of cl318_0 24 (q := (43, .invokevirtual 207, 46)) rfl
theorem c318_46 : pm_code 318 46 = some (.ifCond .ne 5, 49) := pm_of cl318_0 25 (q := (46, .ifCond .ne 5, 49)) rfl
theorem c318_49 : pm_code 318 49 = some (.iconst 0, 50) := pm_of cl318_0 26 (q := (49, .iconst 0, 50)) rfl
theorem c318_50 : pm_code 318 50 = some (.ireturn, 51) := pm_of cl318_0 27 (q := (50, .ireturn, 51)) rfl
theorem c318_51 : pm_code 318 51 = some (.iload_n 1, 52) := pm_of cl318_0 28 (q := (51, .iload_n 1, 52)) rfl
theorem c318_52 : pm_code 318 52 = some (.iload_n 2, 53) := pm_of cl318_0 29 (q := (52, .iload_n 2, 53)) rfl
theorem c318_53 : pm_code 318 53 = some (.iload_n 3, 54) := pm_of cl318_0 30 (q := (53, .iload_n 3, 54)) rfl
theorem c318_54 : pm_code 318 54 = some (.invokestatic 457, 57) := pm_of cl318_0 31 (q := (54, .invokestatic 457, 57)) rfl
theorem c318_57 : pm_code 318 57 = some (.ireturn, 58) := pm_of cl318_0 32 (q := (57, .ireturn, 58)) rfl
theorem k319 : pm_k 319 = 12 := by decide +kernel
theorem ml319 : pm_ml 319 = 6 := by decide +kernel
theorem rt319 : pm_rt 319 = (some .int) := by decide +kernel
theorem hh319 : pm_hh 319 = [] := by decide +kernel
theorem rc319 : pm_cl 12 = (pm_y 319).cls := by decide +kernel
theorem cl319_0 : ([(0, .aload_n 0, 1), (1, .iconst 0, 2), (2, .putfield 3, 5), (5, .aload_n 0, 6), (6, .iload_n 2, 7), (7, .iload_n 3, 8), (8, .iload 4, 10), (10, .invokestatic 474, 13), (13, .ifCond .eq 17, 16), (16, .iload 5, 18), (18, .iconst 0, 19), (19, .iconst 3, 20), (20, .invokestatic 290, 23), (23, .ifCond .eq 7, 26), (26, .iconst 1, 27), (27, .goto 4, 30), (30, .iconst 0, 31), (31, .iconst 1, 32), (32, .iconst 1, 33), (33, .invokevirtual 207, 36), (36, .ifCond .ne 5, 39), (39, .iconst 0, 40), (40, .ireturn, 41), (41, .aload_n 0, 42), (42, .iload_n 1, 43), (43, .iload_n 2, 44), (44, .iload_n 3, 45), (45, .iload 4, 47), (47, .invokevirtual 477, 50), (50, .iload 5, 52), (52, .ifCond .ne 10, 55), (55, .aload_n 0, 56), (56, .getfield 351, 59), (59, .goto 37, 62), (62, .iload 5, 64), (64, .iconst 1, 65), (65, .if_icmp .ne 13, 68), (68, .aload_n 0, 69), (69, .getfield 65, 72), (72, .bipush 65, 74)] : List (Nat × Instr × Nat)).all (fun q => decide (pm_code 319 q.1 = some q.2)) = true := by decide +kernel
theorem c319_0 : pm_code 319 0 = some (.aload_n 0, 1) := pm_of cl319_0 0 (q := (0, .aload_n 0, 1)) rfl
theorem c319_1 : pm_code 319 1 = some (.iconst 0, 2) := pm_of cl319_0 1 (q := (1, .iconst 0, 2)) rfl
theorem c319_2 : pm_code 319 2 = some (.putfield 3, 5) := pm_of cl319_0 2 (q := (2, .putfield 3, 5)) rfl
theorem c319_5 : pm_code 319 5 = some (.aload_n 0, 6) := pm_of cl319_0 3 (q := (5, .aload_n 0, 6)) rfl
theorem c319_6 : pm_code 319 6 = some (.iload_n 2, 7) := pm_of cl319_0 4 (q := (6, .iload_n 2, 7)) rfl
theorem c319_7 : pm_code 319 7 = some (.iload_n 3, 8) := pm_of cl319_0 5 (q := (7, .iload_n 3, 8)) rfl
theorem c319_8 : pm_code 319 8 = some (.iload 4, 10) := pm_of cl319_0 6 (q := (8, .iload 4, 10)) rfl
theorem c319_10 : pm_code 319 10 = some (.invokestatic 474, 13) := pm_of cl319_0 7 (q := (10, .invokestatic 474, 13)) rfl
theorem c319_13 : pm_code 319 13 = some (.ifCond .eq 17, 16) := pm_of cl319_0 8 (q := (13, .ifCond .eq 17, 16)) rfl
theorem c319_16 : pm_code 319 16 = some (.iload 5, 18) := pm_of cl319_0 9 (q := (16, .iload 5, 18)) rfl
theorem c319_18 : pm_code 319 18 = some (.iconst 0, 19) := pm_of cl319_0 10 (q := (18, .iconst 0, 19)) rfl
theorem c319_19 : pm_code 319 19 = some (.iconst 3, 20) := pm_of cl319_0 11 (q := (19, .iconst 3, 20)) rfl
theorem c319_20 : pm_code 319 20 = some (.invokestatic 290, 23) := pm_of cl319_0 12 (q := (20, .invokestatic 290, 23)) rfl
theorem c319_23 : pm_code 319 23 = some (.ifCond .eq 7, 26) := pm_of cl319_0 13 (q := (23, .ifCond .eq 7, 26)) rfl
theorem c319_26 : pm_code 319 26 = some (.iconst 1, 27) := pm_of cl319_0 14 (q := (26, .iconst 1, 27)) rfl
theorem c319_27 : pm_code 319 27 = some (.goto 4, 30) := pm_of cl319_0 15 (q := (27, .goto 4, 30)) rfl
theorem c319_30 : pm_code 319 30 = some (.iconst 0, 31) := pm_of cl319_0 16 (q := (30, .iconst 0, 31)) rfl
theorem c319_31 : pm_code 319 31 = some (.iconst 1, 32) := pm_of cl319_0 17 (q := (31, .iconst 1, 32)) rfl
theorem c319_32 : pm_code 319 32 = some (.iconst 1, 33) := pm_of cl319_0 18 (q := (32, .iconst 1, 33)) rfl
theorem c319_33 : pm_code 319 33 = some (.invokevirtual 207, 36) := pm_of cl319_0 19 (q := (33, .invokevirtual 207, 36)) rfl
theorem c319_36 : pm_code 319 36 = some (.ifCond .ne 5, 39) := pm_of cl319_0 20 (q := (36, .ifCond .ne 5, 39)) rfl
theorem c319_39 : pm_code 319 39 = some (.iconst 0, 40) := pm_of cl319_0 21 (q := (39, .iconst 0, 40)) rfl
theorem c319_40 : pm_code 319 40 = some (.ireturn, 41) := pm_of cl319_0 22 (q := (40, .ireturn, 41)) rfl
theorem c319_41 : pm_code 319 41 = some (.aload_n 0, 42) := pm_of cl319_0 23 (q := (41, .aload_n 0, 42)) rfl
theorem c319_42 : pm_code 319 42 = some (.iload_n 1, 43) := pm_of cl319_0 24 (q := (42, .iload_n 1, 43)) rfl
theorem c319_43 : pm_code 319 43 = some (.iload_n 2, 44) := pm_of cl319_0 25 (q := (43, .iload_n 2, 44)) rfl
theorem c319_44 : pm_code 319 44 = some (.iload_n 3, 45) := pm_of cl319_0 26 (q := (44, .iload_n 3, 45)) rfl
theorem c319_45 : pm_code 319 45 = some (.iload 4, 47) := pm_of cl319_0 27 (q := (45, .iload 4, 47)) rfl
theorem c319_47 : pm_code 319 47 = some (.invokevirtual 477, 50) := pm_of cl319_0 28 (q := (47, .invokevirtual 477, 50)) rfl
theorem c319_50 : pm_code 319 50 = some (.iload 5, 52) := pm_of cl319_0 29 (q := (50, .iload 5, 52)) rfl
theorem c319_52 : pm_code 319 52 = some (.ifCond .ne 10, 55) := pm_of cl319_0 30 (q := (52, .ifCond .ne 10, 55)) rfl
theorem c319_55 : pm_code 319 55 = some (.aload_n 0, 56) := pm_of cl319_0 31 (q := (55, .aload_n 0, 56)) rfl
theorem c319_56 : pm_code 319 56 = some (.getfield 351, 59) := pm_of cl319_0 32 (q := (56, .getfield 351, 59)) rfl
theorem c319_59 : pm_code 319 59 = some (.goto 37, 62) := pm_of cl319_0 33 (q := (59, .goto 37, 62)) rfl
theorem c319_62 : pm_code 319 62 = some (.iload 5, 64) := pm_of cl319_0 34 (q := (62, .iload 5, 64)) rfl
theorem c319_64 : pm_code 319 64 = some (.iconst 1, 65) := pm_of cl319_0 35 (q := (64, .iconst 1, 65)) rfl
theorem c319_65 : pm_code 319 65 = some (.if_icmp .ne 13, 68) := pm_of cl319_0 36 (q := (65, .if_icmp .ne 13, 68)) rfl
theorem c319_68 : pm_code 319 68 = some (.aload_n 0, 69) := pm_of cl319_0 37 (q := (68, .aload_n 0, 69)) rfl
theorem c319_69 : pm_code 319 69 = some (.getfield 65, 72) := pm_of cl319_0 38 (q := (69, .getfield 65, 72)) rfl
theorem c319_72 : pm_code 319 72 = some (.bipush 65, 74) := pm_of cl319_0 39 (q := (72, .bipush 65, 74)) rfl
theorem cl319_1 : ([(74, .iaload, 75), (75, .goto 21, 78), (78, .iload 5, 80), (80, .iconst 2, 81), (81, .if_icmp .ne 10, 84), (84, .aload_n 0, 85), (85, .getfield 468, 88), (88, .goto 8, 91), (91, .aload_n 0, 92), (92, .iconst 3, 93), (93, .invokevirtual 374, 96), (96, .ireturn, 97)] : List (Nat × Instr × Nat)).all (fun q => decide (pm_code 319 q.1 = some q.2)) = true := by decide +kernel
theorem c319_74 : pm_code 319 74 = some (.iaload, 75) := pm_of cl319_1 0 (q := (74, .iaload, 75)) rfl
theorem c319_75 : pm_code 319 75 = some (.goto 21, 78) := pm_of cl319_1 1 (q := (75, .goto 21, 78)) rfl
theorem c319_78 : pm_code 319 78 = some (.iload 5, 80) := pm_of cl319_1 2 (q := (78, .iload 5, 80)) rfl
theorem c319_80 : pm_code 319 80 = some (.iconst 2, 81) := pm_of cl319_1 3 (q := (80, .iconst 2, 81)) rfl
theorem c319_81 : pm_code 319 81 = some (.if_icmp .ne 10, 84) := pm_of cl319_1 4 (q := (81, .if_icmp .ne 10, 84)) rfl
theorem c319_84 : pm_code 319 84 = some (.aload_n 0, 85) := pm_of cl319_1 5 (q := (84, .aload_n 0, 85)) rfl
theorem c319_85 : pm_code 319 85 = some (.getfield 468, 88) := pm_of cl319_1 6 (q := (85, .getfield 468, 88)) rfl
theorem c319_88 : pm_code 319 88 = some (.goto 8, 91) := pm_of cl319_1 7 (q := (88, .goto 8, 91)) rfl
theorem c319_91 : pm_code 319 91 = some (.aload_n 0, 92) := pm_of cl319_1 8 (q := (91, .aload_n 0, 92)) rfl
theorem c319_92 : pm_code 319 92 = some (.iconst 3, 93) := pm_of cl319_1 9 (q := (92, .iconst 3, 93)) rfl
theorem c319_93 : pm_code 319 93 = some (.invokevirtual 374, 96) := pm_of cl319_1 10 (q := (93, .invokevirtual 374, 96)) rfl
theorem c319_96 : pm_code 319 96 = some (.ireturn, 97) := pm_of cl319_1 11 (q := (96, .ireturn, 97)) rfl
theorem k320 : pm_k 320 = 12 := by decide +kernel
theorem ml320 : pm_ml 320 = 3 := by decide +kernel
theorem rt320 : pm_rt 320 = (some .boolean) := by decide +kernel
theorem hh320 : pm_hh 320 = [] := by decide +kernel
theorem rc320 : pm_cl 12 = (pm_y 320).cls := by decide +kernel
theorem cl320_0 : ([(0, .iload_n 0, 1), (1, .ifCond .lt 34, 4), (4, .iload_n 0, 5), (5, .bipush 16, 7), (7, .if_icmp .gt 28, 10), (10, .iload_n 1, 11), (11, .ifCond .lt 24, 14), (14, .iload_n 1, 15), (15, .bipush 40, 17), (17, .if_icmp .gt 18, 20), (20, .iload_n 2, 21), (21, .iconst 1, 22), (22, .if_icmp .lt 13, 25), (25, .iload_n 2, 26), (26, .bipush 99, 28), (28, .if_icmp .gt 7, 31), (31, .iconst 1, 32), (32, .goto 4, 35), (35, .iconst 0, 36), (36, .ireturn, 37)] : List (Nat × Instr × Nat)).all (fun q => decide (pm_code 320 q.1 = some q.2)) = true := by decide +kernel
theorem c320_0 : pm_code 320 0 = some (.iload_n 0, 1) := pm_of cl320_0 0 (q := (0, .iload_n 0, 1)) rfl
theorem c320_1 : pm_code 320 1 = some (.ifCond .lt 34, 4) := pm_of cl320_0 1 (q := (1, .ifCond .lt 34, 4)) rfl
theorem c320_4 : pm_code 320 4 = some (.iload_n 0, 5) := pm_of cl320_0 2 (q := (4, .iload_n 0, 5)) rfl
theorem c320_5 : pm_code 320 5 = some (.bipush 16, 7) := pm_of cl320_0 3 (q := (5, .bipush 16, 7)) rfl
theorem c320_7 : pm_code 320 7 = some (.if_icmp .gt 28, 10) := pm_of cl320_0 4 (q := (7, .if_icmp .gt 28, 10)) rfl
theorem c320_10 : pm_code 320 10 = some (.iload_n 1, 11) := pm_of cl320_0 5 (q := (10, .iload_n 1, 11)) rfl
theorem c320_11 : pm_code 320 11 = some (.ifCond .lt 24, 14) := pm_of cl320_0 6 (q := (11, .ifCond .lt 24, 14)) rfl
theorem c320_14 : pm_code 320 14 = some (.iload_n 1, 15) := pm_of cl320_0 7 (q := (14, .iload_n 1, 15)) rfl
theorem c320_15 : pm_code 320 15 = some (.bipush 40, 17) := pm_of cl320_0 8 (q := (15, .bipush 40, 17)) rfl
theorem c320_17 : pm_code 320 17 = some (.if_icmp .gt 18, 20) := pm_of cl320_0 9 (q := (17, .if_icmp .gt 18, 20)) rfl
theorem c320_20 : pm_code 320 20 = some (.iload_n 2, 21) := pm_of cl320_0 10 (q := (20, .iload_n 2, 21)) rfl
theorem c320_21 : pm_code 320 21 = some (.iconst 1, 22) := pm_of cl320_0 11 (q := (21, .iconst 1, 22)) rfl
theorem c320_22 : pm_code 320 22 = some (.if_icmp .lt 13, 25) := pm_of cl320_0 12 (q := (22, .if_icmp .lt 13, 25)) rfl
theorem c320_25 : pm_code 320 25 = some (.iload_n 2, 26) := pm_of cl320_0 13 (q := (25, .iload_n 2, 26)) rfl
theorem c320_26 : pm_code 320 26 = some (.bipush 99, 28) := pm_of cl320_0 14 (q := (26, .bipush 99, 28)) rfl
theorem c320_28 : pm_code 320 28 = some (.if_icmp .gt 7, 31) := pm_of cl320_0 15 (q := (28, .if_icmp .gt 7, 31)) rfl
theorem c320_31 : pm_code 320 31 = some (.iconst 1, 32) := pm_of cl320_0 16 (q := (31, .iconst 1, 32)) rfl
theorem c320_32 : pm_code 320 32 = some (.goto 4, 35) := pm_of cl320_0 17 (q := (32, .goto 4, 35)) rfl
theorem c320_35 : pm_code 320 35 = some (.iconst 0, 36) := pm_of cl320_0 18 (q := (35, .iconst 0, 36)) rfl
theorem c320_36 : pm_code 320 36 = some (.ireturn, 37) := pm_of cl320_0 19 (q := (36, .ireturn, 37)) rfl
theorem k321 : pm_k 321 = 12 := by decide +kernel
theorem ml321 : pm_ml 321 = 6 := by decide +kernel
theorem rt321 : pm_rt 321 = none := by decide +kernel
theorem hh321 : pm_hh 321 = [] := by decide +kernel
theorem rc321 : pm_cl 12 = (pm_y 321).cls := by decide +kernel
theorem cl321_0 : ([(0, .aload_n 0, 1), (1, .invokevirtual 330, 4), (4, .aload_n 0, 5), (5, .iload_n 1, 6), (6, .putfield 464, 9), (9, .aload_n 0, 10), (10, .iconst 0, 11), (11, .putfield 468, 14), (14, .iconst 0, 15), (15, .istore 5, 17), (17, .iload 5, 19), (19, .iload 4, 21), (21, .if_icmp .ge 62, 24), (24, .aload_n 0, 25), (25, .invokevirtual 471, 28), (28, .iload_n 2, 29), (29, .if_icmp .ge 44, 32), (32, .aload_n 0, 33), (33, .dup, 34), (34, .getfield 468, 37), (37, .iconst 1, 38), (38, .iadd, 39), (39, .putfield 468, 42), (42, .aload_n 0, 43), (43, .getfield 65, 46), (46, .bipush 65, 48), (48, .aload_n 0, 49), (49, .getfield 65, 52), (52, .bipush 65, 54), (54, .iaload, 55), (55, .iload_n 3, 56), (56, .if_icmp .le 15, 59), (59, .aload_n 0, 60), (60, .getfield 65, 63), (63, .bipush 65, 65), (65, .iaload, 66), (66, .iload_n 3, 67), (67, .isub, 68), (68, .goto 4, 71), (71, .iconst 0, 72)] : List (Nat × Instr × Nat)).all (fun q => decide (pm_code 321 q.1 = some q.2)) = true := by decide +kernel
theorem c321_0 : pm_code 321 0 = some (.aload_n 0, 1) := pm_of cl321_0 0 (q := (0, .aload_n 0, 1)) rfl
theorem c321_1 : pm_code 321 1 = some (.invokevirtual 330, 4) := pm_of cl321_0 1 (q := (1, .invokevirtual 330, 4)) rfl
theorem c321_4 : pm_code 321 4 = some (.aload_n 0, 5) := pm_of cl321_0 2 (q := (4, .aload_n 0, 5)) rfl
theorem c321_5 : pm_code 321 5 = some (.iload_n 1, 6) := pm_of cl321_0 3 (q := (5, .iload_n 1, 6)) rfl
theorem c321_6 : pm_code 321 6 = some (.putfield 464, 9) := pm_of cl321_0 4 (q := (6, .putfield 464, 9)) rfl
theorem c321_9 : pm_code 321 9 = some (.aload_n 0, 10) := pm_of cl321_0 5 (q := (9, .aload_n 0, 10)) rfl
theorem c321_10 : pm_code 321 10 = some (.iconst 0, 11) := pm_of cl321_0 6 (q := (10, .iconst 0, 11)) rfl
theorem c321_11 : pm_code 321 11 = some (.putfield 468, 14) := pm_of cl321_0 7 (q := (11, .putfield 468, 14)) rfl
theorem c321_14 : pm_code 321 14 = some (.iconst 0, 15) := pm_of cl321_0 8 (q := (14, .iconst 0, 15)) rfl
theorem c321_15 : pm_code 321 15 = some (.istore 5, 17) := pm_of cl321_0 9 (q := (15, .istore 5, 17)) rfl
theorem c321_17 : pm_code 321 17 = some (.iload 5, 19) := pm_of cl321_0 10 (q := (17, .iload 5, 19)) rfl
theorem c321_19 : pm_code 321 19 = some (.iload 4, 21) := pm_of cl321_0 11 (q := (19, .iload 4, 21)) rfl
theorem c321_21 : pm_code 321 21 = some (.if_icmp .ge 62, 24) := pm_of cl321_0 12 (q := (21, .if_icmp .ge 62, 24)) rfl
theorem c321_24 : pm_code 321 24 = some (.aload_n 0, 25) := pm_of cl321_0 13 (q := (24, .aload_n 0, 25)) rfl
theorem c321_25 : pm_code 321 25 = some (.invokevirtual 471, 28) := pm_of cl321_0 14 (q := (25, .invokevirtual 471, 28)) rfl
theorem c321_28 : pm_code 321 28 = some (.iload_n 2, 29) := pm_of cl321_0 15 (q := (28, .iload_n 2, 29)) rfl
theorem c321_29 : pm_code 321 29 = some (.if_icmp .ge 44, 32) := pm_of cl321_0 16 (q := (29, .if_icmp .ge 44, 32)) rfl
theorem c321_32 : pm_code 321 32 = some (.aload_n 0, 33) := pm_of cl321_0 17 (q := (32, .aload_n 0, 33)) rfl
theorem c321_33 : pm_code 321 33 = some (.dup, 34) := pm_of cl321_0 18 (q := (33, .dup, 34)) rfl
theorem c321_34 : pm_code 321 34 = some (.getfield 468, 37) := pm_of cl321_0 19 (q := (34, .getfield 468, 37)) rfl
theorem c321_37 : pm_code 321 37 = some (.iconst 1, 38) := pm_of cl321_0 20 (q := (37, .iconst 1, 38)) rfl
theorem c321_38 : pm_code 321 38 = some (.iadd, 39) := pm_of cl321_0 21 (q := (38, .iadd, 39)) rfl
theorem c321_39 : pm_code 321 39 = some (.putfield 468, 42) := pm_of cl321_0 22 (q := (39, .putfield 468, 42)) rfl
theorem c321_42 : pm_code 321 42 = some (.aload_n 0, 43) := pm_of cl321_0 23 (q := (42, .aload_n 0, 43)) rfl
theorem c321_43 : pm_code 321 43 = some (.getfield 65, 46) := pm_of cl321_0 24 (q := (43, .getfield 65, 46)) rfl
theorem c321_46 : pm_code 321 46 = some (.bipush 65, 48) := pm_of cl321_0 25 (q := (46, .bipush 65, 48)) rfl
theorem c321_48 : pm_code 321 48 = some (.aload_n 0, 49) := pm_of cl321_0 26 (q := (48, .aload_n 0, 49)) rfl
theorem c321_49 : pm_code 321 49 = some (.getfield 65, 52) := pm_of cl321_0 27 (q := (49, .getfield 65, 52)) rfl
theorem c321_52 : pm_code 321 52 = some (.bipush 65, 54) := pm_of cl321_0 28 (q := (52, .bipush 65, 54)) rfl
theorem c321_54 : pm_code 321 54 = some (.iaload, 55) := pm_of cl321_0 29 (q := (54, .iaload, 55)) rfl
theorem c321_55 : pm_code 321 55 = some (.iload_n 3, 56) := pm_of cl321_0 30 (q := (55, .iload_n 3, 56)) rfl
theorem c321_56 : pm_code 321 56 = some (.if_icmp .le 15, 59) := pm_of cl321_0 31 (q := (56, .if_icmp .le 15, 59)) rfl
theorem c321_59 : pm_code 321 59 = some (.aload_n 0, 60) := pm_of cl321_0 32 (q := (59, .aload_n 0, 60)) rfl
theorem c321_60 : pm_code 321 60 = some (.getfield 65, 63) := pm_of cl321_0 33 (q := (60, .getfield 65, 63)) rfl
theorem c321_63 : pm_code 321 63 = some (.bipush 65, 65) := pm_of cl321_0 34 (q := (63, .bipush 65, 65)) rfl
theorem c321_65 : pm_code 321 65 = some (.iaload, 66) := pm_of cl321_0 35 (q := (65, .iaload, 66)) rfl
theorem c321_66 : pm_code 321 66 = some (.iload_n 3, 67) := pm_of cl321_0 36 (q := (66, .iload_n 3, 67)) rfl
theorem c321_67 : pm_code 321 67 = some (.isub, 68) := pm_of cl321_0 37 (q := (67, .isub, 68)) rfl
theorem c321_68 : pm_code 321 68 = some (.goto 4, 71) := pm_of cl321_0 38 (q := (68, .goto 4, 71)) rfl
theorem c321_71 : pm_code 321 71 = some (.iconst 0, 72) := pm_of cl321_0 39 (q := (71, .iconst 0, 72)) rfl
theorem cl321_1 : ([(72, .iastore, 73), (73, .aload_n 0, 74), (74, .invokevirtual 401, 77), (77, .iinc 5 1, 80), (80, .goto (-63), 83), (83, .return_, 84)] : List (Nat × Instr × Nat)).all (fun q => decide (pm_code 321 q.1 = some q.2)) = true := by decide +kernel
theorem c321_72 : pm_code 321 72 = some (.iastore, 73) := pm_of cl321_1 0 (q := (72, .iastore, 73)) rfl
theorem c321_73 : pm_code 321 73 = some (.aload_n 0, 74) := pm_of cl321_1 1 (q := (73, .aload_n 0, 74)) rfl
theorem c321_74 : pm_code 321 74 = some (.invokevirtual 401, 77) := pm_of cl321_1 2 (q := (74, .invokevirtual 401, 77)) rfl
theorem c321_77 : pm_code 321 77 = some (.iinc 5 1, 80) := pm_of cl321_1 3 (q := (77, .iinc 5 1, 80)) rfl
theorem c321_80 : pm_code 321 80 = some (.goto (-63), 83) := pm_of cl321_1 4 (q := (80, .goto (-63), 83)) rfl
theorem c321_83 : pm_code 321 83 = some (.return_, 84) := pm_of cl321_1 5 (q := (83, .return_, 84)) rfl
theorem k322 : pm_k 322 = 12 := by decide +kernel
theorem ml322 : pm_ml 322 = 1 := by decide +kernel
theorem rt322 : pm_rt 322 = (some .int) := by decide +kernel
theorem hh322 : pm_hh 322 = [] := by decide +kernel
theorem rc322 : pm_cl 12 = (pm_y 322).cls := by decide +kernel
theorem cl322_0 : ([(0, .aload_n 0, 1), (1, .aload_n 0, 2), (2, .getfield 464, 5), (5, .ldc_w 467, 8), (8, .imul, 9), (9, .sipush 12345, 12), (12, .iadd, 13), (13, .putfield 464, 16), (16, .aload_n 0, 17), (17, .getfield 464, 20), (20, .bipush 16, 22), (22, .ishr, 23), (23, .sipush 32767, 26), (26, .iand, 27), (27, .bipush 16, 29), (29, .irem, 30), (30, .ireturn, 31)] : List (Nat × Instr × Nat)).all (fun q => decide (pm_code 322 q.1 = some q.2)) = true := by decide +kernel
theorem c322_0 : pm_code 322 0 = some (.aload_n 0, 1) := pm_of cl322_0 0 (q := (0, .aload_n 0, 1)) rfl
theorem c322_1 : pm_code 322 1 = some (.aload_n 0, 2) := pm_of cl322_0 1 (q := (1, .aload_n 0, 2)) rfl
theorem c322_2 : pm_code 322 2 = some (.getfield 464, 5) := pm_of cl322_0 2 (q := (2, .getfield 464, 5)) rfl
theorem c322_5 : pm_code 322 5 = some (.ldc_w 467, 8) := pm_of cl322_0 3 (q := (5, .ldc_w 467, 8)) rfl
theorem c322_8 : pm_code 322 8 = some (.imul, 9) := pm_of cl322_0 4 (q := (8, .imul, 9)) rfl
theorem c322_9 : pm_code 322 9 = some (.sipush 12345, 12) := pm_of cl322_0 5 (q := (9, .sipush 12345, 12)) rfl
theorem c322_12 : pm_code 322 12 = some (.iadd, 13) := pm_of cl322_0 6 (q := (12, .iadd, 13)) rfl
theorem c322_13 : pm_code 322 13 = some (.putfield 464, 16) := pm_of cl322_0 7 (q := (13, .putfield 464, 16)) rfl
theorem c322_16 : pm_code 322 16 = some (.aload_n 0, 17) := pm_of cl322_0 8 (q := (16, .aload_n 0, 17)) rfl
theorem c322_17 : pm_code 322 17 = some (.getfield 464, 20) := pm_of cl322_0 9 (q := (17, .getfield 464, 20)) rfl
theorem c322_20 : pm_code 322 20 = some (.bipush 16, 22) := pm_of cl322_0 10 (q := (20, .bipush 16, 22)) rfl
theorem c322_22 : pm_code 322 22 = some (.ishr, 23) := pm_of cl322_0 11 (q := (22, .ishr, 23)) rfl
theorem c322_23 : pm_code 322 23 = some (.sipush 32767, 26) := pm_of cl322_0 12 (q := (23, .sipush 32767, 26)) rfl
theorem c322_26 : pm_code 322 26 = some (.iand, 27) := pm_of cl322_0 13 (q := (26, .iand, 27)) rfl
theorem c322_27 : pm_code 322 27 = some (.bipush 16, 29) := pm_of cl322_0 14 (q := (27, .bipush 16, 29)) rfl
theorem c322_29 : pm_code 322 29 = some (.irem, 30) := pm_of cl322_0 15 (q := (29, .irem, 30)) rfl
theorem c322_30 : pm_code 322 30 = some (.ireturn, 31) := pm_of cl322_0 16 (q := (30, .ireturn, 31)) rfl
theorem k323 : pm_k 323 = 12 := by decide +kernel
theorem ml323 : pm_ml 323 = 11 := by decide +kernel
theorem rt323 : pm_rt 323 = (some .int) := by decide +kernel
theorem hh323 : pm_hh 323 = [] := by decide +kernel
theorem rc323 : pm_cl 12 = (pm_y 323).cls := by decide +kernel
theorem cl323_0 : ([(0, .aload_n 0, 1), (1, .iconst 0, 2), (2, .putfield 3, 5), (5, .aload_n 0, 6), (6, .iload_n 2, 7), (7, .iconst 1, 8), (8, .bipush 20, 10), (10, .invokestatic 290, 13), (13, .ifCond .eq 28, 16), (16, .iload_n 3, 17), (17, .iload 4, 19), (19, .iload 5, 21), (21, .invokestatic 474, 24), (24, .ifCond .eq 17, 27), (27, .iload 6, 29), (29, .iconst 0, 30), (30, .iconst 2, 31), (31, .invokestatic 290, 34), (34, .ifCond .eq 7, 37), (37, .iconst 1, 38), (38, .goto 4, 41), (41, .iconst 0, 42), (42, .iconst 1, 43), (43, .iconst 1, 44), (44, .invokevirtual 207, 47), (47, .ifCond .ne 5, 50), (50, .iconst 0, 51), (51, .ireturn, 52), (52, .iconst (-1), 53), (53, .istore 7, 55), (55, .iconst 0, 56), (56, .istore 8, 58), (58, .iconst 0, 59), (59, .istore 9, 61), (61, .iconst 0, 62), (62, .istore 10, 64), (64, .iload 10, 66), (66, .iload_n 2, 67), (67, .if_icmp .ge 85, 70), (70, .aload_n 0, 71)] : List (Nat × Instr × Nat)).all (fun q => decide (pm_code 323 q.1 = some q.2)) = true := by decide +kernel
theorem c323_0 : pm_code 323 0 = some (.aload_n 0, 1) := pm_of cl323_0 0 (q := (0, .aload_n 0, 1)) rfl
theorem c323_1 : pm_code 323 1 = some (.iconst 0, 2) := pm_of cl323_0 1 (q := (1, .iconst 0, 2)) rfl
theorem c323_2 : pm_code 323 2 = some (.putfield 3, 5) := pm_of cl323_0 2 (q := (2, .putfield 3, 5)) rfl
theorem c323_5 : pm_code 323 5 = some (.aload_n 0, 6) := pm_of cl323_0 3 (q := (5, .aload_n 0, 6)) rfl
theorem c323_6 : pm_code 323 6 = some (.iload_n 2, 7) := pm_of cl323_0 4 (q := (6, .iload_n 2, 7)) rfl
theorem c323_7 : pm_code 323 7 = some (.iconst 1, 8) := pm_of cl323_0 5 (q := (7, .iconst 1, 8)) rfl
theorem c323_8 : pm_code 323 8 = some (.bipush 20, 10) := pm_of cl323_0 6 (q := (8, .bipush 20, 10)) rfl
theorem c323_10 : pm_code 323 10 = some (.invokestatic 290, 13) := pm_of cl323_0 7 (q := (10, .invokestatic 290, 13)) rfl
theorem c323_13 : pm_code 323 13 = some (.ifCond .eq 28, 16) := pm_of cl323_0 8 (q := (13, .ifCond .eq 28, 16)) rfl
theorem c323_16 : pm_code 323 16 = some (.iload_n 3, 17) := pm_of cl323_0 9 (q := (16, .iload_n 3, 17)) rfl
theorem c323_17 : pm_code 323 17 = some (.iload 4, 19) := pm_of cl323_0 10 (q := (17, .iload 4, 19)) rfl
theorem c323_19 : pm_code 323 19 = some (.iload 5, 21) := pm_of cl323_0 11 (q := (19, .iload 5, 21)) rfl
theorem c323_21 : pm_code 323 21 = some (.invokestatic 474, 24) := pm_of cl323_0 12 (q := (21, .invokestatic 474, 24)) rfl
theorem c323_24 : pm_code 323 24 = some (.ifCond .eq 17, 27) := pm_of cl323_0 13 (q := (24, .ifCond .eq 17, 27)) rfl
theorem c323_27 : pm_code 323 27 = some (.iload 6, 29) := pm_of cl323_0 14 (q := (27, .iload 6, 29)) rfl
theorem c323_29 : pm_code 323 29 = some (.iconst 0, 30) := pm_of cl323_0 15 (q := (29, .iconst 0, 30)) rfl
theorem c323_30 : pm_code 323 30 = some (.iconst 2, 31) := pm_of cl323_0 16 (q := (30, .iconst 2, 31)) rfl
theorem c323_31 : pm_code 323 31 = some (.invokestatic 290, 34) := pm_of cl323_0 17 (q := (31, .invokestatic 290, 34)) rfl
theorem c323_34 : pm_code 323 34 = some (.ifCond .eq 7, 37) := pm_of cl323_0 18 (q := (34, .ifCond .eq 7, 37)) rfl
theorem c323_37 : pm_code 323 37 = some (.iconst 1, 38) := pm_of cl323_0 19 (q := (37, .iconst 1, 38)) rfl
theorem c323_38 : pm_code 323 38 = some (.goto 4, 41) := pm_of cl323_0 20 (q := (38, .goto 4, 41)) rfl
theorem c323_41 : pm_code 323 41 = some (.iconst 0, 42) := pm_of cl323_0 21 (q := (41, .iconst 0, 42)) rfl
theorem c323_42 : pm_code 323 42 = some (.iconst 1, 43) := pm_of cl323_0 22 (q := (42, .iconst 1, 43)) rfl
theorem c323_43 : pm_code 323 43 = some (.iconst 1, 44) := pm_of cl323_0 23 (q := (43, .iconst 1, 44)) rfl
theorem c323_44 : pm_code 323 44 = some (.invokevirtual 207, 47) := pm_of cl323_0 24 (q := (44, .invokevirtual 207, 47)) rfl
theorem c323_47 : pm_code 323 47 = some (.ifCond .ne 5, 50) := pm_of cl323_0 25 (q := (47, .ifCond .ne 5, 50)) rfl
theorem c323_50 : pm_code 323 50 = some (.iconst 0, 51) := pm_of cl323_0 26 (q := (50, .iconst 0, 51)) rfl
theorem c323_51 : pm_code 323 51 = some (.ireturn, 52) := pm_of cl323_0 27 (q := (51, .ireturn, 52)) rfl
theorem c323_52 : pm_code 323 52 = some (.iconst (-1), 53) := pm_of cl323_0 28 (q := (52, .iconst (-1), 53)) rfl
theorem c323_53 : pm_code 323 53 = some (.istore 7, 55) := pm_of cl323_0 29 (q := (53, .istore 7, 55)) rfl
theorem c323_55 : pm_code 323 55 = some (.iconst 0, 56) := pm_of cl323_0 30 (q := (55, .iconst 0, 56)) rfl
theorem c323_56 : pm_code 323 56 = some (.istore 8, 58) := pm_of cl323_0 31 (q := (56, .istore 8, 58)) rfl
theorem c323_58 : pm_code 323 58 = some (.iconst 0, 59) := pm_of cl323_0 32 (q := (58, .iconst 0, 59)) rfl
theorem c323_59 : pm_code 323 59 = some (.istore 9, 61) := pm_of cl323_0 33 (q := (59, .istore 9, 61)) rfl
theorem c323_61 : pm_code 323 61 = some (.iconst 0, 62) := pm_of cl323_0 34 (q := (61, .iconst 0, 62)) rfl
theorem c323_62 : pm_code 323 62 = some (.istore 10, 64) := pm_of cl323_0 35 (q := (62, .istore 10, 64)) rfl
theorem c323_64 : pm_code 323 64 = some (.iload 10, 66) := pm_of cl323_0 36 (q := (64, .iload 10, 66)) rfl
theorem c323_66 : pm_code 323 66 = some (.iload_n 2, 67) := pm_of cl323_0 37 (q := (66, .iload_n 2, 67)) rfl
theorem c323_67 : pm_code 323 67 = some (.if_icmp .ge 85, 70) := pm_of cl323_0 38 (q := (67, .if_icmp .ge 85, 70)) rfl
theorem c323_70 : pm_code 323 70 = some (.aload_n 0, 71) := pm_of cl323_0 39 (q := (70, .aload_n 0, 71)) rfl
theorem cl323_1 : ([(71, .iload_n 1, 72), (72, .iload 10, 74), (74, .iadd, 75), (75, .iload_n 3, 76), (76, .iload 4, 78), (78, .iload 5, 80), (80, .invokevirtual 477, 83), (83, .iload 7, 85), (85, .iconst (-1), 86), (86, .if_icmp .eq 12, 89), (89, .aload_n 0, 90), (90, .getfield 351, 93), (93, .iload 7, 95), (95, .if_icmp .ge 10, 98), (98, .aload_n 0, 99), (99, .getfield 351, 102), (102, .goto 5, 105), (105, .iload 7, 107), (107, .istore 7, 109), (109, .aload_n 0, 110), (110, .getfield 351, 113), (113, .iload 8, 115), (115, .if_icmp .le 10, 118), (118, .aload_n 0, 119), (119, .getfield 351, 122), (122, .goto 5, 125), (125, .iload 8, 127), (127, .istore 8, 129), (129, .iload 9, 131), (131, .aload_n 0, 132), (132, .getfield 351, 135), (135, .ifCond .ne 7, 138), (138, .iconst 1, 139), (139, .goto 4, 142), (142, .iconst 0, 143), (143, .iadd, 144), (144, .istore 9, 146), (146, .iinc 10 1, 149), (149, .goto (-85), 152), (152, .iload 6, 154)] : List (Nat × Instr × Nat)).all (fun q => decide (pm_code 323 q.1 = some q.2)) = true := by decide +kernel
theorem c323_71 : pm_code 323 71 = some (.iload_n 1, 72) := pm_of cl323_1 0 (q := (71, .iload_n 1, 72)) rfl
theorem c323_72 : pm_code 323 72 = some (.iload 10, 74) := pm_of cl323_1 1 (q := (72, .iload 10, 74)) rfl
theorem c323_74 : pm_code 323 74 = some (.iadd, 75) := pm_of cl323_1 2 (q := (74, .iadd, 75)) rfl
theorem c323_75 : pm_code 323 75 = some (.iload_n 3, 76) := pm_of cl323_1 3 (q := (75, .iload_n 3, 76)) rfl
theorem c323_76 : pm_code 323 76 = some (.iload 4, 78) := pm_of cl323_1 4 (q := (76, .iload 4, 78)) rfl
theorem c323_78 : pm_code 323 78 = some (.iload 5, 80) := pm_of cl323_1 5 (q := (78, .iload 5, 80)) rfl
theorem c323_80 : pm_code 323 80 = some (.invokevirtual 477, 83) := pm_of cl323_1 6 (q := (80, .invokevirtual 477, 83)) rfl
theorem c323_83 : pm_code 323 83 = some (.iload 7, 85) := pm_of cl323_1 7 (q := (83, .iload 7, 85)) rfl
theorem c323_85 : pm_code 323 85 = some (.iconst (-1), 86) := pm_of cl323_1 8 (q := (85, .iconst (-1), 86)) rfl
theorem c323_86 : pm_code 323 86 = some (.if_icmp .eq 12, 89) := pm_of cl323_1 9 (q := (86, .if_icmp .eq 12, 89)) rfl
theorem c323_89 : pm_code 323 89 = some (.aload_n 0, 90) := pm_of cl323_1 10 (q := (89, .aload_n 0, 90)) rfl
theorem c323_90 : pm_code 323 90 = some (.getfield 351, 93) := pm_of cl323_1 11 (q := (90, .getfield 351, 93)) rfl
theorem c323_93 : pm_code 323 93 = some (.iload 7, 95) := pm_of cl323_1 12 (q := (93, .iload 7, 95)) rfl
theorem c323_95 : pm_code 323 95 = some (.if_icmp .ge 10, 98) := pm_of cl323_1 13 (q := (95, .if_icmp .ge 10, 98)) rfl
theorem c323_98 : pm_code 323 98 = some (.aload_n 0, 99) := pm_of cl323_1 14 (q := (98, .aload_n 0, 99)) rfl
theorem c323_99 : pm_code 323 99 = some (.getfield 351, 102) := pm_of cl323_1 15 (q := (99, .getfield 351, 102)) rfl
theorem c323_102 : pm_code 323 102 = some (.goto 5, 105) := pm_of cl323_1 16 (q := (102, .goto 5, 105)) rfl
theorem c323_105 : pm_code 323 105 = some (.iload 7, 107) := pm_of cl323_1 17 (q := (105, .iload 7, 107)) rfl
theorem c323_107 : pm_code 323 107 = some (.istore 7, 109) := pm_of cl323_1 18 (q := (107, .istore 7, 109)) rfl
theorem c323_109 : pm_code 323 109 = some (.aload_n 0, 110) := pm_of cl323_1 19 (q := (109, .aload_n 0, 110)) rfl
theorem c323_110 : pm_code 323 110 = some (.getfield 351, 113) := pm_of cl323_1 20 (q := (110, .getfield 351, 113)) rfl
theorem c323_113 : pm_code 323 113 = some (.iload 8, 115) := pm_of cl323_1 21 (q := (113, .iload 8, 115)) rfl
theorem c323_115 : pm_code 323 115 = some (.if_icmp .le 10, 118) := pm_of cl323_1 22 (q := (115, .if_icmp .le 10, 118)) rfl
theorem c323_118 : pm_code 323 118 = some (.aload_n 0, 119) := pm_of cl323_1 23 (q := (118, .aload_n 0, 119)) rfl
theorem c323_119 : pm_code 323 119 = some (.getfield 351, 122) := pm_of cl323_1 24 (q := (119, .getfield 351, 122)) rfl
theorem c323_122 : pm_code 323 122 = some (.goto 5, 125) := pm_of cl323_1 25 (q := (122, .goto 5, 125)) rfl
theorem c323_125 : pm_code 323 125 = some (.iload 8, 127) := pm_of cl323_1 26 (q := (125, .iload 8, 127)) rfl
theorem c323_127 : pm_code 323 127 = some (.istore 8, 129) := pm_of cl323_1 27 (q := (127, .istore 8, 129)) rfl
theorem c323_129 : pm_code 323 129 = some (.iload 9, 131) := pm_of cl323_1 28 (q := (129, .iload 9, 131)) rfl
theorem c323_131 : pm_code 323 131 = some (.aload_n 0, 132) := pm_of cl323_1 29 (q := (131, .aload_n 0, 132)) rfl
theorem c323_132 : pm_code 323 132 = some (.getfield 351, 135) := pm_of cl323_1 30 (q := (132, .getfield 351, 135)) rfl
theorem c323_135 : pm_code 323 135 = some (.ifCond .ne 7, 138) := pm_of cl323_1 31 (q := (135, .ifCond .ne 7, 138)) rfl
theorem c323_138 : pm_code 323 138 = some (.iconst 1, 139) := pm_of cl323_1 32 (q := (138, .iconst 1, 139)) rfl
theorem c323_139 : pm_code 323 139 = some (.goto 4, 142) := pm_of cl323_1 33 (q := (139, .goto 4, 142)) rfl
theorem c323_142 : pm_code 323 142 = some (.iconst 0, 143) := pm_of cl323_1 34 (q := (142, .iconst 0, 143)) rfl
theorem c323_143 : pm_code 323 143 = some (.iadd, 144) := pm_of cl323_1 35 (q := (143, .iadd, 144)) rfl
theorem c323_144 : pm_code 323 144 = some (.istore 9, 146) := pm_of cl323_1 36 (q := (144, .istore 9, 146)) rfl
theorem c323_146 : pm_code 323 146 = some (.iinc 10 1, 149) := pm_of cl323_1 37 (q := (146, .iinc 10 1, 149)) rfl
theorem c323_149 : pm_code 323 149 = some (.goto (-85), 152) := pm_of cl323_1 38 (q := (149, .goto (-85), 152)) rfl
theorem c323_152 : pm_code 323 152 = some (.iload 6, 154) := pm_of cl323_1 39 (q := (152, .iload 6, 154)) rfl
theorem cl323_2 : ([(154, .ifCond .ne 8, 157), (157, .iload 7, 159), (159, .goto 16, 162), (162, .iload 6, 164), (164, .iconst 1, 165), (165, .if_icmp .ne 8, 168), (168, .iload 8, 170), (170, .goto 5, 173), (173, .iload 9, 175), (175, .ireturn, 176)] : List (Nat × Instr × Nat)).all (fun q => decide (pm_code 323 q.1 = some q.2)) = true := by decide +kernel
theorem c323_154 : pm_code 323 154 = some (.ifCond .ne 8, 157) := pm_of cl323_2 0 (q := (154, .ifCond .ne 8, 157)) rfl
theorem c323_157 : pm_code 323 157 = some (.iload 7, 159) := pm_of cl323_2 1 (q := (157, .iload 7, 159)) rfl
theorem c323_159 : pm_code 323 159 = some (.goto 16, 162) := pm_of cl323_2 2 (q := (159, .goto 16, 162)) rfl
theorem c323_162 : pm_code 323 162 = some (.iload 6, 164) := pm_of cl323_2 3 (q := (162, .iload 6, 164)) rfl
theorem c323_164 : pm_code 323 164 = some (.iconst 1, 165) := pm_of cl323_2 4 (q := (164, .iconst 1, 165)) rfl
theorem c323_165 : pm_code 323 165 = some (.if_icmp .ne 8, 168) := pm_of cl323_2 5 (q := (165, .if_icmp .ne 8, 168)) rfl
theorem c323_168 : pm_code 323 168 = some (.iload 8, 170) := pm_of cl323_2 6 (q := (168, .iload 8, 170)) rfl
theorem c323_170 : pm_code 323 170 = some (.goto 5, 173) := pm_of cl323_2 7 (q := (170, .goto 5, 173)) rfl
theorem c323_173 : pm_code 323 173 = some (.iload 9, 175) := pm_of cl323_2 8 (q := (173, .iload 9, 175)) rfl
theorem c323_175 : pm_code 323 175 = some (.ireturn, 176) := pm_of cl323_2 9 (q := (175, .ireturn, 176)) rfl
theorem k324 : pm_k 324 = 12 := by decide +kernel
theorem ml324 : pm_ml 324 = 1 := by decide +kernel
theorem rt324 : pm_rt 324 = (some .int) := by decide +kernel
theorem hh324 : pm_hh 324 = [] := by decide +kernel
theorem rc324 : pm_cl 12 = (pm_y 324).cls := by decide +kernel
theorem cl324_0 : ([(0, .aload_n 0, 1), (1, .iconst 0, 2), (2, .putfield 3, 5), (5, .aload_n 0, 6), (6, .getfield 188, 9), (9, .iconst 3, 10), (10, .if_icmp .ne 5, 13), (13, .iconst (-1), 14), (14, .ireturn, 15), (15, .aload_n 0, 16), (16, .aload_n 0, 17), (17, .getfield 188, 20), (20, .iconst 1, 21), (21, .invokevirtual 485, 24), (24, .aload_n 0, 25), (25, .dup, 26), (26, .getfield 188, 29), (29, .iconst 1, 30), (30, .iadd, 31), (31, .putfield 188, 34), (34, .aload_n 0, 35), (35, .getfield 188, 38), (38, .ireturn, 39)] : List (Nat × Instr × Nat)).all (fun q => decide (pm_code 324 q.1 = some q.2)) = true := by decide +kernel
theorem c324_0 : pm_code 324 0 = some (.aload_n 0, 1) := pm_of cl324_0 0 (q := (0, .aload_n 0, 1)) rfl
theorem c324_1 : pm_code 324 1 = some (.iconst 0, 2) := pm_of cl324_0 1 (q := (1, .iconst 0, 2)) rfl
theorem c324_2 : pm_code 324 2 = some (.putfield 3, 5) := pm_of cl324_0 2 (q := (2, .putfield 3, 5)) rfl
theorem c324_5 : pm_code 324 5 = some (.aload_n 0, 6) := pm_of cl324_0 3 (q := (5, .aload_n 0, 6)) rfl
theorem c324_6 : pm_code 324 6 = some (.getfield 188, 9) := pm_of cl324_0 4 (q := (6, .getfield 188, 9)) rfl
theorem c324_9 : pm_code 324 9 = some (.iconst 3, 10) := pm_of cl324_0 5 (q := (9, .iconst 3, 10)) rfl
theorem c324_10 : pm_code 324 10 = some (.if_icmp .ne 5, 13) := pm_of cl324_0 6 (q := (10, .if_icmp .ne 5, 13)) rfl
theorem c324_13 : pm_code 324 13 = some (.iconst (-1), 14) := pm_of cl324_0 7 (q := (13, .iconst (-1), 14)) rfl
theorem c324_14 : pm_code 324 14 = some (.ireturn, 15) := pm_of cl324_0 8 (q := (14, .ireturn, 15)) rfl
theorem c324_15 : pm_code 324 15 = some (.aload_n 0, 16) := pm_of cl324_0 9 (q := (15, .aload_n 0, 16)) rfl
theorem c324_16 : pm_code 324 16 = some (.aload_n 0, 17) := pm_of cl324_0 10 (q := (16, .aload_n 0, 17)) rfl
theorem c324_17 : pm_code 324 17 = some (.getfield 188, 20) := pm_of cl324_0 11 (q := (17, .getfield 188, 20)) rfl
theorem c324_20 : pm_code 324 20 = some (.iconst 1, 21) := pm_of cl324_0 12 (q := (20, .iconst 1, 21)) rfl
theorem c324_21 : pm_code 324 21 = some (.invokevirtual 485, 24) := pm_of cl324_0 13 (q := (21, .invokevirtual 485, 24)) rfl
theorem c324_24 : pm_code 324 24 = some (.aload_n 0, 25) := pm_of cl324_0 14 (q := (24, .aload_n 0, 25)) rfl
theorem c324_25 : pm_code 324 25 = some (.dup, 26) := pm_of cl324_0 15 (q := (25, .dup, 26)) rfl
theorem c324_26 : pm_code 324 26 = some (.getfield 188, 29) := pm_of cl324_0 16 (q := (26, .getfield 188, 29)) rfl
theorem c324_29 : pm_code 324 29 = some (.iconst 1, 30) := pm_of cl324_0 17 (q := (29, .iconst 1, 30)) rfl
theorem c324_30 : pm_code 324 30 = some (.iadd, 31) := pm_of cl324_0 18 (q := (30, .iadd, 31)) rfl
theorem c324_31 : pm_code 324 31 = some (.putfield 188, 34) := pm_of cl324_0 19 (q := (31, .putfield 188, 34)) rfl
theorem c324_34 : pm_code 324 34 = some (.aload_n 0, 35) := pm_of cl324_0 20 (q := (34, .aload_n 0, 35)) rfl
theorem c324_35 : pm_code 324 35 = some (.getfield 188, 38) := pm_of cl324_0 21 (q := (35, .getfield 188, 38)) rfl
theorem c324_38 : pm_code 324 38 = some (.ireturn, 39) := pm_of cl324_0 22 (q := (38, .ireturn, 39)) rfl
theorem k325 : pm_k 325 = 12 := by decide +kernel
theorem ml325 : pm_ml 325 = 4 := by decide +kernel
theorem rt325 : pm_rt 325 = none := by decide +kernel
theorem hh325 : pm_hh 325 = [] := by decide +kernel
theorem rc325 : pm_cl 12 = (pm_y 325).cls := by decide +kernel
theorem cl325_0 : ([(0, .aload_n 0, 1), (1, .sipush 1123, 4), (4, .iload_n 1, 5), (5, .imul, 6), (6, .aload_n 0, 7), (7, .getfield 62, 10), (10, .bipush 66, 12), (12, .iload_n 2, 13), (13, .invokevirtual 481, 16), (16, .istore_n 3, 17), (17, .aload_n 0, 18), (18, .iload_n 3, 19), (19, .aload_n 0, 20), (20, .getfield 68, 23), (23, .sipush 1056, 26), (26, .iload_n 2, 27), (27, .invokevirtual 481, 30), (30, .istore_n 3, 31), (31, .iload_n 2, 32), (32, .ifCond .eq 16, 35), (35, .aload_n 0, 36), (36, .getfield 102, 39), (39, .iload_n 3, 40), (40, .aload_n 0, 41), (41, .getfield 185, 44), (44, .iastore, 45), (45, .goto 13, 48), (48, .aload_n 0, 49), (49, .aload_n 0, 50), (50, .getfield 102, 53), (53, .iload_n 3, 54), (54, .iaload, 55), (55, .putfield 185, 58), (58, .return_, 59)] : List (Nat × Instr × Nat)).all (fun q => decide (pm_code 325 q.1 = some q.2)) = true := by decide +kernel
theorem c325_0 : pm_code 325 0 = some (.aload_n 0, 1) := pm_of cl325_0 0 (q := (0, .aload_n 0, 1)) rfl
theorem c325_1 : pm_code 325 1 = some (.sipush 1123, 4) := pm_of cl325_0 1 (q := (1, .sipush 1123, 4)) rfl
theorem c325_4 : pm_code 325 4 = some (.iload_n 1, 5) := pm_of cl325_0 2 (q := (4, .iload_n 1, 5)) rfl
theorem c325_5 : pm_code 325 5 = some (.imul, 6) := pm_of cl325_0 3 (q := (5, .imul, 6)) rfl
theorem c325_6 : pm_code 325 6 = some (.aload_n 0, 7) := pm_of cl325_0 4 (q := (6, .aload_n 0, 7)) rfl
theorem c325_7 : pm_code 325 7 = some (.getfield 62, 10) := pm_of cl325_0 5 (q := (7, .getfield 62, 10)) rfl
theorem c325_10 : pm_code 325 10 = some (.bipush 66, 12) := pm_of cl325_0 6 (q := (10, .bipush 66, 12)) rfl
theorem c325_12 : pm_code 325 12 = some (.iload_n 2, 13) := pm_of cl325_0 7 (q := (12, .iload_n 2, 13)) rfl
theorem c325_13 : pm_code 325 13 = some (.invokevirtual 481, 16) := pm_of cl325_0 8 (q := (13, .invokevirtual 481, 16)) rfl
theorem c325_16 : pm_code 325 16 = some (.istore_n 3, 17) := pm_of cl325_0 9 (q := (16, .istore_n 3, 17)) rfl
theorem c325_17 : pm_code 325 17 = some (.aload_n 0, 18) := pm_of cl325_0 10 (q := (17, .aload_n 0, 18)) rfl
theorem c325_18 : pm_code 325 18 = some (.iload_n 3, 19) := pm_of cl325_0 11 (q := (18, .iload_n 3, 19)) rfl
theorem c325_19 : pm_code 325 19 = some (.aload_n 0, 20) := pm_of cl325_0 12 (q := (19, .aload_n 0, 20)) rfl
theorem c325_20 : pm_code 325 20 = some (.getfield 68, 23) := pm_of cl325_0 13 (q := (20, .getfield 68, 23)) rfl
theorem c325_23 : pm_code 325 23 = some (.sipush 1056, 26) := pm_of cl325_0 14 (q := (23, .sipush 1056, 26)) rfl
theorem c325_26 : pm_code 325 26 = some (.iload_n 2, 27) := pm_of cl325_0 15 (q := (26, .iload_n 2, 27)) rfl
theorem c325_27 : pm_code 325 27 = some (.invokevirtual 481, 30) := pm_of cl325_0 16 (q := (27, .invokevirtual 481, 30)) rfl
theorem c325_30 : pm_code 325 30 = some (.istore_n 3, 31) := pm_of cl325_0 17 (q := (30, .istore_n 3, 31)) rfl
theorem c325_31 : pm_code 325 31 = some (.iload_n 2, 32) := pm_of cl325_0 18 (q := (31, .iload_n 2, 32)) rfl
theorem c325_32 : pm_code 325 32 = some (.ifCond .eq 16, 35) := pm_of cl325_0 19 (q := (32, .ifCond .eq 16, 35)) rfl
theorem c325_35 : pm_code 325 35 = some (.aload_n 0, 36) := pm_of cl325_0 20 (q := (35, .aload_n 0, 36)) rfl
theorem c325_36 : pm_code 325 36 = some (.getfield 102, 39) := pm_of cl325_0 21 (q := (36, .getfield 102, 39)) rfl
theorem c325_39 : pm_code 325 39 = some (.iload_n 3, 40) := pm_of cl325_0 22 (q := (39, .iload_n 3, 40)) rfl
theorem c325_40 : pm_code 325 40 = some (.aload_n 0, 41) := pm_of cl325_0 23 (q := (40, .aload_n 0, 41)) rfl
theorem c325_41 : pm_code 325 41 = some (.getfield 185, 44) := pm_of cl325_0 24 (q := (41, .getfield 185, 44)) rfl
theorem c325_44 : pm_code 325 44 = some (.iastore, 45) := pm_of cl325_0 25 (q := (44, .iastore, 45)) rfl
theorem c325_45 : pm_code 325 45 = some (.goto 13, 48) := pm_of cl325_0 26 (q := (45, .goto 13, 48)) rfl
theorem c325_48 : pm_code 325 48 = some (.aload_n 0, 49) := pm_of cl325_0 27 (q := (48, .aload_n 0, 49)) rfl
theorem c325_49 : pm_code 325 49 = some (.aload_n 0, 50) := pm_of cl325_0 28 (q := (49, .aload_n 0, 50)) rfl
theorem c325_50 : pm_code 325 50 = some (.getfield 102, 53) := pm_of cl325_0 29 (q := (50, .getfield 102, 53)) rfl
theorem c325_53 : pm_code 325 53 = some (.iload_n 3, 54) := pm_of cl325_0 30 (q := (53, .iload_n 3, 54)) rfl
theorem c325_54 : pm_code 325 54 = some (.iaload, 55) := pm_of cl325_0 31 (q := (54, .iaload, 55)) rfl
theorem c325_55 : pm_code 325 55 = some (.putfield 185, 58) := pm_of cl325_0 32 (q := (55, .putfield 185, 58)) rfl
theorem c325_58 : pm_code 325 58 = some (.return_, 59) := pm_of cl325_0 33 (q := (58, .return_, 59)) rfl
theorem k326 : pm_k 326 = 12 := by decide +kernel
theorem ml326 : pm_ml 326 = 6 := by decide +kernel
theorem rt326 : pm_rt 326 = (some .int) := by decide +kernel
theorem hh326 : pm_hh 326 = [] := by decide +kernel
theorem rc326 : pm_cl 12 = (pm_y 326).cls := by decide +kernel
theorem cl326_0 : ([(0, .iconst 0, 1), (1, .istore 5, 3), (3, .iload 5, 5), (5, .iload_n 3, 6), (6, .if_icmp .ge 43, 9), (9, .iload 4, 11), (11, .ifCond .eq 19, 14), (14, .aload_n 0, 15), (15, .getfield 102, 18), (18, .iload_n 1, 19), (19, .iload 5, 21), (21, .iadd, 22), (22, .aload_n 2, 23), (23, .iload 5, 25), (25, .iaload, 26), (26, .iastore, 27), (27, .goto 16, 30), (30, .aload_n 2, 31), (31, .iload 5, 33), (33, .aload_n 0, 34), (34, .getfield 102, 37), (37, .iload_n 1, 38), (38, .iload 5, 40), (40, .iadd, 41), (41, .iaload, 42), (42, .iastore, 43), (43, .iinc 5 1, 46), (46, .goto (-43), 49), (49, .iload_n 1, 50), (50, .iload_n 3, 51), (51, .iadd, 52), (52, .ireturn, 53)] : List (Nat × Instr × Nat)).all (fun q => decide (pm_code 326 q.1 = some q.2)) = true := by decide +kernel
theorem c326_0 : pm_code 326 0 = some (.iconst 0, 1) := pm_of cl326_0 0 (q := (0, .iconst 0, 1)) rfl
theorem c326_1 : pm_code 326 1 = some (.istore 5, 3) := pm_of cl326_0 1 (q := (1, .istore 5, 3)) rfl
theorem c326_3 : pm_code 326 3 = some (.iload 5, 5) := pm_of cl326_0 2 (q := (3, .iload 5, 5)) rfl
theorem c326_5 : pm_code 326 5 = some (.iload_n 3, 6) := pm_of cl326_0 3 (q := (5, .iload_n 3, 6)) rfl
theorem c326_6 : pm_code 326 6 = some (.if_icmp .ge 43, 9) := pm_of cl326_0 4 (q := (6, .if_icmp .ge 43, 9)) rfl
theorem c326_9 : pm_code 326 9 = some (.iload 4, 11) := pm_of cl326_0 5 (q := (9, .iload 4, 11)) rfl
theorem c326_11 : pm_code 326 11 = some (.ifCond .eq 19, 14) := pm_of cl326_0 6 (q := (11, .ifCond .eq 19, 14)) rfl
theorem c326_14 : pm_code 326 14 = some (.aload_n 0, 15) := pm_of cl326_0 7 (q := (14, .aload_n 0, 15)) rfl
theorem c326_15 : pm_code 326 15 = some (.getfield 102, 18) := pm_of cl326_0 8 (q := (15, .getfield 102, 18)) rfl
theorem c326_18 : pm_code 326 18 = some (.iload_n 1, 19) := pm_of cl326_0 9 (q := (18, .iload_n 1, 19)) rfl
theorem c326_19 : pm_code 326 19 = some (.iload 5, 21) := pm_of cl326_0 10 (q := (19, .iload 5, 21)) rfl
theorem c326_21 : pm_code 326 21 = some (.iadd, 22) := pm_of cl326_0 11 (q := (21, .iadd, 22)) rfl
theorem c326_22 : pm_code 326 22 = some (.aload_n 2, 23) := pm_of cl326_0 12 (q := (22, .aload_n 2, 23)) rfl
theorem c326_23 : pm_code 326 23 = some (.iload 5, 25) := pm_of cl326_0 13 (q := (23, .iload 5, 25)) rfl
theorem c326_25 : pm_code 326 25 = some (.iaload, 26) := pm_of cl326_0 14 (q := (25, .iaload, 26)) rfl
theorem c326_26 : pm_code 326 26 = some (.iastore, 27) := pm_of cl326_0 15 (q := (26, .iastore, 27)) rfl
theorem c326_27 : pm_code 326 27 = some (.goto 16, 30) := pm_of cl326_0 16 (q := (27, .goto 16, 30)) rfl
theorem c326_30 : pm_code 326 30 = some (.aload_n 2, 31) := pm_of cl326_0 17 (q := (30, .aload_n 2, 31)) rfl
theorem c326_31 : pm_code 326 31 = some (.iload 5, 33) := pm_of cl326_0 18 (q := (31, .iload 5, 33)) rfl
theorem c326_33 : pm_code 326 33 = some (.aload_n 0, 34) := pm_of cl326_0 19 (q := (33, .aload_n 0, 34)) rfl
theorem c326_34 : pm_code 326 34 = some (.getfield 102, 37) := pm_of cl326_0 20 (q := (34, .getfield 102, 37)) rfl
theorem c326_37 : pm_code 326 37 = some (.iload_n 1, 38) := pm_of cl326_0 21 (q := (37, .iload_n 1, 38)) rfl
theorem c326_38 : pm_code 326 38 = some (.iload 5, 40) := pm_of cl326_0 22 (q := (38, .iload 5, 40)) rfl
theorem c326_40 : pm_code 326 40 = some (.iadd, 41) := pm_of cl326_0 23 (q := (40, .iadd, 41)) rfl
theorem c326_41 : pm_code 326 41 = some (.iaload, 42) := pm_of cl326_0 24 (q := (41, .iaload, 42)) rfl
theorem c326_42 : pm_code 326 42 = some (.iastore, 43) := pm_of cl326_0 25 (q := (42, .iastore, 43)) rfl
theorem c326_43 : pm_code 326 43 = some (.iinc 5 1, 46) := pm_of cl326_0 26 (q := (43, .iinc 5 1, 46)) rfl
theorem c326_46 : pm_code 326 46 = some (.goto (-43), 49) := pm_of cl326_0 27 (q := (46, .goto (-43), 49)) rfl
theorem c326_49 : pm_code 326 49 = some (.iload_n 1, 50) := pm_of cl326_0 28 (q := (49, .iload_n 1, 50)) rfl
theorem c326_50 : pm_code 326 50 = some (.iload_n 3, 51) := pm_of cl326_0 29 (q := (50, .iload_n 3, 51)) rfl
theorem c326_51 : pm_code 326 51 = some (.iadd, 52) := pm_of cl326_0 30 (q := (51, .iadd, 52)) rfl
theorem c326_52 : pm_code 326 52 = some (.ireturn, 53) := pm_of cl326_0 31 (q := (52, .ireturn, 53)) rfl
theorem k327 : pm_k 327 = 12 := by decide +kernel
theorem ml327 : pm_ml 327 = 1 := by decide +kernel
theorem rt327 : pm_rt 327 = (some .int) := by decide +kernel
theorem hh327 : pm_hh 327 = [] := by decide +kernel
theorem rc327 : pm_cl 12 = (pm_y 327).cls := by decide +kernel
theorem cl327_0 : ([(0, .aload_n 0, 1), (1, .iconst 0, 2), (2, .putfield 3, 5), (5, .aload_n 0, 6), (6, .getfield 188, 9), (9, .ifCond .ne 5, 12), (12, .iconst (-1), 13), (13, .ireturn, 14), (14, .aload_n 0, 15), (15, .dup, 16), (16, .getfield 188, 19), (19, .iconst 1, 20), (20, .isub, 21), (21, .putfield 188, 24), (24, .aload_n 0, 25), (25, .aload_n 0, 26), (26, .getfield 188, 29), (29, .iconst 0, 30), (30, .invokevirtual 485, 33), (33, .aload_n 0, 34), (34, .iconst 0, 35), (35, .putfield 191, 38), (38, .aload_n 0, 39), (39, .getfield 188, 42), (42, .ireturn, 43)] : List (Nat × Instr × Nat)).all (fun q => decide (pm_code 327 q.1 = some q.2)) = true := by decide +kernel
theorem c327_0 : pm_code 327 0 = some (.aload_n 0, 1) := pm_of cl327_0 0 (q := (0, .aload_n 0, 1)) rfl
theorem c327_1 : pm_code 327 1 = some (.iconst 0, 2) := pm_of cl327_0 1 (q := (1, .iconst 0, 2)) rfl
theorem c327_2 : pm_code 327 2 = some (.putfield 3, 5) := pm_of cl327_0 2 (q := (2, .putfield 3, 5)) rfl
theorem c327_5 : pm_code 327 5 = some (.aload_n 0, 6) := pm_of cl327_0 3 (q := (5, .aload_n 0, 6)) rfl
theorem c327_6 : pm_code 327 6 = some (.getfield 188, 9) := pm_of cl327_0 4 (q := (6, .getfield 188, 9)) rfl
theorem c327_9 : pm_code 327 9 = some (.ifCond .ne 5, 12) := pm_of cl327_0 5 (q := (9, .ifCond .ne 5, 12)) rfl
theorem c327_12 : pm_code 327 12 = some (.iconst (-1), 13) := pm_of cl327_0 6 (q := (12, .iconst (-1), 13)) rfl
theorem c327_13 : pm_code 327 13 = some (.ireturn, 14) := pm_of cl327_0 7 (q := (13, .ireturn, 14)) rfl
theorem c327_14 : pm_code 327 14 = some (.aload_n 0, 15) := pm_of cl327_0 8 (q := (14, .aload_n 0, 15)) rfl
theorem c327_15 : pm_code 327 15 = some (.dup, 16) := pm_of cl327_0 9 (q := (15, .dup, 16)) rfl
theorem c327_16 : pm_code 327 16 = some (.getfield 188, 19) := pm_of cl327_0 10 (q := (16, .getfield 188, 19)) rfl
theorem c327_19 : pm_code 327 19 = some (.iconst 1, 20) := pm_of cl327_0 11 (q := (19, .iconst 1, 20)) rfl
theorem c327_20 : pm_code 327 20 = some (.isub, 21) := pm_of cl327_0 12 (q := (20, .isub, 21)) rfl
theorem c327_21 : pm_code 327 21 = some (.putfield 188, 24) := pm_of cl327_0 13 (q := (21, .putfield 188, 24)) rfl
theorem c327_24 : pm_code 327 24 = some (.aload_n 0, 25) := pm_of cl327_0 14 (q := (24, .aload_n 0, 25)) rfl
theorem c327_25 : pm_code 327 25 = some (.aload_n 0, 26) := pm_of cl327_0 15 (q := (25, .aload_n 0, 26)) rfl
theorem c327_26 : pm_code 327 26 = some (.getfield 188, 29) := pm_of cl327_0 16 (q := (26, .getfield 188, 29)) rfl
theorem c327_29 : pm_code 327 29 = some (.iconst 0, 30) := pm_of cl327_0 17 (q := (29, .iconst 0, 30)) rfl
theorem c327_30 : pm_code 327 30 = some (.invokevirtual 485, 33) := pm_of cl327_0 18 (q := (30, .invokevirtual 485, 33)) rfl
theorem c327_33 : pm_code 327 33 = some (.aload_n 0, 34) := pm_of cl327_0 19 (q := (33, .aload_n 0, 34)) rfl
theorem c327_34 : pm_code 327 34 = some (.iconst 0, 35) := pm_of cl327_0 20 (q := (34, .iconst 0, 35)) rfl
theorem c327_35 : pm_code 327 35 = some (.putfield 191, 38) := pm_of cl327_0 21 (q := (35, .putfield 191, 38)) rfl
theorem c327_38 : pm_code 327 38 = some (.aload_n 0, 39) := pm_of cl327_0 22 (q := (38, .aload_n 0, 39)) rfl
theorem c327_39 : pm_code 327 39 = some (.getfield 188, 42) := pm_of cl327_0 23 (q := (39, .getfield 188, 42)) rfl
theorem c327_42 : pm_code 327 42 = some (.ireturn, 43) := pm_of cl327_0 24 (q := (42, .ireturn, 43)) rfl
theorem k328 : pm_k 328 = 12 := by decide +kernel
theorem ml328 : pm_ml 328 = 2 := by decide +kernel
theorem rt328 : pm_rt 328 = (some .int) := by decide +kernel
theorem hh328 : pm_hh 328 = [] := by decide +kernel
theorem rc328 : pm_cl 12 = (pm_y 328).cls := by decide +kernel
theorem cl328_0 : ([(0, .aload_n 0, 1), (1, .iconst 0, 2), (2, .putfield 3, 5), (5, .iload_n 1, 6), (6, .iconst 0, 7), (7, .iconst 1, 8), (8, .invokestatic 290, 11), (11, .ifCond .eq 12, 14), (14, .aload_n 0, 15), (15, .getfield 7, 18), (18, .iload_n 1, 19), (19, .iaload, 20), (20, .goto 4, 23), (23, .iconst (-1), 24), (24, .ireturn, 25)] : List (Nat × Instr × Nat)).all (fun q => decide (pm_code 328 q.1 = some q.2)) = true := by decide +kernel
theorem c328_0 : pm_code 328 0 = some (.aload_n 0, 1) := pm_of cl328_0 0 (q := (0, .aload_n 0, 1)) rfl
theorem c328_1 : pm_code 328 1 = some (.iconst 0, 2) := pm_of cl328_0 1 (q := (1, .iconst 0, 2)) rfl
theorem c328_2 : pm_code 328 2 = some (.putfield 3, 5) := pm_of cl328_0 2 (q := (2, .putfield 3, 5)) rfl
theorem c328_5 : pm_code 328 5 = some (.iload_n 1, 6) := pm_of cl328_0 3 (q := (5, .iload_n 1, 6)) rfl
theorem c328_6 : pm_code 328 6 = some (.iconst 0, 7) := pm_of cl328_0 4 (q := (6, .iconst 0, 7)) rfl
theorem c328_7 : pm_code 328 7 = some (.iconst 1, 8) := pm_of cl328_0 5 (q := (7, .iconst 1, 8)) rfl
theorem c328_8 : pm_code 328 8 = some (.invokestatic 290, 11) := pm_of cl328_0 6 (q := (8, .invokestatic 290, 11)) rfl
theorem c328_11 : pm_code 328 11 = some (.ifCond .eq 12, 14) := pm_of cl328_0 7 (q := (11, .ifCond .eq 12, 14)) rfl
theorem c328_14 : pm_code 328 14 = some (.aload_n 0, 15) := pm_of cl328_0 8 (q := (14, .aload_n 0, 15)) rfl
theorem c328_15 : pm_code 328 15 = some (.getfield 7, 18) := pm_of cl328_0 9 (q := (15, .getfield 7, 18)) rfl
theorem c328_18 : pm_code 328 18 = some (.iload_n 1, 19) := pm_of cl328_0 10 (q := (18, .iload_n 1, 19)) rfl
theorem c328_19 : pm_code 328 19 = some (.iaload, 20) := pm_of cl328_0 11 (q := (19, .iaload, 20)) rfl
theorem c328_20 : pm_code 328 20 = some (.goto 4, 23) := pm_of cl328_0 12 (q := (20, .goto 4, 23)) rfl
theorem c328_23 : pm_code 328 23 = some (.iconst (-1), 24) := pm_of cl328_0 13 (q := (23, .iconst (-1), 24)) rfl
theorem c328_24 : pm_code 328 24 = some (.ireturn, 25) := pm_of cl328_0 14 (q := (24, .ireturn, 25)) rfl
theorem k329 : pm_k 329 = 12 := by decide +kernel
theorem ml329 : pm_ml 329 = 2 := by decide +kernel
theorem rt329 : pm_rt 329 = (some .int) := by decide +kernel
theorem hh329 : pm_hh 329 = [] := by decide +kernel
theorem rc329 : pm_cl 12 = (pm_y 329).cls := by decide +kernel
theorem cl329_0 : ([(0, .aload_n 0, 1), (1, .iconst 0, 2), (2, .putfield 3, 5), (5, .iload_n 1, 6), (6, .ifCond .ne 10, 9), (9, .aload_n 0, 10), (10, .getfield 188, 13), (13, .goto 28, 16), (16, .iload_n 1, 17), (17, .iconst 1, 18), (18, .if_icmp .ne 10, 21), (21, .aload_n 0, 22), (22, .getfield 111, 25), (25, .goto 16, 28), (28, .iload_n 1, 29), (29, .iconst 2, 30), (30, .if_icmp .ne 10, 33), (33, .aload_n 0, 34), (34, .getfield 185, 37), (37, .goto 4, 40), (40, .iconst (-1), 41), (41, .ireturn, 42)] : List (Nat × Instr × Nat)).all (fun q => decide (pm_code 329 q.1 = some q.2)) = true := by decide +kernel
theorem c329_0 : pm_code 329 0 = some (.aload_n 0, 1) := pm_of cl329_0 0 (q := (0, .aload_n 0, 1)) rfl
theorem c329_1 : pm_code 329 1 = some (.iconst 0, 2) := pm_of cl329_0 1 (q := (1, .iconst 0, 2)) rfl
theorem c329_2 : pm_code 329 2 = some (.putfield 3, 5) := pm_of cl329_0 2 (q := (2, .putfield 3, 5)) rfl
theorem c329_5 : pm_code 329 5 = some (.iload_n 1, 6) := pm_of cl329_0 3 (q := (5, .iload_n 1, 6)) rfl
theorem c329_6 : pm_code 329 6 = some (.ifCond .ne 10, 9) := pm_of cl329_0 4 (q := (6, .ifCond .ne 10, 9)) rfl
theorem c329_9 : pm_code 329 9 = some (.aload_n 0, 10) := pm_of cl329_0 5 (q := (9, .aload_n 0, 10)) rfl
theorem c329_10 : pm_code 329 10 = some (.getfield 188, 13) := pm_of cl329_0 6 (q := (10, .getfield 188, 13)) rfl
theorem c329_13 : pm_code 329 13 = some (.goto 28, 16) := pm_of cl329_0 7 (q := (13, .goto 28, 16)) rfl
theorem c329_16 : pm_code 329 16 = some (.iload_n 1, 17) := pm_of cl329_0 8 (q := (16, .iload_n 1, 17)) rfl
theorem c329_17 : pm_code 329 17 = some (.iconst 1, 18) := pm_of cl329_0 9 (q := (17, .iconst 1, 18)) rfl
theorem c329_18 : pm_code 329 18 = some (.if_icmp .ne 10, 21) := pm_of cl329_0 10 (q := (18, .if_icmp .ne 10, 21)) rfl
theorem c329_21 : pm_code 329 21 = some (.aload_n 0, 22) := pm_of cl329_0 11 (q := (21, .aload_n 0, 22)) rfl
theorem c329_22 : pm_code 329 22 = some (.getfield 111, 25) := pm_of cl329_0 12 (q := (22, .getfield 111, 25)) rfl
theorem c329_25 : pm_code 329 25 = some (.goto 16, 28) := pm_of cl329_0 13 (q := (25, .goto 16, 28)) rfl
theorem c329_28 : pm_code 329 28 = some (.iload_n 1, 29) := pm_of cl329_0 14 (q := (28, .iload_n 1, 29)) rfl
theorem c329_29 : pm_code 329 29 = some (.iconst 2, 30) := pm_of cl329_0 15 (q := (29, .iconst 2, 30)) rfl
theorem c329_30 : pm_code 329 30 = some (.if_icmp .ne 10, 33) := pm_of cl329_0 16 (q := (30, .if_icmp .ne 10, 33)) rfl
theorem c329_33 : pm_code 329 33 = some (.aload_n 0, 34) := pm_of cl329_0 17 (q := (33, .aload_n 0, 34)) rfl
theorem c329_34 : pm_code 329 34 = some (.getfield 185, 37) := pm_of cl329_0 18 (q := (34, .getfield 185, 37)) rfl
theorem c329_37 : pm_code 329 37 = some (.goto 4, 40) := pm_of cl329_0 19 (q := (37, .goto 4, 40)) rfl
theorem c329_40 : pm_code 329 40 = some (.iconst (-1), 41) := pm_of cl329_0 20 (q := (40, .iconst (-1), 41)) rfl
theorem c329_41 : pm_code 329 41 = some (.ireturn, 42) := pm_of cl329_0 21 (q := (41, .ireturn, 42)) rfl
theorem k330 : pm_k 330 = 13 := by decide +kernel
theorem ml330 : pm_ml 330 = 4 := by decide +kernel
theorem rt330 : pm_rt 330 = (some .int) := by decide +kernel
theorem cl330_0 : ([(0, .aload_n 2, 1), (1, .iconst 0, 2), (2, .aload_n 0, 3), (3, .iload_n 1, 4), (4, .invokevirtual 7, 7), (7, .i2l, 8), (8, .lastore, 9), (9, .goto 6, 12), (12, .astore_n 3, 13), (13, .iconst 1, 14), (14, .ireturn, 15), (15, .iconst 0, 16), (16, .ireturn, 17)] : List (Nat × Instr × Nat)).all (fun q => decide (pm_code 330 q.1 = some q.2)) = true := by decide +kernel
theorem c330_0 : pm_code 330 0 = some (.aload_n 2, 1) := pm_of cl330_0 0 (q := (0, .aload_n 2, 1)) rfl
theorem c330_1 : pm_code 330 1 = some (.iconst 0, 2) := pm_of cl330_0 1 (q := (1, .iconst 0, 2)) rfl
theorem c330_2 : pm_code 330 2 = some (.aload_n 0, 3) := pm_of cl330_0 2 (q := (2, .aload_n 0, 3)) rfl
theorem c330_3 : pm_code 330 3 = some (.iload_n 1, 4) := pm_of cl330_0 3 (q := (3, .iload_n 1, 4)) rfl
theorem c330_4 : pm_code 330 4 = some (.invokevirtual 7, 7) := pm_of cl330_0 4 (q := (4, .invokevirtual 7, 7)) rfl
theorem c330_7 : pm_code 330 7 = some (.i2l, 8) := pm_of cl330_0 5 (q := (7, .i2l, 8)) rfl
theorem c330_8 : pm_code 330 8 = some (.lastore, 9) := pm_of cl330_0 6 (q := (8, .lastore, 9)) rfl
theorem c330_9 : pm_code 330 9 = some (.goto 6, 12) := pm_of cl330_0 7 (q := (9, .goto 6, 12)) rfl
theorem c330_12 : pm_code 330 12 = some (.astore_n 3, 13) := pm_of cl330_0 8 (q := (12, .astore_n 3, 13)) rfl
theorem c330_13 : pm_code 330 13 = some (.iconst 1, 14) := pm_of cl330_0 9 (q := (13, .iconst 1, 14)) rfl
theorem c330_14 : pm_code 330 14 = some (.ireturn, 15) := pm_of cl330_0 10 (q := (14, .ireturn, 15)) rfl
theorem c330_15 : pm_code 330 15 = some (.iconst 0, 16) := pm_of cl330_0 11 (q := (15, .iconst 0, 16)) rfl
theorem c330_16 : pm_code 330 16 = some (.ireturn, 17) := pm_of cl330_0 12 (q := (16, .ireturn, 17)) rfl
theorem k331 : pm_k 331 = 13 := by decide +kernel
theorem ml331 : pm_ml 331 = 5 := by decide +kernel
theorem rt331 : pm_rt 331 = (some .int) := by decide +kernel
theorem cl331_0 : ([(0, .aload_n 3, 1), (1, .iconst 0, 2), (2, .aload_n 0, 3), (3, .iload_n 1, 4), (4, .iload_n 2, 5), (5, .invokevirtual 15, 8), (8, .i2l, 9), (9, .lastore, 10), (10, .goto 7, 13), (13, .astore 4, 15), (15, .iconst 1, 16), (16, .ireturn, 17), (17, .iconst 0, 18), (18, .ireturn, 19)] : List (Nat × Instr × Nat)).all (fun q => decide (pm_code 331 q.1 = some q.2)) = true := by decide +kernel
theorem c331_0 : pm_code 331 0 = some (.aload_n 3, 1) := pm_of cl331_0 0 (q := (0, .aload_n 3, 1)) rfl
theorem c331_1 : pm_code 331 1 = some (.iconst 0, 2) := pm_of cl331_0 1 (q := (1, .iconst 0, 2)) rfl
theorem c331_2 : pm_code 331 2 = some (.aload_n 0, 3) := pm_of cl331_0 2 (q := (2, .aload_n 0, 3)) rfl
theorem c331_3 : pm_code 331 3 = some (.iload_n 1, 4) := pm_of cl331_0 3 (q := (3, .iload_n 1, 4)) rfl
theorem c331_4 : pm_code 331 4 = some (.iload_n 2, 5) := pm_of cl331_0 4 (q := (4, .iload_n 2, 5)) rfl
theorem c331_5 : pm_code 331 5 = some (.invokevirtual 15, 8) := pm_of cl331_0 5 (q := (5, .invokevirtual 15, 8)) rfl
theorem c331_8 : pm_code 331 8 = some (.i2l, 9) := pm_of cl331_0 6 (q := (8, .i2l, 9)) rfl
theorem c331_9 : pm_code 331 9 = some (.lastore, 10) := pm_of cl331_0 7 (q := (9, .lastore, 10)) rfl
theorem c331_10 : pm_code 331 10 = some (.goto 7, 13) := pm_of cl331_0 8 (q := (10, .goto 7, 13)) rfl
theorem c331_13 : pm_code 331 13 = some (.astore 4, 15) := pm_of cl331_0 9 (q := (13, .astore 4, 15)) rfl
theorem c331_15 : pm_code 331 15 = some (.iconst 1, 16) := pm_of cl331_0 10 (q := (15, .iconst 1, 16)) rfl
theorem c331_16 : pm_code 331 16 = some (.ireturn, 17) := pm_of cl331_0 11 (q := (16, .ireturn, 17)) rfl
theorem c331_17 : pm_code 331 17 = some (.iconst 0, 18) := pm_of cl331_0 12 (q := (17, .iconst 0, 18)) rfl
theorem c331_18 : pm_code 331 18 = some (.ireturn, 19) := pm_of cl331_0 13 (q := (18, .ireturn, 19)) rfl
theorem k332 : pm_k 332 = 13 := by decide +kernel
theorem ml332 : pm_ml 332 = 4 := by decide +kernel
theorem rt332 : pm_rt 332 = (some .int) := by decide +kernel
theorem cl332_0 : ([(0, .aload_n 2, 1), (1, .iconst 0, 2), (2, .aload_n 0, 3), (3, .iload_n 1, 4), (4, .invokevirtual 19, 7), (7, .i2l, 8), (8, .lastore, 9), (9, .goto 6, 12), (12, .astore_n 3, 13), (13, .iconst 1, 14), (14, .ireturn, 15), (15, .iconst 0, 16), (16, .ireturn, 17)] : List (Nat × Instr × Nat)).all (fun q => decide (pm_code 332 q.1 = some q.2)) = true := by decide +kernel
theorem c332_0 : pm_code 332 0 = some (.aload_n 2, 1) := pm_of cl332_0 0 (q := (0, .aload_n 2, 1)) rfl
theorem c332_1 : pm_code 332 1 = some (.iconst 0, 2) := pm_of cl332_0 1 (q := (1, .iconst 0, 2)) rfl
theorem c332_2 : pm_code 332 2 = some (.aload_n 0, 3) := pm_of cl332_0 2 (q := (2, .aload_n 0, 3)) rfl
theorem c332_3 : pm_code 332 3 = some (.iload_n 1, 4) := pm_of cl332_0 3 (q := (3, .iload_n 1, 4)) rfl
theorem c332_4 : pm_code 332 4 = some (.invokevirtual 19, 7) := pm_of cl332_0 4 (q := (4, .invokevirtual 19, 7)) rfl
theorem c332_7 : pm_code 332 7 = some (.i2l, 8) := pm_of cl332_0 5 (q := (7, .i2l, 8)) rfl
theorem c332_8 : pm_code 332 8 = some (.lastore, 9) := pm_of cl332_0 6 (q := (8, .lastore, 9)) rfl
theorem c332_9 : pm_code 332 9 = some (.goto 6, 12) := pm_of cl332_0 7 (q := (9, .goto 6, 12)) rfl
theorem c332_12 : pm_code 332 12 = some (.astore_n 3, 13) := pm_of cl332_0 8 (q := (12, .astore_n 3, 13)) rfl
theorem c332_13 : pm_code 332 13 = some (.iconst 1, 14) := pm_of cl332_0 9 (q := (13, .iconst 1, 14)) rfl
theorem c332_14 : pm_code 332 14 = some (.ireturn, 15) := pm_of cl332_0 10 (q := (14, .ireturn, 15)) rfl
theorem c332_15 : pm_code 332 15 = some (.iconst 0, 16) := pm_of cl332_0 11 (q := (15, .iconst 0, 16)) rfl
theorem c332_16 : pm_code 332 16 = some (.ireturn, 17) := pm_of cl332_0 12 (q := (16, .ireturn, 17)) rfl
theorem k333 : pm_k 333 = 13 := by decide +kernel
theorem ml333 : pm_ml 333 = 4 := by decide +kernel
theorem rt333 : pm_rt 333 = (some .int) := by decide +kernel
theorem cl333_0 : ([(0, .aload_n 2, 1), (1, .iconst 0, 2), (2, .aload_n 0, 3), (3, .iload_n 1, 4), (4, .invokevirtual 22, 7), (7, .i2l, 8), (8, .lastore, 9), (9, .goto 6, 12), (12, .astore_n 3, 13), (13, .iconst 1, 14), (14, .ireturn, 15), (15, .iconst 0, 16), (16, .ireturn, 17)] : List (Nat × Instr × Nat)).all (fun q => decide (pm_code 333 q.1 = some q.2)) = true := by decide +kernel
theorem c333_0 : pm_code 333 0 = some (.aload_n 2, 1) := pm_of cl333_0 0 (q := (0, .aload_n 2, 1)) rfl
theorem c333_1 : pm_code 333 1 = some (.iconst 0, 2) := pm_of cl333_0 1 (q := (1, .iconst 0, 2)) rfl
theorem c333_2 : pm_code 333 2 = some (.aload_n 0, 3) := pm_of cl333_0 2 (q := (2, .aload_n 0, 3)) rfl
theorem c333_3 : pm_code 333 3 = some (.iload_n 1, 4) := pm_of cl333_0 3 (q := (3, .iload_n 1, 4)) rfl
theorem c333_4 : pm_code 333 4 = some (.invokevirtual 22, 7) := pm_of cl333_0 4 (q := (4, .invokevirtual 22, 7)) rfl
theorem c333_7 : pm_code 333 7 = some (.i2l, 8) := pm_of cl333_0 5 (q := (7, .i2l, 8)) rfl
theorem c333_8 : pm_code 333 8 = some (.lastore, 9) := pm_of cl333_0 6 (q := (8, .lastore, 9)) rfl
theorem c333_9 : pm_code 333 9 = some (.goto 6, 12) := pm_of cl333_0 7 (q := (9, .goto 6, 12)) rfl
theorem c333_12 : pm_code 333 12 = some (.astore_n 3, 13) := pm_of cl333_0 8 (q := (12, .astore_n 3, 13)) rfl
theorem c333_13 : pm_code 333 13 = some (.iconst 1, 14) := pm_of cl333_0 9 (q := (13, .iconst 1, 14)) rfl
theorem c333_14 : pm_code 333 14 = some (.ireturn, 15) := pm_of cl333_0 10 (q := (14, .ireturn, 15)) rfl
theorem c333_15 : pm_code 333 15 = some (.iconst 0, 16) := pm_of cl333_0 11 (q := (15, .iconst 0, 16)) rfl
theorem c333_16 : pm_code 333 16 = some (.ireturn, 17) := pm_of cl333_0 12 (q := (16, .ireturn, 17)) rfl
theorem k334 : pm_k 334 = 13 := by decide +kernel
theorem ml334 : pm_ml 334 = 4 := by decide +kernel
theorem rt334 : pm_rt 334 = (some .int) := by decide +kernel
theorem cl334_0 : ([(0, .aload_n 2, 1), (1, .iconst 0, 2), (2, .aload_n 0, 3), (3, .iload_n 1, 4), (4, .invokevirtual 25, 7), (7, .i2l, 8), (8, .lastore, 9), (9, .goto 6, 12), (12, .astore_n 3, 13), (13, .iconst 1, 14), (14, .ireturn, 15), (15, .iconst 0, 16), (16, .ireturn, 17)] : List (Nat × Instr × Nat)).all (fun q => decide (pm_code 334 q.1 = some q.2)) = true := by decide +kernel
theorem c334_0 : pm_code 334 0 = some (.aload_n 2, 1) := pm_of cl334_0 0 (q := (0, .aload_n 2, 1)) rfl
theorem c334_1 : pm_code 334 1 = some (.iconst 0, 2) := pm_of cl334_0 1 (q := (1, .iconst 0, 2)) rfl
theorem c334_2 : pm_code 334 2 = some (.aload_n 0, 3) := pm_of cl334_0 2 (q := (2, .aload_n 0, 3)) rfl
theorem c334_3 : pm_code 334 3 = some (.iload_n 1, 4) := pm_of cl334_0 3 (q := (3, .iload_n 1, 4)) rfl
theorem c334_4 : pm_code 334 4 = some (.invokevirtual 25, 7) := pm_of cl334_0 4 (q := (4, .invokevirtual 25, 7)) rfl
theorem c334_7 : pm_code 334 7 = some (.i2l, 8) := pm_of cl334_0 5 (q := (7, .i2l, 8)) rfl
theorem c334_8 : pm_code 334 8 = some (.lastore, 9) := pm_of cl334_0 6 (q := (8, .lastore, 9)) rfl
theorem c334_9 : pm_code 334 9 = some (.goto 6, 12) := pm_of cl334_0 7 (q := (9, .goto 6, 12)) rfl
theorem c334_12 : pm_code 334 12 = some (.astore_n 3, 13) := pm_of cl334_0 8 (q := (12, .astore_n 3, 13)) rfl
theorem c334_13 : pm_code 334 13 = some (.iconst 1, 14) := pm_of cl334_0 9 (q := (13, .iconst 1, 14)) rfl
theorem c334_14 : pm_code 334 14 = some (.ireturn, 15) := pm_of cl334_0 10 (q := (14, .ireturn, 15)) rfl
theorem c334_15 : pm_code 334 15 = some (.iconst 0, 16) := pm_of cl334_0 11 (q := (15, .iconst 0, 16)) rfl
theorem c334_16 : pm_code 334 16 = some (.ireturn, 17) := pm_of cl334_0 12 (q := (16, .ireturn, 17)) rfl
theorem k335 : pm_k 335 = 13 := by decide +kernel
theorem ml335 : pm_ml 335 = 5 := by decide +kernel
theorem rt335 : pm_rt 335 = (some .int) := by decide +kernel
theorem cl335_0 : ([(0, .aload_n 3, 1), (1, .iconst 0, 2), (2, .aload_n 0, 3), (3, .iload_n 1, 4), (4, .iload_n 2, 5), (5, .invokevirtual 28, 8), (8, .i2l, 9), (9, .lastore, 10), (10, .goto 11, 13), (13, .astore 4, 15), (15, .iconst 1, 16), (16, .ireturn, 17), (17, .astore 4, 19), (19, .iconst 2, 20), (20, .ireturn, 21), (21, .iconst 0, 22), (22, .ireturn, 23)] : List (Nat × Instr × Nat)).all (fun q => decide (pm_code 335 q.1 = some q.2)) = true := by decide +kernel
theorem c335_0 : pm_code 335 0 = some (.aload_n 3, 1) := pm_of cl335_0 0 (q := (0, .aload_n 3, 1)) rfl
theorem c335_1 : pm_code 335 1 = some (.iconst 0, 2) := pm_of cl335_0 1 (q := (1, .iconst 0, 2)) rfl
theorem c335_2 : pm_code 335 2 = some (.aload_n 0, 3) := pm_of cl335_0 2 (q := (2, .aload_n 0, 3)) rfl
theorem c335_3 : pm_code 335 3 = some (.iload_n 1, 4) := pm_of cl335_0 3 (q := (3, .iload_n 1, 4)) rfl
theorem c335_4 : pm_code 335 4 = some (.iload_n 2, 5) := pm_of cl335_0 4 (q := (4, .iload_n 2, 5)) rfl
theorem c335_5 : pm_code 335 5 = some (.invokevirtual 28, 8) := pm_of cl335_0 5 (q := (5, .invokevirtual 28, 8)) rfl
theorem c335_8 : pm_code 335 8 = some (.i2l, 9) := pm_of cl335_0 6 (q := (8, .i2l, 9)) rfl
theorem c335_9 : pm_code 335 9 = some (.lastore, 10) := pm_of cl335_0 7 (q := (9, .lastore, 10)) rfl
theorem c335_10 : pm_code 335 10 = some (.goto 11, 13) := pm_of cl335_0 8 (q := (10, .goto 11, 13)) rfl
theorem c335_13 : pm_code 335 13 = some (.astore 4, 15) := pm_of cl335_0 9 (q := (13, .astore 4, 15)) rfl
theorem c335_15 : pm_code 335 15 = some (.iconst 1, 16) := pm_of cl335_0 10 (q := (15, .iconst 1, 16)) rfl
theorem c335_16 : pm_code 335 16 = some (.ireturn, 17) := pm_of cl335_0 11 (q := (16, .ireturn, 17)) rfl
theorem c335_17 : pm_code 335 17 = some (.astore 4, 19) := pm_of cl335_0 12 (q := (17, .astore 4, 19)) rfl
theorem c335_19 : pm_code 335 19 = some (.iconst 2, 20) := pm_of cl335_0 13 (q := (19, .iconst 2, 20)) rfl
theorem c335_20 : pm_code 335 20 = some (.ireturn, 21) := pm_of cl335_0 14 (q := (20, .ireturn, 21)) rfl
theorem c335_21 : pm_code 335 21 = some (.iconst 0, 22) := pm_of cl335_0 15 (q := (21, .iconst 0, 22)) rfl
theorem c335_22 : pm_code 335 22 = some (.ireturn, 23) := pm_of cl335_0 16 (q := (22, .ireturn, 23)) rfl
theorem k336 : pm_k 336 = 13 := by decide +kernel
theorem ml336 : pm_ml 336 = 5 := by decide +kernel
theorem rt336 : pm_rt 336 = (some .int) := by decide +kernel
theorem cl336_0 : ([(0, .aload_n 3, 1), (1, .iconst 0, 2), (2, .aload_n 0, 3), (3, .iload_n 1, 4), (4, .iload_n 2, 5), (5, .invokevirtual 33, 8), (8, .i2l, 9), (9, .lastore, 10), (10, .goto 11, 13), (13, .astore 4, 15), (15, .iconst 1, 16), (16, .ireturn, 17), (17, .astore 4, 19), (19, .iconst 2, 20), (20, .ireturn, 21), (21, .iconst 0, 22), (22, .ireturn, 23)] : List (Nat × Instr × Nat)).all (fun q => decide (pm_code 336 q.1 = some q.2)) = true := by decide +kernel
theorem c336_0 : pm_code 336 0 = some (.aload_n 3, 1) := pm_of cl336_0 0 (q := (0, .aload_n 3, 1)) rfl
theorem c336_1 : pm_code 336 1 = some (.iconst 0, 2) := pm_of cl336_0 1 (q := (1, .iconst 0, 2)) rfl
theorem c336_2 : pm_code 336 2 = some (.aload_n 0, 3) := pm_of cl336_0 2 (q := (2, .aload_n 0, 3)) rfl
theorem c336_3 : pm_code 336 3 = some (.iload_n 1, 4) := pm_of cl336_0 3 (q := (3, .iload_n 1, 4)) rfl
theorem c336_4 : pm_code 336 4 = some (.iload_n 2, 5) := pm_of cl336_0 4 (q := (4, .iload_n 2, 5)) rfl
theorem c336_5 : pm_code 336 5 = some (.invokevirtual 33, 8) := pm_of cl336_0 5 (q := (5, .invokevirtual 33, 8)) rfl
theorem c336_8 : pm_code 336 8 = some (.i2l, 9) := pm_of cl336_0 6 (q := (8, .i2l, 9)) rfl
theorem c336_9 : pm_code 336 9 = some (.lastore, 10) := pm_of cl336_0 7 (q := (9, .lastore, 10)) rfl
theorem c336_10 : pm_code 336 10 = some (.goto 11, 13) := pm_of cl336_0 8 (q := (10, .goto 11, 13)) rfl
theorem c336_13 : pm_code 336 13 = some (.astore 4, 15) := pm_of cl336_0 9 (q := (13, .astore 4, 15)) rfl
theorem c336_15 : pm_code 336 15 = some (.iconst 1, 16) := pm_of cl336_0 10 (q := (15, .iconst 1, 16)) rfl
theorem c336_16 : pm_code 336 16 = some (.ireturn, 17) := pm_of cl336_0 11 (q := (16, .ireturn, 17)) rfl
theorem c336_17 : pm_code 336 17 = some (.astore 4, 19) := pm_of cl336_0 12 (q := (17, .astore 4, 19)) rfl
theorem c336_19 : pm_code 336 19 = some (.iconst 2, 20) := pm_of cl336_0 13 (q := (19, .iconst 2, 20)) rfl
theorem c336_20 : pm_code 336 20 = some (.ireturn, 21) := pm_of cl336_0 14 (q := (20, .ireturn, 21)) rfl
theorem c336_21 : pm_code 336 21 = some (.iconst 0, 22) := pm_of cl336_0 15 (q := (21, .iconst 0, 22)) rfl
theorem c336_22 : pm_code 336 22 = some (.ireturn, 23) := pm_of cl336_0 16 (q := (22, .ireturn, 23)) rfl
theorem k337 : pm_k 337 = 13 := by decide +kernel
theorem ml337 : pm_ml 337 = 5 := by decide +kernel
theorem rt337 : pm_rt 337 = (some .int) := by decide +kernel
theorem cl337_0 : ([(0, .aload_n 3, 1), (1, .iconst 0, 2), (2, .aload_n 0, 3), (3, .iload_n 1, 4), (4, .iload_n 2, 5), (5, .invokevirtual 36, 8), (8, .i2l, 9), (9, .lastore, 10), (10, .goto 11, 13), (13, .astore 4, 15), (15, .iconst 1, 16), (16, .ireturn, 17), (17, .astore 4, 19), (19, .iconst 2, 20), (20, .ireturn, 21), (21, .iconst 0, 22), (22, .ireturn, 23)] : List (Nat × Instr × Nat)).all (fun q => decide (pm_code 337 q.1 = some q.2)) = true := by decide +kernel
theorem c337_0 : pm_code 337 0 = some (.aload_n 3, 1) := pm_of cl337_0 0 (q := (0, .aload_n 3, 1)) rfl
theorem c337_1 : pm_code 337 1 = some (.iconst 0, 2) := pm_of cl337_0 1 (q := (1, .iconst 0, 2)) rfl
theorem c337_2 : pm_code 337 2 = some (.aload_n 0, 3) := pm_of cl337_0 2 (q := (2, .aload_n 0, 3)) rfl
theorem c337_3 : pm_code 337 3 = some (.iload_n 1, 4) := pm_of cl337_0 3 (q := (3, .iload_n 1, 4)) rfl
theorem c337_4 : pm_code 337 4 = some (.iload_n 2, 5) := pm_of cl337_0 4 (q := (4, .iload_n 2, 5)) rfl
theorem c337_5 : pm_code 337 5 = some (.invokevirtual 36, 8) := pm_of cl337_0 5 (q := (5, .invokevirtual 36, 8)) rfl
theorem c337_8 : pm_code 337 8 = some (.i2l, 9) := pm_of cl337_0 6 (q := (8, .i2l, 9)) rfl
theorem c337_9 : pm_code 337 9 = some (.lastore, 10) := pm_of cl337_0 7 (q := (9, .lastore, 10)) rfl
theorem c337_10 : pm_code 337 10 = some (.goto 11, 13) := pm_of cl337_0 8 (q := (10, .goto 11, 13)) rfl
theorem c337_13 : pm_code 337 13 = some (.astore 4, 15) := pm_of cl337_0 9 (q := (13, .astore 4, 15)) rfl
theorem c337_15 : pm_code 337 15 = some (.iconst 1, 16) := pm_of cl337_0 10 (q := (15, .iconst 1, 16)) rfl
theorem c337_16 : pm_code 337 16 = some (.ireturn, 17) := pm_of cl337_0 11 (q := (16, .ireturn, 17)) rfl
theorem c337_17 : pm_code 337 17 = some (.astore 4, 19) := pm_of cl337_0 12 (q := (17, .astore 4, 19)) rfl
theorem c337_19 : pm_code 337 19 = some (.iconst 2, 20) := pm_of cl337_0 13 (q := (19, .iconst 2, 20)) rfl
theorem c337_20 : pm_code 337 20 = some (.ireturn, 21) := pm_of cl337_0 14 (q := (20, .ireturn, 21)) rfl
theorem c337_21 : pm_code 337 21 = some (.iconst 0, 22) := pm_of cl337_0 15 (q := (21, .iconst 0, 22)) rfl
theorem c337_22 : pm_code 337 22 = some (.ireturn, 23) := pm_of cl337_0 16 (q := (22, .ireturn, 23)) rfl
theorem k338 : pm_k 338 = 13 := by decide +kernel
theorem ml338 : pm_ml 338 = 4 := by decide +kernel
theorem rt338 : pm_rt 338 = (some .int) := by decide +kernel
theorem cl338_0 : ([(0, .aload_n 2, 1), (1, .iconst 0, 2), (2, .aload_n 0, 3), (3, .iload_n 1, 4), (4, .invokevirtual 39, 7), (7, .i2l, 8), (8, .lastore, 9), (9, .goto 6, 12), (12, .astore_n 3, 13), (13, .iconst 1, 14), (14, .ireturn, 15), (15, .iconst 0, 16), (16, .ireturn, 17)] : List (Nat × Instr × Nat)).all (fun q => decide (pm_code 338 q.1 = some q.2)) = true := by decide +kernel
theorem c338_0 : pm_code 338 0 = some (.aload_n 2, 1) := pm_of cl338_0 0 (q := (0, .aload_n 2, 1)) rfl
theorem c338_1 : pm_code 338 1 = some (.iconst 0, 2) := pm_of cl338_0 1 (q := (1, .iconst 0, 2)) rfl
theorem c338_2 : pm_code 338 2 = some (.aload_n 0, 3) := pm_of cl338_0 2 (q := (2, .aload_n 0, 3)) rfl
theorem c338_3 : pm_code 338 3 = some (.iload_n 1, 4) := pm_of cl338_0 3 (q := (3, .iload_n 1, 4)) rfl
theorem c338_4 : pm_code 338 4 = some (.invokevirtual 39, 7) := pm_of cl338_0 4 (q := (4, .invokevirtual 39, 7)) rfl
theorem c338_7 : pm_code 338 7 = some (.i2l, 8) := pm_of cl338_0 5 (q := (7, .i2l, 8)) rfl
theorem c338_8 : pm_code 338 8 = some (.lastore, 9) := pm_of cl338_0 6 (q := (8, .lastore, 9)) rfl
theorem c338_9 : pm_code 338 9 = some (.goto 6, 12) := pm_of cl338_0 7 (q := (9, .goto 6, 12)) rfl
theorem c338_12 : pm_code 338 12 = some (.astore_n 3, 13) := pm_of cl338_0 8 (q := (12, .astore_n 3, 13)) rfl
theorem c338_13 : pm_code 338 13 = some (.iconst 1, 14) := pm_of cl338_0 9 (q := (13, .iconst 1, 14)) rfl
theorem c338_14 : pm_code 338 14 = some (.ireturn, 15) := pm_of cl338_0 10 (q := (14, .ireturn, 15)) rfl
theorem c338_15 : pm_code 338 15 = some (.iconst 0, 16) := pm_of cl338_0 11 (q := (15, .iconst 0, 16)) rfl
theorem c338_16 : pm_code 338 16 = some (.ireturn, 17) := pm_of cl338_0 12 (q := (16, .ireturn, 17)) rfl
theorem k339 : pm_k 339 = 13 := by decide +kernel
theorem ml339 : pm_ml 339 = 9 := by decide +kernel
theorem rt339 : pm_rt 339 = (some .int) := by decide +kernel
theorem cl339_0 : ([(0, .aload 7, 2), (2, .iconst 0, 3), (3, .aload_n 0, 4), (4, .iload_n 1, 5), (5, .iload_n 2, 6), (6, .iload_n 3, 7), (7, .iload 4, 9), (9, .iload 5, 11), (11, .iload 6, 13), (13, .invokevirtual 42, 16), (16, .i2l, 17), (17, .lastore, 18), (18, .goto 7, 21), (21, .astore 8, 23), (23, .iconst 1, 24), (24, .ireturn, 25), (25, .iconst 0, 26), (26, .ireturn, 27)] : List (Nat × Instr × Nat)).all (fun q => decide (pm_code 339 q.1 = some q.2)) = true := by decide +kernel
theorem c339_0 : pm_code 339 0 = some (.aload 7, 2) := pm_of cl339_0 0 (q := (0, .aload 7, 2)) rfl
theorem c339_2 : pm_code 339 2 = some (.iconst 0, 3) := pm_of cl339_0 1 (q := (2, .iconst 0, 3)) rfl
theorem c339_3 : pm_code 339 3 = some (.aload_n 0, 4) := pm_of cl339_0 2 (q := (3, .aload_n 0, 4)) rfl
theorem c339_4 : pm_code 339 4 = some (.iload_n 1, 5) := pm_of cl339_0 3 (q := (4, .iload_n 1, 5)) rfl
theorem c339_5 : pm_code 339 5 = some (.iload_n 2, 6) := pm_of cl339_0 4 (q := (5, .iload_n 2, 6)) rfl
theorem c339_6 : pm_code 339 6 = some (.iload_n 3, 7) := pm_of cl339_0 5 (q := (6, .iload_n 3, 7)) rfl
theorem c339_7 : pm_code 339 7 = some (.iload 4, 9) := pm_of cl339_0 6 (q := (7, .iload 4, 9)) rfl
theorem c339_9 : pm_code 339 9 = some (.iload 5, 11) := pm_of cl339_0 7 (q := (9, .iload 5, 11)) rfl
theorem c339_11 : pm_code 339 11 = some (.iload 6, 13) := pm_of cl339_0 8 (q := (11, .iload 6, 13)) rfl
theorem c339_13 : pm_code 339 13 = some (.invokevirtual 42, 16) := pm_of cl339_0 9 (q := (13, .invokevirtual 42, 16)) rfl
theorem c339_16 : pm_code 339 16 = some (.i2l, 17) := pm_of cl339_0 10 (q := (16, .i2l, 17)) rfl
theorem c339_17 : pm_code 339 17 = some (.lastore, 18) := pm_of cl339_0 11 (q := (17, .lastore, 18)) rfl
theorem c339_18 : pm_code 339 18 = some (.goto 7, 21) := pm_of cl339_0 12 (q := (18, .goto 7, 21)) rfl
theorem c339_21 : pm_code 339 21 = some (.astore 8, 23) := pm_of cl339_0 13 (q := (21, .astore 8, 23)) rfl
theorem c339_23 : pm_code 339 23 = some (.iconst 1, 24) := pm_of cl339_0 14 (q := (23, .iconst 1, 24)) rfl
theorem c339_24 : pm_code 339 24 = some (.ireturn, 25) := pm_of cl339_0 15 (q := (24, .ireturn, 25)) rfl
theorem c339_25 : pm_code 339 25 = some (.iconst 0, 26) := pm_of cl339_0 16 (q := (25, .iconst 0, 26)) rfl
theorem c339_26 : pm_code 339 26 = some (.ireturn, 27) := pm_of cl339_0 17 (q := (26, .ireturn, 27)) rfl
theorem k340 : pm_k 340 = 13 := by decide +kernel
theorem ml340 : pm_ml 340 = 4 := by decide +kernel
theorem rt340 : pm_rt 340 = (some .int) := by decide +kernel
theorem cl340_0 : ([(0, .aload_n 2, 1), (1, .iconst 0, 2), (2, .aload_n 0, 3), (3, .iload_n 1, 4), (4, .invokevirtual 46, 7), (7, .i2l, 8), (8, .lastore, 9), (9, .goto 6, 12), (12, .astore_n 3, 13), (13, .iconst 1, 14), (14, .ireturn, 15), (15, .iconst 0, 16), (16, .ireturn, 17)] : List (Nat × Instr × Nat)).all (fun q => decide (pm_code 340 q.1 = some q.2)) = true := by decide +kernel
theorem c340_0 : pm_code 340 0 = some (.aload_n 2, 1) := pm_of cl340_0 0 (q := (0, .aload_n 2, 1)) rfl
theorem c340_1 : pm_code 340 1 = some (.iconst 0, 2) := pm_of cl340_0 1 (q := (1, .iconst 0, 2)) rfl
theorem c340_2 : pm_code 340 2 = some (.aload_n 0, 3) := pm_of cl340_0 2 (q := (2, .aload_n 0, 3)) rfl
theorem c340_3 : pm_code 340 3 = some (.iload_n 1, 4) := pm_of cl340_0 3 (q := (3, .iload_n 1, 4)) rfl
theorem c340_4 : pm_code 340 4 = some (.invokevirtual 46, 7) := pm_of cl340_0 4 (q := (4, .invokevirtual 46, 7)) rfl
theorem c340_7 : pm_code 340 7 = some (.i2l, 8) := pm_of cl340_0 5 (q := (7, .i2l, 8)) rfl
theorem c340_8 : pm_code 340 8 = some (.lastore, 9) := pm_of cl340_0 6 (q := (8, .lastore, 9)) rfl
theorem c340_9 : pm_code 340 9 = some (.goto 6, 12) := pm_of cl340_0 7 (q := (9, .goto 6, 12)) rfl
theorem c340_12 : pm_code 340 12 = some (.astore_n 3, 13) := pm_of cl340_0 8 (q := (12, .astore_n 3, 13)) rfl
theorem c340_13 : pm_code 340 13 = some (.iconst 1, 14) := pm_of cl340_0 9 (q := (13, .iconst 1, 14)) rfl
theorem c340_14 : pm_code 340 14 = some (.ireturn, 15) := pm_of cl340_0 10 (q := (14, .ireturn, 15)) rfl
theorem c340_15 : pm_code 340 15 = some (.iconst 0, 16) := pm_of cl340_0 11 (q := (15, .iconst 0, 16)) rfl
theorem c340_16 : pm_code 340 16 = some (.ireturn, 17) := pm_of cl340_0 12 (q := (16, .ireturn, 17)) rfl
theorem k341 : pm_k 341 = 13 := by decide +kernel
theorem ml341 : pm_ml 341 = 4 := by decide +kernel
theorem rt341 : pm_rt 341 = (some .int) := by decide +kernel
theorem cl341_0 : ([(0, .aload_n 2, 1), (1, .iconst 0, 2), (2, .aload_n 0, 3), (3, .iload_n 1, 4), (4, .invokevirtual 49, 7), (7, .i2l, 8), (8, .lastore, 9), (9, .goto 6, 12), (12, .astore_n 3, 13), (13, .iconst 1, 14), (14, .ireturn, 15), (15, .iconst 0, 16), (16, .ireturn, 17)] : List (Nat × Instr × Nat)).all (fun q => decide (pm_code 341 q.1 = some q.2)) = true := by decide +kernel
theorem c341_0 : pm_code 341 0 = some (.aload_n 2, 1) := pm_of cl341_0 0 (q := (0, .aload_n 2, 1)) rfl
theorem c341_1 : pm_code 341 1 = some (.iconst 0, 2) := pm_of cl341_0 1 (q := (1, .iconst 0, 2)) rfl
theorem c341_2 : pm_code 341 2 = some (.aload_n 0, 3) := pm_of cl341_0 2 (q := (2, .aload_n 0, 3)) rfl
theorem c341_3 : pm_code 341 3 = some (.iload_n 1, 4) := pm_of cl341_0 3 (q := (3, .iload_n 1, 4)) rfl
theorem c341_4 : pm_code 341 4 = some (.invokevirtual 49, 7) := pm_of cl341_0 4 (q := (4, .invokevirtual 49, 7)) rfl
theorem c341_7 : pm_code 341 7 = some (.i2l, 8) := pm_of cl341_0 5 (q := (7, .i2l, 8)) rfl
theorem c341_8 : pm_code 341 8 = some (.lastore, 9) := pm_of cl341_0 6 (q := (8, .lastore, 9)) rfl
theorem c341_9 : pm_code 341 9 = some (.goto 6, 12) := pm_of cl341_0 7 (q := (9, .goto 6, 12)) rfl
theorem c341_12 : pm_code 341 12 = some (.astore_n 3, 13) := pm_of cl341_0 8 (q := (12, .astore_n 3, 13)) rfl
theorem c341_13 : pm_code 341 13 = some (.iconst 1, 14) := pm_of cl341_0 9 (q := (13, .iconst 1, 14)) rfl
theorem c341_14 : pm_code 341 14 = some (.ireturn, 15) := pm_of cl341_0 10 (q := (14, .ireturn, 15)) rfl
theorem c341_15 : pm_code 341 15 = some (.iconst 0, 16) := pm_of cl341_0 11 (q := (15, .iconst 0, 16)) rfl
theorem c341_16 : pm_code 341 16 = some (.ireturn, 17) := pm_of cl341_0 12 (q := (16, .ireturn, 17)) rfl
theorem k342 : pm_k 342 = 13 := by decide +kernel
theorem ml342 : pm_ml 342 = 5 := by decide +kernel
theorem rt342 : pm_rt 342 = (some .int) := by decide +kernel
theorem cl342_0 : ([(0, .aload_n 3, 1), (1, .iconst 0, 2), (2, .aload_n 0, 3), (3, .iload_n 1, 4), (4, .iload_n 2, 5), (5, .invokevirtual 52, 8), (8, .i2l, 9), (9, .lastore, 10), (10, .goto 7, 13), (13, .astore 4, 15), (15, .iconst 1, 16), (16, .ireturn, 17), (17, .iconst 0, 18), (18, .ireturn, 19)] : List (Nat × Instr × Nat)).all (fun q => decide (pm_code 342 q.1 = some q.2)) = true := by decide +kernel
theorem c342_0 : pm_code 342 0 = some (.aload_n 3, 1) := pm_of cl342_0 0 (q := (0, .aload_n 3, 1)) rfl
theorem c342_1 : pm_code 342 1 = some (.iconst 0, 2) := pm_of cl342_0 1 (q := (1, .iconst 0, 2)) rfl
theorem c342_2 : pm_code 342 2 = some (.aload_n 0, 3) := pm_of cl342_0 2 (q := (2, .aload_n 0, 3)) rfl
theorem c342_3 : pm_code 342 3 = some (.iload_n 1, 4) := pm_of cl342_0 3 (q := (3, .iload_n 1, 4)) rfl
theorem c342_4 : pm_code 342 4 = some (.iload_n 2, 5) := pm_of cl342_0 4 (q := (4, .iload_n 2, 5)) rfl
theorem c342_5 : pm_code 342 5 = some (.invokevirtual 52, 8) := pm_of cl342_0 5 (q := (5, .invokevirtual 52, 8)) rfl
theorem c342_8 : pm_code 342 8 = some (.i2l, 9) := pm_of cl342_0 6 (q := (8, .i2l, 9)) rfl
theorem c342_9 : pm_code 342 9 = some (.lastore, 10) := pm_of cl342_0 7 (q := (9, .lastore, 10)) rfl
theorem c342_10 : pm_code 342 10 = some (.goto 7, 13) := pm_of cl342_0 8 (q := (10, .goto 7, 13)) rfl
theorem c342_13 : pm_code 342 13 = some (.astore 4, 15) := pm_of cl342_0 9 (q := (13, .astore 4, 15)) rfl
theorem c342_15 : pm_code 342 15 = some (.iconst 1, 16) := pm_of cl342_0 10 (q := (15, .iconst 1, 16)) rfl
theorem c342_16 : pm_code 342 16 = some (.ireturn, 17) := pm_of cl342_0 11 (q := (16, .ireturn, 17)) rfl
theorem c342_17 : pm_code 342 17 = some (.iconst 0, 18) := pm_of cl342_0 12 (q := (17, .iconst 0, 18)) rfl
theorem c342_18 : pm_code 342 18 = some (.ireturn, 19) := pm_of cl342_0 13 (q := (18, .ireturn, 19)) rfl
theorem k343 : pm_k 343 = 13 := by decide +kernel
theorem ml343 : pm_ml 343 = 5 := by decide +kernel
theorem rt343 : pm_rt 343 = (some .int) := by decide +kernel
theorem cl343_0 : ([(0, .aload_n 3, 1), (1, .iconst 0, 2), (2, .aload_n 0, 3), (3, .iload_n 1, 4), (4, .iload_n 2, 5), (5, .invokevirtual 55, 8), (8, .i2l, 9), (9, .lastore, 10), (10, .goto 7, 13), (13, .astore 4, 15), (15, .iconst 1, 16), (16, .ireturn, 17), (17, .iconst 0, 18), (18, .ireturn, 19)] : List (Nat × Instr × Nat)).all (fun q => decide (pm_code 343 q.1 = some q.2)) = true := by decide +kernel
theorem c343_0 : pm_code 343 0 = some (.aload_n 3, 1) := pm_of cl343_0 0 (q := (0, .aload_n 3, 1)) rfl
theorem c343_1 : pm_code 343 1 = some (.iconst 0, 2) := pm_of cl343_0 1 (q := (1, .iconst 0, 2)) rfl
theorem c343_2 : pm_code 343 2 = some (.aload_n 0, 3) := pm_of cl343_0 2 (q := (2, .aload_n 0, 3)) rfl
theorem c343_3 : pm_code 343 3 = some (.iload_n 1, 4) := pm_of cl343_0 3 (q := (3, .iload_n 1, 4)) rfl
theorem c343_4 : pm_code 343 4 = some (.iload_n 2, 5) := pm_of cl343_0 4 (q := (4, .iload_n 2, 5)) rfl
theorem c343_5 : pm_code 343 5 = some (.invokevirtual 55, 8) := pm_of cl343_0 5 (q := (5, .invokevirtual 55, 8)) rfl
theorem c343_8 : pm_code 343 8 = some (.i2l, 9) := pm_of cl343_0 6 (q := (8, .i2l, 9)) rfl
theorem c343_9 : pm_code 343 9 = some (.lastore, 10) := pm_of cl343_0 7 (q := (9, .lastore, 10)) rfl
theorem c343_10 : pm_code 343 10 = some (.goto 7, 13) := pm_of cl343_0 8 (q := (10, .goto 7, 13)) rfl
theorem c343_13 : pm_code 343 13 = some (.astore 4, 15) := pm_of cl343_0 9 (q := (13, .astore 4, 15)) rfl
theorem c343_15 : pm_code 343 15 = some (.iconst 1, 16) := pm_of cl343_0 10 (q := (15, .iconst 1, 16)) rfl
theorem c343_16 : pm_code 343 16 = some (.ireturn, 17) := pm_of cl343_0 11 (q := (16, .ireturn, 17)) rfl
theorem c343_17 : pm_code 343 17 = some (.iconst 0, 18) := pm_of cl343_0 12 (q := (17, .iconst 0, 18)) rfl
theorem c343_18 : pm_code 343 18 = some (.ireturn, 19) := pm_of cl343_0 13 (q := (18, .ireturn, 19)) rfl
theorem k344 : pm_k 344 = 13 := by decide +kernel
theorem ml344 : pm_ml 344 = 4 := by decide +kernel
theorem rt344 : pm_rt 344 = (some .int) := by decide +kernel
theorem cl344_0 : ([(0, .aload_n 2, 1), (1, .iconst 0, 2), (2, .aload_n 0, 3), (3, .iload_n 1, 4), (4, .invokevirtual 58, 7), (7, .i2l, 8), (8, .lastore, 9), (9, .goto 6, 12), (12, .astore_n 3, 13), (13, .iconst 1, 14), (14, .ireturn, 15), (15, .iconst 0, 16), (16, .ireturn, 17)] : List (Nat × Instr × Nat)).all (fun q => decide (pm_code 344 q.1 = some q.2)) = true := by decide +kernel
theorem c344_0 : pm_code 344 0 = some (.aload_n 2, 1) := pm_of cl344_0 0 (q := (0, .aload_n 2, 1)) rfl
theorem c344_1 : pm_code 344 1 = some (.iconst 0, 2) := pm_of cl344_0 1 (q := (1, .iconst 0, 2)) rfl
theorem c344_2 : pm_code 344 2 = some (.aload_n 0, 3) := pm_of cl344_0 2 (q := (2, .aload_n 0, 3)) rfl
theorem c344_3 : pm_code 344 3 = some (.iload_n 1, 4) := pm_of cl344_0 3 (q := (3, .iload_n 1, 4)) rfl
theorem c344_4 : pm_code 344 4 = some (.invokevirtual 58, 7) := pm_of cl344_0 4 (q := (4, .invokevirtual 58, 7)) rfl
theorem c344_7 : pm_code 344 7 = some (.i2l, 8) := pm_of cl344_0 5 (q := (7, .i2l, 8)) rfl
theorem c344_8 : pm_code 344 8 = some (.lastore, 9) := pm_of cl344_0 6 (q := (8, .lastore, 9)) rfl
theorem c344_9 : pm_code 344 9 = some (.goto 6, 12) := pm_of cl344_0 7 (q := (9, .goto 6, 12)) rfl
theorem c344_12 : pm_code 344 12 = some (.astore_n 3, 13) := pm_of cl344_0 8 (q := (12, .astore_n 3, 13)) rfl
theorem c344_13 : pm_code 344 13 = some (.iconst 1, 14) := pm_of cl344_0 9 (q := (13, .iconst 1, 14)) rfl
theorem c344_14 : pm_code 344 14 = some (.ireturn, 15) := pm_of cl344_0 10 (q := (14, .ireturn, 15)) rfl
theorem c344_15 : pm_code 344 15 = some (.iconst 0, 16) := pm_of cl344_0 11 (q := (15, .iconst 0, 16)) rfl
theorem c344_16 : pm_code 344 16 = some (.ireturn, 17) := pm_of cl344_0 12 (q := (16, .ireturn, 17)) rfl
theorem k345 : pm_k 345 = 13 := by decide +kernel
theorem ml345 : pm_ml 345 = 4 := by decide +kernel
theorem rt345 : pm_rt 345 = (some .int) := by decide +kernel
theorem cl345_0 : ([(0, .aload_n 2, 1), (1, .iconst 0, 2), (2, .aload_n 0, 3), (3, .iload_n 1, 4), (4, .invokevirtual 61, 7), (7, .i2l, 8), (8, .lastore, 9), (9, .goto 6, 12), (12, .astore_n 3, 13), (13, .iconst 1, 14), (14, .ireturn, 15), (15, .iconst 0, 16), (16, .ireturn, 17)] : List (Nat × Instr × Nat)).all (fun q => decide (pm_code 345 q.1 = some q.2)) = true := by decide +kernel
theorem c345_0 : pm_code 345 0 = some (.aload_n 2, 1) := pm_of cl345_0 0 (q := (0, .aload_n 2, 1)) rfl
theorem c345_1 : pm_code 345 1 = some (.iconst 0, 2) := pm_of cl345_0 1 (q := (1, .iconst 0, 2)) rfl
theorem c345_2 : pm_code 345 2 = some (.aload_n 0, 3) := pm_of cl345_0 2 (q := (2, .aload_n 0, 3)) rfl
theorem c345_3 : pm_code 345 3 = some (.iload_n 1, 4) := pm_of cl345_0 3 (q := (3, .iload_n 1, 4)) rfl
theorem c345_4 : pm_code 345 4 = some (.invokevirtual 61, 7) := pm_of cl345_0 4 (q := (4, .invokevirtual 61, 7)) rfl
theorem c345_7 : pm_code 345 7 = some (.i2l, 8) := pm_of cl345_0 5 (q := (7, .i2l, 8)) rfl
theorem c345_8 : pm_code 345 8 = some (.lastore, 9) := pm_of cl345_0 6 (q := (8, .lastore, 9)) rfl
theorem c345_9 : pm_code 345 9 = some (.goto 6, 12) := pm_of cl345_0 7 (q := (9, .goto 6, 12)) rfl
theorem c345_12 : pm_code 345 12 = some (.astore_n 3, 13) := pm_of cl345_0 8 (q := (12, .astore_n 3, 13)) rfl
theorem c345_13 : pm_code 345 13 = some (.iconst 1, 14) := pm_of cl345_0 9 (q := (13, .iconst 1, 14)) rfl
theorem c345_14 : pm_code 345 14 = some (.ireturn, 15) := pm_of cl345_0 10 (q := (14, .ireturn, 15)) rfl
theorem c345_15 : pm_code 345 15 = some (.iconst 0, 16) := pm_of cl345_0 11 (q := (15, .iconst 0, 16)) rfl
theorem c345_16 : pm_code 345 16 = some (.ireturn, 17) := pm_of cl345_0 12 (q := (16, .ireturn, 17)) rfl
theorem k346 : pm_k 346 = 13 := by decide +kernel
theorem ml346 : pm_ml 346 = 4 := by decide +kernel
theorem rt346 : pm_rt 346 = (some .int) := by decide +kernel
theorem cl346_0 : ([(0, .aload_n 2, 1), (1, .iconst 0, 2), (2, .aload_n 0, 3), (3, .iload_n 1, 4), (4, .invokevirtual 64, 7), (7, .i2l, 8), (8, .lastore, 9), (9, .goto 6, 12), (12, .astore_n 3, 13), (13, .iconst 1, 14), (14, .ireturn, 15), (15, .iconst 0, 16), (16, .ireturn, 17)] : List (Nat × Instr × Nat)).all (fun q => decide (pm_code 346 q.1 = some q.2)) = true := by decide +kernel
theorem c346_0 : pm_code 346 0 = some (.aload_n 2, 1) := pm_of cl346_0 0 (q := (0, .aload_n 2, 1)) rfl
theorem c346_1 : pm_code 346 1 = some (.iconst 0, 2) := pm_of cl346_0 1 (q := (1, .iconst 0, 2)) rfl
theorem c346_2 : pm_code 346 2 = some (.aload_n 0, 3) := pm_of cl346_0 2 (q := (2, .aload_n 0, 3)) rfl
theorem c346_3 : pm_code 346 3 = some (.iload_n 1, 4) := pm_of cl346_0 3 (q := (3, .iload_n 1, 4)) rfl
theorem c346_4 : pm_code 346 4 = some (.invokevirtual 64, 7) := pm_of cl346_0 4 (q := (4, .invokevirtual 64, 7)) rfl
theorem c346_7 : pm_code 346 7 = some (.i2l, 8) := pm_of cl346_0 5 (q := (7, .i2l, 8)) rfl
theorem c346_8 : pm_code 346 8 = some (.lastore, 9) := pm_of cl346_0 6 (q := (8, .lastore, 9)) rfl
theorem c346_9 : pm_code 346 9 = some (.goto 6, 12) := pm_of cl346_0 7 (q := (9, .goto 6, 12)) rfl
theorem c346_12 : pm_code 346 12 = some (.astore_n 3, 13) := pm_of cl346_0 8 (q := (12, .astore_n 3, 13)) rfl
theorem c346_13 : pm_code 346 13 = some (.iconst 1, 14) := pm_of cl346_0 9 (q := (13, .iconst 1, 14)) rfl
theorem c346_14 : pm_code 346 14 = some (.ireturn, 15) := pm_of cl346_0 10 (q := (14, .ireturn, 15)) rfl
theorem c346_15 : pm_code 346 15 = some (.iconst 0, 16) := pm_of cl346_0 11 (q := (15, .iconst 0, 16)) rfl
theorem c346_16 : pm_code 346 16 = some (.ireturn, 17) := pm_of cl346_0 12 (q := (16, .ireturn, 17)) rfl
theorem k347 : pm_k 347 = 13 := by decide +kernel
theorem ml347 : pm_ml 347 = 4 := by decide +kernel
theorem rt347 : pm_rt 347 = (some .int) := by decide +kernel
theorem cl347_0 : ([(0, .aload_n 2, 1), (1, .iconst 0, 2), (2, .aload_n 0, 3), (3, .iload_n 1, 4), (4, .invokevirtual 67, 7), (7, .i2l, 8), (8, .lastore, 9), (9, .goto 6, 12), (12, .astore_n 3, 13), (13, .iconst 1, 14), (14, .ireturn, 15), (15, .iconst 0, 16), (16, .ireturn, 17)] : List (Nat × Instr × Nat)).all (fun q => decide (pm_code 347 q.1 = some q.2)) = true := by decide +kernel
theorem c347_0 : pm_code 347 0 = some (.aload_n 2, 1) := pm_of cl347_0 0 (q := (0, .aload_n 2, 1)) rfl
theorem c347_1 : pm_code 347 1 = some (.iconst 0, 2) := pm_of cl347_0 1 (q := (1, .iconst 0, 2)) rfl
theorem c347_2 : pm_code 347 2 = some (.aload_n 0, 3) := pm_of cl347_0 2 (q := (2, .aload_n 0, 3)) rfl
theorem c347_3 : pm_code 347 3 = some (.iload_n 1, 4) := pm_of cl347_0 3 (q := (3, .iload_n 1, 4)) rfl
theorem c347_4 : pm_code 347 4 = some (.invokevirtual 67, 7) := pm_of cl347_0 4 (q := (4, .invokevirtual 67, 7)) rfl
theorem c347_7 : pm_code 347 7 = some (.i2l, 8) := pm_of cl347_0 5 (q := (7, .i2l, 8)) rfl
theorem c347_8 : pm_code 347 8 = some (.lastore, 9) := pm_of cl347_0 6 (q := (8, .lastore, 9)) rfl
theorem c347_9 : pm_code 347 9 = some (.goto 6, 12) := pm_of cl347_0 7 (q := (9, .goto 6, 12)) rfl
theorem c347_12 : pm_code 347 12 = some (.astore_n 3, 13) := pm_of cl347_0 8 (q := (12, .astore_n 3, 13)) rfl
theorem c347_13 : pm_code 347 13 = some (.iconst 1, 14) := pm_of cl347_0 9 (q := (13, .iconst 1, 14)) rfl
theorem c347_14 : pm_code 347 14 = some (.ireturn, 15) := pm_of cl347_0 10 (q := (14, .ireturn, 15)) rfl
theorem c347_15 : pm_code 347 15 = some (.iconst 0, 16) := pm_of cl347_0 11 (q := (15, .iconst 0, 16)) rfl
theorem c347_16 : pm_code 347 16 = some (.ireturn, 17) := pm_of cl347_0 12 (q := (16, .ireturn, 17)) rfl
theorem k348 : pm_k 348 = 13 := by decide +kernel
theorem ml348 : pm_ml 348 = 4 := by decide +kernel
theorem rt348 : pm_rt 348 = (some .int) := by decide +kernel
theorem cl348_0 : ([(0, .aload_n 2, 1), (1, .iconst 0, 2), (2, .aload_n 0, 3), (3, .iload_n 1, 4), (4, .invokevirtual 70, 7), (7, .ifCond .eq 7, 10), (10, .lconst 1, 11), (11, .goto 4, 14), (14, .lconst 0, 15), (15, .lastore, 16), (16, .goto 6, 19), (19, .astore_n 3, 20), (20, .iconst 1, 21), (21, .ireturn, 22), (22, .iconst 0, 23), (23, .ireturn, 24)] : List (Nat × Instr × Nat)).all (fun q => decide (pm_code 348 q.1 = some q.2)) = true := by decide +kernel
theorem c348_0 : pm_code 348 0 = some (.aload_n 2, 1) := pm_of cl348_0 0 (q := (0, .aload_n 2, 1)) rfl
theorem c348_1 : pm_code 348 1 = some (.iconst 0, 2) := pm_of cl348_0 1 (q := (1, .iconst 0, 2)) rfl
theorem c348_2 : pm_code 348 2 = some (.aload_n 0, 3) := pm_of cl348_0 2 (q := (2, .aload_n 0, 3)) rfl
theorem c348_3 : pm_code 348 3 = some (.iload_n 1, 4) := pm_of cl348_0 3 (q := (3, .iload_n 1, 4)) rfl
theorem c348_4 : pm_code 348 4 = some (.invokevirtual 70, 7) := pm_of cl348_0 4 (q := (4, .invokevirtual 70, 7)) rfl
theorem c348_7 : pm_code 348 7 = some (.ifCond .eq 7, 10) := pm_of cl348_0 5 (q := (7, .ifCond .eq 7, 10)) rfl
theorem c348_10 : pm_code 348 10 = some (.lconst 1, 11) := pm_of cl348_0 6 (q := (10, .lconst 1, 11)) rfl
theorem c348_11 : pm_code 348 11 = some (.goto 4, 14) := pm_of cl348_0 7 (q := (11, .goto 4, 14)) rfl
theorem c348_14 : pm_code 348 14 = some (.lconst 0, 15) := pm_of cl348_0 8 (q := (14, .lconst 0, 15)) rfl
theorem c348_15 : pm_code 348 15 = some (.lastore, 16) := pm_of cl348_0 9 (q := (15, .lastore, 16)) rfl
theorem c348_16 : pm_code 348 16 = some (.goto 6, 19) := pm_of cl348_0 10 (q := (16, .goto 6, 19)) rfl
theorem c348_19 : pm_code 348 19 = some (.astore_n 3, 20) := pm_of cl348_0 11 (q := (19, .astore_n 3, 20)) rfl
theorem c348_20 : pm_code 348 20 = some (.iconst 1, 21) := pm_of cl348_0 12 (q := (20, .iconst 1, 21)) rfl
theorem c348_21 : pm_code 348 21 = some (.ireturn, 22) := pm_of cl348_0 13 (q := (21, .ireturn, 22)) rfl
theorem c348_22 : pm_code 348 22 = some (.iconst 0, 23) := pm_of cl348_0 14 (q := (22, .iconst 0, 23)) rfl
theorem c348_23 : pm_code 348 23 = some (.ireturn, 24) := pm_of cl348_0 15 (q := (23, .ireturn, 24)) rfl
theorem k349 : pm_k 349 = 13 := by decide +kernel
theorem ml349 : pm_ml 349 = 4 := by decide +kernel
theorem rt349 : pm_rt 349 = (some .int) := by decide +kernel
theorem cl349_0 : ([(0, .aload_n 2, 1), (1, .iconst 0, 2), (2, .aload_n 0, 3), (3, .iload_n 1, 4), (4, .invokevirtual 74, 7), (7, .i2l, 8), (8, .lastore, 9), (9, .goto 6, 12), (12, .astore_n 3, 13), (13, .iconst 1, 14), (14, .ireturn, 15), (15, .iconst 0, 16), (16, .ireturn, 17)] : List (Nat × Instr × Nat)).all (fun q => decide (pm_code 349 q.1 = some q.2)) = true := by decide +kernel
theorem c349_0 : pm_code 349 0 = some (.aload_n 2, 1) := pm_of cl349_0 0 (q := (0, .aload_n 2, 1)) rfl
theorem c349_1 : pm_code 349 1 = some (.iconst 0, 2) := pm_of cl349_0 1 (q := (1, .iconst 0, 2)) rfl
theorem c349_2 : pm_code 349 2 = some (.aload_n 0, 3) := pm_of cl349_0 2 (q := (2, .aload_n 0, 3)) rfl
theorem c349_3 : pm_code 349 3 = some (.iload_n 1, 4) := pm_of cl349_0 3 (q := (3, .iload_n 1, 4)) rfl
theorem c349_4 : pm_code 349 4 = some (.invokevirtual 74, 7) := pm_of cl349_0 4 (q := (4, .invokevirtual 74, 7)) rfl
theorem c349_7 : pm_code 349 7 = some (.i2l, 8) := pm_of cl349_0 5 (q := (7, .i2l, 8)) rfl
theorem c349_8 : pm_code 349 8 = some (.lastore, 9) := pm_of cl349_0 6 (q := (8, .lastore, 9)) rfl
theorem c349_9 : pm_code 349 9 = some (.goto 6, 12) := pm_of cl349_0 7 (q := (9, .goto 6, 12)) rfl
theorem c349_12 : pm_code 349 12 = some (.astore_n 3, 13) := pm_of cl349_0 8 (q := (12, .astore_n 3, 13)) rfl
theorem c349_13 : pm_code 349 13 = some (.iconst 1, 14) := pm_of cl349_0 9 (q := (13, .iconst 1, 14)) rfl
theorem c349_14 : pm_code 349 14 = some (.ireturn, 15) := pm_of cl349_0 10 (q := (14, .ireturn, 15)) rfl
theorem c349_15 : pm_code 349 15 = some (.iconst 0, 16) := pm_of cl349_0 11 (q := (15, .iconst 0, 16)) rfl
theorem c349_16 : pm_code 349 16 = some (.ireturn, 17) := pm_of cl349_0 12 (q := (16, .ireturn, 17)) rfl
theorem k350 : pm_k 350 = 13 := by decide +kernel
theorem ml350 : pm_ml 350 = 4 := by decide +kernel
theorem rt350 : pm_rt 350 = (some .int) := by decide +kernel
theorem cl350_0 : ([(0, .aload_n 2, 1), (1, .iconst 0, 2), (2, .aload_n 0, 3), (3, .iload_n 1, 4), (4, .invokevirtual 77, 7), (7, .i2l, 8), (8, .lastore, 9), (9, .goto 6, 12), (12, .astore_n 3, 13), (13, .iconst 1, 14), (14, .ireturn, 15), (15, .iconst 0, 16), (16, .ireturn, 17)] : List (Nat × Instr × Nat)).all (fun q => decide (pm_code 350 q.1 = some q.2)) = true := by decide +kernel
theorem c350_0 : pm_code 350 0 = some (.aload_n 2, 1) := pm_of cl350_0 0 (q := (0, .aload_n 2, 1)) rfl
theorem c350_1 : pm_code 350 1 = some (.iconst 0, 2) := pm_of cl350_0 1 (q := (1, .iconst 0, 2)) rfl
theorem c350_2 : pm_code 350 2 = some (.aload_n 0, 3) := pm_of cl350_0 2 (q := (2, .aload_n 0, 3)) rfl
theorem c350_3 : pm_code 350 3 = some (.iload_n 1, 4) := pm_of cl350_0 3 (q := (3, .iload_n 1, 4)) rfl
theorem c350_4 : pm_code 350 4 = some (.invokevirtual 77, 7) := pm_of cl350_0 4 (q := (4, .invokevirtual 77, 7)) rfl
theorem c350_7 : pm_code 350 7 = some (.i2l, 8) := pm_of cl350_0 5 (q := (7, .i2l, 8)) rfl
theorem c350_8 : pm_code 350 8 = some (.lastore, 9) := pm_of cl350_0 6 (q := (8, .lastore, 9)) rfl
theorem c350_9 : pm_code 350 9 = some (.goto 6, 12) := pm_of cl350_0 7 (q := (9, .goto 6, 12)) rfl
theorem c350_12 : pm_code 350 12 = some (.astore_n 3, 13) := pm_of cl350_0 8 (q := (12, .astore_n 3, 13)) rfl
theorem c350_13 : pm_code 350 13 = some (.iconst 1, 14) := pm_of cl350_0 9 (q := (13, .iconst 1, 14)) rfl
theorem c350_14 : pm_code 350 14 = some (.ireturn, 15) := pm_of cl350_0 10 (q := (14, .ireturn, 15)) rfl
theorem c350_15 : pm_code 350 15 = some (.iconst 0, 16) := pm_of cl350_0 11 (q := (15, .iconst 0, 16)) rfl
theorem c350_16 : pm_code 350 16 = some (.ireturn, 17) := pm_of cl350_0 12 (q := (16, .ireturn, 17)) rfl
theorem k351 : pm_k 351 = 13 := by decide +kernel
theorem ml351 : pm_ml 351 = 5 := by decide +kernel
theorem rt351 : pm_rt 351 = (some .int) := by decide +kernel
theorem cl351_0 : ([(0, .aload_n 3, 1), (1, .iconst 0, 2), (2, .aload_n 0, 3), (3, .iload_n 1, 4), (4, .iload_n 2, 5), (5, .invokevirtual 80, 8), (8, .i2l, 9), (9, .lastore, 10), (10, .goto 11, 13), (13, .astore 4, 15), (15, .iconst 1, 16), (16, .ireturn, 17), (17, .astore 4, 19), (19, .iconst 2, 20), (20, .ireturn, 21), (21, .iconst 0, 22), (22, .ireturn, 23)] : List (Nat × Instr × Nat)).all (fun q => decide (pm_code 351 q.1 = some q.2)) = true := by decide +kernel
theorem c351_0 : pm_code 351 0 = some (.aload_n 3, 1) := pm_of cl351_0 0 (q := (0, .aload_n 3, 1)) rfl
theorem c351_1 : pm_code 351 1 = some (.iconst 0, 2) := pm_of cl351_0 1 (q := (1, .iconst 0, 2)) rfl
theorem c351_2 : pm_code 351 2 = some (.aload_n 0, 3) := pm_of cl351_0 2 (q := (2, .aload_n 0, 3)) rfl
theorem c351_3 : pm_code 351 3 = some (.iload_n 1, 4) := pm_of cl351_0 3 (q := (3, .iload_n 1, 4)) rfl
theorem c351_4 : pm_code 351 4 = some (.iload_n 2, 5) := pm_of cl351_0 4 (q := (4, .iload_n 2, 5)) rfl
theorem c351_5 : pm_code 351 5 = some (.invokevirtual 80, 8) := pm_of cl351_0 5 (q := (5, .invokevirtual 80, 8)) rfl
theorem c351_8 : pm_code 351 8 = some (.i2l, 9) := pm_of cl351_0 6 (q := (8, .i2l, 9)) rfl
theorem c351_9 : pm_code 351 9 = some (.lastore, 10) := pm_of cl351_0 7 (q := (9, .lastore, 10)) rfl
theorem c351_10 : pm_code 351 10 = some (.goto 11, 13) := pm_of cl351_0 8 (q := (10, .goto 11, 13)) rfl
theorem c351_13 : pm_code 351 13 = some (.astore 4, 15) := pm_of cl351_0 9 (q := (13, .astore 4, 15)) rfl
theorem c351_15 : pm_code 351 15 = some (.iconst 1, 16) := pm_of cl351_0 10 (q := (15, .iconst 1, 16)) rfl
theorem c351_16 : pm_code 351 16 = some (.ireturn, 17) := pm_of cl351_0 11 (q := (16, .ireturn, 17)) rfl
theorem c351_17 : pm_code 351 17 = some (.astore 4, 19) := pm_of cl351_0 12 (q := (17, .astore 4, 19)) rfl
theorem c351_19 : pm_code 351 19 = some (.iconst 2, 20) := pm_of cl351_0 13 (q := (19, .iconst 2, 20)) rfl
theorem c351_20 : pm_code 351 20 = some (.ireturn, 21) := pm_of cl351_0 14 (q := (20, .ireturn, 21)) rfl
theorem c351_21 : pm_code 351 21 = some (.iconst 0, 22) := pm_of cl351_0 15 (q := (21, .iconst 0, 22)) rfl
theorem c351_22 : pm_code 351 22 = some (.ireturn, 23) := pm_of cl351_0 16 (q := (22, .ireturn, 23)) rfl
theorem k352 : pm_k 352 = 13 := by decide +kernel
theorem ml352 : pm_ml 352 = 5 := by decide +kernel
theorem rt352 : pm_rt 352 = (some .int) := by decide +kernel
theorem cl352_0 : ([(0, .aload_n 3, 1), (1, .iconst 0, 2), (2, .aload_n 0, 3), (3, .iload_n 1, 4), (4, .iload_n 2, 5), (5, .invokevirtual 83, 8), (8, .i2l, 9), (9, .lastore, 10), (10, .goto 11, 13), (13, .astore 4, 15), (15, .iconst 1, 16), (16, .ireturn, 17), (17, .astore 4, 19), (19, .iconst 2, 20), (20, .ireturn, 21), (21, .iconst 0, 22), (22, .ireturn, 23)] : List (Nat × Instr × Nat)).all (fun q => decide (pm_code 352 q.1 = some q.2)) = true := by decide +kernel
theorem c352_0 : pm_code 352 0 = some (.aload_n 3, 1) := pm_of cl352_0 0 (q := (0, .aload_n 3, 1)) rfl
theorem c352_1 : pm_code 352 1 = some (.iconst 0, 2) := pm_of cl352_0 1 (q := (1, .iconst 0, 2)) rfl
theorem c352_2 : pm_code 352 2 = some (.aload_n 0, 3) := pm_of cl352_0 2 (q := (2, .aload_n 0, 3)) rfl
theorem c352_3 : pm_code 352 3 = some (.iload_n 1, 4) := pm_of cl352_0 3 (q := (3, .iload_n 1, 4)) rfl
theorem c352_4 : pm_code 352 4 = some (.iload_n 2, 5) := pm_of cl352_0 4 (q := (4, .iload_n 2, 5)) rfl
theorem c352_5 : pm_code 352 5 = some (.invokevirtual 83, 8) := pm_of cl352_0 5 (q := (5, .invokevirtual 83, 8)) rfl
theorem c352_8 : pm_code 352 8 = some (.i2l, 9) := pm_of cl352_0 6 (q := (8, .i2l, 9)) rfl
theorem c352_9 : pm_code 352 9 = some (.lastore, 10) := pm_of cl352_0 7 (q := (9, .lastore, 10)) rfl
theorem c352_10 : pm_code 352 10 = some (.goto 11, 13) := pm_of cl352_0 8 (q := (10, .goto 11, 13)) rfl
theorem c352_13 : pm_code 352 13 = some (.astore 4, 15) := pm_of cl352_0 9 (q := (13, .astore 4, 15)) rfl
theorem c352_15 : pm_code 352 15 = some (.iconst 1, 16) := pm_of cl352_0 10 (q := (15, .iconst 1, 16)) rfl
theorem c352_16 : pm_code 352 16 = some (.ireturn, 17) := pm_of cl352_0 11 (q := (16, .ireturn, 17)) rfl
theorem c352_17 : pm_code 352 17 = some (.astore 4, 19) := pm_of cl352_0 12 (q := (17, .astore 4, 19)) rfl
theorem c352_19 : pm_code 352 19 = some (.iconst 2, 20) := pm_of cl352_0 13 (q := (19, .iconst 2, 20)) rfl
theorem c352_20 : pm_code 352 20 = some (.ireturn, 21) := pm_of cl352_0 14 (q := (20, .ireturn, 21)) rfl
theorem c352_21 : pm_code 352 21 = some (.iconst 0, 22) := pm_of cl352_0 15 (q := (21, .iconst 0, 22)) rfl
theorem c352_22 : pm_code 352 22 = some (.ireturn, 23) := pm_of cl352_0 16 (q := (22, .ireturn, 23)) rfl
theorem k353 : pm_k 353 = 13 := by decide +kernel
theorem ml353 : pm_ml 353 = 6 := by decide +kernel
theorem rt353 : pm_rt 353 = (some .int) := by decide +kernel
theorem cl353_0 : ([(0, .aload 4, 2), (2, .iconst 0, 3), (3, .aload_n 0, 4), (4, .iload_n 1, 5), (5, .iload_n 2, 6), (6, .iload_n 3, 7), (7, .invokevirtual 86, 10), (10, .lastore, 11), (11, .goto 7, 14), (14, .astore 5, 16), (16, .iconst 1, 17), (17, .ireturn, 18), (18, .iconst 0, 19), (19, .ireturn, 20)] : List (Nat × Instr × Nat)).all (fun q => decide (pm_code 353 q.1 = some q.2)) = true := by decide +kernel
theorem c353_0 : pm_code 353 0 = some (.aload 4, 2) := pm_of cl353_0 0 (q := (0, .aload 4, 2)) rfl
theorem c353_2 : pm_code 353 2 = some (.iconst 0, 3) := pm_of cl353_0 1 (q := (2, .iconst 0, 3)) rfl
theorem c353_3 : pm_code 353 3 = some (.aload_n 0, 4) := pm_of cl353_0 2 (q := (3, .aload_n 0, 4)) rfl
theorem c353_4 : pm_code 353 4 = some (.iload_n 1, 5) := pm_of cl353_0 3 (q := (4, .iload_n 1, 5)) rfl
theorem c353_5 : pm_code 353 5 = some (.iload_n 2, 6) := pm_of cl353_0 4 (q := (5, .iload_n 2, 6)) rfl
theorem c353_6 : pm_code 353 6 = some (.iload_n 3, 7) := pm_of cl353_0 5 (q := (6, .iload_n 3, 7)) rfl
theorem c353_7 : pm_code 353 7 = some (.invokevirtual 86, 10) := pm_of cl353_0 6 (q := (7, .invokevirtual 86, 10)) rfl
theorem c353_10 : pm_code 353 10 = some (.lastore, 11) := pm_of cl353_0 7 (q := (10, .lastore, 11)) rfl
theorem c353_11 : pm_code 353 11 = some (.goto 7, 14) := pm_of cl353_0 8 (q := (11, .goto 7, 14)) rfl
theorem c353_14 : pm_code 353 14 = some (.astore 5, 16) := pm_of cl353_0 9 (q := (14, .astore 5, 16)) rfl
theorem c353_16 : pm_code 353 16 = some (.iconst 1, 17) := pm_of cl353_0 10 (q := (16, .iconst 1, 17)) rfl
theorem c353_17 : pm_code 353 17 = some (.ireturn, 18) := pm_of cl353_0 11 (q := (17, .ireturn, 18)) rfl
theorem c353_18 : pm_code 353 18 = some (.iconst 0, 19) := pm_of cl353_0 12 (q := (18, .iconst 0, 19)) rfl
theorem c353_19 : pm_code 353 19 = some (.ireturn, 20) := pm_of cl353_0 13 (q := (19, .ireturn, 20)) rfl
theorem k354 : pm_k 354 = 13 := by decide +kernel
theorem ml354 : pm_ml 354 = 5 := by decide +kernel
theorem rt354 : pm_rt 354 = (some .int) := by decide +kernel
theorem cl354_0 : ([(0, .aload_n 3, 1), (1, .iconst 0, 2), (2, .aload_n 0, 3), (3, .iload_n 1, 4), (4, .iload_n 2, 5), (5, .invokevirtual 90, 8), (8, .i2l, 9), (9, .lastore, 10), (10, .goto 7, 13), (13, .astore 4, 15), (15, .iconst 1, 16), (16, .ireturn, 17), (17, .iconst 0, 18), (18, .ireturn, 19)] : List (Nat × Instr × Nat)).all (fun q => decide (pm_code 354 q.1 = some q.2)) = true := by decide +kernel
theorem c354_0 : pm_code 354 0 = some (.aload_n 3, 1) := pm_of cl354_0 0 (q := (0, .aload_n 3, 1)) rfl
theorem c354_1 : pm_code 354 1 = some (.iconst 0, 2) := pm_of cl354_0 1 (q := (1, .iconst 0, 2)) rfl
theorem c354_2 : pm_code 354 2 = some (.aload_n 0, 3) := pm_of cl354_0 2 (q := (2, .aload_n 0, 3)) rfl
theorem c354_3 : pm_code 354 3 = some (.iload_n 1, 4) := pm_of cl354_0 3 (q := (3, .iload_n 1, 4)) rfl
theorem c354_4 : pm_code 354 4 = some (.iload_n 2, 5) := pm_of cl354_0 4 (q := (4, .iload_n 2, 5)) rfl
theorem c354_5 : pm_code 354 5 = some (.invokevirtual 90, 8) := pm_of cl354_0 5 (q := (5, .invokevirtual 90, 8)) rfl
theorem c354_8 : pm_code 354 8 = some (.i2l, 9) := pm_of cl354_0 6 (q := (8, .i2l, 9)) rfl
theorem c354_9 : pm_code 354 9 = some (.lastore, 10) := pm_of cl354_0 7 (q := (9, .lastore, 10)) rfl
theorem c354_10 : pm_code 354 10 = some (.goto 7, 13) := pm_of cl354_0 8 (q := (10, .goto 7, 13)) rfl
theorem c354_13 : pm_code 354 13 = some (.astore 4, 15) := pm_of cl354_0 9 (q := (13, .astore 4, 15)) rfl
theorem c354_15 : pm_code 354 15 = some (.iconst 1, 16) := pm_of cl354_0 10 (q := (15, .iconst 1, 16)) rfl
theorem c354_16 : pm_code 354 16 = some (.ireturn, 17) := pm_of cl354_0 11 (q := (16, .ireturn, 17)) rfl
theorem c354_17 : pm_code 354 17 = some (.iconst 0, 18) := pm_of cl354_0 12 (q := (17, .iconst 0, 18)) rfl
theorem c354_18 : pm_code 354 18 = some (.ireturn, 19) := pm_of cl354_0 13 (q := (18, .ireturn, 19)) rfl
theorem k355 : pm_k 355 = 13 := by decide +kernel
theorem ml355 : pm_ml 355 = 6 := by decide +kernel
theorem rt355 : pm_rt 355 = (some .int) := by decide +kernel
theorem cl355_0 : ([(0, .aload 4, 2), (2, .iconst 0, 3), (3, .aload_n 0, 4), (4, .iload_n 1, 5), (5, .iload_n 2, 6), (6, .iload_n 3, 7), (7, .invokevirtual 93, 10), (10, .i2l, 11), (11, .lastore, 12), (12, .goto 7, 15), (15, .astore 5, 17), (17, .iconst 1, 18), (18, .ireturn, 19), (19, .iconst 0, 20), (20, .ireturn, 21)] : List (Nat × Instr × Nat)).all (fun q => decide (pm_code 355 q.1 = some q.2)) = true := by decide +kernel
theorem c355_0 : pm_code 355 0 = some (.aload 4, 2) := pm_of cl355_0 0 (q := (0, .aload 4, 2)) rfl
theorem c355_2 : pm_code 355 2 = some (.iconst 0, 3) := pm_of cl355_0 1 (q := (2, .iconst 0, 3)) rfl
theorem c355_3 : pm_code 355 3 = some (.aload_n 0, 4) := pm_of cl355_0 2 (q := (3, .aload_n 0, 4)) rfl
theorem c355_4 : pm_code 355 4 = some (.iload_n 1, 5) := pm_of cl355_0 3 (q := (4, .iload_n 1, 5)) rfl
theorem c355_5 : pm_code 355 5 = some (.iload_n 2, 6) := pm_of cl355_0 4 (q := (5, .iload_n 2, 6)) rfl
theorem c355_6 : pm_code 355 6 = some (.iload_n 3, 7) := pm_of cl355_0 5 (q := (6, .iload_n 3, 7)) rfl
theorem c355_7 : pm_code 355 7 = some (.invokevirtual 93, 10) := pm_of cl355_0 6 (q := (7, .invokevirtual 93, 10)) rfl
theorem c355_10 : pm_code 355 10 = some (.i2l, 11) := pm_of cl355_0 7 (q := (10, .i2l, 11)) rfl
theorem c355_11 : pm_code 355 11 = some (.lastore, 12) := pm_of cl355_0 8 (q := (11, .lastore, 12)) rfl
theorem c355_12 : pm_code 355 12 = some (.goto 7, 15) := pm_of cl355_0 9 (q := (12, .goto 7, 15)) rfl
theorem c355_15 : pm_code 355 15 = some (.astore 5, 17) := pm_of cl355_0 10 (q := (15, .astore 5, 17)) rfl
theorem c355_17 : pm_code 355 17 = some (.iconst 1, 18) := pm_of cl355_0 11 (q := (17, .iconst 1, 18)) rfl
theorem c355_18 : pm_code 355 18 = some (.ireturn, 19) := pm_of cl355_0 12 (q := (18, .ireturn, 19)) rfl
theorem c355_19 : pm_code 355 19 = some (.iconst 0, 20) := pm_of cl355_0 13 (q := (19, .iconst 0, 20)) rfl
theorem c355_20 : pm_code 355 20 = some (.ireturn, 21) := pm_of cl355_0 14 (q := (20, .ireturn, 21)) rfl
theorem k356 : pm_k 356 = 13 := by decide +kernel
theorem ml356 : pm_ml 356 = 5 := by decide +kernel
theorem rt356 : pm_rt 356 = (some .int) := by decide +kernel
theorem cl356_0 : ([(0, .aload_n 3, 1), (1, .iconst 0, 2), (2, .aload_n 0, 3), (3, .iload_n 1, 4), (4, .iload_n 2, 5), (5, .invokevirtual 97, 8), (8, .i2l, 9), (9, .lastore, 10), (10, .goto 11, 13), (13, .astore 4, 15), (15, .iconst 1, 16), (16, .ireturn, 17), (17, .astore 4, 19), (19, .iconst 2, 20), (20, .ireturn, 21), (21, .iconst 0, 22), (22, .ireturn, 23)] : List (Nat × Instr × Nat)).all (fun q => decide (pm_code 356 q.1 = some q.2)) = true := by decide +kernel
theorem c356_0 : pm_code 356 0 = some (.aload_n 3, 1) := pm_of cl356_0 0 (q := (0, .aload_n 3, 1)) rfl
theorem c356_1 : pm_code 356 1 = some (.iconst 0, 2) := pm_of cl356_0 1 (q := (1, .iconst 0, 2)) rfl
theorem c356_2 : pm_code 356 2 = some (.aload_n 0, 3) := pm_of cl356_0 2 (q := (2, .aload_n 0, 3)) rfl
theorem c356_3 : pm_code 356 3 = some (.iload_n 1, 4) := pm_of cl356_0 3 (q := (3, .iload_n 1, 4)) rfl
theorem c356_4 : pm_code 356 4 = some (.iload_n 2, 5) := pm_of cl356_0 4 (q := (4, .iload_n 2, 5)) rfl
theorem c356_5 : pm_code 356 5 = some (.invokevirtual 97, 8) := pm_of cl356_0 5 (q := (5, .invokevirtual 97, 8)) rfl
theorem c356_8 : pm_code 356 8 = some (.i2l, 9) := pm_of cl356_0 6 (q := (8, .i2l, 9)) rfl
theorem c356_9 : pm_code 356 9 = some (.lastore, 10) := pm_of cl356_0 7 (q := (9, .lastore, 10)) rfl
theorem c356_10 : pm_code 356 10 = some (.goto 11, 13) := pm_of cl356_0 8 (q := (10, .goto 11, 13)) rfl
theorem c356_13 : pm_code 356 13 = some (.astore 4, 15) := pm_of cl356_0 9 (q := (13, .astore 4, 15)) rfl
theorem c356_15 : pm_code 356 15 = some (.iconst 1, 16) := pm_of cl356_0 10 (q := (15, .iconst 1, 16)) rfl
theorem c356_16 : pm_code 356 16 = some (.ireturn, 17) := pm_of cl356_0 11 (q := (16, .ireturn, 17)) rfl
theorem c356_17 : pm_code 356 17 = some (.astore 4, 19) := pm_of cl356_0 12 (q := (17, .astore 4, 19)) rfl
theorem c356_19 : pm_code 356 19 = some (.iconst 2, 20) := pm_of cl356_0 13 (q := (19, .iconst 2, 20)) rfl
theorem c356_20 : pm_code 356 20 = some (.ireturn, 21) := pm_of cl356_0 14 (q := (20, .ireturn, 21)) rfl
theorem c356_21 : pm_code 356 21 = some (.iconst 0, 22) := pm_of cl356_0 15 (q := (21, .iconst 0, 22)) rfl
theorem c356_22 : pm_code 356 22 = some (.ireturn, 23) := pm_of cl356_0 16 (q := (22, .ireturn, 23)) rfl
theorem k357 : pm_k 357 = 13 := by decide +kernel
theorem ml357 : pm_ml 357 = 7 := by decide +kernel
theorem rt357 : pm_rt 357 = (some .int) := by decide +kernel
theorem cl357_0 : ([(0, .aload 5, 2), (2, .iconst 0, 3), (3, .aload_n 0, 4), (4, .iload_n 1, 5), (5, .iload_n 2, 6), (6, .iload_n 3, 7), (7, .iload 4, 9), (9, .invokevirtual 100, 12), (12, .i2l, 13), (13, .lastore, 14), (14, .goto 7, 17), (17, .astore 6, 19), (19, .iconst 1, 20), (20, .ireturn, 21), (21, .iconst 0, 22), (22, .ireturn, 23)] : List (Nat × Instr × Nat)).all (fun q => decide (pm_code 357 q.1 = some q.2)) = true := by decide +kernel
theorem c357_0 : pm_code 357 0 = some (.aload 5, 2) := pm_of cl357_0 0 (q := (0, .aload 5, 2)) rfl
theorem c357_2 : pm_code 357 2 = some (.iconst 0, 3) := pm_of cl357_0 1 (q := (2, .iconst 0, 3)) rfl
theorem c357_3 : pm_code 357 3 = some (.aload_n 0, 4) := pm_of cl357_0 2 (q := (3, .aload_n 0, 4)) rfl
theorem c357_4 : pm_code 357 4 = some (.iload_n 1, 5) := pm_of cl357_0 3 (q := (4, .iload_n 1, 5)) rfl
theorem c357_5 : pm_code 357 5 = some (.iload_n 2, 6) := pm_of cl357_0 4 (q := (5, .iload_n 2, 6)) rfl
theorem c357_6 : pm_code 357 6 = some (.iload_n 3, 7) := pm_of cl357_0 5 (q := (6, .iload_n 3, 7)) rfl
theorem c357_7 : pm_code 357 7 = some (.iload 4, 9) := pm_of cl357_0 6 (q := (7, .iload 4, 9)) rfl
theorem c357_9 : pm_code 357 9 = some (.invokevirtual 100, 12) := pm_of cl357_0 7 (q := (9, .invokevirtual 100, 12)) rfl
theorem c357_12 : pm_code 357 12 = some (.i2l, 13) := pm_of cl357_0 8 (q := (12, .i2l, 13)) rfl
theorem c357_13 : pm_code 357 13 = some (.lastore, 14) := pm_of cl357_0 9 (q := (13, .lastore, 14)) rfl
theorem c357_14 : pm_code 357 14 = some (.goto 7, 17) := pm_of cl357_0 10 (q := (14, .goto 7, 17)) rfl
theorem c357_17 : pm_code 357 17 = some (.astore 6, 19) := pm_of cl357_0 11 (q := (17, .astore 6, 19)) rfl
theorem c357_19 : pm_code 357 19 = some (.iconst 1, 20) := pm_of cl357_0 12 (q := (19, .iconst 1, 20)) rfl
theorem c357_20 : pm_code 357 20 = some (.ireturn, 21) := pm_of cl357_0 13 (q := (20, .ireturn, 21)) rfl
theorem c357_21 : pm_code 357 21 = some (.iconst 0, 22) := pm_of cl357_0 14 (q := (21, .iconst 0, 22)) rfl
theorem c357_22 : pm_code 357 22 = some (.ireturn, 23) := pm_of cl357_0 15 (q := (22, .ireturn, 23)) rfl
theorem k358 : pm_k 358 = 13 := by decide +kernel
theorem ml358 : pm_ml 358 = 6 := by decide +kernel
theorem rt358 : pm_rt 358 = (some .int) := by decide +kernel
theorem cl358_0 : ([(0, .aload 4, 2), (2, .iconst 0, 3), (3, .aload_n 0, 4), (4, .iload_n 1, 5), (5, .iload_n 2, 6), (6, .iload_n 3, 7), (7, .invokevirtual 104, 10), (10, .i2l, 11), (11, .lastore, 12), (12, .goto 7, 15), (15, .astore 5, 17), (17, .iconst 1, 18), (18, .ireturn, 19), (19, .iconst 0, 20), (20, .ireturn, 21)] : List (Nat × Instr × Nat)).all (fun q => decide (pm_code 358 q.1 = some q.2)) = true := by decide +kernel
theorem c358_0 : pm_code 358 0 = some (.aload 4, 2) := pm_of cl358_0 0 (q := (0, .aload 4, 2)) rfl
theorem c358_2 : pm_code 358 2 = some (.iconst 0, 3) := pm_of cl358_0 1 (q := (2, .iconst 0, 3)) rfl
theorem c358_3 : pm_code 358 3 = some (.aload_n 0, 4) := pm_of cl358_0 2 (q := (3, .aload_n 0, 4)) rfl
theorem c358_4 : pm_code 358 4 = some (.iload_n 1, 5) := pm_of cl358_0 3 (q := (4, .iload_n 1, 5)) rfl
theorem c358_5 : pm_code 358 5 = some (.iload_n 2, 6) := pm_of cl358_0 4 (q := (5, .iload_n 2, 6)) rfl
theorem c358_6 : pm_code 358 6 = some (.iload_n 3, 7) := pm_of cl358_0 5 (q := (6, .iload_n 3, 7)) rfl
theorem c358_7 : pm_code 358 7 = some (.invokevirtual 104, 10) := pm_of cl358_0 6 (q := (7, .invokevirtual 104, 10)) rfl
theorem c358_10 : pm_code 358 10 = some (.i2l, 11) := pm_of cl358_0 7 (q := (10, .i2l, 11)) rfl
theorem c358_11 : pm_code 358 11 = some (.lastore, 12) := pm_of cl358_0 8 (q := (11, .lastore, 12)) rfl
theorem c358_12 : pm_code 358 12 = some (.goto 7, 15) := pm_of cl358_0 9 (q := (12, .goto 7, 15)) rfl
theorem c358_15 : pm_code 358 15 = some (.astore 5, 17) := pm_of cl358_0 10 (q := (15, .astore 5, 17)) rfl
theorem c358_17 : pm_code 358 17 = some (.iconst 1, 18) := pm_of cl358_0 11 (q := (17, .iconst 1, 18)) rfl
theorem c358_18 : pm_code 358 18 = some (.ireturn, 19) := pm_of cl358_0 12 (q := (18, .ireturn, 19)) rfl
theorem c358_19 : pm_code 358 19 = some (.iconst 0, 20) := pm_of cl358_0 13 (q := (19, .iconst 0, 20)) rfl
theorem c358_20 : pm_code 358 20 = some (.ireturn, 21) := pm_of cl358_0 14 (q := (20, .ireturn, 21)) rfl
theorem k359 : pm_k 359 = 13 := by decide +kernel
theorem ml359 : pm_ml 359 = 8 := by decide +kernel
theorem rt359 : pm_rt 359 = (some .int) := by decide +kernel
theorem cl359_0 : ([(0, .aload 6, 2), (2, .iconst 0, 3), (3, .aload_n 0, 4), (4, .iload_n 1, 5), (5, .iload_n 2, 6), (6, .iload_n 3, 7), (7, .iload 4, 9), (9, .iload 5, 11), (11, .invokevirtual 107, 14), (14, .i2l, 15), (15, .lastore, 16), (16, .goto 7, 19), (19, .astore 7, 21), (21, .iconst 1, 22), (22, .ireturn, 23), (23, .iconst 0, 24), (24, .ireturn, 25)] : List (Nat × Instr × Nat)).all (fun q => decide (pm_code 359 q.1 = some q.2)) = true := by decide +kernel
theorem c359_0 : pm_code 359 0 = some (.aload 6, 2) := pm_of cl359_0 0 (q := (0, .aload 6, 2)) rfl
theorem c359_2 : pm_code 359 2 = some (.iconst 0, 3) := pm_of cl359_0 1 (q := (2, .iconst 0, 3)) rfl
theorem c359_3 : pm_code 359 3 = some (.aload_n 0, 4) := pm_of cl359_0 2 (q := (3, .aload_n 0, 4)) rfl
theorem c359_4 : pm_code 359 4 = some (.iload_n 1, 5) := pm_of cl359_0 3 (q := (4, .iload_n 1, 5)) rfl
theorem c359_5 : pm_code 359 5 = some (.iload_n 2, 6) := pm_of cl359_0 4 (q := (5, .iload_n 2, 6)) rfl
theorem c359_6 : pm_code 359 6 = some (.iload_n 3, 7) := pm_of cl359_0 5 (q := (6, .iload_n 3, 7)) rfl
theorem c359_7 : pm_code 359 7 = some (.iload 4, 9) := pm_of cl359_0 6 (q := (7, .iload 4, 9)) rfl
theorem c359_9 : pm_code 359 9 = some (.iload 5, 11) := pm_of cl359_0 7 (q := (9, .iload 5, 11)) rfl
theorem c359_11 : pm_code 359 11 = some (.invokevirtual 107, 14) := pm_of cl359_0 8 (q := (11, .invokevirtual 107, 14)) rfl
theorem c359_14 : pm_code 359 14 = some (.i2l, 15) := pm_of cl359_0 9 (q := (14, .i2l, 15)) rfl
theorem c359_15 : pm_code 359 15 = some (.lastore, 16) := pm_of cl359_0 10 (q := (15, .lastore, 16)) rfl
theorem c359_16 : pm_code 359 16 = some (.goto 7, 19) := pm_of cl359_0 11 (q := (16, .goto 7, 19)) rfl
theorem c359_19 : pm_code 359 19 = some (.astore 7, 21) := pm_of cl359_0 12 (q := (19, .astore 7, 21)) rfl
theorem c359_21 : pm_code 359 21 = some (.iconst 1, 22) := pm_of cl359_0 13 (q := (21, .iconst 1, 22)) rfl
theorem c359_22 : pm_code 359 22 = some (.ireturn, 23) := pm_of cl359_0 14 (q := (22, .ireturn, 23)) rfl
theorem c359_23 : pm_code 359 23 = some (.iconst 0, 24) := pm_of cl359_0 15 (q := (23, .iconst 0, 24)) rfl
theorem c359_24 : pm_code 359 24 = some (.ireturn, 25) := pm_of cl359_0 16 (q := (24, .ireturn, 25)) rfl
theorem k360 : pm_k 360 = 13 := by decide +kernel
theorem ml360 : pm_ml 360 = 9 := by decide +kernel
theorem rt360 : pm_rt 360 = (some .int) := by decide +kernel
theorem cl360_0 : ([(0, .aload 7, 2), (2, .iconst 0, 3), (3, .aload_n 0, 4), (4, .iload_n 1, 5), (5, .iload_n 2, 6), (6, .iload_n 3, 7), (7, .iload 4, 9), (9, .iload 5, 11), (11, .iload 6, 13), (13, .invokevirtual 111, 16), (16, .i2l, 17), (17, .lastore, 18), (18, .goto 7, 21), (21, .astore 8, 23), (23, .iconst 1, 24), (24, .ireturn, 25), (25, .iconst 0, 26), (26, .ireturn, 27)] : List (Nat × Instr × Nat)).all (fun q => decide (pm_code 360 q.1 = some q.2)) = true := by decide +kernel
theorem c360_0 : pm_code 360 0 = some (.aload 7, 2) := pm_of cl360_0 0 (q := (0, .aload 7, 2)) rfl
theorem c360_2 : pm_code 360 2 = some (.iconst 0, 3) := pm_of cl360_0 1 (q := (2, .iconst 0, 3)) rfl
theorem c360_3 : pm_code 360 3 = some (.aload_n 0, 4) := pm_of cl360_0 2 (q := (3, .aload_n 0, 4)) rfl
theorem c360_4 : pm_code 360 4 = some (.iload_n 1, 5) := pm_of cl360_0 3 (q := (4, .iload_n 1, 5)) rfl
theorem c360_5 : pm_code 360 5 = some (.iload_n 2, 6) := pm_of cl360_0 4 (q := (5, .iload_n 2, 6)) rfl
theorem c360_6 : pm_code 360 6 = some (.iload_n 3, 7) := pm_of cl360_0 5 (q := (6, .iload_n 3, 7)) rfl
theorem c360_7 : pm_code 360 7 = some (.iload 4, 9) := pm_of cl360_0 6 (q := (7, .iload 4, 9)) rfl
theorem c360_9 : pm_code 360 9 = some (.iload 5, 11) := pm_of cl360_0 7 (q := (9, .iload 5, 11)) rfl
theorem c360_11 : pm_code 360 11 = some (.iload 6, 13) := pm_of cl360_0 8 (q := (11, .iload 6, 13)) rfl
theorem c360_13 : pm_code 360 13 = some (.invokevirtual 111, 16) := pm_of cl360_0 9 (q := (13, .invokevirtual 111, 16)) rfl
theorem c360_16 : pm_code 360 16 = some (.i2l, 17) := pm_of cl360_0 10 (q := (16, .i2l, 17)) rfl
theorem c360_17 : pm_code 360 17 = some (.lastore, 18) := pm_of cl360_0 11 (q := (17, .lastore, 18)) rfl
theorem c360_18 : pm_code 360 18 = some (.goto 7, 21) := pm_of cl360_0 12 (q := (18, .goto 7, 21)) rfl
theorem c360_21 : pm_code 360 21 = some (.astore 8, 23) := pm_of cl360_0 13 (q := (21, .astore 8, 23)) rfl
theorem c360_23 : pm_code 360 23 = some (.iconst 1, 24) := pm_of cl360_0 14 (q := (23, .iconst 1, 24)) rfl
theorem c360_24 : pm_code 360 24 = some (.ireturn, 25) := pm_of cl360_0 15 (q := (24, .ireturn, 25)) rfl
theorem c360_25 : pm_code 360 25 = some (.iconst 0, 26) := pm_of cl360_0 16 (q := (25, .iconst 0, 26)) rfl
theorem c360_26 : pm_code 360 26 = some (.ireturn, 27) := pm_of cl360_0 17 (q := (26, .ireturn, 27)) rfl
