/-! WHAT STANDS AT EVERY PLACE, ON -/
theorem k230 : pm_k 230 = 12 := by decide +kernel
theorem ml230 : pm_ml 230 = 1 := by decide +kernel
theorem rt230 : pm_rt 230 = (some .boolean) := by decide +kernel
theorem hh230 : pm_hh 230 = [] := by decide +kernel
theorem rc230 : pm_cl 12 = (pm_y 230).cls := by decide +kernel
theorem cl230_0 : ([(0, .iload_n 0, 1), (1, .ldc 194, 3), (3, .invokestatic 195, 6), (6, .if_icmp .eq 30, 9), (9, .iload_n 0, 10), (10, .ldc 203, 12), (12, .invokestatic 195, 15), (15, .if_icmp .eq 21, 18), (18, .iload_n 0, 19), (19, .ldc 204, 21), (21, .invokestatic 195, 24), (24, .if_icmp .eq 12, 27), (27, .iload_n 0, 28), (28, .ldc 206, 30), (30, .invokestatic 195, 33), (33, .if_icmp .ne 7, 36), (36, .iconst 1, 37), (37, .goto 4, 40), (40, .iconst 0, 41), (41, .ireturn, 42)] : List (Nat × Instr × Nat)).all (fun q => decide (pm_code 230 q.1 = some q.2)) = true := by decide +kernel
theorem c230_0 : pm_code 230 0 = some (.iload_n 0, 1) := pm_of cl230_0 0 (q := (0, .iload_n 0, 1)) rfl
theorem c230_1 : pm_code 230 1 = some (.ldc 194, 3) := pm_of cl230_0 1 (q := (1, .ldc 194, 3)) rfl
theorem c230_3 : pm_code 230 3 = some (.invokestatic 195, 6) := pm_of cl230_0 2 (q := (3, .invokestatic 195, 6)) rfl
theorem c230_6 : pm_code 230 6 = some (.if_icmp .eq 30, 9) := pm_of cl230_0 3 (q := (6, .if_icmp .eq 30, 9)) rfl
theorem c230_9 : pm_code 230 9 = some (.iload_n 0, 10) := pm_of cl230_0 4 (q := (9, .iload_n 0, 10)) rfl
theorem c230_10 : pm_code 230 10 = some (.ldc 203, 12) := pm_of cl230_0 5 (q := (10, .ldc 203, 12)) rfl
theorem c230_12 : pm_code 230 12 = some (.invokestatic 195, 15) := pm_of cl230_0 6 (q := (12, .invokestatic 195, 15)) rfl
theorem c230_15 : pm_code 230 15 = some (.if_icmp .eq 21, 18) := pm_of cl230_0 7 (q := (15, .if_icmp .eq 21, 18)) rfl
theorem c230_18 : pm_code 230 18 = some (.iload_n 0, 19) := pm_of cl230_0 8 (q := (18, .iload_n 0, 19)) rfl
theorem c230_19 : pm_code 230 19 = some (.ldc 204, 21) := pm_of cl230_0 9 (q := (19, .ldc 204, 21)) rfl
theorem c230_21 : pm_code 230 21 = some (.invokestatic 195, 24) := pm_of cl230_0 10 (q := (21, .invokestatic 195, 24)) rfl
theorem c230_24 : pm_code 230 24 = some (.if_icmp .eq 12, 27) := pm_of cl230_0 11 (q := (24, .if_icmp .eq 12, 27)) rfl
theorem c230_27 : pm_code 230 27 = some (.iload_n 0, 28) := pm_of cl230_0 12 (q := (27, .iload_n 0, 28)) rfl
theorem c230_28 : pm_code 230 28 = some (.ldc 206, 30) := pm_of cl230_0 13 (q := (28, .ldc 206, 30)) rfl
theorem c230_30 : pm_code 230 30 = some (.invokestatic 195, 33) := pm_of cl230_0 14 (q := (30, .invokestatic 195, 33)) rfl
theorem c230_33 : pm_code 230 33 = some (.if_icmp .ne 7, 36) := pm_of cl230_0 15 (q := (33, .if_icmp .ne 7, 36)) rfl
theorem c230_36 : pm_code 230 36 = some (.iconst 1, 37) := pm_of cl230_0 16 (q := (36, .iconst 1, 37)) rfl
theorem c230_37 : pm_code 230 37 = some (.goto 4, 40) := pm_of cl230_0 17 (q := (37, .goto 4, 40)) rfl
theorem c230_40 : pm_code 230 40 = some (.iconst 0, 41) := pm_of cl230_0 18 (q := (40, .iconst 0, 41)) rfl
theorem c230_41 : pm_code 230 41 = some (.ireturn, 42) := pm_of cl230_0 19 (q := (41, .ireturn, 42)) rfl
theorem k231 : pm_k 231 = 12 := by decide +kernel
theorem ml231 : pm_ml 231 = 3 := by decide +kernel
theorem rt231 : pm_rt 231 = (some .int) := by decide +kernel
theorem hh231 : pm_hh 231 = [] := by decide +kernel
theorem rc231 : pm_cl 12 = (pm_y 231).cls := by decide +kernel
theorem cl231_0 : ([(0, .iconst 0, 1), (1, .istore_n 1, 2), (2, .iconst 0, 3), (3, .istore_n 2, 4), (4, .iload_n 2, 5), (5, .aload_n 0, 6), (6, .invokevirtual 134, 9), (9, .if_icmp .ge 22, 12), (12, .iload_n 1, 13), (13, .iconst 5, 14), (14, .ishl, 15), (15, .aload_n 0, 16), (16, .iload_n 2, 17), (17, .invokevirtual 139, 20), (20, .bipush 96, 22), (22, .isub, 23), (23, .ior, 24), (24, .istore_n 1, 25), (25, .iinc 2 1, 28), (28, .goto (-24), 31), (31, .iload_n 1, 32), (32, .ireturn, 33)] : List (Nat × Instr × Nat)).all (fun q => decide (pm_code 231 q.1 = some q.2)) = true := by decide +kernel
theorem c231_0 : pm_code 231 0 = some (.iconst 0, 1) := pm_of cl231_0 0 (q := (0, .iconst 0, 1)) rfl
theorem c231_1 : pm_code 231 1 = some (.istore_n 1, 2) := pm_of cl231_0 1 (q := (1, .istore_n 1, 2)) rfl
theorem c231_2 : pm_code 231 2 = some (.iconst 0, 3) := pm_of cl231_0 2 (q := (2, .iconst 0, 3)) rfl
theorem c231_3 : pm_code 231 3 = some (.istore_n 2, 4) := pm_of cl231_0 3 (q := (3, .istore_n 2, 4)) rfl
theorem c231_4 : pm_code 231 4 = some (.iload_n 2, 5) := pm_of cl231_0 4 (q := (4, .iload_n 2, 5)) rfl
theorem c231_5 : pm_code 231 5 = some (.aload_n 0, 6) := pm_of cl231_0 5 (q := (5, .aload_n 0, 6)) rfl
theorem c231_6 : pm_code 231 6 = some (.invokevirtual 134, 9) := pm_of cl231_0 6 (q := (6, .invokevirtual 134, 9)) rfl
theorem c231_9 : pm_code 231 9 = some (.if_icmp .ge 22, 12) := pm_of cl231_0 7 (q := (9, .if_icmp .ge 22, 12)) rfl
theorem c231_12 : pm_code 231 12 = some (.iload_n 1, 13) := pm_of cl231_0 8 (q := (12, .iload_n 1, 13)) rfl
theorem c231_13 : pm_code 231 13 = some (.iconst 5, 14) := pm_of cl231_0 9 (q := (13, .iconst 5, 14)) rfl
theorem c231_14 : pm_code 231 14 = some (.ishl, 15) := pm_of cl231_0 10 (q := (14, .ishl, 15)) rfl
theorem c231_15 : pm_code 231 15 = some (.aload_n 0, 16) := pm_of cl231_0 11 (q := (15, .aload_n 0, 16)) rfl
theorem c231_16 : pm_code 231 16 = some (.iload_n 2, 17) := pm_of cl231_0 12 (q := (16, .iload_n 2, 17)) rfl
theorem c231_17 : pm_code 231 17 = some (.invokevirtual 139, 20) := pm_of cl231_0 13 (q := (17, .invokevirtual 139, 20)) rfl
theorem c231_20 : pm_code 231 20 = some (.bipush 96, 22) := pm_of cl231_0 14 (q := (20, .bipush 96, 22)) rfl
theorem c231_22 : pm_code 231 22 = some (.isub, 23) := pm_of cl231_0 15 (q := (22, .isub, 23)) rfl
theorem c231_23 : pm_code 231 23 = some (.ior, 24) := pm_of cl231_0 16 (q := (23, .ior, 24)) rfl
theorem c231_24 : pm_code 231 24 = some (.istore_n 1, 25) := pm_of cl231_0 17 (q := (24, .istore_n 1, 25)) rfl
theorem c231_25 : pm_code 231 25 = some (.iinc 2 1, 28) := pm_of cl231_0 18 (q := (25, .iinc 2 1, 28)) rfl
theorem c231_28 : pm_code 231 28 = some (.goto (-24), 31) := pm_of cl231_0 19 (q := (28, .goto (-24), 31)) rfl
theorem c231_31 : pm_code 231 31 = some (.iload_n 1, 32) := pm_of cl231_0 20 (q := (31, .iload_n 1, 32)) rfl
theorem c231_32 : pm_code 231 32 = some (.ireturn, 33) := pm_of cl231_0 21 (q := (32, .ireturn, 33)) rfl
theorem k232 : pm_k 232 = 12 := by decide +kernel
theorem ml232 : pm_ml 232 = 3 := by decide +kernel
theorem rt232 : pm_rt 232 = none := by decide +kernel
theorem hh232 : pm_hh 232 = [] := by decide +kernel
theorem rc232 : pm_cl 12 = (pm_y 232).cls := by decide +kernel
theorem cl232_0 : ([(0, .aload_n 0, 1), (1, .getfield 114, 4), (4, .iconst (-1), 5), (5, .if_icmp .eq 4, 8), (8, .return_, 9), (9, .aload_n 0, 10), (10, .iload_n 2, 11), (11, .putfield 114, 14), (14, .aload_n 0, 15), (15, .iload_n 1, 16), (16, .putfield 117, 19), (19, .return_, 20)] : List (Nat × Instr × Nat)).all (fun q => decide (pm_code 232 q.1 = some q.2)) = true := by decide +kernel
theorem c232_0 : pm_code 232 0 = some (.aload_n 0, 1) := pm_of cl232_0 0 (q := (0, .aload_n 0, 1)) rfl
theorem c232_1 : pm_code 232 1 = some (.getfield 114, 4) := pm_of cl232_0 1 (q := (1, .getfield 114, 4)) rfl
theorem c232_4 : pm_code 232 4 = some (.iconst (-1), 5) := pm_of cl232_0 2 (q := (4, .iconst (-1), 5)) rfl
theorem c232_5 : pm_code 232 5 = some (.if_icmp .eq 4, 8) := pm_of cl232_0 3 (q := (5, .if_icmp .eq 4, 8)) rfl
theorem c232_8 : pm_code 232 8 = some (.return_, 9) := pm_of cl232_0 4 (q := (8, .return_, 9)) rfl
theorem c232_9 : pm_code 232 9 = some (.aload_n 0, 10) := pm_of cl232_0 5 (q := (9, .aload_n 0, 10)) rfl
theorem c232_10 : pm_code 232 10 = some (.iload_n 2, 11) := pm_of cl232_0 6 (q := (10, .iload_n 2, 11)) rfl
theorem c232_11 : pm_code 232 11 = some (.putfield 114, 14) := pm_of cl232_0 7 (q := (11, .putfield 114, 14)) rfl
theorem c232_14 : pm_code 232 14 = some (.aload_n 0, 15) := pm_of cl232_0 8 (q := (14, .aload_n 0, 15)) rfl
theorem c232_15 : pm_code 232 15 = some (.iload_n 1, 16) := pm_of cl232_0 9 (q := (15, .iload_n 1, 16)) rfl
theorem c232_16 : pm_code 232 16 = some (.putfield 117, 19) := pm_of cl232_0 10 (q := (16, .putfield 117, 19)) rfl
theorem c232_19 : pm_code 232 19 = some (.return_, 20) := pm_of cl232_0 11 (q := (19, .return_, 20)) rfl
theorem k233 : pm_k 233 = 12 := by decide +kernel
theorem ml233 : pm_ml 233 = 1 := by decide +kernel
theorem rt233 : pm_rt 233 = none := by decide +kernel
theorem hh233 : pm_hh 233 = [] := by decide +kernel
theorem rc233 : pm_cl 12 = (pm_y 233).cls := by decide +kernel
theorem cl233_0 : ([(0, .aload_n 0, 1), (1, .getfield 120, 4), (4, .aload_n 0, 5), (5, .getfield 123, 8), (8, .if_icmp .ge 31, 11), (11, .aload_n 0, 12), (12, .getfield 20, 15), (15, .aload_n 0, 16), (16, .getfield 120, 19), (19, .iaload, 20), (20, .invokestatic 130, 23), (23, .ifCond .eq 16, 26), (26, .aload_n 0, 27), (27, .dup, 28), (28, .getfield 120, 31), (31, .iconst 1, 32), (32, .iadd, 33), (33, .putfield 120, 36), (36, .goto (-36), 39), (39, .return_, 40)] : List (Nat × Instr × Nat)).all (fun q => decide (pm_code 233 q.1 = some q.2)) = true := by decide +kernel
theorem c233_0 : pm_code 233 0 = some (.aload_n 0, 1) := pm_of cl233_0 0 (q := (0, .aload_n 0, 1)) rfl
theorem c233_1 : pm_code 233 1 = some (.getfield 120, 4) := pm_of cl233_0 1 (q := (1, .getfield 120, 4)) rfl
theorem c233_4 : pm_code 233 4 = some (.aload_n 0, 5) := pm_of cl233_0 2 (q := (4, .aload_n 0, 5)) rfl
theorem c233_5 : pm_code 233 5 = some (.getfield 123, 8) := pm_of cl233_0 3 (q := (5, .getfield 123, 8)) rfl
theorem c233_8 : pm_code 233 8 = some (.if_icmp .ge 31, 11) := pm_of cl233_0 4 (q := (8, .if_icmp .ge 31, 11)) rfl
theorem c233_11 : pm_code 233 11 = some (.aload_n 0, 12) := pm_of cl233_0 5 (q := (11, .aload_n 0, 12)) rfl
theorem c233_12 : pm_code 233 12 = some (.getfield 20, 15) := pm_of cl233_0 6 (q := (12, .getfield 20, 15)) rfl
theorem c233_15 : pm_code 233 15 = some (.aload_n 0, 16) := pm_of cl233_0 7 (q := (15, .aload_n 0, 16)) rfl
theorem c233_16 : pm_code 233 16 = some (.getfield 120, 19) := pm_of cl233_0 8 (q := (16, .getfield 120, 19)) rfl
theorem c233_19 : pm_code 233 19 = some (.iaload, 20) := pm_of cl233_0 9 (q := (19, .iaload, 20)) rfl
theorem c233_20 : pm_code 233 20 = some (.invokestatic 130, 23) := pm_of cl233_0 10 (q := (20, .invokestatic 130, 23)) rfl
theorem c233_23 : pm_code 233 23 = some (.ifCond .eq 16, 26) := pm_of cl233_0 11 (q := (23, .ifCond .eq 16, 26)) rfl
theorem c233_26 : pm_code 233 26 = some (.aload_n 0, 27) := pm_of cl233_0 12 (q := (26, .aload_n 0, 27)) rfl
theorem c233_27 : pm_code 233 27 = some (.dup, 28) := pm_of cl233_0 13 (q := (27, .dup, 28)) rfl
theorem c233_28 : pm_code 233 28 = some (.getfield 120, 31) := pm_of cl233_0 14 (q := (28, .getfield 120, 31)) rfl
theorem c233_31 : pm_code 233 31 = some (.iconst 1, 32) := pm_of cl233_0 15 (q := (31, .iconst 1, 32)) rfl
theorem c233_32 : pm_code 233 32 = some (.iadd, 33) := pm_of cl233_0 16 (q := (32, .iadd, 33)) rfl
theorem c233_33 : pm_code 233 33 = some (.putfield 120, 36) := pm_of cl233_0 17 (q := (33, .putfield 120, 36)) rfl
theorem c233_36 : pm_code 233 36 = some (.goto (-36), 39) := pm_of cl233_0 18 (q := (36, .goto (-36), 39)) rfl
theorem c233_39 : pm_code 233 39 = some (.return_, 40) := pm_of cl233_0 19 (q := (39, .return_, 40)) rfl
theorem k234 : pm_k 234 = 12 := by decide +kernel
theorem ml234 : pm_ml 234 = 3 := by decide +kernel
theorem rt234 : pm_rt 234 = none := by decide +kernel
theorem hh234 : pm_hh 234 = [] := by decide +kernel
theorem rc234 : pm_cl 12 = (pm_y 234).cls := by decide +kernel
theorem cl234_0 : ([(0, .aload_n 0, 1), (1, .iconst 0, 2), (2, .aload_n 0, 3), (3, .getfield 157, 6), (6, .iconst 1, 7), (7, .isub, 8), (8, .invokevirtual 199, 11), (11, .istore_n 1, 12), (12, .aload_n 0, 13), (13, .iconst 0, 14), (14, .sipush 999, 17), (17, .invokevirtual 199, 20), (20, .istore_n 2, 21), (21, .aload_n 0, 22), (22, .invokevirtual 143, 25), (25, .ifCond .eq 14, 28), (28, .aload_n 0, 29), (29, .getfield 23, 32), (32, .iconst 4, 33), (33, .iload_n 1, 34), (34, .imul, 35), (35, .iconst 3, 36), (36, .iadd, 37), (37, .iload_n 2, 38), (38, .iastore, 39), (39, .return_, 40)] : List (Nat × Instr × Nat)).all (fun q => decide (pm_code 234 q.1 = some q.2)) = true := by decide +kernel
theorem c234_0 : pm_code 234 0 = some (.aload_n 0, 1) := pm_of cl234_0 0 (q := (0, .aload_n 0, 1)) rfl
theorem c234_1 : pm_code 234 1 = some (.iconst 0, 2) := pm_of cl234_0 1 (q := (1, .iconst 0, 2)) rfl
theorem c234_2 : pm_code 234 2 = some (.aload_n 0, 3) := pm_of cl234_0 2 (q := (2, .aload_n 0, 3)) rfl
theorem c234_3 : pm_code 234 3 = some (.getfield 157, 6) := pm_of cl234_0 3 (q := (3, .getfield 157, 6)) rfl
theorem c234_6 : pm_code 234 6 = some (.iconst 1, 7) := pm_of cl234_0 4 (q := (6, .iconst 1, 7)) rfl
theorem c234_7 : pm_code 234 7 = some (.isub, 8) := pm_of cl234_0 5 (q := (7, .isub, 8)) rfl
theorem c234_8 : pm_code 234 8 = some (.invokevirtual 199, 11) := pm_of cl234_0 6 (q := (8, .invokevirtual 199, 11)) rfl
theorem c234_11 : pm_code 234 11 = some (.istore_n 1, 12) := pm_of cl234_0 7 (q := (11, .istore_n 1, 12)) rfl
theorem c234_12 : pm_code 234 12 = some (.aload_n 0, 13) := pm_of cl234_0 8 (q := (12, .aload_n 0, 13)) rfl
theorem c234_13 : pm_code 234 13 = some (.iconst 0, 14) := pm_of cl234_0 9 (q := (13, .iconst 0, 14)) rfl
theorem c234_14 : pm_code 234 14 = some (.sipush 999, 17) := pm_of cl234_0 10 (q := (14, .sipush 999, 17)) rfl
theorem c234_17 : pm_code 234 17 = some (.invokevirtual 199, 20) := pm_of cl234_0 11 (q := (17, .invokevirtual 199, 20)) rfl
theorem c234_20 : pm_code 234 20 = some (.istore_n 2, 21) := pm_of cl234_0 12 (q := (20, .istore_n 2, 21)) rfl
theorem c234_21 : pm_code 234 21 = some (.aload_n 0, 22) := pm_of cl234_0 13 (q := (21, .aload_n 0, 22)) rfl
theorem c234_22 : pm_code 234 22 = some (.invokevirtual 143, 25) := pm_of cl234_0 14 (q := (22, .invokevirtual 143, 25)) rfl
theorem c234_25 : pm_code 234 25 = some (.ifCond .eq 14, 28) := pm_of cl234_0 15 (q := (25, .ifCond .eq 14, 28)) rfl
theorem c234_28 : pm_code 234 28 = some (.aload_n 0, 29) := pm_of cl234_0 16 (q := (28, .aload_n 0, 29)) rfl
theorem c234_29 : pm_code 234 29 = some (.getfield 23, 32) := pm_of cl234_0 17 (q := (29, .getfield 23, 32)) rfl
theorem c234_32 : pm_code 234 32 = some (.iconst 4, 33) := pm_of cl234_0 18 (q := (32, .iconst 4, 33)) rfl
theorem c234_33 : pm_code 234 33 = some (.iload_n 1, 34) := pm_of cl234_0 19 (q := (33, .iload_n 1, 34)) rfl
theorem c234_34 : pm_code 234 34 = some (.imul, 35) := pm_of cl234_0 20 (q := (34, .imul, 35)) rfl
theorem c234_35 : pm_code 234 35 = some (.iconst 3, 36) := pm_of cl234_0 21 (q := (35, .iconst 3, 36)) rfl
theorem c234_36 : pm_code 234 36 = some (.iadd, 37) := pm_of cl234_0 22 (q := (36, .iadd, 37)) rfl
theorem c234_37 : pm_code 234 37 = some (.iload_n 2, 38) := pm_of cl234_0 23 (q := (37, .iload_n 2, 38)) rfl
theorem c234_38 : pm_code 234 38 = some (.iastore, 39) := pm_of cl234_0 24 (q := (38, .iastore, 39)) rfl
theorem c234_39 : pm_code 234 39 = some (.return_, 40) := pm_of cl234_0 25 (q := (39, .return_, 40)) rfl
theorem k235 : pm_k 235 = 12 := by decide +kernel
theorem ml235 : pm_ml 235 = 6 := by decide +kernel
theorem rt235 : pm_rt 235 = (some .int) := by decide +kernel
theorem hh235 : pm_hh 235 = [] := by decide +kernel
theorem rc235 : pm_cl 12 = (pm_y 235).cls := by decide +kernel
theorem cl235_0 : ([(0, .aload_n 0, 1), (1, .invokevirtual 143, 4), (4, .ifCond .ne 5, 7), (7, .iconst 0, 8), (8, .ireturn, 9), (9, .aload_n 0, 10), (10, .invokevirtual 126, 13), (13, .istore_n 3, 14), (14, .aload_n 0, 15), (15, .getfield 120, 18), (18, .istore 4, 20), (20, .iconst 0, 21), (21, .istore 5, 23), (23, .iload_n 3, 24), (24, .invokestatic 147, 27), (27, .ifCond .ne 14, 30), (30, .aload_n 0, 31), (31, .iconst 1, 32), (32, .aload_n 0, 33), (33, .getfield 120, 36), (36, .invokevirtual 150, 39), (39, .iconst 0, 40), (40, .ireturn, 41), (41, .aload_n 0, 42), (42, .getfield 120, 45), (45, .aload_n 0, 46), (46, .getfield 123, 49), (49, .if_icmp .ge 65, 52), (52, .aload_n 0, 53), (53, .getfield 20, 56), (56, .aload_n 0, 57), (57, .getfield 120, 60), (60, .iaload, 61), (61, .invokestatic 147, 64), (64, .ifCond .eq 50, 67), (67, .iload 5, 69), (69, .sipush 9999, 72), (72, .if_icmp .le 9, 75), (75, .sipush 10000, 78), (78, .goto 21, 81)] : List (Nat × Instr × Nat)).all (fun q => decide (pm_code 235 q.1 = some q.2)) = true := by decide +kernel
theorem c235_0 : pm_code 235 0 = some (.aload_n 0, 1) := pm_of cl235_0 0 (q := (0, .aload_n 0, 1)) rfl
theorem c235_1 : pm_code 235 1 = some (.invokevirtual 143, 4) := pm_of cl235_0 1 (q := (1, .invokevirtual 143, 4)) rfl
theorem c235_4 : pm_code 235 4 = some (.ifCond .ne 5, 7) := pm_of cl235_0 2 (q := (4, .ifCond .ne 5, 7)) rfl
theorem c235_7 : pm_code 235 7 = some (.iconst 0, 8) := pm_of cl235_0 3 (q := (7, .iconst 0, 8)) rfl
theorem c235_8 : pm_code 235 8 = some (.ireturn, 9) := pm_of cl235_0 4 (q := (8, .ireturn, 9)) rfl
theorem c235_9 : pm_code 235 9 = some (.aload_n 0, 10) := pm_of cl235_0 5 (q := (9, .aload_n 0, 10)) rfl
theorem c235_10 : pm_code 235 10 = some (.invokevirtual 126, 13) := pm_of cl235_0 6 (q := (10, .invokevirtual 126, 13)) rfl
theorem c235_13 : pm_code 235 13 = some (.istore_n 3, 14) := pm_of cl235_0 7 (q := (13, .istore_n 3, 14)) rfl
theorem c235_14 : pm_code 235 14 = some (.aload_n 0, 15) := pm_of cl235_0 8 (q := (14, .aload_n 0, 15)) rfl
theorem c235_15 : pm_code 235 15 = some (.getfield 120, 18) := pm_of cl235_0 9 (q := (15, .getfield 120, 18)) rfl
theorem c235_18 : pm_code 235 18 = some (.istore 4, 20) := pm_of cl235_0 10 (q := (18, .istore 4, 20)) rfl
theorem c235_20 : pm_code 235 20 = some (.iconst 0, 21) := pm_of cl235_0 11 (q := (20, .iconst 0, 21)) rfl
theorem c235_21 : pm_code 235 21 = some (.istore 5, 23) := pm_of cl235_0 12 (q := (21, .istore 5, 23)) rfl
theorem c235_23 : pm_code 235 23 = some (.iload_n 3, 24) := pm_of cl235_0 13 (q := (23, .iload_n 3, 24)) rfl
theorem c235_24 : pm_code 235 24 = some (.invokestatic 147, 27) := pm_of cl235_0 14 (q := (24, .invokestatic 147, 27)) rfl
theorem c235_27 : pm_code 235 27 = some (.ifCond .ne 14, 30) := pm_of cl235_0 15 (q := (27, .ifCond .ne 14, 30)) rfl
theorem c235_30 : pm_code 235 30 = some (.aload_n 0, 31) := pm_of cl235_0 16 (q := (30, .aload_n 0, 31)) rfl
theorem c235_31 : pm_code 235 31 = some (.iconst 1, 32) := pm_of cl235_0 17 (q := (31, .iconst 1, 32)) rfl
theorem c235_32 : pm_code 235 32 = some (.aload_n 0, 33) := pm_of cl235_0 18 (q := (32, .aload_n 0, 33)) rfl
theorem c235_33 : pm_code 235 33 = some (.getfield 120, 36) := pm_of cl235_0 19 (q := (33, .getfield 120, 36)) rfl
theorem c235_36 : pm_code 235 36 = some (.invokevirtual 150, 39) := pm_of cl235_0 20 (q := (36, .invokevirtual 150, 39)) rfl
theorem c235_39 : pm_code 235 39 = some (.iconst 0, 40) := pm_of cl235_0 21 (q := (39, .iconst 0, 40)) rfl
theorem c235_40 : pm_code 235 40 = some (.ireturn, 41) := pm_of cl235_0 22 (q := (40, .ireturn, 41)) rfl
theorem c235_41 : pm_code 235 41 = some (.aload_n 0, 42) := pm_of cl235_0 23 (q := (41, .aload_n 0, 42)) rfl
theorem c235_42 : pm_code 235 42 = some (.getfield 120, 45) := pm_of cl235_0 24 (q := (42, .getfield 120, 45)) rfl
theorem c235_45 : pm_code 235 45 = some (.aload_n 0, 46) := pm_of cl235_0 25 (q := (45, .aload_n 0, 46)) rfl
theorem c235_46 : pm_code 235 46 = some (.getfield 123, 49) := pm_of cl235_0 26 (q := (46, .getfield 123, 49)) rfl
theorem c235_49 : pm_code 235 49 = some (.if_icmp .ge 65, 52) := pm_of cl235_0 27 (q := (49, .if_icmp .ge 65, 52)) rfl
theorem c235_52 : pm_code 235 52 = some (.aload_n 0, 53) := pm_of cl235_0 28 (q := (52, .aload_n 0, 53)) rfl
theorem c235_53 : pm_code 235 53 = some (.getfield 20, 56) := pm_of cl235_0 29 (q := (53, .getfield 20, 56)) rfl
theorem c235_56 : pm_code 235 56 = some (.aload_n 0, 57) := pm_of cl235_0 30 (q := (56, .aload_n 0, 57)) rfl
theorem c235_57 : pm_code 235 57 = some (.getfield 120, 60) := pm_of cl235_0 31 (q := (57, .getfield 120, 60)) rfl
theorem c235_60 : pm_code 235 60 = some (.iaload, 61) := pm_of cl235_0 32 (q := (60, .iaload, 61)) rfl
theorem c235_61 : pm_code 235 61 = some (.invokestatic 147, 64) := pm_of cl235_0 33 (q := (61, .invokestatic 147, 64)) rfl
theorem c235_64 : pm_code 235 64 = some (.ifCond .eq 50, 67) := pm_of cl235_0 34 (q := (64, .ifCond .eq 50, 67)) rfl
theorem c235_67 : pm_code 235 67 = some (.iload 5, 69) := pm_of cl235_0 35 (q := (67, .iload 5, 69)) rfl
theorem c235_69 : pm_code 235 69 = some (.sipush 9999, 72) := pm_of cl235_0 36 (q := (69, .sipush 9999, 72)) rfl
theorem c235_72 : pm_code 235 72 = some (.if_icmp .le 9, 75) := pm_of cl235_0 37 (q := (72, .if_icmp .le 9, 75)) rfl
theorem c235_75 : pm_code 235 75 = some (.sipush 10000, 78) := pm_of cl235_0 38 (q := (75, .sipush 10000, 78)) rfl
theorem c235_78 : pm_code 235 78 = some (.goto 21, 81) := pm_of cl235_0 39 (q := (78, .goto 21, 81)) rfl
theorem cl235_1 : ([(81, .bipush 10, 83), (83, .iload 5, 85), (85, .imul, 86), (86, .aload_n 0, 87), (87, .getfield 20, 90), (90, .aload_n 0, 91), (91, .getfield 120, 94), (94, .iaload, 95), (95, .iadd, 96), (96, .bipush 48, 98), (98, .isub, 99), (99, .istore 5, 101), (101, .aload_n 0, 102), (102, .dup, 103), (103, .getfield 120, 106), (106, .iconst 1, 107), (107, .iadd, 108), (108, .putfield 120, 111), (111, .goto (-70), 114), (114, .iload 5, 116), (116, .iload_n 1, 117), (117, .if_icmp .lt 9, 120), (120, .iload 5, 122), (122, .iload_n 2, 123), (123, .if_icmp .le 12, 126), (126, .aload_n 0, 127), (127, .iconst 2, 128), (128, .iload 4, 130), (130, .invokevirtual 150, 133), (133, .iconst 0, 134), (134, .ireturn, 135), (135, .iload 5, 137), (137, .ireturn, 138)] : List (Nat × Instr × Nat)).all (fun q => decide (pm_code 235 q.1 = some q.2)) = true := by decide +kernel
theorem c235_81 : pm_code 235 81 = some (.bipush 10, 83) := pm_of cl235_1 0 (q := (81, .bipush 10, 83)) rfl
theorem c235_83 : pm_code 235 83 = some (.iload 5, 85) := pm_of cl235_1 1 (q := (83, .iload 5, 85)) rfl
theorem c235_85 : pm_code 235 85 = some (.imul, 86) := pm_of cl235_1 2 (q := (85, .imul, 86)) rfl
theorem c235_86 : pm_code 235 86 = some (.aload_n 0, 87) := pm_of cl235_1 3 (q := (86, .aload_n 0, 87)) rfl
theorem c235_87 : pm_code 235 87 = some (.getfield 20, 90) := pm_of cl235_1 4 (q := (87, .getfield 20, 90)) rfl
theorem c235_90 : pm_code 235 90 = some (.aload_n 0, 91) := pm_of cl235_1 5 (q := (90, .aload_n 0, 91)) rfl
theorem c235_91 : pm_code 235 91 = some (.getfield 120, 94) := pm_of cl235_1 6 (q := (91, .getfield 120, 94)) rfl
theorem c235_94 : pm_code 235 94 = some (.iaload, 95) := pm_of cl235_1 7 (q := (94, .iaload, 95)) rfl
theorem c235_95 : pm_code 235 95 = some (.iadd, 96) := pm_of cl235_1 8 (q := (95, .iadd, 96)) rfl
theorem c235_96 : pm_code 235 96 = some (.bipush 48, 98) := pm_of cl235_1 9 (q := (96, .bipush 48, 98)) rfl
theorem c235_98 : pm_code 235 98 = some (.isub, 99) := pm_of cl235_1 10 (q := (98, .isub, 99)) rfl
theorem c235_99 : pm_code 235 99 = some (.istore 5, 101) := pm_of cl235_1 11 (q := (99, .istore 5, 101)) rfl
theorem c235_101 : pm_code 235 101 = some (.aload_n 0, 102) := pm_of cl235_1 12 (q := (101, .aload_n 0, 102)) rfl
theorem c235_102 : pm_code 235 102 = some (.dup, 103) := pm_of cl235_1 13 (q := (102, .dup, 103)) rfl
theorem c235_103 : pm_code 235 103 = some (.getfield 120, 106) := pm_of cl235_1 14 (q := (103, .getfield 120, 106)) rfl
theorem c235_106 : pm_code 235 106 = some (.iconst 1, 107) := pm_of cl235_1 15 (q := (106, .iconst 1, 107)) rfl
theorem c235_107 : pm_code 235 107 = some (.iadd, 108) := pm_of cl235_1 16 (q := (107, .iadd, 108)) rfl
theorem c235_108 : pm_code 235 108 = some (.putfield 120, 111) := pm_of cl235_1 17 (q := (108, .putfield 120, 111)) rfl
theorem c235_111 : pm_code 235 111 = some (.goto (-70), 114) := pm_of cl235_1 18 (q := (111, .goto (-70), 114)) rfl
theorem c235_114 : pm_code 235 114 = some (.iload 5, 116) := pm_of cl235_1 19 (q := (114, .iload 5, 116)) rfl
theorem c235_116 : pm_code 235 116 = some (.iload_n 1, 117) := pm_of cl235_1 20 (q := (116, .iload_n 1, 117)) rfl
theorem c235_117 : pm_code 235 117 = some (.if_icmp .lt 9, 120) := pm_of cl235_1 21 (q := (117, .if_icmp .lt 9, 120)) rfl
theorem c235_120 : pm_code 235 120 = some (.iload 5, 122) := pm_of cl235_1 22 (q := (120, .iload 5, 122)) rfl
theorem c235_122 : pm_code 235 122 = some (.iload_n 2, 123) := pm_of cl235_1 23 (q := (122, .iload_n 2, 123)) rfl
theorem c235_123 : pm_code 235 123 = some (.if_icmp .le 12, 126) := pm_of cl235_1 24 (q := (123, .if_icmp .le 12, 126)) rfl
theorem c235_126 : pm_code 235 126 = some (.aload_n 0, 127) := pm_of cl235_1 25 (q := (126, .aload_n 0, 127)) rfl
theorem c235_127 : pm_code 235 127 = some (.iconst 2, 128) := pm_of cl235_1 26 (q := (127, .iconst 2, 128)) rfl
theorem c235_128 : pm_code 235 128 = some (.iload 4, 130) := pm_of cl235_1 27 (q := (128, .iload 4, 130)) rfl
theorem c235_130 : pm_code 235 130 = some (.invokevirtual 150, 133) := pm_of cl235_1 28 (q := (130, .invokevirtual 150, 133)) rfl
theorem c235_133 : pm_code 235 133 = some (.iconst 0, 134) := pm_of cl235_1 29 (q := (133, .iconst 0, 134)) rfl
theorem c235_134 : pm_code 235 134 = some (.ireturn, 135) := pm_of cl235_1 30 (q := (134, .ireturn, 135)) rfl
theorem c235_135 : pm_code 235 135 = some (.iload 5, 137) := pm_of cl235_1 31 (q := (135, .iload 5, 137)) rfl
theorem c235_137 : pm_code 235 137 = some (.ireturn, 138) := pm_of cl235_1 32 (q := (137, .ireturn, 138)) rfl
theorem k236 : pm_k 236 = 12 := by decide +kernel
theorem ml236 : pm_ml 236 = 1 := by decide +kernel
theorem rt236 : pm_rt 236 = (some .boolean) := by decide +kernel
theorem hh236 : pm_hh 236 = [] := by decide +kernel
theorem rc236 : pm_cl 12 = (pm_y 236).cls := by decide +kernel
theorem cl236_0 : ([(0, .iload_n 0, 1), (1, .bipush 48, 3), (3, .if_icmp .lt 13, 6), (6, .iload_n 0, 7), (7, .bipush 57, 9), (9, .if_icmp .gt 7, 12), (12, .iconst 1, 13), (13, .goto 4, 16), (16, .iconst 0, 17), (17, .ireturn, 18)] : List (Nat × Instr × Nat)).all (fun q => decide (pm_code 236 q.1 = some q.2)) = true := by decide +kernel
theorem c236_0 : pm_code 236 0 = some (.iload_n 0, 1) := pm_of cl236_0 0 (q := (0, .iload_n 0, 1)) rfl
theorem c236_1 : pm_code 236 1 = some (.bipush 48, 3) := pm_of cl236_0 1 (q := (1, .bipush 48, 3)) rfl
theorem c236_3 : pm_code 236 3 = some (.if_icmp .lt 13, 6) := pm_of cl236_0 2 (q := (3, .if_icmp .lt 13, 6)) rfl
theorem c236_6 : pm_code 236 6 = some (.iload_n 0, 7) := pm_of cl236_0 3 (q := (6, .iload_n 0, 7)) rfl
theorem c236_7 : pm_code 236 7 = some (.bipush 57, 9) := pm_of cl236_0 4 (q := (7, .bipush 57, 9)) rfl
theorem c236_9 : pm_code 236 9 = some (.if_icmp .gt 7, 12) := pm_of cl236_0 5 (q := (9, .if_icmp .gt 7, 12)) rfl
theorem c236_12 : pm_code 236 12 = some (.iconst 1, 13) := pm_of cl236_0 6 (q := (12, .iconst 1, 13)) rfl
theorem c236_13 : pm_code 236 13 = some (.goto 4, 16) := pm_of cl236_0 7 (q := (13, .goto 4, 16)) rfl
theorem c236_16 : pm_code 236 16 = some (.iconst 0, 17) := pm_of cl236_0 8 (q := (16, .iconst 0, 17)) rfl
theorem c236_17 : pm_code 236 17 = some (.ireturn, 18) := pm_of cl236_0 9 (q := (17, .ireturn, 18)) rfl
theorem k237 : pm_k 237 = 12 := by decide +kernel
theorem ml237 : pm_ml 237 = 3 := by decide +kernel
theorem rt237 : pm_rt 237 = none := by decide +kernel
theorem hh237 : pm_hh 237 = [] := by decide +kernel
theorem rc237 : pm_cl 12 = (pm_y 237).cls := by decide +kernel
theorem cl237_0 : ([(0, .iload_n 1, 1), (1, .ldc 194, 3), (3, .invokestatic 195, 6), (6, .if_icmp .ne 75, 9), (9, .iconst 4, 10), (10, .aload_n 0, 11), (11, .getfield 157, 14), (14, .imul, 15), (15, .istore_n 2, 16), (16, .aload_n 0, 17), (17, .getfield 23, 20), (20, .iload_n 2, 21), (21, .iconst 0, 22), (22, .iadd, 23), (23, .aload_n 0, 24), (24, .iconst 1, 25), (25, .bipush 9, 27), (27, .invokevirtual 199, 30), (30, .iastore, 31), (31, .aload_n 0, 32), (32, .getfield 23, 35), (35, .iload_n 2, 36), (36, .iconst 1, 37), (37, .iadd, 38), (38, .aload_n 0, 39), (39, .iconst 0, 40), (40, .iconst 5, 41), (41, .invokevirtual 199, 44), (44, .iastore, 45), (45, .aload_n 0, 46), (46, .getfield 23, 49), (49, .iload_n 2, 50), (50, .iconst 2, 51), (51, .iadd, 52), (52, .aload_n 0, 53), (53, .iconst 0, 54), (54, .iconst 4, 55), (55, .invokevirtual 199, 58), (58, .iastore, 59), (59, .aload_n 0, 60)] : List (Nat × Instr × Nat)).all (fun q => decide (pm_code 237 q.1 = some q.2)) = true := by decide +kernel
theorem c237_0 : pm_code 237 0 = some (.iload_n 1, 1) := pm_of cl237_0 0 (q := (0, .iload_n 1, 1)) rfl
theorem c237_1 : pm_code 237 1 = some (.ldc 194, 3) := pm_of cl237_0 1 (q := (1, .ldc 194, 3)) rfl
theorem c237_3 : pm_code 237 3 = some (.invokestatic 195, 6) := pm_of cl237_0 2 (q := (3, .invokestatic 195, 6)) rfl
theorem c237_6 : pm_code 237 6 = some (.if_icmp .ne 75, 9) := pm_of cl237_0 3 (q := (6, .if_icmp .ne 75, 9)) rfl
theorem c237_9 : pm_code 237 9 = some (.iconst 4, 10) := pm_of cl237_0 4 (q := (9, .iconst 4, 10)) rfl
theorem c237_10 : pm_code 237 10 = some (.aload_n 0, 11) := pm_of cl237_0 5 (q := (10, .aload_n 0, 11)) rfl
theorem c237_11 : pm_code 237 11 = some (.getfield 157, 14) := pm_of cl237_0 6 (q := (11, .getfield 157, 14)) rfl
theorem c237_14 : pm_code 237 14 = some (.imul, 15) := pm_of cl237_0 7 (q := (14, .imul, 15)) rfl
theorem c237_15 : pm_code 237 15 = some (.istore_n 2, 16) := pm_of cl237_0 8 (q := (15, .istore_n 2, 16)) rfl
theorem c237_16 : pm_code 237 16 = some (.aload_n 0, 17) := pm_of cl237_0 9 (q := (16, .aload_n 0, 17)) rfl
theorem c237_17 : pm_code 237 17 = some (.getfield 23, 20) := pm_of cl237_0 10 (q := (17, .getfield 23, 20)) rfl
theorem c237_20 : pm_code 237 20 = some (.iload_n 2, 21) := pm_of cl237_0 11 (q := (20, .iload_n 2, 21)) rfl
theorem c237_21 : pm_code 237 21 = some (.iconst 0, 22) := pm_of cl237_0 12 (q := (21, .iconst 0, 22)) rfl
theorem c237_22 : pm_code 237 22 = some (.iadd, 23) := pm_of cl237_0 13 (q := (22, .iadd, 23)) rfl
theorem c237_23 : pm_code 237 23 = some (.aload_n 0, 24) := pm_of cl237_0 14 (q := (23, .aload_n 0, 24)) rfl
theorem c237_24 : pm_code 237 24 = some (.iconst 1, 25) := pm_of cl237_0 15 (q := (24, .iconst 1, 25)) rfl
theorem c237_25 : pm_code 237 25 = some (.bipush 9, 27) := pm_of cl237_0 16 (q := (25, .bipush 9, 27)) rfl
theorem c237_27 : pm_code 237 27 = some (.invokevirtual 199, 30) := pm_of cl237_0 17 (q := (27, .invokevirtual 199, 30)) rfl
theorem c237_30 : pm_code 237 30 = some (.iastore, 31) := pm_of cl237_0 18 (q := (30, .iastore, 31)) rfl
theorem c237_31 : pm_code 237 31 = some (.aload_n 0, 32) := pm_of cl237_0 19 (q := (31, .aload_n 0, 32)) rfl
theorem c237_32 : pm_code 237 32 = some (.getfield 23, 35) := pm_of cl237_0 20 (q := (32, .getfield 23, 35)) rfl
theorem c237_35 : pm_code 237 35 = some (.iload_n 2, 36) := pm_of cl237_0 21 (q := (35, .iload_n 2, 36)) rfl
theorem c237_36 : pm_code 237 36 = some (.iconst 1, 37) := pm_of cl237_0 22 (q := (36, .iconst 1, 37)) rfl
theorem c237_37 : pm_code 237 37 = some (.iadd, 38) := pm_of cl237_0 23 (q := (37, .iadd, 38)) rfl
theorem c237_38 : pm_code 237 38 = some (.aload_n 0, 39) := pm_of cl237_0 24 (q := (38, .aload_n 0, 39)) rfl
theorem c237_39 : pm_code 237 39 = some (.iconst 0, 40) := pm_of cl237_0 25 (q := (39, .iconst 0, 40)) rfl
theorem c237_40 : pm_code 237 40 = some (.iconst 5, 41) := pm_of cl237_0 26 (q := (40, .iconst 5, 41)) rfl
theorem c237_41 : pm_code 237 41 = some (.invokevirtual 199, 44) := pm_of cl237_0 27 (q := (41, .invokevirtual 199, 44)) rfl
theorem c237_44 : pm_code 237 44 = some (.iastore, 45) := pm_of cl237_0 28 (q := (44, .iastore, 45)) rfl
theorem c237_45 : pm_code 237 45 = some (.aload_n 0, 46) := pm_of cl237_0 29 (q := (45, .aload_n 0, 46)) rfl
theorem c237_46 : pm_code 237 46 = some (.getfield 23, 49) := pm_of cl237_0 30 (q := (46, .getfield 23, 49)) rfl
theorem c237_49 : pm_code 237 49 = some (.iload_n 2, 50) := pm_of cl237_0 31 (q := (49, .iload_n 2, 50)) rfl
theorem c237_50 : pm_code 237 50 = some (.iconst 2, 51) := pm_of cl237_0 32 (q := (50, .iconst 2, 51)) rfl
theorem c237_51 : pm_code 237 51 = some (.iadd, 52) := pm_of cl237_0 33 (q := (51, .iadd, 52)) rfl
theorem c237_52 : pm_code 237 52 = some (.aload_n 0, 53) := pm_of cl237_0 34 (q := (52, .aload_n 0, 53)) rfl
theorem c237_53 : pm_code 237 53 = some (.iconst 0, 54) := pm_of cl237_0 35 (q := (53, .iconst 0, 54)) rfl
theorem c237_54 : pm_code 237 54 = some (.iconst 4, 55) := pm_of cl237_0 36 (q := (54, .iconst 4, 55)) rfl
theorem c237_55 : pm_code 237 55 = some (.invokevirtual 199, 58) := pm_of cl237_0 37 (q := (55, .invokevirtual 199, 58)) rfl
theorem c237_58 : pm_code 237 58 = some (.iastore, 59) := pm_of cl237_0 38 (q := (58, .iastore, 59)) rfl
theorem c237_59 : pm_code 237 59 = some (.aload_n 0, 60) := pm_of cl237_0 39 (q := (59, .aload_n 0, 60)) rfl
theorem cl237_1 : ([(60, .getfield 23, 63), (63, .iload_n 2, 64), (64, .iconst 3, 65), (65, .iadd, 66), (66, .iconst 0, 67), (67, .iastore, 68), (68, .aload_n 0, 69), (69, .dup, 70), (70, .getfield 157, 73), (73, .iconst 1, 74), (74, .iadd, 75), (75, .putfield 157, 78), (78, .goto 108, 81), (81, .iload_n 1, 82), (82, .ldc 203, 84), (84, .invokestatic 195, 87), (87, .if_icmp .ne 64, 90), (90, .iconst 3, 91), (91, .aload_n 0, 92), (92, .getfield 160, 95), (95, .imul, 96), (96, .istore_n 2, 97), (97, .aload_n 0, 98), (98, .getfield 26, 101), (101, .iload_n 2, 102), (102, .aload_n 0, 103), (103, .iconst 0, 104), (104, .iconst 5, 105), (105, .invokevirtual 199, 108), (108, .iastore, 109), (109, .aload_n 0, 110), (110, .getfield 26, 113), (113, .iload_n 2, 114), (114, .iconst 1, 115), (115, .iadd, 116), (116, .aload_n 0, 117), (117, .iconst 1, 118), (118, .bipush 40, 120), (120, .invokevirtual 199, 123), (123, .iastore, 124)] : List (Nat × Instr × Nat)).all (fun q => decide (pm_code 237 q.1 = some q.2)) = true := by decide +kernel
theorem c237_60 : pm_code 237 60 = some (.getfield 23, 63) := pm_of cl237_1 0 (q := (60, .getfield 23, 63)) rfl
theorem c237_63 : pm_code 237 63 = some (.iload_n 2, 64) := pm_of cl237_1 1 (q := (63, .iload_n 2, 64)) rfl
theorem c237_64 : pm_code 237 64 = some (.iconst 3, 65) := pm_of cl237_1 2 (q := (64, .iconst 3, 65)) rfl
theorem c237_65 : pm_code 237 65 = some (.iadd, 66) := pm_of cl237_1 3 (q := (65, .iadd, 66)) rfl
theorem c237_66 : pm_code 237 66 = some (.iconst 0, 67) := pm_of cl237_1 4 (q := (66, .iconst 0, 67)) rfl
theorem c237_67 : pm_code 237 67 = some (.iastore, 68) := pm_of cl237_1 5 (q := (67, .iastore, 68)) rfl
theorem c237_68 : pm_code 237 68 = some (.aload_n 0, 69) := pm_of cl237_1 6 (q := (68, .aload_n 0, 69)) rfl
theorem c237_69 : pm_code 237 69 = some (.dup, 70) := pm_of cl237_1 7 (q := (69, .dup, 70)) rfl
theorem c237_70 : pm_code 237 70 = some (.getfield 157, 73) := pm_of cl237_1 8 (q := (70, .getfield 157, 73)) rfl
theorem c237_73 : pm_code 237 73 = some (.iconst 1, 74) := pm_of cl237_1 9 (q := (73, .iconst 1, 74)) rfl
theorem c237_74 : pm_code 237 74 = some (.iadd, 75) := pm_of cl237_1 10 (q := (74, .iadd, 75)) rfl
theorem c237_75 : pm_code 237 75 = some (.putfield 157, 78) := pm_of cl237_1 11 (q := (75, .putfield 157, 78)) rfl
theorem c237_78 : pm_code 237 78 = some (.goto 108, 81) := pm_of cl237_1 12 (q := (78, .goto 108, 81)) rfl
theorem c237_81 : pm_code 237 81 = some (.iload_n 1, 82) := pm_of cl237_1 13 (q := (81, .iload_n 1, 82)) rfl
theorem c237_82 : pm_code 237 82 = some (.ldc 203, 84) := pm_of cl237_1 14 (q := (82, .ldc 203, 84)) rfl
theorem c237_84 : pm_code 237 84 = some (.invokestatic 195, 87) := pm_of cl237_1 15 (q := (84, .invokestatic 195, 87)) rfl
theorem c237_87 : pm_code 237 87 = some (.if_icmp .ne 64, 90) := pm_of cl237_1 16 (q := (87, .if_icmp .ne 64, 90)) rfl
theorem c237_90 : pm_code 237 90 = some (.iconst 3, 91) := pm_of cl237_1 17 (q := (90, .iconst 3, 91)) rfl
theorem c237_91 : pm_code 237 91 = some (.aload_n 0, 92) := pm_of cl237_1 18 (q := (91, .aload_n 0, 92)) rfl
theorem c237_92 : pm_code 237 92 = some (.getfield 160, 95) := pm_of cl237_1 19 (q := (92, .getfield 160, 95)) rfl
theorem c237_95 : pm_code 237 95 = some (.imul, 96) := pm_of cl237_1 20 (q := (95, .imul, 96)) rfl
theorem c237_96 : pm_code 237 96 = some (.istore_n 2, 97) := pm_of cl237_1 21 (q := (96, .istore_n 2, 97)) rfl
theorem c237_97 : pm_code 237 97 = some (.aload_n 0, 98) := pm_of cl237_1 22 (q := (97, .aload_n 0, 98)) rfl
theorem c237_98 : pm_code 237 98 = some (.getfield 26, 101) := pm_of cl237_1 23 (q := (98, .getfield 26, 101)) rfl
theorem c237_101 : pm_code 237 101 = some (.iload_n 2, 102) := pm_of cl237_1 24 (q := (101, .iload_n 2, 102)) rfl
theorem c237_102 : pm_code 237 102 = some (.aload_n 0, 103) := pm_of cl237_1 25 (q := (102, .aload_n 0, 103)) rfl
theorem c237_103 : pm_code 237 103 = some (.iconst 0, 104) := pm_of cl237_1 26 (q := (103, .iconst 0, 104)) rfl
theorem c237_104 : pm_code 237 104 = some (.iconst 5, 105) := pm_of cl237_1 27 (q := (104, .iconst 5, 105)) rfl
theorem c237_105 : pm_code 237 105 = some (.invokevirtual 199, 108) := pm_of cl237_1 28 (q := (105, .invokevirtual 199, 108)) rfl
theorem c237_108 : pm_code 237 108 = some (.iastore, 109) := pm_of cl237_1 29 (q := (108, .iastore, 109)) rfl
theorem c237_109 : pm_code 237 109 = some (.aload_n 0, 110) := pm_of cl237_1 30 (q := (109, .aload_n 0, 110)) rfl
theorem c237_110 : pm_code 237 110 = some (.getfield 26, 113) := pm_of cl237_1 31 (q := (110, .getfield 26, 113)) rfl
theorem c237_113 : pm_code 237 113 = some (.iload_n 2, 114) := pm_of cl237_1 32 (q := (113, .iload_n 2, 114)) rfl
theorem c237_114 : pm_code 237 114 = some (.iconst 1, 115) := pm_of cl237_1 33 (q := (114, .iconst 1, 115)) rfl
theorem c237_115 : pm_code 237 115 = some (.iadd, 116) := pm_of cl237_1 34 (q := (115, .iadd, 116)) rfl
theorem c237_116 : pm_code 237 116 = some (.aload_n 0, 117) := pm_of cl237_1 35 (q := (116, .aload_n 0, 117)) rfl
theorem c237_117 : pm_code 237 117 = some (.iconst 1, 118) := pm_of cl237_1 36 (q := (117, .iconst 1, 118)) rfl
theorem c237_118 : pm_code 237 118 = some (.bipush 40, 120) := pm_of cl237_1 37 (q := (118, .bipush 40, 120)) rfl
theorem c237_120 : pm_code 237 120 = some (.invokevirtual 199, 123) := pm_of cl237_1 38 (q := (120, .invokevirtual 199, 123)) rfl
theorem c237_123 : pm_code 237 123 = some (.iastore, 124) := pm_of cl237_1 39 (q := (123, .iastore, 124)) rfl
theorem cl237_2 : ([(124, .aload_n 0, 125), (125, .getfield 26, 128), (128, .iload_n 2, 129), (129, .iconst 2, 130), (130, .iadd, 131), (131, .aload_n 0, 132), (132, .iconst 1, 133), (133, .iconst 4, 134), (134, .invokevirtual 199, 137), (137, .iastore, 138), (138, .aload_n 0, 139), (139, .dup, 140), (140, .getfield 160, 143), (143, .iconst 1, 144), (144, .iadd, 145), (145, .putfield 160, 148), (148, .goto 38, 151), (151, .iload_n 1, 152), (152, .ldc 204, 154), (154, .invokestatic 195, 157), (157, .if_icmp .ne 18, 160), (160, .aload_n 0, 161), (161, .aload_n 0, 162), (162, .iconst 0, 163), (163, .sipush 400, 166), (166, .invokevirtual 199, 169), (169, .putfield 163, 172), (172, .goto 14, 175), (175, .aload_n 0, 176), (176, .aload_n 0, 177), (177, .iconst 0, 178), (178, .bipush 20, 180), (180, .invokevirtual 199, 183), (183, .putfield 166, 186), (186, .return_, 187)] : List (Nat × Instr × Nat)).all (fun q => decide (pm_code 237 q.1 = some q.2)) = true := by decide +kernel
theorem c237_124 : pm_code 237 124 = some (.aload_n 0, 125) := pm_of cl237_2 0 (q := (124, .aload_n 0, 125)) rfl
theorem c237_125 : pm_code 237 125 = some (.getfield 26, 128) := pm_of cl237_2 1 (q := (125, .getfield 26, 128)) rfl
theorem c237_128 : pm_code 237 128 = some (.iload_n 2, 129) := pm_of cl237_2 2 (q := (128, .iload_n 2, 129)) rfl
theorem c237_129 : pm_code 237 129 = some (.iconst 2, 130) := pm_of cl237_2 3 (q := (129, .iconst 2, 130)) rfl
theorem c237_130 : pm_code 237 130 = some (.iadd, 131) := pm_of cl237_2 4 (q := (130, .iadd, 131)) rfl
theorem c237_131 : pm_code 237 131 = some (.aload_n 0, 132) := pm_of cl237_2 5 (q := (131, .aload_n 0, 132)) rfl
theorem c237_132 : pm_code 237 132 = some (.iconst 1, 133) := pm_of cl237_2 6 (q := (132, .iconst 1, 133)) rfl
theorem c237_133 : pm_code 237 133 = some (.iconst 4, 134) := pm_of cl237_2 7 (q := (133, .iconst 4, 134)) rfl
theorem c237_134 : pm_code 237 134 = some (.invokevirtual 199, 137) := pm_of cl237_2 8 (q := (134, .invokevirtual 199, 137)) rfl
theorem c237_137 : pm_code 237 137 = some (.iastore, 138) := pm_of cl237_2 9 (q := (137, .iastore, 138)) rfl
theorem c237_138 : pm_code 237 138 = some (.aload_n 0, 139) := pm_of cl237_2 10 (q := (138, .aload_n 0, 139)) rfl
theorem c237_139 : pm_code 237 139 = some (.dup, 140) := pm_of cl237_2 11 (q := (139, .dup, 140)) rfl
theorem c237_140 : pm_code 237 140 = some (.getfield 160, 143) := pm_of cl237_2 12 (q := (140, .getfield 160, 143)) rfl
theorem c237_143 : pm_code 237 143 = some (.iconst 1, 144) := pm_of cl237_2 13 (q := (143, .iconst 1, 144)) rfl
theorem c237_144 : pm_code 237 144 = some (.iadd, 145) := pm_of cl237_2 14 (q := (144, .iadd, 145)) rfl
theorem c237_145 : pm_code 237 145 = some (.putfield 160, 148) := pm_of cl237_2 15 (q := (145, .putfield 160, 148)) rfl
theorem c237_148 : pm_code 237 148 = some (.goto 38, 151) := pm_of cl237_2 16 (q := (148, .goto 38, 151)) rfl
theorem c237_151 : pm_code 237 151 = some (.iload_n 1, 152) := pm_of cl237_2 17 (q := (151, .iload_n 1, 152)) rfl
theorem c237_152 : pm_code 237 152 = some (.ldc 204, 154) := pm_of cl237_2 18 (q := (152, .ldc 204, 154)) rfl
theorem c237_154 : pm_code 237 154 = some (.invokestatic 195, 157) := pm_of cl237_2 19 (q := (154, .invokestatic 195, 157)) rfl
theorem c237_157 : pm_code 237 157 = some (.if_icmp .ne 18, 160) := pm_of cl237_2 20 (q := (157, .if_icmp .ne 18, 160)) rfl
theorem c237_160 : pm_code 237 160 = some (.aload_n 0, 161) := pm_of cl237_2 21 (q := (160, .aload_n 0, 161)) rfl
theorem c237_161 : pm_code 237 161 = some (.aload_n 0, 162) := pm_of cl237_2 22 (q := (161, .aload_n 0, 162)) rfl
theorem c237_162 : pm_code 237 162 = some (.iconst 0, 163) := pm_of cl237_2 23 (q := (162, .iconst 0, 163)) rfl
theorem c237_163 : pm_code 237 163 = some (.sipush 400, 166) := pm_of cl237_2 24 (q := (163, .sipush 400, 166)) rfl
theorem c237_166 : pm_code 237 166 = some (.invokevirtual 199, 169) := pm_of cl237_2 25 (q := (166, .invokevirtual 199, 169)) rfl
theorem c237_169 : pm_code 237 169 = some (.putfield 163, 172) := pm_of cl237_2 26 (q := (169, .putfield 163, 172)) rfl
theorem c237_172 : pm_code 237 172 = some (.goto 14, 175) := pm_of cl237_2 27 (q := (172, .goto 14, 175)) rfl
theorem c237_175 : pm_code 237 175 = some (.aload_n 0, 176) := pm_of cl237_2 28 (q := (175, .aload_n 0, 176)) rfl
theorem c237_176 : pm_code 237 176 = some (.aload_n 0, 177) := pm_of cl237_2 29 (q := (176, .aload_n 0, 177)) rfl
theorem c237_177 : pm_code 237 177 = some (.iconst 0, 178) := pm_of cl237_2 30 (q := (177, .iconst 0, 178)) rfl
theorem c237_178 : pm_code 237 178 = some (.bipush 20, 180) := pm_of cl237_2 31 (q := (178, .bipush 20, 180)) rfl
theorem c237_180 : pm_code 237 180 = some (.invokevirtual 199, 183) := pm_of cl237_2 32 (q := (180, .invokevirtual 199, 183)) rfl
theorem c237_183 : pm_code 237 183 = some (.putfield 166, 186) := pm_of cl237_2 33 (q := (183, .putfield 166, 186)) rfl
theorem c237_186 : pm_code 237 186 = some (.return_, 187) := pm_of cl237_2 34 (q := (186, .return_, 187)) rfl
theorem k238 : pm_k 238 = 12 := by decide +kernel
theorem ml238 : pm_ml 238 = 2 := by decide +kernel
theorem rt238 : pm_rt 238 = none := by decide +kernel
theorem hh238 : pm_hh 238 = [] := by decide +kernel
theorem rc238 : pm_cl 12 = (pm_y 238).cls := by decide +kernel
theorem cl238_0 : ([(0, .aload_n 0, 1), (1, .invokevirtual 143, 4), (4, .ifCond .eq 20, 7), (7, .aload_n 0, 8), (8, .invokevirtual 126, 11), (11, .iload_n 1, 12), (12, .if_icmp .eq 12, 15), (15, .aload_n 0, 16), (16, .iconst 1, 17), (17, .aload_n 0, 18), (18, .getfield 120, 21), (21, .invokevirtual 150, 24), (24, .aload_n 0, 25), (25, .invokevirtual 143, 28), (28, .ifCond .eq 13, 31), (31, .aload_n 0, 32), (32, .dup, 33), (33, .getfield 120, 36), (36, .iconst 1, 37), (37, .iadd, 38), (38, .putfield 120, 41), (41, .return_, 42)] : List (Nat × Instr × Nat)).all (fun q => decide (pm_code 238 q.1 = some q.2)) = true := by decide +kernel
theorem c238_0 : pm_code 238 0 = some (.aload_n 0, 1) := pm_of cl238_0 0 (q := (0, .aload_n 0, 1)) rfl
theorem c238_1 : pm_code 238 1 = some (.invokevirtual 143, 4) := pm_of cl238_0 1 (q := (1, .invokevirtual 143, 4)) rfl
theorem c238_4 : pm_code 238 4 = some (.ifCond .eq 20, 7) := pm_of cl238_0 2 (q := (4, .ifCond .eq 20, 7)) rfl
theorem c238_7 : pm_code 238 7 = some (.aload_n 0, 8) := pm_of cl238_0 3 (q := (7, .aload_n 0, 8)) rfl
theorem c238_8 : pm_code 238 8 = some (.invokevirtual 126, 11) := pm_of cl238_0 4 (q := (8, .invokevirtual 126, 11)) rfl
theorem c238_11 : pm_code 238 11 = some (.iload_n 1, 12) := pm_of cl238_0 5 (q := (11, .iload_n 1, 12)) rfl
theorem c238_12 : pm_code 238 12 = some (.if_icmp .eq 12, 15) := pm_of cl238_0 6 (q := (12, .if_icmp .eq 12, 15)) rfl
theorem c238_15 : pm_code 238 15 = some (.aload_n 0, 16) := pm_of cl238_0 7 (q := (15, .aload_n 0, 16)) rfl
theorem c238_16 : pm_code 238 16 = some (.iconst 1, 17) := pm_of cl238_0 8 (q := (16, .iconst 1, 17)) rfl
theorem c238_17 : pm_code 238 17 = some (.aload_n 0, 18) := pm_of cl238_0 9 (q := (17, .aload_n 0, 18)) rfl
theorem c238_18 : pm_code 238 18 = some (.getfield 120, 21) := pm_of cl238_0 10 (q := (18, .getfield 120, 21)) rfl
theorem c238_21 : pm_code 238 21 = some (.invokevirtual 150, 24) := pm_of cl238_0 11 (q := (21, .invokevirtual 150, 24)) rfl
theorem c238_24 : pm_code 238 24 = some (.aload_n 0, 25) := pm_of cl238_0 12 (q := (24, .aload_n 0, 25)) rfl
theorem c238_25 : pm_code 238 25 = some (.invokevirtual 143, 28) := pm_of cl238_0 13 (q := (25, .invokevirtual 143, 28)) rfl
theorem c238_28 : pm_code 238 28 = some (.ifCond .eq 13, 31) := pm_of cl238_0 14 (q := (28, .ifCond .eq 13, 31)) rfl
theorem c238_31 : pm_code 238 31 = some (.aload_n 0, 32) := pm_of cl238_0 15 (q := (31, .aload_n 0, 32)) rfl
theorem c238_32 : pm_code 238 32 = some (.dup, 33) := pm_of cl238_0 16 (q := (32, .dup, 33)) rfl
theorem c238_33 : pm_code 238 33 = some (.getfield 120, 36) := pm_of cl238_0 17 (q := (33, .getfield 120, 36)) rfl
theorem c238_36 : pm_code 238 36 = some (.iconst 1, 37) := pm_of cl238_0 18 (q := (36, .iconst 1, 37)) rfl
theorem c238_37 : pm_code 238 37 = some (.iadd, 38) := pm_of cl238_0 19 (q := (37, .iadd, 38)) rfl
theorem c238_38 : pm_code 238 38 = some (.putfield 120, 41) := pm_of cl238_0 20 (q := (38, .putfield 120, 41)) rfl
theorem c238_41 : pm_code 238 41 = some (.return_, 42) := pm_of cl238_0 21 (q := (41, .return_, 42)) rfl
theorem k239 : pm_k 239 = 12 := by decide +kernel
theorem ml239 : pm_ml 239 = 2 := by decide +kernel
theorem rt239 : pm_rt 239 = (some .int) := by decide +kernel
theorem hh239 : pm_hh 239 = [] := by decide +kernel
theorem rc239 : pm_cl 12 = (pm_y 239).cls := by decide +kernel
theorem cl239_0 : ([(0, .aload_n 0, 1), (1, .aload_n 0, 2), (2, .getfield 114, 5), (5, .putfield 17, 8), (8, .aload_n 0, 9), (9, .invokevirtual 143, 12), (12, .ifCond .eq 7, 15), (15, .iload_n 1, 16), (16, .goto 10, 19), (19, .aload_n 0, 20), (20, .getfield 117, 23), (23, .bipush 10, 25), (25, .isub, 26), (26, .ireturn, 27)] : List (Nat × Instr × Nat)).all (fun q => decide (pm_code 239 q.1 = some q.2)) = true := by decide +kernel
theorem c239_0 : pm_code 239 0 = some (.aload_n 0, 1) := pm_of cl239_0 0 (q := (0, .aload_n 0, 1)) rfl
theorem c239_1 : pm_code 239 1 = some (.aload_n 0, 2) := pm_of cl239_0 1 (q := (1, .aload_n 0, 2)) rfl
theorem c239_2 : pm_code 239 2 = some (.getfield 114, 5) := pm_of cl239_0 2 (q := (2, .getfield 114, 5)) rfl
theorem c239_5 : pm_code 239 5 = some (.putfield 17, 8) := pm_of cl239_0 3 (q := (5, .putfield 17, 8)) rfl
theorem c239_8 : pm_code 239 8 = some (.aload_n 0, 9) := pm_of cl239_0 4 (q := (8, .aload_n 0, 9)) rfl
theorem c239_9 : pm_code 239 9 = some (.invokevirtual 143, 12) := pm_of cl239_0 5 (q := (9, .invokevirtual 143, 12)) rfl
theorem c239_12 : pm_code 239 12 = some (.ifCond .eq 7, 15) := pm_of cl239_0 6 (q := (12, .ifCond .eq 7, 15)) rfl
theorem c239_15 : pm_code 239 15 = some (.iload_n 1, 16) := pm_of cl239_0 7 (q := (15, .iload_n 1, 16)) rfl
theorem c239_16 : pm_code 239 16 = some (.goto 10, 19) := pm_of cl239_0 8 (q := (16, .goto 10, 19)) rfl
theorem c239_19 : pm_code 239 19 = some (.aload_n 0, 20) := pm_of cl239_0 9 (q := (19, .aload_n 0, 20)) rfl
theorem c239_20 : pm_code 239 20 = some (.getfield 117, 23) := pm_of cl239_0 10 (q := (20, .getfield 117, 23)) rfl
theorem c239_23 : pm_code 239 23 = some (.bipush 10, 25) := pm_of cl239_0 11 (q := (23, .bipush 10, 25)) rfl
theorem c239_25 : pm_code 239 25 = some (.isub, 26) := pm_of cl239_0 12 (q := (25, .isub, 26)) rfl
theorem c239_26 : pm_code 239 26 = some (.ireturn, 27) := pm_of cl239_0 13 (q := (26, .ireturn, 27)) rfl
theorem k240 : pm_k 240 = 12 := by decide +kernel
theorem ml240 : pm_ml 240 = 5 := by decide +kernel
theorem rt240 : pm_rt 240 = (some .int) := by decide +kernel
theorem hh240 : pm_hh 240 = [] := by decide +kernel
theorem rc240 : pm_cl 12 = (pm_y 240).cls := by decide +kernel
theorem cl240_0 : ([(0, .aload_n 0, 1), (1, .iconst 0, 2), (2, .putfield 3, 5), (5, .aload_n 0, 6), (6, .iload_n 1, 7), (7, .iconst 0, 8), (8, .iconst 1, 9), (9, .invokestatic 290, 12), (12, .ifCond .eq 26, 15), (15, .iload_n 2, 16), (16, .ifCond .lt 22, 19), (19, .iload_n 2, 20), (20, .aload_n 0, 21), (21, .getfield 111, 24), (24, .if_icmp .gt 14, 27), (27, .iload_n 2, 28), (28, .sipush 150, 31), (31, .if_icmp .gt 7, 34), (34, .iconst 1, 35), (35, .goto 4, 38), (38, .iconst 0, 39), (39, .iconst 1, 40), (40, .iconst 1, 41), (41, .invokevirtual 207, 44), (44, .ifCond .ne 5, 47), (47, .iconst 0, 48), (48, .ireturn, 49), (49, .aload_n 0, 50), (50, .iload_n 2, 51), (51, .invokevirtual 211, 54), (54, .aload_n 0, 55), (55, .iconst 0, 56), (56, .putfield 246, 59), (59, .aload_n 0, 60), (60, .invokevirtual 261, 63), (63, .aload_n 0, 64), (64, .invokevirtual 143, 67), (67, .ifCond .eq 19, 70), (70, .aload_n 0, 71), (71, .invokevirtual 215, 74)] : List (Nat × Instr × Nat)).all (fun q => decide (pm_code 240 q.1 = some q.2)) = true := by decide +kernel
theorem c240_0 : pm_code 240 0 = some (.aload_n 0, 1) := pm_of cl240_0 0 (q := (0, .aload_n 0, 1)) rfl
theorem c240_1 : pm_code 240 1 = some (.iconst 0, 2) := pm_of cl240_0 1 (q := (1, .iconst 0, 2)) rfl
theorem c240_2 : pm_code 240 2 = some (.putfield 3, 5) := pm_of cl240_0 2 (q := (2, .putfield 3, 5)) rfl
theorem c240_5 : pm_code 240 5 = some (.aload_n 0, 6) := pm_of cl240_0 3 (q := (5, .aload_n 0, 6)) rfl
theorem c240_6 : pm_code 240 6 = some (.iload_n 1, 7) := pm_of cl240_0 4 (q := (6, .iload_n 1, 7)) rfl
theorem c240_7 : pm_code 240 7 = some (.iconst 0, 8) := pm_of cl240_0 5 (q := (7, .iconst 0, 8)) rfl
theorem c240_8 : pm_code 240 8 = some (.iconst 1, 9) := pm_of cl240_0 6 (q := (8, .iconst 1, 9)) rfl
theorem c240_9 : pm_code 240 9 = some (.invokestatic 290, 12) := pm_of cl240_0 7 (q := (9, .invokestatic 290, 12)) rfl
theorem c240_12 : pm_code 240 12 = some (.ifCond .eq 26, 15) := pm_of cl240_0 8 (q := (12, .ifCond .eq 26, 15)) rfl
theorem c240_15 : pm_code 240 15 = some (.iload_n 2, 16) := pm_of cl240_0 9 (q := (15, .iload_n 2, 16)) rfl
theorem c240_16 : pm_code 240 16 = some (.ifCond .lt 22, 19) := pm_of cl240_0 10 (q := (16, .ifCond .lt 22, 19)) rfl
theorem c240_19 : pm_code 240 19 = some (.iload_n 2, 20) := pm_of cl240_0 11 (q := (19, .iload_n 2, 20)) rfl
theorem c240_20 : pm_code 240 20 = some (.aload_n 0, 21) := pm_of cl240_0 12 (q := (20, .aload_n 0, 21)) rfl
theorem c240_21 : pm_code 240 21 = some (.getfield 111, 24) := pm_of cl240_0 13 (q := (21, .getfield 111, 24)) rfl
theorem c240_24 : pm_code 240 24 = some (.if_icmp .gt 14, 27) := pm_of cl240_0 14 (q := (24, .if_icmp .gt 14, 27)) rfl
theorem c240_27 : pm_code 240 27 = some (.iload_n 2, 28) := pm_of cl240_0 15 (q := (27, .iload_n 2, 28)) rfl
theorem c240_28 : pm_code 240 28 = some (.sipush 150, 31) := pm_of cl240_0 16 (q := (28, .sipush 150, 31)) rfl
theorem c240_31 : pm_code 240 31 = some (.if_icmp .gt 7, 34) := pm_of cl240_0 17 (q := (31, .if_icmp .gt 7, 34)) rfl
theorem c240_34 : pm_code 240 34 = some (.iconst 1, 35) := pm_of cl240_0 18 (q := (34, .iconst 1, 35)) rfl
theorem c240_35 : pm_code 240 35 = some (.goto 4, 38) := pm_of cl240_0 19 (q := (35, .goto 4, 38)) rfl
theorem c240_38 : pm_code 240 38 = some (.iconst 0, 39) := pm_of cl240_0 20 (q := (38, .iconst 0, 39)) rfl
theorem c240_39 : pm_code 240 39 = some (.iconst 1, 40) := pm_of cl240_0 21 (q := (39, .iconst 1, 40)) rfl
theorem c240_40 : pm_code 240 40 = some (.iconst 1, 41) := pm_of cl240_0 22 (q := (40, .iconst 1, 41)) rfl
theorem c240_41 : pm_code 240 41 = some (.invokevirtual 207, 44) := pm_of cl240_0 23 (q := (41, .invokevirtual 207, 44)) rfl
theorem c240_44 : pm_code 240 44 = some (.ifCond .ne 5, 47) := pm_of cl240_0 24 (q := (44, .ifCond .ne 5, 47)) rfl
theorem c240_47 : pm_code 240 47 = some (.iconst 0, 48) := pm_of cl240_0 25 (q := (47, .iconst 0, 48)) rfl
theorem c240_48 : pm_code 240 48 = some (.ireturn, 49) := pm_of cl240_0 26 (q := (48, .ireturn, 49)) rfl
theorem c240_49 : pm_code 240 49 = some (.aload_n 0, 50) := pm_of cl240_0 27 (q := (49, .aload_n 0, 50)) rfl
theorem c240_50 : pm_code 240 50 = some (.iload_n 2, 51) := pm_of cl240_0 28 (q := (50, .iload_n 2, 51)) rfl
theorem c240_51 : pm_code 240 51 = some (.invokevirtual 211, 54) := pm_of cl240_0 29 (q := (51, .invokevirtual 211, 54)) rfl
theorem c240_54 : pm_code 240 54 = some (.aload_n 0, 55) := pm_of cl240_0 30 (q := (54, .aload_n 0, 55)) rfl
theorem c240_55 : pm_code 240 55 = some (.iconst 0, 56) := pm_of cl240_0 31 (q := (55, .iconst 0, 56)) rfl
theorem c240_56 : pm_code 240 56 = some (.putfield 246, 59) := pm_of cl240_0 32 (q := (56, .putfield 246, 59)) rfl
theorem c240_59 : pm_code 240 59 = some (.aload_n 0, 60) := pm_of cl240_0 33 (q := (59, .aload_n 0, 60)) rfl
theorem c240_60 : pm_code 240 60 = some (.invokevirtual 261, 63) := pm_of cl240_0 34 (q := (60, .invokevirtual 261, 63)) rfl
theorem c240_63 : pm_code 240 63 = some (.aload_n 0, 64) := pm_of cl240_0 35 (q := (63, .aload_n 0, 64)) rfl
theorem c240_64 : pm_code 240 64 = some (.invokevirtual 143, 67) := pm_of cl240_0 36 (q := (64, .invokevirtual 143, 67)) rfl
theorem c240_67 : pm_code 240 67 = some (.ifCond .eq 19, 70) := pm_of cl240_0 37 (q := (67, .ifCond .eq 19, 70)) rfl
theorem c240_70 : pm_code 240 70 = some (.aload_n 0, 71) := pm_of cl240_0 38 (q := (70, .aload_n 0, 71)) rfl
theorem c240_71 : pm_code 240 71 = some (.invokevirtual 215, 74) := pm_of cl240_0 39 (q := (71, .invokevirtual 215, 74)) rfl
theorem cl240_1 : ([(74, .ifCond .eq 12, 77), (77, .aload_n 0, 78), (78, .iconst 1, 79), (79, .aload_n 0, 80), (80, .getfield 120, 83), (83, .invokevirtual 150, 86), (86, .aload_n 0, 87), (87, .iconst 1, 88), (88, .invokevirtual 242, 91), (91, .istore_n 3, 92), (92, .aload_n 0, 93), (93, .getfield 114, 96), (96, .iconst (-1), 97), (97, .if_icmp .eq 5, 100), (100, .iload_n 3, 101), (101, .ireturn, 102), (102, .aload_n 0, 103), (103, .getfield 47, 106), (106, .iload_n 1, 107), (107, .aload_n 0, 108), (108, .getfield 246, 111), (111, .iastore, 112), (112, .iconst 0, 113), (113, .istore 4, 115), (115, .iload 4, 117), (117, .aload_n 0, 118), (118, .getfield 246, 121), (121, .if_icmp .ge 49, 124), (124, .aload_n 0, 125), (125, .getfield 41, 128), (128, .sipush 150, 131), (131, .iload_n 1, 132), (132, .imul, 133), (133, .iload 4, 135), (135, .iadd, 136), (136, .aload_n 0, 137), (137, .getfield 35, 140), (140, .iload 4, 142), (142, .iaload, 143), (143, .iastore, 144)] : List (Nat × Instr × Nat)).all (fun q => decide (pm_code 240 q.1 = some q.2)) = true := by decide +kernel
theorem c240_74 : pm_code 240 74 = some (.ifCond .eq 12, 77) := pm_of cl240_1 0 (q := (74, .ifCond .eq 12, 77)) rfl
theorem c240_77 : pm_code 240 77 = some (.aload_n 0, 78) := pm_of cl240_1 1 (q := (77, .aload_n 0, 78)) rfl
theorem c240_78 : pm_code 240 78 = some (.iconst 1, 79) := pm_of cl240_1 2 (q := (78, .iconst 1, 79)) rfl
theorem c240_79 : pm_code 240 79 = some (.aload_n 0, 80) := pm_of cl240_1 3 (q := (79, .aload_n 0, 80)) rfl
theorem c240_80 : pm_code 240 80 = some (.getfield 120, 83) := pm_of cl240_1 4 (q := (80, .getfield 120, 83)) rfl
theorem c240_83 : pm_code 240 83 = some (.invokevirtual 150, 86) := pm_of cl240_1 5 (q := (83, .invokevirtual 150, 86)) rfl
theorem c240_86 : pm_code 240 86 = some (.aload_n 0, 87) := pm_of cl240_1 6 (q := (86, .aload_n 0, 87)) rfl
theorem c240_87 : pm_code 240 87 = some (.iconst 1, 88) := pm_of cl240_1 7 (q := (87, .iconst 1, 88)) rfl
theorem c240_88 : pm_code 240 88 = some (.invokevirtual 242, 91) := pm_of cl240_1 8 (q := (88, .invokevirtual 242, 91)) rfl
theorem c240_91 : pm_code 240 91 = some (.istore_n 3, 92) := pm_of cl240_1 9 (q := (91, .istore_n 3, 92)) rfl
theorem c240_92 : pm_code 240 92 = some (.aload_n 0, 93) := pm_of cl240_1 10 (q := (92, .aload_n 0, 93)) rfl
theorem c240_93 : pm_code 240 93 = some (.getfield 114, 96) := pm_of cl240_1 11 (q := (93, .getfield 114, 96)) rfl
theorem c240_96 : pm_code 240 96 = some (.iconst (-1), 97) := pm_of cl240_1 12 (q := (96, .iconst (-1), 97)) rfl
theorem c240_97 : pm_code 240 97 = some (.if_icmp .eq 5, 100) := pm_of cl240_1 13 (q := (97, .if_icmp .eq 5, 100)) rfl
theorem c240_100 : pm_code 240 100 = some (.iload_n 3, 101) := pm_of cl240_1 14 (q := (100, .iload_n 3, 101)) rfl
theorem c240_101 : pm_code 240 101 = some (.ireturn, 102) := pm_of cl240_1 15 (q := (101, .ireturn, 102)) rfl
theorem c240_102 : pm_code 240 102 = some (.aload_n 0, 103) := pm_of cl240_1 16 (q := (102, .aload_n 0, 103)) rfl
theorem c240_103 : pm_code 240 103 = some (.getfield 47, 106) := pm_of cl240_1 17 (q := (103, .getfield 47, 106)) rfl
theorem c240_106 : pm_code 240 106 = some (.iload_n 1, 107) := pm_of cl240_1 18 (q := (106, .iload_n 1, 107)) rfl
theorem c240_107 : pm_code 240 107 = some (.aload_n 0, 108) := pm_of cl240_1 19 (q := (107, .aload_n 0, 108)) rfl
theorem c240_108 : pm_code 240 108 = some (.getfield 246, 111) := pm_of cl240_1 20 (q := (108, .getfield 246, 111)) rfl
theorem c240_111 : pm_code 240 111 = some (.iastore, 112) := pm_of cl240_1 21 (q := (111, .iastore, 112)) rfl
theorem c240_112 : pm_code 240 112 = some (.iconst 0, 113) := pm_of cl240_1 22 (q := (112, .iconst 0, 113)) rfl
theorem c240_113 : pm_code 240 113 = some (.istore 4, 115) := pm_of cl240_1 23 (q := (113, .istore 4, 115)) rfl
theorem c240_115 : pm_code 240 115 = some (.iload 4, 117) := pm_of cl240_1 24 (q := (115, .iload 4, 117)) rfl
theorem c240_117 : pm_code 240 117 = some (.aload_n 0, 118) := pm_of cl240_1 25 (q := (117, .aload_n 0, 118)) rfl
theorem c240_118 : pm_code 240 118 = some (.getfield 246, 121) := pm_of cl240_1 26 (q := (118, .getfield 246, 121)) rfl
theorem c240_121 : pm_code 240 121 = some (.if_icmp .ge 49, 124) := pm_of cl240_1 27 (q := (121, .if_icmp .ge 49, 124)) rfl
theorem c240_124 : pm_code 240 124 = some (.aload_n 0, 125) := pm_of cl240_1 28 (q := (124, .aload_n 0, 125)) rfl
theorem c240_125 : pm_code 240 125 = some (.getfield 41, 128) := pm_of cl240_1 29 (q := (125, .getfield 41, 128)) rfl
theorem c240_128 : pm_code 240 128 = some (.sipush 150, 131) := pm_of cl240_1 30 (q := (128, .sipush 150, 131)) rfl
theorem c240_131 : pm_code 240 131 = some (.iload_n 1, 132) := pm_of cl240_1 31 (q := (131, .iload_n 1, 132)) rfl
theorem c240_132 : pm_code 240 132 = some (.imul, 133) := pm_of cl240_1 32 (q := (132, .imul, 133)) rfl
theorem c240_133 : pm_code 240 133 = some (.iload 4, 135) := pm_of cl240_1 33 (q := (133, .iload 4, 135)) rfl
theorem c240_135 : pm_code 240 135 = some (.iadd, 136) := pm_of cl240_1 34 (q := (135, .iadd, 136)) rfl
theorem c240_136 : pm_code 240 136 = some (.aload_n 0, 137) := pm_of cl240_1 35 (q := (136, .aload_n 0, 137)) rfl
theorem c240_137 : pm_code 240 137 = some (.getfield 35, 140) := pm_of cl240_1 36 (q := (137, .getfield 35, 140)) rfl
theorem c240_140 : pm_code 240 140 = some (.iload 4, 142) := pm_of cl240_1 37 (q := (140, .iload 4, 142)) rfl
theorem c240_142 : pm_code 240 142 = some (.iaload, 143) := pm_of cl240_1 38 (q := (142, .iaload, 143)) rfl
theorem c240_143 : pm_code 240 143 = some (.iastore, 144) := pm_of cl240_1 39 (q := (143, .iastore, 144)) rfl
theorem cl240_2 : ([(144, .aload_n 0, 145), (145, .getfield 44, 148), (148, .sipush 150, 151), (151, .iload_n 1, 152), (152, .imul, 153), (153, .iload 4, 155), (155, .iadd, 156), (156, .aload_n 0, 157), (157, .getfield 38, 160), (160, .iload 4, 162), (162, .iaload, 163), (163, .iastore, 164), (164, .iinc 4 1, 167), (167, .goto (-52), 170), (170, .iload_n 3, 171), (171, .ireturn, 172)] : List (Nat × Instr × Nat)).all (fun q => decide (pm_code 240 q.1 = some q.2)) = true := by decide +kernel
theorem c240_144 : pm_code 240 144 = some (.aload_n 0, 145) := pm_of cl240_2 0 (q := (144, .aload_n 0, 145)) rfl
theorem c240_145 : pm_code 240 145 = some (.getfield 44, 148) := pm_of cl240_2 1 (q := (145, .getfield 44, 148)) rfl
theorem c240_148 : pm_code 240 148 = some (.sipush 150, 151) := pm_of cl240_2 2 (q := (148, .sipush 150, 151)) rfl
theorem c240_151 : pm_code 240 151 = some (.iload_n 1, 152) := pm_of cl240_2 3 (q := (151, .iload_n 1, 152)) rfl
theorem c240_152 : pm_code 240 152 = some (.imul, 153) := pm_of cl240_2 4 (q := (152, .imul, 153)) rfl
theorem c240_153 : pm_code 240 153 = some (.iload 4, 155) := pm_of cl240_2 5 (q := (153, .iload 4, 155)) rfl
theorem c240_155 : pm_code 240 155 = some (.iadd, 156) := pm_of cl240_2 6 (q := (155, .iadd, 156)) rfl
theorem c240_156 : pm_code 240 156 = some (.aload_n 0, 157) := pm_of cl240_2 7 (q := (156, .aload_n 0, 157)) rfl
theorem c240_157 : pm_code 240 157 = some (.getfield 38, 160) := pm_of cl240_2 8 (q := (157, .getfield 38, 160)) rfl
theorem c240_160 : pm_code 240 160 = some (.iload 4, 162) := pm_of cl240_2 9 (q := (160, .iload 4, 162)) rfl
theorem c240_162 : pm_code 240 162 = some (.iaload, 163) := pm_of cl240_2 10 (q := (162, .iaload, 163)) rfl
theorem c240_163 : pm_code 240 163 = some (.iastore, 164) := pm_of cl240_2 11 (q := (163, .iastore, 164)) rfl
theorem c240_164 : pm_code 240 164 = some (.iinc 4 1, 167) := pm_of cl240_2 12 (q := (164, .iinc 4 1, 167)) rfl
theorem c240_167 : pm_code 240 167 = some (.goto (-52), 170) := pm_of cl240_2 13 (q := (167, .goto (-52), 170)) rfl
theorem c240_170 : pm_code 240 170 = some (.iload_n 3, 171) := pm_of cl240_2 14 (q := (170, .iload_n 3, 171)) rfl
theorem c240_171 : pm_code 240 171 = some (.ireturn, 172) := pm_of cl240_2 15 (q := (171, .ireturn, 172)) rfl
theorem k241 : pm_k 241 = 12 := by decide +kernel
theorem ml241 : pm_ml 241 = 3 := by decide +kernel
theorem rt241 : pm_rt 241 = (some .boolean) := by decide +kernel
theorem hh241 : pm_hh 241 = [] := by decide +kernel
theorem rc241 : pm_cl 12 = (pm_y 241).cls := by decide +kernel
theorem cl241_0 : ([(0, .iload_n 0, 1), (1, .iload_n 1, 2), (2, .if_icmp .lt 12, 5), (5, .iload_n 0, 6), (6, .iload_n 2, 7), (7, .if_icmp .gt 7, 10), (10, .iconst 1, 11), (11, .goto 4, 14), (14, .iconst 0, 15), (15, .ireturn, 16)] : List (Nat × Instr × Nat)).all (fun q => decide (pm_code 241 q.1 = some q.2)) = true := by decide +kernel
theorem c241_0 : pm_code 241 0 = some (.iload_n 0, 1) := pm_of cl241_0 0 (q := (0, .iload_n 0, 1)) rfl
theorem c241_1 : pm_code 241 1 = some (.iload_n 1, 2) := pm_of cl241_0 1 (q := (1, .iload_n 1, 2)) rfl
theorem c241_2 : pm_code 241 2 = some (.if_icmp .lt 12, 5) := pm_of cl241_0 2 (q := (2, .if_icmp .lt 12, 5)) rfl
theorem c241_5 : pm_code 241 5 = some (.iload_n 0, 6) := pm_of cl241_0 3 (q := (5, .iload_n 0, 6)) rfl
theorem c241_6 : pm_code 241 6 = some (.iload_n 2, 7) := pm_of cl241_0 4 (q := (6, .iload_n 2, 7)) rfl
theorem c241_7 : pm_code 241 7 = some (.if_icmp .gt 7, 10) := pm_of cl241_0 5 (q := (7, .if_icmp .gt 7, 10)) rfl
theorem c241_10 : pm_code 241 10 = some (.iconst 1, 11) := pm_of cl241_0 6 (q := (10, .iconst 1, 11)) rfl
theorem c241_11 : pm_code 241 11 = some (.goto 4, 14) := pm_of cl241_0 7 (q := (11, .goto 4, 14)) rfl
theorem c241_14 : pm_code 241 14 = some (.iconst 0, 15) := pm_of cl241_0 8 (q := (14, .iconst 0, 15)) rfl
theorem c241_15 : pm_code 241 15 = some (.ireturn, 16) := pm_of cl241_0 9 (q := (15, .ireturn, 16)) rfl
theorem k242 : pm_k 242 = 12 := by decide +kernel
theorem ml242 : pm_ml 242 = 2 := by decide +kernel
theorem rt242 : pm_rt 242 = none := by decide +kernel
theorem hh242 : pm_hh 242 = [] := by decide +kernel
theorem rc242 : pm_cl 12 = (pm_y 242).cls := by decide +kernel
theorem cl242_0 : ([(0, .aload_n 0, 1), (1, .invokevirtual 249, 4), (4, .aload_n 0, 5), (5, .invokevirtual 143, 8), (8, .ifCond .eq 59, 11), (11, .aload_n 0, 12), (12, .invokevirtual 126, 15), (15, .bipush 43, 17), (17, .if_icmp .eq 12, 20), (20, .aload_n 0, 21), (21, .invokevirtual 126, 24), (24, .bipush 45, 26), (26, .if_icmp .ne 41, 29), (29, .aload_n 0, 30), (30, .invokevirtual 126, 33), (33, .bipush 43, 35), (35, .if_icmp .ne 7, 38), (38, .iconst 2, 39), (39, .goto 4, 42), (42, .iconst 3, 43), (43, .istore_n 1, 44), (44, .aload_n 0, 45), (45, .dup, 46), (46, .getfield 120, 49), (49, .iconst 1, 50), (50, .iadd, 51), (51, .putfield 120, 54), (54, .aload_n 0, 55), (55, .invokevirtual 249, 58), (58, .aload_n 0, 59), (59, .iload_n 1, 60), (60, .iconst 0, 61), (61, .invokevirtual 252, 64), (64, .goto (-60), 67), (67, .return_, 68)] : List (Nat × Instr × Nat)).all (fun q => decide (pm_code 242 q.1 = some q.2)) = true := by decide +kernel
theorem c242_0 : pm_code 242 0 = some (.aload_n 0, 1) := pm_of cl242_0 0 (q := (0, .aload_n 0, 1)) rfl
theorem c242_1 : pm_code 242 1 = some (.invokevirtual 249, 4) := pm_of cl242_0 1 (q := (1, .invokevirtual 249, 4)) rfl
theorem c242_4 : pm_code 242 4 = some (.aload_n 0, 5) := pm_of cl242_0 2 (q := (4, .aload_n 0, 5)) rfl
theorem c242_5 : pm_code 242 5 = some (.invokevirtual 143, 8) := pm_of cl242_0 3 (q := (5, .invokevirtual 143, 8)) rfl
theorem c242_8 : pm_code 242 8 = some (.ifCond .eq 59, 11) := pm_of cl242_0 4 (q := (8, .ifCond .eq 59, 11)) rfl
theorem c242_11 : pm_code 242 11 = some (.aload_n 0, 12) := pm_of cl242_0 5 (q := (11, .aload_n 0, 12)) rfl
theorem c242_12 : pm_code 242 12 = some (.invokevirtual 126, 15) := pm_of cl242_0 6 (q := (12, .invokevirtual 126, 15)) rfl
theorem c242_15 : pm_code 242 15 = some (.bipush 43, 17) := pm_of cl242_0 7 (q := (15, .bipush 43, 17)) rfl
theorem c242_17 : pm_code 242 17 = some (.if_icmp .eq 12, 20) := pm_of cl242_0 8 (q := (17, .if_icmp .eq 12, 20)) rfl
theorem c242_20 : pm_code 242 20 = some (.aload_n 0, 21) := pm_of cl242_0 9 (q := (20, .aload_n 0, 21)) rfl
theorem c242_21 : pm_code 242 21 = some (.invokevirtual 126, 24) := pm_of cl242_0 10 (q := (21, .invokevirtual 126, 24)) rfl
theorem c242_24 : pm_code 242 24 = some (.bipush 45, 26) := pm_of cl242_0 11 (q := (24, .bipush 45, 26)) rfl
theorem c242_26 : pm_code 242 26 = some (.if_icmp .ne 41, 29) := pm_of cl242_0 12 (q := (26, .if_icmp .ne 41, 29)) rfl
theorem c242_29 : pm_code 242 29 = some (.aload_n 0, 30) := pm_of cl242_0 13 (q := (29, .aload_n 0, 30)) rfl
theorem c242_30 : pm_code 242 30 = some (.invokevirtual 126, 33) := pm_of cl242_0 14 (q := (30, .invokevirtual 126, 33)) rfl
theorem c242_33 : pm_code 242 33 = some (.bipush 43, 35) := pm_of cl242_0 15 (q := (33, .bipush 43, 35)) rfl
theorem c242_35 : pm_code 242 35 = some (.if_icmp .ne 7, 38) := pm_of cl242_0 16 (q := (35, .if_icmp .ne 7, 38)) rfl
theorem c242_38 : pm_code 242 38 = some (.iconst 2, 39) := pm_of cl242_0 17 (q := (38, .iconst 2, 39)) rfl
theorem c242_39 : pm_code 242 39 = some (.goto 4, 42) := pm_of cl242_0 18 (q := (39, .goto 4, 42)) rfl
theorem c242_42 : pm_code 242 42 = some (.iconst 3, 43) := pm_of cl242_0 19 (q := (42, .iconst 3, 43)) rfl
theorem c242_43 : pm_code 242 43 = some (.istore_n 1, 44) := pm_of cl242_0 20 (q := (43, .istore_n 1, 44)) rfl
theorem c242_44 : pm_code 242 44 = some (.aload_n 0, 45) := pm_of cl242_0 21 (q := (44, .aload_n 0, 45)) rfl
theorem c242_45 : pm_code 242 45 = some (.dup, 46) := pm_of cl242_0 22 (q := (45, .dup, 46)) rfl
theorem c242_46 : pm_code 242 46 = some (.getfield 120, 49) := pm_of cl242_0 23 (q := (46, .getfield 120, 49)) rfl
theorem c242_49 : pm_code 242 49 = some (.iconst 1, 50) := pm_of cl242_0 24 (q := (49, .iconst 1, 50)) rfl
theorem c242_50 : pm_code 242 50 = some (.iadd, 51) := pm_of cl242_0 25 (q := (50, .iadd, 51)) rfl
theorem c242_51 : pm_code 242 51 = some (.putfield 120, 54) := pm_of cl242_0 26 (q := (51, .putfield 120, 54)) rfl
theorem c242_54 : pm_code 242 54 = some (.aload_n 0, 55) := pm_of cl242_0 27 (q := (54, .aload_n 0, 55)) rfl
theorem c242_55 : pm_code 242 55 = some (.invokevirtual 249, 58) := pm_of cl242_0 28 (q := (55, .invokevirtual 249, 58)) rfl
theorem c242_58 : pm_code 242 58 = some (.aload_n 0, 59) := pm_of cl242_0 29 (q := (58, .aload_n 0, 59)) rfl
theorem c242_59 : pm_code 242 59 = some (.iload_n 1, 60) := pm_of cl242_0 30 (q := (59, .iload_n 1, 60)) rfl
theorem c242_60 : pm_code 242 60 = some (.iconst 0, 61) := pm_of cl242_0 31 (q := (60, .iconst 0, 61)) rfl
theorem c242_61 : pm_code 242 61 = some (.invokevirtual 252, 64) := pm_of cl242_0 32 (q := (61, .invokevirtual 252, 64)) rfl
theorem c242_64 : pm_code 242 64 = some (.goto (-60), 67) := pm_of cl242_0 33 (q := (64, .goto (-60), 67)) rfl
theorem c242_67 : pm_code 242 67 = some (.return_, 68) := pm_of cl242_0 34 (q := (67, .return_, 68)) rfl
theorem k243 : pm_k 243 = 12 := by decide +kernel
theorem ml243 : pm_ml 243 = 2 := by decide +kernel
theorem rt243 : pm_rt 243 = none := by decide +kernel
theorem hh243 : pm_hh 243 = [] := by decide +kernel
theorem rc243 : pm_cl 12 = (pm_y 243).cls := by decide +kernel
theorem cl243_0 : ([(0, .aload_n 0, 1), (1, .invokevirtual 255, 4), (4, .aload_n 0, 5), (5, .invokevirtual 143, 8), (8, .ifCond .eq 59, 11), (11, .aload_n 0, 12), (12, .invokevirtual 126, 15), (15, .bipush 42, 17), (17, .if_icmp .eq 12, 20), (20, .aload_n 0, 21), (21, .invokevirtual 126, 24), (24, .bipush 47, 26), (26, .if_icmp .ne 41, 29), (29, .aload_n 0, 30), (30, .invokevirtual 126, 33), (33, .bipush 42, 35), (35, .if_icmp .ne 7, 38), (38, .iconst 4, 39), (39, .goto 4, 42), (42, .iconst 5, 43), (43, .istore_n 1, 44), (44, .aload_n 0, 45), (45, .dup, 46), (46, .getfield 120, 49), (49, .iconst 1, 50), (50, .iadd, 51), (51, .putfield 120, 54), (54, .aload_n 0, 55), (55, .invokevirtual 255, 58), (58, .aload_n 0, 59), (59, .iload_n 1, 60), (60, .iconst 0, 61), (61, .invokevirtual 252, 64), (64, .goto (-60), 67), (67, .return_, 68)] : List (Nat × Instr × Nat)).all (fun q => decide (pm_code 243 q.1 = some q.2)) = true := by decide +kernel
theorem c243_0 : pm_code 243 0 = some (.aload_n 0, 1) := pm_of cl243_0 0 (q := (0, .aload_n 0, 1)) rfl
theorem c243_1 : pm_code 243 1 = some (.invokevirtual 255, 4) := pm_of cl243_0 1 (q := (1, .invokevirtual 255, 4)) rfl
theorem c243_4 : pm_code 243 4 = some (.aload_n 0, 5) := pm_of cl243_0 2 (q := (4, .aload_n 0, 5)) rfl
theorem c243_5 : pm_code 243 5 = some (.invokevirtual 143, 8) := pm_of cl243_0 3 (q := (5, .invokevirtual 143, 8)) rfl
theorem c243_8 : pm_code 243 8 = some (.ifCond .eq 59, 11) := pm_of cl243_0 4 (q := (8, .ifCond .eq 59, 11)) rfl
theorem c243_11 : pm_code 243 11 = some (.aload_n 0, 12) := pm_of cl243_0 5 (q := (11, .aload_n 0, 12)) rfl
theorem c243_12 : pm_code 243 12 = some (.invokevirtual 126, 15) := pm_of cl243_0 6 (q := (12, .invokevirtual 126, 15)) rfl
theorem c243_15 : pm_code 243 15 = some (.bipush 42, 17) := pm_of cl243_0 7 (q := (15, .bipush 42, 17)) rfl
theorem c243_17 : pm_code 243 17 = some (.if_icmp .eq 12, 20) := pm_of cl243_0 8 (q := (17, .if_icmp .eq 12, 20)) rfl
theorem c243_20 : pm_code 243 20 = some (.aload_n 0, 21) := pm_of cl243_0 9 (q := (20, .aload_n 0, 21)) rfl
theorem c243_21 : pm_code 243 21 = some (.invokevirtual 126, 24) := pm_of cl243_0 10 (q := (21, .invokevirtual 126, 24)) rfl
theorem c243_24 : pm_code 243 24 = some (.bipush 47, 26) := pm_of cl243_0 11 (q := (24, .bipush 47, 26)) rfl
theorem c243_26 : pm_code 243 26 = some (.if_icmp .ne 41, 29) := pm_of cl243_0 12 (q := (26, .if_icmp .ne 41, 29)) rfl
theorem c243_29 : pm_code 243 29 = some (.aload_n 0, 30) := pm_of cl243_0 13 (q := (29, .aload_n 0, 30)) rfl
theorem c243_30 : pm_code 243 30 = some (.invokevirtual 126, 33) := pm_of cl243_0 14 (q := (30, .invokevirtual 126, 33)) rfl
theorem c243_33 : pm_code 243 33 = some (.bipush 42, 35) := pm_of cl243_0 15 (q := (33, .bipush 42, 35)) rfl
theorem c243_35 : pm_code 243 35 = some (.if_icmp .ne 7, 38) := pm_of cl243_0 16 (q := (35, .if_icmp .ne 7, 38)) rfl
theorem c243_38 : pm_code 243 38 = some (.iconst 4, 39) := pm_of cl243_0 17 (q := (38, .iconst 4, 39)) rfl
theorem c243_39 : pm_code 243 39 = some (.goto 4, 42) := pm_of cl243_0 18 (q := (39, .goto 4, 42)) rfl
theorem c243_42 : pm_code 243 42 = some (.iconst 5, 43) := pm_of cl243_0 19 (q := (42, .iconst 5, 43)) rfl
theorem c243_43 : pm_code 243 43 = some (.istore_n 1, 44) := pm_of cl243_0 20 (q := (43, .istore_n 1, 44)) rfl
theorem c243_44 : pm_code 243 44 = some (.aload_n 0, 45) := pm_of cl243_0 21 (q := (44, .aload_n 0, 45)) rfl
theorem c243_45 : pm_code 243 45 = some (.dup, 46) := pm_of cl243_0 22 (q := (45, .dup, 46)) rfl
theorem c243_46 : pm_code 243 46 = some (.getfield 120, 49) := pm_of cl243_0 23 (q := (46, .getfield 120, 49)) rfl
theorem c243_49 : pm_code 243 49 = some (.iconst 1, 50) := pm_of cl243_0 24 (q := (49, .iconst 1, 50)) rfl
theorem c243_50 : pm_code 243 50 = some (.iadd, 51) := pm_of cl243_0 25 (q := (50, .iadd, 51)) rfl
theorem c243_51 : pm_code 243 51 = some (.putfield 120, 54) := pm_of cl243_0 26 (q := (51, .putfield 120, 54)) rfl
theorem c243_54 : pm_code 243 54 = some (.aload_n 0, 55) := pm_of cl243_0 27 (q := (54, .aload_n 0, 55)) rfl
theorem c243_55 : pm_code 243 55 = some (.invokevirtual 255, 58) := pm_of cl243_0 28 (q := (55, .invokevirtual 255, 58)) rfl
theorem c243_58 : pm_code 243 58 = some (.aload_n 0, 59) := pm_of cl243_0 29 (q := (58, .aload_n 0, 59)) rfl
theorem c243_59 : pm_code 243 59 = some (.iload_n 1, 60) := pm_of cl243_0 30 (q := (59, .iload_n 1, 60)) rfl
theorem c243_60 : pm_code 243 60 = some (.iconst 0, 61) := pm_of cl243_0 31 (q := (60, .iconst 0, 61)) rfl
theorem c243_61 : pm_code 243 61 = some (.invokevirtual 252, 64) := pm_of cl243_0 32 (q := (61, .invokevirtual 252, 64)) rfl
theorem c243_64 : pm_code 243 64 = some (.goto (-60), 67) := pm_of cl243_0 33 (q := (64, .goto (-60), 67)) rfl
theorem c243_67 : pm_code 243 67 = some (.return_, 68) := pm_of cl243_0 34 (q := (67, .return_, 68)) rfl
theorem k244 : pm_k 244 = 12 := by decide +kernel
theorem ml244 : pm_ml 244 = 2 := by decide +kernel
theorem rt244 : pm_rt 244 = none := by decide +kernel
theorem hh244 : pm_hh 244 = [] := by decide +kernel
theorem rc244 : pm_cl 12 = (pm_y 244).cls := by decide +kernel
theorem cl244_0 : ([(0, .aload_n 0, 1), (1, .invokevirtual 143, 4), (4, .ifCond .ne 4, 7), (7, .return_, 8), (8, .aload_n 0, 9), (9, .invokevirtual 126, 12), (12, .bipush 40, 14), (14, .if_icmp .ne 31, 17), (17, .aload_n 0, 18), (18, .iconst 1, 19), (19, .invokevirtual 258, 22), (22, .aload_n 0, 23), (23, .invokevirtual 261, 26), (26, .aload_n 0, 27), (27, .bipush 41, 29), (29, .invokevirtual 239, 32), (32, .aload_n 0, 33), (33, .dup, 34), (34, .getfield 154, 37), (37, .iconst 1, 38), (38, .isub, 39), (39, .putfield 154, 42), (42, .goto 112, 45), (45, .aload_n 0, 46), (46, .invokevirtual 126, 49), (49, .invokestatic 147, 52), (52, .ifCond .eq 19, 55), (55, .aload_n 0, 56), (56, .iconst 0, 57), (57, .aload_n 0, 58), (58, .iconst 0, 59), (59, .sipush 999, 62), (62, .invokevirtual 199, 65), (65, .invokevirtual 252, 68), (68, .goto 86, 71), (71, .aload_n 0, 72), (72, .invokevirtual 224, 75), (75, .ldc_w 280, 78), (78, .invokestatic 195, 81), (81, .if_icmp .ne 13, 84)] : List (Nat × Instr × Nat)).all (fun q => decide (pm_code 244 q.1 = some q.2)) = true := by decide +kernel
theorem c244_0 : pm_code 244 0 = some (.aload_n 0, 1) := pm_of cl244_0 0 (q := (0, .aload_n 0, 1)) rfl
theorem c244_1 : pm_code 244 1 = some (.invokevirtual 143, 4) := pm_of cl244_0 1 (q := (1, .invokevirtual 143, 4)) rfl
theorem c244_4 : pm_code 244 4 = some (.ifCond .ne 4, 7) := pm_of cl244_0 2 (q := (4, .ifCond .ne 4, 7)) rfl
theorem c244_7 : pm_code 244 7 = some (.return_, 8) := pm_of cl244_0 3 (q := (7, .return_, 8)) rfl
theorem c244_8 : pm_code 244 8 = some (.aload_n 0, 9) := pm_of cl244_0 4 (q := (8, .aload_n 0, 9)) rfl
theorem c244_9 : pm_code 244 9 = some (.invokevirtual 126, 12) := pm_of cl244_0 5 (q := (9, .invokevirtual 126, 12)) rfl
theorem c244_12 : pm_code 244 12 = some (.bipush 40, 14) := pm_of cl244_0 6 (q := (12, .bipush 40, 14)) rfl
theorem c244_14 : pm_code 244 14 = some (.if_icmp .ne 31, 17) := pm_of cl244_0 7 (q := (14, .if_icmp .ne 31, 17)) rfl
theorem c244_17 : pm_code 244 17 = some (.aload_n 0, 18) := pm_of cl244_0 8 (q := (17, .aload_n 0, 18)) rfl
theorem c244_18 : pm_code 244 18 = some (.iconst 1, 19) := pm_of cl244_0 9 (q := (18, .iconst 1, 19)) rfl
theorem c244_19 : pm_code 244 19 = some (.invokevirtual 258, 22) := pm_of cl244_0 10 (q := (19, .invokevirtual 258, 22)) rfl
theorem c244_22 : pm_code 244 22 = some (.aload_n 0, 23) := pm_of cl244_0 11 (q := (22, .aload_n 0, 23)) rfl
theorem c244_23 : pm_code 244 23 = some (.invokevirtual 261, 26) := pm_of cl244_0 12 (q := (23, .invokevirtual 261, 26)) rfl
theorem c244_26 : pm_code 244 26 = some (.aload_n 0, 27) := pm_of cl244_0 13 (q := (26, .aload_n 0, 27)) rfl
theorem c244_27 : pm_code 244 27 = some (.bipush 41, 29) := pm_of cl244_0 14 (q := (27, .bipush 41, 29)) rfl
theorem c244_29 : pm_code 244 29 = some (.invokevirtual 239, 32) := pm_of cl244_0 15 (q := (29, .invokevirtual 239, 32)) rfl
theorem c244_32 : pm_code 244 32 = some (.aload_n 0, 33) := pm_of cl244_0 16 (q := (32, .aload_n 0, 33)) rfl
theorem c244_33 : pm_code 244 33 = some (.dup, 34) := pm_of cl244_0 17 (q := (33, .dup, 34)) rfl
theorem c244_34 : pm_code 244 34 = some (.getfield 154, 37) := pm_of cl244_0 18 (q := (34, .getfield 154, 37)) rfl
theorem c244_37 : pm_code 244 37 = some (.iconst 1, 38) := pm_of cl244_0 19 (q := (37, .iconst 1, 38)) rfl
theorem c244_38 : pm_code 244 38 = some (.isub, 39) := pm_of cl244_0 20 (q := (38, .isub, 39)) rfl
theorem c244_39 : pm_code 244 39 = some (.putfield 154, 42) := pm_of cl244_0 21 (q := (39, .putfield 154, 42)) rfl
theorem c244_42 : pm_code 244 42 = some (.goto 112, 45) := pm_of cl244_0 22 (q := (42, .goto 112, 45)) rfl
theorem c244_45 : pm_code 244 45 = some (.aload_n 0, 46) := pm_of cl244_0 23 (q := (45, .aload_n 0, 46)) rfl
theorem c244_46 : pm_code 244 46 = some (.invokevirtual 126, 49) := pm_of cl244_0 24 (q := (46, .invokevirtual 126, 49)) rfl
theorem c244_49 : pm_code 244 49 = some (.invokestatic 147, 52) := pm_of cl244_0 25 (q := (49, .invokestatic 147, 52)) rfl
theorem c244_52 : pm_code 244 52 = some (.ifCond .eq 19, 55) := pm_of cl244_0 26 (q := (52, .ifCond .eq 19, 55)) rfl
theorem c244_55 : pm_code 244 55 = some (.aload_n 0, 56) := pm_of cl244_0 27 (q := (55, .aload_n 0, 56)) rfl
theorem c244_56 : pm_code 244 56 = some (.iconst 0, 57) := pm_of cl244_0 28 (q := (56, .iconst 0, 57)) rfl
theorem c244_57 : pm_code 244 57 = some (.aload_n 0, 58) := pm_of cl244_0 29 (q := (57, .aload_n 0, 58)) rfl
theorem c244_58 : pm_code 244 58 = some (.iconst 0, 59) := pm_of cl244_0 30 (q := (58, .iconst 0, 59)) rfl
theorem c244_59 : pm_code 244 59 = some (.sipush 999, 62) := pm_of cl244_0 31 (q := (59, .sipush 999, 62)) rfl
theorem c244_62 : pm_code 244 62 = some (.invokevirtual 199, 65) := pm_of cl244_0 32 (q := (62, .invokevirtual 199, 65)) rfl
theorem c244_65 : pm_code 244 65 = some (.invokevirtual 252, 68) := pm_of cl244_0 33 (q := (65, .invokevirtual 252, 68)) rfl
theorem c244_68 : pm_code 244 68 = some (.goto 86, 71) := pm_of cl244_0 34 (q := (68, .goto 86, 71)) rfl
theorem c244_71 : pm_code 244 71 = some (.aload_n 0, 72) := pm_of cl244_0 35 (q := (71, .aload_n 0, 72)) rfl
theorem c244_72 : pm_code 244 72 = some (.invokevirtual 224, 75) := pm_of cl244_0 36 (q := (72, .invokevirtual 224, 75)) rfl
theorem c244_75 : pm_code 244 75 = some (.ldc_w 280, 78) := pm_of cl244_0 37 (q := (75, .ldc_w 280, 78)) rfl
theorem c244_78 : pm_code 244 78 = some (.invokestatic 195, 81) := pm_of cl244_0 38 (q := (78, .invokestatic 195, 81)) rfl
theorem c244_81 : pm_code 244 81 = some (.if_icmp .ne 13, 84) := pm_of cl244_0 39 (q := (81, .if_icmp .ne 13, 84)) rfl
theorem cl244_1 : ([(84, .aload_n 0, 85), (85, .iconst 5, 86), (86, .bipush 6, 88), (88, .invokevirtual 282, 91), (91, .goto 63, 94), (94, .aload_n 0, 95), (95, .invokevirtual 224, 98), (98, .ldc_w 285, 101), (101, .invokestatic 195, 104), (104, .if_icmp .ne 13, 107), (107, .aload_n 0, 108), (108, .iconst 4, 109), (109, .bipush 7, 111), (111, .invokevirtual 282, 114), (114, .goto 40, 117), (117, .aload_n 0, 118), (118, .invokevirtual 287, 121), (121, .istore_n 1, 122), (122, .iload_n 1, 123), (123, .iconst (-1), 124), (124, .if_icmp .ne 12, 127), (127, .aload_n 0, 128), (128, .iconst 1, 129), (129, .aload_n 0, 130), (130, .getfield 120, 133), (133, .invokevirtual 150, 136), (136, .aload_n 0, 137), (137, .invokevirtual 143, 140), (140, .ifCond .ne 4, 143), (143, .return_, 144), (144, .aload_n 0, 145), (145, .invokevirtual 230, 148), (148, .aload_n 0, 149), (149, .iconst 1, 150), (150, .iload_n 1, 151), (151, .invokevirtual 252, 154), (154, .return_, 155)] : List (Nat × Instr × Nat)).all (fun q => decide (pm_code 244 q.1 = some q.2)) = true := by decide +kernel
theorem c244_84 : pm_code 244 84 = some (.aload_n 0, 85) := pm_of cl244_1 0 (q := (84, .aload_n 0, 85)) rfl
theorem c244_85 : pm_code 244 85 = some (.iconst 5, 86) := pm_of cl244_1 1 (q := (85, .iconst 5, 86)) rfl
theorem c244_86 : pm_code 244 86 = some (.bipush 6, 88) := pm_of cl244_1 2 (q := (86, .bipush 6, 88)) rfl
theorem c244_88 : pm_code 244 88 = some (.invokevirtual 282, 91) := pm_of cl244_1 3 (q := (88, .invokevirtual 282, 91)) rfl
theorem c244_91 : pm_code 244 91 = some (.goto 63, 94) := pm_of cl244_1 4 (q := (91, .goto 63, 94)) rfl
theorem c244_94 : pm_code 244 94 = some (.aload_n 0, 95) := pm_of cl244_1 5 (q := (94, .aload_n 0, 95)) rfl
theorem c244_95 : pm_code 244 95 = some (.invokevirtual 224, 98) := pm_of cl244_1 6 (q := (95, .invokevirtual 224, 98)) rfl
theorem c244_98 : pm_code 244 98 = some (.ldc_w 285, 101) := pm_of cl244_1 7 (q := (98, .ldc_w 285, 101)) rfl
theorem c244_101 : pm_code 244 101 = some (.invokestatic 195, 104) := pm_of cl244_1 8 (q := (101, .invokestatic 195, 104)) rfl
theorem c244_104 : pm_code 244 104 = some (.if_icmp .ne 13, 107) := pm_of cl244_1 9 (q := (104, .if_icmp .ne 13, 107)) rfl
theorem c244_107 : pm_code 244 107 = some (.aload_n 0, 108) := pm_of cl244_1 10 (q := (107, .aload_n 0, 108)) rfl
theorem c244_108 : pm_code 244 108 = some (.iconst 4, 109) := pm_of cl244_1 11 (q := (108, .iconst 4, 109)) rfl
theorem c244_109 : pm_code 244 109 = some (.bipush 7, 111) := pm_of cl244_1 12 (q := (109, .bipush 7, 111)) rfl
theorem c244_111 : pm_code 244 111 = some (.invokevirtual 282, 114) := pm_of cl244_1 13 (q := (111, .invokevirtual 282, 114)) rfl
theorem c244_114 : pm_code 244 114 = some (.goto 40, 117) := pm_of cl244_1 14 (q := (114, .goto 40, 117)) rfl
theorem c244_117 : pm_code 244 117 = some (.aload_n 0, 118) := pm_of cl244_1 15 (q := (117, .aload_n 0, 118)) rfl
theorem c244_118 : pm_code 244 118 = some (.invokevirtual 287, 121) := pm_of cl244_1 16 (q := (118, .invokevirtual 287, 121)) rfl
theorem c244_121 : pm_code 244 121 = some (.istore_n 1, 122) := pm_of cl244_1 17 (q := (121, .istore_n 1, 122)) rfl
theorem c244_122 : pm_code 244 122 = some (.iload_n 1, 123) := pm_of cl244_1 18 (q := (122, .iload_n 1, 123)) rfl
theorem c244_123 : pm_code 244 123 = some (.iconst (-1), 124) := pm_of cl244_1 19 (q := (123, .iconst (-1), 124)) rfl
theorem c244_124 : pm_code 244 124 = some (.if_icmp .ne 12, 127) := pm_of cl244_1 20 (q := (124, .if_icmp .ne 12, 127)) rfl
theorem c244_127 : pm_code 244 127 = some (.aload_n 0, 128) := pm_of cl244_1 21 (q := (127, .aload_n 0, 128)) rfl
theorem c244_128 : pm_code 244 128 = some (.iconst 1, 129) := pm_of cl244_1 22 (q := (128, .iconst 1, 129)) rfl
theorem c244_129 : pm_code 244 129 = some (.aload_n 0, 130) := pm_of cl244_1 23 (q := (129, .aload_n 0, 130)) rfl
theorem c244_130 : pm_code 244 130 = some (.getfield 120, 133) := pm_of cl244_1 24 (q := (130, .getfield 120, 133)) rfl
theorem c244_133 : pm_code 244 133 = some (.invokevirtual 150, 136) := pm_of cl244_1 25 (q := (133, .invokevirtual 150, 136)) rfl
theorem c244_136 : pm_code 244 136 = some (.aload_n 0, 137) := pm_of cl244_1 26 (q := (136, .aload_n 0, 137)) rfl
theorem c244_137 : pm_code 244 137 = some (.invokevirtual 143, 140) := pm_of cl244_1 27 (q := (137, .invokevirtual 143, 140)) rfl
theorem c244_140 : pm_code 244 140 = some (.ifCond .ne 4, 143) := pm_of cl244_1 28 (q := (140, .ifCond .ne 4, 143)) rfl
theorem c244_143 : pm_code 244 143 = some (.return_, 144) := pm_of cl244_1 29 (q := (143, .return_, 144)) rfl
theorem c244_144 : pm_code 244 144 = some (.aload_n 0, 145) := pm_of cl244_1 30 (q := (144, .aload_n 0, 145)) rfl
theorem c244_145 : pm_code 244 145 = some (.invokevirtual 230, 148) := pm_of cl244_1 31 (q := (145, .invokevirtual 230, 148)) rfl
theorem c244_148 : pm_code 244 148 = some (.aload_n 0, 149) := pm_of cl244_1 32 (q := (148, .aload_n 0, 149)) rfl
theorem c244_149 : pm_code 244 149 = some (.iconst 1, 150) := pm_of cl244_1 33 (q := (149, .iconst 1, 150)) rfl
theorem c244_150 : pm_code 244 150 = some (.iload_n 1, 151) := pm_of cl244_1 34 (q := (150, .iload_n 1, 151)) rfl
theorem c244_151 : pm_code 244 151 = some (.invokevirtual 252, 154) := pm_of cl244_1 35 (q := (151, .invokevirtual 252, 154)) rfl
theorem c244_154 : pm_code 244 154 = some (.return_, 155) := pm_of cl244_1 36 (q := (154, .return_, 155)) rfl
theorem k245 : pm_k 245 = 12 := by decide +kernel
theorem ml245 : pm_ml 245 = 2 := by decide +kernel
theorem rt245 : pm_rt 245 = none := by decide +kernel
theorem hh245 : pm_hh 245 = [] := by decide +kernel
theorem rc245 : pm_cl 12 = (pm_y 245).cls := by decide +kernel
theorem cl245_0 : ([(0, .aload_n 0, 1), (1, .invokevirtual 143, 4), (4, .ifCond .eq 21, 7), (7, .aload_n 0, 8), (8, .getfield 154, 11), (11, .bipush 6, 13), (13, .if_icmp .ne 12, 16), (16, .aload_n 0, 17), (17, .iconst 3, 18), (18, .aload_n 0, 19), (19, .getfield 120, 22), (22, .invokevirtual 150, 25), (25, .aload_n 0, 26), (26, .invokevirtual 143, 29), (29, .ifCond .eq 13, 32), (32, .aload_n 0, 33), (33, .dup, 34), (34, .getfield 120, 37), (37, .iload_n 1, 38), (38, .iadd, 39), (39, .putfield 120, 42), (42, .aload_n 0, 43), (43, .dup, 44), (44, .getfield 154, 47), (47, .iconst 1, 48), (48, .iadd, 49), (49, .putfield 154, 52), (52, .return_, 53)] : List (Nat × Instr × Nat)).all (fun q => decide (pm_code 245 q.1 = some q.2)) = true := by decide +kernel
theorem c245_0 : pm_code 245 0 = some (.aload_n 0, 1) := pm_of cl245_0 0 (q := (0, .aload_n 0, 1)) rfl
theorem c245_1 : pm_code 245 1 = some (.invokevirtual 143, 4) := pm_of cl245_0 1 (q := (1, .invokevirtual 143, 4)) rfl
theorem c245_4 : pm_code 245 4 = some (.ifCond .eq 21, 7) := pm_of cl245_0 2 (q := (4, .ifCond .eq 21, 7)) rfl
theorem c245_7 : pm_code 245 7 = some (.aload_n 0, 8) := pm_of cl245_0 3 (q := (7, .aload_n 0, 8)) rfl
theorem c245_8 : pm_code 245 8 = some (.getfield 154, 11) := pm_of cl245_0 4 (q := (8, .getfield 154, 11)) rfl
theorem c245_11 : pm_code 245 11 = some (.bipush 6, 13) := pm_of cl245_0 5 (q := (11, .bipush 6, 13)) rfl
theorem c245_13 : pm_code 245 13 = some (.if_icmp .ne 12, 16) := pm_of cl245_0 6 (q := (13, .if_icmp .ne 12, 16)) rfl
theorem c245_16 : pm_code 245 16 = some (.aload_n 0, 17) := pm_of cl245_0 7 (q := (16, .aload_n 0, 17)) rfl
theorem c245_17 : pm_code 245 17 = some (.iconst 3, 18) := pm_of cl245_0 8 (q := (17, .iconst 3, 18)) rfl
theorem c245_18 : pm_code 245 18 = some (.aload_n 0, 19) := pm_of cl245_0 9 (q := (18, .aload_n 0, 19)) rfl
theorem c245_19 : pm_code 245 19 = some (.getfield 120, 22) := pm_of cl245_0 10 (q := (19, .getfield 120, 22)) rfl
theorem c245_22 : pm_code 245 22 = some (.invokevirtual 150, 25) := pm_of cl245_0 11 (q := (22, .invokevirtual 150, 25)) rfl
theorem c245_25 : pm_code 245 25 = some (.aload_n 0, 26) := pm_of cl245_0 12 (q := (25, .aload_n 0, 26)) rfl
theorem c245_26 : pm_code 245 26 = some (.invokevirtual 143, 29) := pm_of cl245_0 13 (q := (26, .invokevirtual 143, 29)) rfl
theorem c245_29 : pm_code 245 29 = some (.ifCond .eq 13, 32) := pm_of cl245_0 14 (q := (29, .ifCond .eq 13, 32)) rfl
theorem c245_32 : pm_code 245 32 = some (.aload_n 0, 33) := pm_of cl245_0 15 (q := (32, .aload_n 0, 33)) rfl
theorem c245_33 : pm_code 245 33 = some (.dup, 34) := pm_of cl245_0 16 (q := (33, .dup, 34)) rfl
theorem c245_34 : pm_code 245 34 = some (.getfield 120, 37) := pm_of cl245_0 17 (q := (34, .getfield 120, 37)) rfl
theorem c245_37 : pm_code 245 37 = some (.iload_n 1, 38) := pm_of cl245_0 18 (q := (37, .iload_n 1, 38)) rfl
theorem c245_38 : pm_code 245 38 = some (.iadd, 39) := pm_of cl245_0 19 (q := (38, .iadd, 39)) rfl
theorem c245_39 : pm_code 245 39 = some (.putfield 120, 42) := pm_of cl245_0 20 (q := (39, .putfield 120, 42)) rfl
theorem c245_42 : pm_code 245 42 = some (.aload_n 0, 43) := pm_of cl245_0 21 (q := (42, .aload_n 0, 43)) rfl
theorem c245_43 : pm_code 245 43 = some (.dup, 44) := pm_of cl245_0 22 (q := (43, .dup, 44)) rfl
theorem c245_44 : pm_code 245 44 = some (.getfield 154, 47) := pm_of cl245_0 23 (q := (44, .getfield 154, 47)) rfl
theorem c245_47 : pm_code 245 47 = some (.iconst 1, 48) := pm_of cl245_0 24 (q := (47, .iconst 1, 48)) rfl
theorem c245_48 : pm_code 245 48 = some (.iadd, 49) := pm_of cl245_0 25 (q := (48, .iadd, 49)) rfl
theorem c245_49 : pm_code 245 49 = some (.putfield 154, 52) := pm_of cl245_0 26 (q := (49, .putfield 154, 52)) rfl
theorem c245_52 : pm_code 245 52 = some (.return_, 53) := pm_of cl245_0 27 (q := (52, .return_, 53)) rfl
theorem k246 : pm_k 246 = 12 := by decide +kernel
theorem ml246 : pm_ml 246 = 3 := by decide +kernel
theorem rt246 : pm_rt 246 = none := by decide +kernel
theorem hh246 : pm_hh 246 = [] := by decide +kernel
theorem rc246 : pm_cl 12 = (pm_y 246).cls := by decide +kernel
theorem cl246_0 : ([(0, .aload_n 0, 1), (1, .invokevirtual 143, 4), (4, .ifCond .ne 4, 7), (7, .return_, 8), (8, .aload_n 0, 9), (9, .getfield 35, 12), (12, .aload_n 0, 13), (13, .getfield 246, 16), (16, .iload_n 1, 17), (17, .iastore, 18), (18, .aload_n 0, 19), (19, .getfield 38, 22), (22, .aload_n 0, 23), (23, .getfield 246, 26), (26, .iload_n 2, 27), (27, .iastore, 28), (28, .aload_n 0, 29), (29, .dup, 30), (30, .getfield 246, 33), (33, .iconst 1, 34), (34, .iadd, 35), (35, .putfield 246, 38), (38, .return_, 39)] : List (Nat × Instr × Nat)).all (fun q => decide (pm_code 246 q.1 = some q.2)) = true := by decide +kernel
theorem c246_0 : pm_code 246 0 = some (.aload_n 0, 1) := pm_of cl246_0 0 (q := (0, .aload_n 0, 1)) rfl
theorem c246_1 : pm_code 246 1 = some (.invokevirtual 143, 4) := pm_of cl246_0 1 (q := (1, .invokevirtual 143, 4)) rfl
theorem c246_4 : pm_code 246 4 = some (.ifCond .ne 4, 7) := pm_of cl246_0 2 (q := (4, .ifCond .ne 4, 7)) rfl
theorem c246_7 : pm_code 246 7 = some (.return_, 8) := pm_of cl246_0 3 (q := (7, .return_, 8)) rfl
theorem c246_8 : pm_code 246 8 = some (.aload_n 0, 9) := pm_of cl246_0 4 (q := (8, .aload_n 0, 9)) rfl
theorem c246_9 : pm_code 246 9 = some (.getfield 35, 12) := pm_of cl246_0 5 (q := (9, .getfield 35, 12)) rfl
theorem c246_12 : pm_code 246 12 = some (.aload_n 0, 13) := pm_of cl246_0 6 (q := (12, .aload_n 0, 13)) rfl
theorem c246_13 : pm_code 246 13 = some (.getfield 246, 16) := pm_of cl246_0 7 (q := (13, .getfield 246, 16)) rfl
theorem c246_16 : pm_code 246 16 = some (.iload_n 1, 17) := pm_of cl246_0 8 (q := (16, .iload_n 1, 17)) rfl
theorem c246_17 : pm_code 246 17 = some (.iastore, 18) := pm_of cl246_0 9 (q := (17, .iastore, 18)) rfl
theorem c246_18 : pm_code 246 18 = some (.aload_n 0, 19) := pm_of cl246_0 10 (q := (18, .aload_n 0, 19)) rfl
theorem c246_19 : pm_code 246 19 = some (.getfield 38, 22) := pm_of cl246_0 11 (q := (19, .getfield 38, 22)) rfl
theorem c246_22 : pm_code 246 22 = some (.aload_n 0, 23) := pm_of cl246_0 12 (q := (22, .aload_n 0, 23)) rfl
theorem c246_23 : pm_code 246 23 = some (.getfield 246, 26) := pm_of cl246_0 13 (q := (23, .getfield 246, 26)) rfl
theorem c246_26 : pm_code 246 26 = some (.iload_n 2, 27) := pm_of cl246_0 14 (q := (26, .iload_n 2, 27)) rfl
theorem c246_27 : pm_code 246 27 = some (.iastore, 28) := pm_of cl246_0 15 (q := (27, .iastore, 28)) rfl
theorem c246_28 : pm_code 246 28 = some (.aload_n 0, 29) := pm_of cl246_0 16 (q := (28, .aload_n 0, 29)) rfl
theorem c246_29 : pm_code 246 29 = some (.dup, 30) := pm_of cl246_0 17 (q := (29, .dup, 30)) rfl
theorem c246_30 : pm_code 246 30 = some (.getfield 246, 33) := pm_of cl246_0 18 (q := (30, .getfield 246, 33)) rfl
theorem c246_33 : pm_code 246 33 = some (.iconst 1, 34) := pm_of cl246_0 19 (q := (33, .iconst 1, 34)) rfl
theorem c246_34 : pm_code 246 34 = some (.iadd, 35) := pm_of cl246_0 20 (q := (34, .iadd, 35)) rfl
theorem c246_35 : pm_code 246 35 = some (.putfield 246, 38) := pm_of cl246_0 21 (q := (35, .putfield 246, 38)) rfl
theorem c246_38 : pm_code 246 38 = some (.return_, 39) := pm_of cl246_0 22 (q := (38, .return_, 39)) rfl
theorem k247 : pm_k 247 = 12 := by decide +kernel
theorem ml247 : pm_ml 247 = 3 := by decide +kernel
theorem rt247 : pm_rt 247 = none := by decide +kernel
theorem hh247 : pm_hh 247 = [] := by decide +kernel
theorem rc247 : pm_cl 12 = (pm_y 247).cls := by decide +kernel
theorem cl247_0 : ([(0, .aload_n 0, 1), (1, .iload_n 1, 2), (2, .invokevirtual 258, 5), (5, .aload_n 0, 6), (6, .bipush 91, 8), (8, .invokevirtual 239, 11), (11, .aload_n 0, 12), (12, .invokevirtual 261, 15), (15, .aload_n 0, 16), (16, .bipush 44, 18), (18, .invokevirtual 239, 21), (21, .aload_n 0, 22), (22, .invokevirtual 261, 25), (25, .aload_n 0, 26), (26, .bipush 93, 28), (28, .invokevirtual 239, 31), (31, .aload_n 0, 32), (32, .dup, 33), (33, .getfield 154, 36), (36, .iconst 1, 37), (37, .isub, 38), (38, .putfield 154, 41), (41, .aload_n 0, 42), (42, .iload_n 2, 43), (43, .iconst 0, 44), (44, .invokevirtual 252, 47), (47, .return_, 48)] : List (Nat × Instr × Nat)).all (fun q => decide (pm_code 247 q.1 = some q.2)) = true := by decide +kernel
theorem c247_0 : pm_code 247 0 = some (.aload_n 0, 1) := pm_of cl247_0 0 (q := (0, .aload_n 0, 1)) rfl
theorem c247_1 : pm_code 247 1 = some (.iload_n 1, 2) := pm_of cl247_0 1 (q := (1, .iload_n 1, 2)) rfl
theorem c247_2 : pm_code 247 2 = some (.invokevirtual 258, 5) := pm_of cl247_0 2 (q := (2, .invokevirtual 258, 5)) rfl
theorem c247_5 : pm_code 247 5 = some (.aload_n 0, 6) := pm_of cl247_0 3 (q := (5, .aload_n 0, 6)) rfl
theorem c247_6 : pm_code 247 6 = some (.bipush 91, 8) := pm_of cl247_0 4 (q := (6, .bipush 91, 8)) rfl
theorem c247_8 : pm_code 247 8 = some (.invokevirtual 239, 11) := pm_of cl247_0 5 (q := (8, .invokevirtual 239, 11)) rfl
theorem c247_11 : pm_code 247 11 = some (.aload_n 0, 12) := pm_of cl247_0 6 (q := (11, .aload_n 0, 12)) rfl
theorem c247_12 : pm_code 247 12 = some (.invokevirtual 261, 15) := pm_of cl247_0 7 (q := (12, .invokevirtual 261, 15)) rfl
theorem c247_15 : pm_code 247 15 = some (.aload_n 0, 16) := pm_of cl247_0 8 (q := (15, .aload_n 0, 16)) rfl
theorem c247_16 : pm_code 247 16 = some (.bipush 44, 18) := pm_of cl247_0 9 (q := (16, .bipush 44, 18)) rfl
theorem c247_18 : pm_code 247 18 = some (.invokevirtual 239, 21) := pm_of cl247_0 10 (q := (18, .invokevirtual 239, 21)) rfl
theorem c247_21 : pm_code 247 21 = some (.aload_n 0, 22) := pm_of cl247_0 11 (q := (21, .aload_n 0, 22)) rfl
theorem c247_22 : pm_code 247 22 = some (.invokevirtual 261, 25) := pm_of cl247_0 12 (q := (22, .invokevirtual 261, 25)) rfl
theorem c247_25 : pm_code 247 25 = some (.aload_n 0, 26) := pm_of cl247_0 13 (q := (25, .aload_n 0, 26)) rfl
theorem c247_26 : pm_code 247 26 = some (.bipush 93, 28) := pm_of cl247_0 14 (q := (26, .bipush 93, 28)) rfl
theorem c247_28 : pm_code 247 28 = some (.invokevirtual 239, 31) := pm_of cl247_0 15 (q := (28, .invokevirtual 239, 31)) rfl
theorem c247_31 : pm_code 247 31 = some (.aload_n 0, 32) := pm_of cl247_0 16 (q := (31, .aload_n 0, 32)) rfl
theorem c247_32 : pm_code 247 32 = some (.dup, 33) := pm_of cl247_0 17 (q := (32, .dup, 33)) rfl
theorem c247_33 : pm_code 247 33 = some (.getfield 154, 36) := pm_of cl247_0 18 (q := (33, .getfield 154, 36)) rfl
theorem c247_36 : pm_code 247 36 = some (.iconst 1, 37) := pm_of cl247_0 19 (q := (36, .iconst 1, 37)) rfl
theorem c247_37 : pm_code 247 37 = some (.isub, 38) := pm_of cl247_0 20 (q := (37, .isub, 38)) rfl
theorem c247_38 : pm_code 247 38 = some (.putfield 154, 41) := pm_of cl247_0 21 (q := (38, .putfield 154, 41)) rfl
theorem c247_41 : pm_code 247 41 = some (.aload_n 0, 42) := pm_of cl247_0 22 (q := (41, .aload_n 0, 42)) rfl
theorem c247_42 : pm_code 247 42 = some (.iload_n 2, 43) := pm_of cl247_0 23 (q := (42, .iload_n 2, 43)) rfl
theorem c247_43 : pm_code 247 43 = some (.iconst 0, 44) := pm_of cl247_0 24 (q := (43, .iconst 0, 44)) rfl
theorem c247_44 : pm_code 247 44 = some (.invokevirtual 252, 47) := pm_of cl247_0 25 (q := (44, .invokevirtual 252, 47)) rfl
theorem c247_47 : pm_code 247 47 = some (.return_, 48) := pm_of cl247_0 26 (q := (47, .return_, 48)) rfl
theorem k248 : pm_k 248 = 12 := by decide +kernel
theorem ml248 : pm_ml 248 = 2 := by decide +kernel
theorem rt248 : pm_rt 248 = (some .int) := by decide +kernel
theorem hh248 : pm_hh 248 = [] := by decide +kernel
theorem rc248 : pm_cl 12 = (pm_y 248).cls := by decide +kernel
theorem cl248_0 : ([(0, .aload_n 0, 1), (1, .invokevirtual 224, 4), (4, .istore_n 1, 5), (5, .iload_n 1, 6), (6, .ldc_w 264, 9), (9, .invokestatic 195, 12), (12, .if_icmp .ne 7, 15), (15, .iconst 0, 16), (16, .goto 104, 19), (19, .iload_n 1, 20), (20, .ldc_w 266, 23), (23, .invokestatic 195, 26), (26, .if_icmp .ne 7, 29), (29, .iconst 1, 30), (30, .goto 90, 33), (33, .iload_n 1, 34), (34, .ldc_w 268, 37), (37, .invokestatic 195, 40), (40, .if_icmp .ne 7, 43), (43, .iconst 2, 44), (44, .goto 76, 47), (47, .iload_n 1, 48), (48, .ldc_w 270, 51), (51, .invokestatic 195, 54), (54, .if_icmp .ne 7, 57), (57, .iconst 3, 58), (58, .goto 62, 61), (61, .iload_n 1, 62), (62, .ldc_w 272, 65), (65, .invokestatic 195, 68), (68, .if_icmp .ne 7, 71), (71, .iconst 4, 72), (72, .goto 48, 75), (75, .iload_n 1, 76), (76, .ldc_w 274, 79), (79, .invokestatic 195, 82), (82, .if_icmp .ne 7, 85), (85, .iconst 5, 86), (86, .goto 34, 89), (89, .iload_n 1, 90)] : List (Nat × Instr × Nat)).all (fun q => decide (pm_code 248 q.1 = some q.2)) = true := by decide +kernel
theorem c248_0 : pm_code 248 0 = some (.aload_n 0, 1) := pm_of cl248_0 0 (q := (0, .aload_n 0, 1)) rfl
theorem c248_1 : pm_code 248 1 = some (.invokevirtual 224, 4) := pm_of cl248_0 1 (q := (1, .invokevirtual 224, 4)) rfl
theorem c248_4 : pm_code 248 4 = some (.istore_n 1, 5) := pm_of cl248_0 2 (q := (4, .istore_n 1, 5)) rfl
theorem c248_5 : pm_code 248 5 = some (.iload_n 1, 6) := pm_of cl248_0 3 (q := (5, .iload_n 1, 6)) rfl
theorem c248_6 : pm_code 248 6 = some (.ldc_w 264, 9) := pm_of cl248_0 4 (q := (6, .ldc_w 264, 9)) rfl
theorem c248_9 : pm_code 248 9 = some (.invokestatic 195, 12) := pm_of cl248_0 5 (q := (9, .invokestatic 195, 12)) rfl
theorem c248_12 : pm_code 248 12 = some (.if_icmp .ne 7, 15) := pm_of cl248_0 6 (q := (12, .if_icmp .ne 7, 15)) rfl
theorem c248_15 : pm_code 248 15 = some (.iconst 0, 16) := pm_of cl248_0 7 (q := (15, .iconst 0, 16)) rfl
theorem c248_16 : pm_code 248 16 = some (.goto 104, 19) := pm_of cl248_0 8 (q := (16, .goto 104, 19)) rfl
theorem c248_19 : pm_code 248 19 = some (.iload_n 1, 20) := pm_of cl248_0 9 (q := (19, .iload_n 1, 20)) rfl
theorem c248_20 : pm_code 248 20 = some (.ldc_w 266, 23) := pm_of cl248_0 10 (q := (20, .ldc_w 266, 23)) rfl
theorem c248_23 : pm_code 248 23 = some (.invokestatic 195, 26) := pm_of cl248_0 11 (q := (23, .invokestatic 195, 26)) rfl
theorem c248_26 : pm_code 248 26 = some (.if_icmp .ne 7, 29) := pm_of cl248_0 12 (q := (26, .if_icmp .ne 7, 29)) rfl
theorem c248_29 : pm_code 248 29 = some (.iconst 1, 30) := pm_of cl248_0 13 (q := (29, .iconst 1, 30)) rfl
theorem c248_30 : pm_code 248 30 = some (.goto 90, 33) := pm_of cl248_0 14 (q := (30, .goto 90, 33)) rfl
theorem c248_33 : pm_code 248 33 = some (.iload_n 1, 34) := pm_of cl248_0 15 (q := (33, .iload_n 1, 34)) rfl
theorem c248_34 : pm_code 248 34 = some (.ldc_w 268, 37) := pm_of cl248_0 16 (q := (34, .ldc_w 268, 37)) rfl
theorem c248_37 : pm_code 248 37 = some (.invokestatic 195, 40) := pm_of cl248_0 17 (q := (37, .invokestatic 195, 40)) rfl
theorem c248_40 : pm_code 248 40 = some (.if_icmp .ne 7, 43) := pm_of cl248_0 18 (q := (40, .if_icmp .ne 7, 43)) rfl
theorem c248_43 : pm_code 248 43 = some (.iconst 2, 44) := pm_of cl248_0 19 (q := (43, .iconst 2, 44)) rfl
theorem c248_44 : pm_code 248 44 = some (.goto 76, 47) := pm_of cl248_0 20 (q := (44, .goto 76, 47)) rfl
theorem c248_47 : pm_code 248 47 = some (.iload_n 1, 48) := pm_of cl248_0 21 (q := (47, .iload_n 1, 48)) rfl
theorem c248_48 : pm_code 248 48 = some (.ldc_w 270, 51) := pm_of cl248_0 22 (q := (48, .ldc_w 270, 51)) rfl
theorem c248_51 : pm_code 248 51 = some (.invokestatic 195, 54) := pm_of cl248_0 23 (q := (51, .invokestatic 195, 54)) rfl
theorem c248_54 : pm_code 248 54 = some (.if_icmp .ne 7, 57) := pm_of cl248_0 24 (q := (54, .if_icmp .ne 7, 57)) rfl
theorem c248_57 : pm_code 248 57 = some (.iconst 3, 58) := pm_of cl248_0 25 (q := (57, .iconst 3, 58)) rfl
theorem c248_58 : pm_code 248 58 = some (.goto 62, 61) := pm_of cl248_0 26 (q := (58, .goto 62, 61)) rfl
theorem c248_61 : pm_code 248 61 = some (.iload_n 1, 62) := pm_of cl248_0 27 (q := (61, .iload_n 1, 62)) rfl
theorem c248_62 : pm_code 248 62 = some (.ldc_w 272, 65) := pm_of cl248_0 28 (q := (62, .ldc_w 272, 65)) rfl
theorem c248_65 : pm_code 248 65 = some (.invokestatic 195, 68) := pm_of cl248_0 29 (q := (65, .invokestatic 195, 68)) rfl
theorem c248_68 : pm_code 248 68 = some (.if_icmp .ne 7, 71) := pm_of cl248_0 30 (q := (68, .if_icmp .ne 7, 71)) rfl
theorem c248_71 : pm_code 248 71 = some (.iconst 4, 72) := pm_of cl248_0 31 (q := (71, .iconst 4, 72)) rfl
theorem c248_72 : pm_code 248 72 = some (.goto 48, 75) := pm_of cl248_0 32 (q := (72, .goto 48, 75)) rfl
theorem c248_75 : pm_code 248 75 = some (.iload_n 1, 76) := pm_of cl248_0 33 (q := (75, .iload_n 1, 76)) rfl
theorem c248_76 : pm_code 248 76 = some (.ldc_w 274, 79) := pm_of cl248_0 34 (q := (76, .ldc_w 274, 79)) rfl
theorem c248_79 : pm_code 248 79 = some (.invokestatic 195, 82) := pm_of cl248_0 35 (q := (79, .invokestatic 195, 82)) rfl
theorem c248_82 : pm_code 248 82 = some (.if_icmp .ne 7, 85) := pm_of cl248_0 36 (q := (82, .if_icmp .ne 7, 85)) rfl
theorem c248_85 : pm_code 248 85 = some (.iconst 5, 86) := pm_of cl248_0 37 (q := (85, .iconst 5, 86)) rfl
theorem c248_86 : pm_code 248 86 = some (.goto 34, 89) := pm_of cl248_0 38 (q := (86, .goto 34, 89)) rfl
theorem c248_89 : pm_code 248 89 = some (.iload_n 1, 90) := pm_of cl248_0 39 (q := (89, .iload_n 1, 90)) rfl
theorem cl248_1 : ([(90, .ldc_w 276, 93), (93, .invokestatic 195, 96), (96, .if_icmp .ne 8, 99), (99, .bipush 6, 101), (101, .goto 19, 104), (104, .iload_n 1, 105), (105, .ldc_w 278, 108), (108, .invokestatic 195, 111), (111, .if_icmp .ne 8, 114), (114, .bipush 7, 116), (116, .goto 4, 119), (119, .iconst (-1), 120), (120, .ireturn, 121)] : List (Nat × Instr × Nat)).all (fun q => decide (pm_code 248 q.1 = some q.2)) = true := by decide +kernel
theorem c248_90 : pm_code 248 90 = some (.ldc_w 276, 93) := pm_of cl248_1 0 (q := (90, .ldc_w 276, 93)) rfl
theorem c248_93 : pm_code 248 93 = some (.invokestatic 195, 96) := pm_of cl248_1 1 (q := (93, .invokestatic 195, 96)) rfl
theorem c248_96 : pm_code 248 96 = some (.if_icmp .ne 8, 99) := pm_of cl248_1 2 (q := (96, .if_icmp .ne 8, 99)) rfl
theorem c248_99 : pm_code 248 99 = some (.bipush 6, 101) := pm_of cl248_1 3 (q := (99, .bipush 6, 101)) rfl
theorem c248_101 : pm_code 248 101 = some (.goto 19, 104) := pm_of cl248_1 4 (q := (101, .goto 19, 104)) rfl
theorem c248_104 : pm_code 248 104 = some (.iload_n 1, 105) := pm_of cl248_1 5 (q := (104, .iload_n 1, 105)) rfl
theorem c248_105 : pm_code 248 105 = some (.ldc_w 278, 108) := pm_of cl248_1 6 (q := (105, .ldc_w 278, 108)) rfl
theorem c248_108 : pm_code 248 108 = some (.invokestatic 195, 111) := pm_of cl248_1 7 (q := (108, .invokestatic 195, 111)) rfl
theorem c248_111 : pm_code 248 111 = some (.if_icmp .ne 8, 114) := pm_of cl248_1 8 (q := (111, .if_icmp .ne 8, 114)) rfl
theorem c248_114 : pm_code 248 114 = some (.bipush 7, 116) := pm_of cl248_1 9 (q := (114, .bipush 7, 116)) rfl
theorem c248_116 : pm_code 248 116 = some (.goto 4, 119) := pm_of cl248_1 10 (q := (116, .goto 4, 119)) rfl
theorem c248_119 : pm_code 248 119 = some (.iconst (-1), 120) := pm_of cl248_1 11 (q := (119, .iconst (-1), 120)) rfl
theorem c248_120 : pm_code 248 120 = some (.ireturn, 121) := pm_of cl248_1 12 (q := (120, .ireturn, 121)) rfl
theorem k249 : pm_k 249 = 12 := by decide +kernel
theorem ml249 : pm_ml 249 = 4 := by decide +kernel
theorem rt249 : pm_rt 249 = (some .int) := by decide +kernel
theorem hh249 : pm_hh 249 = [] := by decide +kernel
theorem rc249 : pm_cl 12 = (pm_y 249).cls := by decide +kernel
theorem cl249_0 : ([(0, .aload_n 0, 1), (1, .iconst 0, 2), (2, .putfield 3, 5), (5, .aload_n 0, 6), (6, .iload_n 1, 7), (7, .ifCond .lt 22, 10), (10, .iload_n 1, 11), (11, .aload_n 0, 12), (12, .getfield 111, 15), (15, .if_icmp .gt 14, 18), (18, .iload_n 1, 19), (19, .sipush 150, 22), (22, .if_icmp .gt 7, 25), (25, .iconst 1, 26), (26, .goto 4, 29), (29, .iconst 0, 30), (30, .iconst 1, 31), (31, .iconst 1, 32), (32, .invokevirtual 207, 35), (35, .ifCond .ne 5, 38), (38, .iconst 0, 39), (39, .ireturn, 40), (40, .aload_n 0, 41), (41, .iload_n 1, 42), (42, .invokevirtual 211, 45), (45, .aload_n 0, 46), (46, .getfield 185, 49), (49, .bipush 16, 51), (51, .if_icmp .ne 12, 54), (54, .aload_n 0, 55), (55, .iconst 0, 56), (56, .invokevirtual 242, 59), (59, .pop, 60), (60, .bipush (-20), 62), (62, .ireturn, 63), (63, .aload_n 0, 64), (64, .iconst 0, 65), (65, .putfield 301, 68), (68, .aload_n 0, 69), (69, .invokevirtual 143, 72)] : List (Nat × Instr × Nat)).all (fun q => decide (pm_code 249 q.1 = some q.2)) = true := by decide +kernel
theorem c249_0 : pm_code 249 0 = some (.aload_n 0, 1) := pm_of cl249_0 0 (q := (0, .aload_n 0, 1)) rfl
theorem c249_1 : pm_code 249 1 = some (.iconst 0, 2) := pm_of cl249_0 1 (q := (1, .iconst 0, 2)) rfl
theorem c249_2 : pm_code 249 2 = some (.putfield 3, 5) := pm_of cl249_0 2 (q := (2, .putfield 3, 5)) rfl
theorem c249_5 : pm_code 249 5 = some (.aload_n 0, 6) := pm_of cl249_0 3 (q := (5, .aload_n 0, 6)) rfl
theorem c249_6 : pm_code 249 6 = some (.iload_n 1, 7) := pm_of cl249_0 4 (q := (6, .iload_n 1, 7)) rfl
theorem c249_7 : pm_code 249 7 = some (.ifCond .lt 22, 10) := pm_of cl249_0 5 (q := (7, .ifCond .lt 22, 10)) rfl
theorem c249_10 : pm_code 249 10 = some (.iload_n 1, 11) := pm_of cl249_0 6 (q := (10, .iload_n 1, 11)) rfl
theorem c249_11 : pm_code 249 11 = some (.aload_n 0, 12) := pm_of cl249_0 7 (q := (11, .aload_n 0, 12)) rfl
theorem c249_12 : pm_code 249 12 = some (.getfield 111, 15) := pm_of cl249_0 8 (q := (12, .getfield 111, 15)) rfl
theorem c249_15 : pm_code 249 15 = some (.if_icmp .gt 14, 18) := pm_of cl249_0 9 (q := (15, .if_icmp .gt 14, 18)) rfl
theorem c249_18 : pm_code 249 18 = some (.iload_n 1, 19) := pm_of cl249_0 10 (q := (18, .iload_n 1, 19)) rfl
theorem c249_19 : pm_code 249 19 = some (.sipush 150, 22) := pm_of cl249_0 11 (q := (19, .sipush 150, 22)) rfl
theorem c249_22 : pm_code 249 22 = some (.if_icmp .gt 7, 25) := pm_of cl249_0 12 (q := (22, .if_icmp .gt 7, 25)) rfl
theorem c249_25 : pm_code 249 25 = some (.iconst 1, 26) := pm_of cl249_0 13 (q := (25, .iconst 1, 26)) rfl
theorem c249_26 : pm_code 249 26 = some (.goto 4, 29) := pm_of cl249_0 14 (q := (26, .goto 4, 29)) rfl
theorem c249_29 : pm_code 249 29 = some (.iconst 0, 30) := pm_of cl249_0 15 (q := (29, .iconst 0, 30)) rfl
theorem c249_30 : pm_code 249 30 = some (.iconst 1, 31) := pm_of cl249_0 16 (q := (30, .iconst 1, 31)) rfl
theorem c249_31 : pm_code 249 31 = some (.iconst 1, 32) := pm_of cl249_0 17 (q := (31, .iconst 1, 32)) rfl
theorem c249_32 : pm_code 249 32 = some (.invokevirtual 207, 35) := pm_of cl249_0 18 (q := (32, .invokevirtual 207, 35)) rfl
theorem c249_35 : pm_code 249 35 = some (.ifCond .ne 5, 38) := pm_of cl249_0 19 (q := (35, .ifCond .ne 5, 38)) rfl
theorem c249_38 : pm_code 249 38 = some (.iconst 0, 39) := pm_of cl249_0 20 (q := (38, .iconst 0, 39)) rfl
theorem c249_39 : pm_code 249 39 = some (.ireturn, 40) := pm_of cl249_0 21 (q := (39, .ireturn, 40)) rfl
theorem c249_40 : pm_code 249 40 = some (.aload_n 0, 41) := pm_of cl249_0 22 (q := (40, .aload_n 0, 41)) rfl
theorem c249_41 : pm_code 249 41 = some (.iload_n 1, 42) := pm_of cl249_0 23 (q := (41, .iload_n 1, 42)) rfl
theorem c249_42 : pm_code 249 42 = some (.invokevirtual 211, 45) := pm_of cl249_0 24 (q := (42, .invokevirtual 211, 45)) rfl
theorem c249_45 : pm_code 249 45 = some (.aload_n 0, 46) := pm_of cl249_0 25 (q := (45, .aload_n 0, 46)) rfl
theorem c249_46 : pm_code 249 46 = some (.getfield 185, 49) := pm_of cl249_0 26 (q := (46, .getfield 185, 49)) rfl
theorem c249_49 : pm_code 249 49 = some (.bipush 16, 51) := pm_of cl249_0 27 (q := (49, .bipush 16, 51)) rfl
theorem c249_51 : pm_code 249 51 = some (.if_icmp .ne 12, 54) := pm_of cl249_0 28 (q := (51, .if_icmp .ne 12, 54)) rfl
theorem c249_54 : pm_code 249 54 = some (.aload_n 0, 55) := pm_of cl249_0 29 (q := (54, .aload_n 0, 55)) rfl
theorem c249_55 : pm_code 249 55 = some (.iconst 0, 56) := pm_of cl249_0 30 (q := (55, .iconst 0, 56)) rfl
theorem c249_56 : pm_code 249 56 = some (.invokevirtual 242, 59) := pm_of cl249_0 31 (q := (56, .invokevirtual 242, 59)) rfl
theorem c249_59 : pm_code 249 59 = some (.pop, 60) := pm_of cl249_0 32 (q := (59, .pop, 60)) rfl
theorem c249_60 : pm_code 249 60 = some (.bipush (-20), 62) := pm_of cl249_0 33 (q := (60, .bipush (-20), 62)) rfl
theorem c249_62 : pm_code 249 62 = some (.ireturn, 63) := pm_of cl249_0 34 (q := (62, .ireturn, 63)) rfl
theorem c249_63 : pm_code 249 63 = some (.aload_n 0, 64) := pm_of cl249_0 35 (q := (63, .aload_n 0, 64)) rfl
theorem c249_64 : pm_code 249 64 = some (.iconst 0, 65) := pm_of cl249_0 36 (q := (64, .iconst 0, 65)) rfl
theorem c249_65 : pm_code 249 65 = some (.putfield 301, 68) := pm_of cl249_0 37 (q := (65, .putfield 301, 68)) rfl
theorem c249_68 : pm_code 249 68 = some (.aload_n 0, 69) := pm_of cl249_0 38 (q := (68, .aload_n 0, 69)) rfl
theorem c249_69 : pm_code 249 69 = some (.invokevirtual 143, 72) := pm_of cl249_0 39 (q := (69, .invokevirtual 143, 72)) rfl
theorem cl249_1 : ([(72, .ifCond .eq 17, 75), (75, .aload_n 0, 76), (76, .invokevirtual 215, 79), (79, .ifCond .eq 10, 82), (82, .aload_n 0, 83), (83, .invokevirtual 327, 86), (86, .goto (-18), 89), (89, .aload_n 0, 90), (90, .iconst 0, 91), (91, .invokevirtual 242, 94), (94, .istore_n 2, 95), (95, .aload_n 0, 96), (96, .getfield 114, 99), (99, .iconst (-1), 100), (100, .if_icmp .eq 5, 103), (103, .iload_n 2, 104), (104, .ireturn, 105), (105, .aload_n 0, 106), (106, .aload_n 0, 107), (107, .getfield 56, 110), (110, .aload_n 0, 111), (111, .getfield 59, 114), (114, .aload_n 0, 115), (115, .getfield 301, 118), (118, .invokevirtual 178, 121), (121, .iconst 0, 122), (122, .istore_n 3, 123), (123, .iload_n 3, 124), (124, .bipush 66, 126), (126, .if_icmp .ge 29, 129), (129, .aload_n 0, 130), (130, .getfield 68, 133), (133, .bipush 66, 135), (135, .aload_n 0, 136), (136, .getfield 185, 139), (139, .imul, 140), (140, .iload_n 3, 141), (141, .iadd, 142), (142, .aload_n 0, 143), (143, .getfield 62, 146)] : List (Nat × Instr × Nat)).all (fun q => decide (pm_code 249 q.1 = some q.2)) = true := by decide +kernel
theorem c249_72 : pm_code 249 72 = some (.ifCond .eq 17, 75) := pm_of cl249_1 0 (q := (72, .ifCond .eq 17, 75)) rfl
theorem c249_75 : pm_code 249 75 = some (.aload_n 0, 76) := pm_of cl249_1 1 (q := (75, .aload_n 0, 76)) rfl
theorem c249_76 : pm_code 249 76 = some (.invokevirtual 215, 79) := pm_of cl249_1 2 (q := (76, .invokevirtual 215, 79)) rfl
theorem c249_79 : pm_code 249 79 = some (.ifCond .eq 10, 82) := pm_of cl249_1 3 (q := (79, .ifCond .eq 10, 82)) rfl
theorem c249_82 : pm_code 249 82 = some (.aload_n 0, 83) := pm_of cl249_1 4 (q := (82, .aload_n 0, 83)) rfl
theorem c249_83 : pm_code 249 83 = some (.invokevirtual 327, 86) := pm_of cl249_1 5 (q := (83, .invokevirtual 327, 86)) rfl
theorem c249_86 : pm_code 249 86 = some (.goto (-18), 89) := pm_of cl249_1 6 (q := (86, .goto (-18), 89)) rfl
theorem c249_89 : pm_code 249 89 = some (.aload_n 0, 90) := pm_of cl249_1 7 (q := (89, .aload_n 0, 90)) rfl
theorem c249_90 : pm_code 249 90 = some (.iconst 0, 91) := pm_of cl249_1 8 (q := (90, .iconst 0, 91)) rfl
theorem c249_91 : pm_code 249 91 = some (.invokevirtual 242, 94) := pm_of cl249_1 9 (q := (91, .invokevirtual 242, 94)) rfl
theorem c249_94 : pm_code 249 94 = some (.istore_n 2, 95) := pm_of cl249_1 10 (q := (94, .istore_n 2, 95)) rfl
theorem c249_95 : pm_code 249 95 = some (.aload_n 0, 96) := pm_of cl249_1 11 (q := (95, .aload_n 0, 96)) rfl
theorem c249_96 : pm_code 249 96 = some (.getfield 114, 99) := pm_of cl249_1 12 (q := (96, .getfield 114, 99)) rfl
theorem c249_99 : pm_code 249 99 = some (.iconst (-1), 100) := pm_of cl249_1 13 (q := (99, .iconst (-1), 100)) rfl
theorem c249_100 : pm_code 249 100 = some (.if_icmp .eq 5, 103) := pm_of cl249_1 14 (q := (100, .if_icmp .eq 5, 103)) rfl
theorem c249_103 : pm_code 249 103 = some (.iload_n 2, 104) := pm_of cl249_1 15 (q := (103, .iload_n 2, 104)) rfl
theorem c249_104 : pm_code 249 104 = some (.ireturn, 105) := pm_of cl249_1 16 (q := (104, .ireturn, 105)) rfl
theorem c249_105 : pm_code 249 105 = some (.aload_n 0, 106) := pm_of cl249_1 17 (q := (105, .aload_n 0, 106)) rfl
theorem c249_106 : pm_code 249 106 = some (.aload_n 0, 107) := pm_of cl249_1 18 (q := (106, .aload_n 0, 107)) rfl
theorem c249_107 : pm_code 249 107 = some (.getfield 56, 110) := pm_of cl249_1 19 (q := (107, .getfield 56, 110)) rfl
theorem c249_110 : pm_code 249 110 = some (.aload_n 0, 111) := pm_of cl249_1 20 (q := (110, .aload_n 0, 111)) rfl
theorem c249_111 : pm_code 249 111 = some (.getfield 59, 114) := pm_of cl249_1 21 (q := (111, .getfield 59, 114)) rfl
theorem c249_114 : pm_code 249 114 = some (.aload_n 0, 115) := pm_of cl249_1 22 (q := (114, .aload_n 0, 115)) rfl
theorem c249_115 : pm_code 249 115 = some (.getfield 301, 118) := pm_of cl249_1 23 (q := (115, .getfield 301, 118)) rfl
theorem c249_118 : pm_code 249 118 = some (.invokevirtual 178, 121) := pm_of cl249_1 24 (q := (118, .invokevirtual 178, 121)) rfl
theorem c249_121 : pm_code 249 121 = some (.iconst 0, 122) := pm_of cl249_1 25 (q := (121, .iconst 0, 122)) rfl
theorem c249_122 : pm_code 249 122 = some (.istore_n 3, 123) := pm_of cl249_1 26 (q := (122, .istore_n 3, 123)) rfl
theorem c249_123 : pm_code 249 123 = some (.iload_n 3, 124) := pm_of cl249_1 27 (q := (123, .iload_n 3, 124)) rfl
theorem c249_124 : pm_code 249 124 = some (.bipush 66, 126) := pm_of cl249_1 28 (q := (124, .bipush 66, 126)) rfl
theorem c249_126 : pm_code 249 126 = some (.if_icmp .ge 29, 129) := pm_of cl249_1 29 (q := (126, .if_icmp .ge 29, 129)) rfl
theorem c249_129 : pm_code 249 129 = some (.aload_n 0, 130) := pm_of cl249_1 30 (q := (129, .aload_n 0, 130)) rfl
theorem c249_130 : pm_code 249 130 = some (.getfield 68, 133) := pm_of cl249_1 31 (q := (130, .getfield 68, 133)) rfl
theorem c249_133 : pm_code 249 133 = some (.bipush 66, 135) := pm_of cl249_1 32 (q := (133, .bipush 66, 135)) rfl
theorem c249_135 : pm_code 249 135 = some (.aload_n 0, 136) := pm_of cl249_1 33 (q := (135, .aload_n 0, 136)) rfl
theorem c249_136 : pm_code 249 136 = some (.getfield 185, 139) := pm_of cl249_1 34 (q := (136, .getfield 185, 139)) rfl
theorem c249_139 : pm_code 249 139 = some (.imul, 140) := pm_of cl249_1 35 (q := (139, .imul, 140)) rfl
theorem c249_140 : pm_code 249 140 = some (.iload_n 3, 141) := pm_of cl249_1 36 (q := (140, .iload_n 3, 141)) rfl
theorem c249_141 : pm_code 249 141 = some (.iadd, 142) := pm_of cl249_1 37 (q := (141, .iadd, 142)) rfl
theorem c249_142 : pm_code 249 142 = some (.aload_n 0, 143) := pm_of cl249_1 38 (q := (142, .aload_n 0, 143)) rfl
theorem c249_143 : pm_code 249 143 = some (.getfield 62, 146) := pm_of cl249_1 39 (q := (143, .getfield 62, 146)) rfl
theorem cl249_2 : ([(146, .iload_n 3, 147), (147, .iaload, 148), (148, .iastore, 149), (149, .iinc 3 1, 152), (152, .goto (-29), 155), (155, .aload_n 0, 156), (156, .dup, 157), (157, .getfield 185, 160), (160, .iconst 1, 161), (161, .iadd, 162), (162, .putfield 185, 165), (165, .aload_n 0, 166), (166, .invokevirtual 330, 169), (169, .aload_n 0, 170), (170, .iconst 0, 171), (171, .putfield 333, 174), (174, .aload_n 0, 175), (175, .iconst 0, 176), (176, .putfield 336, 179), (179, .aload_n 0, 180), (180, .iconst 0, 181), (181, .putfield 339, 184), (184, .aload_n 0, 185), (185, .iconst 0, 186), (186, .aload_n 0, 187), (187, .getfield 301, 190), (190, .invokevirtual 342, 193), (193, .aload_n 0, 194), (194, .aload_n 0, 195), (195, .getfield 65, 198), (198, .aload_n 0, 199), (199, .getfield 62, 202), (202, .bipush 66, 204), (204, .invokevirtual 178, 207), (207, .aload_n 0, 208), (208, .aload_n 0, 209), (209, .getfield 339, 212), (212, .putfield 191, 215), (215, .aload_n 0, 216), (216, .getfield 336, 219)] : List (Nat × Instr × Nat)).all (fun q => decide (pm_code 249 q.1 = some q.2)) = true := by decide +kernel
theorem c249_146 : pm_code 249 146 = some (.iload_n 3, 147) := pm_of cl249_2 0 (q := (146, .iload_n 3, 147)) rfl
theorem c249_147 : pm_code 249 147 = some (.iaload, 148) := pm_of cl249_2 1 (q := (147, .iaload, 148)) rfl
theorem c249_148 : pm_code 249 148 = some (.iastore, 149) := pm_of cl249_2 2 (q := (148, .iastore, 149)) rfl
theorem c249_149 : pm_code 249 149 = some (.iinc 3 1, 152) := pm_of cl249_2 3 (q := (149, .iinc 3 1, 152)) rfl
theorem c249_152 : pm_code 249 152 = some (.goto (-29), 155) := pm_of cl249_2 4 (q := (152, .goto (-29), 155)) rfl
theorem c249_155 : pm_code 249 155 = some (.aload_n 0, 156) := pm_of cl249_2 5 (q := (155, .aload_n 0, 156)) rfl
theorem c249_156 : pm_code 249 156 = some (.dup, 157) := pm_of cl249_2 6 (q := (156, .dup, 157)) rfl
theorem c249_157 : pm_code 249 157 = some (.getfield 185, 160) := pm_of cl249_2 7 (q := (157, .getfield 185, 160)) rfl
theorem c249_160 : pm_code 249 160 = some (.iconst 1, 161) := pm_of cl249_2 8 (q := (160, .iconst 1, 161)) rfl
theorem c249_161 : pm_code 249 161 = some (.iadd, 162) := pm_of cl249_2 9 (q := (161, .iadd, 162)) rfl
theorem c249_162 : pm_code 249 162 = some (.putfield 185, 165) := pm_of cl249_2 10 (q := (162, .putfield 185, 165)) rfl
theorem c249_165 : pm_code 249 165 = some (.aload_n 0, 166) := pm_of cl249_2 11 (q := (165, .aload_n 0, 166)) rfl
theorem c249_166 : pm_code 249 166 = some (.invokevirtual 330, 169) := pm_of cl249_2 12 (q := (166, .invokevirtual 330, 169)) rfl
theorem c249_169 : pm_code 249 169 = some (.aload_n 0, 170) := pm_of cl249_2 13 (q := (169, .aload_n 0, 170)) rfl
theorem c249_170 : pm_code 249 170 = some (.iconst 0, 171) := pm_of cl249_2 14 (q := (170, .iconst 0, 171)) rfl
theorem c249_171 : pm_code 249 171 = some (.putfield 333, 174) := pm_of cl249_2 15 (q := (171, .putfield 333, 174)) rfl
theorem c249_174 : pm_code 249 174 = some (.aload_n 0, 175) := pm_of cl249_2 16 (q := (174, .aload_n 0, 175)) rfl
theorem c249_175 : pm_code 249 175 = some (.iconst 0, 176) := pm_of cl249_2 17 (q := (175, .iconst 0, 176)) rfl
theorem c249_176 : pm_code 249 176 = some (.putfield 336, 179) := pm_of cl249_2 18 (q := (176, .putfield 336, 179)) rfl
theorem c249_179 : pm_code 249 179 = some (.aload_n 0, 180) := pm_of cl249_2 19 (q := (179, .aload_n 0, 180)) rfl
theorem c249_180 : pm_code 249 180 = some (.iconst 0, 181) := pm_of cl249_2 20 (q := (180, .iconst 0, 181)) rfl
theorem c249_181 : pm_code 249 181 = some (.putfield 339, 184) := pm_of cl249_2 21 (q := (181, .putfield 339, 184)) rfl
theorem c249_184 : pm_code 249 184 = some (.aload_n 0, 185) := pm_of cl249_2 22 (q := (184, .aload_n 0, 185)) rfl
theorem c249_185 : pm_code 249 185 = some (.iconst 0, 186) := pm_of cl249_2 23 (q := (185, .iconst 0, 186)) rfl
theorem c249_186 : pm_code 249 186 = some (.aload_n 0, 187) := pm_of cl249_2 24 (q := (186, .aload_n 0, 187)) rfl
theorem c249_187 : pm_code 249 187 = some (.getfield 301, 190) := pm_of cl249_2 25 (q := (187, .getfield 301, 190)) rfl
theorem c249_190 : pm_code 249 190 = some (.invokevirtual 342, 193) := pm_of cl249_2 26 (q := (190, .invokevirtual 342, 193)) rfl
theorem c249_193 : pm_code 249 193 = some (.aload_n 0, 194) := pm_of cl249_2 27 (q := (193, .aload_n 0, 194)) rfl
theorem c249_194 : pm_code 249 194 = some (.aload_n 0, 195) := pm_of cl249_2 28 (q := (194, .aload_n 0, 195)) rfl
theorem c249_195 : pm_code 249 195 = some (.getfield 65, 198) := pm_of cl249_2 29 (q := (195, .getfield 65, 198)) rfl
theorem c249_198 : pm_code 249 198 = some (.aload_n 0, 199) := pm_of cl249_2 30 (q := (198, .aload_n 0, 199)) rfl
theorem c249_199 : pm_code 249 199 = some (.getfield 62, 202) := pm_of cl249_2 31 (q := (199, .getfield 62, 202)) rfl
theorem c249_202 : pm_code 249 202 = some (.bipush 66, 204) := pm_of cl249_2 32 (q := (202, .bipush 66, 204)) rfl
theorem c249_204 : pm_code 249 204 = some (.invokevirtual 178, 207) := pm_of cl249_2 33 (q := (204, .invokevirtual 178, 207)) rfl
theorem c249_207 : pm_code 249 207 = some (.aload_n 0, 208) := pm_of cl249_2 34 (q := (207, .aload_n 0, 208)) rfl
theorem c249_208 : pm_code 249 208 = some (.aload_n 0, 209) := pm_of cl249_2 35 (q := (208, .aload_n 0, 209)) rfl
theorem c249_209 : pm_code 249 209 = some (.getfield 339, 212) := pm_of cl249_2 36 (q := (209, .getfield 339, 212)) rfl
theorem c249_212 : pm_code 249 212 = some (.putfield 191, 215) := pm_of cl249_2 37 (q := (212, .putfield 191, 215)) rfl
theorem c249_215 : pm_code 249 215 = some (.aload_n 0, 216) := pm_of cl249_2 38 (q := (215, .aload_n 0, 216)) rfl
theorem c249_216 : pm_code 249 216 = some (.getfield 336, 219) := pm_of cl249_2 39 (q := (216, .getfield 336, 219)) rfl
theorem cl249_3 : ([(219, .ireturn, 220)] : List (Nat × Instr × Nat)).all (fun q => decide (pm_code 249 q.1 = some q.2)) = true := by decide +kernel
theorem c249_219 : pm_code 249 219 = some (.ireturn, 220) := pm_of cl249_3 0 (q := (219, .ireturn, 220)) rfl
theorem k250 : pm_k 250 = 12 := by decide +kernel
theorem ml250 : pm_ml 250 = 4 := by decide +kernel
theorem rt250 : pm_rt 250 = none := by decide +kernel
theorem hh250 : pm_hh 250 = [] := by decide +kernel
theorem rc250 : pm_cl 12 = (pm_y 250).cls := by decide +kernel
theorem cl250_0 : ([(0, .aload_n 0, 1), (1, .invokevirtual 224, 4), (4, .istore_n 1, 5), (5, .iload_n 1, 6), (6, .ldc_w 304, 9), (9, .invokestatic 195, 12), (12, .if_icmp .eq 13, 15), (15, .iload_n 1, 16), (16, .ldc_w 278, 19), (19, .invokestatic 195, 22), (22, .if_icmp .ne 32, 25), (25, .aload_n 0, 26), (26, .invokevirtual 230, 29), (29, .aload_n 0, 30), (30, .iload_n 1, 31), (31, .ldc_w 304, 34), (34, .invokestatic 195, 37), (37, .if_icmp .ne 7, 40), (40, .iconst 0, 41), (41, .goto 5, 44), (44, .bipush 7, 46), (46, .iconst 0, 47), (47, .iconst 0, 48), (48, .invokevirtual 306, 51), (51, .goto 289, 54), (54, .iload_n 1, 55), (55, .ldc_w 310, 58), (58, .invokestatic 195, 61), (61, .if_icmp .ne 32, 64), (64, .aload_n 0, 65), (65, .invokevirtual 230, 68), (68, .aload_n 0, 69), (69, .invokevirtual 312, 72), (72, .istore_n 2, 73), (73, .aload_n 0, 74), (74, .iconst 1, 75), (75, .iload_n 2, 76), (76, .aload_n 0, 77), (77, .iconst 0, 78), (78, .aload_n 0, 79)] : List (Nat × Instr × Nat)).all (fun q => decide (pm_code 250 q.1 = some q.2)) = true := by decide +kernel
theorem c250_0 : pm_code 250 0 = some (.aload_n 0, 1) := pm_of cl250_0 0 (q := (0, .aload_n 0, 1)) rfl
theorem c250_1 : pm_code 250 1 = some (.invokevirtual 224, 4) := pm_of cl250_0 1 (q := (1, .invokevirtual 224, 4)) rfl
theorem c250_4 : pm_code 250 4 = some (.istore_n 1, 5) := pm_of cl250_0 2 (q := (4, .istore_n 1, 5)) rfl
theorem c250_5 : pm_code 250 5 = some (.iload_n 1, 6) := pm_of cl250_0 3 (q := (5, .iload_n 1, 6)) rfl
theorem c250_6 : pm_code 250 6 = some (.ldc_w 304, 9) := pm_of cl250_0 4 (q := (6, .ldc_w 304, 9)) rfl
theorem c250_9 : pm_code 250 9 = some (.invokestatic 195, 12) := pm_of cl250_0 5 (q := (9, .invokestatic 195, 12)) rfl
theorem c250_12 : pm_code 250 12 = some (.if_icmp .eq 13, 15) := pm_of cl250_0 6 (q := (12, .if_icmp .eq 13, 15)) rfl
theorem c250_15 : pm_code 250 15 = some (.iload_n 1, 16) := pm_of cl250_0 7 (q := (15, .iload_n 1, 16)) rfl
theorem c250_16 : pm_code 250 16 = some (.ldc_w 278, 19) := pm_of cl250_0 8 (q := (16, .ldc_w 278, 19)) rfl
theorem c250_19 : pm_code 250 19 = some (.invokestatic 195, 22) := pm_of cl250_0 9 (q := (19, .invokestatic 195, 22)) rfl
theorem c250_22 : pm_code 250 22 = some (.if_icmp .ne 32, 25) := pm_of cl250_0 10 (q := (22, .if_icmp .ne 32, 25)) rfl
theorem c250_25 : pm_code 250 25 = some (.aload_n 0, 26) := pm_of cl250_0 11 (q := (25, .aload_n 0, 26)) rfl
theorem c250_26 : pm_code 250 26 = some (.invokevirtual 230, 29) := pm_of cl250_0 12 (q := (26, .invokevirtual 230, 29)) rfl
theorem c250_29 : pm_code 250 29 = some (.aload_n 0, 30) := pm_of cl250_0 13 (q := (29, .aload_n 0, 30)) rfl
theorem c250_30 : pm_code 250 30 = some (.iload_n 1, 31) := pm_of cl250_0 14 (q := (30, .iload_n 1, 31)) rfl
theorem c250_31 : pm_code 250 31 = some (.ldc_w 304, 34) := pm_of cl250_0 15 (q := (31, .ldc_w 304, 34)) rfl
theorem c250_34 : pm_code 250 34 = some (.invokestatic 195, 37) := pm_of cl250_0 16 (q := (34, .invokestatic 195, 37)) rfl
theorem c250_37 : pm_code 250 37 = some (.if_icmp .ne 7, 40) := pm_of cl250_0 17 (q := (37, .if_icmp .ne 7, 40)) rfl
theorem c250_40 : pm_code 250 40 = some (.iconst 0, 41) := pm_of cl250_0 18 (q := (40, .iconst 0, 41)) rfl
theorem c250_41 : pm_code 250 41 = some (.goto 5, 44) := pm_of cl250_0 19 (q := (41, .goto 5, 44)) rfl
theorem c250_44 : pm_code 250 44 = some (.bipush 7, 46) := pm_of cl250_0 20 (q := (44, .bipush 7, 46)) rfl
theorem c250_46 : pm_code 250 46 = some (.iconst 0, 47) := pm_of cl250_0 21 (q := (46, .iconst 0, 47)) rfl
theorem c250_47 : pm_code 250 47 = some (.iconst 0, 48) := pm_of cl250_0 22 (q := (47, .iconst 0, 48)) rfl
theorem c250_48 : pm_code 250 48 = some (.invokevirtual 306, 51) := pm_of cl250_0 23 (q := (48, .invokevirtual 306, 51)) rfl
theorem c250_51 : pm_code 250 51 = some (.goto 289, 54) := pm_of cl250_0 24 (q := (51, .goto 289, 54)) rfl
theorem c250_54 : pm_code 250 54 = some (.iload_n 1, 55) := pm_of cl250_0 25 (q := (54, .iload_n 1, 55)) rfl
theorem c250_55 : pm_code 250 55 = some (.ldc_w 310, 58) := pm_of cl250_0 26 (q := (55, .ldc_w 310, 58)) rfl
theorem c250_58 : pm_code 250 58 = some (.invokestatic 195, 61) := pm_of cl250_0 27 (q := (58, .invokestatic 195, 61)) rfl
theorem c250_61 : pm_code 250 61 = some (.if_icmp .ne 32, 64) := pm_of cl250_0 28 (q := (61, .if_icmp .ne 32, 64)) rfl
theorem c250_64 : pm_code 250 64 = some (.aload_n 0, 65) := pm_of cl250_0 29 (q := (64, .aload_n 0, 65)) rfl
theorem c250_65 : pm_code 250 65 = some (.invokevirtual 230, 68) := pm_of cl250_0 30 (q := (65, .invokevirtual 230, 68)) rfl
theorem c250_68 : pm_code 250 68 = some (.aload_n 0, 69) := pm_of cl250_0 31 (q := (68, .aload_n 0, 69)) rfl
theorem c250_69 : pm_code 250 69 = some (.invokevirtual 312, 72) := pm_of cl250_0 32 (q := (69, .invokevirtual 312, 72)) rfl
theorem c250_72 : pm_code 250 72 = some (.istore_n 2, 73) := pm_of cl250_0 33 (q := (72, .istore_n 2, 73)) rfl
theorem c250_73 : pm_code 250 73 = some (.aload_n 0, 74) := pm_of cl250_0 34 (q := (73, .aload_n 0, 74)) rfl
theorem c250_74 : pm_code 250 74 = some (.iconst 1, 75) := pm_of cl250_0 35 (q := (74, .iconst 1, 75)) rfl
theorem c250_75 : pm_code 250 75 = some (.iload_n 2, 76) := pm_of cl250_0 36 (q := (75, .iload_n 2, 76)) rfl
theorem c250_76 : pm_code 250 76 = some (.aload_n 0, 77) := pm_of cl250_0 37 (q := (76, .aload_n 0, 77)) rfl
theorem c250_77 : pm_code 250 77 = some (.iconst 0, 78) := pm_of cl250_0 38 (q := (77, .iconst 0, 78)) rfl
theorem c250_78 : pm_code 250 78 = some (.aload_n 0, 79) := pm_of cl250_0 39 (q := (78, .aload_n 0, 79)) rfl
theorem cl250_1 : ([(79, .getfield 172, 82), (82, .iconst 1, 83), (83, .isub, 84), (84, .invokevirtual 199, 87), (87, .invokevirtual 306, 90), (90, .goto 250, 93), (93, .iload_n 1, 94), (94, .ldc_w 315, 97), (97, .invokestatic 195, 100), (100, .if_icmp .ne 28, 103), (103, .aload_n 0, 104), (104, .invokevirtual 230, 107), (107, .aload_n 0, 108), (108, .invokevirtual 312, 111), (111, .istore_n 2, 112), (112, .aload_n 0, 113), (113, .iconst 2, 114), (114, .iload_n 2, 115), (115, .aload_n 0, 116), (116, .iconst 1, 117), (117, .bipush 24, 119), (119, .invokevirtual 199, 122), (122, .invokevirtual 306, 125), (125, .goto 215, 128), (128, .iload_n 1, 129), (129, .ldc_w 317, 132), (132, .invokestatic 195, 135), (135, .if_icmp .eq 33, 138), (138, .iload_n 1, 139), (139, .ldc_w 319, 142), (142, .invokestatic 195, 145), (145, .if_icmp .eq 23, 148), (148, .iload_n 1, 149), (149, .ldc_w 321, 152), (152, .invokestatic 195, 155), (155, .if_icmp .eq 13, 158), (158, .iload_n 1, 159), (159, .ldc_w 323, 162), (162, .invokestatic 195, 165), (165, .if_icmp .ne 63, 168)] : List (Nat × Instr × Nat)).all (fun q => decide (pm_code 250 q.1 = some q.2)) = true := by decide +kernel
theorem c250_79 : pm_code 250 79 = some (.getfield 172, 82) := pm_of cl250_1 0 (q := (79, .getfield 172, 82)) rfl
theorem c250_82 : pm_code 250 82 = some (.iconst 1, 83) := pm_of cl250_1 1 (q := (82, .iconst 1, 83)) rfl
theorem c250_83 : pm_code 250 83 = some (.isub, 84) := pm_of cl250_1 2 (q := (83, .isub, 84)) rfl
theorem c250_84 : pm_code 250 84 = some (.invokevirtual 199, 87) := pm_of cl250_1 3 (q := (84, .invokevirtual 199, 87)) rfl
theorem c250_87 : pm_code 250 87 = some (.invokevirtual 306, 90) := pm_of cl250_1 4 (q := (87, .invokevirtual 306, 90)) rfl
theorem c250_90 : pm_code 250 90 = some (.goto 250, 93) := pm_of cl250_1 5 (q := (90, .goto 250, 93)) rfl
theorem c250_93 : pm_code 250 93 = some (.iload_n 1, 94) := pm_of cl250_1 6 (q := (93, .iload_n 1, 94)) rfl
theorem c250_94 : pm_code 250 94 = some (.ldc_w 315, 97) := pm_of cl250_1 7 (q := (94, .ldc_w 315, 97)) rfl
theorem c250_97 : pm_code 250 97 = some (.invokestatic 195, 100) := pm_of cl250_1 8 (q := (97, .invokestatic 195, 100)) rfl
theorem c250_100 : pm_code 250 100 = some (.if_icmp .ne 28, 103) := pm_of cl250_1 9 (q := (100, .if_icmp .ne 28, 103)) rfl
theorem c250_103 : pm_code 250 103 = some (.aload_n 0, 104) := pm_of cl250_1 10 (q := (103, .aload_n 0, 104)) rfl
theorem c250_104 : pm_code 250 104 = some (.invokevirtual 230, 107) := pm_of cl250_1 11 (q := (104, .invokevirtual 230, 107)) rfl
theorem c250_107 : pm_code 250 107 = some (.aload_n 0, 108) := pm_of cl250_1 12 (q := (107, .aload_n 0, 108)) rfl
theorem c250_108 : pm_code 250 108 = some (.invokevirtual 312, 111) := pm_of cl250_1 13 (q := (108, .invokevirtual 312, 111)) rfl
theorem c250_111 : pm_code 250 111 = some (.istore_n 2, 112) := pm_of cl250_1 14 (q := (111, .istore_n 2, 112)) rfl
theorem c250_112 : pm_code 250 112 = some (.aload_n 0, 113) := pm_of cl250_1 15 (q := (112, .aload_n 0, 113)) rfl
theorem c250_113 : pm_code 250 113 = some (.iconst 2, 114) := pm_of cl250_1 16 (q := (113, .iconst 2, 114)) rfl
theorem c250_114 : pm_code 250 114 = some (.iload_n 2, 115) := pm_of cl250_1 17 (q := (114, .iload_n 2, 115)) rfl
theorem c250_115 : pm_code 250 115 = some (.aload_n 0, 116) := pm_of cl250_1 18 (q := (115, .aload_n 0, 116)) rfl
theorem c250_116 : pm_code 250 116 = some (.iconst 1, 117) := pm_of cl250_1 19 (q := (116, .iconst 1, 117)) rfl
theorem c250_117 : pm_code 250 117 = some (.bipush 24, 119) := pm_of cl250_1 20 (q := (117, .bipush 24, 119)) rfl
theorem c250_119 : pm_code 250 119 = some (.invokevirtual 199, 122) := pm_of cl250_1 21 (q := (119, .invokevirtual 199, 122)) rfl
theorem c250_122 : pm_code 250 122 = some (.invokevirtual 306, 125) := pm_of cl250_1 22 (q := (122, .invokevirtual 306, 125)) rfl
theorem c250_125 : pm_code 250 125 = some (.goto 215, 128) := pm_of cl250_1 23 (q := (125, .goto 215, 128)) rfl
theorem c250_128 : pm_code 250 128 = some (.iload_n 1, 129) := pm_of cl250_1 24 (q := (128, .iload_n 1, 129)) rfl
theorem c250_129 : pm_code 250 129 = some (.ldc_w 317, 132) := pm_of cl250_1 25 (q := (129, .ldc_w 317, 132)) rfl
theorem c250_132 : pm_code 250 132 = some (.invokestatic 195, 135) := pm_of cl250_1 26 (q := (132, .invokestatic 195, 135)) rfl
theorem c250_135 : pm_code 250 135 = some (.if_icmp .eq 33, 138) := pm_of cl250_1 27 (q := (135, .if_icmp .eq 33, 138)) rfl
theorem c250_138 : pm_code 250 138 = some (.iload_n 1, 139) := pm_of cl250_1 28 (q := (138, .iload_n 1, 139)) rfl
theorem c250_139 : pm_code 250 139 = some (.ldc_w 319, 142) := pm_of cl250_1 29 (q := (139, .ldc_w 319, 142)) rfl
theorem c250_142 : pm_code 250 142 = some (.invokestatic 195, 145) := pm_of cl250_1 30 (q := (142, .invokestatic 195, 145)) rfl
theorem c250_145 : pm_code 250 145 = some (.if_icmp .eq 23, 148) := pm_of cl250_1 31 (q := (145, .if_icmp .eq 23, 148)) rfl
theorem c250_148 : pm_code 250 148 = some (.iload_n 1, 149) := pm_of cl250_1 32 (q := (148, .iload_n 1, 149)) rfl
theorem c250_149 : pm_code 250 149 = some (.ldc_w 321, 152) := pm_of cl250_1 33 (q := (149, .ldc_w 321, 152)) rfl
theorem c250_152 : pm_code 250 152 = some (.invokestatic 195, 155) := pm_of cl250_1 34 (q := (152, .invokestatic 195, 155)) rfl
theorem c250_155 : pm_code 250 155 = some (.if_icmp .eq 13, 158) := pm_of cl250_1 35 (q := (155, .if_icmp .eq 13, 158)) rfl
theorem c250_158 : pm_code 250 158 = some (.iload_n 1, 159) := pm_of cl250_1 36 (q := (158, .iload_n 1, 159)) rfl
theorem c250_159 : pm_code 250 159 = some (.ldc_w 323, 162) := pm_of cl250_1 37 (q := (159, .ldc_w 323, 162)) rfl
theorem c250_162 : pm_code 250 162 = some (.invokestatic 195, 165) := pm_of cl250_1 38 (q := (162, .invokestatic 195, 165)) rfl
theorem c250_165 : pm_code 250 165 = some (.if_icmp .ne 63, 168) := pm_of cl250_1 39 (q := (165, .if_icmp .ne 63, 168)) rfl
theorem cl250_2 : ([(168, .aload_n 0, 169), (169, .invokevirtual 230, 172), (172, .aload_n 0, 173), (173, .iload_n 1, 174), (174, .ldc_w 317, 177), (177, .invokestatic 195, 180), (180, .if_icmp .ne 7, 183), (183, .iconst 3, 184), (184, .goto 33, 187), (187, .iload_n 1, 188), (188, .ldc_w 319, 191), (191, .invokestatic 195, 194), (194, .if_icmp .ne 7, 197), (197, .iconst 4, 198), (198, .goto 19, 201), (201, .iload_n 1, 202), (202, .ldc_w 321, 205), (205, .invokestatic 195, 208), (208, .if_icmp .ne 7, 211), (211, .iconst 5, 212), (212, .goto 5, 215), (215, .bipush 6, 217), (217, .aload_n 0, 218), (218, .invokevirtual 312, 221), (221, .iconst 0, 222), (222, .invokevirtual 306, 225), (225, .goto 115, 228), (228, .iload_n 1, 229), (229, .ldc_w 325, 232), (232, .invokestatic 195, 235), (235, .if_icmp .ne 96, 238), (238, .aload_n 0, 239), (239, .iconst 5, 240), (240, .invokevirtual 258, 243), (243, .aload_n 0, 244), (244, .iconst 0, 245), (245, .bipush 60, 247), (247, .invokevirtual 199, 250), (250, .istore_n 2, 251), (251, .aload_n 0, 252)] : List (Nat × Instr × Nat)).all (fun q => decide (pm_code 250 q.1 = some q.2)) = true := by decide +kernel
theorem c250_168 : pm_code 250 168 = some (.aload_n 0, 169) := pm_of cl250_2 0 (q := (168, .aload_n 0, 169)) rfl
theorem c250_169 : pm_code 250 169 = some (.invokevirtual 230, 172) := pm_of cl250_2 1 (q := (169, .invokevirtual 230, 172)) rfl
theorem c250_172 : pm_code 250 172 = some (.aload_n 0, 173) := pm_of cl250_2 2 (q := (172, .aload_n 0, 173)) rfl
theorem c250_173 : pm_code 250 173 = some (.iload_n 1, 174) := pm_of cl250_2 3 (q := (173, .iload_n 1, 174)) rfl
theorem c250_174 : pm_code 250 174 = some (.ldc_w 317, 177) := pm_of cl250_2 4 (q := (174, .ldc_w 317, 177)) rfl
theorem c250_177 : pm_code 250 177 = some (.invokestatic 195, 180) := pm_of cl250_2 5 (q := (177, .invokestatic 195, 180)) rfl
theorem c250_180 : pm_code 250 180 = some (.if_icmp .ne 7, 183) := pm_of cl250_2 6 (q := (180, .if_icmp .ne 7, 183)) rfl
theorem c250_183 : pm_code 250 183 = some (.iconst 3, 184) := pm_of cl250_2 7 (q := (183, .iconst 3, 184)) rfl
theorem c250_184 : pm_code 250 184 = some (.goto 33, 187) := pm_of cl250_2 8 (q := (184, .goto 33, 187)) rfl
theorem c250_187 : pm_code 250 187 = some (.iload_n 1, 188) := pm_of cl250_2 9 (q := (187, .iload_n 1, 188)) rfl
theorem c250_188 : pm_code 250 188 = some (.ldc_w 319, 191) := pm_of cl250_2 10 (q := (188, .ldc_w 319, 191)) rfl
theorem c250_191 : pm_code 250 191 = some (.invokestatic 195, 194) := pm_of cl250_2 11 (q := (191, .invokestatic 195, 194)) rfl
theorem c250_194 : pm_code 250 194 = some (.if_icmp .ne 7, 197) := pm_of cl250_2 12 (q := (194, .if_icmp .ne 7, 197)) rfl
theorem c250_197 : pm_code 250 197 = some (.iconst 4, 198) := pm_of cl250_2 13 (q := (197, .iconst 4, 198)) rfl
theorem c250_198 : pm_code 250 198 = some (.goto 19, 201) := pm_of cl250_2 14 (q := (198, .goto 19, 201)) rfl
theorem c250_201 : pm_code 250 201 = some (.iload_n 1, 202) := pm_of cl250_2 15 (q := (201, .iload_n 1, 202)) rfl
theorem c250_202 : pm_code 250 202 = some (.ldc_w 321, 205) := pm_of cl250_2 16 (q := (202, .ldc_w 321, 205)) rfl
theorem c250_205 : pm_code 250 205 = some (.invokestatic 195, 208) := pm_of cl250_2 17 (q := (205, .invokestatic 195, 208)) rfl
theorem c250_208 : pm_code 250 208 = some (.if_icmp .ne 7, 211) := pm_of cl250_2 18 (q := (208, .if_icmp .ne 7, 211)) rfl
theorem c250_211 : pm_code 250 211 = some (.iconst 5, 212) := pm_of cl250_2 19 (q := (211, .iconst 5, 212)) rfl
theorem c250_212 : pm_code 250 212 = some (.goto 5, 215) := pm_of cl250_2 20 (q := (212, .goto 5, 215)) rfl
theorem c250_215 : pm_code 250 215 = some (.bipush 6, 217) := pm_of cl250_2 21 (q := (215, .bipush 6, 217)) rfl
theorem c250_217 : pm_code 250 217 = some (.aload_n 0, 218) := pm_of cl250_2 22 (q := (217, .aload_n 0, 218)) rfl
theorem c250_218 : pm_code 250 218 = some (.invokevirtual 312, 221) := pm_of cl250_2 23 (q := (218, .invokevirtual 312, 221)) rfl
theorem c250_221 : pm_code 250 221 = some (.iconst 0, 222) := pm_of cl250_2 24 (q := (221, .iconst 0, 222)) rfl
theorem c250_222 : pm_code 250 222 = some (.invokevirtual 306, 225) := pm_of cl250_2 25 (q := (222, .invokevirtual 306, 225)) rfl
theorem c250_225 : pm_code 250 225 = some (.goto 115, 228) := pm_of cl250_2 26 (q := (225, .goto 115, 228)) rfl
theorem c250_228 : pm_code 250 228 = some (.iload_n 1, 229) := pm_of cl250_2 27 (q := (228, .iload_n 1, 229)) rfl
theorem c250_229 : pm_code 250 229 = some (.ldc_w 325, 232) := pm_of cl250_2 28 (q := (229, .ldc_w 325, 232)) rfl
theorem c250_232 : pm_code 250 232 = some (.invokestatic 195, 235) := pm_of cl250_2 29 (q := (232, .invokestatic 195, 235)) rfl
theorem c250_235 : pm_code 250 235 = some (.if_icmp .ne 96, 238) := pm_of cl250_2 30 (q := (235, .if_icmp .ne 96, 238)) rfl
theorem c250_238 : pm_code 250 238 = some (.aload_n 0, 239) := pm_of cl250_2 31 (q := (238, .aload_n 0, 239)) rfl
theorem c250_239 : pm_code 250 239 = some (.iconst 5, 240) := pm_of cl250_2 32 (q := (239, .iconst 5, 240)) rfl
theorem c250_240 : pm_code 250 240 = some (.invokevirtual 258, 243) := pm_of cl250_2 33 (q := (240, .invokevirtual 258, 243)) rfl
theorem c250_243 : pm_code 250 243 = some (.aload_n 0, 244) := pm_of cl250_2 34 (q := (243, .aload_n 0, 244)) rfl
theorem c250_244 : pm_code 250 244 = some (.iconst 0, 245) := pm_of cl250_2 35 (q := (244, .iconst 0, 245)) rfl
theorem c250_245 : pm_code 250 245 = some (.bipush 60, 247) := pm_of cl250_2 36 (q := (245, .bipush 60, 247)) rfl
theorem c250_247 : pm_code 250 247 = some (.invokevirtual 199, 250) := pm_of cl250_2 37 (q := (247, .invokevirtual 199, 250)) rfl
theorem c250_250 : pm_code 250 250 = some (.istore_n 2, 251) := pm_of cl250_2 38 (q := (250, .istore_n 2, 251)) rfl
theorem c250_251 : pm_code 250 251 = some (.aload_n 0, 252) := pm_of cl250_2 39 (q := (251, .aload_n 0, 252)) rfl
theorem cl250_3 : ([(252, .bipush 91, 254), (254, .invokevirtual 239, 257), (257, .aload_n 0, 258), (258, .getfield 301, 261), (261, .istore_n 3, 262), (262, .aload_n 0, 263), (263, .bipush 8, 265), (265, .iload_n 2, 266), (266, .iconst 0, 267), (267, .invokevirtual 306, 270), (270, .aload_n 0, 271), (271, .invokevirtual 143, 274), (274, .ifCond .eq 19, 277), (277, .aload_n 0, 278), (278, .invokevirtual 126, 281), (281, .bipush 93, 283), (283, .if_icmp .eq 10, 286), (286, .aload_n 0, 287), (287, .invokevirtual 327, 290), (290, .goto (-20), 293), (293, .aload_n 0, 294), (294, .bipush 93, 296), (296, .invokevirtual 239, 299), (299, .aload_n 0, 300), (300, .dup, 301), (301, .getfield 154, 304), (304, .iconst 1, 305), (305, .isub, 306), (306, .putfield 154, 309), (309, .aload_n 0, 310), (310, .invokevirtual 143, 313), (313, .ifCond .eq 15, 316), (316, .aload_n 0, 317), (317, .getfield 56, 320), (320, .iload_n 3, 321), (321, .iconst 2, 322), (322, .iadd, 323), (323, .aload_n 0, 324), (324, .getfield 301, 327), (327, .iastore, 328)] : List (Nat × Instr × Nat)).all (fun q => decide (pm_code 250 q.1 = some q.2)) = true := by decide +kernel
theorem c250_252 : pm_code 250 252 = some (.bipush 91, 254) := pm_of cl250_3 0 (q := (252, .bipush 91, 254)) rfl
theorem c250_254 : pm_code 250 254 = some (.invokevirtual 239, 257) := pm_of cl250_3 1 (q := (254, .invokevirtual 239, 257)) rfl
theorem c250_257 : pm_code 250 257 = some (.aload_n 0, 258) := pm_of cl250_3 2 (q := (257, .aload_n 0, 258)) rfl
theorem c250_258 : pm_code 250 258 = some (.getfield 301, 261) := pm_of cl250_3 3 (q := (258, .getfield 301, 261)) rfl
theorem c250_261 : pm_code 250 261 = some (.istore_n 3, 262) := pm_of cl250_3 4 (q := (261, .istore_n 3, 262)) rfl
theorem c250_262 : pm_code 250 262 = some (.aload_n 0, 263) := pm_of cl250_3 5 (q := (262, .aload_n 0, 263)) rfl
theorem c250_263 : pm_code 250 263 = some (.bipush 8, 265) := pm_of cl250_3 6 (q := (263, .bipush 8, 265)) rfl
theorem c250_265 : pm_code 250 265 = some (.iload_n 2, 266) := pm_of cl250_3 7 (q := (265, .iload_n 2, 266)) rfl
theorem c250_266 : pm_code 250 266 = some (.iconst 0, 267) := pm_of cl250_3 8 (q := (266, .iconst 0, 267)) rfl
theorem c250_267 : pm_code 250 267 = some (.invokevirtual 306, 270) := pm_of cl250_3 9 (q := (267, .invokevirtual 306, 270)) rfl
theorem c250_270 : pm_code 250 270 = some (.aload_n 0, 271) := pm_of cl250_3 10 (q := (270, .aload_n 0, 271)) rfl
theorem c250_271 : pm_code 250 271 = some (.invokevirtual 143, 274) := pm_of cl250_3 11 (q := (271, .invokevirtual 143, 274)) rfl
theorem c250_274 : pm_code 250 274 = some (.ifCond .eq 19, 277) := pm_of cl250_3 12 (q := (274, .ifCond .eq 19, 277)) rfl
theorem c250_277 : pm_code 250 277 = some (.aload_n 0, 278) := pm_of cl250_3 13 (q := (277, .aload_n 0, 278)) rfl
theorem c250_278 : pm_code 250 278 = some (.invokevirtual 126, 281) := pm_of cl250_3 14 (q := (278, .invokevirtual 126, 281)) rfl
theorem c250_281 : pm_code 250 281 = some (.bipush 93, 283) := pm_of cl250_3 15 (q := (281, .bipush 93, 283)) rfl
theorem c250_283 : pm_code 250 283 = some (.if_icmp .eq 10, 286) := pm_of cl250_3 16 (q := (283, .if_icmp .eq 10, 286)) rfl
theorem c250_286 : pm_code 250 286 = some (.aload_n 0, 287) := pm_of cl250_3 17 (q := (286, .aload_n 0, 287)) rfl
theorem c250_287 : pm_code 250 287 = some (.invokevirtual 327, 290) := pm_of cl250_3 18 (q := (287, .invokevirtual 327, 290)) rfl
theorem c250_290 : pm_code 250 290 = some (.goto (-20), 293) := pm_of cl250_3 19 (q := (290, .goto (-20), 293)) rfl
theorem c250_293 : pm_code 250 293 = some (.aload_n 0, 294) := pm_of cl250_3 20 (q := (293, .aload_n 0, 294)) rfl
theorem c250_294 : pm_code 250 294 = some (.bipush 93, 296) := pm_of cl250_3 21 (q := (294, .bipush 93, 296)) rfl
theorem c250_296 : pm_code 250 296 = some (.invokevirtual 239, 299) := pm_of cl250_3 22 (q := (296, .invokevirtual 239, 299)) rfl
theorem c250_299 : pm_code 250 299 = some (.aload_n 0, 300) := pm_of cl250_3 23 (q := (299, .aload_n 0, 300)) rfl
theorem c250_300 : pm_code 250 300 = some (.dup, 301) := pm_of cl250_3 24 (q := (300, .dup, 301)) rfl
theorem c250_301 : pm_code 250 301 = some (.getfield 154, 304) := pm_of cl250_3 25 (q := (301, .getfield 154, 304)) rfl
theorem c250_304 : pm_code 250 304 = some (.iconst 1, 305) := pm_of cl250_3 26 (q := (304, .iconst 1, 305)) rfl
theorem c250_305 : pm_code 250 305 = some (.isub, 306) := pm_of cl250_3 27 (q := (305, .isub, 306)) rfl
theorem c250_306 : pm_code 250 306 = some (.putfield 154, 309) := pm_of cl250_3 28 (q := (306, .putfield 154, 309)) rfl
theorem c250_309 : pm_code 250 309 = some (.aload_n 0, 310) := pm_of cl250_3 29 (q := (309, .aload_n 0, 310)) rfl
theorem c250_310 : pm_code 250 310 = some (.invokevirtual 143, 313) := pm_of cl250_3 30 (q := (310, .invokevirtual 143, 313)) rfl
theorem c250_313 : pm_code 250 313 = some (.ifCond .eq 15, 316) := pm_of cl250_3 31 (q := (313, .ifCond .eq 15, 316)) rfl
theorem c250_316 : pm_code 250 316 = some (.aload_n 0, 317) := pm_of cl250_3 32 (q := (316, .aload_n 0, 317)) rfl
theorem c250_317 : pm_code 250 317 = some (.getfield 56, 320) := pm_of cl250_3 33 (q := (317, .getfield 56, 320)) rfl
theorem c250_320 : pm_code 250 320 = some (.iload_n 3, 321) := pm_of cl250_3 34 (q := (320, .iload_n 3, 321)) rfl
theorem c250_321 : pm_code 250 321 = some (.iconst 2, 322) := pm_of cl250_3 35 (q := (321, .iconst 2, 322)) rfl
theorem c250_322 : pm_code 250 322 = some (.iadd, 323) := pm_of cl250_3 36 (q := (322, .iadd, 323)) rfl
theorem c250_323 : pm_code 250 323 = some (.aload_n 0, 324) := pm_of cl250_3 37 (q := (323, .aload_n 0, 324)) rfl
theorem c250_324 : pm_code 250 324 = some (.getfield 301, 327) := pm_of cl250_3 38 (q := (324, .getfield 301, 327)) rfl
theorem c250_327 : pm_code 250 327 = some (.iastore, 328) := pm_of cl250_3 39 (q := (327, .iastore, 328)) rfl
theorem cl250_4 : ([(328, .goto 12, 331), (331, .aload_n 0, 332), (332, .iconst 1, 333), (333, .aload_n 0, 334), (334, .getfield 120, 337), (337, .invokevirtual 150, 340), (340, .aload_n 0, 341), (341, .bipush 59, 343), (343, .invokevirtual 239, 346), (346, .return_, 347)] : List (Nat × Instr × Nat)).all (fun q => decide (pm_code 250 q.1 = some q.2)) = true := by decide +kernel
theorem c250_328 : pm_code 250 328 = some (.goto 12, 331) := pm_of cl250_4 0 (q := (328, .goto 12, 331)) rfl
theorem c250_331 : pm_code 250 331 = some (.aload_n 0, 332) := pm_of cl250_4 1 (q := (331, .aload_n 0, 332)) rfl
theorem c250_332 : pm_code 250 332 = some (.iconst 1, 333) := pm_of cl250_4 2 (q := (332, .iconst 1, 333)) rfl
theorem c250_333 : pm_code 250 333 = some (.aload_n 0, 334) := pm_of cl250_4 3 (q := (333, .aload_n 0, 334)) rfl
theorem c250_334 : pm_code 250 334 = some (.getfield 120, 337) := pm_of cl250_4 4 (q := (334, .getfield 120, 337)) rfl
theorem c250_337 : pm_code 250 337 = some (.invokevirtual 150, 340) := pm_of cl250_4 5 (q := (337, .invokevirtual 150, 340)) rfl
theorem c250_340 : pm_code 250 340 = some (.aload_n 0, 341) := pm_of cl250_4 6 (q := (340, .aload_n 0, 341)) rfl
theorem c250_341 : pm_code 250 341 = some (.bipush 59, 343) := pm_of cl250_4 7 (q := (341, .bipush 59, 343)) rfl
theorem c250_343 : pm_code 250 343 = some (.invokevirtual 239, 346) := pm_of cl250_4 8 (q := (343, .invokevirtual 239, 346)) rfl
theorem c250_346 : pm_code 250 346 = some (.return_, 347) := pm_of cl250_4 9 (q := (346, .return_, 347)) rfl
theorem k251 : pm_k 251 = 12 := by decide +kernel
theorem ml251 : pm_ml 251 = 4 := by decide +kernel
theorem rt251 : pm_rt 251 = none := by decide +kernel
theorem hh251 : pm_hh 251 = [] := by decide +kernel
theorem rc251 : pm_cl 12 = (pm_y 251).cls := by decide +kernel
theorem cl251_0 : ([(0, .aload_n 0, 1), (1, .invokevirtual 143, 4), (4, .ifCond .ne 4, 7), (7, .return_, 8), (8, .aload_n 0, 9), (9, .getfield 56, 12), (12, .aload_n 0, 13), (13, .getfield 301, 16), (16, .iload_n 1, 17), (17, .iastore, 18), (18, .aload_n 0, 19), (19, .getfield 56, 22), (22, .aload_n 0, 23), (23, .getfield 301, 26), (26, .iconst 1, 27), (27, .iadd, 28), (28, .iload_n 2, 29), (29, .iastore, 30), (30, .aload_n 0, 31), (31, .getfield 56, 34), (34, .aload_n 0, 35), (35, .getfield 301, 38), (38, .iconst 2, 39), (39, .iadd, 40), (40, .iload_n 3, 41), (41, .iastore, 42), (42, .aload_n 0, 43), (43, .dup, 44), (44, .getfield 301, 47), (47, .iconst 3, 48), (48, .iadd, 49), (49, .putfield 301, 52), (52, .return_, 53)] : List (Nat × Instr × Nat)).all (fun q => decide (pm_code 251 q.1 = some q.2)) = true := by decide +kernel
theorem c251_0 : pm_code 251 0 = some (.aload_n 0, 1) := pm_of cl251_0 0 (q := (0, .aload_n 0, 1)) rfl
theorem c251_1 : pm_code 251 1 = some (.invokevirtual 143, 4) := pm_of cl251_0 1 (q := (1, .invokevirtual 143, 4)) rfl
theorem c251_4 : pm_code 251 4 = some (.ifCond .ne 4, 7) := pm_of cl251_0 2 (q := (4, .ifCond .ne 4, 7)) rfl
theorem c251_7 : pm_code 251 7 = some (.return_, 8) := pm_of cl251_0 3 (q := (7, .return_, 8)) rfl
theorem c251_8 : pm_code 251 8 = some (.aload_n 0, 9) := pm_of cl251_0 4 (q := (8, .aload_n 0, 9)) rfl
theorem c251_9 : pm_code 251 9 = some (.getfield 56, 12) := pm_of cl251_0 5 (q := (9, .getfield 56, 12)) rfl
theorem c251_12 : pm_code 251 12 = some (.aload_n 0, 13) := pm_of cl251_0 6 (q := (12, .aload_n 0, 13)) rfl
theorem c251_13 : pm_code 251 13 = some (.getfield 301, 16) := pm_of cl251_0 7 (q := (13, .getfield 301, 16)) rfl
theorem c251_16 : pm_code 251 16 = some (.iload_n 1, 17) := pm_of cl251_0 8 (q := (16, .iload_n 1, 17)) rfl
theorem c251_17 : pm_code 251 17 = some (.iastore, 18) := pm_of cl251_0 9 (q := (17, .iastore, 18)) rfl
theorem c251_18 : pm_code 251 18 = some (.aload_n 0, 19) := pm_of cl251_0 10 (q := (18, .aload_n 0, 19)) rfl
theorem c251_19 : pm_code 251 19 = some (.getfield 56, 22) := pm_of cl251_0 11 (q := (19, .getfield 56, 22)) rfl
theorem c251_22 : pm_code 251 22 = some (.aload_n 0, 23) := pm_of cl251_0 12 (q := (22, .aload_n 0, 23)) rfl
theorem c251_23 : pm_code 251 23 = some (.getfield 301, 26) := pm_of cl251_0 13 (q := (23, .getfield 301, 26)) rfl
theorem c251_26 : pm_code 251 26 = some (.iconst 1, 27) := pm_of cl251_0 14 (q := (26, .iconst 1, 27)) rfl
theorem c251_27 : pm_code 251 27 = some (.iadd, 28) := pm_of cl251_0 15 (q := (27, .iadd, 28)) rfl
theorem c251_28 : pm_code 251 28 = some (.iload_n 2, 29) := pm_of cl251_0 16 (q := (28, .iload_n 2, 29)) rfl
theorem c251_29 : pm_code 251 29 = some (.iastore, 30) := pm_of cl251_0 17 (q := (29, .iastore, 30)) rfl
theorem c251_30 : pm_code 251 30 = some (.aload_n 0, 31) := pm_of cl251_0 18 (q := (30, .aload_n 0, 31)) rfl
theorem c251_31 : pm_code 251 31 = some (.getfield 56, 34) := pm_of cl251_0 19 (q := (31, .getfield 56, 34)) rfl
theorem c251_34 : pm_code 251 34 = some (.aload_n 0, 35) := pm_of cl251_0 20 (q := (34, .aload_n 0, 35)) rfl
theorem c251_35 : pm_code 251 35 = some (.getfield 301, 38) := pm_of cl251_0 21 (q := (35, .getfield 301, 38)) rfl
theorem c251_38 : pm_code 251 38 = some (.iconst 2, 39) := pm_of cl251_0 22 (q := (38, .iconst 2, 39)) rfl
theorem c251_39 : pm_code 251 39 = some (.iadd, 40) := pm_of cl251_0 23 (q := (39, .iadd, 40)) rfl
theorem c251_40 : pm_code 251 40 = some (.iload_n 3, 41) := pm_of cl251_0 24 (q := (40, .iload_n 3, 41)) rfl
theorem c251_41 : pm_code 251 41 = some (.iastore, 42) := pm_of cl251_0 25 (q := (41, .iastore, 42)) rfl
theorem c251_42 : pm_code 251 42 = some (.aload_n 0, 43) := pm_of cl251_0 26 (q := (42, .aload_n 0, 43)) rfl
theorem c251_43 : pm_code 251 43 = some (.dup, 44) := pm_of cl251_0 27 (q := (43, .dup, 44)) rfl
theorem c251_44 : pm_code 251 44 = some (.getfield 301, 47) := pm_of cl251_0 28 (q := (44, .getfield 301, 47)) rfl
theorem c251_47 : pm_code 251 47 = some (.iconst 3, 48) := pm_of cl251_0 29 (q := (47, .iconst 3, 48)) rfl
theorem c251_48 : pm_code 251 48 = some (.iadd, 49) := pm_of cl251_0 30 (q := (48, .iadd, 49)) rfl
theorem c251_49 : pm_code 251 49 = some (.putfield 301, 52) := pm_of cl251_0 31 (q := (49, .putfield 301, 52)) rfl
theorem c251_52 : pm_code 251 52 = some (.return_, 53) := pm_of cl251_0 32 (q := (52, .return_, 53)) rfl
theorem k252 : pm_k 252 = 12 := by decide +kernel
theorem ml252 : pm_ml 252 = 1 := by decide +kernel
theorem rt252 : pm_rt 252 = (some .int) := by decide +kernel
theorem hh252 : pm_hh 252 = [] := by decide +kernel
theorem rc252 : pm_cl 12 = (pm_y 252).cls := by decide +kernel
theorem cl252_0 : ([(0, .aload_n 0, 1), (1, .iconst 0, 2), (2, .aload_n 0, 3), (3, .getfield 169, 6), (6, .iconst 1, 7), (7, .isub, 8), (8, .invokevirtual 199, 11), (11, .ireturn, 12)] : List (Nat × Instr × Nat)).all (fun q => decide (pm_code 252 q.1 = some q.2)) = true := by decide +kernel
theorem c252_0 : pm_code 252 0 = some (.aload_n 0, 1) := pm_of cl252_0 0 (q := (0, .aload_n 0, 1)) rfl
theorem c252_1 : pm_code 252 1 = some (.iconst 0, 2) := pm_of cl252_0 1 (q := (1, .iconst 0, 2)) rfl
theorem c252_2 : pm_code 252 2 = some (.aload_n 0, 3) := pm_of cl252_0 2 (q := (2, .aload_n 0, 3)) rfl
theorem c252_3 : pm_code 252 3 = some (.getfield 169, 6) := pm_of cl252_0 3 (q := (3, .getfield 169, 6)) rfl
theorem c252_6 : pm_code 252 6 = some (.iconst 1, 7) := pm_of cl252_0 4 (q := (6, .iconst 1, 7)) rfl
theorem c252_7 : pm_code 252 7 = some (.isub, 8) := pm_of cl252_0 5 (q := (7, .isub, 8)) rfl
theorem c252_8 : pm_code 252 8 = some (.invokevirtual 199, 11) := pm_of cl252_0 6 (q := (8, .invokevirtual 199, 11)) rfl
theorem c252_11 : pm_code 252 11 = some (.ireturn, 12) := pm_of cl252_0 7 (q := (11, .ireturn, 12)) rfl
theorem k253 : pm_k 253 = 12 := by decide +kernel
theorem ml253 : pm_ml 253 = 1 := by decide +kernel
theorem rt253 : pm_rt 253 = none := by decide +kernel
theorem hh253 : pm_hh 253 = [] := by decide +kernel
theorem rc253 : pm_cl 12 = (pm_y 253).cls := by decide +kernel
theorem cl253_0 : ([(0, .aload_n 0, 1), (1, .aload_n 0, 2), (2, .getfield 62, 5), (5, .aload_n 0, 6), (6, .getfield 65, 9), (9, .bipush 66, 11), (11, .invokevirtual 178, 14), (14, .aload_n 0, 15), (15, .iconst 0, 16), (16, .putfield 348, 19), (19, .aload_n 0, 20), (20, .iconst 0, 21), (21, .putfield 351, 24), (24, .aload_n 0, 25), (25, .iconst 0, 26), (26, .putfield 354, 29), (29, .return_, 30)] : List (Nat × Instr × Nat)).all (fun q => decide (pm_code 253 q.1 = some q.2)) = true := by decide +kernel
theorem c253_0 : pm_code 253 0 = some (.aload_n 0, 1) := pm_of cl253_0 0 (q := (0, .aload_n 0, 1)) rfl
theorem c253_1 : pm_code 253 1 = some (.aload_n 0, 2) := pm_of cl253_0 1 (q := (1, .aload_n 0, 2)) rfl
theorem c253_2 : pm_code 253 2 = some (.getfield 62, 5) := pm_of cl253_0 2 (q := (2, .getfield 62, 5)) rfl
theorem c253_5 : pm_code 253 5 = some (.aload_n 0, 6) := pm_of cl253_0 3 (q := (5, .aload_n 0, 6)) rfl
theorem c253_6 : pm_code 253 6 = some (.getfield 65, 9) := pm_of cl253_0 4 (q := (6, .getfield 65, 9)) rfl
theorem c253_9 : pm_code 253 9 = some (.bipush 66, 11) := pm_of cl253_0 5 (q := (9, .bipush 66, 11)) rfl
theorem c253_11 : pm_code 253 11 = some (.invokevirtual 178, 14) := pm_of cl253_0 6 (q := (11, .invokevirtual 178, 14)) rfl
theorem c253_14 : pm_code 253 14 = some (.aload_n 0, 15) := pm_of cl253_0 7 (q := (14, .aload_n 0, 15)) rfl
theorem c253_15 : pm_code 253 15 = some (.iconst 0, 16) := pm_of cl253_0 8 (q := (15, .iconst 0, 16)) rfl
theorem c253_16 : pm_code 253 16 = some (.putfield 348, 19) := pm_of cl253_0 9 (q := (16, .putfield 348, 19)) rfl
theorem c253_19 : pm_code 253 19 = some (.aload_n 0, 20) := pm_of cl253_0 10 (q := (19, .aload_n 0, 20)) rfl
theorem c253_20 : pm_code 253 20 = some (.iconst 0, 21) := pm_of cl253_0 11 (q := (20, .iconst 0, 21)) rfl
theorem c253_21 : pm_code 253 21 = some (.putfield 351, 24) := pm_of cl253_0 12 (q := (21, .putfield 351, 24)) rfl
theorem c253_24 : pm_code 253 24 = some (.aload_n 0, 25) := pm_of cl253_0 13 (q := (24, .aload_n 0, 25)) rfl
theorem c253_25 : pm_code 253 25 = some (.iconst 0, 26) := pm_of cl253_0 14 (q := (25, .iconst 0, 26)) rfl
theorem c253_26 : pm_code 253 26 = some (.putfield 354, 29) := pm_of cl253_0 15 (q := (26, .putfield 354, 29)) rfl
theorem c253_29 : pm_code 253 29 = some (.return_, 30) := pm_of cl253_0 16 (q := (29, .return_, 30)) rfl
theorem k254 : pm_k 254 = 12 := by decide +kernel
theorem ml254 : pm_ml 254 = 6 := by decide +kernel
theorem rt254 : pm_rt 254 = none := by decide +kernel
theorem hh254 : pm_hh 254 = [] := by decide +kernel
theorem rc254 : pm_cl 12 = (pm_y 254).cls := by decide +kernel
theorem cl254_0 : ([(0, .iload_n 1, 1), (1, .istore_n 3, 2), (2, .iload_n 3, 3), (3, .iload_n 2, 4), (4, .if_icmp .ge 149, 7), (7, .aload_n 0, 8), (8, .getfield 333, 11), (11, .sipush 200, 14), (14, .if_icmp .ge 139, 17), (17, .aload_n 0, 18), (18, .dup, 19), (19, .getfield 333, 22), (22, .iconst 1, 23), (23, .iadd, 24), (24, .putfield 333, 27), (27, .aload_n 0, 28), (28, .getfield 59, 31), (31, .iload_n 3, 32), (32, .iaload, 33), (33, .bipush 8, 35), (35, .if_icmp .ne 60, 38), (38, .aload_n 0, 39), (39, .getfield 59, 42), (42, .iload_n 3, 43), (43, .iconst 2, 44), (44, .iadd, 45), (45, .iaload, 46), (46, .istore 4, 48), (48, .iconst 0, 49), (49, .istore 5, 51), (51, .iload 5, 53), (53, .aload_n 0, 54), (54, .getfield 59, 57), (57, .iload_n 3, 58), (58, .iconst 1, 59), (59, .iadd, 60), (60, .iaload, 61), (61, .if_icmp .ge 28, 64), (64, .aload_n 0, 65), (65, .getfield 333, 68)] : List (Nat × Instr × Nat)).all (fun q => decide (pm_code 254 q.1 = some q.2)) = true := by decide +kernel
theorem c254_0 : pm_code 254 0 = some (.iload_n 1, 1) := pm_of cl254_0 0 (q := (0, .iload_n 1, 1)) rfl
theorem c254_1 : pm_code 254 1 = some (.istore_n 3, 2) := pm_of cl254_0 1 (q := (1, .istore_n 3, 2)) rfl
theorem c254_2 : pm_code 254 2 = some (.iload_n 3, 3) := pm_of cl254_0 2 (q := (2, .iload_n 3, 3)) rfl
theorem c254_3 : pm_code 254 3 = some (.iload_n 2, 4) := pm_of cl254_0 3 (q := (3, .iload_n 2, 4)) rfl
theorem c254_4 : pm_code 254 4 = some (.if_icmp .ge 149, 7) := pm_of cl254_0 4 (q := (4, .if_icmp .ge 149, 7)) rfl
theorem c254_7 : pm_code 254 7 = some (.aload_n 0, 8) := pm_of cl254_0 5 (q := (7, .aload_n 0, 8)) rfl
theorem c254_8 : pm_code 254 8 = some (.getfield 333, 11) := pm_of cl254_0 6 (q := (8, .getfield 333, 11)) rfl
theorem c254_11 : pm_code 254 11 = some (.sipush 200, 14) := pm_of cl254_0 7 (q := (11, .sipush 200, 14)) rfl
theorem c254_14 : pm_code 254 14 = some (.if_icmp .ge 139, 17) := pm_of cl254_0 8 (q := (14, .if_icmp .ge 139, 17)) rfl
theorem c254_17 : pm_code 254 17 = some (.aload_n 0, 18) := pm_of cl254_0 9 (q := (17, .aload_n 0, 18)) rfl
theorem c254_18 : pm_code 254 18 = some (.dup, 19) := pm_of cl254_0 10 (q := (18, .dup, 19)) rfl
theorem c254_19 : pm_code 254 19 = some (.getfield 333, 22) := pm_of cl254_0 11 (q := (19, .getfield 333, 22)) rfl
theorem c254_22 : pm_code 254 22 = some (.iconst 1, 23) := pm_of cl254_0 12 (q := (22, .iconst 1, 23)) rfl
theorem c254_23 : pm_code 254 23 = some (.iadd, 24) := pm_of cl254_0 13 (q := (23, .iadd, 24)) rfl
theorem c254_24 : pm_code 254 24 = some (.putfield 333, 27) := pm_of cl254_0 14 (q := (24, .putfield 333, 27)) rfl
theorem c254_27 : pm_code 254 27 = some (.aload_n 0, 28) := pm_of cl254_0 15 (q := (27, .aload_n 0, 28)) rfl
theorem c254_28 : pm_code 254 28 = some (.getfield 59, 31) := pm_of cl254_0 16 (q := (28, .getfield 59, 31)) rfl
theorem c254_31 : pm_code 254 31 = some (.iload_n 3, 32) := pm_of cl254_0 17 (q := (31, .iload_n 3, 32)) rfl
theorem c254_32 : pm_code 254 32 = some (.iaload, 33) := pm_of cl254_0 18 (q := (32, .iaload, 33)) rfl
theorem c254_33 : pm_code 254 33 = some (.bipush 8, 35) := pm_of cl254_0 19 (q := (33, .bipush 8, 35)) rfl
theorem c254_35 : pm_code 254 35 = some (.if_icmp .ne 60, 38) := pm_of cl254_0 20 (q := (35, .if_icmp .ne 60, 38)) rfl
theorem c254_38 : pm_code 254 38 = some (.aload_n 0, 39) := pm_of cl254_0 21 (q := (38, .aload_n 0, 39)) rfl
theorem c254_39 : pm_code 254 39 = some (.getfield 59, 42) := pm_of cl254_0 22 (q := (39, .getfield 59, 42)) rfl
theorem c254_42 : pm_code 254 42 = some (.iload_n 3, 43) := pm_of cl254_0 23 (q := (42, .iload_n 3, 43)) rfl
theorem c254_43 : pm_code 254 43 = some (.iconst 2, 44) := pm_of cl254_0 24 (q := (43, .iconst 2, 44)) rfl
theorem c254_44 : pm_code 254 44 = some (.iadd, 45) := pm_of cl254_0 25 (q := (44, .iadd, 45)) rfl
theorem c254_45 : pm_code 254 45 = some (.iaload, 46) := pm_of cl254_0 26 (q := (45, .iaload, 46)) rfl
theorem c254_46 : pm_code 254 46 = some (.istore 4, 48) := pm_of cl254_0 27 (q := (46, .istore 4, 48)) rfl
theorem c254_48 : pm_code 254 48 = some (.iconst 0, 49) := pm_of cl254_0 28 (q := (48, .iconst 0, 49)) rfl
theorem c254_49 : pm_code 254 49 = some (.istore 5, 51) := pm_of cl254_0 29 (q := (49, .istore 5, 51)) rfl
theorem c254_51 : pm_code 254 51 = some (.iload 5, 53) := pm_of cl254_0 30 (q := (51, .iload 5, 53)) rfl
theorem c254_53 : pm_code 254 53 = some (.aload_n 0, 54) := pm_of cl254_0 31 (q := (53, .aload_n 0, 54)) rfl
theorem c254_54 : pm_code 254 54 = some (.getfield 59, 57) := pm_of cl254_0 32 (q := (54, .getfield 59, 57)) rfl
theorem c254_57 : pm_code 254 57 = some (.iload_n 3, 58) := pm_of cl254_0 33 (q := (57, .iload_n 3, 58)) rfl
theorem c254_58 : pm_code 254 58 = some (.iconst 1, 59) := pm_of cl254_0 34 (q := (58, .iconst 1, 59)) rfl
theorem c254_59 : pm_code 254 59 = some (.iadd, 60) := pm_of cl254_0 35 (q := (59, .iadd, 60)) rfl
theorem c254_60 : pm_code 254 60 = some (.iaload, 61) := pm_of cl254_0 36 (q := (60, .iaload, 61)) rfl
theorem c254_61 : pm_code 254 61 = some (.if_icmp .ge 28, 64) := pm_of cl254_0 37 (q := (61, .if_icmp .ge 28, 64)) rfl
theorem c254_64 : pm_code 254 64 = some (.aload_n 0, 65) := pm_of cl254_0 38 (q := (64, .aload_n 0, 65)) rfl
theorem c254_65 : pm_code 254 65 = some (.getfield 333, 68) := pm_of cl254_0 39 (q := (65, .getfield 333, 68)) rfl
theorem cl254_1 : ([(68, .sipush 200, 71), (71, .if_icmp .ge 18, 74), (74, .aload_n 0, 75), (75, .iload_n 3, 76), (76, .iconst 3, 77), (77, .iadd, 78), (78, .iload 4, 80), (80, .invokevirtual 342, 83), (83, .iinc 5 1, 86), (86, .goto (-35), 89), (89, .iload 4, 91), (91, .istore_n 3, 92), (92, .goto (-90), 95), (95, .aload_n 0, 96), (96, .aload_n 0, 97), (97, .getfield 59, 100), (100, .iload_n 3, 101), (101, .iaload, 102), (102, .aload_n 0, 103), (103, .getfield 59, 106), (106, .iload_n 3, 107), (107, .iconst 1, 108), (108, .iadd, 109), (109, .iaload, 110), (110, .aload_n 0, 111), (111, .getfield 59, 114), (114, .iload_n 3, 115), (115, .iconst 2, 116), (116, .iadd, 117), (117, .iaload, 118), (118, .invokevirtual 345, 121), (121, .ifCond .eq 16, 124), (124, .aload_n 0, 125), (125, .dup, 126), (126, .getfield 336, 129), (129, .iconst 1, 130), (130, .iadd, 131), (131, .putfield 336, 134), (134, .goto 13, 137), (137, .aload_n 0, 138)] : List (Nat × Instr × Nat)).all (fun q => decide (pm_code 254 q.1 = some q.2)) = true := by decide +kernel
theorem c254_68 : pm_code 254 68 = some (.sipush 200, 71) := pm_of cl254_1 0 (q := (68, .sipush 200, 71)) rfl
theorem c254_71 : pm_code 254 71 = some (.if_icmp .ge 18, 74) := pm_of cl254_1 1 (q := (71, .if_icmp .ge 18, 74)) rfl
theorem c254_74 : pm_code 254 74 = some (.aload_n 0, 75) := pm_of cl254_1 2 (q := (74, .aload_n 0, 75)) rfl
theorem c254_75 : pm_code 254 75 = some (.iload_n 3, 76) := pm_of cl254_1 3 (q := (75, .iload_n 3, 76)) rfl
theorem c254_76 : pm_code 254 76 = some (.iconst 3, 77) := pm_of cl254_1 4 (q := (76, .iconst 3, 77)) rfl
theorem c254_77 : pm_code 254 77 = some (.iadd, 78) := pm_of cl254_1 5 (q := (77, .iadd, 78)) rfl
theorem c254_78 : pm_code 254 78 = some (.iload 4, 80) := pm_of cl254_1 6 (q := (78, .iload 4, 80)) rfl
theorem c254_80 : pm_code 254 80 = some (.invokevirtual 342, 83) := pm_of cl254_1 7 (q := (80, .invokevirtual 342, 83)) rfl
theorem c254_83 : pm_code 254 83 = some (.iinc 5 1, 86) := pm_of cl254_1 8 (q := (83, .iinc 5 1, 86)) rfl
theorem c254_86 : pm_code 254 86 = some (.goto (-35), 89) := pm_of cl254_1 9 (q := (86, .goto (-35), 89)) rfl
theorem c254_89 : pm_code 254 89 = some (.iload 4, 91) := pm_of cl254_1 10 (q := (89, .iload 4, 91)) rfl
theorem c254_91 : pm_code 254 91 = some (.istore_n 3, 92) := pm_of cl254_1 11 (q := (91, .istore_n 3, 92)) rfl
theorem c254_92 : pm_code 254 92 = some (.goto (-90), 95) := pm_of cl254_1 12 (q := (92, .goto (-90), 95)) rfl
theorem c254_95 : pm_code 254 95 = some (.aload_n 0, 96) := pm_of cl254_1 13 (q := (95, .aload_n 0, 96)) rfl
theorem c254_96 : pm_code 254 96 = some (.aload_n 0, 97) := pm_of cl254_1 14 (q := (96, .aload_n 0, 97)) rfl
theorem c254_97 : pm_code 254 97 = some (.getfield 59, 100) := pm_of cl254_1 15 (q := (97, .getfield 59, 100)) rfl
theorem c254_100 : pm_code 254 100 = some (.iload_n 3, 101) := pm_of cl254_1 16 (q := (100, .iload_n 3, 101)) rfl
theorem c254_101 : pm_code 254 101 = some (.iaload, 102) := pm_of cl254_1 17 (q := (101, .iaload, 102)) rfl
theorem c254_102 : pm_code 254 102 = some (.aload_n 0, 103) := pm_of cl254_1 18 (q := (102, .aload_n 0, 103)) rfl
theorem c254_103 : pm_code 254 103 = some (.getfield 59, 106) := pm_of cl254_1 19 (q := (103, .getfield 59, 106)) rfl
theorem c254_106 : pm_code 254 106 = some (.iload_n 3, 107) := pm_of cl254_1 20 (q := (106, .iload_n 3, 107)) rfl
theorem c254_107 : pm_code 254 107 = some (.iconst 1, 108) := pm_of cl254_1 21 (q := (107, .iconst 1, 108)) rfl
theorem c254_108 : pm_code 254 108 = some (.iadd, 109) := pm_of cl254_1 22 (q := (108, .iadd, 109)) rfl
theorem c254_109 : pm_code 254 109 = some (.iaload, 110) := pm_of cl254_1 23 (q := (109, .iaload, 110)) rfl
theorem c254_110 : pm_code 254 110 = some (.aload_n 0, 111) := pm_of cl254_1 24 (q := (110, .aload_n 0, 111)) rfl
theorem c254_111 : pm_code 254 111 = some (.getfield 59, 114) := pm_of cl254_1 25 (q := (111, .getfield 59, 114)) rfl
theorem c254_114 : pm_code 254 114 = some (.iload_n 3, 115) := pm_of cl254_1 26 (q := (114, .iload_n 3, 115)) rfl
theorem c254_115 : pm_code 254 115 = some (.iconst 2, 116) := pm_of cl254_1 27 (q := (115, .iconst 2, 116)) rfl
theorem c254_116 : pm_code 254 116 = some (.iadd, 117) := pm_of cl254_1 28 (q := (116, .iadd, 117)) rfl
theorem c254_117 : pm_code 254 117 = some (.iaload, 118) := pm_of cl254_1 29 (q := (117, .iaload, 118)) rfl
theorem c254_118 : pm_code 254 118 = some (.invokevirtual 345, 121) := pm_of cl254_1 30 (q := (118, .invokevirtual 345, 121)) rfl
theorem c254_121 : pm_code 254 121 = some (.ifCond .eq 16, 124) := pm_of cl254_1 31 (q := (121, .ifCond .eq 16, 124)) rfl
theorem c254_124 : pm_code 254 124 = some (.aload_n 0, 125) := pm_of cl254_1 32 (q := (124, .aload_n 0, 125)) rfl
theorem c254_125 : pm_code 254 125 = some (.dup, 126) := pm_of cl254_1 33 (q := (125, .dup, 126)) rfl
theorem c254_126 : pm_code 254 126 = some (.getfield 336, 129) := pm_of cl254_1 34 (q := (126, .getfield 336, 129)) rfl
theorem c254_129 : pm_code 254 129 = some (.iconst 1, 130) := pm_of cl254_1 35 (q := (129, .iconst 1, 130)) rfl
theorem c254_130 : pm_code 254 130 = some (.iadd, 131) := pm_of cl254_1 36 (q := (130, .iadd, 131)) rfl
theorem c254_131 : pm_code 254 131 = some (.putfield 336, 134) := pm_of cl254_1 37 (q := (131, .putfield 336, 134)) rfl
theorem c254_134 : pm_code 254 134 = some (.goto 13, 137) := pm_of cl254_1 38 (q := (134, .goto 13, 137)) rfl
theorem c254_137 : pm_code 254 137 = some (.aload_n 0, 138) := pm_of cl254_1 39 (q := (137, .aload_n 0, 138)) rfl
theorem cl254_2 : ([(138, .dup, 139), (139, .getfield 339, 142), (142, .iconst 1, 143), (143, .iadd, 144), (144, .putfield 339, 147), (147, .iinc 3 3, 150), (150, .goto (-148), 153), (153, .return_, 154)] : List (Nat × Instr × Nat)).all (fun q => decide (pm_code 254 q.1 = some q.2)) = true := by decide +kernel
theorem c254_138 : pm_code 254 138 = some (.dup, 139) := pm_of cl254_2 0 (q := (138, .dup, 139)) rfl
theorem c254_139 : pm_code 254 139 = some (.getfield 339, 142) := pm_of cl254_2 1 (q := (139, .getfield 339, 142)) rfl
theorem c254_142 : pm_code 254 142 = some (.iconst 1, 143) := pm_of cl254_2 2 (q := (142, .iconst 1, 143)) rfl
theorem c254_143 : pm_code 254 143 = some (.iadd, 144) := pm_of cl254_2 3 (q := (143, .iadd, 144)) rfl
theorem c254_144 : pm_code 254 144 = some (.putfield 339, 147) := pm_of cl254_2 4 (q := (144, .putfield 339, 147)) rfl
theorem c254_147 : pm_code 254 147 = some (.iinc 3 3, 150) := pm_of cl254_2 5 (q := (147, .iinc 3 3, 150)) rfl
theorem c254_150 : pm_code 254 150 = some (.goto (-148), 153) := pm_of cl254_2 6 (q := (150, .goto (-148), 153)) rfl
theorem c254_153 : pm_code 254 153 = some (.return_, 154) := pm_of cl254_2 7 (q := (153, .return_, 154)) rfl
theorem k255 : pm_k 255 = 12 := by decide +kernel
theorem ml255 : pm_ml 255 = 5 := by decide +kernel
theorem rt255 : pm_rt 255 = (some .boolean) := by decide +kernel
theorem hh255 : pm_hh 255 = [] := by decide +kernel
theorem rc255 : pm_cl 12 = (pm_y 255).cls := by decide +kernel
theorem cl255_0 : ([(0, .iload_n 1, 1), (1, .ifCond .ne 8, 4), (4, .aload_n 0, 5), (5, .invokevirtual 389, 8), (8, .ireturn, 9), (9, .iload_n 1, 10), (10, .iconst 1, 11), (11, .if_icmp .ne 10, 14), (14, .aload_n 0, 15), (15, .iload_n 2, 16), (16, .iload_n 3, 17), (17, .invokevirtual 392, 20), (20, .ireturn, 21), (21, .iload_n 1, 22), (22, .iconst 4, 23), (23, .if_icmp .eq 8, 26), (26, .iload_n 1, 27), (27, .iconst 5, 28), (28, .if_icmp .ne 19, 31), (31, .aload_n 0, 32), (32, .iload_n 2, 33), (33, .iload_n 1, 34), (34, .iconst 4, 35), (35, .if_icmp .ne 7, 38), (38, .iconst 1, 39), (39, .goto 4, 42), (42, .iconst 0, 43), (43, .invokevirtual 395, 46), (46, .ireturn, 47), (47, .iload_n 1, 48), (48, .bipush 6, 50), (50, .if_icmp .ne 9, 53), (53, .aload_n 0, 54), (54, .iload_n 2, 55), (55, .invokevirtual 398, 58), (58, .ireturn, 59), (59, .iload_n 1, 60), (60, .bipush 7, 62), (62, .if_icmp .ne 24, 65), (65, .aload_n 0, 66)] : List (Nat × Instr × Nat)).all (fun q => decide (pm_code 255 q.1 = some q.2)) = true := by decide +kernel
theorem c255_0 : pm_code 255 0 = some (.iload_n 1, 1) := pm_of cl255_0 0 (q := (0, .iload_n 1, 1)) rfl
theorem c255_1 : pm_code 255 1 = some (.ifCond .ne 8, 4) := pm_of cl255_0 1 (q := (1, .ifCond .ne 8, 4)) rfl
theorem c255_4 : pm_code 255 4 = some (.aload_n 0, 5) := pm_of cl255_0 2 (q := (4, .aload_n 0, 5)) rfl
theorem c255_5 : pm_code 255 5 = some (.invokevirtual 389, 8) := pm_of cl255_0 3 (q := (5, .invokevirtual 389, 8)) rfl
theorem c255_8 : pm_code 255 8 = some (.ireturn, 9) := pm_of cl255_0 4 (q := (8, .ireturn, 9)) rfl
theorem c255_9 : pm_code 255 9 = some (.iload_n 1, 10) := pm_of cl255_0 5 (q := (9, .iload_n 1, 10)) rfl
theorem c255_10 : pm_code 255 10 = some (.iconst 1, 11) := pm_of cl255_0 6 (q := (10, .iconst 1, 11)) rfl
theorem c255_11 : pm_code 255 11 = some (.if_icmp .ne 10, 14) := pm_of cl255_0 7 (q := (11, .if_icmp .ne 10, 14)) rfl
theorem c255_14 : pm_code 255 14 = some (.aload_n 0, 15) := pm_of cl255_0 8 (q := (14, .aload_n 0, 15)) rfl
theorem c255_15 : pm_code 255 15 = some (.iload_n 2, 16) := pm_of cl255_0 9 (q := (15, .iload_n 2, 16)) rfl
theorem c255_16 : pm_code 255 16 = some (.iload_n 3, 17) := pm_of cl255_0 10 (q := (16, .iload_n 3, 17)) rfl
theorem c255_17 : pm_code 255 17 = some (.invokevirtual 392, 20) := pm_of cl255_0 11 (q := (17, .invokevirtual 392, 20)) rfl
theorem c255_20 : pm_code 255 20 = some (.ireturn, 21) := pm_of cl255_0 12 (q := (20, .ireturn, 21)) rfl
theorem c255_21 : pm_code 255 21 = some (.iload_n 1, 22) := pm_of cl255_0 13 (q := (21, .iload_n 1, 22)) rfl
theorem c255_22 : pm_code 255 22 = some (.iconst 4, 23) := pm_of cl255_0 14 (q := (22, .iconst 4, 23)) rfl
theorem c255_23 : pm_code 255 23 = some (.if_icmp .eq 8, 26) := pm_of cl255_0 15 (q := (23, .if_icmp .eq 8, 26)) rfl
theorem c255_26 : pm_code 255 26 = some (.iload_n 1, 27) := pm_of cl255_0 16 (q := (26, .iload_n 1, 27)) rfl
theorem c255_27 : pm_code 255 27 = some (.iconst 5, 28) := pm_of cl255_0 17 (q := (27, .iconst 5, 28)) rfl
theorem c255_28 : pm_code 255 28 = some (.if_icmp .ne 19, 31) := pm_of cl255_0 18 (q := (28, .if_icmp .ne 19, 31)) rfl
theorem c255_31 : pm_code 255 31 = some (.aload_n 0, 32) := pm_of cl255_0 19 (q := (31, .aload_n 0, 32)) rfl
theorem c255_32 : pm_code 255 32 = some (.iload_n 2, 33) := pm_of cl255_0 20 (q := (32, .iload_n 2, 33)) rfl
theorem c255_33 : pm_code 255 33 = some (.iload_n 1, 34) := pm_of cl255_0 21 (q := (33, .iload_n 1, 34)) rfl
theorem c255_34 : pm_code 255 34 = some (.iconst 4, 35) := pm_of cl255_0 22 (q := (34, .iconst 4, 35)) rfl
theorem c255_35 : pm_code 255 35 = some (.if_icmp .ne 7, 38) := pm_of cl255_0 23 (q := (35, .if_icmp .ne 7, 38)) rfl
theorem c255_38 : pm_code 255 38 = some (.iconst 1, 39) := pm_of cl255_0 24 (q := (38, .iconst 1, 39)) rfl
theorem c255_39 : pm_code 255 39 = some (.goto 4, 42) := pm_of cl255_0 25 (q := (39, .goto 4, 42)) rfl
theorem c255_42 : pm_code 255 42 = some (.iconst 0, 43) := pm_of cl255_0 26 (q := (42, .iconst 0, 43)) rfl
theorem c255_43 : pm_code 255 43 = some (.invokevirtual 395, 46) := pm_of cl255_0 27 (q := (43, .invokevirtual 395, 46)) rfl
theorem c255_46 : pm_code 255 46 = some (.ireturn, 47) := pm_of cl255_0 28 (q := (46, .ireturn, 47)) rfl
theorem c255_47 : pm_code 255 47 = some (.iload_n 1, 48) := pm_of cl255_0 29 (q := (47, .iload_n 1, 48)) rfl
theorem c255_48 : pm_code 255 48 = some (.bipush 6, 50) := pm_of cl255_0 30 (q := (48, .bipush 6, 50)) rfl
theorem c255_50 : pm_code 255 50 = some (.if_icmp .ne 9, 53) := pm_of cl255_0 31 (q := (50, .if_icmp .ne 9, 53)) rfl
theorem c255_53 : pm_code 255 53 = some (.aload_n 0, 54) := pm_of cl255_0 32 (q := (53, .aload_n 0, 54)) rfl
theorem c255_54 : pm_code 255 54 = some (.iload_n 2, 55) := pm_of cl255_0 33 (q := (54, .iload_n 2, 55)) rfl
theorem c255_55 : pm_code 255 55 = some (.invokevirtual 398, 58) := pm_of cl255_0 34 (q := (55, .invokevirtual 398, 58)) rfl
theorem c255_58 : pm_code 255 58 = some (.ireturn, 59) := pm_of cl255_0 35 (q := (58, .ireturn, 59)) rfl
theorem c255_59 : pm_code 255 59 = some (.iload_n 1, 60) := pm_of cl255_0 36 (q := (59, .iload_n 1, 60)) rfl
theorem c255_60 : pm_code 255 60 = some (.bipush 7, 62) := pm_of cl255_0 37 (q := (60, .bipush 7, 62)) rfl
theorem c255_62 : pm_code 255 62 = some (.if_icmp .ne 24, 65) := pm_of cl255_0 38 (q := (62, .if_icmp .ne 24, 65)) rfl
theorem c255_65 : pm_code 255 65 = some (.aload_n 0, 66) := pm_of cl255_0 39 (q := (65, .aload_n 0, 66)) rfl
theorem cl255_1 : ([(66, .getfield 65, 69), (69, .bipush 64, 71), (71, .iaload, 72), (72, .sipush 900, 75), (75, .if_icmp .ne 5, 78), (78, .iconst 0, 79), (79, .ireturn, 80), (80, .aload_n 0, 81), (81, .invokevirtual 401, 84), (84, .iconst 1, 85), (85, .ireturn, 86), (86, .aload_n 0, 87), (87, .getfield 65, 90), (90, .bipush 24, 92), (92, .iload_n 2, 93), (93, .iadd, 94), (94, .iaload, 95), (95, .istore 4, 97), (97, .iload_n 1, 98), (98, .iconst 2, 99), (99, .if_icmp .ne 25, 102), (102, .aload_n 0, 103), (103, .getfield 65, 106), (106, .iconst 0, 107), (107, .iload_n 2, 108), (108, .iadd, 109), (109, .iaload, 110), (110, .iconst 2, 111), (111, .if_icmp .ne 18, 114), (114, .iload 4, 116), (116, .bipush 99, 118), (118, .if_icmp .ne 13, 121), (121, .goto 8, 124), (124, .iload 4, 126), (126, .ifCond .ne 5, 129), (129, .iconst 0, 130), (130, .ireturn, 131), (131, .aload_n 0, 132), (132, .getfield 65, 135), (135, .bipush 24, 137)] : List (Nat × Instr × Nat)).all (fun q => decide (pm_code 255 q.1 = some q.2)) = true := by decide +kernel
theorem c255_66 : pm_code 255 66 = some (.getfield 65, 69) := pm_of cl255_1 0 (q := (66, .getfield 65, 69)) rfl
theorem c255_69 : pm_code 255 69 = some (.bipush 64, 71) := pm_of cl255_1 1 (q := (69, .bipush 64, 71)) rfl
theorem c255_71 : pm_code 255 71 = some (.iaload, 72) := pm_of cl255_1 2 (q := (71, .iaload, 72)) rfl
theorem c255_72 : pm_code 255 72 = some (.sipush 900, 75) := pm_of cl255_1 3 (q := (72, .sipush 900, 75)) rfl
theorem c255_75 : pm_code 255 75 = some (.if_icmp .ne 5, 78) := pm_of cl255_1 4 (q := (75, .if_icmp .ne 5, 78)) rfl
theorem c255_78 : pm_code 255 78 = some (.iconst 0, 79) := pm_of cl255_1 5 (q := (78, .iconst 0, 79)) rfl
theorem c255_79 : pm_code 255 79 = some (.ireturn, 80) := pm_of cl255_1 6 (q := (79, .ireturn, 80)) rfl
theorem c255_80 : pm_code 255 80 = some (.aload_n 0, 81) := pm_of cl255_1 7 (q := (80, .aload_n 0, 81)) rfl
theorem c255_81 : pm_code 255 81 = some (.invokevirtual 401, 84) := pm_of cl255_1 8 (q := (81, .invokevirtual 401, 84)) rfl
theorem c255_84 : pm_code 255 84 = some (.iconst 1, 85) := pm_of cl255_1 9 (q := (84, .iconst 1, 85)) rfl
theorem c255_85 : pm_code 255 85 = some (.ireturn, 86) := pm_of cl255_1 10 (q := (85, .ireturn, 86)) rfl
theorem c255_86 : pm_code 255 86 = some (.aload_n 0, 87) := pm_of cl255_1 11 (q := (86, .aload_n 0, 87)) rfl
theorem c255_87 : pm_code 255 87 = some (.getfield 65, 90) := pm_of cl255_1 12 (q := (87, .getfield 65, 90)) rfl
theorem c255_90 : pm_code 255 90 = some (.bipush 24, 92) := pm_of cl255_1 13 (q := (90, .bipush 24, 92)) rfl
theorem c255_92 : pm_code 255 92 = some (.iload_n 2, 93) := pm_of cl255_1 14 (q := (92, .iload_n 2, 93)) rfl
theorem c255_93 : pm_code 255 93 = some (.iadd, 94) := pm_of cl255_1 15 (q := (93, .iadd, 94)) rfl
theorem c255_94 : pm_code 255 94 = some (.iaload, 95) := pm_of cl255_1 16 (q := (94, .iaload, 95)) rfl
theorem c255_95 : pm_code 255 95 = some (.istore 4, 97) := pm_of cl255_1 17 (q := (95, .istore 4, 97)) rfl
theorem c255_97 : pm_code 255 97 = some (.iload_n 1, 98) := pm_of cl255_1 18 (q := (97, .iload_n 1, 98)) rfl
theorem c255_98 : pm_code 255 98 = some (.iconst 2, 99) := pm_of cl255_1 19 (q := (98, .iconst 2, 99)) rfl
theorem c255_99 : pm_code 255 99 = some (.if_icmp .ne 25, 102) := pm_of cl255_1 20 (q := (99, .if_icmp .ne 25, 102)) rfl
theorem c255_102 : pm_code 255 102 = some (.aload_n 0, 103) := pm_of cl255_1 21 (q := (102, .aload_n 0, 103)) rfl
theorem c255_103 : pm_code 255 103 = some (.getfield 65, 106) := pm_of cl255_1 22 (q := (103, .getfield 65, 106)) rfl
theorem c255_106 : pm_code 255 106 = some (.iconst 0, 107) := pm_of cl255_1 23 (q := (106, .iconst 0, 107)) rfl
theorem c255_107 : pm_code 255 107 = some (.iload_n 2, 108) := pm_of cl255_1 24 (q := (107, .iload_n 2, 108)) rfl
theorem c255_108 : pm_code 255 108 = some (.iadd, 109) := pm_of cl255_1 25 (q := (108, .iadd, 109)) rfl
theorem c255_109 : pm_code 255 109 = some (.iaload, 110) := pm_of cl255_1 26 (q := (109, .iaload, 110)) rfl
theorem c255_110 : pm_code 255 110 = some (.iconst 2, 111) := pm_of cl255_1 27 (q := (110, .iconst 2, 111)) rfl
theorem c255_111 : pm_code 255 111 = some (.if_icmp .ne 18, 114) := pm_of cl255_1 28 (q := (111, .if_icmp .ne 18, 114)) rfl
theorem c255_114 : pm_code 255 114 = some (.iload 4, 116) := pm_of cl255_1 29 (q := (114, .iload 4, 116)) rfl
theorem c255_116 : pm_code 255 116 = some (.bipush 99, 118) := pm_of cl255_1 30 (q := (116, .bipush 99, 118)) rfl
theorem c255_118 : pm_code 255 118 = some (.if_icmp .ne 13, 121) := pm_of cl255_1 31 (q := (118, .if_icmp .ne 13, 121)) rfl
theorem c255_121 : pm_code 255 121 = some (.goto 8, 124) := pm_of cl255_1 32 (q := (121, .goto 8, 124)) rfl
theorem c255_124 : pm_code 255 124 = some (.iload 4, 126) := pm_of cl255_1 33 (q := (124, .iload 4, 126)) rfl
theorem c255_126 : pm_code 255 126 = some (.ifCond .ne 5, 129) := pm_of cl255_1 34 (q := (126, .ifCond .ne 5, 129)) rfl
theorem c255_129 : pm_code 255 129 = some (.iconst 0, 130) := pm_of cl255_1 35 (q := (129, .iconst 0, 130)) rfl
theorem c255_130 : pm_code 255 130 = some (.ireturn, 131) := pm_of cl255_1 36 (q := (130, .ireturn, 131)) rfl
theorem c255_131 : pm_code 255 131 = some (.aload_n 0, 132) := pm_of cl255_1 37 (q := (131, .aload_n 0, 132)) rfl
theorem c255_132 : pm_code 255 132 = some (.getfield 65, 135) := pm_of cl255_1 38 (q := (132, .getfield 65, 135)) rfl
theorem c255_135 : pm_code 255 135 = some (.bipush 24, 137) := pm_of cl255_1 39 (q := (135, .bipush 24, 137)) rfl
theorem cl255_2 : ([(137, .iload_n 2, 138), (138, .iadd, 139), (139, .iload_n 1, 140), (140, .iconst 3, 141), (141, .if_icmp .ne 7, 144), (144, .iconst 0, 145), (145, .goto 21, 148), (148, .iload 4, 150), (150, .iload_n 3, 151), (151, .iadd, 152), (152, .bipush 99, 154), (154, .if_icmp .le 8, 157), (157, .bipush 99, 159), (159, .goto 7, 162), (162, .iload 4, 164), (164, .iload_n 3, 165), (165, .iadd, 166), (166, .iastore, 167), (167, .iconst 1, 168), (168, .ireturn, 169)] : List (Nat × Instr × Nat)).all (fun q => decide (pm_code 255 q.1 = some q.2)) = true := by decide +kernel
theorem c255_137 : pm_code 255 137 = some (.iload_n 2, 138) := pm_of cl255_2 0 (q := (137, .iload_n 2, 138)) rfl
theorem c255_138 : pm_code 255 138 = some (.iadd, 139) := pm_of cl255_2 1 (q := (138, .iadd, 139)) rfl
theorem c255_139 : pm_code 255 139 = some (.iload_n 1, 140) := pm_of cl255_2 2 (q := (139, .iload_n 1, 140)) rfl
theorem c255_140 : pm_code 255 140 = some (.iconst 3, 141) := pm_of cl255_2 3 (q := (140, .iconst 3, 141)) rfl
theorem c255_141 : pm_code 255 141 = some (.if_icmp .ne 7, 144) := pm_of cl255_2 4 (q := (141, .if_icmp .ne 7, 144)) rfl
theorem c255_144 : pm_code 255 144 = some (.iconst 0, 145) := pm_of cl255_2 5 (q := (144, .iconst 0, 145)) rfl
theorem c255_145 : pm_code 255 145 = some (.goto 21, 148) := pm_of cl255_2 6 (q := (145, .goto 21, 148)) rfl
theorem c255_148 : pm_code 255 148 = some (.iload 4, 150) := pm_of cl255_2 7 (q := (148, .iload 4, 150)) rfl
theorem c255_150 : pm_code 255 150 = some (.iload_n 3, 151) := pm_of cl255_2 8 (q := (150, .iload_n 3, 151)) rfl
theorem c255_151 : pm_code 255 151 = some (.iadd, 152) := pm_of cl255_2 9 (q := (151, .iadd, 152)) rfl
theorem c255_152 : pm_code 255 152 = some (.bipush 99, 154) := pm_of cl255_2 10 (q := (152, .bipush 99, 154)) rfl
theorem c255_154 : pm_code 255 154 = some (.if_icmp .le 8, 157) := pm_of cl255_2 11 (q := (154, .if_icmp .le 8, 157)) rfl
theorem c255_157 : pm_code 255 157 = some (.bipush 99, 159) := pm_of cl255_2 12 (q := (157, .bipush 99, 159)) rfl
theorem c255_159 : pm_code 255 159 = some (.goto 7, 162) := pm_of cl255_2 13 (q := (159, .goto 7, 162)) rfl
theorem c255_162 : pm_code 255 162 = some (.iload 4, 164) := pm_of cl255_2 14 (q := (162, .iload 4, 164)) rfl
theorem c255_164 : pm_code 255 164 = some (.iload_n 3, 165) := pm_of cl255_2 15 (q := (164, .iload_n 3, 165)) rfl
theorem c255_165 : pm_code 255 165 = some (.iadd, 166) := pm_of cl255_2 16 (q := (165, .iadd, 166)) rfl
theorem c255_166 : pm_code 255 166 = some (.iastore, 167) := pm_of cl255_2 17 (q := (166, .iastore, 167)) rfl
theorem c255_167 : pm_code 255 167 = some (.iconst 1, 168) := pm_of cl255_2 18 (q := (167, .iconst 1, 168)) rfl
theorem c255_168 : pm_code 255 168 = some (.ireturn, 169) := pm_of cl255_2 19 (q := (168, .ireturn, 169)) rfl
theorem k256 : pm_k 256 = 12 := by decide +kernel
theorem ml256 : pm_ml 256 = 2 := by decide +kernel
theorem rt256 : pm_rt 256 = (some .boolean) := by decide +kernel
theorem hh256 : pm_hh 256 = [] := by decide +kernel
theorem rc256 : pm_cl 12 = (pm_y 256).cls := by decide +kernel
theorem cl256_0 : ([(0, .aload_n 0, 1), (1, .iconst 0, 2), (2, .invokevirtual 374, 5), (5, .ifCond .eq 17, 8), (8, .aload_n 0, 9), (9, .getfield 65, 12), (12, .bipush 64, 14), (14, .iaload, 15), (15, .aload_n 0, 16), (16, .getfield 175, 19), (19, .if_icmp .ge 5, 22), (22, .iconst 0, 23), (23, .ireturn, 24), (24, .iconst 0, 25), (25, .istore_n 1, 26), (26, .iload_n 1, 27), (27, .aload_n 0, 28), (28, .getfield 169, 31), (31, .if_icmp .ge 29, 34), (34, .aload_n 0, 35), (35, .getfield 65, 38), (38, .iconst 0, 39), (39, .iload_n 1, 40), (40, .iadd, 41), (41, .iaload, 42), (42, .ifCond .ne 12, 45), (45, .aload_n 0, 46), (46, .getfield 65, 49), (49, .iconst 0, 50), (50, .iload_n 1, 51), (51, .iadd, 52), (52, .iconst 1, 53), (53, .iastore, 54), (54, .iinc 1 1, 57), (57, .goto (-31), 60), (60, .iconst 1, 61), (61, .ireturn, 62)] : List (Nat × Instr × Nat)).all (fun q => decide (pm_code 256 q.1 = some q.2)) = true := by decide +kernel
theorem c256_0 : pm_code 256 0 = some (.aload_n 0, 1) := pm_of cl256_0 0 (q := (0, .aload_n 0, 1)) rfl
theorem c256_1 : pm_code 256 1 = some (.iconst 0, 2) := pm_of cl256_0 1 (q := (1, .iconst 0, 2)) rfl
theorem c256_2 : pm_code 256 2 = some (.invokevirtual 374, 5) := pm_of cl256_0 2 (q := (2, .invokevirtual 374, 5)) rfl
theorem c256_5 : pm_code 256 5 = some (.ifCond .eq 17, 8) := pm_of cl256_0 3 (q := (5, .ifCond .eq 17, 8)) rfl
theorem c256_8 : pm_code 256 8 = some (.aload_n 0, 9) := pm_of cl256_0 4 (q := (8, .aload_n 0, 9)) rfl
theorem c256_9 : pm_code 256 9 = some (.getfield 65, 12) := pm_of cl256_0 5 (q := (9, .getfield 65, 12)) rfl
theorem c256_12 : pm_code 256 12 = some (.bipush 64, 14) := pm_of cl256_0 6 (q := (12, .bipush 64, 14)) rfl
theorem c256_14 : pm_code 256 14 = some (.iaload, 15) := pm_of cl256_0 7 (q := (14, .iaload, 15)) rfl
theorem c256_15 : pm_code 256 15 = some (.aload_n 0, 16) := pm_of cl256_0 8 (q := (15, .aload_n 0, 16)) rfl
theorem c256_16 : pm_code 256 16 = some (.getfield 175, 19) := pm_of cl256_0 9 (q := (16, .getfield 175, 19)) rfl
theorem c256_19 : pm_code 256 19 = some (.if_icmp .ge 5, 22) := pm_of cl256_0 10 (q := (19, .if_icmp .ge 5, 22)) rfl
theorem c256_22 : pm_code 256 22 = some (.iconst 0, 23) := pm_of cl256_0 11 (q := (22, .iconst 0, 23)) rfl
theorem c256_23 : pm_code 256 23 = some (.ireturn, 24) := pm_of cl256_0 12 (q := (23, .ireturn, 24)) rfl
theorem c256_24 : pm_code 256 24 = some (.iconst 0, 25) := pm_of cl256_0 13 (q := (24, .iconst 0, 25)) rfl
theorem c256_25 : pm_code 256 25 = some (.istore_n 1, 26) := pm_of cl256_0 14 (q := (25, .istore_n 1, 26)) rfl
theorem c256_26 : pm_code 256 26 = some (.iload_n 1, 27) := pm_of cl256_0 15 (q := (26, .iload_n 1, 27)) rfl
theorem c256_27 : pm_code 256 27 = some (.aload_n 0, 28) := pm_of cl256_0 16 (q := (27, .aload_n 0, 28)) rfl
theorem c256_28 : pm_code 256 28 = some (.getfield 169, 31) := pm_of cl256_0 17 (q := (28, .getfield 169, 31)) rfl
theorem c256_31 : pm_code 256 31 = some (.if_icmp .ge 29, 34) := pm_of cl256_0 18 (q := (31, .if_icmp .ge 29, 34)) rfl
theorem c256_34 : pm_code 256 34 = some (.aload_n 0, 35) := pm_of cl256_0 19 (q := (34, .aload_n 0, 35)) rfl
theorem c256_35 : pm_code 256 35 = some (.getfield 65, 38) := pm_of cl256_0 20 (q := (35, .getfield 65, 38)) rfl
theorem c256_38 : pm_code 256 38 = some (.iconst 0, 39) := pm_of cl256_0 21 (q := (38, .iconst 0, 39)) rfl
theorem c256_39 : pm_code 256 39 = some (.iload_n 1, 40) := pm_of cl256_0 22 (q := (39, .iload_n 1, 40)) rfl
theorem c256_40 : pm_code 256 40 = some (.iadd, 41) := pm_of cl256_0 23 (q := (40, .iadd, 41)) rfl
theorem c256_41 : pm_code 256 41 = some (.iaload, 42) := pm_of cl256_0 24 (q := (41, .iaload, 42)) rfl
theorem c256_42 : pm_code 256 42 = some (.ifCond .ne 12, 45) := pm_of cl256_0 25 (q := (42, .ifCond .ne 12, 45)) rfl
theorem c256_45 : pm_code 256 45 = some (.aload_n 0, 46) := pm_of cl256_0 26 (q := (45, .aload_n 0, 46)) rfl
theorem c256_46 : pm_code 256 46 = some (.getfield 65, 49) := pm_of cl256_0 27 (q := (46, .getfield 65, 49)) rfl
theorem c256_49 : pm_code 256 49 = some (.iconst 0, 50) := pm_of cl256_0 28 (q := (49, .iconst 0, 50)) rfl
theorem c256_50 : pm_code 256 50 = some (.iload_n 1, 51) := pm_of cl256_0 29 (q := (50, .iload_n 1, 51)) rfl
theorem c256_51 : pm_code 256 51 = some (.iadd, 52) := pm_of cl256_0 30 (q := (51, .iadd, 52)) rfl
theorem c256_52 : pm_code 256 52 = some (.iconst 1, 53) := pm_of cl256_0 31 (q := (52, .iconst 1, 53)) rfl
theorem c256_53 : pm_code 256 53 = some (.iastore, 54) := pm_of cl256_0 32 (q := (53, .iastore, 54)) rfl
theorem c256_54 : pm_code 256 54 = some (.iinc 1 1, 57) := pm_of cl256_0 33 (q := (54, .iinc 1 1, 57)) rfl
theorem c256_57 : pm_code 256 57 = some (.goto (-31), 60) := pm_of cl256_0 34 (q := (57, .goto (-31), 60)) rfl
theorem c256_60 : pm_code 256 60 = some (.iconst 1, 61) := pm_of cl256_0 35 (q := (60, .iconst 1, 61)) rfl
theorem c256_61 : pm_code 256 61 = some (.ireturn, 62) := pm_of cl256_0 36 (q := (61, .ireturn, 62)) rfl
theorem k257 : pm_k 257 = 12 := by decide +kernel
theorem ml257 : pm_ml 257 = 4 := by decide +kernel
theorem rt257 : pm_rt 257 = (some .int) := by decide +kernel
theorem hh257 : pm_hh 257 = [] := by decide +kernel
theorem rc257 : pm_cl 12 = (pm_y 257).cls := by decide +kernel
theorem cl257_0 : ([(0, .iconst 0, 1), (1, .istore_n 2, 2), (2, .iconst 0, 3), (3, .istore_n 3, 4), (4, .iload_n 3, 5), (5, .aload_n 0, 6), (6, .getfield 169, 9), (9, .if_icmp .ge 29, 12), (12, .iload_n 2, 13), (13, .aload_n 0, 14), (14, .getfield 65, 17), (17, .iconst 0, 18), (18, .iload_n 3, 19), (19, .iadd, 20), (20, .iaload, 21), (21, .iload_n 1, 22), (22, .if_icmp .ne 7, 25), (25, .iconst 1, 26), (26, .goto 4, 29), (29, .iconst 0, 30), (30, .iadd, 31), (31, .istore_n 2, 32), (32, .iinc 3 1, 35), (35, .goto (-31), 38), (38, .iload_n 2, 39), (39, .ireturn, 40)] : List (Nat × Instr × Nat)).all (fun q => decide (pm_code 257 q.1 = some q.2)) = true := by decide +kernel
theorem c257_0 : pm_code 257 0 = some (.iconst 0, 1) := pm_of cl257_0 0 (q := (0, .iconst 0, 1)) rfl
theorem c257_1 : pm_code 257 1 = some (.istore_n 2, 2) := pm_of cl257_0 1 (q := (1, .istore_n 2, 2)) rfl
theorem c257_2 : pm_code 257 2 = some (.iconst 0, 3) := pm_of cl257_0 2 (q := (2, .iconst 0, 3)) rfl
theorem c257_3 : pm_code 257 3 = some (.istore_n 3, 4) := pm_of cl257_0 3 (q := (3, .istore_n 3, 4)) rfl
theorem c257_4 : pm_code 257 4 = some (.iload_n 3, 5) := pm_of cl257_0 4 (q := (4, .iload_n 3, 5)) rfl
theorem c257_5 : pm_code 257 5 = some (.aload_n 0, 6) := pm_of cl257_0 5 (q := (5, .aload_n 0, 6)) rfl
theorem c257_6 : pm_code 257 6 = some (.getfield 169, 9) := pm_of cl257_0 6 (q := (6, .getfield 169, 9)) rfl
theorem c257_9 : pm_code 257 9 = some (.if_icmp .ge 29, 12) := pm_of cl257_0 7 (q := (9, .if_icmp .ge 29, 12)) rfl
theorem c257_12 : pm_code 257 12 = some (.iload_n 2, 13) := pm_of cl257_0 8 (q := (12, .iload_n 2, 13)) rfl
theorem c257_13 : pm_code 257 13 = some (.aload_n 0, 14) := pm_of cl257_0 9 (q := (13, .aload_n 0, 14)) rfl
theorem c257_14 : pm_code 257 14 = some (.getfield 65, 17) := pm_of cl257_0 10 (q := (14, .getfield 65, 17)) rfl
theorem c257_17 : pm_code 257 17 = some (.iconst 0, 18) := pm_of cl257_0 11 (q := (17, .iconst 0, 18)) rfl
theorem c257_18 : pm_code 257 18 = some (.iload_n 3, 19) := pm_of cl257_0 12 (q := (18, .iload_n 3, 19)) rfl
theorem c257_19 : pm_code 257 19 = some (.iadd, 20) := pm_of cl257_0 13 (q := (19, .iadd, 20)) rfl
theorem c257_20 : pm_code 257 20 = some (.iaload, 21) := pm_of cl257_0 14 (q := (20, .iaload, 21)) rfl
theorem c257_21 : pm_code 257 21 = some (.iload_n 1, 22) := pm_of cl257_0 15 (q := (21, .iload_n 1, 22)) rfl
theorem c257_22 : pm_code 257 22 = some (.if_icmp .ne 7, 25) := pm_of cl257_0 16 (q := (22, .if_icmp .ne 7, 25)) rfl
theorem c257_25 : pm_code 257 25 = some (.iconst 1, 26) := pm_of cl257_0 17 (q := (25, .iconst 1, 26)) rfl
theorem c257_26 : pm_code 257 26 = some (.goto 4, 29) := pm_of cl257_0 18 (q := (26, .goto 4, 29)) rfl
theorem c257_29 : pm_code 257 29 = some (.iconst 0, 30) := pm_of cl257_0 19 (q := (29, .iconst 0, 30)) rfl
theorem c257_30 : pm_code 257 30 = some (.iadd, 31) := pm_of cl257_0 20 (q := (30, .iadd, 31)) rfl
theorem c257_31 : pm_code 257 31 = some (.istore_n 2, 32) := pm_of cl257_0 21 (q := (31, .istore_n 2, 32)) rfl
theorem c257_32 : pm_code 257 32 = some (.iinc 3 1, 35) := pm_of cl257_0 22 (q := (32, .iinc 3 1, 35)) rfl
theorem c257_35 : pm_code 257 35 = some (.goto (-31), 38) := pm_of cl257_0 23 (q := (35, .goto (-31), 38)) rfl
theorem c257_38 : pm_code 257 38 = some (.iload_n 2, 39) := pm_of cl257_0 24 (q := (38, .iload_n 2, 39)) rfl
theorem c257_39 : pm_code 257 39 = some (.ireturn, 40) := pm_of cl257_0 25 (q := (39, .ireturn, 40)) rfl
