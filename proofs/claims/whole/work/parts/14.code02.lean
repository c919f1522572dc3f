/-! WHAT STANDS AT EVERY PLACE, ON -/
theorem k88 : pm_k 88 = 5 := by decide +kernel
theorem ml88 : pm_ml 88 = 1 := by decide +kernel
theorem rt88 : pm_rt 88 = (some .int) := by decide +kernel
theorem hh88 : pm_hh 88 = [] := by decide +kernel
theorem rc88 : pm_cl 5 = (pm_y 88).cls := by decide +kernel
theorem cl88_0 : ([(0, .aload_n 0, 1), (1, .ldc 93, 3), (3, .invokevirtual 95, 6), (6, .ifCond .eq 5, 9), (9, .iconst 0, 10), (10, .ireturn, 11), (11, .aload_n 0, 12), (12, .ldc 99, 14), (14, .invokevirtual 95, 17), (17, .ifCond .eq 5, 20), (20, .iconst 1, 21), (21, .ireturn, 22), (22, .aload_n 0, 23), (23, .ldc 101, 25), (25, .invokevirtual 95, 28), (28, .ifCond .eq 5, 31), (31, .iconst 2, 32), (32, .ireturn, 33), (33, .aload_n 0, 34), (34, .ldc 103, 36), (36, .invokevirtual 95, 39), (39, .ifCond .eq 5, 42), (42, .iconst 3, 43), (43, .ireturn, 44), (44, .aload_n 0, 45), (45, .ldc 104, 47), (47, .invokevirtual 95, 50), (50, .ifCond .eq 7, 53), (53, .iconst 4, 54), (54, .goto 4, 57), (57, .iconst (-1), 58), (58, .ireturn, 59)] : List (Nat × Instr × Nat)).all (fun q => decide (pm_code 88 q.1 = some q.2)) = true := by decide +kernel
theorem c88_0 : pm_code 88 0 = some (.aload_n 0, 1) := pm_of cl88_0 0 (q := (0, .aload_n 0, 1)) rfl
theorem c88_1 : pm_code 88 1 = some (.ldc 93, 3) := pm_of cl88_0 1 (q := (1, .ldc 93, 3)) rfl
theorem c88_3 : pm_code 88 3 = some (.invokevirtual 95, 6) := pm_of cl88_0 2 (q := (3, .invokevirtual 95, 6)) rfl
theorem c88_6 : pm_code 88 6 = some (.ifCond .eq 5, 9) := pm_of cl88_0 3 (q := (6, .ifCond .eq 5, 9)) rfl
theorem c88_9 : pm_code 88 9 = some (.iconst 0, 10) := pm_of cl88_0 4 (q := (9, .iconst 0, 10)) rfl
theorem c88_10 : pm_code 88 10 = some (.ireturn, 11) := pm_of cl88_0 5 (q := (10, .ireturn, 11)) rfl
theorem c88_11 : pm_code 88 11 = some (.aload_n 0, 12) := pm_of cl88_0 6 (q := (11, .aload_n 0, 12)) rfl
theorem c88_12 : pm_code 88 12 = some (.ldc 99, 14) := pm_of cl88_0 7 (q := (12, .ldc 99, 14)) rfl
theorem c88_14 : pm_code 88 14 = some (.invokevirtual 95, 17) := pm_of cl88_0 8 (q := (14, .invokevirtual 95, 17)) rfl
theorem c88_17 : pm_code 88 17 = some (.ifCond .eq 5, 20) := pm_of cl88_0 9 (q := (17, .ifCond .eq 5, 20)) rfl
theorem c88_20 : pm_code 88 20 = some (.iconst 1, 21) := pm_of cl88_0 10 (q := (20, .iconst 1, 21)) rfl
theorem c88_21 : pm_code 88 21 = some (.ireturn, 22) := pm_of cl88_0 11 (q := (21, .ireturn, 22)) rfl
theorem c88_22 : pm_code 88 22 = some (.aload_n 0, 23) := pm_of cl88_0 12 (q := (22, .aload_n 0, 23)) rfl
theorem c88_23 : pm_code 88 23 = some (.ldc 101, 25) := pm_of cl88_0 13 (q := (23, .ldc 101, 25)) rfl
theorem c88_25 : pm_code 88 25 = some (.invokevirtual 95, 28) := pm_of cl88_0 14 (q := (25, .invokevirtual 95, 28)) rfl
theorem c88_28 : pm_code 88 28 = some (.ifCond .eq 5, 31) := pm_of cl88_0 15 (q := (28, .ifCond .eq 5, 31)) rfl
theorem c88_31 : pm_code 88 31 = some (.iconst 2, 32) := pm_of cl88_0 16 (q := (31, .iconst 2, 32)) rfl
theorem c88_32 : pm_code 88 32 = some (.ireturn, 33) := pm_of cl88_0 17 (q := (32, .ireturn, 33)) rfl
theorem c88_33 : pm_code 88 33 = some (.aload_n 0, 34) := pm_of cl88_0 18 (q := (33, .aload_n 0, 34)) rfl
theorem c88_34 : pm_code 88 34 = some (.ldc 103, 36) := pm_of cl88_0 19 (q := (34, .ldc 103, 36)) rfl
theorem c88_36 : pm_code 88 36 = some (.invokevirtual 95, 39) := pm_of cl88_0 20 (q := (36, .invokevirtual 95, 39)) rfl
theorem c88_39 : pm_code 88 39 = some (.ifCond .eq 5, 42) := pm_of cl88_0 21 (q := (39, .ifCond .eq 5, 42)) rfl
theorem c88_42 : pm_code 88 42 = some (.iconst 3, 43) := pm_of cl88_0 22 (q := (42, .iconst 3, 43)) rfl
theorem c88_43 : pm_code 88 43 = some (.ireturn, 44) := pm_of cl88_0 23 (q := (43, .ireturn, 44)) rfl
theorem c88_44 : pm_code 88 44 = some (.aload_n 0, 45) := pm_of cl88_0 24 (q := (44, .aload_n 0, 45)) rfl
theorem c88_45 : pm_code 88 45 = some (.ldc 104, 47) := pm_of cl88_0 25 (q := (45, .ldc 104, 47)) rfl
theorem c88_47 : pm_code 88 47 = some (.invokevirtual 95, 50) := pm_of cl88_0 26 (q := (47, .invokevirtual 95, 50)) rfl
theorem c88_50 : pm_code 88 50 = some (.ifCond .eq 7, 53) := pm_of cl88_0 27 (q := (50, .ifCond .eq 7, 53)) rfl
theorem c88_53 : pm_code 88 53 = some (.iconst 4, 54) := pm_of cl88_0 28 (q := (53, .iconst 4, 54)) rfl
theorem c88_54 : pm_code 88 54 = some (.goto 4, 57) := pm_of cl88_0 29 (q := (54, .goto 4, 57)) rfl
theorem c88_57 : pm_code 88 57 = some (.iconst (-1), 58) := pm_of cl88_0 30 (q := (57, .iconst (-1), 58)) rfl
theorem c88_58 : pm_code 88 58 = some (.ireturn, 59) := pm_of cl88_0 31 (q := (58, .ireturn, 59)) rfl
theorem k89 : pm_k 89 = 5 := by decide +kernel
theorem ml89 : pm_ml 89 = 2 := by decide +kernel
theorem rt89 : pm_rt 89 = none := by decide +kernel
theorem hh89 : pm_hh 89 = [] := by decide +kernel
theorem rc89 : pm_cl 5 = (pm_y 89).cls := by decide +kernel
theorem cl89_0 : ([(0, .aload_n 0, 1), (1, .getfield 9, 4), (4, .aload_n 0, 5), (5, .getfield 33, 8), (8, .aload_n 1, 9), (9, .iconst 1, 10), (10, .bipush 9, 12), (12, .invokevirtual 85, 15), (15, .invokestatic 106, 18), (18, .aload_n 0, 19), (19, .getfield 15, 22), (22, .aload_n 0, 23), (23, .getfield 33, 26), (26, .aload_n 1, 27), (27, .iconst 0, 28), (28, .iconst 5, 29), (29, .invokevirtual 85, 32), (32, .invokestatic 106, 35), (35, .aload_n 0, 36), (36, .getfield 18, 39), (39, .aload_n 0, 40), (40, .getfield 33, 43), (43, .aload_n 1, 44), (44, .iconst 0, 45), (45, .iconst 4, 46), (46, .invokevirtual 85, 49), (49, .invokestatic 106, 52), (52, .aload_n 0, 53), (53, .getfield 21, 56), (56, .aload_n 0, 57), (57, .getfield 33, 60), (60, .iconst 0, 61), (61, .invokestatic 106, 64), (64, .aload_n 0, 65), (65, .dup, 66), (66, .getfield 33, 69), (69, .iconst 1, 70), (70, .iadd, 71), (71, .putfield 33, 74), (74, .return_, 75)] : List (Nat × Instr × Nat)).all (fun q => decide (pm_code 89 q.1 = some q.2)) = true := by decide +kernel
theorem c89_0 : pm_code 89 0 = some (.aload_n 0, 1) := pm_of cl89_0 0 (q := (0, .aload_n 0, 1)) rfl
theorem c89_1 : pm_code 89 1 = some (.getfield 9, 4) := pm_of cl89_0 1 (q := (1, .getfield 9, 4)) rfl
theorem c89_4 : pm_code 89 4 = some (.aload_n 0, 5) := pm_of cl89_0 2 (q := (4, .aload_n 0, 5)) rfl
theorem c89_5 : pm_code 89 5 = some (.getfield 33, 8) := pm_of cl89_0 3 (q := (5, .getfield 33, 8)) rfl
theorem c89_8 : pm_code 89 8 = some (.aload_n 1, 9) := pm_of cl89_0 4 (q := (8, .aload_n 1, 9)) rfl
theorem c89_9 : pm_code 89 9 = some (.iconst 1, 10) := pm_of cl89_0 5 (q := (9, .iconst 1, 10)) rfl
theorem c89_10 : pm_code 89 10 = some (.bipush 9, 12) := pm_of cl89_0 6 (q := (10, .bipush 9, 12)) rfl
theorem c89_12 : pm_code 89 12 = some (.invokevirtual 85, 15) := pm_of cl89_0 7 (q := (12, .invokevirtual 85, 15)) rfl
theorem c89_15 : pm_code 89 15 = some (.invokestatic 106, 18) := pm_of cl89_0 8 (q := (15, .invokestatic 106, 18)) rfl
theorem c89_18 : pm_code 89 18 = some (.aload_n 0, 19) := pm_of cl89_0 9 (q := (18, .aload_n 0, 19)) rfl
theorem c89_19 : pm_code 89 19 = some (.getfield 15, 22) := pm_of cl89_0 10 (q := (19, .getfield 15, 22)) rfl
theorem c89_22 : pm_code 89 22 = some (.aload_n 0, 23) := pm_of cl89_0 11 (q := (22, .aload_n 0, 23)) rfl
theorem c89_23 : pm_code 89 23 = some (.getfield 33, 26) := pm_of cl89_0 12 (q := (23, .getfield 33, 26)) rfl
theorem c89_26 : pm_code 89 26 = some (.aload_n 1, 27) := pm_of cl89_0 13 (q := (26, .aload_n 1, 27)) rfl
theorem c89_27 : pm_code 89 27 = some (.iconst 0, 28) := pm_of cl89_0 14 (q := (27, .iconst 0, 28)) rfl
theorem c89_28 : pm_code 89 28 = some (.iconst 5, 29) := pm_of cl89_0 15 (q := (28, .iconst 5, 29)) rfl
theorem c89_29 : pm_code 89 29 = some (.invokevirtual 85, 32) := pm_of cl89_0 16 (q := (29, .invokevirtual 85, 32)) rfl
theorem c89_32 : pm_code 89 32 = some (.invokestatic 106, 35) := pm_of cl89_0 17 (q := (32, .invokestatic 106, 35)) rfl
theorem c89_35 : pm_code 89 35 = some (.aload_n 0, 36) := pm_of cl89_0 18 (q := (35, .aload_n 0, 36)) rfl
theorem c89_36 : pm_code 89 36 = some (.getfield 18, 39) := pm_of cl89_0 19 (q := (36, .getfield 18, 39)) rfl
theorem c89_39 : pm_code 89 39 = some (.aload_n 0, 40) := pm_of cl89_0 20 (q := (39, .aload_n 0, 40)) rfl
theorem c89_40 : pm_code 89 40 = some (.getfield 33, 43) := pm_of cl89_0 21 (q := (40, .getfield 33, 43)) rfl
theorem c89_43 : pm_code 89 43 = some (.aload_n 1, 44) := pm_of cl89_0 22 (q := (43, .aload_n 1, 44)) rfl
theorem c89_44 : pm_code 89 44 = some (.iconst 0, 45) := pm_of cl89_0 23 (q := (44, .iconst 0, 45)) rfl
theorem c89_45 : pm_code 89 45 = some (.iconst 4, 46) := pm_of cl89_0 24 (q := (45, .iconst 4, 46)) rfl
theorem c89_46 : pm_code 89 46 = some (.invokevirtual 85, 49) := pm_of cl89_0 25 (q := (46, .invokevirtual 85, 49)) rfl
theorem c89_49 : pm_code 89 49 = some (.invokestatic 106, 52) := pm_of cl89_0 26 (q := (49, .invokestatic 106, 52)) rfl
theorem c89_52 : pm_code 89 52 = some (.aload_n 0, 53) := pm_of cl89_0 27 (q := (52, .aload_n 0, 53)) rfl
theorem c89_53 : pm_code 89 53 = some (.getfield 21, 56) := pm_of cl89_0 28 (q := (53, .getfield 21, 56)) rfl
theorem c89_56 : pm_code 89 56 = some (.aload_n 0, 57) := pm_of cl89_0 29 (q := (56, .aload_n 0, 57)) rfl
theorem c89_57 : pm_code 89 57 = some (.getfield 33, 60) := pm_of cl89_0 30 (q := (57, .getfield 33, 60)) rfl
theorem c89_60 : pm_code 89 60 = some (.iconst 0, 61) := pm_of cl89_0 31 (q := (60, .iconst 0, 61)) rfl
theorem c89_61 : pm_code 89 61 = some (.invokestatic 106, 64) := pm_of cl89_0 32 (q := (61, .invokestatic 106, 64)) rfl
theorem c89_64 : pm_code 89 64 = some (.aload_n 0, 65) := pm_of cl89_0 33 (q := (64, .aload_n 0, 65)) rfl
theorem c89_65 : pm_code 89 65 = some (.dup, 66) := pm_of cl89_0 34 (q := (65, .dup, 66)) rfl
theorem c89_66 : pm_code 89 66 = some (.getfield 33, 69) := pm_of cl89_0 35 (q := (66, .getfield 33, 69)) rfl
theorem c89_69 : pm_code 89 69 = some (.iconst 1, 70) := pm_of cl89_0 36 (q := (69, .iconst 1, 70)) rfl
theorem c89_70 : pm_code 89 70 = some (.iadd, 71) := pm_of cl89_0 37 (q := (70, .iadd, 71)) rfl
theorem c89_71 : pm_code 89 71 = some (.putfield 33, 74) := pm_of cl89_0 38 (q := (71, .putfield 33, 74)) rfl
theorem c89_74 : pm_code 89 74 = some (.return_, 75) := pm_of cl89_0 39 (q := (74, .return_, 75)) rfl
theorem k90 : pm_k 90 = 5 := by decide +kernel
theorem ml90 : pm_ml 90 = 2 := by decide +kernel
theorem rt90 : pm_rt 90 = none := by decide +kernel
theorem hh90 : pm_hh 90 = [] := by decide +kernel
theorem rc90 : pm_cl 5 = (pm_y 90).cls := by decide +kernel
theorem cl90_0 : ([(0, .aload_n 0, 1), (1, .getfield 24, 4), (4, .aload_n 0, 5), (5, .getfield 37, 8), (8, .aload_n 1, 9), (9, .iconst 0, 10), (10, .iconst 5, 11), (11, .invokevirtual 85, 14), (14, .invokestatic 106, 17), (17, .aload_n 0, 18), (18, .getfield 27, 21), (21, .aload_n 0, 22), (22, .getfield 37, 25), (25, .aload_n 1, 26), (26, .iconst 1, 27), (27, .bipush 40, 29), (29, .invokevirtual 85, 32), (32, .invokestatic 106, 35), (35, .aload_n 0, 36), (36, .getfield 30, 39), (39, .aload_n 0, 40), (40, .getfield 37, 43), (43, .aload_n 1, 44), (44, .iconst 1, 45), (45, .iconst 4, 46), (46, .invokevirtual 85, 49), (49, .invokestatic 106, 52), (52, .aload_n 0, 53), (53, .dup, 54), (54, .getfield 37, 57), (57, .iconst 1, 58), (58, .iadd, 59), (59, .putfield 37, 62), (62, .return_, 63)] : List (Nat × Instr × Nat)).all (fun q => decide (pm_code 90 q.1 = some q.2)) = true := by decide +kernel
theorem c90_0 : pm_code 90 0 = some (.aload_n 0, 1) := pm_of cl90_0 0 (q := (0, .aload_n 0, 1)) rfl
theorem c90_1 : pm_code 90 1 = some (.getfield 24, 4) := pm_of cl90_0 1 (q := (1, .getfield 24, 4)) rfl
theorem c90_4 : pm_code 90 4 = some (.aload_n 0, 5) := pm_of cl90_0 2 (q := (4, .aload_n 0, 5)) rfl
theorem c90_5 : pm_code 90 5 = some (.getfield 37, 8) := pm_of cl90_0 3 (q := (5, .getfield 37, 8)) rfl
theorem c90_8 : pm_code 90 8 = some (.aload_n 1, 9) := pm_of cl90_0 4 (q := (8, .aload_n 1, 9)) rfl
theorem c90_9 : pm_code 90 9 = some (.iconst 0, 10) := pm_of cl90_0 5 (q := (9, .iconst 0, 10)) rfl
theorem c90_10 : pm_code 90 10 = some (.iconst 5, 11) := pm_of cl90_0 6 (q := (10, .iconst 5, 11)) rfl
theorem c90_11 : pm_code 90 11 = some (.invokevirtual 85, 14) := pm_of cl90_0 7 (q := (11, .invokevirtual 85, 14)) rfl
theorem c90_14 : pm_code 90 14 = some (.invokestatic 106, 17) := pm_of cl90_0 8 (q := (14, .invokestatic 106, 17)) rfl
theorem c90_17 : pm_code 90 17 = some (.aload_n 0, 18) := pm_of cl90_0 9 (q := (17, .aload_n 0, 18)) rfl
theorem c90_18 : pm_code 90 18 = some (.getfield 27, 21) := pm_of cl90_0 10 (q := (18, .getfield 27, 21)) rfl
theorem c90_21 : pm_code 90 21 = some (.aload_n 0, 22) := pm_of cl90_0 11 (q := (21, .aload_n 0, 22)) rfl
theorem c90_22 : pm_code 90 22 = some (.getfield 37, 25) := pm_of cl90_0 12 (q := (22, .getfield 37, 25)) rfl
theorem c90_25 : pm_code 90 25 = some (.aload_n 1, 26) := pm_of cl90_0 13 (q := (25, .aload_n 1, 26)) rfl
theorem c90_26 : pm_code 90 26 = some (.iconst 1, 27) := pm_of cl90_0 14 (q := (26, .iconst 1, 27)) rfl
theorem c90_27 : pm_code 90 27 = some (.bipush 40, 29) := pm_of cl90_0 15 (q := (27, .bipush 40, 29)) rfl
theorem c90_29 : pm_code 90 29 = some (.invokevirtual 85, 32) := pm_of cl90_0 16 (q := (29, .invokevirtual 85, 32)) rfl
theorem c90_32 : pm_code 90 32 = some (.invokestatic 106, 35) := pm_of cl90_0 17 (q := (32, .invokestatic 106, 35)) rfl
theorem c90_35 : pm_code 90 35 = some (.aload_n 0, 36) := pm_of cl90_0 18 (q := (35, .aload_n 0, 36)) rfl
theorem c90_36 : pm_code 90 36 = some (.getfield 30, 39) := pm_of cl90_0 19 (q := (36, .getfield 30, 39)) rfl
theorem c90_39 : pm_code 90 39 = some (.aload_n 0, 40) := pm_of cl90_0 20 (q := (39, .aload_n 0, 40)) rfl
theorem c90_40 : pm_code 90 40 = some (.getfield 37, 43) := pm_of cl90_0 21 (q := (40, .getfield 37, 43)) rfl
theorem c90_43 : pm_code 90 43 = some (.aload_n 1, 44) := pm_of cl90_0 22 (q := (43, .aload_n 1, 44)) rfl
theorem c90_44 : pm_code 90 44 = some (.iconst 1, 45) := pm_of cl90_0 23 (q := (44, .iconst 1, 45)) rfl
theorem c90_45 : pm_code 90 45 = some (.iconst 4, 46) := pm_of cl90_0 24 (q := (45, .iconst 4, 46)) rfl
theorem c90_46 : pm_code 90 46 = some (.invokevirtual 85, 49) := pm_of cl90_0 25 (q := (46, .invokevirtual 85, 49)) rfl
theorem c90_49 : pm_code 90 49 = some (.invokestatic 106, 52) := pm_of cl90_0 26 (q := (49, .invokestatic 106, 52)) rfl
theorem c90_52 : pm_code 90 52 = some (.aload_n 0, 53) := pm_of cl90_0 27 (q := (52, .aload_n 0, 53)) rfl
theorem c90_53 : pm_code 90 53 = some (.dup, 54) := pm_of cl90_0 28 (q := (53, .dup, 54)) rfl
theorem c90_54 : pm_code 90 54 = some (.getfield 37, 57) := pm_of cl90_0 29 (q := (54, .getfield 37, 57)) rfl
theorem c90_57 : pm_code 90 57 = some (.iconst 1, 58) := pm_of cl90_0 30 (q := (57, .iconst 1, 58)) rfl
theorem c90_58 : pm_code 90 58 = some (.iadd, 59) := pm_of cl90_0 31 (q := (58, .iadd, 59)) rfl
theorem c90_59 : pm_code 90 59 = some (.putfield 37, 62) := pm_of cl90_0 32 (q := (59, .putfield 37, 62)) rfl
theorem c90_62 : pm_code 90 62 = some (.return_, 63) := pm_of cl90_0 33 (q := (62, .return_, 63)) rfl
theorem k91 : pm_k 91 = 5 := by decide +kernel
theorem ml91 : pm_ml 91 = 3 := by decide +kernel
theorem rt91 : pm_rt 91 = none := by decide +kernel
theorem hh91 : pm_hh 91 = [] := by decide +kernel
theorem rc91 : pm_cl 5 = (pm_y 91).cls := by decide +kernel
theorem cl91_0 : ([(0, .aload_n 1, 1), (1, .iconst 0, 2), (2, .aload_n 0, 3), (3, .getfield 33, 6), (6, .iconst 1, 7), (7, .isub, 8), (8, .invokevirtual 85, 11), (11, .istore_n 2, 12), (12, .aload_n 0, 13), (13, .getfield 21, 16), (16, .iload_n 2, 17), (17, .aload_n 1, 18), (18, .iconst 0, 19), (19, .sipush 999, 22), (22, .invokevirtual 85, 25), (25, .invokestatic 106, 28), (28, .return_, 29)] : List (Nat × Instr × Nat)).all (fun q => decide (pm_code 91 q.1 = some q.2)) = true := by decide +kernel
theorem c91_0 : pm_code 91 0 = some (.aload_n 1, 1) := pm_of cl91_0 0 (q := (0, .aload_n 1, 1)) rfl
theorem c91_1 : pm_code 91 1 = some (.iconst 0, 2) := pm_of cl91_0 1 (q := (1, .iconst 0, 2)) rfl
theorem c91_2 : pm_code 91 2 = some (.aload_n 0, 3) := pm_of cl91_0 2 (q := (2, .aload_n 0, 3)) rfl
theorem c91_3 : pm_code 91 3 = some (.getfield 33, 6) := pm_of cl91_0 3 (q := (3, .getfield 33, 6)) rfl
theorem c91_6 : pm_code 91 6 = some (.iconst 1, 7) := pm_of cl91_0 4 (q := (6, .iconst 1, 7)) rfl
theorem c91_7 : pm_code 91 7 = some (.isub, 8) := pm_of cl91_0 5 (q := (7, .isub, 8)) rfl
theorem c91_8 : pm_code 91 8 = some (.invokevirtual 85, 11) := pm_of cl91_0 6 (q := (8, .invokevirtual 85, 11)) rfl
theorem c91_11 : pm_code 91 11 = some (.istore_n 2, 12) := pm_of cl91_0 7 (q := (11, .istore_n 2, 12)) rfl
theorem c91_12 : pm_code 91 12 = some (.aload_n 0, 13) := pm_of cl91_0 8 (q := (12, .aload_n 0, 13)) rfl
theorem c91_13 : pm_code 91 13 = some (.getfield 21, 16) := pm_of cl91_0 9 (q := (13, .getfield 21, 16)) rfl
theorem c91_16 : pm_code 91 16 = some (.iload_n 2, 17) := pm_of cl91_0 10 (q := (16, .iload_n 2, 17)) rfl
theorem c91_17 : pm_code 91 17 = some (.aload_n 1, 18) := pm_of cl91_0 11 (q := (17, .aload_n 1, 18)) rfl
theorem c91_18 : pm_code 91 18 = some (.iconst 0, 19) := pm_of cl91_0 12 (q := (18, .iconst 0, 19)) rfl
theorem c91_19 : pm_code 91 19 = some (.sipush 999, 22) := pm_of cl91_0 13 (q := (19, .sipush 999, 22)) rfl
theorem c91_22 : pm_code 91 22 = some (.invokevirtual 85, 25) := pm_of cl91_0 14 (q := (22, .invokevirtual 85, 25)) rfl
theorem c91_25 : pm_code 91 25 = some (.invokestatic 106, 28) := pm_of cl91_0 15 (q := (25, .invokestatic 106, 28)) rfl
theorem c91_28 : pm_code 91 28 = some (.return_, 29) := pm_of cl91_0 16 (q := (28, .return_, 29)) rfl
theorem k92 : pm_k 92 = 5 := by decide +kernel
theorem ml92 : pm_ml 92 = 1 := by decide +kernel
theorem rt92 : pm_rt 92 = (some .int) := by decide +kernel
theorem hh92 : pm_hh 92 = [] := by decide +kernel
theorem rc92 : pm_cl 5 = (pm_y 92).cls := by decide +kernel
theorem cl92_0 : ([(0, .aload_n 0, 1), (1, .getfield 37, 4), (4, .ireturn, 5)] : List (Nat × Instr × Nat)).all (fun q => decide (pm_code 92 q.1 = some q.2)) = true := by decide +kernel
theorem c92_0 : pm_code 92 0 = some (.aload_n 0, 1) := pm_of cl92_0 0 (q := (0, .aload_n 0, 1)) rfl
theorem c92_1 : pm_code 92 1 = some (.getfield 37, 4) := pm_of cl92_0 1 (q := (1, .getfield 37, 4)) rfl
theorem c92_4 : pm_code 92 4 = some (.ireturn, 5) := pm_of cl92_0 2 (q := (4, .ireturn, 5)) rfl
theorem k93 : pm_k 93 = 5 := by decide +kernel
theorem ml93 : pm_ml 93 = 1 := by decide +kernel
theorem rt93 : pm_rt 93 = (some .int) := by decide +kernel
theorem hh93 : pm_hh 93 = [] := by decide +kernel
theorem rc93 : pm_cl 5 = (pm_y 93).cls := by decide +kernel
theorem cl93_0 : ([(0, .aload_n 0, 1), (1, .getfield 43, 4), (4, .ireturn, 5)] : List (Nat × Instr × Nat)).all (fun q => decide (pm_code 93 q.1 = some q.2)) = true := by decide +kernel
theorem c93_0 : pm_code 93 0 = some (.aload_n 0, 1) := pm_of cl93_0 0 (q := (0, .aload_n 0, 1)) rfl
theorem c93_1 : pm_code 93 1 = some (.getfield 43, 4) := pm_of cl93_0 1 (q := (1, .getfield 43, 4)) rfl
theorem c93_4 : pm_code 93 4 = some (.ireturn, 5) := pm_of cl93_0 2 (q := (4, .ireturn, 5)) rfl
theorem k94 : pm_k 94 = 5 := by decide +kernel
theorem ml94 : pm_ml 94 = 2 := by decide +kernel
theorem rt94 : pm_rt 94 = (some .int) := by decide +kernel
theorem hh94 : pm_hh 94 = [] := by decide +kernel
theorem rc94 : pm_cl 5 = (pm_y 94).cls := by decide +kernel
theorem cl94_0 : ([(0, .aload_n 0, 1), (1, .getfield 30, 4), (4, .iload_n 1, 5), (5, .invokestatic 46, 8), (8, .ireturn, 9)] : List (Nat × Instr × Nat)).all (fun q => decide (pm_code 94 q.1 = some q.2)) = true := by decide +kernel
theorem c94_0 : pm_code 94 0 = some (.aload_n 0, 1) := pm_of cl94_0 0 (q := (0, .aload_n 0, 1)) rfl
theorem c94_1 : pm_code 94 1 = some (.getfield 30, 4) := pm_of cl94_0 1 (q := (1, .getfield 30, 4)) rfl
theorem c94_4 : pm_code 94 4 = some (.iload_n 1, 5) := pm_of cl94_0 2 (q := (4, .iload_n 1, 5)) rfl
theorem c94_5 : pm_code 94 5 = some (.invokestatic 46, 8) := pm_of cl94_0 3 (q := (5, .invokestatic 46, 8)) rfl
theorem c94_8 : pm_code 94 8 = some (.ireturn, 9) := pm_of cl94_0 4 (q := (8, .ireturn, 9)) rfl
theorem k95 : pm_k 95 = 5 := by decide +kernel
theorem ml95 : pm_ml 95 = 2 := by decide +kernel
theorem rt95 : pm_rt 95 = (some .boolean) := by decide +kernel
theorem hh95 : pm_hh 95 = [] := by decide +kernel
theorem rc95 : pm_cl 5 = (pm_y 95).cls := by decide +kernel
theorem cl95_0 : ([(0, .iload_n 1, 1), (1, .ifCond .lt 15, 4), (4, .iload_n 1, 5), (5, .aload_n 0, 6), (6, .getfield 33, 9), (9, .if_icmp .ge 7, 12), (12, .iconst 1, 13), (13, .goto 4, 16), (16, .iconst 0, 17), (17, .ireturn, 18)] : List (Nat × Instr × Nat)).all (fun q => decide (pm_code 95 q.1 = some q.2)) = true := by decide +kernel
theorem c95_0 : pm_code 95 0 = some (.iload_n 1, 1) := pm_of cl95_0 0 (q := (0, .iload_n 1, 1)) rfl
theorem c95_1 : pm_code 95 1 = some (.ifCond .lt 15, 4) := pm_of cl95_0 1 (q := (1, .ifCond .lt 15, 4)) rfl
theorem c95_4 : pm_code 95 4 = some (.iload_n 1, 5) := pm_of cl95_0 2 (q := (4, .iload_n 1, 5)) rfl
theorem c95_5 : pm_code 95 5 = some (.aload_n 0, 6) := pm_of cl95_0 3 (q := (5, .aload_n 0, 6)) rfl
theorem c95_6 : pm_code 95 6 = some (.getfield 33, 9) := pm_of cl95_0 4 (q := (6, .getfield 33, 9)) rfl
theorem c95_9 : pm_code 95 9 = some (.if_icmp .ge 7, 12) := pm_of cl95_0 5 (q := (9, .if_icmp .ge 7, 12)) rfl
theorem c95_12 : pm_code 95 12 = some (.iconst 1, 13) := pm_of cl95_0 6 (q := (12, .iconst 1, 13)) rfl
theorem c95_13 : pm_code 95 13 = some (.goto 4, 16) := pm_of cl95_0 7 (q := (13, .goto 4, 16)) rfl
theorem c95_16 : pm_code 95 16 = some (.iconst 0, 17) := pm_of cl95_0 8 (q := (16, .iconst 0, 17)) rfl
theorem c95_17 : pm_code 95 17 = some (.ireturn, 18) := pm_of cl95_0 9 (q := (17, .ireturn, 18)) rfl
theorem k96 : pm_k 96 = 5 := by decide +kernel
theorem ml96 : pm_ml 96 = 2 := by decide +kernel
theorem rt96 : pm_rt 96 = (some .int) := by decide +kernel
theorem hh96 : pm_hh 96 = [] := by decide +kernel
theorem rc96 : pm_cl 5 = (pm_y 96).cls := by decide +kernel
theorem cl96_0 : ([(0, .aload_n 0, 1), (1, .getfield 18, 4), (4, .iload_n 1, 5), (5, .invokestatic 46, 8), (8, .ireturn, 9)] : List (Nat × Instr × Nat)).all (fun q => decide (pm_code 96 q.1 = some q.2)) = true := by decide +kernel
theorem c96_0 : pm_code 96 0 = some (.aload_n 0, 1) := pm_of cl96_0 0 (q := (0, .aload_n 0, 1)) rfl
theorem c96_1 : pm_code 96 1 = some (.getfield 18, 4) := pm_of cl96_0 1 (q := (1, .getfield 18, 4)) rfl
theorem c96_4 : pm_code 96 4 = some (.iload_n 1, 5) := pm_of cl96_0 2 (q := (4, .iload_n 1, 5)) rfl
theorem c96_5 : pm_code 96 5 = some (.invokestatic 46, 8) := pm_of cl96_0 3 (q := (5, .invokestatic 46, 8)) rfl
theorem c96_8 : pm_code 96 8 = some (.ireturn, 9) := pm_of cl96_0 4 (q := (8, .ireturn, 9)) rfl
theorem k97 : pm_k 97 = 5 := by decide +kernel
theorem ml97 : pm_ml 97 = 2 := by decide +kernel
theorem rt97 : pm_rt 97 = (some .boolean) := by decide +kernel
theorem hh97 : pm_hh 97 = [] := by decide +kernel
theorem rc97 : pm_cl 5 = (pm_y 97).cls := by decide +kernel
theorem cl97_0 : ([(0, .iload_n 1, 1), (1, .ifCond .lt 15, 4), (4, .iload_n 1, 5), (5, .aload_n 0, 6), (6, .getfield 37, 9), (9, .if_icmp .ge 7, 12), (12, .iconst 1, 13), (13, .goto 4, 16), (16, .iconst 0, 17), (17, .ireturn, 18)] : List (Nat × Instr × Nat)).all (fun q => decide (pm_code 97 q.1 = some q.2)) = true := by decide +kernel
theorem c97_0 : pm_code 97 0 = some (.iload_n 1, 1) := pm_of cl97_0 0 (q := (0, .iload_n 1, 1)) rfl
theorem c97_1 : pm_code 97 1 = some (.ifCond .lt 15, 4) := pm_of cl97_0 1 (q := (1, .ifCond .lt 15, 4)) rfl
theorem c97_4 : pm_code 97 4 = some (.iload_n 1, 5) := pm_of cl97_0 2 (q := (4, .iload_n 1, 5)) rfl
theorem c97_5 : pm_code 97 5 = some (.aload_n 0, 6) := pm_of cl97_0 3 (q := (5, .aload_n 0, 6)) rfl
theorem c97_6 : pm_code 97 6 = some (.getfield 37, 9) := pm_of cl97_0 4 (q := (6, .getfield 37, 9)) rfl
theorem c97_9 : pm_code 97 9 = some (.if_icmp .ge 7, 12) := pm_of cl97_0 5 (q := (9, .if_icmp .ge 7, 12)) rfl
theorem c97_12 : pm_code 97 12 = some (.iconst 1, 13) := pm_of cl97_0 6 (q := (12, .iconst 1, 13)) rfl
theorem c97_13 : pm_code 97 13 = some (.goto 4, 16) := pm_of cl97_0 7 (q := (13, .goto 4, 16)) rfl
theorem c97_16 : pm_code 97 16 = some (.iconst 0, 17) := pm_of cl97_0 8 (q := (16, .iconst 0, 17)) rfl
theorem c97_17 : pm_code 97 17 = some (.ireturn, 18) := pm_of cl97_0 9 (q := (17, .ireturn, 18)) rfl
theorem k98 : pm_k 98 = 5 := by decide +kernel
theorem ml98 : pm_ml 98 = 2 := by decide +kernel
theorem rt98 : pm_rt 98 = (some .int) := by decide +kernel
theorem hh98 : pm_hh 98 = [] := by decide +kernel
theorem rc98 : pm_cl 5 = (pm_y 98).cls := by decide +kernel
theorem cl98_0 : ([(0, .aload_n 0, 1), (1, .getfield 24, 4), (4, .iload_n 1, 5), (5, .invokestatic 46, 8), (8, .ireturn, 9)] : List (Nat × Instr × Nat)).all (fun q => decide (pm_code 98 q.1 = some q.2)) = true := by decide +kernel
theorem c98_0 : pm_code 98 0 = some (.aload_n 0, 1) := pm_of cl98_0 0 (q := (0, .aload_n 0, 1)) rfl
theorem c98_1 : pm_code 98 1 = some (.getfield 24, 4) := pm_of cl98_0 1 (q := (1, .getfield 24, 4)) rfl
theorem c98_4 : pm_code 98 4 = some (.iload_n 1, 5) := pm_of cl98_0 2 (q := (4, .iload_n 1, 5)) rfl
theorem c98_5 : pm_code 98 5 = some (.invokestatic 46, 8) := pm_of cl98_0 3 (q := (5, .invokestatic 46, 8)) rfl
theorem c98_8 : pm_code 98 8 = some (.ireturn, 9) := pm_of cl98_0 4 (q := (8, .ireturn, 9)) rfl
theorem k99 : pm_k 99 = 5 := by decide +kernel
theorem ml99 : pm_ml 99 = 2 := by decide +kernel
theorem rt99 : pm_rt 99 = (some .int) := by decide +kernel
theorem hh99 : pm_hh 99 = [] := by decide +kernel
theorem rc99 : pm_cl 5 = (pm_y 99).cls := by decide +kernel
theorem cl99_0 : ([(0, .aload_n 0, 1), (1, .getfield 27, 4), (4, .iload_n 1, 5), (5, .invokestatic 46, 8), (8, .ireturn, 9)] : List (Nat × Instr × Nat)).all (fun q => decide (pm_code 99 q.1 = some q.2)) = true := by decide +kernel
theorem c99_0 : pm_code 99 0 = some (.aload_n 0, 1) := pm_of cl99_0 0 (q := (0, .aload_n 0, 1)) rfl
theorem c99_1 : pm_code 99 1 = some (.getfield 27, 4) := pm_of cl99_0 1 (q := (1, .getfield 27, 4)) rfl
theorem c99_4 : pm_code 99 4 = some (.iload_n 1, 5) := pm_of cl99_0 2 (q := (4, .iload_n 1, 5)) rfl
theorem c99_5 : pm_code 99 5 = some (.invokestatic 46, 8) := pm_of cl99_0 3 (q := (5, .invokestatic 46, 8)) rfl
theorem c99_8 : pm_code 99 8 = some (.ireturn, 9) := pm_of cl99_0 4 (q := (8, .ireturn, 9)) rfl
theorem k100 : pm_k 100 = 6 := by decide +kernel
theorem ml100 : pm_ml 100 = 1 := by decide +kernel
theorem rt100 : pm_rt 100 = none := by decide +kernel
theorem hh100 : pm_hh 100 = [] := by decide +kernel
theorem rc100 : pm_cl 6 = (pm_y 100).cls := by decide +kernel
theorem cl100_0 : ([(0, .aload_n 0, 1), (1, .invokespecial 5, 4), (4, .aload_n 0, 5), (5, .bipush 66, 7), (7, .newarray .int, 9), (9, .putfield 11, 12), (12, .return_, 13)] : List (Nat × Instr × Nat)).all (fun q => decide (pm_code 100 q.1 = some q.2)) = true := by decide +kernel
theorem c100_0 : pm_code 100 0 = some (.aload_n 0, 1) := pm_of cl100_0 0 (q := (0, .aload_n 0, 1)) rfl
theorem c100_1 : pm_code 100 1 = some (.invokespecial 5, 4) := pm_of cl100_0 1 (q := (1, .invokespecial 5, 4)) rfl
theorem c100_4 : pm_code 100 4 = some (.aload_n 0, 5) := pm_of cl100_0 2 (q := (4, .aload_n 0, 5)) rfl
theorem c100_5 : pm_code 100 5 = some (.bipush 66, 7) := pm_of cl100_0 3 (q := (5, .bipush 66, 7)) rfl
theorem c100_7 : pm_code 100 7 = some (.newarray .int, 9) := pm_of cl100_0 4 (q := (7, .newarray .int, 9)) rfl
theorem c100_9 : pm_code 100 9 = some (.putfield 11, 12) := pm_of cl100_0 5 (q := (9, .putfield 11, 12)) rfl
theorem c100_12 : pm_code 100 12 = some (.return_, 13) := pm_of cl100_0 6 (q := (12, .return_, 13)) rfl
theorem k101 : pm_k 101 = 6 := by decide +kernel
theorem ml101 : pm_ml 101 = 4 := by decide +kernel
theorem rt101 : pm_rt 101 = none := by decide +kernel
theorem hh101 : pm_hh 101 = [] := by decide +kernel
theorem rc101 : pm_cl 6 = (pm_y 101).cls := by decide +kernel
theorem cl101_0 : ([(0, .iconst 0, 1), (1, .istore_n 2, 2), (2, .iload_n 2, 3), (3, .bipush 8, 5), (5, .if_icmp .ge 57, 8), (8, .iconst 0, 9), (9, .istore_n 3, 10), (10, .iload_n 3, 11), (11, .bipush 8, 13), (13, .if_icmp .ge 16, 16), (16, .aload_n 0, 17), (17, .iload_n 3, 18), (18, .iload_n 2, 19), (19, .iconst 0, 20), (20, .invokevirtual 15, 23), (23, .iinc 3 1, 26), (26, .goto (-16), 29), (29, .aload_n 0, 30), (30, .iconst 1, 31), (31, .iload_n 2, 32), (32, .iconst (-1), 33), (33, .invokevirtual 15, 36), (36, .aload_n 0, 37), (37, .bipush 7, 39), (39, .iload_n 2, 40), (40, .iconst (-1), 41), (41, .invokevirtual 15, 44), (44, .aload_n 0, 45), (45, .bipush 6, 47), (47, .iload_n 2, 48), (48, .aload_n 1, 49), (49, .iload_n 2, 50), (50, .invokevirtual 19, 53), (53, .invokevirtual 15, 56), (56, .iinc 2 1, 59), (59, .goto (-57), 62), (62, .aload_n 0, 63), (63, .iconst 0, 64), (64, .invokevirtual 25, 67), (67, .aload_n 0, 68)] : List (Nat × Instr × Nat)).all (fun q => decide (pm_code 101 q.1 = some q.2)) = true := by decide +kernel
theorem c101_0 : pm_code 101 0 = some (.iconst 0, 1) := pm_of cl101_0 0 (q := (0, .iconst 0, 1)) rfl
theorem c101_1 : pm_code 101 1 = some (.istore_n 2, 2) := pm_of cl101_0 1 (q := (1, .istore_n 2, 2)) rfl
theorem c101_2 : pm_code 101 2 = some (.iload_n 2, 3) := pm_of cl101_0 2 (q := (2, .iload_n 2, 3)) rfl
theorem c101_3 : pm_code 101 3 = some (.bipush 8, 5) := pm_of cl101_0 3 (q := (3, .bipush 8, 5)) rfl
theorem c101_5 : pm_code 101 5 = some (.if_icmp .ge 57, 8) := pm_of cl101_0 4 (q := (5, .if_icmp .ge 57, 8)) rfl
theorem c101_8 : pm_code 101 8 = some (.iconst 0, 9) := pm_of cl101_0 5 (q := (8, .iconst 0, 9)) rfl
theorem c101_9 : pm_code 101 9 = some (.istore_n 3, 10) := pm_of cl101_0 6 (q := (9, .istore_n 3, 10)) rfl
theorem c101_10 : pm_code 101 10 = some (.iload_n 3, 11) := pm_of cl101_0 7 (q := (10, .iload_n 3, 11)) rfl
theorem c101_11 : pm_code 101 11 = some (.bipush 8, 13) := pm_of cl101_0 8 (q := (11, .bipush 8, 13)) rfl
theorem c101_13 : pm_code 101 13 = some (.if_icmp .ge 16, 16) := pm_of cl101_0 9 (q := (13, .if_icmp .ge 16, 16)) rfl
theorem c101_16 : pm_code 101 16 = some (.aload_n 0, 17) := pm_of cl101_0 10 (q := (16, .aload_n 0, 17)) rfl
theorem c101_17 : pm_code 101 17 = some (.iload_n 3, 18) := pm_of cl101_0 11 (q := (17, .iload_n 3, 18)) rfl
theorem c101_18 : pm_code 101 18 = some (.iload_n 2, 19) := pm_of cl101_0 12 (q := (18, .iload_n 2, 19)) rfl
theorem c101_19 : pm_code 101 19 = some (.iconst 0, 20) := pm_of cl101_0 13 (q := (19, .iconst 0, 20)) rfl
theorem c101_20 : pm_code 101 20 = some (.invokevirtual 15, 23) := pm_of cl101_0 14 (q := (20, .invokevirtual 15, 23)) rfl
theorem c101_23 : pm_code 101 23 = some (.iinc 3 1, 26) := pm_of cl101_0 15 (q := (23, .iinc 3 1, 26)) rfl
theorem c101_26 : pm_code 101 26 = some (.goto (-16), 29) := pm_of cl101_0 16 (q := (26, .goto (-16), 29)) rfl
theorem c101_29 : pm_code 101 29 = some (.aload_n 0, 30) := pm_of cl101_0 17 (q := (29, .aload_n 0, 30)) rfl
theorem c101_30 : pm_code 101 30 = some (.iconst 1, 31) := pm_of cl101_0 18 (q := (30, .iconst 1, 31)) rfl
theorem c101_31 : pm_code 101 31 = some (.iload_n 2, 32) := pm_of cl101_0 19 (q := (31, .iload_n 2, 32)) rfl
theorem c101_32 : pm_code 101 32 = some (.iconst (-1), 33) := pm_of cl101_0 20 (q := (32, .iconst (-1), 33)) rfl
theorem c101_33 : pm_code 101 33 = some (.invokevirtual 15, 36) := pm_of cl101_0 21 (q := (33, .invokevirtual 15, 36)) rfl
theorem c101_36 : pm_code 101 36 = some (.aload_n 0, 37) := pm_of cl101_0 22 (q := (36, .aload_n 0, 37)) rfl
theorem c101_37 : pm_code 101 37 = some (.bipush 7, 39) := pm_of cl101_0 23 (q := (37, .bipush 7, 39)) rfl
theorem c101_39 : pm_code 101 39 = some (.iload_n 2, 40) := pm_of cl101_0 24 (q := (39, .iload_n 2, 40)) rfl
theorem c101_40 : pm_code 101 40 = some (.iconst (-1), 41) := pm_of cl101_0 25 (q := (40, .iconst (-1), 41)) rfl
theorem c101_41 : pm_code 101 41 = some (.invokevirtual 15, 44) := pm_of cl101_0 26 (q := (41, .invokevirtual 15, 44)) rfl
theorem c101_44 : pm_code 101 44 = some (.aload_n 0, 45) := pm_of cl101_0 27 (q := (44, .aload_n 0, 45)) rfl
theorem c101_45 : pm_code 101 45 = some (.bipush 6, 47) := pm_of cl101_0 28 (q := (45, .bipush 6, 47)) rfl
theorem c101_47 : pm_code 101 47 = some (.iload_n 2, 48) := pm_of cl101_0 29 (q := (47, .iload_n 2, 48)) rfl
theorem c101_48 : pm_code 101 48 = some (.aload_n 1, 49) := pm_of cl101_0 30 (q := (48, .aload_n 1, 49)) rfl
theorem c101_49 : pm_code 101 49 = some (.iload_n 2, 50) := pm_of cl101_0 31 (q := (49, .iload_n 2, 50)) rfl
theorem c101_50 : pm_code 101 50 = some (.invokevirtual 19, 53) := pm_of cl101_0 32 (q := (50, .invokevirtual 19, 53)) rfl
theorem c101_53 : pm_code 101 53 = some (.invokevirtual 15, 56) := pm_of cl101_0 33 (q := (53, .invokevirtual 15, 56)) rfl
theorem c101_56 : pm_code 101 56 = some (.iinc 2 1, 59) := pm_of cl101_0 34 (q := (56, .iinc 2 1, 59)) rfl
theorem c101_59 : pm_code 101 59 = some (.goto (-57), 62) := pm_of cl101_0 35 (q := (59, .goto (-57), 62)) rfl
theorem c101_62 : pm_code 101 62 = some (.aload_n 0, 63) := pm_of cl101_0 36 (q := (62, .aload_n 0, 63)) rfl
theorem c101_63 : pm_code 101 63 = some (.iconst 0, 64) := pm_of cl101_0 37 (q := (63, .iconst 0, 64)) rfl
theorem c101_64 : pm_code 101 64 = some (.invokevirtual 25, 67) := pm_of cl101_0 38 (q := (64, .invokevirtual 25, 67)) rfl
theorem c101_67 : pm_code 101 67 = some (.aload_n 0, 68) := pm_of cl101_0 39 (q := (67, .aload_n 0, 68)) rfl
theorem cl101_1 : ([(68, .aload_n 1, 69), (69, .invokevirtual 29, 72), (72, .invokevirtual 33, 75), (75, .return_, 76)] : List (Nat × Instr × Nat)).all (fun q => decide (pm_code 101 q.1 = some q.2)) = true := by decide +kernel
theorem c101_68 : pm_code 101 68 = some (.aload_n 1, 69) := pm_of cl101_1 0 (q := (68, .aload_n 1, 69)) rfl
theorem c101_69 : pm_code 101 69 = some (.invokevirtual 29, 72) := pm_of cl101_1 1 (q := (69, .invokevirtual 29, 72)) rfl
theorem c101_72 : pm_code 101 72 = some (.invokevirtual 33, 75) := pm_of cl101_1 2 (q := (72, .invokevirtual 33, 75)) rfl
theorem c101_75 : pm_code 101 75 = some (.return_, 76) := pm_of cl101_1 3 (q := (75, .return_, 76)) rfl
theorem k102 : pm_k 102 = 6 := by decide +kernel
theorem ml102 : pm_ml 102 = 4 := by decide +kernel
theorem rt102 : pm_rt 102 = none := by decide +kernel
theorem hh102 : pm_hh 102 = [] := by decide +kernel
theorem rc102 : pm_cl 6 = (pm_y 102).cls := by decide +kernel
theorem cl102_0 : ([(0, .iload_n 2, 1), (1, .ifCond .lt 23, 4), (4, .iload_n 2, 5), (5, .bipush 8, 7), (7, .if_icmp .ge 17, 10), (10, .aload_n 0, 11), (11, .getfield 11, 14), (14, .iload_n 1, 15), (15, .bipush 8, 17), (17, .imul, 18), (18, .iload_n 2, 19), (19, .iadd, 20), (20, .iload_n 3, 21), (21, .invokestatic 40, 24), (24, .return_, 25)] : List (Nat × Instr × Nat)).all (fun q => decide (pm_code 102 q.1 = some q.2)) = true := by decide +kernel
theorem c102_0 : pm_code 102 0 = some (.iload_n 2, 1) := pm_of cl102_0 0 (q := (0, .iload_n 2, 1)) rfl
theorem c102_1 : pm_code 102 1 = some (.ifCond .lt 23, 4) := pm_of cl102_0 1 (q := (1, .ifCond .lt 23, 4)) rfl
theorem c102_4 : pm_code 102 4 = some (.iload_n 2, 5) := pm_of cl102_0 2 (q := (4, .iload_n 2, 5)) rfl
theorem c102_5 : pm_code 102 5 = some (.bipush 8, 7) := pm_of cl102_0 3 (q := (5, .bipush 8, 7)) rfl
theorem c102_7 : pm_code 102 7 = some (.if_icmp .ge 17, 10) := pm_of cl102_0 4 (q := (7, .if_icmp .ge 17, 10)) rfl
theorem c102_10 : pm_code 102 10 = some (.aload_n 0, 11) := pm_of cl102_0 5 (q := (10, .aload_n 0, 11)) rfl
theorem c102_11 : pm_code 102 11 = some (.getfield 11, 14) := pm_of cl102_0 6 (q := (11, .getfield 11, 14)) rfl
theorem c102_14 : pm_code 102 14 = some (.iload_n 1, 15) := pm_of cl102_0 7 (q := (14, .iload_n 1, 15)) rfl
theorem c102_15 : pm_code 102 15 = some (.bipush 8, 17) := pm_of cl102_0 8 (q := (15, .bipush 8, 17)) rfl
theorem c102_17 : pm_code 102 17 = some (.imul, 18) := pm_of cl102_0 9 (q := (17, .imul, 18)) rfl
theorem c102_18 : pm_code 102 18 = some (.iload_n 2, 19) := pm_of cl102_0 10 (q := (18, .iload_n 2, 19)) rfl
theorem c102_19 : pm_code 102 19 = some (.iadd, 20) := pm_of cl102_0 11 (q := (19, .iadd, 20)) rfl
theorem c102_20 : pm_code 102 20 = some (.iload_n 3, 21) := pm_of cl102_0 12 (q := (20, .iload_n 3, 21)) rfl
theorem c102_21 : pm_code 102 21 = some (.invokestatic 40, 24) := pm_of cl102_0 13 (q := (21, .invokestatic 40, 24)) rfl
theorem c102_24 : pm_code 102 24 = some (.return_, 25) := pm_of cl102_0 14 (q := (24, .return_, 25)) rfl
theorem k103 : pm_k 103 = 6 := by decide +kernel
theorem ml103 : pm_ml 103 = 2 := by decide +kernel
theorem rt103 : pm_rt 103 = none := by decide +kernel
theorem hh103 : pm_hh 103 = [] := by decide +kernel
theorem rc103 : pm_cl 6 = (pm_y 103).cls := by decide +kernel
theorem cl103_0 : ([(0, .aload_n 0, 1), (1, .getfield 11, 4), (4, .bipush 64, 6), (6, .iload_n 1, 7), (7, .invokestatic 40, 10), (10, .return_, 11)] : List (Nat × Instr × Nat)).all (fun q => decide (pm_code 103 q.1 = some q.2)) = true := by decide +kernel
theorem c103_0 : pm_code 103 0 = some (.aload_n 0, 1) := pm_of cl103_0 0 (q := (0, .aload_n 0, 1)) rfl
theorem c103_1 : pm_code 103 1 = some (.getfield 11, 4) := pm_of cl103_0 1 (q := (1, .getfield 11, 4)) rfl
theorem c103_4 : pm_code 103 4 = some (.bipush 64, 6) := pm_of cl103_0 2 (q := (4, .bipush 64, 6)) rfl
theorem c103_6 : pm_code 103 6 = some (.iload_n 1, 7) := pm_of cl103_0 3 (q := (6, .iload_n 1, 7)) rfl
theorem c103_7 : pm_code 103 7 = some (.invokestatic 40, 10) := pm_of cl103_0 4 (q := (7, .invokestatic 40, 10)) rfl
theorem c103_10 : pm_code 103 10 = some (.return_, 11) := pm_of cl103_0 5 (q := (10, .return_, 11)) rfl
theorem k104 : pm_k 104 = 6 := by decide +kernel
theorem ml104 : pm_ml 104 = 2 := by decide +kernel
theorem rt104 : pm_rt 104 = none := by decide +kernel
theorem hh104 : pm_hh 104 = [] := by decide +kernel
theorem rc104 : pm_cl 6 = (pm_y 104).cls := by decide +kernel
theorem cl104_0 : ([(0, .aload_n 0, 1), (1, .getfield 11, 4), (4, .bipush 65, 6), (6, .iload_n 1, 7), (7, .invokestatic 40, 10), (10, .return_, 11)] : List (Nat × Instr × Nat)).all (fun q => decide (pm_code 104 q.1 = some q.2)) = true := by decide +kernel
theorem c104_0 : pm_code 104 0 = some (.aload_n 0, 1) := pm_of cl104_0 0 (q := (0, .aload_n 0, 1)) rfl
theorem c104_1 : pm_code 104 1 = some (.getfield 11, 4) := pm_of cl104_0 1 (q := (1, .getfield 11, 4)) rfl
theorem c104_4 : pm_code 104 4 = some (.bipush 65, 6) := pm_of cl104_0 2 (q := (4, .bipush 65, 6)) rfl
theorem c104_6 : pm_code 104 6 = some (.iload_n 1, 7) := pm_of cl104_0 3 (q := (6, .iload_n 1, 7)) rfl
theorem c104_7 : pm_code 104 7 = some (.invokestatic 40, 10) := pm_of cl104_0 4 (q := (7, .invokestatic 40, 10)) rfl
theorem c104_10 : pm_code 104 10 = some (.return_, 11) := pm_of cl104_0 5 (q := (10, .return_, 11)) rfl
theorem k105 : pm_k 105 = 6 := by decide +kernel
theorem ml105 : pm_ml 105 = 2 := by decide +kernel
theorem rt105 : pm_rt 105 = none := by decide +kernel
theorem hh105 : pm_hh 105 = [] := by decide +kernel
theorem rc105 : pm_cl 6 = (pm_y 105).cls := by decide +kernel
theorem cl105_0 : ([(0, .aload_n 1, 1), (1, .aload_n 0, 2), (2, .getfield 11, 5), (5, .invokestatic 44, 8), (8, .return_, 9)] : List (Nat × Instr × Nat)).all (fun q => decide (pm_code 105 q.1 = some q.2)) = true := by decide +kernel
theorem c105_0 : pm_code 105 0 = some (.aload_n 1, 1) := pm_of cl105_0 0 (q := (0, .aload_n 1, 1)) rfl
theorem c105_1 : pm_code 105 1 = some (.aload_n 0, 2) := pm_of cl105_0 1 (q := (1, .aload_n 0, 2)) rfl
theorem c105_2 : pm_code 105 2 = some (.getfield 11, 5) := pm_of cl105_0 2 (q := (2, .getfield 11, 5)) rfl
theorem c105_5 : pm_code 105 5 = some (.invokestatic 44, 8) := pm_of cl105_0 3 (q := (5, .invokestatic 44, 8)) rfl
theorem c105_8 : pm_code 105 8 = some (.return_, 9) := pm_of cl105_0 4 (q := (8, .return_, 9)) rfl
theorem k106 : pm_k 106 = 6 := by decide +kernel
theorem ml106 : pm_ml 106 = 4 := by decide +kernel
theorem rt106 : pm_rt 106 = (some .int) := by decide +kernel
theorem hh106 : pm_hh 106 = [] := by decide +kernel
theorem rc106 : pm_cl 6 = (pm_y 106).cls := by decide +kernel
theorem cl106_0 : ([(0, .iload_n 2, 1), (1, .ifCond .lt 13, 4), (4, .iload_n 2, 5), (5, .bipush 8, 7), (7, .if_icmp .ge 7, 10), (10, .iconst 1, 11), (11, .goto 4, 14), (14, .iconst 0, 15), (15, .istore_n 3, 16), (16, .iload_n 3, 17), (17, .ifCond .eq 19, 20), (20, .aload_n 0, 21), (21, .getfield 11, 24), (24, .iload_n 1, 25), (25, .bipush 8, 27), (27, .imul, 28), (28, .iload_n 2, 29), (29, .iadd, 30), (30, .invokestatic 36, 33), (33, .goto 4, 36), (36, .iconst 0, 37), (37, .ireturn, 38)] : List (Nat × Instr × Nat)).all (fun q => decide (pm_code 106 q.1 = some q.2)) = true := by decide +kernel
theorem c106_0 : pm_code 106 0 = some (.iload_n 2, 1) := pm_of cl106_0 0 (q := (0, .iload_n 2, 1)) rfl
theorem c106_1 : pm_code 106 1 = some (.ifCond .lt 13, 4) := pm_of cl106_0 1 (q := (1, .ifCond .lt 13, 4)) rfl
theorem c106_4 : pm_code 106 4 = some (.iload_n 2, 5) := pm_of cl106_0 2 (q := (4, .iload_n 2, 5)) rfl
theorem c106_5 : pm_code 106 5 = some (.bipush 8, 7) := pm_of cl106_0 3 (q := (5, .bipush 8, 7)) rfl
theorem c106_7 : pm_code 106 7 = some (.if_icmp .ge 7, 10) := pm_of cl106_0 4 (q := (7, .if_icmp .ge 7, 10)) rfl
theorem c106_10 : pm_code 106 10 = some (.iconst 1, 11) := pm_of cl106_0 5 (q := (10, .iconst 1, 11)) rfl
theorem c106_11 : pm_code 106 11 = some (.goto 4, 14) := pm_of cl106_0 6 (q := (11, .goto 4, 14)) rfl
theorem c106_14 : pm_code 106 14 = some (.iconst 0, 15) := pm_of cl106_0 7 (q := (14, .iconst 0, 15)) rfl
theorem c106_15 : pm_code 106 15 = some (.istore_n 3, 16) := pm_of cl106_0 8 (q := (15, .istore_n 3, 16)) rfl
theorem c106_16 : pm_code 106 16 = some (.iload_n 3, 17) := pm_of cl106_0 9 (q := (16, .iload_n 3, 17)) rfl
theorem c106_17 : pm_code 106 17 = some (.ifCond .eq 19, 20) := pm_of cl106_0 10 (q := (17, .ifCond .eq 19, 20)) rfl
theorem c106_20 : pm_code 106 20 = some (.aload_n 0, 21) := pm_of cl106_0 11 (q := (20, .aload_n 0, 21)) rfl
theorem c106_21 : pm_code 106 21 = some (.getfield 11, 24) := pm_of cl106_0 12 (q := (21, .getfield 11, 24)) rfl
theorem c106_24 : pm_code 106 24 = some (.iload_n 1, 25) := pm_of cl106_0 13 (q := (24, .iload_n 1, 25)) rfl
theorem c106_25 : pm_code 106 25 = some (.bipush 8, 27) := pm_of cl106_0 14 (q := (25, .bipush 8, 27)) rfl
theorem c106_27 : pm_code 106 27 = some (.imul, 28) := pm_of cl106_0 15 (q := (27, .imul, 28)) rfl
theorem c106_28 : pm_code 106 28 = some (.iload_n 2, 29) := pm_of cl106_0 16 (q := (28, .iload_n 2, 29)) rfl
theorem c106_29 : pm_code 106 29 = some (.iadd, 30) := pm_of cl106_0 17 (q := (29, .iadd, 30)) rfl
theorem c106_30 : pm_code 106 30 = some (.invokestatic 36, 33) := pm_of cl106_0 18 (q := (30, .invokestatic 36, 33)) rfl
theorem c106_33 : pm_code 106 33 = some (.goto 4, 36) := pm_of cl106_0 19 (q := (33, .goto 4, 36)) rfl
theorem c106_36 : pm_code 106 36 = some (.iconst 0, 37) := pm_of cl106_0 20 (q := (36, .iconst 0, 37)) rfl
theorem c106_37 : pm_code 106 37 = some (.ireturn, 38) := pm_of cl106_0 21 (q := (37, .ireturn, 38)) rfl
theorem k107 : pm_k 107 = 6 := by decide +kernel
theorem ml107 : pm_ml 107 = 1 := by decide +kernel
theorem rt107 : pm_rt 107 = (some .int) := by decide +kernel
theorem hh107 : pm_hh 107 = [] := by decide +kernel
theorem rc107 : pm_cl 6 = (pm_y 107).cls := by decide +kernel
theorem cl107_0 : ([(0, .aload_n 0, 1), (1, .getfield 11, 4), (4, .bipush 64, 6), (6, .invokestatic 36, 9), (9, .ireturn, 10)] : List (Nat × Instr × Nat)).all (fun q => decide (pm_code 107 q.1 = some q.2)) = true := by decide +kernel
theorem c107_0 : pm_code 107 0 = some (.aload_n 0, 1) := pm_of cl107_0 0 (q := (0, .aload_n 0, 1)) rfl
theorem c107_1 : pm_code 107 1 = some (.getfield 11, 4) := pm_of cl107_0 1 (q := (1, .getfield 11, 4)) rfl
theorem c107_4 : pm_code 107 4 = some (.bipush 64, 6) := pm_of cl107_0 2 (q := (4, .bipush 64, 6)) rfl
theorem c107_6 : pm_code 107 6 = some (.invokestatic 36, 9) := pm_of cl107_0 3 (q := (6, .invokestatic 36, 9)) rfl
theorem c107_9 : pm_code 107 9 = some (.ireturn, 10) := pm_of cl107_0 4 (q := (9, .ireturn, 10)) rfl
theorem k108 : pm_k 108 = 6 := by decide +kernel
theorem ml108 : pm_ml 108 = 1 := by decide +kernel
theorem rt108 : pm_rt 108 = (some .int) := by decide +kernel
theorem hh108 : pm_hh 108 = [] := by decide +kernel
theorem rc108 : pm_cl 6 = (pm_y 108).cls := by decide +kernel
theorem cl108_0 : ([(0, .aload_n 0, 1), (1, .getfield 11, 4), (4, .bipush 65, 6), (6, .invokestatic 36, 9), (9, .ireturn, 10)] : List (Nat × Instr × Nat)).all (fun q => decide (pm_code 108 q.1 = some q.2)) = true := by decide +kernel
theorem c108_0 : pm_code 108 0 = some (.aload_n 0, 1) := pm_of cl108_0 0 (q := (0, .aload_n 0, 1)) rfl
theorem c108_1 : pm_code 108 1 = some (.getfield 11, 4) := pm_of cl108_0 1 (q := (1, .getfield 11, 4)) rfl
theorem c108_4 : pm_code 108 4 = some (.bipush 65, 6) := pm_of cl108_0 2 (q := (4, .bipush 65, 6)) rfl
theorem c108_6 : pm_code 108 6 = some (.invokestatic 36, 9) := pm_of cl108_0 3 (q := (6, .invokestatic 36, 9)) rfl
theorem c108_9 : pm_code 108 9 = some (.ireturn, 10) := pm_of cl108_0 4 (q := (9, .ireturn, 10)) rfl
theorem k109 : pm_k 109 = 6 := by decide +kernel
theorem ml109 : pm_ml 109 = 2 := by decide +kernel
theorem rt109 : pm_rt 109 = none := by decide +kernel
theorem hh109 : pm_hh 109 = [] := by decide +kernel
theorem rc109 : pm_cl 6 = (pm_y 109).cls := by decide +kernel
theorem cl109_0 : ([(0, .aload_n 0, 1), (1, .getfield 11, 4), (4, .aload_n 1, 5), (5, .invokestatic 44, 8), (8, .return_, 9)] : List (Nat × Instr × Nat)).all (fun q => decide (pm_code 109 q.1 = some q.2)) = true := by decide +kernel
theorem c109_0 : pm_code 109 0 = some (.aload_n 0, 1) := pm_of cl109_0 0 (q := (0, .aload_n 0, 1)) rfl
theorem c109_1 : pm_code 109 1 = some (.getfield 11, 4) := pm_of cl109_0 1 (q := (1, .getfield 11, 4)) rfl
theorem c109_4 : pm_code 109 4 = some (.aload_n 1, 5) := pm_of cl109_0 2 (q := (4, .aload_n 1, 5)) rfl
theorem c109_5 : pm_code 109 5 = some (.invokestatic 44, 8) := pm_of cl109_0 3 (q := (5, .invokestatic 44, 8)) rfl
theorem c109_8 : pm_code 109 8 = some (.return_, 9) := pm_of cl109_0 4 (q := (8, .return_, 9)) rfl
theorem k110 : pm_k 110 = 7 := by decide +kernel
theorem ml110 : pm_ml 110 = 1 := by decide +kernel
theorem rt110 : pm_rt 110 = none := by decide +kernel
theorem hh110 : pm_hh 110 = [] := by decide +kernel
theorem rc110 : pm_cl 7 = (pm_y 110).cls := by decide +kernel
theorem cl110_0 : ([(0, .aload_n 0, 1), (1, .invokespecial 3, 4), (4, .aload_n 0, 5), (5, .sipush 150, 8), (8, .newarray .int, 10), (10, .putfield 9, 13), (13, .aload_n 0, 14), (14, .sipush 150, 17), (17, .newarray .int, 19), (19, .putfield 15, 22), (22, .aload_n 0, 23), (23, .sipush 150, 26), (26, .newarray .int, 28), (28, .putfield 18, 31), (31, .aload_n 0, 32), (32, .sipush 150, 35), (35, .newarray .int, 37), (37, .putfield 21, 40), (40, .aload_n 0, 41), (41, .iconst 0, 42), (42, .putfield 24, 45), (45, .aload_n 0, 46), (46, .iconst 0, 47), (47, .putfield 28, 50), (50, .aload_n 0, 51), (51, .iconst 0, 52), (52, .putfield 31, 55), (55, .aload_n 0, 56), (56, .iconst 0, 57), (57, .putfield 34, 60), (60, .return_, 61)] : List (Nat × Instr × Nat)).all (fun q => decide (pm_code 110 q.1 = some q.2)) = true := by decide +kernel
theorem c110_0 : pm_code 110 0 = some (.aload_n 0, 1) := pm_of cl110_0 0 (q := (0, .aload_n 0, 1)) rfl
theorem c110_1 : pm_code 110 1 = some (.invokespecial 3, 4) := pm_of cl110_0 1 (q := (1, .invokespecial 3, 4)) rfl
theorem c110_4 : pm_code 110 4 = some (.aload_n 0, 5) := pm_of cl110_0 2 (q := (4, .aload_n 0, 5)) rfl
theorem c110_5 : pm_code 110 5 = some (.sipush 150, 8) := pm_of cl110_0 3 (q := (5, .sipush 150, 8)) rfl
theorem c110_8 : pm_code 110 8 = some (.newarray .int, 10) := pm_of cl110_0 4 (q := (8, .newarray .int, 10)) rfl
theorem c110_10 : pm_code 110 10 = some (.putfield 9, 13) := pm_of cl110_0 5 (q := (10, .putfield 9, 13)) rfl
theorem c110_13 : pm_code 110 13 = some (.aload_n 0, 14) := pm_of cl110_0 6 (q := (13, .aload_n 0, 14)) rfl
theorem c110_14 : pm_code 110 14 = some (.sipush 150, 17) := pm_of cl110_0 7 (q := (14, .sipush 150, 17)) rfl
theorem c110_17 : pm_code 110 17 = some (.newarray .int, 19) := pm_of cl110_0 8 (q := (17, .newarray .int, 19)) rfl
theorem c110_19 : pm_code 110 19 = some (.putfield 15, 22) := pm_of cl110_0 9 (q := (19, .putfield 15, 22)) rfl
theorem c110_22 : pm_code 110 22 = some (.aload_n 0, 23) := pm_of cl110_0 10 (q := (22, .aload_n 0, 23)) rfl
theorem c110_23 : pm_code 110 23 = some (.sipush 150, 26) := pm_of cl110_0 11 (q := (23, .sipush 150, 26)) rfl
theorem c110_26 : pm_code 110 26 = some (.newarray .int, 28) := pm_of cl110_0 12 (q := (26, .newarray .int, 28)) rfl
theorem c110_28 : pm_code 110 28 = some (.putfield 18, 31) := pm_of cl110_0 13 (q := (28, .putfield 18, 31)) rfl
theorem c110_31 : pm_code 110 31 = some (.aload_n 0, 32) := pm_of cl110_0 14 (q := (31, .aload_n 0, 32)) rfl
theorem c110_32 : pm_code 110 32 = some (.sipush 150, 35) := pm_of cl110_0 15 (q := (32, .sipush 150, 35)) rfl
theorem c110_35 : pm_code 110 35 = some (.newarray .int, 37) := pm_of cl110_0 16 (q := (35, .newarray .int, 37)) rfl
theorem c110_37 : pm_code 110 37 = some (.putfield 21, 40) := pm_of cl110_0 17 (q := (37, .putfield 21, 40)) rfl
theorem c110_40 : pm_code 110 40 = some (.aload_n 0, 41) := pm_of cl110_0 18 (q := (40, .aload_n 0, 41)) rfl
theorem c110_41 : pm_code 110 41 = some (.iconst 0, 42) := pm_of cl110_0 19 (q := (41, .iconst 0, 42)) rfl
theorem c110_42 : pm_code 110 42 = some (.putfield 24, 45) := pm_of cl110_0 20 (q := (42, .putfield 24, 45)) rfl
theorem c110_45 : pm_code 110 45 = some (.aload_n 0, 46) := pm_of cl110_0 21 (q := (45, .aload_n 0, 46)) rfl
theorem c110_46 : pm_code 110 46 = some (.iconst 0, 47) := pm_of cl110_0 22 (q := (46, .iconst 0, 47)) rfl
theorem c110_47 : pm_code 110 47 = some (.putfield 28, 50) := pm_of cl110_0 23 (q := (47, .putfield 28, 50)) rfl
theorem c110_50 : pm_code 110 50 = some (.aload_n 0, 51) := pm_of cl110_0 24 (q := (50, .aload_n 0, 51)) rfl
theorem c110_51 : pm_code 110 51 = some (.iconst 0, 52) := pm_of cl110_0 25 (q := (51, .iconst 0, 52)) rfl
theorem c110_52 : pm_code 110 52 = some (.putfield 31, 55) := pm_of cl110_0 26 (q := (52, .putfield 31, 55)) rfl
theorem c110_55 : pm_code 110 55 = some (.aload_n 0, 56) := pm_of cl110_0 27 (q := (55, .aload_n 0, 56)) rfl
theorem c110_56 : pm_code 110 56 = some (.iconst 0, 57) := pm_of cl110_0 28 (q := (56, .iconst 0, 57)) rfl
theorem c110_57 : pm_code 110 57 = some (.putfield 34, 60) := pm_of cl110_0 29 (q := (57, .putfield 34, 60)) rfl
theorem c110_60 : pm_code 110 60 = some (.return_, 61) := pm_of cl110_0 30 (q := (60, .return_, 61)) rfl
theorem k111 : pm_k 111 = 7 := by decide +kernel
theorem ml111 : pm_ml 111 = 4 := by decide +kernel
theorem rt111 : pm_rt 111 = none := by decide +kernel
theorem hh111 : pm_hh 111 = [] := by decide +kernel
theorem rc111 : pm_cl 7 = (pm_y 111).cls := by decide +kernel
theorem cl111_0 : ([(0, .aload_n 0, 1), (1, .iconst 0, 2), (2, .putfield 24, 5), (5, .iconst 0, 6), (6, .istore_n 3, 7), (7, .iload_n 3, 8), (8, .sipush 150, 11), (11, .if_icmp .ge 23, 14), (14, .aload_n 1, 15), (15, .invokevirtual 37, 18), (18, .ifCond .eq 16, 21), (21, .aload_n 0, 22), (22, .aload_n 1, 23), (23, .aload_n 2, 24), (24, .iconst 0, 25), (25, .invokevirtual 43, 28), (28, .iinc 3 1, 31), (31, .goto (-24), 34), (34, .return_, 35)] : List (Nat × Instr × Nat)).all (fun q => decide (pm_code 111 q.1 = some q.2)) = true := by decide +kernel
theorem c111_0 : pm_code 111 0 = some (.aload_n 0, 1) := pm_of cl111_0 0 (q := (0, .aload_n 0, 1)) rfl
theorem c111_1 : pm_code 111 1 = some (.iconst 0, 2) := pm_of cl111_0 1 (q := (1, .iconst 0, 2)) rfl
theorem c111_2 : pm_code 111 2 = some (.putfield 24, 5) := pm_of cl111_0 2 (q := (2, .putfield 24, 5)) rfl
theorem c111_5 : pm_code 111 5 = some (.iconst 0, 6) := pm_of cl111_0 3 (q := (5, .iconst 0, 6)) rfl
theorem c111_6 : pm_code 111 6 = some (.istore_n 3, 7) := pm_of cl111_0 4 (q := (6, .istore_n 3, 7)) rfl
theorem c111_7 : pm_code 111 7 = some (.iload_n 3, 8) := pm_of cl111_0 5 (q := (7, .iload_n 3, 8)) rfl
theorem c111_8 : pm_code 111 8 = some (.sipush 150, 11) := pm_of cl111_0 6 (q := (8, .sipush 150, 11)) rfl
theorem c111_11 : pm_code 111 11 = some (.if_icmp .ge 23, 14) := pm_of cl111_0 7 (q := (11, .if_icmp .ge 23, 14)) rfl
theorem c111_14 : pm_code 111 14 = some (.aload_n 1, 15) := pm_of cl111_0 8 (q := (14, .aload_n 1, 15)) rfl
theorem c111_15 : pm_code 111 15 = some (.invokevirtual 37, 18) := pm_of cl111_0 9 (q := (15, .invokevirtual 37, 18)) rfl
theorem c111_18 : pm_code 111 18 = some (.ifCond .eq 16, 21) := pm_of cl111_0 10 (q := (18, .ifCond .eq 16, 21)) rfl
theorem c111_21 : pm_code 111 21 = some (.aload_n 0, 22) := pm_of cl111_0 11 (q := (21, .aload_n 0, 22)) rfl
theorem c111_22 : pm_code 111 22 = some (.aload_n 1, 23) := pm_of cl111_0 12 (q := (22, .aload_n 1, 23)) rfl
theorem c111_23 : pm_code 111 23 = some (.aload_n 2, 24) := pm_of cl111_0 13 (q := (23, .aload_n 2, 24)) rfl
theorem c111_24 : pm_code 111 24 = some (.iconst 0, 25) := pm_of cl111_0 14 (q := (24, .iconst 0, 25)) rfl
theorem c111_25 : pm_code 111 25 = some (.invokevirtual 43, 28) := pm_of cl111_0 15 (q := (25, .invokevirtual 43, 28)) rfl
theorem c111_28 : pm_code 111 28 = some (.iinc 3 1, 31) := pm_of cl111_0 16 (q := (28, .iinc 3 1, 31)) rfl
theorem c111_31 : pm_code 111 31 = some (.goto (-24), 34) := pm_of cl111_0 17 (q := (31, .goto (-24), 34)) rfl
theorem c111_34 : pm_code 111 34 = some (.return_, 35) := pm_of cl111_0 18 (q := (34, .return_, 35)) rfl
theorem k112 : pm_k 112 = 7 := by decide +kernel
theorem ml112 : pm_ml 112 = 6 := by decide +kernel
theorem rt112 : pm_rt 112 = none := by decide +kernel
theorem hh112 : pm_hh 112 = [] := by decide +kernel
theorem rc112 : pm_cl 7 = (pm_y 112).cls := by decide +kernel
theorem cl112_0 : ([(0, .aload_n 1, 1), (1, .invokestatic 47, 4), (4, .istore 4, 6), (6, .iload 4, 8), (8, .iconst (-1), 9), (9, .if_icmp .ne 9, 12), (12, .aload_n 1, 13), (13, .iconst 1, 14), (14, .invokevirtual 51, 17), (17, .return_, 18), (18, .iload 4, 20), (20, .bipush 8, 22), (22, .if_icmp .ne 15, 25), (25, .iload_n 3, 26), (26, .bipush 6, 28), (28, .if_icmp .lt 9, 31), (31, .aload_n 1, 32), (32, .iconst 3, 33), (33, .invokevirtual 51, 36), (36, .return_, 37), (37, .aload_n 1, 38), (38, .invokevirtual 55, 41), (41, .aload_n 0, 42), (42, .getfield 24, 45), (45, .istore 5, 47), (47, .aload_n 0, 48), (48, .dup, 49), (49, .getfield 24, 52), (52, .iconst 1, 53), (53, .iadd, 54), (54, .putfield 24, 57), (57, .aload_n 0, 58), (58, .getfield 9, 61), (61, .iload 5, 63), (63, .iload 4, 65), (65, .invokestatic 58, 68), (68, .iload 4, 70), (70, .bipush 8, 72), (72, .if_icmp .ne 31, 75), (75, .aload_n 0, 76)] : List (Nat × Instr × Nat)).all (fun q => decide (pm_code 112 q.1 = some q.2)) = true := by decide +kernel
theorem c112_0 : pm_code 112 0 = some (.aload_n 1, 1) := pm_of cl112_0 0 (q := (0, .aload_n 1, 1)) rfl
theorem c112_1 : pm_code 112 1 = some (.invokestatic 47, 4) := pm_of cl112_0 1 (q := (1, .invokestatic 47, 4)) rfl
theorem c112_4 : pm_code 112 4 = some (.istore 4, 6) := pm_of cl112_0 2 (q := (4, .istore 4, 6)) rfl
theorem c112_6 : pm_code 112 6 = some (.iload 4, 8) := pm_of cl112_0 3 (q := (6, .iload 4, 8)) rfl
theorem c112_8 : pm_code 112 8 = some (.iconst (-1), 9) := pm_of cl112_0 4 (q := (8, .iconst (-1), 9)) rfl
theorem c112_9 : pm_code 112 9 = some (.if_icmp .ne 9, 12) := pm_of cl112_0 5 (q := (9, .if_icmp .ne 9, 12)) rfl
theorem c112_12 : pm_code 112 12 = some (.aload_n 1, 13) := pm_of cl112_0 6 (q := (12, .aload_n 1, 13)) rfl
theorem c112_13 : pm_code 112 13 = some (.iconst 1, 14) := pm_of cl112_0 7 (q := (13, .iconst 1, 14)) rfl
theorem c112_14 : pm_code 112 14 = some (.invokevirtual 51, 17) := pm_of cl112_0 8 (q := (14, .invokevirtual 51, 17)) rfl
theorem c112_17 : pm_code 112 17 = some (.return_, 18) := pm_of cl112_0 9 (q := (17, .return_, 18)) rfl
theorem c112_18 : pm_code 112 18 = some (.iload 4, 20) := pm_of cl112_0 10 (q := (18, .iload 4, 20)) rfl
theorem c112_20 : pm_code 112 20 = some (.bipush 8, 22) := pm_of cl112_0 11 (q := (20, .bipush 8, 22)) rfl
theorem c112_22 : pm_code 112 22 = some (.if_icmp .ne 15, 25) := pm_of cl112_0 12 (q := (22, .if_icmp .ne 15, 25)) rfl
theorem c112_25 : pm_code 112 25 = some (.iload_n 3, 26) := pm_of cl112_0 13 (q := (25, .iload_n 3, 26)) rfl
theorem c112_26 : pm_code 112 26 = some (.bipush 6, 28) := pm_of cl112_0 14 (q := (26, .bipush 6, 28)) rfl
theorem c112_28 : pm_code 112 28 = some (.if_icmp .lt 9, 31) := pm_of cl112_0 15 (q := (28, .if_icmp .lt 9, 31)) rfl
theorem c112_31 : pm_code 112 31 = some (.aload_n 1, 32) := pm_of cl112_0 16 (q := (31, .aload_n 1, 32)) rfl
theorem c112_32 : pm_code 112 32 = some (.iconst 3, 33) := pm_of cl112_0 17 (q := (32, .iconst 3, 33)) rfl
theorem c112_33 : pm_code 112 33 = some (.invokevirtual 51, 36) := pm_of cl112_0 18 (q := (33, .invokevirtual 51, 36)) rfl
theorem c112_36 : pm_code 112 36 = some (.return_, 37) := pm_of cl112_0 19 (q := (36, .return_, 37)) rfl
theorem c112_37 : pm_code 112 37 = some (.aload_n 1, 38) := pm_of cl112_0 20 (q := (37, .aload_n 1, 38)) rfl
theorem c112_38 : pm_code 112 38 = some (.invokevirtual 55, 41) := pm_of cl112_0 21 (q := (38, .invokevirtual 55, 41)) rfl
theorem c112_41 : pm_code 112 41 = some (.aload_n 0, 42) := pm_of cl112_0 22 (q := (41, .aload_n 0, 42)) rfl
theorem c112_42 : pm_code 112 42 = some (.getfield 24, 45) := pm_of cl112_0 23 (q := (42, .getfield 24, 45)) rfl
theorem c112_45 : pm_code 112 45 = some (.istore 5, 47) := pm_of cl112_0 24 (q := (45, .istore 5, 47)) rfl
theorem c112_47 : pm_code 112 47 = some (.aload_n 0, 48) := pm_of cl112_0 25 (q := (47, .aload_n 0, 48)) rfl
theorem c112_48 : pm_code 112 48 = some (.dup, 49) := pm_of cl112_0 26 (q := (48, .dup, 49)) rfl
theorem c112_49 : pm_code 112 49 = some (.getfield 24, 52) := pm_of cl112_0 27 (q := (49, .getfield 24, 52)) rfl
theorem c112_52 : pm_code 112 52 = some (.iconst 1, 53) := pm_of cl112_0 28 (q := (52, .iconst 1, 53)) rfl
theorem c112_53 : pm_code 112 53 = some (.iadd, 54) := pm_of cl112_0 29 (q := (53, .iadd, 54)) rfl
theorem c112_54 : pm_code 112 54 = some (.putfield 24, 57) := pm_of cl112_0 30 (q := (54, .putfield 24, 57)) rfl
theorem c112_57 : pm_code 112 57 = some (.aload_n 0, 58) := pm_of cl112_0 31 (q := (57, .aload_n 0, 58)) rfl
theorem c112_58 : pm_code 112 58 = some (.getfield 9, 61) := pm_of cl112_0 32 (q := (58, .getfield 9, 61)) rfl
theorem c112_61 : pm_code 112 61 = some (.iload 5, 63) := pm_of cl112_0 33 (q := (61, .iload 5, 63)) rfl
theorem c112_63 : pm_code 112 63 = some (.iload 4, 65) := pm_of cl112_0 34 (q := (63, .iload 4, 65)) rfl
theorem c112_65 : pm_code 112 65 = some (.invokestatic 58, 68) := pm_of cl112_0 35 (q := (65, .invokestatic 58, 68)) rfl
theorem c112_68 : pm_code 112 68 = some (.iload 4, 70) := pm_of cl112_0 36 (q := (68, .iload 4, 70)) rfl
theorem c112_70 : pm_code 112 70 = some (.bipush 8, 72) := pm_of cl112_0 37 (q := (70, .bipush 8, 72)) rfl
theorem c112_72 : pm_code 112 72 = some (.if_icmp .ne 31, 75) := pm_of cl112_0 38 (q := (72, .if_icmp .ne 31, 75)) rfl
theorem c112_75 : pm_code 112 75 = some (.aload_n 0, 76) := pm_of cl112_0 39 (q := (75, .aload_n 0, 76)) rfl
theorem cl112_1 : ([(76, .getfield 18, 79), (79, .iload 5, 81), (81, .aload_n 1, 82), (82, .iconst 0, 83), (83, .bipush 60, 85), (85, .invokevirtual 62, 88), (88, .invokestatic 58, 91), (91, .aload_n 0, 92), (92, .aload_n 1, 93), (93, .aload_n 2, 94), (94, .iload_n 3, 95), (95, .iconst 1, 96), (96, .iadd, 97), (97, .invokevirtual 66, 100), (100, .goto 11, 103), (103, .aload_n 0, 104), (104, .aload_n 1, 105), (105, .aload_n 2, 106), (106, .iload 5, 108), (108, .invokevirtual 69, 111), (111, .aload_n 0, 112), (112, .getfield 21, 115), (115, .iload 5, 117), (117, .aload_n 0, 118), (118, .getfield 24, 121), (121, .invokestatic 58, 124), (124, .aload_n 1, 125), (125, .bipush 59, 127), (127, .invokevirtual 72, 130), (130, .return_, 131)] : List (Nat × Instr × Nat)).all (fun q => decide (pm_code 112 q.1 = some q.2)) = true := by decide +kernel
theorem c112_76 : pm_code 112 76 = some (.getfield 18, 79) := pm_of cl112_1 0 (q := (76, .getfield 18, 79)) rfl
theorem c112_79 : pm_code 112 79 = some (.iload 5, 81) := pm_of cl112_1 1 (q := (79, .iload 5, 81)) rfl
theorem c112_81 : pm_code 112 81 = some (.aload_n 1, 82) := pm_of cl112_1 2 (q := (81, .aload_n 1, 82)) rfl
theorem c112_82 : pm_code 112 82 = some (.iconst 0, 83) := pm_of cl112_1 3 (q := (82, .iconst 0, 83)) rfl
theorem c112_83 : pm_code 112 83 = some (.bipush 60, 85) := pm_of cl112_1 4 (q := (83, .bipush 60, 85)) rfl
theorem c112_85 : pm_code 112 85 = some (.invokevirtual 62, 88) := pm_of cl112_1 5 (q := (85, .invokevirtual 62, 88)) rfl
theorem c112_88 : pm_code 112 88 = some (.invokestatic 58, 91) := pm_of cl112_1 6 (q := (88, .invokestatic 58, 91)) rfl
theorem c112_91 : pm_code 112 91 = some (.aload_n 0, 92) := pm_of cl112_1 7 (q := (91, .aload_n 0, 92)) rfl
theorem c112_92 : pm_code 112 92 = some (.aload_n 1, 93) := pm_of cl112_1 8 (q := (92, .aload_n 1, 93)) rfl
theorem c112_93 : pm_code 112 93 = some (.aload_n 2, 94) := pm_of cl112_1 9 (q := (93, .aload_n 2, 94)) rfl
theorem c112_94 : pm_code 112 94 = some (.iload_n 3, 95) := pm_of cl112_1 10 (q := (94, .iload_n 3, 95)) rfl
theorem c112_95 : pm_code 112 95 = some (.iconst 1, 96) := pm_of cl112_1 11 (q := (95, .iconst 1, 96)) rfl
theorem c112_96 : pm_code 112 96 = some (.iadd, 97) := pm_of cl112_1 12 (q := (96, .iadd, 97)) rfl
theorem c112_97 : pm_code 112 97 = some (.invokevirtual 66, 100) := pm_of cl112_1 13 (q := (97, .invokevirtual 66, 100)) rfl
theorem c112_100 : pm_code 112 100 = some (.goto 11, 103) := pm_of cl112_1 14 (q := (100, .goto 11, 103)) rfl
theorem c112_103 : pm_code 112 103 = some (.aload_n 0, 104) := pm_of cl112_1 15 (q := (103, .aload_n 0, 104)) rfl
theorem c112_104 : pm_code 112 104 = some (.aload_n 1, 105) := pm_of cl112_1 16 (q := (104, .aload_n 1, 105)) rfl
theorem c112_105 : pm_code 112 105 = some (.aload_n 2, 106) := pm_of cl112_1 17 (q := (105, .aload_n 2, 106)) rfl
theorem c112_106 : pm_code 112 106 = some (.iload 5, 108) := pm_of cl112_1 18 (q := (106, .iload 5, 108)) rfl
theorem c112_108 : pm_code 112 108 = some (.invokevirtual 69, 111) := pm_of cl112_1 19 (q := (108, .invokevirtual 69, 111)) rfl
theorem c112_111 : pm_code 112 111 = some (.aload_n 0, 112) := pm_of cl112_1 20 (q := (111, .aload_n 0, 112)) rfl
theorem c112_112 : pm_code 112 112 = some (.getfield 21, 115) := pm_of cl112_1 21 (q := (112, .getfield 21, 115)) rfl
theorem c112_115 : pm_code 112 115 = some (.iload 5, 117) := pm_of cl112_1 22 (q := (115, .iload 5, 117)) rfl
theorem c112_117 : pm_code 112 117 = some (.aload_n 0, 118) := pm_of cl112_1 23 (q := (117, .aload_n 0, 118)) rfl
theorem c112_118 : pm_code 112 118 = some (.getfield 24, 121) := pm_of cl112_1 24 (q := (118, .getfield 24, 121)) rfl
theorem c112_121 : pm_code 112 121 = some (.invokestatic 58, 124) := pm_of cl112_1 25 (q := (121, .invokestatic 58, 124)) rfl
theorem c112_124 : pm_code 112 124 = some (.aload_n 1, 125) := pm_of cl112_1 26 (q := (124, .aload_n 1, 125)) rfl
theorem c112_125 : pm_code 112 125 = some (.bipush 59, 127) := pm_of cl112_1 27 (q := (125, .bipush 59, 127)) rfl
theorem c112_127 : pm_code 112 127 = some (.invokevirtual 72, 130) := pm_of cl112_1 28 (q := (127, .invokevirtual 72, 130)) rfl
theorem c112_130 : pm_code 112 130 = some (.return_, 131) := pm_of cl112_1 29 (q := (130, .return_, 131)) rfl
theorem k113 : pm_k 113 = 7 := by decide +kernel
theorem ml113 : pm_ml 113 = 1 := by decide +kernel
theorem rt113 : pm_rt 113 = (some .int) := by decide +kernel
theorem hh113 : pm_hh 113 = [] := by decide +kernel
theorem rc113 : pm_cl 7 = (pm_y 113).cls := by decide +kernel
theorem cl113_0 : ([(0, .aload_n 0, 1), (1, .ldc 95, 3), (3, .invokevirtual 97, 6), (6, .ifCond .eq 5, 9), (9, .iconst 0, 10), (10, .ireturn, 11), (11, .aload_n 0, 12), (12, .ldc 101, 14), (14, .invokevirtual 97, 17), (17, .ifCond .eq 5, 20), (20, .iconst 1, 21), (21, .ireturn, 22), (22, .aload_n 0, 23), (23, .ldc 103, 25), (25, .invokevirtual 97, 28), (28, .ifCond .eq 5, 31), (31, .iconst 2, 32), (32, .ireturn, 33), (33, .aload_n 0, 34), (34, .ldc 105, 36), (36, .invokevirtual 97, 39), (39, .ifCond .eq 5, 42), (42, .iconst 3, 43), (43, .ireturn, 44), (44, .aload_n 0, 45), (45, .ldc 107, 47), (47, .invokevirtual 97, 50), (50, .ifCond .eq 5, 53), (53, .iconst 4, 54), (54, .ireturn, 55), (55, .aload_n 0, 56), (56, .ldc 109, 58), (58, .invokevirtual 97, 61), (61, .ifCond .eq 5, 64), (64, .iconst 5, 65), (65, .ireturn, 66), (66, .aload_n 0, 67), (67, .ldc 111, 69), (69, .invokevirtual 97, 72), (72, .ifCond .eq 6, 75)] : List (Nat × Instr × Nat)).all (fun q => decide (pm_code 113 q.1 = some q.2)) = true := by decide +kernel
theorem c113_0 : pm_code 113 0 = some (.aload_n 0, 1) := pm_of cl113_0 0 (q := (0, .aload_n 0, 1)) rfl
theorem c113_1 : pm_code 113 1 = some (.ldc 95, 3) := pm_of cl113_0 1 (q := (1, .ldc 95, 3)) rfl
theorem c113_3 : pm_code 113 3 = some (.invokevirtual 97, 6) := pm_of cl113_0 2 (q := (3, .invokevirtual 97, 6)) rfl
theorem c113_6 : pm_code 113 6 = some (.ifCond .eq 5, 9) := pm_of cl113_0 3 (q := (6, .ifCond .eq 5, 9)) rfl
theorem c113_9 : pm_code 113 9 = some (.iconst 0, 10) := pm_of cl113_0 4 (q := (9, .iconst 0, 10)) rfl
theorem c113_10 : pm_code 113 10 = some (.ireturn, 11) := pm_of cl113_0 5 (q := (10, .ireturn, 11)) rfl
theorem c113_11 : pm_code 113 11 = some (.aload_n 0, 12) := pm_of cl113_0 6 (q := (11, .aload_n 0, 12)) rfl
theorem c113_12 : pm_code 113 12 = some (.ldc 101, 14) := pm_of cl113_0 7 (q := (12, .ldc 101, 14)) rfl
theorem c113_14 : pm_code 113 14 = some (.invokevirtual 97, 17) := pm_of cl113_0 8 (q := (14, .invokevirtual 97, 17)) rfl
theorem c113_17 : pm_code 113 17 = some (.ifCond .eq 5, 20) := pm_of cl113_0 9 (q := (17, .ifCond .eq 5, 20)) rfl
theorem c113_20 : pm_code 113 20 = some (.iconst 1, 21) := pm_of cl113_0 10 (q := (20, .iconst 1, 21)) rfl
theorem c113_21 : pm_code 113 21 = some (.ireturn, 22) := pm_of cl113_0 11 (q := (21, .ireturn, 22)) rfl
theorem c113_22 : pm_code 113 22 = some (.aload_n 0, 23) := pm_of cl113_0 12 (q := (22, .aload_n 0, 23)) rfl
theorem c113_23 : pm_code 113 23 = some (.ldc 103, 25) := pm_of cl113_0 13 (q := (23, .ldc 103, 25)) rfl
theorem c113_25 : pm_code 113 25 = some (.invokevirtual 97, 28) := pm_of cl113_0 14 (q := (25, .invokevirtual 97, 28)) rfl
theorem c113_28 : pm_code 113 28 = some (.ifCond .eq 5, 31) := pm_of cl113_0 15 (q := (28, .ifCond .eq 5, 31)) rfl
theorem c113_31 : pm_code 113 31 = some (.iconst 2, 32) := pm_of cl113_0 16 (q := (31, .iconst 2, 32)) rfl
theorem c113_32 : pm_code 113 32 = some (.ireturn, 33) := pm_of cl113_0 17 (q := (32, .ireturn, 33)) rfl
theorem c113_33 : pm_code 113 33 = some (.aload_n 0, 34) := pm_of cl113_0 18 (q := (33, .aload_n 0, 34)) rfl
theorem c113_34 : pm_code 113 34 = some (.ldc 105, 36) := pm_of cl113_0 19 (q := (34, .ldc 105, 36)) rfl
theorem c113_36 : pm_code 113 36 = some (.invokevirtual 97, 39) := pm_of cl113_0 20 (q := (36, .invokevirtual 97, 39)) rfl
theorem c113_39 : pm_code 113 39 = some (.ifCond .eq 5, 42) := pm_of cl113_0 21 (q := (39, .ifCond .eq 5, 42)) rfl
theorem c113_42 : pm_code 113 42 = some (.iconst 3, 43) := pm_of cl113_0 22 (q := (42, .iconst 3, 43)) rfl
theorem c113_43 : pm_code 113 43 = some (.ireturn, 44) := pm_of cl113_0 23 (q := (43, .ireturn, 44)) rfl
theorem c113_44 : pm_code 113 44 = some (.aload_n 0, 45) := pm_of cl113_0 24 (q := (44, .aload_n 0, 45)) rfl
theorem c113_45 : pm_code 113 45 = some (.ldc 107, 47) := pm_of cl113_0 25 (q := (45, .ldc 107, 47)) rfl
theorem c113_47 : pm_code 113 47 = some (.invokevirtual 97, 50) := pm_of cl113_0 26 (q := (47, .invokevirtual 97, 50)) rfl
theorem c113_50 : pm_code 113 50 = some (.ifCond .eq 5, 53) := pm_of cl113_0 27 (q := (50, .ifCond .eq 5, 53)) rfl
theorem c113_53 : pm_code 113 53 = some (.iconst 4, 54) := pm_of cl113_0 28 (q := (53, .iconst 4, 54)) rfl
theorem c113_54 : pm_code 113 54 = some (.ireturn, 55) := pm_of cl113_0 29 (q := (54, .ireturn, 55)) rfl
theorem c113_55 : pm_code 113 55 = some (.aload_n 0, 56) := pm_of cl113_0 30 (q := (55, .aload_n 0, 56)) rfl
theorem c113_56 : pm_code 113 56 = some (.ldc 109, 58) := pm_of cl113_0 31 (q := (56, .ldc 109, 58)) rfl
theorem c113_58 : pm_code 113 58 = some (.invokevirtual 97, 61) := pm_of cl113_0 32 (q := (58, .invokevirtual 97, 61)) rfl
theorem c113_61 : pm_code 113 61 = some (.ifCond .eq 5, 64) := pm_of cl113_0 33 (q := (61, .ifCond .eq 5, 64)) rfl
theorem c113_64 : pm_code 113 64 = some (.iconst 5, 65) := pm_of cl113_0 34 (q := (64, .iconst 5, 65)) rfl
theorem c113_65 : pm_code 113 65 = some (.ireturn, 66) := pm_of cl113_0 35 (q := (65, .ireturn, 66)) rfl
theorem c113_66 : pm_code 113 66 = some (.aload_n 0, 67) := pm_of cl113_0 36 (q := (66, .aload_n 0, 67)) rfl
theorem c113_67 : pm_code 113 67 = some (.ldc 111, 69) := pm_of cl113_0 37 (q := (67, .ldc 111, 69)) rfl
theorem c113_69 : pm_code 113 69 = some (.invokevirtual 97, 72) := pm_of cl113_0 38 (q := (69, .invokevirtual 97, 72)) rfl
theorem c113_72 : pm_code 113 72 = some (.ifCond .eq 6, 75) := pm_of cl113_0 39 (q := (72, .ifCond .eq 6, 75)) rfl
theorem cl113_1 : ([(75, .bipush 6, 77), (77, .ireturn, 78), (78, .aload_n 0, 79), (79, .ldc 113, 81), (81, .invokevirtual 97, 84), (84, .ifCond .eq 6, 87), (87, .bipush 7, 89), (89, .ireturn, 90), (90, .aload_n 0, 91), (91, .ldc 115, 93), (93, .invokevirtual 97, 96), (96, .ifCond .eq 8, 99), (99, .bipush 8, 101), (101, .goto 4, 104), (104, .iconst (-1), 105), (105, .ireturn, 106)] : List (Nat × Instr × Nat)).all (fun q => decide (pm_code 113 q.1 = some q.2)) = true := by decide +kernel
theorem c113_75 : pm_code 113 75 = some (.bipush 6, 77) := pm_of cl113_1 0 (q := (75, .bipush 6, 77)) rfl
theorem c113_77 : pm_code 113 77 = some (.ireturn, 78) := pm_of cl113_1 1 (q := (77, .ireturn, 78)) rfl
theorem c113_78 : pm_code 113 78 = some (.aload_n 0, 79) := pm_of cl113_1 2 (q := (78, .aload_n 0, 79)) rfl
theorem c113_79 : pm_code 113 79 = some (.ldc 113, 81) := pm_of cl113_1 3 (q := (79, .ldc 113, 81)) rfl
theorem c113_81 : pm_code 113 81 = some (.invokevirtual 97, 84) := pm_of cl113_1 4 (q := (81, .invokevirtual 97, 84)) rfl
theorem c113_84 : pm_code 113 84 = some (.ifCond .eq 6, 87) := pm_of cl113_1 5 (q := (84, .ifCond .eq 6, 87)) rfl
theorem c113_87 : pm_code 113 87 = some (.bipush 7, 89) := pm_of cl113_1 6 (q := (87, .bipush 7, 89)) rfl
theorem c113_89 : pm_code 113 89 = some (.ireturn, 90) := pm_of cl113_1 7 (q := (89, .ireturn, 90)) rfl
theorem c113_90 : pm_code 113 90 = some (.aload_n 0, 91) := pm_of cl113_1 8 (q := (90, .aload_n 0, 91)) rfl
theorem c113_91 : pm_code 113 91 = some (.ldc 115, 93) := pm_of cl113_1 9 (q := (91, .ldc 115, 93)) rfl
theorem c113_93 : pm_code 113 93 = some (.invokevirtual 97, 96) := pm_of cl113_1 10 (q := (93, .invokevirtual 97, 96)) rfl
theorem c113_96 : pm_code 113 96 = some (.ifCond .eq 8, 99) := pm_of cl113_1 11 (q := (96, .ifCond .eq 8, 99)) rfl
theorem c113_99 : pm_code 113 99 = some (.bipush 8, 101) := pm_of cl113_1 12 (q := (99, .bipush 8, 101)) rfl
theorem c113_101 : pm_code 113 101 = some (.goto 4, 104) := pm_of cl113_1 13 (q := (101, .goto 4, 104)) rfl
theorem c113_104 : pm_code 113 104 = some (.iconst (-1), 105) := pm_of cl113_1 14 (q := (104, .iconst (-1), 105)) rfl
theorem c113_105 : pm_code 113 105 = some (.ireturn, 106) := pm_of cl113_1 15 (q := (105, .ireturn, 106)) rfl
theorem k114 : pm_k 114 = 7 := by decide +kernel
theorem ml114 : pm_ml 114 = 5 := by decide +kernel
theorem rt114 : pm_rt 114 = none := by decide +kernel
theorem hh114 : pm_hh 114 = [] := by decide +kernel
theorem rc114 : pm_cl 7 = (pm_y 114).cls := by decide +kernel
theorem cl114_0 : ([(0, .aload_n 1, 1), (1, .bipush 91, 3), (3, .invokevirtual 72, 6), (6, .iconst 0, 7), (7, .istore 4, 9), (9, .iload 4, 11), (11, .sipush 150, 14), (14, .if_icmp .ge 32, 17), (17, .aload_n 1, 18), (18, .invokevirtual 76, 21), (21, .ifCond .ne 25, 24), (24, .aload_n 1, 25), (25, .bipush 93, 27), (27, .invokevirtual 79, 30), (30, .ifCond .ne 16, 33), (33, .aload_n 0, 34), (34, .aload_n 1, 35), (35, .aload_n 2, 36), (36, .iload_n 3, 37), (37, .invokevirtual 43, 40), (40, .iinc 4 1, 43), (43, .goto (-34), 46), (46, .aload_n 1, 47), (47, .bipush 93, 49), (49, .invokevirtual 72, 52), (52, .return_, 53)] : List (Nat × Instr × Nat)).all (fun q => decide (pm_code 114 q.1 = some q.2)) = true := by decide +kernel
theorem c114_0 : pm_code 114 0 = some (.aload_n 1, 1) := pm_of cl114_0 0 (q := (0, .aload_n 1, 1)) rfl
theorem c114_1 : pm_code 114 1 = some (.bipush 91, 3) := pm_of cl114_0 1 (q := (1, .bipush 91, 3)) rfl
theorem c114_3 : pm_code 114 3 = some (.invokevirtual 72, 6) := pm_of cl114_0 2 (q := (3, .invokevirtual 72, 6)) rfl
theorem c114_6 : pm_code 114 6 = some (.iconst 0, 7) := pm_of cl114_0 3 (q := (6, .iconst 0, 7)) rfl
theorem c114_7 : pm_code 114 7 = some (.istore 4, 9) := pm_of cl114_0 4 (q := (7, .istore 4, 9)) rfl
theorem c114_9 : pm_code 114 9 = some (.iload 4, 11) := pm_of cl114_0 5 (q := (9, .iload 4, 11)) rfl
theorem c114_11 : pm_code 114 11 = some (.sipush 150, 14) := pm_of cl114_0 6 (q := (11, .sipush 150, 14)) rfl
theorem c114_14 : pm_code 114 14 = some (.if_icmp .ge 32, 17) := pm_of cl114_0 7 (q := (14, .if_icmp .ge 32, 17)) rfl
theorem c114_17 : pm_code 114 17 = some (.aload_n 1, 18) := pm_of cl114_0 8 (q := (17, .aload_n 1, 18)) rfl
theorem c114_18 : pm_code 114 18 = some (.invokevirtual 76, 21) := pm_of cl114_0 9 (q := (18, .invokevirtual 76, 21)) rfl
theorem c114_21 : pm_code 114 21 = some (.ifCond .ne 25, 24) := pm_of cl114_0 10 (q := (21, .ifCond .ne 25, 24)) rfl
theorem c114_24 : pm_code 114 24 = some (.aload_n 1, 25) := pm_of cl114_0 11 (q := (24, .aload_n 1, 25)) rfl
theorem c114_25 : pm_code 114 25 = some (.bipush 93, 27) := pm_of cl114_0 12 (q := (25, .bipush 93, 27)) rfl
theorem c114_27 : pm_code 114 27 = some (.invokevirtual 79, 30) := pm_of cl114_0 13 (q := (27, .invokevirtual 79, 30)) rfl
theorem c114_30 : pm_code 114 30 = some (.ifCond .ne 16, 33) := pm_of cl114_0 14 (q := (30, .ifCond .ne 16, 33)) rfl
theorem c114_33 : pm_code 114 33 = some (.aload_n 0, 34) := pm_of cl114_0 15 (q := (33, .aload_n 0, 34)) rfl
theorem c114_34 : pm_code 114 34 = some (.aload_n 1, 35) := pm_of cl114_0 16 (q := (34, .aload_n 1, 35)) rfl
theorem c114_35 : pm_code 114 35 = some (.aload_n 2, 36) := pm_of cl114_0 17 (q := (35, .aload_n 2, 36)) rfl
theorem c114_36 : pm_code 114 36 = some (.iload_n 3, 37) := pm_of cl114_0 18 (q := (36, .iload_n 3, 37)) rfl
theorem c114_37 : pm_code 114 37 = some (.invokevirtual 43, 40) := pm_of cl114_0 19 (q := (37, .invokevirtual 43, 40)) rfl
theorem c114_40 : pm_code 114 40 = some (.iinc 4 1, 43) := pm_of cl114_0 20 (q := (40, .iinc 4 1, 43)) rfl
theorem c114_43 : pm_code 114 43 = some (.goto (-34), 46) := pm_of cl114_0 21 (q := (43, .goto (-34), 46)) rfl
theorem c114_46 : pm_code 114 46 = some (.aload_n 1, 47) := pm_of cl114_0 22 (q := (46, .aload_n 1, 47)) rfl
theorem c114_47 : pm_code 114 47 = some (.bipush 93, 49) := pm_of cl114_0 23 (q := (47, .bipush 93, 49)) rfl
theorem c114_49 : pm_code 114 49 = some (.invokevirtual 72, 52) := pm_of cl114_0 24 (q := (49, .invokevirtual 72, 52)) rfl
theorem c114_52 : pm_code 114 52 = some (.return_, 53) := pm_of cl114_0 25 (q := (52, .return_, 53)) rfl
theorem k115 : pm_k 115 = 7 := by decide +kernel
theorem ml115 : pm_ml 115 = 5 := by decide +kernel
theorem rt115 : pm_rt 115 = none := by decide +kernel
theorem hh115 : pm_hh 115 = [] := by decide +kernel
theorem rc115 : pm_cl 7 = (pm_y 115).cls := by decide +kernel
theorem cl115_0 : ([(0, .aload_n 0, 1), (1, .getfield 9, 4), (4, .iload_n 3, 5), (5, .invokestatic 83, 8), (8, .istore 4, 10), (10, .iload 4, 12), (12, .ifCond .eq 10, 15), (15, .iload 4, 17), (17, .bipush 7, 19), (19, .if_icmp .ne 4, 22), (22, .return_, 23), (23, .aload_n 0, 24), (24, .getfield 15, 27), (27, .iload_n 3, 28), (28, .aload_n 1, 29), (29, .iconst 0, 30), (30, .aload_n 2, 31), (31, .invokevirtual 87, 34), (34, .iconst 1, 35), (35, .isub, 36), (36, .invokevirtual 62, 39), (39, .invokestatic 58, 42), (42, .iload 4, 44), (44, .iconst 1, 45), (45, .if_icmp .ne 25, 48), (48, .aload_n 0, 49), (49, .getfield 18, 52), (52, .iload_n 3, 53), (53, .aload_n 1, 54), (54, .iconst 0, 55), (55, .aload_n 2, 56), (56, .invokevirtual 92, 59), (59, .iconst 1, 60), (60, .isub, 61), (61, .invokevirtual 62, 64), (64, .invokestatic 58, 67), (67, .goto 24, 70), (70, .iload 4, 72), (72, .iconst 2, 73), (73, .if_icmp .ne 18, 76)] : List (Nat × Instr × Nat)).all (fun q => decide (pm_code 115 q.1 = some q.2)) = true := by decide +kernel
theorem c115_0 : pm_code 115 0 = some (.aload_n 0, 1) := pm_of cl115_0 0 (q := (0, .aload_n 0, 1)) rfl
theorem c115_1 : pm_code 115 1 = some (.getfield 9, 4) := pm_of cl115_0 1 (q := (1, .getfield 9, 4)) rfl
theorem c115_4 : pm_code 115 4 = some (.iload_n 3, 5) := pm_of cl115_0 2 (q := (4, .iload_n 3, 5)) rfl
theorem c115_5 : pm_code 115 5 = some (.invokestatic 83, 8) := pm_of cl115_0 3 (q := (5, .invokestatic 83, 8)) rfl
theorem c115_8 : pm_code 115 8 = some (.istore 4, 10) := pm_of cl115_0 4 (q := (8, .istore 4, 10)) rfl
theorem c115_10 : pm_code 115 10 = some (.iload 4, 12) := pm_of cl115_0 5 (q := (10, .iload 4, 12)) rfl
theorem c115_12 : pm_code 115 12 = some (.ifCond .eq 10, 15) := pm_of cl115_0 6 (q := (12, .ifCond .eq 10, 15)) rfl
theorem c115_15 : pm_code 115 15 = some (.iload 4, 17) := pm_of cl115_0 7 (q := (15, .iload 4, 17)) rfl
theorem c115_17 : pm_code 115 17 = some (.bipush 7, 19) := pm_of cl115_0 8 (q := (17, .bipush 7, 19)) rfl
theorem c115_19 : pm_code 115 19 = some (.if_icmp .ne 4, 22) := pm_of cl115_0 9 (q := (19, .if_icmp .ne 4, 22)) rfl
theorem c115_22 : pm_code 115 22 = some (.return_, 23) := pm_of cl115_0 10 (q := (22, .return_, 23)) rfl
theorem c115_23 : pm_code 115 23 = some (.aload_n 0, 24) := pm_of cl115_0 11 (q := (23, .aload_n 0, 24)) rfl
theorem c115_24 : pm_code 115 24 = some (.getfield 15, 27) := pm_of cl115_0 12 (q := (24, .getfield 15, 27)) rfl
theorem c115_27 : pm_code 115 27 = some (.iload_n 3, 28) := pm_of cl115_0 13 (q := (27, .iload_n 3, 28)) rfl
theorem c115_28 : pm_code 115 28 = some (.aload_n 1, 29) := pm_of cl115_0 14 (q := (28, .aload_n 1, 29)) rfl
theorem c115_29 : pm_code 115 29 = some (.iconst 0, 30) := pm_of cl115_0 15 (q := (29, .iconst 0, 30)) rfl
theorem c115_30 : pm_code 115 30 = some (.aload_n 2, 31) := pm_of cl115_0 16 (q := (30, .aload_n 2, 31)) rfl
theorem c115_31 : pm_code 115 31 = some (.invokevirtual 87, 34) := pm_of cl115_0 17 (q := (31, .invokevirtual 87, 34)) rfl
theorem c115_34 : pm_code 115 34 = some (.iconst 1, 35) := pm_of cl115_0 18 (q := (34, .iconst 1, 35)) rfl
theorem c115_35 : pm_code 115 35 = some (.isub, 36) := pm_of cl115_0 19 (q := (35, .isub, 36)) rfl
theorem c115_36 : pm_code 115 36 = some (.invokevirtual 62, 39) := pm_of cl115_0 20 (q := (36, .invokevirtual 62, 39)) rfl
theorem c115_39 : pm_code 115 39 = some (.invokestatic 58, 42) := pm_of cl115_0 21 (q := (39, .invokestatic 58, 42)) rfl
theorem c115_42 : pm_code 115 42 = some (.iload 4, 44) := pm_of cl115_0 22 (q := (42, .iload 4, 44)) rfl
theorem c115_44 : pm_code 115 44 = some (.iconst 1, 45) := pm_of cl115_0 23 (q := (44, .iconst 1, 45)) rfl
theorem c115_45 : pm_code 115 45 = some (.if_icmp .ne 25, 48) := pm_of cl115_0 24 (q := (45, .if_icmp .ne 25, 48)) rfl
theorem c115_48 : pm_code 115 48 = some (.aload_n 0, 49) := pm_of cl115_0 25 (q := (48, .aload_n 0, 49)) rfl
theorem c115_49 : pm_code 115 49 = some (.getfield 18, 52) := pm_of cl115_0 26 (q := (49, .getfield 18, 52)) rfl
theorem c115_52 : pm_code 115 52 = some (.iload_n 3, 53) := pm_of cl115_0 27 (q := (52, .iload_n 3, 53)) rfl
theorem c115_53 : pm_code 115 53 = some (.aload_n 1, 54) := pm_of cl115_0 28 (q := (53, .aload_n 1, 54)) rfl
theorem c115_54 : pm_code 115 54 = some (.iconst 0, 55) := pm_of cl115_0 29 (q := (54, .iconst 0, 55)) rfl
theorem c115_55 : pm_code 115 55 = some (.aload_n 2, 56) := pm_of cl115_0 30 (q := (55, .aload_n 2, 56)) rfl
theorem c115_56 : pm_code 115 56 = some (.invokevirtual 92, 59) := pm_of cl115_0 31 (q := (56, .invokevirtual 92, 59)) rfl
theorem c115_59 : pm_code 115 59 = some (.iconst 1, 60) := pm_of cl115_0 32 (q := (59, .iconst 1, 60)) rfl
theorem c115_60 : pm_code 115 60 = some (.isub, 61) := pm_of cl115_0 33 (q := (60, .isub, 61)) rfl
theorem c115_61 : pm_code 115 61 = some (.invokevirtual 62, 64) := pm_of cl115_0 34 (q := (61, .invokevirtual 62, 64)) rfl
theorem c115_64 : pm_code 115 64 = some (.invokestatic 58, 67) := pm_of cl115_0 35 (q := (64, .invokestatic 58, 67)) rfl
theorem c115_67 : pm_code 115 67 = some (.goto 24, 70) := pm_of cl115_0 36 (q := (67, .goto 24, 70)) rfl
theorem c115_70 : pm_code 115 70 = some (.iload 4, 72) := pm_of cl115_0 37 (q := (70, .iload 4, 72)) rfl
theorem c115_72 : pm_code 115 72 = some (.iconst 2, 73) := pm_of cl115_0 38 (q := (72, .iconst 2, 73)) rfl
theorem c115_73 : pm_code 115 73 = some (.if_icmp .ne 18, 76) := pm_of cl115_0 39 (q := (73, .if_icmp .ne 18, 76)) rfl
theorem cl115_1 : ([(76, .aload_n 0, 77), (77, .getfield 18, 80), (80, .iload_n 3, 81), (81, .aload_n 1, 82), (82, .iconst 1, 83), (83, .bipush 24, 85), (85, .invokevirtual 62, 88), (88, .invokestatic 58, 91), (91, .return_, 92)] : List (Nat × Instr × Nat)).all (fun q => decide (pm_code 115 q.1 = some q.2)) = true := by decide +kernel
theorem c115_76 : pm_code 115 76 = some (.aload_n 0, 77) := pm_of cl115_1 0 (q := (76, .aload_n 0, 77)) rfl
theorem c115_77 : pm_code 115 77 = some (.getfield 18, 80) := pm_of cl115_1 1 (q := (77, .getfield 18, 80)) rfl
theorem c115_80 : pm_code 115 80 = some (.iload_n 3, 81) := pm_of cl115_1 2 (q := (80, .iload_n 3, 81)) rfl
theorem c115_81 : pm_code 115 81 = some (.aload_n 1, 82) := pm_of cl115_1 3 (q := (81, .aload_n 1, 82)) rfl
theorem c115_82 : pm_code 115 82 = some (.iconst 1, 83) := pm_of cl115_1 4 (q := (82, .iconst 1, 83)) rfl
theorem c115_83 : pm_code 115 83 = some (.bipush 24, 85) := pm_of cl115_1 5 (q := (83, .bipush 24, 85)) rfl
theorem c115_85 : pm_code 115 85 = some (.invokevirtual 62, 88) := pm_of cl115_1 6 (q := (85, .invokevirtual 62, 88)) rfl
theorem c115_88 : pm_code 115 88 = some (.invokestatic 58, 91) := pm_of cl115_1 7 (q := (88, .invokestatic 58, 91)) rfl
theorem c115_91 : pm_code 115 91 = some (.return_, 92) := pm_of cl115_1 8 (q := (91, .return_, 92)) rfl
theorem k116 : pm_k 116 = 7 := by decide +kernel
theorem ml116 : pm_ml 116 = 1 := by decide +kernel
theorem rt116 : pm_rt 116 = none := by decide +kernel
theorem hh116 : pm_hh 116 = [] := by decide +kernel
theorem rc116 : pm_cl 7 = (pm_y 116).cls := by decide +kernel
theorem cl116_0 : ([(0, .aload_n 0, 1), (1, .iconst 0, 2), (2, .putfield 28, 5), (5, .aload_n 0, 6), (6, .iconst 0, 7), (7, .putfield 31, 10), (10, .aload_n 0, 11), (11, .iconst 0, 12), (12, .putfield 34, 15), (15, .return_, 16)] : List (Nat × Instr × Nat)).all (fun q => decide (pm_code 116 q.1 = some q.2)) = true := by decide +kernel
theorem c116_0 : pm_code 116 0 = some (.aload_n 0, 1) := pm_of cl116_0 0 (q := (0, .aload_n 0, 1)) rfl
theorem c116_1 : pm_code 116 1 = some (.iconst 0, 2) := pm_of cl116_0 1 (q := (1, .iconst 0, 2)) rfl
theorem c116_2 : pm_code 116 2 = some (.putfield 28, 5) := pm_of cl116_0 2 (q := (2, .putfield 28, 5)) rfl
theorem c116_5 : pm_code 116 5 = some (.aload_n 0, 6) := pm_of cl116_0 3 (q := (5, .aload_n 0, 6)) rfl
theorem c116_6 : pm_code 116 6 = some (.iconst 0, 7) := pm_of cl116_0 4 (q := (6, .iconst 0, 7)) rfl
theorem c116_7 : pm_code 116 7 = some (.putfield 31, 10) := pm_of cl116_0 5 (q := (7, .putfield 31, 10)) rfl
theorem c116_10 : pm_code 116 10 = some (.aload_n 0, 11) := pm_of cl116_0 6 (q := (10, .aload_n 0, 11)) rfl
theorem c116_11 : pm_code 116 11 = some (.iconst 0, 12) := pm_of cl116_0 7 (q := (11, .iconst 0, 12)) rfl
theorem c116_12 : pm_code 116 12 = some (.putfield 34, 15) := pm_of cl116_0 8 (q := (12, .putfield 34, 15)) rfl
theorem c116_15 : pm_code 116 15 = some (.return_, 16) := pm_of cl116_0 9 (q := (15, .return_, 16)) rfl
theorem k117 : pm_k 117 = 7 := by decide +kernel
theorem ml117 : pm_ml 117 = 1 := by decide +kernel
theorem rt117 : pm_rt 117 = (some .int) := by decide +kernel
theorem hh117 : pm_hh 117 = [] := by decide +kernel
theorem rc117 : pm_cl 7 = (pm_y 117).cls := by decide +kernel
theorem cl117_0 : ([(0, .aload_n 0, 1), (1, .getfield 24, 4), (4, .ireturn, 5)] : List (Nat × Instr × Nat)).all (fun q => decide (pm_code 117 q.1 = some q.2)) = true := by decide +kernel
theorem c117_0 : pm_code 117 0 = some (.aload_n 0, 1) := pm_of cl117_0 0 (q := (0, .aload_n 0, 1)) rfl
theorem c117_1 : pm_code 117 1 = some (.getfield 24, 4) := pm_of cl117_0 1 (q := (1, .getfield 24, 4)) rfl
theorem c117_4 : pm_code 117 4 = some (.ireturn, 5) := pm_of cl117_0 2 (q := (4, .ireturn, 5)) rfl
theorem k118 : pm_k 118 = 7 := by decide +kernel
theorem ml118 : pm_ml 118 = 6 := by decide +kernel
theorem rt118 : pm_rt 118 = none := by decide +kernel
theorem hh118 : pm_hh 118 = [] := by decide +kernel
theorem rc118 : pm_cl 7 = (pm_y 118).cls := by decide +kernel
theorem cl118_0 : ([(0, .iload_n 2, 1), (1, .istore 5, 3), (3, .iload 5, 5), (5, .iload_n 3, 6), (6, .if_icmp .ge 120, 9), (9, .aload_n 0, 10), (10, .getfield 28, 13), (13, .sipush 200, 16), (16, .if_icmp .ge 110, 19), (19, .aload_n 0, 20), (20, .dup, 21), (21, .getfield 28, 24), (24, .iconst 1, 25), (25, .iadd, 26), (26, .putfield 28, 29), (29, .aload_n 0, 30), (30, .getfield 9, 33), (33, .iload 5, 35), (35, .invokestatic 83, 38), (38, .bipush 8, 40), (40, .if_icmp .ne 15, 43), (43, .aload_n 0, 44), (44, .aload_n 1, 45), (45, .iload 5, 47), (47, .iload 4, 49), (49, .invokevirtual 117, 52), (52, .goto 60, 55), (55, .aload_n 1, 56), (56, .aload_n 0, 57), (57, .getfield 9, 60), (60, .iload 5, 62), (62, .invokestatic 83, 65), (65, .aload_n 0, 66), (66, .getfield 15, 69), (69, .iload 5, 71), (71, .invokestatic 83, 74), (74, .aload_n 0, 75), (75, .getfield 18, 78), (78, .iload 5, 80), (80, .invokestatic 83, 83)] : List (Nat × Instr × Nat)).all (fun q => decide (pm_code 118 q.1 = some q.2)) = true := by decide +kernel
theorem c118_0 : pm_code 118 0 = some (.iload_n 2, 1) := pm_of cl118_0 0 (q := (0, .iload_n 2, 1)) rfl
theorem c118_1 : pm_code 118 1 = some (.istore 5, 3) := pm_of cl118_0 1 (q := (1, .istore 5, 3)) rfl
theorem c118_3 : pm_code 118 3 = some (.iload 5, 5) := pm_of cl118_0 2 (q := (3, .iload 5, 5)) rfl
theorem c118_5 : pm_code 118 5 = some (.iload_n 3, 6) := pm_of cl118_0 3 (q := (5, .iload_n 3, 6)) rfl
theorem c118_6 : pm_code 118 6 = some (.if_icmp .ge 120, 9) := pm_of cl118_0 4 (q := (6, .if_icmp .ge 120, 9)) rfl
theorem c118_9 : pm_code 118 9 = some (.aload_n 0, 10) := pm_of cl118_0 5 (q := (9, .aload_n 0, 10)) rfl
theorem c118_10 : pm_code 118 10 = some (.getfield 28, 13) := pm_of cl118_0 6 (q := (10, .getfield 28, 13)) rfl
theorem c118_13 : pm_code 118 13 = some (.sipush 200, 16) := pm_of cl118_0 7 (q := (13, .sipush 200, 16)) rfl
theorem c118_16 : pm_code 118 16 = some (.if_icmp .ge 110, 19) := pm_of cl118_0 8 (q := (16, .if_icmp .ge 110, 19)) rfl
theorem c118_19 : pm_code 118 19 = some (.aload_n 0, 20) := pm_of cl118_0 9 (q := (19, .aload_n 0, 20)) rfl
theorem c118_20 : pm_code 118 20 = some (.dup, 21) := pm_of cl118_0 10 (q := (20, .dup, 21)) rfl
theorem c118_21 : pm_code 118 21 = some (.getfield 28, 24) := pm_of cl118_0 11 (q := (21, .getfield 28, 24)) rfl
theorem c118_24 : pm_code 118 24 = some (.iconst 1, 25) := pm_of cl118_0 12 (q := (24, .iconst 1, 25)) rfl
theorem c118_25 : pm_code 118 25 = some (.iadd, 26) := pm_of cl118_0 13 (q := (25, .iadd, 26)) rfl
theorem c118_26 : pm_code 118 26 = some (.putfield 28, 29) := pm_of cl118_0 14 (q := (26, .putfield 28, 29)) rfl
theorem c118_29 : pm_code 118 29 = some (.aload_n 0, 30) := pm_of cl118_0 15 (q := (29, .aload_n 0, 30)) rfl
theorem c118_30 : pm_code 118 30 = some (.getfield 9, 33) := pm_of cl118_0 16 (q := (30, .getfield 9, 33)) rfl
theorem c118_33 : pm_code 118 33 = some (.iload 5, 35) := pm_of cl118_0 17 (q := (33, .iload 5, 35)) rfl
theorem c118_35 : pm_code 118 35 = some (.invokestatic 83, 38) := pm_of cl118_0 18 (q := (35, .invokestatic 83, 38)) rfl
theorem c118_38 : pm_code 118 38 = some (.bipush 8, 40) := pm_of cl118_0 19 (q := (38, .bipush 8, 40)) rfl
theorem c118_40 : pm_code 118 40 = some (.if_icmp .ne 15, 43) := pm_of cl118_0 20 (q := (40, .if_icmp .ne 15, 43)) rfl
theorem c118_43 : pm_code 118 43 = some (.aload_n 0, 44) := pm_of cl118_0 21 (q := (43, .aload_n 0, 44)) rfl
theorem c118_44 : pm_code 118 44 = some (.aload_n 1, 45) := pm_of cl118_0 22 (q := (44, .aload_n 1, 45)) rfl
theorem c118_45 : pm_code 118 45 = some (.iload 5, 47) := pm_of cl118_0 23 (q := (45, .iload 5, 47)) rfl
theorem c118_47 : pm_code 118 47 = some (.iload 4, 49) := pm_of cl118_0 24 (q := (47, .iload 4, 49)) rfl
theorem c118_49 : pm_code 118 49 = some (.invokevirtual 117, 52) := pm_of cl118_0 25 (q := (49, .invokevirtual 117, 52)) rfl
theorem c118_52 : pm_code 118 52 = some (.goto 60, 55) := pm_of cl118_0 26 (q := (52, .goto 60, 55)) rfl
theorem c118_55 : pm_code 118 55 = some (.aload_n 1, 56) := pm_of cl118_0 27 (q := (55, .aload_n 1, 56)) rfl
theorem c118_56 : pm_code 118 56 = some (.aload_n 0, 57) := pm_of cl118_0 28 (q := (56, .aload_n 0, 57)) rfl
theorem c118_57 : pm_code 118 57 = some (.getfield 9, 60) := pm_of cl118_0 29 (q := (57, .getfield 9, 60)) rfl
theorem c118_60 : pm_code 118 60 = some (.iload 5, 62) := pm_of cl118_0 30 (q := (60, .iload 5, 62)) rfl
theorem c118_62 : pm_code 118 62 = some (.invokestatic 83, 65) := pm_of cl118_0 31 (q := (62, .invokestatic 83, 65)) rfl
theorem c118_65 : pm_code 118 65 = some (.aload_n 0, 66) := pm_of cl118_0 32 (q := (65, .aload_n 0, 66)) rfl
theorem c118_66 : pm_code 118 66 = some (.getfield 15, 69) := pm_of cl118_0 33 (q := (66, .getfield 15, 69)) rfl
theorem c118_69 : pm_code 118 69 = some (.iload 5, 71) := pm_of cl118_0 34 (q := (69, .iload 5, 71)) rfl
theorem c118_71 : pm_code 118 71 = some (.invokestatic 83, 74) := pm_of cl118_0 35 (q := (71, .invokestatic 83, 74)) rfl
theorem c118_74 : pm_code 118 74 = some (.aload_n 0, 75) := pm_of cl118_0 36 (q := (74, .aload_n 0, 75)) rfl
theorem c118_75 : pm_code 118 75 = some (.getfield 18, 78) := pm_of cl118_0 37 (q := (75, .getfield 18, 78)) rfl
theorem c118_78 : pm_code 118 78 = some (.iload 5, 80) := pm_of cl118_0 38 (q := (78, .iload 5, 80)) rfl
theorem c118_80 : pm_code 118 80 = some (.invokestatic 83, 83) := pm_of cl118_0 39 (q := (80, .invokestatic 83, 83)) rfl
theorem cl118_1 : ([(83, .invokevirtual 121, 86), (86, .ifCond .eq 16, 89), (89, .aload_n 0, 90), (90, .dup, 91), (91, .getfield 31, 94), (94, .iconst 1, 95), (95, .iadd, 96), (96, .putfield 31, 99), (99, .goto 13, 102), (102, .aload_n 0, 103), (103, .dup, 104), (104, .getfield 34, 107), (107, .iconst 1, 108), (108, .iadd, 109), (109, .putfield 34, 112), (112, .aload_n 0, 113), (113, .getfield 21, 116), (116, .iload 5, 118), (118, .invokestatic 83, 121), (121, .istore 5, 123), (123, .goto (-120), 126), (126, .return_, 127)] : List (Nat × Instr × Nat)).all (fun q => decide (pm_code 118 q.1 = some q.2)) = true := by decide +kernel
theorem c118_83 : pm_code 118 83 = some (.invokevirtual 121, 86) := pm_of cl118_1 0 (q := (83, .invokevirtual 121, 86)) rfl
theorem c118_86 : pm_code 118 86 = some (.ifCond .eq 16, 89) := pm_of cl118_1 1 (q := (86, .ifCond .eq 16, 89)) rfl
theorem c118_89 : pm_code 118 89 = some (.aload_n 0, 90) := pm_of cl118_1 2 (q := (89, .aload_n 0, 90)) rfl
theorem c118_90 : pm_code 118 90 = some (.dup, 91) := pm_of cl118_1 3 (q := (90, .dup, 91)) rfl
theorem c118_91 : pm_code 118 91 = some (.getfield 31, 94) := pm_of cl118_1 4 (q := (91, .getfield 31, 94)) rfl
theorem c118_94 : pm_code 118 94 = some (.iconst 1, 95) := pm_of cl118_1 5 (q := (94, .iconst 1, 95)) rfl
theorem c118_95 : pm_code 118 95 = some (.iadd, 96) := pm_of cl118_1 6 (q := (95, .iadd, 96)) rfl
theorem c118_96 : pm_code 118 96 = some (.putfield 31, 99) := pm_of cl118_1 7 (q := (96, .putfield 31, 99)) rfl
theorem c118_99 : pm_code 118 99 = some (.goto 13, 102) := pm_of cl118_1 8 (q := (99, .goto 13, 102)) rfl
theorem c118_102 : pm_code 118 102 = some (.aload_n 0, 103) := pm_of cl118_1 9 (q := (102, .aload_n 0, 103)) rfl
theorem c118_103 : pm_code 118 103 = some (.dup, 104) := pm_of cl118_1 10 (q := (103, .dup, 104)) rfl
theorem c118_104 : pm_code 118 104 = some (.getfield 34, 107) := pm_of cl118_1 11 (q := (104, .getfield 34, 107)) rfl
theorem c118_107 : pm_code 118 107 = some (.iconst 1, 108) := pm_of cl118_1 12 (q := (107, .iconst 1, 108)) rfl
theorem c118_108 : pm_code 118 108 = some (.iadd, 109) := pm_of cl118_1 13 (q := (108, .iadd, 109)) rfl
theorem c118_109 : pm_code 118 109 = some (.putfield 34, 112) := pm_of cl118_1 14 (q := (109, .putfield 34, 112)) rfl
theorem c118_112 : pm_code 118 112 = some (.aload_n 0, 113) := pm_of cl118_1 15 (q := (112, .aload_n 0, 113)) rfl
theorem c118_113 : pm_code 118 113 = some (.getfield 21, 116) := pm_of cl118_1 16 (q := (113, .getfield 21, 116)) rfl
theorem c118_116 : pm_code 118 116 = some (.iload 5, 118) := pm_of cl118_1 17 (q := (116, .iload 5, 118)) rfl
theorem c118_118 : pm_code 118 118 = some (.invokestatic 83, 121) := pm_of cl118_1 18 (q := (118, .invokestatic 83, 121)) rfl
theorem c118_121 : pm_code 118 121 = some (.istore 5, 123) := pm_of cl118_1 19 (q := (121, .istore 5, 123)) rfl
theorem c118_123 : pm_code 118 123 = some (.goto (-120), 126) := pm_of cl118_1 20 (q := (123, .goto (-120), 126)) rfl
theorem c118_126 : pm_code 118 126 = some (.return_, 127) := pm_of cl118_1 21 (q := (126, .return_, 127)) rfl
theorem k119 : pm_k 119 = 7 := by decide +kernel
theorem ml119 : pm_ml 119 = 5 := by decide +kernel
theorem rt119 : pm_rt 119 = none := by decide +kernel
theorem hh119 : pm_hh 119 = [] := by decide +kernel
theorem rc119 : pm_cl 7 = (pm_y 119).cls := by decide +kernel
theorem cl119_0 : ([(0, .iload_n 3, 1), (1, .bipush 6, 3), (3, .if_icmp .lt 4, 6), (6, .return_, 7), (7, .iconst 0, 8), (8, .istore 4, 10), (10, .iload 4, 12), (12, .aload_n 0, 13), (13, .getfield 18, 16), (16, .iload_n 2, 17), (17, .invokestatic 83, 20), (20, .if_icmp .ge 38, 23), (23, .aload_n 0, 24), (24, .getfield 28, 27), (27, .sipush 200, 30), (30, .if_icmp .ge 28, 33), (33, .aload_n 0, 34), (34, .aload_n 1, 35), (35, .iload_n 2, 36), (36, .iconst 1, 37), (37, .iadd, 38), (38, .aload_n 0, 39), (39, .getfield 21, 42), (42, .iload_n 2, 43), (43, .invokestatic 83, 46), (46, .iload_n 3, 47), (47, .iconst 1, 48), (48, .iadd, 49), (49, .invokevirtual 127, 52), (52, .iinc 4 1, 55), (55, .goto (-45), 58), (58, .return_, 59)] : List (Nat × Instr × Nat)).all (fun q => decide (pm_code 119 q.1 = some q.2)) = true := by decide +kernel
theorem c119_0 : pm_code 119 0 = some (.iload_n 3, 1) := pm_of cl119_0 0 (q := (0, .iload_n 3, 1)) rfl
theorem c119_1 : pm_code 119 1 = some (.bipush 6, 3) := pm_of cl119_0 1 (q := (1, .bipush 6, 3)) rfl
theorem c119_3 : pm_code 119 3 = some (.if_icmp .lt 4, 6) := pm_of cl119_0 2 (q := (3, .if_icmp .lt 4, 6)) rfl
theorem c119_6 : pm_code 119 6 = some (.return_, 7) := pm_of cl119_0 3 (q := (6, .return_, 7)) rfl
theorem c119_7 : pm_code 119 7 = some (.iconst 0, 8) := pm_of cl119_0 4 (q := (7, .iconst 0, 8)) rfl
theorem c119_8 : pm_code 119 8 = some (.istore 4, 10) := pm_of cl119_0 5 (q := (8, .istore 4, 10)) rfl
theorem c119_10 : pm_code 119 10 = some (.iload 4, 12) := pm_of cl119_0 6 (q := (10, .iload 4, 12)) rfl
theorem c119_12 : pm_code 119 12 = some (.aload_n 0, 13) := pm_of cl119_0 7 (q := (12, .aload_n 0, 13)) rfl
theorem c119_13 : pm_code 119 13 = some (.getfield 18, 16) := pm_of cl119_0 8 (q := (13, .getfield 18, 16)) rfl
theorem c119_16 : pm_code 119 16 = some (.iload_n 2, 17) := pm_of cl119_0 9 (q := (16, .iload_n 2, 17)) rfl
theorem c119_17 : pm_code 119 17 = some (.invokestatic 83, 20) := pm_of cl119_0 10 (q := (17, .invokestatic 83, 20)) rfl
theorem c119_20 : pm_code 119 20 = some (.if_icmp .ge 38, 23) := pm_of cl119_0 11 (q := (20, .if_icmp .ge 38, 23)) rfl
theorem c119_23 : pm_code 119 23 = some (.aload_n 0, 24) := pm_of cl119_0 12 (q := (23, .aload_n 0, 24)) rfl
theorem c119_24 : pm_code 119 24 = some (.getfield 28, 27) := pm_of cl119_0 13 (q := (24, .getfield 28, 27)) rfl
theorem c119_27 : pm_code 119 27 = some (.sipush 200, 30) := pm_of cl119_0 14 (q := (27, .sipush 200, 30)) rfl
theorem c119_30 : pm_code 119 30 = some (.if_icmp .ge 28, 33) := pm_of cl119_0 15 (q := (30, .if_icmp .ge 28, 33)) rfl
theorem c119_33 : pm_code 119 33 = some (.aload_n 0, 34) := pm_of cl119_0 16 (q := (33, .aload_n 0, 34)) rfl
theorem c119_34 : pm_code 119 34 = some (.aload_n 1, 35) := pm_of cl119_0 17 (q := (34, .aload_n 1, 35)) rfl
theorem c119_35 : pm_code 119 35 = some (.iload_n 2, 36) := pm_of cl119_0 18 (q := (35, .iload_n 2, 36)) rfl
theorem c119_36 : pm_code 119 36 = some (.iconst 1, 37) := pm_of cl119_0 19 (q := (36, .iconst 1, 37)) rfl
theorem c119_37 : pm_code 119 37 = some (.iadd, 38) := pm_of cl119_0 20 (q := (37, .iadd, 38)) rfl
theorem c119_38 : pm_code 119 38 = some (.aload_n 0, 39) := pm_of cl119_0 21 (q := (38, .aload_n 0, 39)) rfl
theorem c119_39 : pm_code 119 39 = some (.getfield 21, 42) := pm_of cl119_0 22 (q := (39, .getfield 21, 42)) rfl
theorem c119_42 : pm_code 119 42 = some (.iload_n 2, 43) := pm_of cl119_0 23 (q := (42, .iload_n 2, 43)) rfl
theorem c119_43 : pm_code 119 43 = some (.invokestatic 83, 46) := pm_of cl119_0 24 (q := (43, .invokestatic 83, 46)) rfl
theorem c119_46 : pm_code 119 46 = some (.iload_n 3, 47) := pm_of cl119_0 25 (q := (46, .iload_n 3, 47)) rfl
theorem c119_47 : pm_code 119 47 = some (.iconst 1, 48) := pm_of cl119_0 26 (q := (47, .iconst 1, 48)) rfl
theorem c119_48 : pm_code 119 48 = some (.iadd, 49) := pm_of cl119_0 27 (q := (48, .iadd, 49)) rfl
theorem c119_49 : pm_code 119 49 = some (.invokevirtual 127, 52) := pm_of cl119_0 28 (q := (49, .invokevirtual 127, 52)) rfl
theorem c119_52 : pm_code 119 52 = some (.iinc 4 1, 55) := pm_of cl119_0 29 (q := (52, .iinc 4 1, 55)) rfl
theorem c119_55 : pm_code 119 55 = some (.goto (-45), 58) := pm_of cl119_0 30 (q := (55, .goto (-45), 58)) rfl
theorem c119_58 : pm_code 119 58 = some (.return_, 59) := pm_of cl119_0 31 (q := (58, .return_, 59)) rfl
theorem k120 : pm_k 120 = 7 := by decide +kernel
theorem ml120 : pm_ml 120 = 1 := by decide +kernel
theorem rt120 : pm_rt 120 = (some .int) := by decide +kernel
theorem hh120 : pm_hh 120 = [] := by decide +kernel
theorem rc120 : pm_cl 7 = (pm_y 120).cls := by decide +kernel
theorem cl120_0 : ([(0, .aload_n 0, 1), (1, .getfield 34, 4), (4, .ireturn, 5)] : List (Nat × Instr × Nat)).all (fun q => decide (pm_code 120 q.1 = some q.2)) = true := by decide +kernel
theorem c120_0 : pm_code 120 0 = some (.aload_n 0, 1) := pm_of cl120_0 0 (q := (0, .aload_n 0, 1)) rfl
theorem c120_1 : pm_code 120 1 = some (.getfield 34, 4) := pm_of cl120_0 1 (q := (1, .getfield 34, 4)) rfl
theorem c120_4 : pm_code 120 4 = some (.ireturn, 5) := pm_of cl120_0 2 (q := (4, .ireturn, 5)) rfl
theorem k121 : pm_k 121 = 7 := by decide +kernel
theorem ml121 : pm_ml 121 = 1 := by decide +kernel
theorem rt121 : pm_rt 121 = (some .int) := by decide +kernel
theorem hh121 : pm_hh 121 = [] := by decide +kernel
theorem rc121 : pm_cl 7 = (pm_y 121).cls := by decide +kernel
theorem cl121_0 : ([(0, .aload_n 0, 1), (1, .getfield 31, 4), (4, .ireturn, 5)] : List (Nat × Instr × Nat)).all (fun q => decide (pm_code 121 q.1 = some q.2)) = true := by decide +kernel
theorem c121_0 : pm_code 121 0 = some (.aload_n 0, 1) := pm_of cl121_0 0 (q := (0, .aload_n 0, 1)) rfl
theorem c121_1 : pm_code 121 1 = some (.getfield 31, 4) := pm_of cl121_0 1 (q := (1, .getfield 31, 4)) rfl
theorem c121_4 : pm_code 121 4 = some (.ireturn, 5) := pm_of cl121_0 2 (q := (4, .ireturn, 5)) rfl
theorem k122 : pm_k 122 = 8 := by decide +kernel
theorem ml122 : pm_ml 122 = 1 := by decide +kernel
theorem rt122 : pm_rt 122 = none := by decide +kernel
theorem hh122 : pm_hh 122 = [] := by decide +kernel
theorem rc122 : pm_cl 8 = (pm_y 122).cls := by decide +kernel
theorem cl122_0 : ([(0, .aload_n 0, 1), (1, .invokespecial 3, 4), (4, .aload_n 0, 5), (5, .sipush 600, 8), (8, .newarray .int, 10), (10, .putfield 9, 13), (13, .aload_n 0, 14), (14, .iconst 0, 15), (15, .putfield 15, 18), (18, .aload_n 0, 19), (19, .iconst 0, 20), (20, .putfield 19, 23), (23, .aload_n 0, 24), (24, .iconst 1, 25), (25, .putfield 22, 28), (28, .aload_n 0, 29), (29, .iconst 0, 30), (30, .putfield 25, 33), (33, .aload_n 0, 34), (34, .iconst 0, 35), (35, .putfield 28, 38), (38, .aload_n 0, 39), (39, .iconst 0, 40), (40, .putfield 31, 43), (43, .aload_n 0, 44), (44, .iconst 0, 45), (45, .putfield 34, 48), (48, .aload_n 0, 49), (49, .iconst (-1), 50), (50, .putfield 37, 53), (53, .return_, 54)] : List (Nat × Instr × Nat)).all (fun q => decide (pm_code 122 q.1 = some q.2)) = true := by decide +kernel
theorem c122_0 : pm_code 122 0 = some (.aload_n 0, 1) := pm_of cl122_0 0 (q := (0, .aload_n 0, 1)) rfl
theorem c122_1 : pm_code 122 1 = some (.invokespecial 3, 4) := pm_of cl122_0 1 (q := (1, .invokespecial 3, 4)) rfl
theorem c122_4 : pm_code 122 4 = some (.aload_n 0, 5) := pm_of cl122_0 2 (q := (4, .aload_n 0, 5)) rfl
theorem c122_5 : pm_code 122 5 = some (.sipush 600, 8) := pm_of cl122_0 3 (q := (5, .sipush 600, 8)) rfl
theorem c122_8 : pm_code 122 8 = some (.newarray .int, 10) := pm_of cl122_0 4 (q := (8, .newarray .int, 10)) rfl
theorem c122_10 : pm_code 122 10 = some (.putfield 9, 13) := pm_of cl122_0 5 (q := (10, .putfield 9, 13)) rfl
theorem c122_13 : pm_code 122 13 = some (.aload_n 0, 14) := pm_of cl122_0 6 (q := (13, .aload_n 0, 14)) rfl
theorem c122_14 : pm_code 122 14 = some (.iconst 0, 15) := pm_of cl122_0 7 (q := (14, .iconst 0, 15)) rfl
theorem c122_15 : pm_code 122 15 = some (.putfield 15, 18) := pm_of cl122_0 8 (q := (15, .putfield 15, 18)) rfl
theorem c122_18 : pm_code 122 18 = some (.aload_n 0, 19) := pm_of cl122_0 9 (q := (18, .aload_n 0, 19)) rfl
theorem c122_19 : pm_code 122 19 = some (.iconst 0, 20) := pm_of cl122_0 10 (q := (19, .iconst 0, 20)) rfl
theorem c122_20 : pm_code 122 20 = some (.putfield 19, 23) := pm_of cl122_0 11 (q := (20, .putfield 19, 23)) rfl
theorem c122_23 : pm_code 122 23 = some (.aload_n 0, 24) := pm_of cl122_0 12 (q := (23, .aload_n 0, 24)) rfl
theorem c122_24 : pm_code 122 24 = some (.iconst 1, 25) := pm_of cl122_0 13 (q := (24, .iconst 1, 25)) rfl
theorem c122_25 : pm_code 122 25 = some (.putfield 22, 28) := pm_of cl122_0 14 (q := (25, .putfield 22, 28)) rfl
theorem c122_28 : pm_code 122 28 = some (.aload_n 0, 29) := pm_of cl122_0 15 (q := (28, .aload_n 0, 29)) rfl
theorem c122_29 : pm_code 122 29 = some (.iconst 0, 30) := pm_of cl122_0 16 (q := (29, .iconst 0, 30)) rfl
theorem c122_30 : pm_code 122 30 = some (.putfield 25, 33) := pm_of cl122_0 17 (q := (30, .putfield 25, 33)) rfl
theorem c122_33 : pm_code 122 33 = some (.aload_n 0, 34) := pm_of cl122_0 18 (q := (33, .aload_n 0, 34)) rfl
theorem c122_34 : pm_code 122 34 = some (.iconst 0, 35) := pm_of cl122_0 19 (q := (34, .iconst 0, 35)) rfl
theorem c122_35 : pm_code 122 35 = some (.putfield 28, 38) := pm_of cl122_0 20 (q := (35, .putfield 28, 38)) rfl
theorem c122_38 : pm_code 122 38 = some (.aload_n 0, 39) := pm_of cl122_0 21 (q := (38, .aload_n 0, 39)) rfl
theorem c122_39 : pm_code 122 39 = some (.iconst 0, 40) := pm_of cl122_0 22 (q := (39, .iconst 0, 40)) rfl
theorem c122_40 : pm_code 122 40 = some (.putfield 31, 43) := pm_of cl122_0 23 (q := (40, .putfield 31, 43)) rfl
theorem c122_43 : pm_code 122 43 = some (.aload_n 0, 44) := pm_of cl122_0 24 (q := (43, .aload_n 0, 44)) rfl
theorem c122_44 : pm_code 122 44 = some (.iconst 0, 45) := pm_of cl122_0 25 (q := (44, .iconst 0, 45)) rfl
theorem c122_45 : pm_code 122 45 = some (.putfield 34, 48) := pm_of cl122_0 26 (q := (45, .putfield 34, 48)) rfl
theorem c122_48 : pm_code 122 48 = some (.aload_n 0, 49) := pm_of cl122_0 27 (q := (48, .aload_n 0, 49)) rfl
theorem c122_49 : pm_code 122 49 = some (.iconst (-1), 50) := pm_of cl122_0 28 (q := (49, .iconst (-1), 50)) rfl
theorem c122_50 : pm_code 122 50 = some (.putfield 37, 53) := pm_of cl122_0 29 (q := (50, .putfield 37, 53)) rfl
theorem c122_53 : pm_code 122 53 = some (.return_, 54) := pm_of cl122_0 30 (q := (53, .return_, 54)) rfl
theorem k123 : pm_k 123 = 8 := by decide +kernel
theorem ml123 : pm_ml 123 = 1 := by decide +kernel
theorem rt123 : pm_rt 123 = (some .int) := by decide +kernel
theorem hh123 : pm_hh 123 = [] := by decide +kernel
theorem rc123 : pm_cl 8 = (pm_y 123).cls := by decide +kernel
theorem cl123_0 : ([(0, .aload_n 0, 1), (1, .getfield 15, 4), (4, .ireturn, 5)] : List (Nat × Instr × Nat)).all (fun q => decide (pm_code 123 q.1 = some q.2)) = true := by decide +kernel
theorem c123_0 : pm_code 123 0 = some (.aload_n 0, 1) := pm_of cl123_0 0 (q := (0, .aload_n 0, 1)) rfl
theorem c123_1 : pm_code 123 1 = some (.getfield 15, 4) := pm_of cl123_0 1 (q := (1, .getfield 15, 4)) rfl
theorem c123_4 : pm_code 123 4 = some (.ireturn, 5) := pm_of cl123_0 2 (q := (4, .ireturn, 5)) rfl
theorem k124 : pm_k 124 = 8 := by decide +kernel
theorem ml124 : pm_ml 124 = 3 := by decide +kernel
theorem rt124 : pm_rt 124 = none := by decide +kernel
theorem hh124 : pm_hh 124 = [] := by decide +kernel
theorem rc124 : pm_cl 8 = (pm_y 124).cls := by decide +kernel
theorem cl124_0 : ([(0, .bipush 24, 2), (2, .istore_n 2, 3), (3, .iload_n 2, 4), (4, .ifCond .lt 49, 7), (7, .aload_n 0, 8), (8, .getfield 15, 11), (11, .aload_n 0, 12), (12, .getfield 9, 15), (15, .arraylength, 16), (16, .if_icmp .ge 31, 19), (19, .aload_n 0, 20), (20, .getfield 9, 23), (23, .aload_n 0, 24), (24, .getfield 15, 27), (27, .iload_n 1, 28), (28, .iload_n 2, 29), (29, .iushr, 30), (30, .sipush 255, 33), (33, .iand, 34), (34, .invokestatic 40, 37), (37, .aload_n 0, 38), (38, .dup, 39), (39, .getfield 15, 42), (42, .iconst 1, 43), (43, .iadd, 44), (44, .putfield 15, 47), (47, .iinc 2 (-8), 50), (50, .goto (-47), 53), (53, .return_, 54)] : List (Nat × Instr × Nat)).all (fun q => decide (pm_code 124 q.1 = some q.2)) = true := by decide +kernel
theorem c124_0 : pm_code 124 0 = some (.bipush 24, 2) := pm_of cl124_0 0 (q := (0, .bipush 24, 2)) rfl
theorem c124_2 : pm_code 124 2 = some (.istore_n 2, 3) := pm_of cl124_0 1 (q := (2, .istore_n 2, 3)) rfl
theorem c124_3 : pm_code 124 3 = some (.iload_n 2, 4) := pm_of cl124_0 2 (q := (3, .iload_n 2, 4)) rfl
theorem c124_4 : pm_code 124 4 = some (.ifCond .lt 49, 7) := pm_of cl124_0 3 (q := (4, .ifCond .lt 49, 7)) rfl
theorem c124_7 : pm_code 124 7 = some (.aload_n 0, 8) := pm_of cl124_0 4 (q := (7, .aload_n 0, 8)) rfl
theorem c124_8 : pm_code 124 8 = some (.getfield 15, 11) := pm_of cl124_0 5 (q := (8, .getfield 15, 11)) rfl
theorem c124_11 : pm_code 124 11 = some (.aload_n 0, 12) := pm_of cl124_0 6 (q := (11, .aload_n 0, 12)) rfl
theorem c124_12 : pm_code 124 12 = some (.getfield 9, 15) := pm_of cl124_0 7 (q := (12, .getfield 9, 15)) rfl
theorem c124_15 : pm_code 124 15 = some (.arraylength, 16) := pm_of cl124_0 8 (q := (15, .arraylength, 16)) rfl
theorem c124_16 : pm_code 124 16 = some (.if_icmp .ge 31, 19) := pm_of cl124_0 9 (q := (16, .if_icmp .ge 31, 19)) rfl
theorem c124_19 : pm_code 124 19 = some (.aload_n 0, 20) := pm_of cl124_0 10 (q := (19, .aload_n 0, 20)) rfl
theorem c124_20 : pm_code 124 20 = some (.getfield 9, 23) := pm_of cl124_0 11 (q := (20, .getfield 9, 23)) rfl
theorem c124_23 : pm_code 124 23 = some (.aload_n 0, 24) := pm_of cl124_0 12 (q := (23, .aload_n 0, 24)) rfl
theorem c124_24 : pm_code 124 24 = some (.getfield 15, 27) := pm_of cl124_0 13 (q := (24, .getfield 15, 27)) rfl
theorem c124_27 : pm_code 124 27 = some (.iload_n 1, 28) := pm_of cl124_0 14 (q := (27, .iload_n 1, 28)) rfl
theorem c124_28 : pm_code 124 28 = some (.iload_n 2, 29) := pm_of cl124_0 15 (q := (28, .iload_n 2, 29)) rfl
theorem c124_29 : pm_code 124 29 = some (.iushr, 30) := pm_of cl124_0 16 (q := (29, .iushr, 30)) rfl
theorem c124_30 : pm_code 124 30 = some (.sipush 255, 33) := pm_of cl124_0 17 (q := (30, .sipush 255, 33)) rfl
theorem c124_33 : pm_code 124 33 = some (.iand, 34) := pm_of cl124_0 18 (q := (33, .iand, 34)) rfl
theorem c124_34 : pm_code 124 34 = some (.invokestatic 40, 37) := pm_of cl124_0 19 (q := (34, .invokestatic 40, 37)) rfl
theorem c124_37 : pm_code 124 37 = some (.aload_n 0, 38) := pm_of cl124_0 20 (q := (37, .aload_n 0, 38)) rfl
theorem c124_38 : pm_code 124 38 = some (.dup, 39) := pm_of cl124_0 21 (q := (38, .dup, 39)) rfl
theorem c124_39 : pm_code 124 39 = some (.getfield 15, 42) := pm_of cl124_0 22 (q := (39, .getfield 15, 42)) rfl
theorem c124_42 : pm_code 124 42 = some (.iconst 1, 43) := pm_of cl124_0 23 (q := (42, .iconst 1, 43)) rfl
theorem c124_43 : pm_code 124 43 = some (.iadd, 44) := pm_of cl124_0 24 (q := (43, .iadd, 44)) rfl
theorem c124_44 : pm_code 124 44 = some (.putfield 15, 47) := pm_of cl124_0 25 (q := (44, .putfield 15, 47)) rfl
theorem c124_47 : pm_code 124 47 = some (.iinc 2 (-8), 50) := pm_of cl124_0 26 (q := (47, .iinc 2 (-8), 50)) rfl
theorem c124_50 : pm_code 124 50 = some (.goto (-47), 53) := pm_of cl124_0 27 (q := (50, .goto (-47), 53)) rfl
theorem c124_53 : pm_code 124 53 = some (.return_, 54) := pm_of cl124_0 28 (q := (53, .return_, 54)) rfl
theorem k125 : pm_k 125 = 8 := by decide +kernel
theorem ml125 : pm_ml 125 = 1 := by decide +kernel
theorem rt125 : pm_rt 125 = (some .int) := by decide +kernel
theorem hh125 : pm_hh 125 = [] := by decide +kernel
theorem rc125 : pm_cl 8 = (pm_y 125).cls := by decide +kernel
theorem cl125_0 : ([(0, .aload_n 0, 1), (1, .getfield 37, 4), (4, .ireturn, 5)] : List (Nat × Instr × Nat)).all (fun q => decide (pm_code 125 q.1 = some q.2)) = true := by decide +kernel
theorem c125_0 : pm_code 125 0 = some (.aload_n 0, 1) := pm_of cl125_0 0 (q := (0, .aload_n 0, 1)) rfl
theorem c125_1 : pm_code 125 1 = some (.getfield 37, 4) := pm_of cl125_0 1 (q := (1, .getfield 37, 4)) rfl
theorem c125_4 : pm_code 125 4 = some (.ireturn, 5) := pm_of cl125_0 2 (q := (4, .ireturn, 5)) rfl
theorem k126 : pm_k 126 = 8 := by decide +kernel
theorem ml126 : pm_ml 126 = 2 := by decide +kernel
theorem rt126 : pm_rt 126 = none := by decide +kernel
theorem hh126 : pm_hh 126 = [] := by decide +kernel
theorem rc126 : pm_cl 8 = (pm_y 126).cls := by decide +kernel
theorem cl126_0 : ([(0, .aload_n 0, 1), (1, .invokevirtual 44, 4), (4, .aload_n 0, 5), (5, .iload_n 1, 6), (6, .aload_n 0, 7), (7, .getfield 15, 10), (10, .invokestatic 47, 13), (13, .putfield 19, 16), (16, .aload_n 0, 17), (17, .iconst 0, 18), (18, .putfield 28, 21), (21, .aload_n 0, 22), (22, .invokevirtual 53, 25), (25, .return_, 26)] : List (Nat × Instr × Nat)).all (fun q => decide (pm_code 126 q.1 = some q.2)) = true := by decide +kernel
theorem c126_0 : pm_code 126 0 = some (.aload_n 0, 1) := pm_of cl126_0 0 (q := (0, .aload_n 0, 1)) rfl
theorem c126_1 : pm_code 126 1 = some (.invokevirtual 44, 4) := pm_of cl126_0 1 (q := (1, .invokevirtual 44, 4)) rfl
theorem c126_4 : pm_code 126 4 = some (.aload_n 0, 5) := pm_of cl126_0 2 (q := (4, .aload_n 0, 5)) rfl
theorem c126_5 : pm_code 126 5 = some (.iload_n 1, 6) := pm_of cl126_0 3 (q := (5, .iload_n 1, 6)) rfl
theorem c126_6 : pm_code 126 6 = some (.aload_n 0, 7) := pm_of cl126_0 4 (q := (6, .aload_n 0, 7)) rfl
theorem c126_7 : pm_code 126 7 = some (.getfield 15, 10) := pm_of cl126_0 5 (q := (7, .getfield 15, 10)) rfl
theorem c126_10 : pm_code 126 10 = some (.invokestatic 47, 13) := pm_of cl126_0 6 (q := (10, .invokestatic 47, 13)) rfl
theorem c126_13 : pm_code 126 13 = some (.putfield 19, 16) := pm_of cl126_0 7 (q := (13, .putfield 19, 16)) rfl
theorem c126_16 : pm_code 126 16 = some (.aload_n 0, 17) := pm_of cl126_0 8 (q := (16, .aload_n 0, 17)) rfl
theorem c126_17 : pm_code 126 17 = some (.iconst 0, 18) := pm_of cl126_0 9 (q := (17, .iconst 0, 18)) rfl
theorem c126_18 : pm_code 126 18 = some (.putfield 28, 21) := pm_of cl126_0 10 (q := (18, .putfield 28, 21)) rfl
theorem c126_21 : pm_code 126 21 = some (.aload_n 0, 22) := pm_of cl126_0 11 (q := (21, .aload_n 0, 22)) rfl
theorem c126_22 : pm_code 126 22 = some (.invokevirtual 53, 25) := pm_of cl126_0 12 (q := (22, .invokevirtual 53, 25)) rfl
theorem c126_25 : pm_code 126 25 = some (.return_, 26) := pm_of cl126_0 13 (q := (25, .return_, 26)) rfl
theorem k127 : pm_k 127 = 8 := by decide +kernel
theorem ml127 : pm_ml 127 = 1 := by decide +kernel
theorem rt127 : pm_rt 127 = none := by decide +kernel
theorem hh127 : pm_hh 127 = [] := by decide +kernel
theorem rc127 : pm_cl 8 = (pm_y 127).cls := by decide +kernel
theorem cl127_0 : ([(0, .aload_n 0, 1), (1, .iconst 0, 2), (2, .putfield 34, 5), (5, .aload_n 0, 6), (6, .iconst (-1), 7), (7, .putfield 37, 10), (10, .return_, 11)] : List (Nat × Instr × Nat)).all (fun q => decide (pm_code 127 q.1 = some q.2)) = true := by decide +kernel
theorem c127_0 : pm_code 127 0 = some (.aload_n 0, 1) := pm_of cl127_0 0 (q := (0, .aload_n 0, 1)) rfl
theorem c127_1 : pm_code 127 1 = some (.iconst 0, 2) := pm_of cl127_0 1 (q := (1, .iconst 0, 2)) rfl
theorem c127_2 : pm_code 127 2 = some (.putfield 34, 5) := pm_of cl127_0 2 (q := (2, .putfield 34, 5)) rfl
theorem c127_5 : pm_code 127 5 = some (.aload_n 0, 6) := pm_of cl127_0 3 (q := (5, .aload_n 0, 6)) rfl
theorem c127_6 : pm_code 127 6 = some (.iconst (-1), 7) := pm_of cl127_0 4 (q := (6, .iconst (-1), 7)) rfl
theorem c127_7 : pm_code 127 7 = some (.putfield 37, 10) := pm_of cl127_0 5 (q := (7, .putfield 37, 10)) rfl
theorem c127_10 : pm_code 127 10 = some (.return_, 11) := pm_of cl127_0 6 (q := (10, .return_, 11)) rfl
theorem k128 : pm_k 128 = 8 := by decide +kernel
theorem ml128 : pm_ml 128 = 3 := by decide +kernel
theorem rt128 : pm_rt 128 = none := by decide +kernel
theorem hh128 : pm_hh 128 = [] := by decide +kernel
theorem rc128 : pm_cl 8 = (pm_y 128).cls := by decide +kernel
theorem cl128_0 : ([(0, .aload_n 0, 1), (1, .aload_n 0, 2), (2, .getfield 28, 5), (5, .putfield 25, 8), (8, .iconst 0, 9), (9, .istore_n 1, 10), (10, .iload_n 1, 11), (11, .sipush 600, 14), (14, .if_icmp .ge 32, 17), (17, .aload_n 0, 18), (18, .aload_n 0, 19), (19, .getfield 25, 22), (22, .invokevirtual 56, 25), (25, .bipush 32, 27), (27, .if_icmp .ne 19, 30), (30, .aload_n 0, 31), (31, .dup, 32), (32, .getfield 25, 35), (35, .iconst 1, 36), (36, .iadd, 37), (37, .putfield 25, 40), (40, .iinc 1 1, 43), (43, .goto (-33), 46), (46, .aload_n 0, 47), (47, .aload_n 0, 48), (48, .aload_n 0, 49), (49, .getfield 25, 52), (52, .invokevirtual 60, 55), (55, .putfield 22, 58), (58, .aload_n 0, 59), (59, .aload_n 0, 60), (60, .getfield 22, 63), (63, .iconst 4, 64), (64, .if_icmp .ne 12, 67), (67, .aload_n 0, 68), (68, .getfield 25, 71), (71, .iconst 1, 72), (72, .iadd, 73), (73, .goto 7, 76), (76, .aload_n 0, 77)] : List (Nat × Instr × Nat)).all (fun q => decide (pm_code 128 q.1 = some q.2)) = true := by decide +kernel
theorem c128_0 : pm_code 128 0 = some (.aload_n 0, 1) := pm_of cl128_0 0 (q := (0, .aload_n 0, 1)) rfl
theorem c128_1 : pm_code 128 1 = some (.aload_n 0, 2) := pm_of cl128_0 1 (q := (1, .aload_n 0, 2)) rfl
theorem c128_2 : pm_code 128 2 = some (.getfield 28, 5) := pm_of cl128_0 2 (q := (2, .getfield 28, 5)) rfl
theorem c128_5 : pm_code 128 5 = some (.putfield 25, 8) := pm_of cl128_0 3 (q := (5, .putfield 25, 8)) rfl
theorem c128_8 : pm_code 128 8 = some (.iconst 0, 9) := pm_of cl128_0 4 (q := (8, .iconst 0, 9)) rfl
theorem c128_9 : pm_code 128 9 = some (.istore_n 1, 10) := pm_of cl128_0 5 (q := (9, .istore_n 1, 10)) rfl
theorem c128_10 : pm_code 128 10 = some (.iload_n 1, 11) := pm_of cl128_0 6 (q := (10, .iload_n 1, 11)) rfl
theorem c128_11 : pm_code 128 11 = some (.sipush 600, 14) := pm_of cl128_0 7 (q := (11, .sipush 600, 14)) rfl
theorem c128_14 : pm_code 128 14 = some (.if_icmp .ge 32, 17) := pm_of cl128_0 8 (q := (14, .if_icmp .ge 32, 17)) rfl
theorem c128_17 : pm_code 128 17 = some (.aload_n 0, 18) := pm_of cl128_0 9 (q := (17, .aload_n 0, 18)) rfl
theorem c128_18 : pm_code 128 18 = some (.aload_n 0, 19) := pm_of cl128_0 10 (q := (18, .aload_n 0, 19)) rfl
theorem c128_19 : pm_code 128 19 = some (.getfield 25, 22) := pm_of cl128_0 11 (q := (19, .getfield 25, 22)) rfl
theorem c128_22 : pm_code 128 22 = some (.invokevirtual 56, 25) := pm_of cl128_0 12 (q := (22, .invokevirtual 56, 25)) rfl
theorem c128_25 : pm_code 128 25 = some (.bipush 32, 27) := pm_of cl128_0 13 (q := (25, .bipush 32, 27)) rfl
theorem c128_27 : pm_code 128 27 = some (.if_icmp .ne 19, 30) := pm_of cl128_0 14 (q := (27, .if_icmp .ne 19, 30)) rfl
theorem c128_30 : pm_code 128 30 = some (.aload_n 0, 31) := pm_of cl128_0 15 (q := (30, .aload_n 0, 31)) rfl
theorem c128_31 : pm_code 128 31 = some (.dup, 32) := pm_of cl128_0 16 (q := (31, .dup, 32)) rfl
theorem c128_32 : pm_code 128 32 = some (.getfield 25, 35) := pm_of cl128_0 17 (q := (32, .getfield 25, 35)) rfl
theorem c128_35 : pm_code 128 35 = some (.iconst 1, 36) := pm_of cl128_0 18 (q := (35, .iconst 1, 36)) rfl
theorem c128_36 : pm_code 128 36 = some (.iadd, 37) := pm_of cl128_0 19 (q := (36, .iadd, 37)) rfl
theorem c128_37 : pm_code 128 37 = some (.putfield 25, 40) := pm_of cl128_0 20 (q := (37, .putfield 25, 40)) rfl
theorem c128_40 : pm_code 128 40 = some (.iinc 1 1, 43) := pm_of cl128_0 21 (q := (40, .iinc 1 1, 43)) rfl
theorem c128_43 : pm_code 128 43 = some (.goto (-33), 46) := pm_of cl128_0 22 (q := (43, .goto (-33), 46)) rfl
theorem c128_46 : pm_code 128 46 = some (.aload_n 0, 47) := pm_of cl128_0 23 (q := (46, .aload_n 0, 47)) rfl
theorem c128_47 : pm_code 128 47 = some (.aload_n 0, 48) := pm_of cl128_0 24 (q := (47, .aload_n 0, 48)) rfl
theorem c128_48 : pm_code 128 48 = some (.aload_n 0, 49) := pm_of cl128_0 25 (q := (48, .aload_n 0, 49)) rfl
theorem c128_49 : pm_code 128 49 = some (.getfield 25, 52) := pm_of cl128_0 26 (q := (49, .getfield 25, 52)) rfl
theorem c128_52 : pm_code 128 52 = some (.invokevirtual 60, 55) := pm_of cl128_0 27 (q := (52, .invokevirtual 60, 55)) rfl
theorem c128_55 : pm_code 128 55 = some (.putfield 22, 58) := pm_of cl128_0 28 (q := (55, .putfield 22, 58)) rfl
theorem c128_58 : pm_code 128 58 = some (.aload_n 0, 59) := pm_of cl128_0 29 (q := (58, .aload_n 0, 59)) rfl
theorem c128_59 : pm_code 128 59 = some (.aload_n 0, 60) := pm_of cl128_0 30 (q := (59, .aload_n 0, 60)) rfl
theorem c128_60 : pm_code 128 60 = some (.getfield 22, 63) := pm_of cl128_0 31 (q := (60, .getfield 22, 63)) rfl
theorem c128_63 : pm_code 128 63 = some (.iconst 4, 64) := pm_of cl128_0 32 (q := (63, .iconst 4, 64)) rfl
theorem c128_64 : pm_code 128 64 = some (.if_icmp .ne 12, 67) := pm_of cl128_0 33 (q := (64, .if_icmp .ne 12, 67)) rfl
theorem c128_67 : pm_code 128 67 = some (.aload_n 0, 68) := pm_of cl128_0 34 (q := (67, .aload_n 0, 68)) rfl
theorem c128_68 : pm_code 128 68 = some (.getfield 25, 71) := pm_of cl128_0 35 (q := (68, .getfield 25, 71)) rfl
theorem c128_71 : pm_code 128 71 = some (.iconst 1, 72) := pm_of cl128_0 36 (q := (71, .iconst 1, 72)) rfl
theorem c128_72 : pm_code 128 72 = some (.iadd, 73) := pm_of cl128_0 37 (q := (72, .iadd, 73)) rfl
theorem c128_73 : pm_code 128 73 = some (.goto 7, 76) := pm_of cl128_0 38 (q := (73, .goto 7, 76)) rfl
theorem c128_76 : pm_code 128 76 = some (.aload_n 0, 77) := pm_of cl128_0 39 (q := (76, .aload_n 0, 77)) rfl
theorem cl128_1 : ([(77, .getfield 25, 80), (80, .putfield 28, 83), (83, .aload_n 0, 84), (84, .iconst 0, 85), (85, .putfield 31, 88), (88, .aload_n 0, 89), (89, .getfield 22, 92), (92, .iconst 2, 93), (93, .if_icmp .eq 11, 96), (96, .aload_n 0, 97), (97, .getfield 22, 100), (100, .iconst 3, 101), (101, .if_icmp .ne 7, 104), (104, .iconst 1, 105), (105, .goto 4, 108), (108, .iconst 0, 109), (109, .istore_n 1, 110), (110, .iconst 0, 111), (111, .istore_n 2, 112), (112, .iload_n 2, 113), (113, .sipush 600, 116), (116, .if_icmp .ge 74, 119), (119, .iload_n 1, 120), (120, .ifCond .eq 70, 123), (123, .aload_n 0, 124), (124, .aload_n 0, 125), (125, .getfield 28, 128), (128, .invokevirtual 60, 131), (131, .aload_n 0, 132), (132, .getfield 22, 135), (135, .if_icmp .ne 55, 138), (138, .aload_n 0, 139), (139, .getfield 22, 142), (142, .iconst 2, 143), (143, .if_icmp .ne 31, 146), (146, .aload_n 0, 147), (147, .ldc 63, 149), (149, .aload_n 0, 150), (150, .getfield 31, 153), (153, .bipush 10, 155)] : List (Nat × Instr × Nat)).all (fun q => decide (pm_code 128 q.1 = some q.2)) = true := by decide +kernel
theorem c128_77 : pm_code 128 77 = some (.getfield 25, 80) := pm_of cl128_1 0 (q := (77, .getfield 25, 80)) rfl
theorem c128_80 : pm_code 128 80 = some (.putfield 28, 83) := pm_of cl128_1 1 (q := (80, .putfield 28, 83)) rfl
theorem c128_83 : pm_code 128 83 = some (.aload_n 0, 84) := pm_of cl128_1 2 (q := (83, .aload_n 0, 84)) rfl
theorem c128_84 : pm_code 128 84 = some (.iconst 0, 85) := pm_of cl128_1 3 (q := (84, .iconst 0, 85)) rfl
theorem c128_85 : pm_code 128 85 = some (.putfield 31, 88) := pm_of cl128_1 4 (q := (85, .putfield 31, 88)) rfl
theorem c128_88 : pm_code 128 88 = some (.aload_n 0, 89) := pm_of cl128_1 5 (q := (88, .aload_n 0, 89)) rfl
theorem c128_89 : pm_code 128 89 = some (.getfield 22, 92) := pm_of cl128_1 6 (q := (89, .getfield 22, 92)) rfl
theorem c128_92 : pm_code 128 92 = some (.iconst 2, 93) := pm_of cl128_1 7 (q := (92, .iconst 2, 93)) rfl
theorem c128_93 : pm_code 128 93 = some (.if_icmp .eq 11, 96) := pm_of cl128_1 8 (q := (93, .if_icmp .eq 11, 96)) rfl
theorem c128_96 : pm_code 128 96 = some (.aload_n 0, 97) := pm_of cl128_1 9 (q := (96, .aload_n 0, 97)) rfl
theorem c128_97 : pm_code 128 97 = some (.getfield 22, 100) := pm_of cl128_1 10 (q := (97, .getfield 22, 100)) rfl
theorem c128_100 : pm_code 128 100 = some (.iconst 3, 101) := pm_of cl128_1 11 (q := (100, .iconst 3, 101)) rfl
theorem c128_101 : pm_code 128 101 = some (.if_icmp .ne 7, 104) := pm_of cl128_1 12 (q := (101, .if_icmp .ne 7, 104)) rfl
theorem c128_104 : pm_code 128 104 = some (.iconst 1, 105) := pm_of cl128_1 13 (q := (104, .iconst 1, 105)) rfl
theorem c128_105 : pm_code 128 105 = some (.goto 4, 108) := pm_of cl128_1 14 (q := (105, .goto 4, 108)) rfl
theorem c128_108 : pm_code 128 108 = some (.iconst 0, 109) := pm_of cl128_1 15 (q := (108, .iconst 0, 109)) rfl
theorem c128_109 : pm_code 128 109 = some (.istore_n 1, 110) := pm_of cl128_1 16 (q := (109, .istore_n 1, 110)) rfl
theorem c128_110 : pm_code 128 110 = some (.iconst 0, 111) := pm_of cl128_1 17 (q := (110, .iconst 0, 111)) rfl
theorem c128_111 : pm_code 128 111 = some (.istore_n 2, 112) := pm_of cl128_1 18 (q := (111, .istore_n 2, 112)) rfl
theorem c128_112 : pm_code 128 112 = some (.iload_n 2, 113) := pm_of cl128_1 19 (q := (112, .iload_n 2, 113)) rfl
theorem c128_113 : pm_code 128 113 = some (.sipush 600, 116) := pm_of cl128_1 20 (q := (113, .sipush 600, 116)) rfl
theorem c128_116 : pm_code 128 116 = some (.if_icmp .ge 74, 119) := pm_of cl128_1 21 (q := (116, .if_icmp .ge 74, 119)) rfl
theorem c128_119 : pm_code 128 119 = some (.iload_n 1, 120) := pm_of cl128_1 22 (q := (119, .iload_n 1, 120)) rfl
theorem c128_120 : pm_code 128 120 = some (.ifCond .eq 70, 123) := pm_of cl128_1 23 (q := (120, .ifCond .eq 70, 123)) rfl
theorem c128_123 : pm_code 128 123 = some (.aload_n 0, 124) := pm_of cl128_1 24 (q := (123, .aload_n 0, 124)) rfl
theorem c128_124 : pm_code 128 124 = some (.aload_n 0, 125) := pm_of cl128_1 25 (q := (124, .aload_n 0, 125)) rfl
theorem c128_125 : pm_code 128 125 = some (.getfield 28, 128) := pm_of cl128_1 26 (q := (125, .getfield 28, 128)) rfl
theorem c128_128 : pm_code 128 128 = some (.invokevirtual 60, 131) := pm_of cl128_1 27 (q := (128, .invokevirtual 60, 131)) rfl
theorem c128_131 : pm_code 128 131 = some (.aload_n 0, 132) := pm_of cl128_1 28 (q := (131, .aload_n 0, 132)) rfl
theorem c128_132 : pm_code 128 132 = some (.getfield 22, 135) := pm_of cl128_1 29 (q := (132, .getfield 22, 135)) rfl
theorem c128_135 : pm_code 128 135 = some (.if_icmp .ne 55, 138) := pm_of cl128_1 30 (q := (135, .if_icmp .ne 55, 138)) rfl
theorem c128_138 : pm_code 128 138 = some (.aload_n 0, 139) := pm_of cl128_1 31 (q := (138, .aload_n 0, 139)) rfl
theorem c128_139 : pm_code 128 139 = some (.getfield 22, 142) := pm_of cl128_1 32 (q := (139, .getfield 22, 142)) rfl
theorem c128_142 : pm_code 128 142 = some (.iconst 2, 143) := pm_of cl128_1 33 (q := (142, .iconst 2, 143)) rfl
theorem c128_143 : pm_code 128 143 = some (.if_icmp .ne 31, 146) := pm_of cl128_1 34 (q := (143, .if_icmp .ne 31, 146)) rfl
theorem c128_146 : pm_code 128 146 = some (.aload_n 0, 147) := pm_of cl128_1 35 (q := (146, .aload_n 0, 147)) rfl
theorem c128_147 : pm_code 128 147 = some (.ldc 63, 149) := pm_of cl128_1 36 (q := (147, .ldc 63, 149)) rfl
theorem c128_149 : pm_code 128 149 = some (.aload_n 0, 150) := pm_of cl128_1 37 (q := (149, .aload_n 0, 150)) rfl
theorem c128_150 : pm_code 128 150 = some (.getfield 31, 153) := pm_of cl128_1 38 (q := (150, .getfield 31, 153)) rfl
theorem c128_153 : pm_code 128 153 = some (.bipush 10, 155) := pm_of cl128_1 39 (q := (153, .bipush 10, 155)) rfl
theorem cl128_2 : ([(155, .imul, 156), (156, .aload_n 0, 157), (157, .aload_n 0, 158), (158, .getfield 28, 161), (161, .invokevirtual 56, 164), (164, .iadd, 165), (165, .bipush 48, 167), (167, .isub, 168), (168, .invokestatic 47, 171), (171, .putfield 31, 174), (174, .aload_n 0, 175), (175, .dup, 176), (176, .getfield 28, 179), (179, .iconst 1, 180), (180, .iadd, 181), (181, .putfield 28, 184), (184, .iinc 2 1, 187), (187, .goto (-75), 190), (190, .return_, 191)] : List (Nat × Instr × Nat)).all (fun q => decide (pm_code 128 q.1 = some q.2)) = true := by decide +kernel
theorem c128_155 : pm_code 128 155 = some (.imul, 156) := pm_of cl128_2 0 (q := (155, .imul, 156)) rfl
theorem c128_156 : pm_code 128 156 = some (.aload_n 0, 157) := pm_of cl128_2 1 (q := (156, .aload_n 0, 157)) rfl
theorem c128_157 : pm_code 128 157 = some (.aload_n 0, 158) := pm_of cl128_2 2 (q := (157, .aload_n 0, 158)) rfl
theorem c128_158 : pm_code 128 158 = some (.getfield 28, 161) := pm_of cl128_2 3 (q := (158, .getfield 28, 161)) rfl
theorem c128_161 : pm_code 128 161 = some (.invokevirtual 56, 164) := pm_of cl128_2 4 (q := (161, .invokevirtual 56, 164)) rfl
theorem c128_164 : pm_code 128 164 = some (.iadd, 165) := pm_of cl128_2 5 (q := (164, .iadd, 165)) rfl
theorem c128_165 : pm_code 128 165 = some (.bipush 48, 167) := pm_of cl128_2 6 (q := (165, .bipush 48, 167)) rfl
theorem c128_167 : pm_code 128 167 = some (.isub, 168) := pm_of cl128_2 7 (q := (167, .isub, 168)) rfl
theorem c128_168 : pm_code 128 168 = some (.invokestatic 47, 171) := pm_of cl128_2 8 (q := (168, .invokestatic 47, 171)) rfl
theorem c128_171 : pm_code 128 171 = some (.putfield 31, 174) := pm_of cl128_2 9 (q := (171, .putfield 31, 174)) rfl
theorem c128_174 : pm_code 128 174 = some (.aload_n 0, 175) := pm_of cl128_2 10 (q := (174, .aload_n 0, 175)) rfl
theorem c128_175 : pm_code 128 175 = some (.dup, 176) := pm_of cl128_2 11 (q := (175, .dup, 176)) rfl
theorem c128_176 : pm_code 128 176 = some (.getfield 28, 179) := pm_of cl128_2 12 (q := (176, .getfield 28, 179)) rfl
theorem c128_179 : pm_code 128 179 = some (.iconst 1, 180) := pm_of cl128_2 13 (q := (179, .iconst 1, 180)) rfl
theorem c128_180 : pm_code 128 180 = some (.iadd, 181) := pm_of cl128_2 14 (q := (180, .iadd, 181)) rfl
theorem c128_181 : pm_code 128 181 = some (.putfield 28, 184) := pm_of cl128_2 15 (q := (181, .putfield 28, 184)) rfl
theorem c128_184 : pm_code 128 184 = some (.iinc 2 1, 187) := pm_of cl128_2 16 (q := (184, .iinc 2 1, 187)) rfl
theorem c128_187 : pm_code 128 187 = some (.goto (-75), 190) := pm_of cl128_2 17 (q := (187, .goto (-75), 190)) rfl
theorem c128_190 : pm_code 128 190 = some (.return_, 191) := pm_of cl128_2 18 (q := (190, .return_, 191)) rfl
theorem k129 : pm_k 129 = 8 := by decide +kernel
theorem ml129 : pm_ml 129 = 2 := by decide +kernel
theorem rt129 : pm_rt 129 = (some .int) := by decide +kernel
theorem hh129 : pm_hh 129 = [] := by decide +kernel
theorem rc129 : pm_cl 8 = (pm_y 129).cls := by decide +kernel
theorem cl129_0 : ([(0, .iload_n 1, 1), (1, .ifCond .lt 29, 4), (4, .iload_n 1, 5), (5, .aload_n 0, 6), (6, .getfield 19, 9), (9, .if_icmp .ge 21, 12), (12, .iload_n 1, 13), (13, .aload_n 0, 14), (14, .getfield 9, 17), (17, .arraylength, 18), (18, .if_icmp .ge 12, 21), (21, .aload_n 0, 22), (22, .getfield 9, 25), (25, .iload_n 1, 26), (26, .iaload, 27), (27, .goto 4, 30), (30, .iconst (-1), 31), (31, .ireturn, 32)] : List (Nat × Instr × Nat)).all (fun q => decide (pm_code 129 q.1 = some q.2)) = true := by decide +kernel
theorem c129_0 : pm_code 129 0 = some (.iload_n 1, 1) := pm_of cl129_0 0 (q := (0, .iload_n 1, 1)) rfl
theorem c129_1 : pm_code 129 1 = some (.ifCond .lt 29, 4) := pm_of cl129_0 1 (q := (1, .ifCond .lt 29, 4)) rfl
theorem c129_4 : pm_code 129 4 = some (.iload_n 1, 5) := pm_of cl129_0 2 (q := (4, .iload_n 1, 5)) rfl
theorem c129_5 : pm_code 129 5 = some (.aload_n 0, 6) := pm_of cl129_0 3 (q := (5, .aload_n 0, 6)) rfl
theorem c129_6 : pm_code 129 6 = some (.getfield 19, 9) := pm_of cl129_0 4 (q := (6, .getfield 19, 9)) rfl
theorem c129_9 : pm_code 129 9 = some (.if_icmp .ge 21, 12) := pm_of cl129_0 5 (q := (9, .if_icmp .ge 21, 12)) rfl
theorem c129_12 : pm_code 129 12 = some (.iload_n 1, 13) := pm_of cl129_0 6 (q := (12, .iload_n 1, 13)) rfl
theorem c129_13 : pm_code 129 13 = some (.aload_n 0, 14) := pm_of cl129_0 7 (q := (13, .aload_n 0, 14)) rfl
theorem c129_14 : pm_code 129 14 = some (.getfield 9, 17) := pm_of cl129_0 8 (q := (14, .getfield 9, 17)) rfl
theorem c129_17 : pm_code 129 17 = some (.arraylength, 18) := pm_of cl129_0 9 (q := (17, .arraylength, 18)) rfl
theorem c129_18 : pm_code 129 18 = some (.if_icmp .ge 12, 21) := pm_of cl129_0 10 (q := (18, .if_icmp .ge 12, 21)) rfl
theorem c129_21 : pm_code 129 21 = some (.aload_n 0, 22) := pm_of cl129_0 11 (q := (21, .aload_n 0, 22)) rfl
theorem c129_22 : pm_code 129 22 = some (.getfield 9, 25) := pm_of cl129_0 12 (q := (22, .getfield 9, 25)) rfl
theorem c129_25 : pm_code 129 25 = some (.iload_n 1, 26) := pm_of cl129_0 13 (q := (25, .iload_n 1, 26)) rfl
theorem c129_26 : pm_code 129 26 = some (.iaload, 27) := pm_of cl129_0 14 (q := (26, .iaload, 27)) rfl
theorem c129_27 : pm_code 129 27 = some (.goto 4, 30) := pm_of cl129_0 15 (q := (27, .goto 4, 30)) rfl
theorem c129_30 : pm_code 129 30 = some (.iconst (-1), 31) := pm_of cl129_0 16 (q := (30, .iconst (-1), 31)) rfl
theorem c129_31 : pm_code 129 31 = some (.ireturn, 32) := pm_of cl129_0 17 (q := (31, .ireturn, 32)) rfl
theorem k130 : pm_k 130 = 8 := by decide +kernel
theorem ml130 : pm_ml 130 = 3 := by decide +kernel
theorem rt130 : pm_rt 130 = (some .int) := by decide +kernel
theorem hh130 : pm_hh 130 = [] := by decide +kernel
theorem rc130 : pm_cl 8 = (pm_y 130).cls := by decide +kernel
theorem cl130_0 : ([(0, .iload_n 1, 1), (1, .ifCond .lt 20, 4), (4, .iload_n 1, 5), (5, .aload_n 0, 6), (6, .getfield 19, 9), (9, .if_icmp .ge 12, 12), (12, .iload_n 1, 13), (13, .aload_n 0, 14), (14, .getfield 9, 17), (17, .arraylength, 18), (18, .if_icmp .lt 5, 21), (21, .iconst 1, 22), (22, .ireturn, 23), (23, .aload_n 0, 24), (24, .getfield 9, 27), (27, .iload_n 1, 28), (28, .iaload, 29), (29, .istore_n 2, 30), (30, .iload_n 2, 31), (31, .bipush 48, 33), (33, .if_icmp .lt 11, 36), (36, .iload_n 2, 37), (37, .bipush 57, 39), (39, .if_icmp .gt 5, 42), (42, .iconst 2, 43), (43, .ireturn, 44), (44, .iload_n 2, 45), (45, .bipush 97, 47), (47, .if_icmp .lt 13, 50), (50, .iload_n 2, 51), (51, .bipush 122, 53), (53, .if_icmp .gt 7, 56), (56, .iconst 3, 57), (57, .goto 4, 60), (60, .iconst 4, 61), (61, .ireturn, 62)] : List (Nat × Instr × Nat)).all (fun q => decide (pm_code 130 q.1 = some q.2)) = true := by decide +kernel
theorem c130_0 : pm_code 130 0 = some (.iload_n 1, 1) := pm_of cl130_0 0 (q := (0, .iload_n 1, 1)) rfl
theorem c130_1 : pm_code 130 1 = some (.ifCond .lt 20, 4) := pm_of cl130_0 1 (q := (1, .ifCond .lt 20, 4)) rfl
theorem c130_4 : pm_code 130 4 = some (.iload_n 1, 5) := pm_of cl130_0 2 (q := (4, .iload_n 1, 5)) rfl
theorem c130_5 : pm_code 130 5 = some (.aload_n 0, 6) := pm_of cl130_0 3 (q := (5, .aload_n 0, 6)) rfl
theorem c130_6 : pm_code 130 6 = some (.getfield 19, 9) := pm_of cl130_0 4 (q := (6, .getfield 19, 9)) rfl
theorem c130_9 : pm_code 130 9 = some (.if_icmp .ge 12, 12) := pm_of cl130_0 5 (q := (9, .if_icmp .ge 12, 12)) rfl
theorem c130_12 : pm_code 130 12 = some (.iload_n 1, 13) := pm_of cl130_0 6 (q := (12, .iload_n 1, 13)) rfl
theorem c130_13 : pm_code 130 13 = some (.aload_n 0, 14) := pm_of cl130_0 7 (q := (13, .aload_n 0, 14)) rfl
theorem c130_14 : pm_code 130 14 = some (.getfield 9, 17) := pm_of cl130_0 8 (q := (14, .getfield 9, 17)) rfl
theorem c130_17 : pm_code 130 17 = some (.arraylength, 18) := pm_of cl130_0 9 (q := (17, .arraylength, 18)) rfl
theorem c130_18 : pm_code 130 18 = some (.if_icmp .lt 5, 21) := pm_of cl130_0 10 (q := (18, .if_icmp .lt 5, 21)) rfl
theorem c130_21 : pm_code 130 21 = some (.iconst 1, 22) := pm_of cl130_0 11 (q := (21, .iconst 1, 22)) rfl
theorem c130_22 : pm_code 130 22 = some (.ireturn, 23) := pm_of cl130_0 12 (q := (22, .ireturn, 23)) rfl
theorem c130_23 : pm_code 130 23 = some (.aload_n 0, 24) := pm_of cl130_0 13 (q := (23, .aload_n 0, 24)) rfl
theorem c130_24 : pm_code 130 24 = some (.getfield 9, 27) := pm_of cl130_0 14 (q := (24, .getfield 9, 27)) rfl
theorem c130_27 : pm_code 130 27 = some (.iload_n 1, 28) := pm_of cl130_0 15 (q := (27, .iload_n 1, 28)) rfl
theorem c130_28 : pm_code 130 28 = some (.iaload, 29) := pm_of cl130_0 16 (q := (28, .iaload, 29)) rfl
theorem c130_29 : pm_code 130 29 = some (.istore_n 2, 30) := pm_of cl130_0 17 (q := (29, .istore_n 2, 30)) rfl
theorem c130_30 : pm_code 130 30 = some (.iload_n 2, 31) := pm_of cl130_0 18 (q := (30, .iload_n 2, 31)) rfl
theorem c130_31 : pm_code 130 31 = some (.bipush 48, 33) := pm_of cl130_0 19 (q := (31, .bipush 48, 33)) rfl
theorem c130_33 : pm_code 130 33 = some (.if_icmp .lt 11, 36) := pm_of cl130_0 20 (q := (33, .if_icmp .lt 11, 36)) rfl
theorem c130_36 : pm_code 130 36 = some (.iload_n 2, 37) := pm_of cl130_0 21 (q := (36, .iload_n 2, 37)) rfl
theorem c130_37 : pm_code 130 37 = some (.bipush 57, 39) := pm_of cl130_0 22 (q := (37, .bipush 57, 39)) rfl
theorem c130_39 : pm_code 130 39 = some (.if_icmp .gt 5, 42) := pm_of cl130_0 23 (q := (39, .if_icmp .gt 5, 42)) rfl
theorem c130_42 : pm_code 130 42 = some (.iconst 2, 43) := pm_of cl130_0 24 (q := (42, .iconst 2, 43)) rfl
theorem c130_43 : pm_code 130 43 = some (.ireturn, 44) := pm_of cl130_0 25 (q := (43, .ireturn, 44)) rfl
theorem c130_44 : pm_code 130 44 = some (.iload_n 2, 45) := pm_of cl130_0 26 (q := (44, .iload_n 2, 45)) rfl
theorem c130_45 : pm_code 130 45 = some (.bipush 97, 47) := pm_of cl130_0 27 (q := (45, .bipush 97, 47)) rfl
theorem c130_47 : pm_code 130 47 = some (.if_icmp .lt 13, 50) := pm_of cl130_0 28 (q := (47, .if_icmp .lt 13, 50)) rfl
theorem c130_50 : pm_code 130 50 = some (.iload_n 2, 51) := pm_of cl130_0 29 (q := (50, .iload_n 2, 51)) rfl
theorem c130_51 : pm_code 130 51 = some (.bipush 122, 53) := pm_of cl130_0 30 (q := (51, .bipush 122, 53)) rfl
theorem c130_53 : pm_code 130 53 = some (.if_icmp .gt 7, 56) := pm_of cl130_0 31 (q := (53, .if_icmp .gt 7, 56)) rfl
theorem c130_56 : pm_code 130 56 = some (.iconst 3, 57) := pm_of cl130_0 32 (q := (56, .iconst 3, 57)) rfl
theorem c130_57 : pm_code 130 57 = some (.goto 4, 60) := pm_of cl130_0 33 (q := (57, .goto 4, 60)) rfl
theorem c130_60 : pm_code 130 60 = some (.iconst 4, 61) := pm_of cl130_0 34 (q := (60, .iconst 4, 61)) rfl
theorem c130_61 : pm_code 130 61 = some (.ireturn, 62) := pm_of cl130_0 35 (q := (61, .ireturn, 62)) rfl
theorem k131 : pm_k 131 = 8 := by decide +kernel
theorem ml131 : pm_ml 131 = 1 := by decide +kernel
theorem rt131 : pm_rt 131 = (some .boolean) := by decide +kernel
theorem hh131 : pm_hh 131 = [] := by decide +kernel
theorem rc131 : pm_cl 8 = (pm_y 131).cls := by decide +kernel
theorem cl131_0 : ([(0, .aload_n 0, 1), (1, .getfield 22, 4), (4, .iconst 1, 5), (5, .if_icmp .eq 14, 8), (8, .aload_n 0, 9), (9, .getfield 22, 12), (12, .ifCond .eq 7, 15), (15, .iconst 1, 16), (16, .goto 4, 19), (19, .iconst 0, 20), (20, .ireturn, 21)] : List (Nat × Instr × Nat)).all (fun q => decide (pm_code 131 q.1 = some q.2)) = true := by decide +kernel
theorem c131_0 : pm_code 131 0 = some (.aload_n 0, 1) := pm_of cl131_0 0 (q := (0, .aload_n 0, 1)) rfl
theorem c131_1 : pm_code 131 1 = some (.getfield 22, 4) := pm_of cl131_0 1 (q := (1, .getfield 22, 4)) rfl
theorem c131_4 : pm_code 131 4 = some (.iconst 1, 5) := pm_of cl131_0 2 (q := (4, .iconst 1, 5)) rfl
theorem c131_5 : pm_code 131 5 = some (.if_icmp .eq 14, 8) := pm_of cl131_0 3 (q := (5, .if_icmp .eq 14, 8)) rfl
theorem c131_8 : pm_code 131 8 = some (.aload_n 0, 9) := pm_of cl131_0 4 (q := (8, .aload_n 0, 9)) rfl
theorem c131_9 : pm_code 131 9 = some (.getfield 22, 12) := pm_of cl131_0 5 (q := (9, .getfield 22, 12)) rfl
theorem c131_12 : pm_code 131 12 = some (.ifCond .eq 7, 15) := pm_of cl131_0 6 (q := (12, .ifCond .eq 7, 15)) rfl
theorem c131_15 : pm_code 131 15 = some (.iconst 1, 16) := pm_of cl131_0 7 (q := (15, .iconst 1, 16)) rfl
theorem c131_16 : pm_code 131 16 = some (.goto 4, 19) := pm_of cl131_0 8 (q := (16, .goto 4, 19)) rfl
theorem c131_19 : pm_code 131 19 = some (.iconst 0, 20) := pm_of cl131_0 9 (q := (19, .iconst 0, 20)) rfl
theorem c131_20 : pm_code 131 20 = some (.ireturn, 21) := pm_of cl131_0 10 (q := (20, .ireturn, 21)) rfl
theorem k132 : pm_k 132 = 8 := by decide +kernel
theorem ml132 : pm_ml 132 = 3 := by decide +kernel
theorem rt132 : pm_rt 132 = (some .boolean) := by decide +kernel
theorem hh132 : pm_hh 132 = [] := by decide +kernel
theorem rc132 : pm_cl 8 = (pm_y 132).cls := by decide +kernel
theorem cl132_0 : ([(0, .aload_n 0, 1), (1, .getfield 22, 4), (4, .iconst 3, 5), (5, .if_icmp .ne 19, 8), (8, .aload_n 0, 9), (9, .getfield 28, 12), (12, .aload_n 0, 13), (13, .getfield 25, 16), (16, .isub, 17), (17, .aload_n 1, 18), (18, .invokevirtual 64, 21), (21, .if_icmp .eq 5, 24), (24, .iconst 0, 25), (25, .ireturn, 26), (26, .iconst 0, 27), (27, .istore_n 2, 28), (28, .iload_n 2, 29), (29, .aload_n 1, 30), (30, .invokevirtual 64, 33), (33, .if_icmp .ge 29, 36), (36, .aload_n 0, 37), (37, .aload_n 0, 38), (38, .getfield 25, 41), (41, .iload_n 2, 42), (42, .iadd, 43), (43, .invokevirtual 56, 46), (46, .aload_n 1, 47), (47, .iload_n 2, 48), (48, .invokevirtual 69, 51), (51, .if_icmp .eq 5, 54), (54, .iconst 0, 55), (55, .ireturn, 56), (56, .iinc 2 1, 59), (59, .goto (-31), 62), (62, .iconst 1, 63), (63, .ireturn, 64)] : List (Nat × Instr × Nat)).all (fun q => decide (pm_code 132 q.1 = some q.2)) = true := by decide +kernel
theorem c132_0 : pm_code 132 0 = some (.aload_n 0, 1) := pm_of cl132_0 0 (q := (0, .aload_n 0, 1)) rfl
theorem c132_1 : pm_code 132 1 = some (.getfield 22, 4) := pm_of cl132_0 1 (q := (1, .getfield 22, 4)) rfl
theorem c132_4 : pm_code 132 4 = some (.iconst 3, 5) := pm_of cl132_0 2 (q := (4, .iconst 3, 5)) rfl
theorem c132_5 : pm_code 132 5 = some (.if_icmp .ne 19, 8) := pm_of cl132_0 3 (q := (5, .if_icmp .ne 19, 8)) rfl
theorem c132_8 : pm_code 132 8 = some (.aload_n 0, 9) := pm_of cl132_0 4 (q := (8, .aload_n 0, 9)) rfl
theorem c132_9 : pm_code 132 9 = some (.getfield 28, 12) := pm_of cl132_0 5 (q := (9, .getfield 28, 12)) rfl
theorem c132_12 : pm_code 132 12 = some (.aload_n 0, 13) := pm_of cl132_0 6 (q := (12, .aload_n 0, 13)) rfl
theorem c132_13 : pm_code 132 13 = some (.getfield 25, 16) := pm_of cl132_0 7 (q := (13, .getfield 25, 16)) rfl
theorem c132_16 : pm_code 132 16 = some (.isub, 17) := pm_of cl132_0 8 (q := (16, .isub, 17)) rfl
theorem c132_17 : pm_code 132 17 = some (.aload_n 1, 18) := pm_of cl132_0 9 (q := (17, .aload_n 1, 18)) rfl
theorem c132_18 : pm_code 132 18 = some (.invokevirtual 64, 21) := pm_of cl132_0 10 (q := (18, .invokevirtual 64, 21)) rfl
theorem c132_21 : pm_code 132 21 = some (.if_icmp .eq 5, 24) := pm_of cl132_0 11 (q := (21, .if_icmp .eq 5, 24)) rfl
theorem c132_24 : pm_code 132 24 = some (.iconst 0, 25) := pm_of cl132_0 12 (q := (24, .iconst 0, 25)) rfl
theorem c132_25 : pm_code 132 25 = some (.ireturn, 26) := pm_of cl132_0 13 (q := (25, .ireturn, 26)) rfl
theorem c132_26 : pm_code 132 26 = some (.iconst 0, 27) := pm_of cl132_0 14 (q := (26, .iconst 0, 27)) rfl
theorem c132_27 : pm_code 132 27 = some (.istore_n 2, 28) := pm_of cl132_0 15 (q := (27, .istore_n 2, 28)) rfl
theorem c132_28 : pm_code 132 28 = some (.iload_n 2, 29) := pm_of cl132_0 16 (q := (28, .iload_n 2, 29)) rfl
theorem c132_29 : pm_code 132 29 = some (.aload_n 1, 30) := pm_of cl132_0 17 (q := (29, .aload_n 1, 30)) rfl
theorem c132_30 : pm_code 132 30 = some (.invokevirtual 64, 33) := pm_of cl132_0 18 (q := (30, .invokevirtual 64, 33)) rfl
theorem c132_33 : pm_code 132 33 = some (.if_icmp .ge 29, 36) := pm_of cl132_0 19 (q := (33, .if_icmp .ge 29, 36)) rfl
theorem c132_36 : pm_code 132 36 = some (.aload_n 0, 37) := pm_of cl132_0 20 (q := (36, .aload_n 0, 37)) rfl
theorem c132_37 : pm_code 132 37 = some (.aload_n 0, 38) := pm_of cl132_0 21 (q := (37, .aload_n 0, 38)) rfl
theorem c132_38 : pm_code 132 38 = some (.getfield 25, 41) := pm_of cl132_0 22 (q := (38, .getfield 25, 41)) rfl
theorem c132_41 : pm_code 132 41 = some (.iload_n 2, 42) := pm_of cl132_0 23 (q := (41, .iload_n 2, 42)) rfl
theorem c132_42 : pm_code 132 42 = some (.iadd, 43) := pm_of cl132_0 24 (q := (42, .iadd, 43)) rfl
theorem c132_43 : pm_code 132 43 = some (.invokevirtual 56, 46) := pm_of cl132_0 25 (q := (43, .invokevirtual 56, 46)) rfl
theorem c132_46 : pm_code 132 46 = some (.aload_n 1, 47) := pm_of cl132_0 26 (q := (46, .aload_n 1, 47)) rfl
theorem c132_47 : pm_code 132 47 = some (.iload_n 2, 48) := pm_of cl132_0 27 (q := (47, .iload_n 2, 48)) rfl
theorem c132_48 : pm_code 132 48 = some (.invokevirtual 69, 51) := pm_of cl132_0 28 (q := (48, .invokevirtual 69, 51)) rfl
theorem c132_51 : pm_code 132 51 = some (.if_icmp .eq 5, 54) := pm_of cl132_0 29 (q := (51, .if_icmp .eq 5, 54)) rfl
theorem c132_54 : pm_code 132 54 = some (.iconst 0, 55) := pm_of cl132_0 30 (q := (54, .iconst 0, 55)) rfl
theorem c132_55 : pm_code 132 55 = some (.ireturn, 56) := pm_of cl132_0 31 (q := (55, .ireturn, 56)) rfl
theorem c132_56 : pm_code 132 56 = some (.iinc 2 1, 59) := pm_of cl132_0 32 (q := (56, .iinc 2 1, 59)) rfl
theorem c132_59 : pm_code 132 59 = some (.goto (-31), 62) := pm_of cl132_0 33 (q := (59, .goto (-31), 62)) rfl
theorem c132_62 : pm_code 132 62 = some (.iconst 1, 63) := pm_of cl132_0 34 (q := (62, .iconst 1, 63)) rfl
theorem c132_63 : pm_code 132 63 = some (.ireturn, 64) := pm_of cl132_0 35 (q := (63, .ireturn, 64)) rfl
theorem k133 : pm_k 133 = 8 := by decide +kernel
theorem ml133 : pm_ml 133 = 2 := by decide +kernel
theorem rt133 : pm_rt 133 = none := by decide +kernel
theorem hh133 : pm_hh 133 = [] := by decide +kernel
theorem rc133 : pm_cl 8 = (pm_y 133).cls := by decide +kernel
theorem cl133_0 : ([(0, .aload_n 0, 1), (1, .getfield 34, 4), (4, .ifCond .ne 16, 7), (7, .aload_n 0, 8), (8, .iload_n 1, 9), (9, .putfield 34, 12), (12, .aload_n 0, 13), (13, .aload_n 0, 14), (14, .getfield 25, 17), (17, .putfield 37, 20), (20, .aload_n 0, 21), (21, .iconst 0, 22), (22, .putfield 22, 25), (25, .return_, 26)] : List (Nat × Instr × Nat)).all (fun q => decide (pm_code 133 q.1 = some q.2)) = true := by decide +kernel
theorem c133_0 : pm_code 133 0 = some (.aload_n 0, 1) := pm_of cl133_0 0 (q := (0, .aload_n 0, 1)) rfl
theorem c133_1 : pm_code 133 1 = some (.getfield 34, 4) := pm_of cl133_0 1 (q := (1, .getfield 34, 4)) rfl
theorem c133_4 : pm_code 133 4 = some (.ifCond .ne 16, 7) := pm_of cl133_0 2 (q := (4, .ifCond .ne 16, 7)) rfl
theorem c133_7 : pm_code 133 7 = some (.aload_n 0, 8) := pm_of cl133_0 3 (q := (7, .aload_n 0, 8)) rfl
theorem c133_8 : pm_code 133 8 = some (.iload_n 1, 9) := pm_of cl133_0 4 (q := (8, .iload_n 1, 9)) rfl
theorem c133_9 : pm_code 133 9 = some (.putfield 34, 12) := pm_of cl133_0 5 (q := (9, .putfield 34, 12)) rfl
theorem c133_12 : pm_code 133 12 = some (.aload_n 0, 13) := pm_of cl133_0 6 (q := (12, .aload_n 0, 13)) rfl
theorem c133_13 : pm_code 133 13 = some (.aload_n 0, 14) := pm_of cl133_0 7 (q := (13, .aload_n 0, 14)) rfl
theorem c133_14 : pm_code 133 14 = some (.getfield 25, 17) := pm_of cl133_0 8 (q := (14, .getfield 25, 17)) rfl
theorem c133_17 : pm_code 133 17 = some (.putfield 37, 20) := pm_of cl133_0 9 (q := (17, .putfield 37, 20)) rfl
theorem c133_20 : pm_code 133 20 = some (.aload_n 0, 21) := pm_of cl133_0 10 (q := (20, .aload_n 0, 21)) rfl
theorem c133_21 : pm_code 133 21 = some (.iconst 0, 22) := pm_of cl133_0 11 (q := (21, .iconst 0, 22)) rfl
theorem c133_22 : pm_code 133 22 = some (.putfield 22, 25) := pm_of cl133_0 12 (q := (22, .putfield 22, 25)) rfl
theorem c133_25 : pm_code 133 25 = some (.return_, 26) := pm_of cl133_0 13 (q := (25, .return_, 26)) rfl
theorem k134 : pm_k 134 = 8 := by decide +kernel
theorem ml134 : pm_ml 134 = 4 := by decide +kernel
theorem rt134 : pm_rt 134 = (some .int) := by decide +kernel
theorem hh134 : pm_hh 134 = [] := by decide +kernel
theorem rc134 : pm_cl 8 = (pm_y 134).cls := by decide +kernel
theorem cl134_0 : ([(0, .aload_n 0, 1), (1, .getfield 22, 4), (4, .iconst 2, 5), (5, .if_icmp .eq 10, 8), (8, .aload_n 0, 9), (9, .iconst 1, 10), (10, .invokevirtual 77, 13), (13, .iconst 0, 14), (14, .ireturn, 15), (15, .aload_n 0, 16), (16, .getfield 31, 19), (19, .iload_n 1, 20), (20, .if_icmp .lt 11, 23), (23, .aload_n 0, 24), (24, .getfield 31, 27), (27, .iload_n 2, 28), (28, .if_icmp .le 10, 31), (31, .aload_n 0, 32), (32, .iconst 2, 33), (33, .invokevirtual 77, 36), (36, .iconst 0, 37), (37, .ireturn, 38), (38, .aload_n 0, 39), (39, .getfield 31, 42), (42, .istore_n 3, 43), (43, .aload_n 0, 44), (44, .invokevirtual 53, 47), (47, .iload_n 3, 48), (48, .ireturn, 49)] : List (Nat × Instr × Nat)).all (fun q => decide (pm_code 134 q.1 = some q.2)) = true := by decide +kernel
theorem c134_0 : pm_code 134 0 = some (.aload_n 0, 1) := pm_of cl134_0 0 (q := (0, .aload_n 0, 1)) rfl
theorem c134_1 : pm_code 134 1 = some (.getfield 22, 4) := pm_of cl134_0 1 (q := (1, .getfield 22, 4)) rfl
theorem c134_4 : pm_code 134 4 = some (.iconst 2, 5) := pm_of cl134_0 2 (q := (4, .iconst 2, 5)) rfl
theorem c134_5 : pm_code 134 5 = some (.if_icmp .eq 10, 8) := pm_of cl134_0 3 (q := (5, .if_icmp .eq 10, 8)) rfl
theorem c134_8 : pm_code 134 8 = some (.aload_n 0, 9) := pm_of cl134_0 4 (q := (8, .aload_n 0, 9)) rfl
theorem c134_9 : pm_code 134 9 = some (.iconst 1, 10) := pm_of cl134_0 5 (q := (9, .iconst 1, 10)) rfl
theorem c134_10 : pm_code 134 10 = some (.invokevirtual 77, 13) := pm_of cl134_0 6 (q := (10, .invokevirtual 77, 13)) rfl
theorem c134_13 : pm_code 134 13 = some (.iconst 0, 14) := pm_of cl134_0 7 (q := (13, .iconst 0, 14)) rfl
theorem c134_14 : pm_code 134 14 = some (.ireturn, 15) := pm_of cl134_0 8 (q := (14, .ireturn, 15)) rfl
theorem c134_15 : pm_code 134 15 = some (.aload_n 0, 16) := pm_of cl134_0 9 (q := (15, .aload_n 0, 16)) rfl
theorem c134_16 : pm_code 134 16 = some (.getfield 31, 19) := pm_of cl134_0 10 (q := (16, .getfield 31, 19)) rfl
theorem c134_19 : pm_code 134 19 = some (.iload_n 1, 20) := pm_of cl134_0 11 (q := (19, .iload_n 1, 20)) rfl
theorem c134_20 : pm_code 134 20 = some (.if_icmp .lt 11, 23) := pm_of cl134_0 12 (q := (20, .if_icmp .lt 11, 23)) rfl
theorem c134_23 : pm_code 134 23 = some (.aload_n 0, 24) := pm_of cl134_0 13 (q := (23, .aload_n 0, 24)) rfl
theorem c134_24 : pm_code 134 24 = some (.getfield 31, 27) := pm_of cl134_0 14 (q := (24, .getfield 31, 27)) rfl
theorem c134_27 : pm_code 134 27 = some (.iload_n 2, 28) := pm_of cl134_0 15 (q := (27, .iload_n 2, 28)) rfl
theorem c134_28 : pm_code 134 28 = some (.if_icmp .le 10, 31) := pm_of cl134_0 16 (q := (28, .if_icmp .le 10, 31)) rfl
theorem c134_31 : pm_code 134 31 = some (.aload_n 0, 32) := pm_of cl134_0 17 (q := (31, .aload_n 0, 32)) rfl
theorem c134_32 : pm_code 134 32 = some (.iconst 2, 33) := pm_of cl134_0 18 (q := (32, .iconst 2, 33)) rfl
theorem c134_33 : pm_code 134 33 = some (.invokevirtual 77, 36) := pm_of cl134_0 19 (q := (33, .invokevirtual 77, 36)) rfl
theorem c134_36 : pm_code 134 36 = some (.iconst 0, 37) := pm_of cl134_0 20 (q := (36, .iconst 0, 37)) rfl
theorem c134_37 : pm_code 134 37 = some (.ireturn, 38) := pm_of cl134_0 21 (q := (37, .ireturn, 38)) rfl
theorem c134_38 : pm_code 134 38 = some (.aload_n 0, 39) := pm_of cl134_0 22 (q := (38, .aload_n 0, 39)) rfl
theorem c134_39 : pm_code 134 39 = some (.getfield 31, 42) := pm_of cl134_0 23 (q := (39, .getfield 31, 42)) rfl
theorem c134_42 : pm_code 134 42 = some (.istore_n 3, 43) := pm_of cl134_0 24 (q := (42, .istore_n 3, 43)) rfl
theorem c134_43 : pm_code 134 43 = some (.aload_n 0, 44) := pm_of cl134_0 25 (q := (43, .aload_n 0, 44)) rfl
theorem c134_44 : pm_code 134 44 = some (.invokevirtual 53, 47) := pm_of cl134_0 26 (q := (44, .invokevirtual 53, 47)) rfl
theorem c134_47 : pm_code 134 47 = some (.iload_n 3, 48) := pm_of cl134_0 27 (q := (47, .iload_n 3, 48)) rfl
theorem c134_48 : pm_code 134 48 = some (.ireturn, 49) := pm_of cl134_0 28 (q := (48, .ireturn, 49)) rfl
theorem k135 : pm_k 135 = 8 := by decide +kernel
theorem ml135 : pm_ml 135 = 2 := by decide +kernel
theorem rt135 : pm_rt 135 = none := by decide +kernel
theorem hh135 : pm_hh 135 = [] := by decide +kernel
theorem rc135 : pm_cl 8 = (pm_y 135).cls := by decide +kernel
theorem cl135_0 : ([(0, .aload_n 0, 1), (1, .iload_n 1, 2), (2, .invokevirtual 73, 5), (5, .ifCond .eq 10, 8), (8, .aload_n 0, 9), (9, .invokevirtual 53, 12), (12, .goto 8, 15), (15, .aload_n 0, 16), (16, .iconst 1, 17), (17, .invokevirtual 77, 20), (20, .return_, 21)] : List (Nat × Instr × Nat)).all (fun q => decide (pm_code 135 q.1 = some q.2)) = true := by decide +kernel
theorem c135_0 : pm_code 135 0 = some (.aload_n 0, 1) := pm_of cl135_0 0 (q := (0, .aload_n 0, 1)) rfl
theorem c135_1 : pm_code 135 1 = some (.iload_n 1, 2) := pm_of cl135_0 1 (q := (1, .iload_n 1, 2)) rfl
theorem c135_2 : pm_code 135 2 = some (.invokevirtual 73, 5) := pm_of cl135_0 2 (q := (2, .invokevirtual 73, 5)) rfl
theorem c135_5 : pm_code 135 5 = some (.ifCond .eq 10, 8) := pm_of cl135_0 3 (q := (5, .ifCond .eq 10, 8)) rfl
theorem c135_8 : pm_code 135 8 = some (.aload_n 0, 9) := pm_of cl135_0 4 (q := (8, .aload_n 0, 9)) rfl
theorem c135_9 : pm_code 135 9 = some (.invokevirtual 53, 12) := pm_of cl135_0 5 (q := (9, .invokevirtual 53, 12)) rfl
theorem c135_12 : pm_code 135 12 = some (.goto 8, 15) := pm_of cl135_0 6 (q := (12, .goto 8, 15)) rfl
theorem c135_15 : pm_code 135 15 = some (.aload_n 0, 16) := pm_of cl135_0 7 (q := (15, .aload_n 0, 16)) rfl
theorem c135_16 : pm_code 135 16 = some (.iconst 1, 17) := pm_of cl135_0 8 (q := (16, .iconst 1, 17)) rfl
theorem c135_17 : pm_code 135 17 = some (.invokevirtual 77, 20) := pm_of cl135_0 9 (q := (17, .invokevirtual 77, 20)) rfl
theorem c135_20 : pm_code 135 20 = some (.return_, 21) := pm_of cl135_0 10 (q := (20, .return_, 21)) rfl
theorem k136 : pm_k 136 = 8 := by decide +kernel
theorem ml136 : pm_ml 136 = 2 := by decide +kernel
theorem rt136 : pm_rt 136 = (some .boolean) := by decide +kernel
theorem hh136 : pm_hh 136 = [] := by decide +kernel
theorem rc136 : pm_cl 8 = (pm_y 136).cls := by decide +kernel
theorem cl136_0 : ([(0, .aload_n 0, 1), (1, .getfield 22, 4), (4, .iconst 4, 5), (5, .if_icmp .ne 19, 8), (8, .aload_n 0, 9), (9, .aload_n 0, 10), (10, .getfield 25, 13), (13, .invokevirtual 56, 16), (16, .iload_n 1, 17), (17, .if_icmp .ne 7, 20), (20, .iconst 1, 21), (21, .goto 4, 24), (24, .iconst 0, 25), (25, .ireturn, 26)] : List (Nat × Instr × Nat)).all (fun q => decide (pm_code 136 q.1 = some q.2)) = true := by decide +kernel
theorem c136_0 : pm_code 136 0 = some (.aload_n 0, 1) := pm_of cl136_0 0 (q := (0, .aload_n 0, 1)) rfl
theorem c136_1 : pm_code 136 1 = some (.getfield 22, 4) := pm_of cl136_0 1 (q := (1, .getfield 22, 4)) rfl
theorem c136_4 : pm_code 136 4 = some (.iconst 4, 5) := pm_of cl136_0 2 (q := (4, .iconst 4, 5)) rfl
theorem c136_5 : pm_code 136 5 = some (.if_icmp .ne 19, 8) := pm_of cl136_0 3 (q := (5, .if_icmp .ne 19, 8)) rfl
theorem c136_8 : pm_code 136 8 = some (.aload_n 0, 9) := pm_of cl136_0 4 (q := (8, .aload_n 0, 9)) rfl
theorem c136_9 : pm_code 136 9 = some (.aload_n 0, 10) := pm_of cl136_0 5 (q := (9, .aload_n 0, 10)) rfl
theorem c136_10 : pm_code 136 10 = some (.getfield 25, 13) := pm_of cl136_0 6 (q := (10, .getfield 25, 13)) rfl
theorem c136_13 : pm_code 136 13 = some (.invokevirtual 56, 16) := pm_of cl136_0 7 (q := (13, .invokevirtual 56, 16)) rfl
theorem c136_16 : pm_code 136 16 = some (.iload_n 1, 17) := pm_of cl136_0 8 (q := (16, .iload_n 1, 17)) rfl
theorem c136_17 : pm_code 136 17 = some (.if_icmp .ne 7, 20) := pm_of cl136_0 9 (q := (17, .if_icmp .ne 7, 20)) rfl
theorem c136_20 : pm_code 136 20 = some (.iconst 1, 21) := pm_of cl136_0 10 (q := (20, .iconst 1, 21)) rfl
theorem c136_21 : pm_code 136 21 = some (.goto 4, 24) := pm_of cl136_0 11 (q := (21, .goto 4, 24)) rfl
theorem c136_24 : pm_code 136 24 = some (.iconst 0, 25) := pm_of cl136_0 12 (q := (24, .iconst 0, 25)) rfl
theorem c136_25 : pm_code 136 25 = some (.ireturn, 26) := pm_of cl136_0 13 (q := (25, .ireturn, 26)) rfl
theorem k137 : pm_k 137 = 8 := by decide +kernel
theorem ml137 : pm_ml 137 = 1 := by decide +kernel
theorem rt137 : pm_rt 137 = none := by decide +kernel
theorem hh137 : pm_hh 137 = [] := by decide +kernel
theorem rc137 : pm_cl 8 = (pm_y 137).cls := by decide +kernel
theorem cl137_0 : ([(0, .aload_n 0, 1), (1, .iconst 0, 2), (2, .putfield 15, 5), (5, .return_, 6)] : List (Nat × Instr × Nat)).all (fun q => decide (pm_code 137 q.1 = some q.2)) = true := by decide +kernel
theorem c137_0 : pm_code 137 0 = some (.aload_n 0, 1) := pm_of cl137_0 0 (q := (0, .aload_n 0, 1)) rfl
theorem c137_1 : pm_code 137 1 = some (.iconst 0, 2) := pm_of cl137_0 1 (q := (1, .iconst 0, 2)) rfl
theorem c137_2 : pm_code 137 2 = some (.putfield 15, 5) := pm_of cl137_0 2 (q := (2, .putfield 15, 5)) rfl
theorem c137_5 : pm_code 137 5 = some (.return_, 6) := pm_of cl137_0 3 (q := (5, .return_, 6)) rfl
theorem k138 : pm_k 138 = 8 := by decide +kernel
theorem ml138 : pm_ml 138 = 1 := by decide +kernel
theorem rt138 : pm_rt 138 = (some .boolean) := by decide +kernel
theorem hh138 : pm_hh 138 = [] := by decide +kernel
theorem rc138 : pm_cl 8 = (pm_y 138).cls := by decide +kernel
theorem cl138_0 : ([(0, .aload_n 0, 1), (1, .getfield 34, 4), (4, .ifCond .eq 7, 7), (7, .iconst 1, 8), (8, .goto 4, 11), (11, .iconst 0, 12), (12, .ireturn, 13)] : List (Nat × Instr × Nat)).all (fun q => decide (pm_code 138 q.1 = some q.2)) = true := by decide +kernel
theorem c138_0 : pm_code 138 0 = some (.aload_n 0, 1) := pm_of cl138_0 0 (q := (0, .aload_n 0, 1)) rfl
theorem c138_1 : pm_code 138 1 = some (.getfield 34, 4) := pm_of cl138_0 1 (q := (1, .getfield 34, 4)) rfl
theorem c138_4 : pm_code 138 4 = some (.ifCond .eq 7, 7) := pm_of cl138_0 2 (q := (4, .ifCond .eq 7, 7)) rfl
theorem c138_7 : pm_code 138 7 = some (.iconst 1, 8) := pm_of cl138_0 3 (q := (7, .iconst 1, 8)) rfl
theorem c138_8 : pm_code 138 8 = some (.goto 4, 11) := pm_of cl138_0 4 (q := (8, .goto 4, 11)) rfl
theorem c138_11 : pm_code 138 11 = some (.iconst 0, 12) := pm_of cl138_0 5 (q := (11, .iconst 0, 12)) rfl
theorem c138_12 : pm_code 138 12 = some (.ireturn, 13) := pm_of cl138_0 6 (q := (12, .ireturn, 13)) rfl
theorem k139 : pm_k 139 = 8 := by decide +kernel
theorem ml139 : pm_ml 139 = 1 := by decide +kernel
theorem rt139 : pm_rt 139 = (some .int) := by decide +kernel
theorem hh139 : pm_hh 139 = [] := by decide +kernel
theorem rc139 : pm_cl 8 = (pm_y 139).cls := by decide +kernel
theorem cl139_0 : ([(0, .aload_n 0, 1), (1, .getfield 34, 4), (4, .bipush 10, 6), (6, .isub, 7), (7, .ireturn, 8)] : List (Nat × Instr × Nat)).all (fun q => decide (pm_code 139 q.1 = some q.2)) = true := by decide +kernel
theorem c139_0 : pm_code 139 0 = some (.aload_n 0, 1) := pm_of cl139_0 0 (q := (0, .aload_n 0, 1)) rfl
theorem c139_1 : pm_code 139 1 = some (.getfield 34, 4) := pm_of cl139_0 1 (q := (1, .getfield 34, 4)) rfl
theorem c139_4 : pm_code 139 4 = some (.bipush 10, 6) := pm_of cl139_0 2 (q := (4, .bipush 10, 6)) rfl
theorem c139_6 : pm_code 139 6 = some (.isub, 7) := pm_of cl139_0 3 (q := (6, .isub, 7)) rfl
theorem c139_7 : pm_code 139 7 = some (.ireturn, 8) := pm_of cl139_0 4 (q := (7, .ireturn, 8)) rfl
theorem k140 : pm_k 140 = 8 := by decide +kernel
theorem ml140 : pm_ml 140 = 1 := by decide +kernel
theorem rt140 : pm_rt 140 = (some .boolean) := by decide +kernel
theorem hh140 : pm_hh 140 = [] := by decide +kernel
theorem rc140 : pm_cl 8 = (pm_y 140).cls := by decide +kernel
theorem cl140_0 : ([(0, .aload_n 0, 1), (1, .getfield 22, 4), (4, .iconst 2, 5), (5, .if_icmp .ne 7, 8), (8, .iconst 1, 9), (9, .goto 4, 12), (12, .iconst 0, 13), (13, .ireturn, 14)] : List (Nat × Instr × Nat)).all (fun q => decide (pm_code 140 q.1 = some q.2)) = true := by decide +kernel
theorem c140_0 : pm_code 140 0 = some (.aload_n 0, 1) := pm_of cl140_0 0 (q := (0, .aload_n 0, 1)) rfl
theorem c140_1 : pm_code 140 1 = some (.getfield 22, 4) := pm_of cl140_0 1 (q := (1, .getfield 22, 4)) rfl
theorem c140_4 : pm_code 140 4 = some (.iconst 2, 5) := pm_of cl140_0 2 (q := (4, .iconst 2, 5)) rfl
theorem c140_5 : pm_code 140 5 = some (.if_icmp .ne 7, 8) := pm_of cl140_0 3 (q := (5, .if_icmp .ne 7, 8)) rfl
theorem c140_8 : pm_code 140 8 = some (.iconst 1, 9) := pm_of cl140_0 4 (q := (8, .iconst 1, 9)) rfl
theorem c140_9 : pm_code 140 9 = some (.goto 4, 12) := pm_of cl140_0 5 (q := (9, .goto 4, 12)) rfl
theorem c140_12 : pm_code 140 12 = some (.iconst 0, 13) := pm_of cl140_0 6 (q := (12, .iconst 0, 13)) rfl
theorem c140_13 : pm_code 140 13 = some (.ireturn, 14) := pm_of cl140_0 7 (q := (13, .ireturn, 14)) rfl
theorem k141 : pm_k 141 = 8 := by decide +kernel
theorem ml141 : pm_ml 141 = 1 := by decide +kernel
theorem rt141 : pm_rt 141 = (some .int) := by decide +kernel
theorem hh141 : pm_hh 141 = [] := by decide +kernel
theorem rc141 : pm_cl 8 = (pm_y 141).cls := by decide +kernel
theorem cl141_0 : ([(0, .aload_n 0, 1), (1, .getfield 31, 4), (4, .ireturn, 5)] : List (Nat × Instr × Nat)).all (fun q => decide (pm_code 141 q.1 = some q.2)) = true := by decide +kernel
theorem c141_0 : pm_code 141 0 = some (.aload_n 0, 1) := pm_of cl141_0 0 (q := (0, .aload_n 0, 1)) rfl
theorem c141_1 : pm_code 141 1 = some (.getfield 31, 4) := pm_of cl141_0 1 (q := (1, .getfield 31, 4)) rfl
theorem c141_4 : pm_code 141 4 = some (.ireturn, 5) := pm_of cl141_0 2 (q := (4, .ireturn, 5)) rfl
theorem k142 : pm_k 142 = 9 := by decide +kernel
theorem ml142 : pm_ml 142 = 1 := by decide +kernel
theorem rt142 : pm_rt 142 = none := by decide +kernel
theorem hh142 : pm_hh 142 = [] := by decide +kernel
theorem rc142 : pm_cl 9 = (pm_y 142).cls := by decide +kernel
theorem cl142_0 : ([(0, .aload_n 0, 1), (1, .invokespecial 3, 4), (4, .aload_n 0, 5), (5, .sipush 1000, 8), (8, .newarray .int, 10), (10, .putfield 9, 13), (13, .aload_n 0, 14), (14, .iconst 0, 15), (15, .putfield 15, 18), (18, .aload_n 0, 19), (19, .iconst (-1), 20), (20, .putfield 19, 23), (23, .aload_n 0, 24), (24, .iconst (-1), 25), (25, .putfield 22, 28), (28, .aload_n 0, 29), (29, .iconst (-1), 30), (30, .putfield 25, 33), (33, .aload_n 0, 34), (34, .iconst 0, 35), (35, .putfield 28, 38), (38, .aload_n 0, 39), (39, .iconst 0, 40), (40, .putfield 31, 43), (43, .return_, 44)] : List (Nat × Instr × Nat)).all (fun q => decide (pm_code 142 q.1 = some q.2)) = true := by decide +kernel
theorem c142_0 : pm_code 142 0 = some (.aload_n 0, 1) := pm_of cl142_0 0 (q := (0, .aload_n 0, 1)) rfl
theorem c142_1 : pm_code 142 1 = some (.invokespecial 3, 4) := pm_of cl142_0 1 (q := (1, .invokespecial 3, 4)) rfl
theorem c142_4 : pm_code 142 4 = some (.aload_n 0, 5) := pm_of cl142_0 2 (q := (4, .aload_n 0, 5)) rfl
theorem c142_5 : pm_code 142 5 = some (.sipush 1000, 8) := pm_of cl142_0 3 (q := (5, .sipush 1000, 8)) rfl
theorem c142_8 : pm_code 142 8 = some (.newarray .int, 10) := pm_of cl142_0 4 (q := (8, .newarray .int, 10)) rfl
theorem c142_10 : pm_code 142 10 = some (.putfield 9, 13) := pm_of cl142_0 5 (q := (10, .putfield 9, 13)) rfl
theorem c142_13 : pm_code 142 13 = some (.aload_n 0, 14) := pm_of cl142_0 6 (q := (13, .aload_n 0, 14)) rfl
theorem c142_14 : pm_code 142 14 = some (.iconst 0, 15) := pm_of cl142_0 7 (q := (14, .iconst 0, 15)) rfl
theorem c142_15 : pm_code 142 15 = some (.putfield 15, 18) := pm_of cl142_0 8 (q := (15, .putfield 15, 18)) rfl
theorem c142_18 : pm_code 142 18 = some (.aload_n 0, 19) := pm_of cl142_0 9 (q := (18, .aload_n 0, 19)) rfl
theorem c142_19 : pm_code 142 19 = some (.iconst (-1), 20) := pm_of cl142_0 10 (q := (19, .iconst (-1), 20)) rfl
theorem c142_20 : pm_code 142 20 = some (.putfield 19, 23) := pm_of cl142_0 11 (q := (20, .putfield 19, 23)) rfl
theorem c142_23 : pm_code 142 23 = some (.aload_n 0, 24) := pm_of cl142_0 12 (q := (23, .aload_n 0, 24)) rfl
theorem c142_24 : pm_code 142 24 = some (.iconst (-1), 25) := pm_of cl142_0 13 (q := (24, .iconst (-1), 25)) rfl
theorem c142_25 : pm_code 142 25 = some (.putfield 22, 28) := pm_of cl142_0 14 (q := (25, .putfield 22, 28)) rfl
theorem c142_28 : pm_code 142 28 = some (.aload_n 0, 29) := pm_of cl142_0 15 (q := (28, .aload_n 0, 29)) rfl
theorem c142_29 : pm_code 142 29 = some (.iconst (-1), 30) := pm_of cl142_0 16 (q := (29, .iconst (-1), 30)) rfl
theorem c142_30 : pm_code 142 30 = some (.putfield 25, 33) := pm_of cl142_0 17 (q := (30, .putfield 25, 33)) rfl
theorem c142_33 : pm_code 142 33 = some (.aload_n 0, 34) := pm_of cl142_0 18 (q := (33, .aload_n 0, 34)) rfl
theorem c142_34 : pm_code 142 34 = some (.iconst 0, 35) := pm_of cl142_0 19 (q := (34, .iconst 0, 35)) rfl
theorem c142_35 : pm_code 142 35 = some (.putfield 28, 38) := pm_of cl142_0 20 (q := (35, .putfield 28, 38)) rfl
theorem c142_38 : pm_code 142 38 = some (.aload_n 0, 39) := pm_of cl142_0 21 (q := (38, .aload_n 0, 39)) rfl
theorem c142_39 : pm_code 142 39 = some (.iconst 0, 40) := pm_of cl142_0 22 (q := (39, .iconst 0, 40)) rfl
theorem c142_40 : pm_code 142 40 = some (.putfield 31, 43) := pm_of cl142_0 23 (q := (40, .putfield 31, 43)) rfl
theorem c142_43 : pm_code 142 43 = some (.return_, 44) := pm_of cl142_0 24 (q := (43, .return_, 44)) rfl
theorem k143 : pm_k 143 = 9 := by decide +kernel
theorem ml143 : pm_ml 143 = 7 := by decide +kernel
theorem rt143 : pm_rt 143 = none := by decide +kernel
theorem hh143 : pm_hh 143 = [] := by decide +kernel
theorem rc143 : pm_cl 9 = (pm_y 143).cls := by decide +kernel
theorem cl143_0 : ([(0, .aload_n 0, 1), (1, .invokevirtual 34, 4), (4, .aload_n 1, 5), (5, .iload_n 3, 6), (6, .invokevirtual 37, 9), (9, .iconst 1, 10), (10, .istore 4, 12), (12, .iload 4, 14), (14, .bipush 9, 16), (16, .if_icmp .gt 58, 19), (19, .iconst 0, 20), (20, .istore 5, 22), (22, .iload 5, 24), (24, .bipush 24, 26), (26, .if_icmp .gt 42, 29), (29, .aload_n 1, 30), (30, .iload 4, 32), (32, .iload 5, 34), (34, .invokevirtual 43, 37), (37, .istore 6, 39), (39, .aload_n 2, 40), (40, .iload 6, 42), (42, .invokevirtual 47, 45), (45, .ifCond .eq 17, 48), (48, .aload_n 0, 49), (49, .bipush 100, 51), (51, .iload 4, 53), (53, .imul, 54), (54, .iload 5, 56), (56, .iadd, 57), (57, .iload 6, 59), (59, .invokevirtual 53, 62), (62, .iinc 5 1, 65), (65, .goto (-43), 68), (68, .iinc 4 1, 71), (71, .goto (-59), 74), (74, .return_, 75)] : List (Nat × Instr × Nat)).all (fun q => decide (pm_code 143 q.1 = some q.2)) = true := by decide +kernel
theorem c143_0 : pm_code 143 0 = some (.aload_n 0, 1) := pm_of cl143_0 0 (q := (0, .aload_n 0, 1)) rfl
theorem c143_1 : pm_code 143 1 = some (.invokevirtual 34, 4) := pm_of cl143_0 1 (q := (1, .invokevirtual 34, 4)) rfl
theorem c143_4 : pm_code 143 4 = some (.aload_n 1, 5) := pm_of cl143_0 2 (q := (4, .aload_n 1, 5)) rfl
theorem c143_5 : pm_code 143 5 = some (.iload_n 3, 6) := pm_of cl143_0 3 (q := (5, .iload_n 3, 6)) rfl
theorem c143_6 : pm_code 143 6 = some (.invokevirtual 37, 9) := pm_of cl143_0 4 (q := (6, .invokevirtual 37, 9)) rfl
theorem c143_9 : pm_code 143 9 = some (.iconst 1, 10) := pm_of cl143_0 5 (q := (9, .iconst 1, 10)) rfl
theorem c143_10 : pm_code 143 10 = some (.istore 4, 12) := pm_of cl143_0 6 (q := (10, .istore 4, 12)) rfl
theorem c143_12 : pm_code 143 12 = some (.iload 4, 14) := pm_of cl143_0 7 (q := (12, .iload 4, 14)) rfl
theorem c143_14 : pm_code 143 14 = some (.bipush 9, 16) := pm_of cl143_0 8 (q := (14, .bipush 9, 16)) rfl
theorem c143_16 : pm_code 143 16 = some (.if_icmp .gt 58, 19) := pm_of cl143_0 9 (q := (16, .if_icmp .gt 58, 19)) rfl
theorem c143_19 : pm_code 143 19 = some (.iconst 0, 20) := pm_of cl143_0 10 (q := (19, .iconst 0, 20)) rfl
theorem c143_20 : pm_code 143 20 = some (.istore 5, 22) := pm_of cl143_0 11 (q := (20, .istore 5, 22)) rfl
theorem c143_22 : pm_code 143 22 = some (.iload 5, 24) := pm_of cl143_0 12 (q := (22, .iload 5, 24)) rfl
theorem c143_24 : pm_code 143 24 = some (.bipush 24, 26) := pm_of cl143_0 13 (q := (24, .bipush 24, 26)) rfl
theorem c143_26 : pm_code 143 26 = some (.if_icmp .gt 42, 29) := pm_of cl143_0 14 (q := (26, .if_icmp .gt 42, 29)) rfl
theorem c143_29 : pm_code 143 29 = some (.aload_n 1, 30) := pm_of cl143_0 15 (q := (29, .aload_n 1, 30)) rfl
theorem c143_30 : pm_code 143 30 = some (.iload 4, 32) := pm_of cl143_0 16 (q := (30, .iload 4, 32)) rfl
theorem c143_32 : pm_code 143 32 = some (.iload 5, 34) := pm_of cl143_0 17 (q := (32, .iload 5, 34)) rfl
theorem c143_34 : pm_code 143 34 = some (.invokevirtual 43, 37) := pm_of cl143_0 18 (q := (34, .invokevirtual 43, 37)) rfl
theorem c143_37 : pm_code 143 37 = some (.istore 6, 39) := pm_of cl143_0 19 (q := (37, .istore 6, 39)) rfl
theorem c143_39 : pm_code 143 39 = some (.aload_n 2, 40) := pm_of cl143_0 20 (q := (39, .aload_n 2, 40)) rfl
theorem c143_40 : pm_code 143 40 = some (.iload 6, 42) := pm_of cl143_0 21 (q := (40, .iload 6, 42)) rfl
theorem c143_42 : pm_code 143 42 = some (.invokevirtual 47, 45) := pm_of cl143_0 22 (q := (42, .invokevirtual 47, 45)) rfl
theorem c143_45 : pm_code 143 45 = some (.ifCond .eq 17, 48) := pm_of cl143_0 23 (q := (45, .ifCond .eq 17, 48)) rfl
theorem c143_48 : pm_code 143 48 = some (.aload_n 0, 49) := pm_of cl143_0 24 (q := (48, .aload_n 0, 49)) rfl
theorem c143_49 : pm_code 143 49 = some (.bipush 100, 51) := pm_of cl143_0 25 (q := (49, .bipush 100, 51)) rfl
theorem c143_51 : pm_code 143 51 = some (.iload 4, 53) := pm_of cl143_0 26 (q := (51, .iload 4, 53)) rfl
theorem c143_53 : pm_code 143 53 = some (.imul, 54) := pm_of cl143_0 27 (q := (53, .imul, 54)) rfl
theorem c143_54 : pm_code 143 54 = some (.iload 5, 56) := pm_of cl143_0 28 (q := (54, .iload 5, 56)) rfl
theorem c143_56 : pm_code 143 56 = some (.iadd, 57) := pm_of cl143_0 29 (q := (56, .iadd, 57)) rfl
theorem c143_57 : pm_code 143 57 = some (.iload 6, 59) := pm_of cl143_0 30 (q := (57, .iload 6, 59)) rfl
theorem c143_59 : pm_code 143 59 = some (.invokevirtual 53, 62) := pm_of cl143_0 31 (q := (59, .invokevirtual 53, 62)) rfl
theorem c143_62 : pm_code 143 62 = some (.iinc 5 1, 65) := pm_of cl143_0 32 (q := (62, .iinc 5 1, 65)) rfl
theorem c143_65 : pm_code 143 65 = some (.goto (-43), 68) := pm_of cl143_0 33 (q := (65, .goto (-43), 68)) rfl
theorem c143_68 : pm_code 143 68 = some (.iinc 4 1, 71) := pm_of cl143_0 34 (q := (68, .iinc 4 1, 71)) rfl
theorem c143_71 : pm_code 143 71 = some (.goto (-59), 74) := pm_of cl143_0 35 (q := (71, .goto (-59), 74)) rfl
theorem c143_74 : pm_code 143 74 = some (.return_, 75) := pm_of cl143_0 36 (q := (74, .return_, 75)) rfl
theorem k144 : pm_k 144 = 9 := by decide +kernel
theorem ml144 : pm_ml 144 = 2 := by decide +kernel
theorem rt144 : pm_rt 144 = none := by decide +kernel
theorem hh144 : pm_hh 144 = [] := by decide +kernel
theorem rc144 : pm_cl 9 = (pm_y 144).cls := by decide +kernel
theorem cl144_0 : ([(0, .iconst 0, 1), (1, .istore_n 1, 2), (2, .iload_n 1, 3), (3, .aload_n 0, 4), (4, .getfield 9, 7), (7, .arraylength, 8), (8, .if_icmp .ge 16, 11), (11, .aload_n 0, 12), (12, .getfield 9, 15), (15, .iload_n 1, 16), (16, .iconst 0, 17), (17, .iastore, 18), (18, .iinc 1 1, 21), (21, .goto (-19), 24), (24, .aload_n 0, 25), (25, .iconst 0, 26), (26, .putfield 15, 29), (29, .aload_n 0, 30), (30, .iconst (-1), 31), (31, .putfield 19, 34), (34, .aload_n 0, 35), (35, .iconst (-1), 36), (36, .putfield 22, 39), (39, .aload_n 0, 40), (40, .iconst (-1), 41), (41, .putfield 25, 44), (44, .return_, 45)] : List (Nat × Instr × Nat)).all (fun q => decide (pm_code 144 q.1 = some q.2)) = true := by decide +kernel
theorem c144_0 : pm_code 144 0 = some (.iconst 0, 1) := pm_of cl144_0 0 (q := (0, .iconst 0, 1)) rfl
theorem c144_1 : pm_code 144 1 = some (.istore_n 1, 2) := pm_of cl144_0 1 (q := (1, .istore_n 1, 2)) rfl
theorem c144_2 : pm_code 144 2 = some (.iload_n 1, 3) := pm_of cl144_0 2 (q := (2, .iload_n 1, 3)) rfl
theorem c144_3 : pm_code 144 3 = some (.aload_n 0, 4) := pm_of cl144_0 3 (q := (3, .aload_n 0, 4)) rfl
theorem c144_4 : pm_code 144 4 = some (.getfield 9, 7) := pm_of cl144_0 4 (q := (4, .getfield 9, 7)) rfl
theorem c144_7 : pm_code 144 7 = some (.arraylength, 8) := pm_of cl144_0 5 (q := (7, .arraylength, 8)) rfl
theorem c144_8 : pm_code 144 8 = some (.if_icmp .ge 16, 11) := pm_of cl144_0 6 (q := (8, .if_icmp .ge 16, 11)) rfl
theorem c144_11 : pm_code 144 11 = some (.aload_n 0, 12) := pm_of cl144_0 7 (q := (11, .aload_n 0, 12)) rfl
theorem c144_12 : pm_code 144 12 = some (.getfield 9, 15) := pm_of cl144_0 8 (q := (12, .getfield 9, 15)) rfl
theorem c144_15 : pm_code 144 15 = some (.iload_n 1, 16) := pm_of cl144_0 9 (q := (15, .iload_n 1, 16)) rfl
theorem c144_16 : pm_code 144 16 = some (.iconst 0, 17) := pm_of cl144_0 10 (q := (16, .iconst 0, 17)) rfl
theorem c144_17 : pm_code 144 17 = some (.iastore, 18) := pm_of cl144_0 11 (q := (17, .iastore, 18)) rfl
theorem c144_18 : pm_code 144 18 = some (.iinc 1 1, 21) := pm_of cl144_0 12 (q := (18, .iinc 1 1, 21)) rfl
theorem c144_21 : pm_code 144 21 = some (.goto (-19), 24) := pm_of cl144_0 13 (q := (21, .goto (-19), 24)) rfl
theorem c144_24 : pm_code 144 24 = some (.aload_n 0, 25) := pm_of cl144_0 14 (q := (24, .aload_n 0, 25)) rfl
theorem c144_25 : pm_code 144 25 = some (.iconst 0, 26) := pm_of cl144_0 15 (q := (25, .iconst 0, 26)) rfl
theorem c144_26 : pm_code 144 26 = some (.putfield 15, 29) := pm_of cl144_0 16 (q := (26, .putfield 15, 29)) rfl
theorem c144_29 : pm_code 144 29 = some (.aload_n 0, 30) := pm_of cl144_0 17 (q := (29, .aload_n 0, 30)) rfl
theorem c144_30 : pm_code 144 30 = some (.iconst (-1), 31) := pm_of cl144_0 18 (q := (30, .iconst (-1), 31)) rfl
theorem c144_31 : pm_code 144 31 = some (.putfield 19, 34) := pm_of cl144_0 19 (q := (31, .putfield 19, 34)) rfl
theorem c144_34 : pm_code 144 34 = some (.aload_n 0, 35) := pm_of cl144_0 20 (q := (34, .aload_n 0, 35)) rfl
theorem c144_35 : pm_code 144 35 = some (.iconst (-1), 36) := pm_of cl144_0 21 (q := (35, .iconst (-1), 36)) rfl
theorem c144_36 : pm_code 144 36 = some (.putfield 22, 39) := pm_of cl144_0 22 (q := (36, .putfield 22, 39)) rfl
theorem c144_39 : pm_code 144 39 = some (.aload_n 0, 40) := pm_of cl144_0 23 (q := (39, .aload_n 0, 40)) rfl
theorem c144_40 : pm_code 144 40 = some (.iconst (-1), 41) := pm_of cl144_0 24 (q := (40, .iconst (-1), 41)) rfl
theorem c144_41 : pm_code 144 41 = some (.putfield 25, 44) := pm_of cl144_0 25 (q := (41, .putfield 25, 44)) rfl
theorem c144_44 : pm_code 144 44 = some (.return_, 45) := pm_of cl144_0 26 (q := (44, .return_, 45)) rfl
theorem k145 : pm_k 145 = 9 := by decide +kernel
theorem ml145 : pm_ml 145 = 3 := by decide +kernel
theorem rt145 : pm_rt 145 = none := by decide +kernel
theorem hh145 : pm_hh 145 = [] := by decide +kernel
theorem rc145 : pm_cl 9 = (pm_y 145).cls := by decide +kernel
theorem cl145_0 : ([(0, .aload_n 0, 1), (1, .getfield 15, 4), (4, .ifCond .ne 18, 7), (7, .aload_n 0, 8), (8, .iload_n 1, 9), (9, .putfield 19, 12), (12, .aload_n 0, 13), (13, .iload_n 2, 14), (14, .putfield 22, 17), (17, .aload_n 0, 18), (18, .iload_n 2, 19), (19, .putfield 25, 22), (22, .aload_n 0, 23), (23, .aload_n 0, 24), (24, .getfield 22, 27), (27, .iload_n 2, 28), (28, .invokestatic 57, 31), (31, .putfield 22, 34), (34, .aload_n 0, 35), (35, .aload_n 0, 36), (36, .getfield 25, 39), (39, .iload_n 2, 40), (40, .invokestatic 62, 43), (43, .putfield 25, 46), (46, .aload_n 0, 47), (47, .getfield 9, 50), (50, .iload_n 2, 51), (51, .aload_n 0, 52), (52, .getfield 9, 55), (55, .iload_n 2, 56), (56, .invokestatic 65, 59), (59, .iconst 1, 60), (60, .iadd, 61), (61, .invokestatic 69, 64), (64, .aload_n 0, 65), (65, .dup, 66), (66, .getfield 15, 69), (69, .iconst 1, 70), (70, .iadd, 71), (71, .putfield 15, 74)] : List (Nat × Instr × Nat)).all (fun q => decide (pm_code 145 q.1 = some q.2)) = true := by decide +kernel
theorem c145_0 : pm_code 145 0 = some (.aload_n 0, 1) := pm_of cl145_0 0 (q := (0, .aload_n 0, 1)) rfl
theorem c145_1 : pm_code 145 1 = some (.getfield 15, 4) := pm_of cl145_0 1 (q := (1, .getfield 15, 4)) rfl
theorem c145_4 : pm_code 145 4 = some (.ifCond .ne 18, 7) := pm_of cl145_0 2 (q := (4, .ifCond .ne 18, 7)) rfl
theorem c145_7 : pm_code 145 7 = some (.aload_n 0, 8) := pm_of cl145_0 3 (q := (7, .aload_n 0, 8)) rfl
theorem c145_8 : pm_code 145 8 = some (.iload_n 1, 9) := pm_of cl145_0 4 (q := (8, .iload_n 1, 9)) rfl
theorem c145_9 : pm_code 145 9 = some (.putfield 19, 12) := pm_of cl145_0 5 (q := (9, .putfield 19, 12)) rfl
theorem c145_12 : pm_code 145 12 = some (.aload_n 0, 13) := pm_of cl145_0 6 (q := (12, .aload_n 0, 13)) rfl
theorem c145_13 : pm_code 145 13 = some (.iload_n 2, 14) := pm_of cl145_0 7 (q := (13, .iload_n 2, 14)) rfl
theorem c145_14 : pm_code 145 14 = some (.putfield 22, 17) := pm_of cl145_0 8 (q := (14, .putfield 22, 17)) rfl
theorem c145_17 : pm_code 145 17 = some (.aload_n 0, 18) := pm_of cl145_0 9 (q := (17, .aload_n 0, 18)) rfl
theorem c145_18 : pm_code 145 18 = some (.iload_n 2, 19) := pm_of cl145_0 10 (q := (18, .iload_n 2, 19)) rfl
theorem c145_19 : pm_code 145 19 = some (.putfield 25, 22) := pm_of cl145_0 11 (q := (19, .putfield 25, 22)) rfl
theorem c145_22 : pm_code 145 22 = some (.aload_n 0, 23) := pm_of cl145_0 12 (q := (22, .aload_n 0, 23)) rfl
theorem c145_23 : pm_code 145 23 = some (.aload_n 0, 24) := pm_of cl145_0 13 (q := (23, .aload_n 0, 24)) rfl
theorem c145_24 : pm_code 145 24 = some (.getfield 22, 27) := pm_of cl145_0 14 (q := (24, .getfield 22, 27)) rfl
theorem c145_27 : pm_code 145 27 = some (.iload_n 2, 28) := pm_of cl145_0 15 (q := (27, .iload_n 2, 28)) rfl
theorem c145_28 : pm_code 145 28 = some (.invokestatic 57, 31) := pm_of cl145_0 16 (q := (28, .invokestatic 57, 31)) rfl
theorem c145_31 : pm_code 145 31 = some (.putfield 22, 34) := pm_of cl145_0 17 (q := (31, .putfield 22, 34)) rfl
theorem c145_34 : pm_code 145 34 = some (.aload_n 0, 35) := pm_of cl145_0 18 (q := (34, .aload_n 0, 35)) rfl
theorem c145_35 : pm_code 145 35 = some (.aload_n 0, 36) := pm_of cl145_0 19 (q := (35, .aload_n 0, 36)) rfl
theorem c145_36 : pm_code 145 36 = some (.getfield 25, 39) := pm_of cl145_0 20 (q := (36, .getfield 25, 39)) rfl
theorem c145_39 : pm_code 145 39 = some (.iload_n 2, 40) := pm_of cl145_0 21 (q := (39, .iload_n 2, 40)) rfl
theorem c145_40 : pm_code 145 40 = some (.invokestatic 62, 43) := pm_of cl145_0 22 (q := (40, .invokestatic 62, 43)) rfl
theorem c145_43 : pm_code 145 43 = some (.putfield 25, 46) := pm_of cl145_0 23 (q := (43, .putfield 25, 46)) rfl
theorem c145_46 : pm_code 145 46 = some (.aload_n 0, 47) := pm_of cl145_0 24 (q := (46, .aload_n 0, 47)) rfl
theorem c145_47 : pm_code 145 47 = some (.getfield 9, 50) := pm_of cl145_0 25 (q := (47, .getfield 9, 50)) rfl
theorem c145_50 : pm_code 145 50 = some (.iload_n 2, 51) := pm_of cl145_0 26 (q := (50, .iload_n 2, 51)) rfl
theorem c145_51 : pm_code 145 51 = some (.aload_n 0, 52) := pm_of cl145_0 27 (q := (51, .aload_n 0, 52)) rfl
theorem c145_52 : pm_code 145 52 = some (.getfield 9, 55) := pm_of cl145_0 28 (q := (52, .getfield 9, 55)) rfl
theorem c145_55 : pm_code 145 55 = some (.iload_n 2, 56) := pm_of cl145_0 29 (q := (55, .iload_n 2, 56)) rfl
theorem c145_56 : pm_code 145 56 = some (.invokestatic 65, 59) := pm_of cl145_0 30 (q := (56, .invokestatic 65, 59)) rfl
theorem c145_59 : pm_code 145 59 = some (.iconst 1, 60) := pm_of cl145_0 31 (q := (59, .iconst 1, 60)) rfl
theorem c145_60 : pm_code 145 60 = some (.iadd, 61) := pm_of cl145_0 32 (q := (60, .iadd, 61)) rfl
theorem c145_61 : pm_code 145 61 = some (.invokestatic 69, 64) := pm_of cl145_0 33 (q := (61, .invokestatic 69, 64)) rfl
theorem c145_64 : pm_code 145 64 = some (.aload_n 0, 65) := pm_of cl145_0 34 (q := (64, .aload_n 0, 65)) rfl
theorem c145_65 : pm_code 145 65 = some (.dup, 66) := pm_of cl145_0 35 (q := (65, .dup, 66)) rfl
theorem c145_66 : pm_code 145 66 = some (.getfield 15, 69) := pm_of cl145_0 36 (q := (66, .getfield 15, 69)) rfl
theorem c145_69 : pm_code 145 69 = some (.iconst 1, 70) := pm_of cl145_0 37 (q := (69, .iconst 1, 70)) rfl
theorem c145_70 : pm_code 145 70 = some (.iadd, 71) := pm_of cl145_0 38 (q := (70, .iadd, 71)) rfl
theorem c145_71 : pm_code 145 71 = some (.putfield 15, 74) := pm_of cl145_0 39 (q := (71, .putfield 15, 74)) rfl
theorem cl145_1 : ([(74, .return_, 75)] : List (Nat × Instr × Nat)).all (fun q => decide (pm_code 145 q.1 = some q.2)) = true := by decide +kernel
theorem c145_74 : pm_code 145 74 = some (.return_, 75) := pm_of cl145_1 0 (q := (74, .return_, 75)) rfl
