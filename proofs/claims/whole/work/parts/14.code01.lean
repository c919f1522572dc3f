/-! WHAT STANDS AT EVERY PLACE, ON -/
theorem k45 : pm_k 45 = 3 := by decide +kernel
theorem ml45 : pm_ml 45 = 3 := by decide +kernel
theorem rt45 : pm_rt 45 = (some .boolean) := by decide +kernel
theorem hh45 : pm_hh 45 = [] := by decide +kernel
theorem rc45 : pm_cl 3 = (pm_y 45).cls := by decide +kernel
theorem cl45_0 : ([(0, .aload_n 0, 1), (1, .iload_n 1, 2), (2, .iconst 3, 3), (3, .invokevirtual 60, 6), (6, .ifCond .ne 16, 9), (9, .aload_n 0, 10), (10, .getfield 12, 13), (13, .iconst 5, 14), (14, .iload_n 1, 15), (15, .invokevirtual 52, 18), (18, .iload_n 2, 19), (19, .if_icmp .ne 5, 22), (22, .iconst 0, 23), (23, .ireturn, 24), (24, .aload_n 0, 25), (25, .getfield 12, 28), (28, .iconst 5, 29), (29, .iload_n 1, 30), (30, .iload_n 2, 31), (31, .invokevirtual 170, 34), (34, .iconst 1, 35), (35, .ireturn, 36)] : List (Nat × Instr × Nat)).all (fun q => decide (pm_code 45 q.1 = some q.2)) = true := by decide +kernel
theorem c45_0 : pm_code 45 0 = some (.aload_n 0, 1) := pm_of cl45_0 0 (q := (0, .aload_n 0, 1)) rfl
theorem c45_1 : pm_code 45 1 = some (.iload_n 1, 2) := pm_of cl45_0 1 (q := (1, .iload_n 1, 2)) rfl
theorem c45_2 : pm_code 45 2 = some (.iconst 3, 3) := pm_of cl45_0 2 (q := (2, .iconst 3, 3)) rfl
theorem c45_3 : pm_code 45 3 = some (.invokevirtual 60, 6) := pm_of cl45_0 3 (q := (3, .invokevirtual 60, 6)) rfl
theorem c45_6 : pm_code 45 6 = some (.ifCond .ne 16, 9) := pm_of cl45_0 4 (q := (6, .ifCond .ne 16, 9)) rfl
theorem c45_9 : pm_code 45 9 = some (.aload_n 0, 10) := pm_of cl45_0 5 (q := (9, .aload_n 0, 10)) rfl
theorem c45_10 : pm_code 45 10 = some (.getfield 12, 13) := pm_of cl45_0 6 (q := (10, .getfield 12, 13)) rfl
theorem c45_13 : pm_code 45 13 = some (.iconst 5, 14) := pm_of cl45_0 7 (q := (13, .iconst 5, 14)) rfl
theorem c45_14 : pm_code 45 14 = some (.iload_n 1, 15) := pm_of cl45_0 8 (q := (14, .iload_n 1, 15)) rfl
theorem c45_15 : pm_code 45 15 = some (.invokevirtual 52, 18) := pm_of cl45_0 9 (q := (15, .invokevirtual 52, 18)) rfl
theorem c45_18 : pm_code 45 18 = some (.iload_n 2, 19) := pm_of cl45_0 10 (q := (18, .iload_n 2, 19)) rfl
theorem c45_19 : pm_code 45 19 = some (.if_icmp .ne 5, 22) := pm_of cl45_0 11 (q := (19, .if_icmp .ne 5, 22)) rfl
theorem c45_22 : pm_code 45 22 = some (.iconst 0, 23) := pm_of cl45_0 12 (q := (22, .iconst 0, 23)) rfl
theorem c45_23 : pm_code 45 23 = some (.ireturn, 24) := pm_of cl45_0 13 (q := (23, .ireturn, 24)) rfl
theorem c45_24 : pm_code 45 24 = some (.aload_n 0, 25) := pm_of cl45_0 14 (q := (24, .aload_n 0, 25)) rfl
theorem c45_25 : pm_code 45 25 = some (.getfield 12, 28) := pm_of cl45_0 15 (q := (25, .getfield 12, 28)) rfl
theorem c45_28 : pm_code 45 28 = some (.iconst 5, 29) := pm_of cl45_0 16 (q := (28, .iconst 5, 29)) rfl
theorem c45_29 : pm_code 45 29 = some (.iload_n 1, 30) := pm_of cl45_0 17 (q := (29, .iload_n 1, 30)) rfl
theorem c45_30 : pm_code 45 30 = some (.iload_n 2, 31) := pm_of cl45_0 18 (q := (30, .iload_n 2, 31)) rfl
theorem c45_31 : pm_code 45 31 = some (.invokevirtual 170, 34) := pm_of cl45_0 19 (q := (31, .invokevirtual 170, 34)) rfl
theorem c45_34 : pm_code 45 34 = some (.iconst 1, 35) := pm_of cl45_0 20 (q := (34, .iconst 1, 35)) rfl
theorem c45_35 : pm_code 45 35 = some (.ireturn, 36) := pm_of cl45_0 21 (q := (35, .ireturn, 36)) rfl
theorem k46 : pm_k 46 = 3 := by decide +kernel
theorem ml46 : pm_ml 46 = 3 := by decide +kernel
theorem rt46 : pm_rt 46 = (some .boolean) := by decide +kernel
theorem hh46 : pm_hh 46 = [] := by decide +kernel
theorem rc46 : pm_cl 3 = (pm_y 46).cls := by decide +kernel
theorem cl46_0 : ([(0, .aload_n 0, 1), (1, .iload_n 1, 2), (2, .invokevirtual 131, 5), (5, .iconst 4, 6), (6, .idiv, 7), (7, .istore_n 2, 8), (8, .aload_n 0, 9), (9, .iload_n 1, 10), (10, .iload_n 2, 11), (11, .invokevirtual 177, 14), (14, .ifCond .ne 5, 17), (17, .iconst 0, 18), (18, .ireturn, 19), (19, .aload_n 0, 20), (20, .getfield 12, 23), (23, .bipush 6, 25), (25, .iload_n 1, 26), (26, .aload_n 0, 27), (27, .getfield 12, 30), (30, .bipush 6, 32), (32, .iload_n 1, 33), (33, .invokevirtual 52, 36), (36, .iload_n 2, 37), (37, .isub, 38), (38, .invokevirtual 170, 41), (41, .aload_n 0, 42), (42, .iload_n 1, 43), (43, .invokevirtual 180, 46), (46, .iconst 1, 47), (47, .ireturn, 48)] : List (Nat × Instr × Nat)).all (fun q => decide (pm_code 46 q.1 = some q.2)) = true := by decide +kernel
theorem c46_0 : pm_code 46 0 = some (.aload_n 0, 1) := pm_of cl46_0 0 (q := (0, .aload_n 0, 1)) rfl
theorem c46_1 : pm_code 46 1 = some (.iload_n 1, 2) := pm_of cl46_0 1 (q := (1, .iload_n 1, 2)) rfl
theorem c46_2 : pm_code 46 2 = some (.invokevirtual 131, 5) := pm_of cl46_0 2 (q := (2, .invokevirtual 131, 5)) rfl
theorem c46_5 : pm_code 46 5 = some (.iconst 4, 6) := pm_of cl46_0 3 (q := (5, .iconst 4, 6)) rfl
theorem c46_6 : pm_code 46 6 = some (.idiv, 7) := pm_of cl46_0 4 (q := (6, .idiv, 7)) rfl
theorem c46_7 : pm_code 46 7 = some (.istore_n 2, 8) := pm_of cl46_0 5 (q := (7, .istore_n 2, 8)) rfl
theorem c46_8 : pm_code 46 8 = some (.aload_n 0, 9) := pm_of cl46_0 6 (q := (8, .aload_n 0, 9)) rfl
theorem c46_9 : pm_code 46 9 = some (.iload_n 1, 10) := pm_of cl46_0 7 (q := (9, .iload_n 1, 10)) rfl
theorem c46_10 : pm_code 46 10 = some (.iload_n 2, 11) := pm_of cl46_0 8 (q := (10, .iload_n 2, 11)) rfl
theorem c46_11 : pm_code 46 11 = some (.invokevirtual 177, 14) := pm_of cl46_0 9 (q := (11, .invokevirtual 177, 14)) rfl
theorem c46_14 : pm_code 46 14 = some (.ifCond .ne 5, 17) := pm_of cl46_0 10 (q := (14, .ifCond .ne 5, 17)) rfl
theorem c46_17 : pm_code 46 17 = some (.iconst 0, 18) := pm_of cl46_0 11 (q := (17, .iconst 0, 18)) rfl
theorem c46_18 : pm_code 46 18 = some (.ireturn, 19) := pm_of cl46_0 12 (q := (18, .ireturn, 19)) rfl
theorem c46_19 : pm_code 46 19 = some (.aload_n 0, 20) := pm_of cl46_0 13 (q := (19, .aload_n 0, 20)) rfl
theorem c46_20 : pm_code 46 20 = some (.getfield 12, 23) := pm_of cl46_0 14 (q := (20, .getfield 12, 23)) rfl
theorem c46_23 : pm_code 46 23 = some (.bipush 6, 25) := pm_of cl46_0 15 (q := (23, .bipush 6, 25)) rfl
theorem c46_25 : pm_code 46 25 = some (.iload_n 1, 26) := pm_of cl46_0 16 (q := (25, .iload_n 1, 26)) rfl
theorem c46_26 : pm_code 46 26 = some (.aload_n 0, 27) := pm_of cl46_0 17 (q := (26, .aload_n 0, 27)) rfl
theorem c46_27 : pm_code 46 27 = some (.getfield 12, 30) := pm_of cl46_0 18 (q := (27, .getfield 12, 30)) rfl
theorem c46_30 : pm_code 46 30 = some (.bipush 6, 32) := pm_of cl46_0 19 (q := (30, .bipush 6, 32)) rfl
theorem c46_32 : pm_code 46 32 = some (.iload_n 1, 33) := pm_of cl46_0 20 (q := (32, .iload_n 1, 33)) rfl
theorem c46_33 : pm_code 46 33 = some (.invokevirtual 52, 36) := pm_of cl46_0 21 (q := (33, .invokevirtual 52, 36)) rfl
theorem c46_36 : pm_code 46 36 = some (.iload_n 2, 37) := pm_of cl46_0 22 (q := (36, .iload_n 2, 37)) rfl
theorem c46_37 : pm_code 46 37 = some (.isub, 38) := pm_of cl46_0 23 (q := (37, .isub, 38)) rfl
theorem c46_38 : pm_code 46 38 = some (.invokevirtual 170, 41) := pm_of cl46_0 24 (q := (38, .invokevirtual 170, 41)) rfl
theorem c46_41 : pm_code 46 41 = some (.aload_n 0, 42) := pm_of cl46_0 25 (q := (41, .aload_n 0, 42)) rfl
theorem c46_42 : pm_code 46 42 = some (.iload_n 1, 43) := pm_of cl46_0 26 (q := (42, .iload_n 1, 43)) rfl
theorem c46_43 : pm_code 46 43 = some (.invokevirtual 180, 46) := pm_of cl46_0 27 (q := (43, .invokevirtual 180, 46)) rfl
theorem c46_46 : pm_code 46 46 = some (.iconst 1, 47) := pm_of cl46_0 28 (q := (46, .iconst 1, 47)) rfl
theorem c46_47 : pm_code 46 47 = some (.ireturn, 48) := pm_of cl46_0 29 (q := (47, .ireturn, 48)) rfl
theorem k47 : pm_k 47 = 3 := by decide +kernel
theorem ml47 : pm_ml 47 = 2 := by decide +kernel
theorem rt47 : pm_rt 47 = (some .int) := by decide +kernel
theorem hh47 : pm_hh 47 = [] := by decide +kernel
theorem rc47 : pm_cl 3 = (pm_y 47).cls := by decide +kernel
theorem cl47_0 : ([(0, .aload_n 0, 1), (1, .iload_n 1, 2), (2, .iconst 3, 3), (3, .invokevirtual 60, 6), (6, .ifCond .eq 5, 9), (9, .iconst 0, 10), (10, .ireturn, 11), (11, .aload_n 0, 12), (12, .iload_n 1, 13), (13, .invokevirtual 97, 16), (16, .iconst 0, 17), (17, .aload_n 0, 18), (18, .getfield 21, 21), (21, .aload_n 0, 22), (22, .getfield 28, 25), (25, .invokevirtual 105, 28), (28, .aload_n 0, 29), (29, .getfield 12, 32), (32, .iconst 2, 33), (33, .iload_n 1, 34), (34, .invokevirtual 52, 37), (37, .isub, 38), (38, .invokestatic 71, 41), (41, .ireturn, 42)] : List (Nat × Instr × Nat)).all (fun q => decide (pm_code 47 q.1 = some q.2)) = true := by decide +kernel
theorem c47_0 : pm_code 47 0 = some (.aload_n 0, 1) := pm_of cl47_0 0 (q := (0, .aload_n 0, 1)) rfl
theorem c47_1 : pm_code 47 1 = some (.iload_n 1, 2) := pm_of cl47_0 1 (q := (1, .iload_n 1, 2)) rfl
theorem c47_2 : pm_code 47 2 = some (.iconst 3, 3) := pm_of cl47_0 2 (q := (2, .iconst 3, 3)) rfl
theorem c47_3 : pm_code 47 3 = some (.invokevirtual 60, 6) := pm_of cl47_0 3 (q := (3, .invokevirtual 60, 6)) rfl
theorem c47_6 : pm_code 47 6 = some (.ifCond .eq 5, 9) := pm_of cl47_0 4 (q := (6, .ifCond .eq 5, 9)) rfl
theorem c47_9 : pm_code 47 9 = some (.iconst 0, 10) := pm_of cl47_0 5 (q := (9, .iconst 0, 10)) rfl
theorem c47_10 : pm_code 47 10 = some (.ireturn, 11) := pm_of cl47_0 6 (q := (10, .ireturn, 11)) rfl
theorem c47_11 : pm_code 47 11 = some (.aload_n 0, 12) := pm_of cl47_0 7 (q := (11, .aload_n 0, 12)) rfl
theorem c47_12 : pm_code 47 12 = some (.iload_n 1, 13) := pm_of cl47_0 8 (q := (12, .iload_n 1, 13)) rfl
theorem c47_13 : pm_code 47 13 = some (.invokevirtual 97, 16) := pm_of cl47_0 9 (q := (13, .invokevirtual 97, 16)) rfl
theorem c47_16 : pm_code 47 16 = some (.iconst 0, 17) := pm_of cl47_0 10 (q := (16, .iconst 0, 17)) rfl
theorem c47_17 : pm_code 47 17 = some (.aload_n 0, 18) := pm_of cl47_0 11 (q := (17, .aload_n 0, 18)) rfl
theorem c47_18 : pm_code 47 18 = some (.getfield 21, 21) := pm_of cl47_0 12 (q := (18, .getfield 21, 21)) rfl
theorem c47_21 : pm_code 47 21 = some (.aload_n 0, 22) := pm_of cl47_0 13 (q := (21, .aload_n 0, 22)) rfl
theorem c47_22 : pm_code 47 22 = some (.getfield 28, 25) := pm_of cl47_0 14 (q := (22, .getfield 28, 25)) rfl
theorem c47_25 : pm_code 47 25 = some (.invokevirtual 105, 28) := pm_of cl47_0 15 (q := (25, .invokevirtual 105, 28)) rfl
theorem c47_28 : pm_code 47 28 = some (.aload_n 0, 29) := pm_of cl47_0 16 (q := (28, .aload_n 0, 29)) rfl
theorem c47_29 : pm_code 47 29 = some (.getfield 12, 32) := pm_of cl47_0 17 (q := (29, .getfield 12, 32)) rfl
theorem c47_32 : pm_code 47 32 = some (.iconst 2, 33) := pm_of cl47_0 18 (q := (32, .iconst 2, 33)) rfl
theorem c47_33 : pm_code 47 33 = some (.iload_n 1, 34) := pm_of cl47_0 19 (q := (33, .iload_n 1, 34)) rfl
theorem c47_34 : pm_code 47 34 = some (.invokevirtual 52, 37) := pm_of cl47_0 20 (q := (34, .invokevirtual 52, 37)) rfl
theorem c47_37 : pm_code 47 37 = some (.isub, 38) := pm_of cl47_0 21 (q := (37, .isub, 38)) rfl
theorem c47_38 : pm_code 47 38 = some (.invokestatic 71, 41) := pm_of cl47_0 22 (q := (38, .invokestatic 71, 41)) rfl
theorem c47_41 : pm_code 47 41 = some (.ireturn, 42) := pm_of cl47_0 23 (q := (41, .ireturn, 42)) rfl
theorem k48 : pm_k 48 = 3 := by decide +kernel
theorem ml48 : pm_ml 48 = 3 := by decide +kernel
theorem rt48 : pm_rt 48 = (some .boolean) := by decide +kernel
theorem hh48 : pm_hh 48 = [] := by decide +kernel
theorem rc48 : pm_cl 3 = (pm_y 48).cls := by decide +kernel
theorem cl48_0 : ([(0, .aload_n 0, 1), (1, .iload_n 1, 2), (2, .iconst 1, 3), (3, .invokevirtual 60, 6), (6, .ifCond .ne 12, 9), (9, .aload_n 0, 10), (10, .iload_n 1, 11), (11, .iconst 2, 12), (12, .invokevirtual 60, 15), (15, .ifCond .eq 21, 18), (18, .aload_n 0, 19), (19, .getfield 12, 22), (22, .bipush 6, 24), (24, .iload_n 1, 25), (25, .invokevirtual 52, 28), (28, .iload_n 2, 29), (29, .if_icmp .lt 7, 32), (32, .iconst 1, 33), (33, .goto 4, 36), (36, .iconst 0, 37), (37, .ireturn, 38)] : List (Nat × Instr × Nat)).all (fun q => decide (pm_code 48 q.1 = some q.2)) = true := by decide +kernel
theorem c48_0 : pm_code 48 0 = some (.aload_n 0, 1) := pm_of cl48_0 0 (q := (0, .aload_n 0, 1)) rfl
theorem c48_1 : pm_code 48 1 = some (.iload_n 1, 2) := pm_of cl48_0 1 (q := (1, .iload_n 1, 2)) rfl
theorem c48_2 : pm_code 48 2 = some (.iconst 1, 3) := pm_of cl48_0 2 (q := (2, .iconst 1, 3)) rfl
theorem c48_3 : pm_code 48 3 = some (.invokevirtual 60, 6) := pm_of cl48_0 3 (q := (3, .invokevirtual 60, 6)) rfl
theorem c48_6 : pm_code 48 6 = some (.ifCond .ne 12, 9) := pm_of cl48_0 4 (q := (6, .ifCond .ne 12, 9)) rfl
theorem c48_9 : pm_code 48 9 = some (.aload_n 0, 10) := pm_of cl48_0 5 (q := (9, .aload_n 0, 10)) rfl
theorem c48_10 : pm_code 48 10 = some (.iload_n 1, 11) := pm_of cl48_0 6 (q := (10, .iload_n 1, 11)) rfl
theorem c48_11 : pm_code 48 11 = some (.iconst 2, 12) := pm_of cl48_0 7 (q := (11, .iconst 2, 12)) rfl
theorem c48_12 : pm_code 48 12 = some (.invokevirtual 60, 15) := pm_of cl48_0 8 (q := (12, .invokevirtual 60, 15)) rfl
theorem c48_15 : pm_code 48 15 = some (.ifCond .eq 21, 18) := pm_of cl48_0 9 (q := (15, .ifCond .eq 21, 18)) rfl
theorem c48_18 : pm_code 48 18 = some (.aload_n 0, 19) := pm_of cl48_0 10 (q := (18, .aload_n 0, 19)) rfl
theorem c48_19 : pm_code 48 19 = some (.getfield 12, 22) := pm_of cl48_0 11 (q := (19, .getfield 12, 22)) rfl
theorem c48_22 : pm_code 48 22 = some (.bipush 6, 24) := pm_of cl48_0 12 (q := (22, .bipush 6, 24)) rfl
theorem c48_24 : pm_code 48 24 = some (.iload_n 1, 25) := pm_of cl48_0 13 (q := (24, .iload_n 1, 25)) rfl
theorem c48_25 : pm_code 48 25 = some (.invokevirtual 52, 28) := pm_of cl48_0 14 (q := (25, .invokevirtual 52, 28)) rfl
theorem c48_28 : pm_code 48 28 = some (.iload_n 2, 29) := pm_of cl48_0 15 (q := (28, .iload_n 2, 29)) rfl
theorem c48_29 : pm_code 48 29 = some (.if_icmp .lt 7, 32) := pm_of cl48_0 16 (q := (29, .if_icmp .lt 7, 32)) rfl
theorem c48_32 : pm_code 48 32 = some (.iconst 1, 33) := pm_of cl48_0 17 (q := (32, .iconst 1, 33)) rfl
theorem c48_33 : pm_code 48 33 = some (.goto 4, 36) := pm_of cl48_0 18 (q := (33, .goto 4, 36)) rfl
theorem c48_36 : pm_code 48 36 = some (.iconst 0, 37) := pm_of cl48_0 19 (q := (36, .iconst 0, 37)) rfl
theorem c48_37 : pm_code 48 37 = some (.ireturn, 38) := pm_of cl48_0 20 (q := (37, .ireturn, 38)) rfl
theorem k49 : pm_k 49 = 3 := by decide +kernel
theorem ml49 : pm_ml 49 = 2 := by decide +kernel
theorem rt49 : pm_rt 49 = none := by decide +kernel
theorem hh49 : pm_hh 49 = [] := by decide +kernel
theorem rc49 : pm_cl 3 = (pm_y 49).cls := by decide +kernel
theorem cl49_0 : ([(0, .aload_n 0, 1), (1, .getfield 12, 4), (4, .iconst 0, 5), (5, .iload_n 1, 6), (6, .iconst 3, 7), (7, .invokevirtual 170, 10), (10, .aload_n 0, 11), (11, .getfield 12, 14), (14, .iconst 1, 15), (15, .iload_n 1, 16), (16, .iconst (-1), 17), (17, .invokevirtual 170, 20), (20, .return_, 21)] : List (Nat × Instr × Nat)).all (fun q => decide (pm_code 49 q.1 = some q.2)) = true := by decide +kernel
theorem c49_0 : pm_code 49 0 = some (.aload_n 0, 1) := pm_of cl49_0 0 (q := (0, .aload_n 0, 1)) rfl
theorem c49_1 : pm_code 49 1 = some (.getfield 12, 4) := pm_of cl49_0 1 (q := (1, .getfield 12, 4)) rfl
theorem c49_4 : pm_code 49 4 = some (.iconst 0, 5) := pm_of cl49_0 2 (q := (4, .iconst 0, 5)) rfl
theorem c49_5 : pm_code 49 5 = some (.iload_n 1, 6) := pm_of cl49_0 3 (q := (5, .iload_n 1, 6)) rfl
theorem c49_6 : pm_code 49 6 = some (.iconst 3, 7) := pm_of cl49_0 4 (q := (6, .iconst 3, 7)) rfl
theorem c49_7 : pm_code 49 7 = some (.invokevirtual 170, 10) := pm_of cl49_0 5 (q := (7, .invokevirtual 170, 10)) rfl
theorem c49_10 : pm_code 49 10 = some (.aload_n 0, 11) := pm_of cl49_0 6 (q := (10, .aload_n 0, 11)) rfl
theorem c49_11 : pm_code 49 11 = some (.getfield 12, 14) := pm_of cl49_0 7 (q := (11, .getfield 12, 14)) rfl
theorem c49_14 : pm_code 49 14 = some (.iconst 1, 15) := pm_of cl49_0 8 (q := (14, .iconst 1, 15)) rfl
theorem c49_15 : pm_code 49 15 = some (.iload_n 1, 16) := pm_of cl49_0 9 (q := (15, .iload_n 1, 16)) rfl
theorem c49_16 : pm_code 49 16 = some (.iconst (-1), 17) := pm_of cl49_0 10 (q := (16, .iconst (-1), 17)) rfl
theorem c49_17 : pm_code 49 17 = some (.invokevirtual 170, 20) := pm_of cl49_0 11 (q := (17, .invokevirtual 170, 20)) rfl
theorem c49_20 : pm_code 49 20 = some (.return_, 21) := pm_of cl49_0 12 (q := (20, .return_, 21)) rfl
theorem k50 : pm_k 50 = 3 := by decide +kernel
theorem ml50 : pm_ml 50 = 2 := by decide +kernel
theorem rt50 : pm_rt 50 = (some .boolean) := by decide +kernel
theorem hh50 : pm_hh 50 = [] := by decide +kernel
theorem rc50 : pm_cl 3 = (pm_y 50).cls := by decide +kernel
theorem cl50_0 : ([(0, .aload_n 0, 1), (1, .getfield 12, 4), (4, .invokevirtual 94, 7), (7, .sipush 900, 10), (10, .if_icmp .lt 5, 13), (13, .iconst 0, 14), (14, .ireturn, 15), (15, .iconst 0, 16), (16, .istore_n 1, 17), (17, .iload_n 1, 18), (18, .aload_n 0, 19), (19, .getfield 41, 22), (22, .invokevirtual 56, 25), (25, .if_icmp .ge 55, 28), (28, .aload_n 0, 29), (29, .iload_n 1, 30), (30, .iconst 0, 31), (31, .invokevirtual 60, 34), (34, .ifCond .eq 11, 37), (37, .aload_n 0, 38), (38, .iload_n 1, 39), (39, .invokevirtual 183, 42), (42, .goto 32, 45), (45, .aload_n 0, 46), (46, .iload_n 1, 47), (47, .iconst 2, 48), (48, .invokevirtual 60, 51), (51, .ifCond .eq 23, 54), (54, .aload_n 0, 55), (55, .getfield 12, 58), (58, .iconst 2, 59), (59, .iload_n 1, 60), (60, .aload_n 0, 61), (61, .getfield 12, 64), (64, .iconst 2, 65), (65, .iload_n 1, 66), (66, .invokevirtual 52, 69), (69, .iconst 1, 70), (70, .iadd, 71), (71, .invokevirtual 170, 74)] : List (Nat × Instr × Nat)).all (fun q => decide (pm_code 50 q.1 = some q.2)) = true := by decide +kernel
theorem c50_0 : pm_code 50 0 = some (.aload_n 0, 1) := pm_of cl50_0 0 (q := (0, .aload_n 0, 1)) rfl
theorem c50_1 : pm_code 50 1 = some (.getfield 12, 4) := pm_of cl50_0 1 (q := (1, .getfield 12, 4)) rfl
theorem c50_4 : pm_code 50 4 = some (.invokevirtual 94, 7) := pm_of cl50_0 2 (q := (4, .invokevirtual 94, 7)) rfl
theorem c50_7 : pm_code 50 7 = some (.sipush 900, 10) := pm_of cl50_0 3 (q := (7, .sipush 900, 10)) rfl
theorem c50_10 : pm_code 50 10 = some (.if_icmp .lt 5, 13) := pm_of cl50_0 4 (q := (10, .if_icmp .lt 5, 13)) rfl
theorem c50_13 : pm_code 50 13 = some (.iconst 0, 14) := pm_of cl50_0 5 (q := (13, .iconst 0, 14)) rfl
theorem c50_14 : pm_code 50 14 = some (.ireturn, 15) := pm_of cl50_0 6 (q := (14, .ireturn, 15)) rfl
theorem c50_15 : pm_code 50 15 = some (.iconst 0, 16) := pm_of cl50_0 7 (q := (15, .iconst 0, 16)) rfl
theorem c50_16 : pm_code 50 16 = some (.istore_n 1, 17) := pm_of cl50_0 8 (q := (16, .istore_n 1, 17)) rfl
theorem c50_17 : pm_code 50 17 = some (.iload_n 1, 18) := pm_of cl50_0 9 (q := (17, .iload_n 1, 18)) rfl
theorem c50_18 : pm_code 50 18 = some (.aload_n 0, 19) := pm_of cl50_0 10 (q := (18, .aload_n 0, 19)) rfl
theorem c50_19 : pm_code 50 19 = some (.getfield 41, 22) := pm_of cl50_0 11 (q := (19, .getfield 41, 22)) rfl
theorem c50_22 : pm_code 50 22 = some (.invokevirtual 56, 25) := pm_of cl50_0 12 (q := (22, .invokevirtual 56, 25)) rfl
theorem c50_25 : pm_code 50 25 = some (.if_icmp .ge 55, 28) := pm_of cl50_0 13 (q := (25, .if_icmp .ge 55, 28)) rfl
theorem c50_28 : pm_code 50 28 = some (.aload_n 0, 29) := pm_of cl50_0 14 (q := (28, .aload_n 0, 29)) rfl
theorem c50_29 : pm_code 50 29 = some (.iload_n 1, 30) := pm_of cl50_0 15 (q := (29, .iload_n 1, 30)) rfl
theorem c50_30 : pm_code 50 30 = some (.iconst 0, 31) := pm_of cl50_0 16 (q := (30, .iconst 0, 31)) rfl
theorem c50_31 : pm_code 50 31 = some (.invokevirtual 60, 34) := pm_of cl50_0 17 (q := (31, .invokevirtual 60, 34)) rfl
theorem c50_34 : pm_code 50 34 = some (.ifCond .eq 11, 37) := pm_of cl50_0 18 (q := (34, .ifCond .eq 11, 37)) rfl
theorem c50_37 : pm_code 50 37 = some (.aload_n 0, 38) := pm_of cl50_0 19 (q := (37, .aload_n 0, 38)) rfl
theorem c50_38 : pm_code 50 38 = some (.iload_n 1, 39) := pm_of cl50_0 20 (q := (38, .iload_n 1, 39)) rfl
theorem c50_39 : pm_code 50 39 = some (.invokevirtual 183, 42) := pm_of cl50_0 21 (q := (39, .invokevirtual 183, 42)) rfl
theorem c50_42 : pm_code 50 42 = some (.goto 32, 45) := pm_of cl50_0 22 (q := (42, .goto 32, 45)) rfl
theorem c50_45 : pm_code 50 45 = some (.aload_n 0, 46) := pm_of cl50_0 23 (q := (45, .aload_n 0, 46)) rfl
theorem c50_46 : pm_code 50 46 = some (.iload_n 1, 47) := pm_of cl50_0 24 (q := (46, .iload_n 1, 47)) rfl
theorem c50_47 : pm_code 50 47 = some (.iconst 2, 48) := pm_of cl50_0 25 (q := (47, .iconst 2, 48)) rfl
theorem c50_48 : pm_code 50 48 = some (.invokevirtual 60, 51) := pm_of cl50_0 26 (q := (48, .invokevirtual 60, 51)) rfl
theorem c50_51 : pm_code 50 51 = some (.ifCond .eq 23, 54) := pm_of cl50_0 27 (q := (51, .ifCond .eq 23, 54)) rfl
theorem c50_54 : pm_code 50 54 = some (.aload_n 0, 55) := pm_of cl50_0 28 (q := (54, .aload_n 0, 55)) rfl
theorem c50_55 : pm_code 50 55 = some (.getfield 12, 58) := pm_of cl50_0 29 (q := (55, .getfield 12, 58)) rfl
theorem c50_58 : pm_code 50 58 = some (.iconst 2, 59) := pm_of cl50_0 30 (q := (58, .iconst 2, 59)) rfl
theorem c50_59 : pm_code 50 59 = some (.iload_n 1, 60) := pm_of cl50_0 31 (q := (59, .iload_n 1, 60)) rfl
theorem c50_60 : pm_code 50 60 = some (.aload_n 0, 61) := pm_of cl50_0 32 (q := (60, .aload_n 0, 61)) rfl
theorem c50_61 : pm_code 50 61 = some (.getfield 12, 64) := pm_of cl50_0 33 (q := (61, .getfield 12, 64)) rfl
theorem c50_64 : pm_code 50 64 = some (.iconst 2, 65) := pm_of cl50_0 34 (q := (64, .iconst 2, 65)) rfl
theorem c50_65 : pm_code 50 65 = some (.iload_n 1, 66) := pm_of cl50_0 35 (q := (65, .iload_n 1, 66)) rfl
theorem c50_66 : pm_code 50 66 = some (.invokevirtual 52, 69) := pm_of cl50_0 36 (q := (66, .invokevirtual 52, 69)) rfl
theorem c50_69 : pm_code 50 69 = some (.iconst 1, 70) := pm_of cl50_0 37 (q := (69, .iconst 1, 70)) rfl
theorem c50_70 : pm_code 50 70 = some (.iadd, 71) := pm_of cl50_0 38 (q := (70, .iadd, 71)) rfl
theorem c50_71 : pm_code 50 71 = some (.invokevirtual 170, 74) := pm_of cl50_0 39 (q := (71, .invokevirtual 170, 74)) rfl
theorem cl50_1 : ([(74, .iinc 1 1, 77), (77, .goto (-60), 80), (80, .aload_n 0, 81), (81, .getfield 12, 84), (84, .aload_n 0, 85), (85, .getfield 12, 88), (88, .invokevirtual 94, 91), (91, .iconst 1, 92), (92, .iadd, 93), (93, .invokevirtual 186, 96), (96, .iconst 0, 97), (97, .istore_n 1, 98), (98, .iload_n 1, 99), (99, .aload_n 0, 100), (100, .getfield 41, 103), (103, .invokevirtual 56, 106), (106, .if_icmp .ge 31, 109), (109, .aload_n 0, 110), (110, .iload_n 1, 111), (111, .iconst 2, 112), (112, .invokevirtual 60, 115), (115, .ifCond .eq 16, 118), (118, .aload_n 0, 119), (119, .iload_n 1, 120), (120, .invokevirtual 131, 123), (123, .ifCond .ne 8, 126), (126, .aload_n 0, 127), (127, .iload_n 1, 128), (128, .invokevirtual 180, 131), (131, .iinc 1 1, 134), (134, .goto (-36), 137), (137, .iconst 1, 138), (138, .ireturn, 139)] : List (Nat × Instr × Nat)).all (fun q => decide (pm_code 50 q.1 = some q.2)) = true := by decide +kernel
theorem c50_74 : pm_code 50 74 = some (.iinc 1 1, 77) := pm_of cl50_1 0 (q := (74, .iinc 1 1, 77)) rfl
theorem c50_77 : pm_code 50 77 = some (.goto (-60), 80) := pm_of cl50_1 1 (q := (77, .goto (-60), 80)) rfl
theorem c50_80 : pm_code 50 80 = some (.aload_n 0, 81) := pm_of cl50_1 2 (q := (80, .aload_n 0, 81)) rfl
theorem c50_81 : pm_code 50 81 = some (.getfield 12, 84) := pm_of cl50_1 3 (q := (81, .getfield 12, 84)) rfl
theorem c50_84 : pm_code 50 84 = some (.aload_n 0, 85) := pm_of cl50_1 4 (q := (84, .aload_n 0, 85)) rfl
theorem c50_85 : pm_code 50 85 = some (.getfield 12, 88) := pm_of cl50_1 5 (q := (85, .getfield 12, 88)) rfl
theorem c50_88 : pm_code 50 88 = some (.invokevirtual 94, 91) := pm_of cl50_1 6 (q := (88, .invokevirtual 94, 91)) rfl
theorem c50_91 : pm_code 50 91 = some (.iconst 1, 92) := pm_of cl50_1 7 (q := (91, .iconst 1, 92)) rfl
theorem c50_92 : pm_code 50 92 = some (.iadd, 93) := pm_of cl50_1 8 (q := (92, .iadd, 93)) rfl
theorem c50_93 : pm_code 50 93 = some (.invokevirtual 186, 96) := pm_of cl50_1 9 (q := (93, .invokevirtual 186, 96)) rfl
theorem c50_96 : pm_code 50 96 = some (.iconst 0, 97) := pm_of cl50_1 10 (q := (96, .iconst 0, 97)) rfl
theorem c50_97 : pm_code 50 97 = some (.istore_n 1, 98) := pm_of cl50_1 11 (q := (97, .istore_n 1, 98)) rfl
theorem c50_98 : pm_code 50 98 = some (.iload_n 1, 99) := pm_of cl50_1 12 (q := (98, .iload_n 1, 99)) rfl
theorem c50_99 : pm_code 50 99 = some (.aload_n 0, 100) := pm_of cl50_1 13 (q := (99, .aload_n 0, 100)) rfl
theorem c50_100 : pm_code 50 100 = some (.getfield 41, 103) := pm_of cl50_1 14 (q := (100, .getfield 41, 103)) rfl
theorem c50_103 : pm_code 50 103 = some (.invokevirtual 56, 106) := pm_of cl50_1 15 (q := (103, .invokevirtual 56, 106)) rfl
theorem c50_106 : pm_code 50 106 = some (.if_icmp .ge 31, 109) := pm_of cl50_1 16 (q := (106, .if_icmp .ge 31, 109)) rfl
theorem c50_109 : pm_code 50 109 = some (.aload_n 0, 110) := pm_of cl50_1 17 (q := (109, .aload_n 0, 110)) rfl
theorem c50_110 : pm_code 50 110 = some (.iload_n 1, 111) := pm_of cl50_1 18 (q := (110, .iload_n 1, 111)) rfl
theorem c50_111 : pm_code 50 111 = some (.iconst 2, 112) := pm_of cl50_1 19 (q := (111, .iconst 2, 112)) rfl
theorem c50_112 : pm_code 50 112 = some (.invokevirtual 60, 115) := pm_of cl50_1 20 (q := (112, .invokevirtual 60, 115)) rfl
theorem c50_115 : pm_code 50 115 = some (.ifCond .eq 16, 118) := pm_of cl50_1 21 (q := (115, .ifCond .eq 16, 118)) rfl
theorem c50_118 : pm_code 50 118 = some (.aload_n 0, 119) := pm_of cl50_1 22 (q := (118, .aload_n 0, 119)) rfl
theorem c50_119 : pm_code 50 119 = some (.iload_n 1, 120) := pm_of cl50_1 23 (q := (119, .iload_n 1, 120)) rfl
theorem c50_120 : pm_code 50 120 = some (.invokevirtual 131, 123) := pm_of cl50_1 24 (q := (120, .invokevirtual 131, 123)) rfl
theorem c50_123 : pm_code 50 123 = some (.ifCond .ne 8, 126) := pm_of cl50_1 25 (q := (123, .ifCond .ne 8, 126)) rfl
theorem c50_126 : pm_code 50 126 = some (.aload_n 0, 127) := pm_of cl50_1 26 (q := (126, .aload_n 0, 127)) rfl
theorem c50_127 : pm_code 50 127 = some (.iload_n 1, 128) := pm_of cl50_1 27 (q := (127, .iload_n 1, 128)) rfl
theorem c50_128 : pm_code 50 128 = some (.invokevirtual 180, 131) := pm_of cl50_1 28 (q := (128, .invokevirtual 180, 131)) rfl
theorem c50_131 : pm_code 50 131 = some (.iinc 1 1, 134) := pm_of cl50_1 29 (q := (131, .iinc 1 1, 134)) rfl
theorem c50_134 : pm_code 50 134 = some (.goto (-36), 137) := pm_of cl50_1 30 (q := (134, .goto (-36), 137)) rfl
theorem c50_137 : pm_code 50 137 = some (.iconst 1, 138) := pm_of cl50_1 31 (q := (137, .iconst 1, 138)) rfl
theorem c50_138 : pm_code 50 138 = some (.ireturn, 139) := pm_of cl50_1 32 (q := (138, .ireturn, 139)) rfl
theorem k51 : pm_k 51 = 3 := by decide +kernel
theorem ml51 : pm_ml 51 = 2 := by decide +kernel
theorem rt51 : pm_rt 51 = none := by decide +kernel
theorem hh51 : pm_hh 51 = [] := by decide +kernel
theorem rc51 : pm_cl 3 = (pm_y 51).cls := by decide +kernel
theorem cl51_0 : ([(0, .aload_n 0, 1), (1, .getfield 12, 4), (4, .invokevirtual 189, 7), (7, .ifCond .le 22, 10), (10, .aload_n 0, 11), (11, .getfield 12, 14), (14, .aload_n 0, 15), (15, .getfield 12, 18), (18, .invokevirtual 189, 21), (21, .iconst 1, 22), (22, .isub, 23), (23, .invokevirtual 192, 26), (26, .goto 23, 29), (29, .aload_n 0, 30), (30, .getfield 12, 33), (33, .iconst 4, 34), (34, .iload_n 1, 35), (35, .aload_n 0, 36), (36, .getfield 12, 39), (39, .iconst 4, 40), (40, .iload_n 1, 41), (41, .invokevirtual 52, 44), (44, .iconst 1, 45), (45, .iadd, 46), (46, .invokevirtual 170, 49), (49, .return_, 50)] : List (Nat × Instr × Nat)).all (fun q => decide (pm_code 51 q.1 = some q.2)) = true := by decide +kernel
theorem c51_0 : pm_code 51 0 = some (.aload_n 0, 1) := pm_of cl51_0 0 (q := (0, .aload_n 0, 1)) rfl
theorem c51_1 : pm_code 51 1 = some (.getfield 12, 4) := pm_of cl51_0 1 (q := (1, .getfield 12, 4)) rfl
theorem c51_4 : pm_code 51 4 = some (.invokevirtual 189, 7) := pm_of cl51_0 2 (q := (4, .invokevirtual 189, 7)) rfl
theorem c51_7 : pm_code 51 7 = some (.ifCond .le 22, 10) := pm_of cl51_0 3 (q := (7, .ifCond .le 22, 10)) rfl
theorem c51_10 : pm_code 51 10 = some (.aload_n 0, 11) := pm_of cl51_0 4 (q := (10, .aload_n 0, 11)) rfl
theorem c51_11 : pm_code 51 11 = some (.getfield 12, 14) := pm_of cl51_0 5 (q := (11, .getfield 12, 14)) rfl
theorem c51_14 : pm_code 51 14 = some (.aload_n 0, 15) := pm_of cl51_0 6 (q := (14, .aload_n 0, 15)) rfl
theorem c51_15 : pm_code 51 15 = some (.getfield 12, 18) := pm_of cl51_0 7 (q := (15, .getfield 12, 18)) rfl
theorem c51_18 : pm_code 51 18 = some (.invokevirtual 189, 21) := pm_of cl51_0 8 (q := (18, .invokevirtual 189, 21)) rfl
theorem c51_21 : pm_code 51 21 = some (.iconst 1, 22) := pm_of cl51_0 9 (q := (21, .iconst 1, 22)) rfl
theorem c51_22 : pm_code 51 22 = some (.isub, 23) := pm_of cl51_0 10 (q := (22, .isub, 23)) rfl
theorem c51_23 : pm_code 51 23 = some (.invokevirtual 192, 26) := pm_of cl51_0 11 (q := (23, .invokevirtual 192, 26)) rfl
theorem c51_26 : pm_code 51 26 = some (.goto 23, 29) := pm_of cl51_0 12 (q := (26, .goto 23, 29)) rfl
theorem c51_29 : pm_code 51 29 = some (.aload_n 0, 30) := pm_of cl51_0 13 (q := (29, .aload_n 0, 30)) rfl
theorem c51_30 : pm_code 51 30 = some (.getfield 12, 33) := pm_of cl51_0 14 (q := (30, .getfield 12, 33)) rfl
theorem c51_33 : pm_code 51 33 = some (.iconst 4, 34) := pm_of cl51_0 15 (q := (33, .iconst 4, 34)) rfl
theorem c51_34 : pm_code 51 34 = some (.iload_n 1, 35) := pm_of cl51_0 16 (q := (34, .iload_n 1, 35)) rfl
theorem c51_35 : pm_code 51 35 = some (.aload_n 0, 36) := pm_of cl51_0 17 (q := (35, .aload_n 0, 36)) rfl
theorem c51_36 : pm_code 51 36 = some (.getfield 12, 39) := pm_of cl51_0 18 (q := (36, .getfield 12, 39)) rfl
theorem c51_39 : pm_code 51 39 = some (.iconst 4, 40) := pm_of cl51_0 19 (q := (39, .iconst 4, 40)) rfl
theorem c51_40 : pm_code 51 40 = some (.iload_n 1, 41) := pm_of cl51_0 20 (q := (40, .iload_n 1, 41)) rfl
theorem c51_41 : pm_code 51 41 = some (.invokevirtual 52, 44) := pm_of cl51_0 21 (q := (41, .invokevirtual 52, 44)) rfl
theorem c51_44 : pm_code 51 44 = some (.iconst 1, 45) := pm_of cl51_0 22 (q := (44, .iconst 1, 45)) rfl
theorem c51_45 : pm_code 51 45 = some (.iadd, 46) := pm_of cl51_0 23 (q := (45, .iadd, 46)) rfl
theorem c51_46 : pm_code 51 46 = some (.invokevirtual 170, 49) := pm_of cl51_0 24 (q := (46, .invokevirtual 170, 49)) rfl
theorem c51_49 : pm_code 51 49 = some (.return_, 50) := pm_of cl51_0 25 (q := (49, .return_, 50)) rfl
theorem k52 : pm_k 52 = 3 := by decide +kernel
theorem ml52 : pm_ml 52 = 7 := by decide +kernel
theorem rt52 : pm_rt 52 = (some .int) := by decide +kernel
theorem hh52 : pm_hh 52 = [] := by decide +kernel
theorem rc52 : pm_cl 3 = (pm_y 52).cls := by decide +kernel
theorem cl52_0 : ([(0, .aload_n 0, 1), (1, .getfield 28, 4), (4, .iconst 0, 5), (5, .iload_n 1, 6), (6, .invokestatic 79, 9), (9, .aload_n 0, 10), (10, .getfield 28, 13), (13, .iconst 1, 14), (14, .iload_n 2, 15), (15, .invokestatic 79, 18), (18, .aload_n 0, 19), (19, .getfield 28, 22), (22, .iconst 2, 23), (23, .iload_n 3, 24), (24, .invokestatic 79, 27), (27, .aload_n 0, 28), (28, .getfield 28, 31), (31, .iconst 3, 32), (32, .iload 4, 34), (34, .invokestatic 79, 37), (37, .aload_n 0, 38), (38, .getfield 28, 41), (41, .iconst 4, 42), (42, .iconst 0, 43), (43, .invokestatic 79, 46), (46, .aload_n 0, 47), (47, .getfield 28, 50), (50, .iconst 5, 51), (51, .iload 5, 53), (53, .invokestatic 79, 56), (56, .aload_n 0, 57), (57, .getfield 28, 60), (60, .bipush 6, 62), (62, .iconst 0, 63), (63, .invokestatic 79, 66), (66, .aload_n 0, 67), (67, .getfield 28, 70), (70, .bipush 7, 72), (72, .iload 6, 74), (74, .invokestatic 79, 77)] : List (Nat × Instr × Nat)).all (fun q => decide (pm_code 52 q.1 = some q.2)) = true := by decide +kernel
theorem c52_0 : pm_code 52 0 = some (.aload_n 0, 1) := pm_of cl52_0 0 (q := (0, .aload_n 0, 1)) rfl
theorem c52_1 : pm_code 52 1 = some (.getfield 28, 4) := pm_of cl52_0 1 (q := (1, .getfield 28, 4)) rfl
theorem c52_4 : pm_code 52 4 = some (.iconst 0, 5) := pm_of cl52_0 2 (q := (4, .iconst 0, 5)) rfl
theorem c52_5 : pm_code 52 5 = some (.iload_n 1, 6) := pm_of cl52_0 3 (q := (5, .iload_n 1, 6)) rfl
theorem c52_6 : pm_code 52 6 = some (.invokestatic 79, 9) := pm_of cl52_0 4 (q := (6, .invokestatic 79, 9)) rfl
theorem c52_9 : pm_code 52 9 = some (.aload_n 0, 10) := pm_of cl52_0 5 (q := (9, .aload_n 0, 10)) rfl
theorem c52_10 : pm_code 52 10 = some (.getfield 28, 13) := pm_of cl52_0 6 (q := (10, .getfield 28, 13)) rfl
theorem c52_13 : pm_code 52 13 = some (.iconst 1, 14) := pm_of cl52_0 7 (q := (13, .iconst 1, 14)) rfl
theorem c52_14 : pm_code 52 14 = some (.iload_n 2, 15) := pm_of cl52_0 8 (q := (14, .iload_n 2, 15)) rfl
theorem c52_15 : pm_code 52 15 = some (.invokestatic 79, 18) := pm_of cl52_0 9 (q := (15, .invokestatic 79, 18)) rfl
theorem c52_18 : pm_code 52 18 = some (.aload_n 0, 19) := pm_of cl52_0 10 (q := (18, .aload_n 0, 19)) rfl
theorem c52_19 : pm_code 52 19 = some (.getfield 28, 22) := pm_of cl52_0 11 (q := (19, .getfield 28, 22)) rfl
theorem c52_22 : pm_code 52 22 = some (.iconst 2, 23) := pm_of cl52_0 12 (q := (22, .iconst 2, 23)) rfl
theorem c52_23 : pm_code 52 23 = some (.iload_n 3, 24) := pm_of cl52_0 13 (q := (23, .iload_n 3, 24)) rfl
theorem c52_24 : pm_code 52 24 = some (.invokestatic 79, 27) := pm_of cl52_0 14 (q := (24, .invokestatic 79, 27)) rfl
theorem c52_27 : pm_code 52 27 = some (.aload_n 0, 28) := pm_of cl52_0 15 (q := (27, .aload_n 0, 28)) rfl
theorem c52_28 : pm_code 52 28 = some (.getfield 28, 31) := pm_of cl52_0 16 (q := (28, .getfield 28, 31)) rfl
theorem c52_31 : pm_code 52 31 = some (.iconst 3, 32) := pm_of cl52_0 17 (q := (31, .iconst 3, 32)) rfl
theorem c52_32 : pm_code 52 32 = some (.iload 4, 34) := pm_of cl52_0 18 (q := (32, .iload 4, 34)) rfl
theorem c52_34 : pm_code 52 34 = some (.invokestatic 79, 37) := pm_of cl52_0 19 (q := (34, .invokestatic 79, 37)) rfl
theorem c52_37 : pm_code 52 37 = some (.aload_n 0, 38) := pm_of cl52_0 20 (q := (37, .aload_n 0, 38)) rfl
theorem c52_38 : pm_code 52 38 = some (.getfield 28, 41) := pm_of cl52_0 21 (q := (38, .getfield 28, 41)) rfl
theorem c52_41 : pm_code 52 41 = some (.iconst 4, 42) := pm_of cl52_0 22 (q := (41, .iconst 4, 42)) rfl
theorem c52_42 : pm_code 52 42 = some (.iconst 0, 43) := pm_of cl52_0 23 (q := (42, .iconst 0, 43)) rfl
theorem c52_43 : pm_code 52 43 = some (.invokestatic 79, 46) := pm_of cl52_0 24 (q := (43, .invokestatic 79, 46)) rfl
theorem c52_46 : pm_code 52 46 = some (.aload_n 0, 47) := pm_of cl52_0 25 (q := (46, .aload_n 0, 47)) rfl
theorem c52_47 : pm_code 52 47 = some (.getfield 28, 50) := pm_of cl52_0 26 (q := (47, .getfield 28, 50)) rfl
theorem c52_50 : pm_code 52 50 = some (.iconst 5, 51) := pm_of cl52_0 27 (q := (50, .iconst 5, 51)) rfl
theorem c52_51 : pm_code 52 51 = some (.iload 5, 53) := pm_of cl52_0 28 (q := (51, .iload 5, 53)) rfl
theorem c52_53 : pm_code 52 53 = some (.invokestatic 79, 56) := pm_of cl52_0 29 (q := (53, .invokestatic 79, 56)) rfl
theorem c52_56 : pm_code 52 56 = some (.aload_n 0, 57) := pm_of cl52_0 30 (q := (56, .aload_n 0, 57)) rfl
theorem c52_57 : pm_code 52 57 = some (.getfield 28, 60) := pm_of cl52_0 31 (q := (57, .getfield 28, 60)) rfl
theorem c52_60 : pm_code 52 60 = some (.bipush 6, 62) := pm_of cl52_0 32 (q := (60, .bipush 6, 62)) rfl
theorem c52_62 : pm_code 52 62 = some (.iconst 0, 63) := pm_of cl52_0 33 (q := (62, .iconst 0, 63)) rfl
theorem c52_63 : pm_code 52 63 = some (.invokestatic 79, 66) := pm_of cl52_0 34 (q := (63, .invokestatic 79, 66)) rfl
theorem c52_66 : pm_code 52 66 = some (.aload_n 0, 67) := pm_of cl52_0 35 (q := (66, .aload_n 0, 67)) rfl
theorem c52_67 : pm_code 52 67 = some (.getfield 28, 70) := pm_of cl52_0 36 (q := (67, .getfield 28, 70)) rfl
theorem c52_70 : pm_code 52 70 = some (.bipush 7, 72) := pm_of cl52_0 37 (q := (70, .bipush 7, 72)) rfl
theorem c52_72 : pm_code 52 72 = some (.iload 6, 74) := pm_of cl52_0 38 (q := (72, .iload 6, 74)) rfl
theorem c52_74 : pm_code 52 74 = some (.invokestatic 79, 77) := pm_of cl52_0 39 (q := (74, .invokestatic 79, 77)) rfl
theorem cl52_1 : ([(77, .aload_n 0, 78), (78, .getfield 21, 81), (81, .aload_n 0, 82), (82, .getfield 28, 85), (85, .invokevirtual 105, 88), (88, .ireturn, 89)] : List (Nat × Instr × Nat)).all (fun q => decide (pm_code 52 q.1 = some q.2)) = true := by decide +kernel
theorem c52_77 : pm_code 52 77 = some (.aload_n 0, 78) := pm_of cl52_1 0 (q := (77, .aload_n 0, 78)) rfl
theorem c52_78 : pm_code 52 78 = some (.getfield 21, 81) := pm_of cl52_1 1 (q := (78, .getfield 21, 81)) rfl
theorem c52_81 : pm_code 52 81 = some (.aload_n 0, 82) := pm_of cl52_1 2 (q := (81, .aload_n 0, 82)) rfl
theorem c52_82 : pm_code 52 82 = some (.getfield 28, 85) := pm_of cl52_1 3 (q := (82, .getfield 28, 85)) rfl
theorem c52_85 : pm_code 52 85 = some (.invokevirtual 105, 88) := pm_of cl52_1 4 (q := (85, .invokevirtual 105, 88)) rfl
theorem c52_88 : pm_code 52 88 = some (.ireturn, 89) := pm_of cl52_1 5 (q := (88, .ireturn, 89)) rfl
theorem k53 : pm_k 53 = 3 := by decide +kernel
theorem ml53 : pm_ml 53 = 7 := by decide +kernel
theorem rt53 : pm_rt 53 = (some .int) := by decide +kernel
theorem hh53 : pm_hh 53 = [] := by decide +kernel
theorem rc53 : pm_cl 3 = (pm_y 53).cls := by decide +kernel
theorem cl53_0 : ([(0, .aload_n 0, 1), (1, .iload_n 1, 2), (2, .iconst 2, 3), (3, .invokevirtual 60, 6), (6, .ifCond .ne 5, 9), (9, .iconst (-1), 10), (10, .ireturn, 11), (11, .aload_n 0, 12), (12, .iload_n 2, 13), (13, .invokevirtual 101, 16), (16, .astore 4, 18), (18, .aload_n 0, 19), (19, .getfield 12, 22), (22, .iconst 2, 23), (23, .iload_n 1, 24), (24, .invokevirtual 52, 27), (27, .istore 5, 29), (29, .aload_n 0, 30), (30, .iload_n 1, 31), (31, .invokevirtual 97, 34), (34, .iconst 1, 35), (35, .istore 6, 37), (37, .iload 6, 39), (39, .iload_n 3, 40), (40, .if_icmp .gt 48, 43), (43, .aload_n 0, 44), (44, .getfield 28, 47), (47, .bipush 7, 49), (49, .aload_n 0, 50), (50, .getfield 12, 53), (53, .invokevirtual 94, 56), (56, .iload 6, 58), (58, .iadd, 59), (59, .invokestatic 79, 62), (62, .aload 4, 64), (64, .aload_n 0, 65), (65, .getfield 28, 68), (68, .invokevirtual 105, 71), (71, .iload 5, 73), (73, .iload 6, 75)] : List (Nat × Instr × Nat)).all (fun q => decide (pm_code 53 q.1 = some q.2)) = true := by decide +kernel
theorem c53_0 : pm_code 53 0 = some (.aload_n 0, 1) := pm_of cl53_0 0 (q := (0, .aload_n 0, 1)) rfl
theorem c53_1 : pm_code 53 1 = some (.iload_n 1, 2) := pm_of cl53_0 1 (q := (1, .iload_n 1, 2)) rfl
theorem c53_2 : pm_code 53 2 = some (.iconst 2, 3) := pm_of cl53_0 2 (q := (2, .iconst 2, 3)) rfl
theorem c53_3 : pm_code 53 3 = some (.invokevirtual 60, 6) := pm_of cl53_0 3 (q := (3, .invokevirtual 60, 6)) rfl
theorem c53_6 : pm_code 53 6 = some (.ifCond .ne 5, 9) := pm_of cl53_0 4 (q := (6, .ifCond .ne 5, 9)) rfl
theorem c53_9 : pm_code 53 9 = some (.iconst (-1), 10) := pm_of cl53_0 5 (q := (9, .iconst (-1), 10)) rfl
theorem c53_10 : pm_code 53 10 = some (.ireturn, 11) := pm_of cl53_0 6 (q := (10, .ireturn, 11)) rfl
theorem c53_11 : pm_code 53 11 = some (.aload_n 0, 12) := pm_of cl53_0 7 (q := (11, .aload_n 0, 12)) rfl
theorem c53_12 : pm_code 53 12 = some (.iload_n 2, 13) := pm_of cl53_0 8 (q := (12, .iload_n 2, 13)) rfl
theorem c53_13 : pm_code 53 13 = some (.invokevirtual 101, 16) := pm_of cl53_0 9 (q := (13, .invokevirtual 101, 16)) rfl
theorem c53_16 : pm_code 53 16 = some (.astore 4, 18) := pm_of cl53_0 10 (q := (16, .astore 4, 18)) rfl
theorem c53_18 : pm_code 53 18 = some (.aload_n 0, 19) := pm_of cl53_0 11 (q := (18, .aload_n 0, 19)) rfl
theorem c53_19 : pm_code 53 19 = some (.getfield 12, 22) := pm_of cl53_0 12 (q := (19, .getfield 12, 22)) rfl
theorem c53_22 : pm_code 53 22 = some (.iconst 2, 23) := pm_of cl53_0 13 (q := (22, .iconst 2, 23)) rfl
theorem c53_23 : pm_code 53 23 = some (.iload_n 1, 24) := pm_of cl53_0 14 (q := (23, .iload_n 1, 24)) rfl
theorem c53_24 : pm_code 53 24 = some (.invokevirtual 52, 27) := pm_of cl53_0 15 (q := (24, .invokevirtual 52, 27)) rfl
theorem c53_27 : pm_code 53 27 = some (.istore 5, 29) := pm_of cl53_0 16 (q := (27, .istore 5, 29)) rfl
theorem c53_29 : pm_code 53 29 = some (.aload_n 0, 30) := pm_of cl53_0 17 (q := (29, .aload_n 0, 30)) rfl
theorem c53_30 : pm_code 53 30 = some (.iload_n 1, 31) := pm_of cl53_0 18 (q := (30, .iload_n 1, 31)) rfl
theorem c53_31 : pm_code 53 31 = some (.invokevirtual 97, 34) := pm_of cl53_0 19 (q := (31, .invokevirtual 97, 34)) rfl
theorem c53_34 : pm_code 53 34 = some (.iconst 1, 35) := pm_of cl53_0 20 (q := (34, .iconst 1, 35)) rfl
theorem c53_35 : pm_code 53 35 = some (.istore 6, 37) := pm_of cl53_0 21 (q := (35, .istore 6, 37)) rfl
theorem c53_37 : pm_code 53 37 = some (.iload 6, 39) := pm_of cl53_0 22 (q := (37, .iload 6, 39)) rfl
theorem c53_39 : pm_code 53 39 = some (.iload_n 3, 40) := pm_of cl53_0 23 (q := (39, .iload_n 3, 40)) rfl
theorem c53_40 : pm_code 53 40 = some (.if_icmp .gt 48, 43) := pm_of cl53_0 24 (q := (40, .if_icmp .gt 48, 43)) rfl
theorem c53_43 : pm_code 53 43 = some (.aload_n 0, 44) := pm_of cl53_0 25 (q := (43, .aload_n 0, 44)) rfl
theorem c53_44 : pm_code 53 44 = some (.getfield 28, 47) := pm_of cl53_0 26 (q := (44, .getfield 28, 47)) rfl
theorem c53_47 : pm_code 53 47 = some (.bipush 7, 49) := pm_of cl53_0 27 (q := (47, .bipush 7, 49)) rfl
theorem c53_49 : pm_code 53 49 = some (.aload_n 0, 50) := pm_of cl53_0 28 (q := (49, .aload_n 0, 50)) rfl
theorem c53_50 : pm_code 53 50 = some (.getfield 12, 53) := pm_of cl53_0 29 (q := (50, .getfield 12, 53)) rfl
theorem c53_53 : pm_code 53 53 = some (.invokevirtual 94, 56) := pm_of cl53_0 30 (q := (53, .invokevirtual 94, 56)) rfl
theorem c53_56 : pm_code 53 56 = some (.iload 6, 58) := pm_of cl53_0 31 (q := (56, .iload 6, 58)) rfl
theorem c53_58 : pm_code 53 58 = some (.iadd, 59) := pm_of cl53_0 32 (q := (58, .iadd, 59)) rfl
theorem c53_59 : pm_code 53 59 = some (.invokestatic 79, 62) := pm_of cl53_0 33 (q := (59, .invokestatic 79, 62)) rfl
theorem c53_62 : pm_code 53 62 = some (.aload 4, 64) := pm_of cl53_0 34 (q := (62, .aload 4, 64)) rfl
theorem c53_64 : pm_code 53 64 = some (.aload_n 0, 65) := pm_of cl53_0 35 (q := (64, .aload_n 0, 65)) rfl
theorem c53_65 : pm_code 53 65 = some (.getfield 28, 68) := pm_of cl53_0 36 (q := (65, .getfield 28, 68)) rfl
theorem c53_68 : pm_code 53 68 = some (.invokevirtual 105, 71) := pm_of cl53_0 37 (q := (68, .invokevirtual 105, 71)) rfl
theorem c53_71 : pm_code 53 71 = some (.iload 5, 73) := pm_of cl53_0 38 (q := (71, .iload 5, 73)) rfl
theorem c53_73 : pm_code 53 73 = some (.iload 6, 75) := pm_of cl53_0 39 (q := (73, .iload 6, 75)) rfl
theorem cl53_1 : ([(75, .iadd, 76), (76, .if_icmp .gt 6, 79), (79, .iload 6, 81), (81, .ireturn, 82), (82, .iinc 6 1, 85), (85, .goto (-48), 88), (88, .iconst (-1), 89), (89, .ireturn, 90)] : List (Nat × Instr × Nat)).all (fun q => decide (pm_code 53 q.1 = some q.2)) = true := by decide +kernel
theorem c53_75 : pm_code 53 75 = some (.iadd, 76) := pm_of cl53_1 0 (q := (75, .iadd, 76)) rfl
theorem c53_76 : pm_code 53 76 = some (.if_icmp .gt 6, 79) := pm_of cl53_1 1 (q := (76, .if_icmp .gt 6, 79)) rfl
theorem c53_79 : pm_code 53 79 = some (.iload 6, 81) := pm_of cl53_1 2 (q := (79, .iload 6, 81)) rfl
theorem c53_81 : pm_code 53 81 = some (.ireturn, 82) := pm_of cl53_1 3 (q := (81, .ireturn, 82)) rfl
theorem c53_82 : pm_code 53 82 = some (.iinc 6 1, 85) := pm_of cl53_1 4 (q := (82, .iinc 6 1, 85)) rfl
theorem c53_85 : pm_code 53 85 = some (.goto (-48), 88) := pm_of cl53_1 5 (q := (85, .goto (-48), 88)) rfl
theorem c53_88 : pm_code 53 88 = some (.iconst (-1), 89) := pm_of cl53_1 6 (q := (88, .iconst (-1), 89)) rfl
theorem c53_89 : pm_code 53 89 = some (.ireturn, 90) := pm_of cl53_1 7 (q := (89, .ireturn, 90)) rfl
theorem k54 : pm_k 54 = 3 := by decide +kernel
theorem ml54 : pm_ml 54 = 4 := by decide +kernel
theorem rt54 : pm_rt 54 = (some .int) := by decide +kernel
theorem hh54 : pm_hh 54 = [] := by decide +kernel
theorem rc54 : pm_cl 3 = (pm_y 54).cls := by decide +kernel
theorem cl54_0 : ([(0, .aload_n 0, 1), (1, .iconst 3, 2), (2, .invokevirtual 112, 5), (5, .istore_n 2, 6), (6, .iconst 0, 7), (7, .istore_n 3, 8), (8, .iload_n 3, 9), (9, .aload_n 0, 10), (10, .getfield 41, 13), (13, .invokevirtual 56, 16), (16, .if_icmp .ge 23, 19), (19, .aload_n 0, 20), (20, .iload_n 3, 21), (21, .iconst 0, 22), (22, .iload_n 1, 23), (23, .invokevirtual 115, 26), (26, .iconst (-1), 27), (27, .if_icmp .eq 6, 30), (30, .iinc 2 1, 33), (33, .iinc 3 1, 36), (36, .goto (-28), 39), (39, .iload_n 2, 40), (40, .ireturn, 41)] : List (Nat × Instr × Nat)).all (fun q => decide (pm_code 54 q.1 = some q.2)) = true := by decide +kernel
theorem c54_0 : pm_code 54 0 = some (.aload_n 0, 1) := pm_of cl54_0 0 (q := (0, .aload_n 0, 1)) rfl
theorem c54_1 : pm_code 54 1 = some (.iconst 3, 2) := pm_of cl54_0 1 (q := (1, .iconst 3, 2)) rfl
theorem c54_2 : pm_code 54 2 = some (.invokevirtual 112, 5) := pm_of cl54_0 2 (q := (2, .invokevirtual 112, 5)) rfl
theorem c54_5 : pm_code 54 5 = some (.istore_n 2, 6) := pm_of cl54_0 3 (q := (5, .istore_n 2, 6)) rfl
theorem c54_6 : pm_code 54 6 = some (.iconst 0, 7) := pm_of cl54_0 4 (q := (6, .iconst 0, 7)) rfl
theorem c54_7 : pm_code 54 7 = some (.istore_n 3, 8) := pm_of cl54_0 5 (q := (7, .istore_n 3, 8)) rfl
theorem c54_8 : pm_code 54 8 = some (.iload_n 3, 9) := pm_of cl54_0 6 (q := (8, .iload_n 3, 9)) rfl
theorem c54_9 : pm_code 54 9 = some (.aload_n 0, 10) := pm_of cl54_0 7 (q := (9, .aload_n 0, 10)) rfl
theorem c54_10 : pm_code 54 10 = some (.getfield 41, 13) := pm_of cl54_0 8 (q := (10, .getfield 41, 13)) rfl
theorem c54_13 : pm_code 54 13 = some (.invokevirtual 56, 16) := pm_of cl54_0 9 (q := (13, .invokevirtual 56, 16)) rfl
theorem c54_16 : pm_code 54 16 = some (.if_icmp .ge 23, 19) := pm_of cl54_0 10 (q := (16, .if_icmp .ge 23, 19)) rfl
theorem c54_19 : pm_code 54 19 = some (.aload_n 0, 20) := pm_of cl54_0 11 (q := (19, .aload_n 0, 20)) rfl
theorem c54_20 : pm_code 54 20 = some (.iload_n 3, 21) := pm_of cl54_0 12 (q := (20, .iload_n 3, 21)) rfl
theorem c54_21 : pm_code 54 21 = some (.iconst 0, 22) := pm_of cl54_0 13 (q := (21, .iconst 0, 22)) rfl
theorem c54_22 : pm_code 54 22 = some (.iload_n 1, 23) := pm_of cl54_0 14 (q := (22, .iload_n 1, 23)) rfl
theorem c54_23 : pm_code 54 23 = some (.invokevirtual 115, 26) := pm_of cl54_0 15 (q := (23, .invokevirtual 115, 26)) rfl
theorem c54_26 : pm_code 54 26 = some (.iconst (-1), 27) := pm_of cl54_0 16 (q := (26, .iconst (-1), 27)) rfl
theorem c54_27 : pm_code 54 27 = some (.if_icmp .eq 6, 30) := pm_of cl54_0 17 (q := (27, .if_icmp .eq 6, 30)) rfl
theorem c54_30 : pm_code 54 30 = some (.iinc 2 1, 33) := pm_of cl54_0 18 (q := (30, .iinc 2 1, 33)) rfl
theorem c54_33 : pm_code 54 33 = some (.iinc 3 1, 36) := pm_of cl54_0 19 (q := (33, .iinc 3 1, 36)) rfl
theorem c54_36 : pm_code 54 36 = some (.goto (-28), 39) := pm_of cl54_0 20 (q := (36, .goto (-28), 39)) rfl
theorem c54_39 : pm_code 54 39 = some (.iload_n 2, 40) := pm_of cl54_0 21 (q := (39, .iload_n 2, 40)) rfl
theorem c54_40 : pm_code 54 40 = some (.ireturn, 41) := pm_of cl54_0 22 (q := (40, .ireturn, 41)) rfl
theorem k55 : pm_k 55 = 3 := by decide +kernel
theorem ml55 : pm_ml 55 = 5 := by decide +kernel
theorem rt55 : pm_rt 55 = (some .int) := by decide +kernel
theorem hh55 : pm_hh 55 = [] := by decide +kernel
theorem rc55 : pm_cl 3 = (pm_y 55).cls := by decide +kernel
theorem cl55_0 : ([(0, .iconst 0, 1), (1, .istore_n 2, 2), (2, .iconst 0, 3), (3, .istore_n 3, 4), (4, .iload_n 3, 5), (5, .aload_n 0, 6), (6, .getfield 41, 9), (9, .invokevirtual 56, 12), (12, .if_icmp .ge 42, 15), (15, .aload_n 0, 16), (16, .iload_n 3, 17), (17, .iconst 2, 18), (18, .invokevirtual 60, 21), (21, .ifCond .eq 27, 24), (24, .aload_n 0, 25), (25, .iload_n 3, 26), (26, .iconst 0, 27), (27, .iload_n 1, 28), (28, .invokevirtual 115, 31), (31, .istore 4, 33), (33, .iload_n 2, 34), (34, .iload 4, 36), (36, .iconst (-1), 37), (37, .if_icmp .ne 7, 40), (40, .iload_n 1, 41), (41, .goto 5, 44), (44, .iload 4, 46), (46, .iadd, 47), (47, .istore_n 2, 48), (48, .iinc 3 1, 51), (51, .goto (-47), 54), (54, .iload_n 2, 55), (55, .ireturn, 56)] : List (Nat × Instr × Nat)).all (fun q => decide (pm_code 55 q.1 = some q.2)) = true := by decide +kernel
theorem c55_0 : pm_code 55 0 = some (.iconst 0, 1) := pm_of cl55_0 0 (q := (0, .iconst 0, 1)) rfl
theorem c55_1 : pm_code 55 1 = some (.istore_n 2, 2) := pm_of cl55_0 1 (q := (1, .istore_n 2, 2)) rfl
theorem c55_2 : pm_code 55 2 = some (.iconst 0, 3) := pm_of cl55_0 2 (q := (2, .iconst 0, 3)) rfl
theorem c55_3 : pm_code 55 3 = some (.istore_n 3, 4) := pm_of cl55_0 3 (q := (3, .istore_n 3, 4)) rfl
theorem c55_4 : pm_code 55 4 = some (.iload_n 3, 5) := pm_of cl55_0 4 (q := (4, .iload_n 3, 5)) rfl
theorem c55_5 : pm_code 55 5 = some (.aload_n 0, 6) := pm_of cl55_0 5 (q := (5, .aload_n 0, 6)) rfl
theorem c55_6 : pm_code 55 6 = some (.getfield 41, 9) := pm_of cl55_0 6 (q := (6, .getfield 41, 9)) rfl
theorem c55_9 : pm_code 55 9 = some (.invokevirtual 56, 12) := pm_of cl55_0 7 (q := (9, .invokevirtual 56, 12)) rfl
theorem c55_12 : pm_code 55 12 = some (.if_icmp .ge 42, 15) := pm_of cl55_0 8 (q := (12, .if_icmp .ge 42, 15)) rfl
theorem c55_15 : pm_code 55 15 = some (.aload_n 0, 16) := pm_of cl55_0 9 (q := (15, .aload_n 0, 16)) rfl
theorem c55_16 : pm_code 55 16 = some (.iload_n 3, 17) := pm_of cl55_0 10 (q := (16, .iload_n 3, 17)) rfl
theorem c55_17 : pm_code 55 17 = some (.iconst 2, 18) := pm_of cl55_0 11 (q := (17, .iconst 2, 18)) rfl
theorem c55_18 : pm_code 55 18 = some (.invokevirtual 60, 21) := pm_of cl55_0 12 (q := (18, .invokevirtual 60, 21)) rfl
theorem c55_21 : pm_code 55 21 = some (.ifCond .eq 27, 24) := pm_of cl55_0 13 (q := (21, .ifCond .eq 27, 24)) rfl
theorem c55_24 : pm_code 55 24 = some (.aload_n 0, 25) := pm_of cl55_0 14 (q := (24, .aload_n 0, 25)) rfl
theorem c55_25 : pm_code 55 25 = some (.iload_n 3, 26) := pm_of cl55_0 15 (q := (25, .iload_n 3, 26)) rfl
theorem c55_26 : pm_code 55 26 = some (.iconst 0, 27) := pm_of cl55_0 16 (q := (26, .iconst 0, 27)) rfl
theorem c55_27 : pm_code 55 27 = some (.iload_n 1, 28) := pm_of cl55_0 17 (q := (27, .iload_n 1, 28)) rfl
theorem c55_28 : pm_code 55 28 = some (.invokevirtual 115, 31) := pm_of cl55_0 18 (q := (28, .invokevirtual 115, 31)) rfl
theorem c55_31 : pm_code 55 31 = some (.istore 4, 33) := pm_of cl55_0 19 (q := (31, .istore 4, 33)) rfl
theorem c55_33 : pm_code 55 33 = some (.iload_n 2, 34) := pm_of cl55_0 20 (q := (33, .iload_n 2, 34)) rfl
theorem c55_34 : pm_code 55 34 = some (.iload 4, 36) := pm_of cl55_0 21 (q := (34, .iload 4, 36)) rfl
theorem c55_36 : pm_code 55 36 = some (.iconst (-1), 37) := pm_of cl55_0 22 (q := (36, .iconst (-1), 37)) rfl
theorem c55_37 : pm_code 55 37 = some (.if_icmp .ne 7, 40) := pm_of cl55_0 23 (q := (37, .if_icmp .ne 7, 40)) rfl
theorem c55_40 : pm_code 55 40 = some (.iload_n 1, 41) := pm_of cl55_0 24 (q := (40, .iload_n 1, 41)) rfl
theorem c55_41 : pm_code 55 41 = some (.goto 5, 44) := pm_of cl55_0 25 (q := (41, .goto 5, 44)) rfl
theorem c55_44 : pm_code 55 44 = some (.iload 4, 46) := pm_of cl55_0 26 (q := (44, .iload 4, 46)) rfl
theorem c55_46 : pm_code 55 46 = some (.iadd, 47) := pm_of cl55_0 27 (q := (46, .iadd, 47)) rfl
theorem c55_47 : pm_code 55 47 = some (.istore_n 2, 48) := pm_of cl55_0 28 (q := (47, .istore_n 2, 48)) rfl
theorem c55_48 : pm_code 55 48 = some (.iinc 3 1, 51) := pm_of cl55_0 29 (q := (48, .iinc 3 1, 51)) rfl
theorem c55_51 : pm_code 55 51 = some (.goto (-47), 54) := pm_of cl55_0 30 (q := (51, .goto (-47), 54)) rfl
theorem c55_54 : pm_code 55 54 = some (.iload_n 2, 55) := pm_of cl55_0 31 (q := (54, .iload_n 2, 55)) rfl
theorem c55_55 : pm_code 55 55 = some (.ireturn, 56) := pm_of cl55_0 32 (q := (55, .ireturn, 56)) rfl
theorem k56 : pm_k 56 = 3 := by decide +kernel
theorem ml56 : pm_ml 56 = 5 := by decide +kernel
theorem rt56 : pm_rt 56 = (some .int) := by decide +kernel
theorem hh56 : pm_hh 56 = [] := by decide +kernel
theorem rc56 : pm_cl 3 = (pm_y 56).cls := by decide +kernel
theorem cl56_0 : ([(0, .aload_n 0, 1), (1, .getfield 41, 4), (4, .iload_n 3, 5), (5, .invokevirtual 119, 8), (8, .iload_n 2, 9), (9, .imul, 10), (10, .bipush 52, 12), (12, .idiv, 13), (13, .istore 4, 15), (15, .aload_n 0, 16), (16, .getfield 41, 19), (19, .iload_n 1, 20), (20, .invokevirtual 83, 23), (23, .aload_n 0, 24), (24, .getfield 41, 27), (27, .iload_n 3, 28), (28, .invokevirtual 122, 31), (31, .if_icmp .ne 8, 34), (34, .iload 4, 36), (36, .goto 7, 39), (39, .iload 4, 41), (41, .iconst 2, 42), (42, .idiv, 43), (43, .ireturn, 44)] : List (Nat × Instr × Nat)).all (fun q => decide (pm_code 56 q.1 = some q.2)) = true := by decide +kernel
theorem c56_0 : pm_code 56 0 = some (.aload_n 0, 1) := pm_of cl56_0 0 (q := (0, .aload_n 0, 1)) rfl
theorem c56_1 : pm_code 56 1 = some (.getfield 41, 4) := pm_of cl56_0 1 (q := (1, .getfield 41, 4)) rfl
theorem c56_4 : pm_code 56 4 = some (.iload_n 3, 5) := pm_of cl56_0 2 (q := (4, .iload_n 3, 5)) rfl
theorem c56_5 : pm_code 56 5 = some (.invokevirtual 119, 8) := pm_of cl56_0 3 (q := (5, .invokevirtual 119, 8)) rfl
theorem c56_8 : pm_code 56 8 = some (.iload_n 2, 9) := pm_of cl56_0 4 (q := (8, .iload_n 2, 9)) rfl
theorem c56_9 : pm_code 56 9 = some (.imul, 10) := pm_of cl56_0 5 (q := (9, .imul, 10)) rfl
theorem c56_10 : pm_code 56 10 = some (.bipush 52, 12) := pm_of cl56_0 6 (q := (10, .bipush 52, 12)) rfl
theorem c56_12 : pm_code 56 12 = some (.idiv, 13) := pm_of cl56_0 7 (q := (12, .idiv, 13)) rfl
theorem c56_13 : pm_code 56 13 = some (.istore 4, 15) := pm_of cl56_0 8 (q := (13, .istore 4, 15)) rfl
theorem c56_15 : pm_code 56 15 = some (.aload_n 0, 16) := pm_of cl56_0 9 (q := (15, .aload_n 0, 16)) rfl
theorem c56_16 : pm_code 56 16 = some (.getfield 41, 19) := pm_of cl56_0 10 (q := (16, .getfield 41, 19)) rfl
theorem c56_19 : pm_code 56 19 = some (.iload_n 1, 20) := pm_of cl56_0 11 (q := (19, .iload_n 1, 20)) rfl
theorem c56_20 : pm_code 56 20 = some (.invokevirtual 83, 23) := pm_of cl56_0 12 (q := (20, .invokevirtual 83, 23)) rfl
theorem c56_23 : pm_code 56 23 = some (.aload_n 0, 24) := pm_of cl56_0 13 (q := (23, .aload_n 0, 24)) rfl
theorem c56_24 : pm_code 56 24 = some (.getfield 41, 27) := pm_of cl56_0 14 (q := (24, .getfield 41, 27)) rfl
theorem c56_27 : pm_code 56 27 = some (.iload_n 3, 28) := pm_of cl56_0 15 (q := (27, .iload_n 3, 28)) rfl
theorem c56_28 : pm_code 56 28 = some (.invokevirtual 122, 31) := pm_of cl56_0 16 (q := (28, .invokevirtual 122, 31)) rfl
theorem c56_31 : pm_code 56 31 = some (.if_icmp .ne 8, 34) := pm_of cl56_0 17 (q := (31, .if_icmp .ne 8, 34)) rfl
theorem c56_34 : pm_code 56 34 = some (.iload 4, 36) := pm_of cl56_0 18 (q := (34, .iload 4, 36)) rfl
theorem c56_36 : pm_code 56 36 = some (.goto 7, 39) := pm_of cl56_0 19 (q := (36, .goto 7, 39)) rfl
theorem c56_39 : pm_code 56 39 = some (.iload 4, 41) := pm_of cl56_0 20 (q := (39, .iload 4, 41)) rfl
theorem c56_41 : pm_code 56 41 = some (.iconst 2, 42) := pm_of cl56_0 21 (q := (41, .iconst 2, 42)) rfl
theorem c56_42 : pm_code 56 42 = some (.idiv, 43) := pm_of cl56_0 22 (q := (42, .idiv, 43)) rfl
theorem c56_43 : pm_code 56 43 = some (.ireturn, 44) := pm_of cl56_0 23 (q := (43, .ireturn, 44)) rfl
theorem k57 : pm_k 57 = 3 := by decide +kernel
theorem ml57 : pm_ml 57 = 2 := by decide +kernel
theorem rt57 : pm_rt 57 = (some .int) := by decide +kernel
theorem hh57 : pm_hh 57 = [] := by decide +kernel
theorem rc57 : pm_cl 3 = (pm_y 57).cls := by decide +kernel
theorem cl57_0 : ([(0, .iconst 0, 1), (1, .aload_n 0, 2), (2, .getfield 41, 5), (5, .iload_n 1, 6), (6, .invokevirtual 64, 9), (9, .aload_n 0, 10), (10, .iload_n 1, 11), (11, .invokevirtual 68, 14), (14, .isub, 15), (15, .invokestatic 71, 18), (18, .ireturn, 19)] : List (Nat × Instr × Nat)).all (fun q => decide (pm_code 57 q.1 = some q.2)) = true := by decide +kernel
theorem c57_0 : pm_code 57 0 = some (.iconst 0, 1) := pm_of cl57_0 0 (q := (0, .iconst 0, 1)) rfl
theorem c57_1 : pm_code 57 1 = some (.aload_n 0, 2) := pm_of cl57_0 1 (q := (1, .aload_n 0, 2)) rfl
theorem c57_2 : pm_code 57 2 = some (.getfield 41, 5) := pm_of cl57_0 2 (q := (2, .getfield 41, 5)) rfl
theorem c57_5 : pm_code 57 5 = some (.iload_n 1, 6) := pm_of cl57_0 3 (q := (5, .iload_n 1, 6)) rfl
theorem c57_6 : pm_code 57 6 = some (.invokevirtual 64, 9) := pm_of cl57_0 4 (q := (6, .invokevirtual 64, 9)) rfl
theorem c57_9 : pm_code 57 9 = some (.aload_n 0, 10) := pm_of cl57_0 5 (q := (9, .aload_n 0, 10)) rfl
theorem c57_10 : pm_code 57 10 = some (.iload_n 1, 11) := pm_of cl57_0 6 (q := (10, .iload_n 1, 11)) rfl
theorem c57_11 : pm_code 57 11 = some (.invokevirtual 68, 14) := pm_of cl57_0 7 (q := (11, .invokevirtual 68, 14)) rfl
theorem c57_14 : pm_code 57 14 = some (.isub, 15) := pm_of cl57_0 8 (q := (14, .isub, 15)) rfl
theorem c57_15 : pm_code 57 15 = some (.invokestatic 71, 18) := pm_of cl57_0 9 (q := (15, .invokestatic 71, 18)) rfl
theorem c57_18 : pm_code 57 18 = some (.ireturn, 19) := pm_of cl57_0 10 (q := (18, .ireturn, 19)) rfl
theorem k58 : pm_k 58 = 3 := by decide +kernel
theorem ml58 : pm_ml 58 = 2 := by decide +kernel
theorem rt58 : pm_rt 58 = (some .int) := by decide +kernel
theorem hh58 : pm_hh 58 = [] := by decide +kernel
theorem rc58 : pm_cl 3 = (pm_y 58).cls := by decide +kernel
theorem cl58_0 : ([(0, .aload_n 0, 1), (1, .iload_n 1, 2), (2, .iconst 0, 3), (3, .invokevirtual 60, 6), (6, .ifCond .eq 7, 9), (9, .iconst (-1), 10), (10, .goto 10, 13), (13, .aload_n 0, 14), (14, .iload_n 1, 15), (15, .invokevirtual 131, 18), (18, .iconst 4, 19), (19, .idiv, 20), (20, .ireturn, 21)] : List (Nat × Instr × Nat)).all (fun q => decide (pm_code 58 q.1 = some q.2)) = true := by decide +kernel
theorem c58_0 : pm_code 58 0 = some (.aload_n 0, 1) := pm_of cl58_0 0 (q := (0, .aload_n 0, 1)) rfl
theorem c58_1 : pm_code 58 1 = some (.iload_n 1, 2) := pm_of cl58_0 1 (q := (1, .iload_n 1, 2)) rfl
theorem c58_2 : pm_code 58 2 = some (.iconst 0, 3) := pm_of cl58_0 2 (q := (2, .iconst 0, 3)) rfl
theorem c58_3 : pm_code 58 3 = some (.invokevirtual 60, 6) := pm_of cl58_0 3 (q := (3, .invokevirtual 60, 6)) rfl
theorem c58_6 : pm_code 58 6 = some (.ifCond .eq 7, 9) := pm_of cl58_0 4 (q := (6, .ifCond .eq 7, 9)) rfl
theorem c58_9 : pm_code 58 9 = some (.iconst (-1), 10) := pm_of cl58_0 5 (q := (9, .iconst (-1), 10)) rfl
theorem c58_10 : pm_code 58 10 = some (.goto 10, 13) := pm_of cl58_0 6 (q := (10, .goto 10, 13)) rfl
theorem c58_13 : pm_code 58 13 = some (.aload_n 0, 14) := pm_of cl58_0 7 (q := (13, .aload_n 0, 14)) rfl
theorem c58_14 : pm_code 58 14 = some (.iload_n 1, 15) := pm_of cl58_0 8 (q := (14, .iload_n 1, 15)) rfl
theorem c58_15 : pm_code 58 15 = some (.invokevirtual 131, 18) := pm_of cl58_0 9 (q := (15, .invokevirtual 131, 18)) rfl
theorem c58_18 : pm_code 58 18 = some (.iconst 4, 19) := pm_of cl58_0 10 (q := (18, .iconst 4, 19)) rfl
theorem c58_19 : pm_code 58 19 = some (.idiv, 20) := pm_of cl58_0 11 (q := (19, .idiv, 20)) rfl
theorem c58_20 : pm_code 58 20 = some (.ireturn, 21) := pm_of cl58_0 12 (q := (20, .ireturn, 21)) rfl
theorem k59 : pm_k 59 = 3 := by decide +kernel
theorem ml59 : pm_ml 59 = 3 := by decide +kernel
theorem rt59 : pm_rt 59 = (some .int) := by decide +kernel
theorem hh59 : pm_hh 59 = [] := by decide +kernel
theorem rc59 : pm_cl 3 = (pm_y 59).cls := by decide +kernel
theorem cl59_0 : ([(0, .aload_n 0, 1), (1, .getfield 28, 4), (4, .iconst 0, 5), (5, .iload_n 1, 6), (6, .invokestatic 79, 9), (9, .aload_n 0, 10), (10, .getfield 28, 13), (13, .iconst 1, 14), (14, .iload_n 2, 15), (15, .invokestatic 79, 18), (18, .aload_n 0, 19), (19, .getfield 21, 22), (22, .aload_n 0, 23), (23, .getfield 28, 26), (26, .invokevirtual 105, 29), (29, .ireturn, 30)] : List (Nat × Instr × Nat)).all (fun q => decide (pm_code 59 q.1 = some q.2)) = true := by decide +kernel
theorem c59_0 : pm_code 59 0 = some (.aload_n 0, 1) := pm_of cl59_0 0 (q := (0, .aload_n 0, 1)) rfl
theorem c59_1 : pm_code 59 1 = some (.getfield 28, 4) := pm_of cl59_0 1 (q := (1, .getfield 28, 4)) rfl
theorem c59_4 : pm_code 59 4 = some (.iconst 0, 5) := pm_of cl59_0 2 (q := (4, .iconst 0, 5)) rfl
theorem c59_5 : pm_code 59 5 = some (.iload_n 1, 6) := pm_of cl59_0 3 (q := (5, .iload_n 1, 6)) rfl
theorem c59_6 : pm_code 59 6 = some (.invokestatic 79, 9) := pm_of cl59_0 4 (q := (6, .invokestatic 79, 9)) rfl
theorem c59_9 : pm_code 59 9 = some (.aload_n 0, 10) := pm_of cl59_0 5 (q := (9, .aload_n 0, 10)) rfl
theorem c59_10 : pm_code 59 10 = some (.getfield 28, 13) := pm_of cl59_0 6 (q := (10, .getfield 28, 13)) rfl
theorem c59_13 : pm_code 59 13 = some (.iconst 1, 14) := pm_of cl59_0 7 (q := (13, .iconst 1, 14)) rfl
theorem c59_14 : pm_code 59 14 = some (.iload_n 2, 15) := pm_of cl59_0 8 (q := (14, .iload_n 2, 15)) rfl
theorem c59_15 : pm_code 59 15 = some (.invokestatic 79, 18) := pm_of cl59_0 9 (q := (15, .invokestatic 79, 18)) rfl
theorem c59_18 : pm_code 59 18 = some (.aload_n 0, 19) := pm_of cl59_0 10 (q := (18, .aload_n 0, 19)) rfl
theorem c59_19 : pm_code 59 19 = some (.getfield 21, 22) := pm_of cl59_0 11 (q := (19, .getfield 21, 22)) rfl
theorem c59_22 : pm_code 59 22 = some (.aload_n 0, 23) := pm_of cl59_0 12 (q := (22, .aload_n 0, 23)) rfl
theorem c59_23 : pm_code 59 23 = some (.getfield 28, 26) := pm_of cl59_0 13 (q := (23, .getfield 28, 26)) rfl
theorem c59_26 : pm_code 59 26 = some (.invokevirtual 105, 29) := pm_of cl59_0 14 (q := (26, .invokevirtual 105, 29)) rfl
theorem c59_29 : pm_code 59 29 = some (.ireturn, 30) := pm_of cl59_0 15 (q := (29, .ireturn, 30)) rfl
theorem k60 : pm_k 60 = 3 := by decide +kernel
theorem ml60 : pm_ml 60 = 5 := by decide +kernel
theorem rt60 : pm_rt 60 = (some .int) := by decide +kernel
theorem hh60 : pm_hh 60 = [] := by decide +kernel
theorem rc60 : pm_cl 3 = (pm_y 60).cls := by decide +kernel
theorem cl60_0 : ([(0, .iconst 0, 1), (1, .istore_n 3, 2), (2, .iload_n 3, 3), (3, .iconst 5, 4), (4, .if_icmp .ge 31, 7), (7, .aload_n 0, 8), (8, .getfield 32, 11), (11, .iload_n 3, 12), (12, .aload_n 0, 13), (13, .iload_n 3, 14), (14, .invokevirtual 68, 17), (17, .invokestatic 79, 20), (20, .aload_n 0, 21), (21, .getfield 35, 24), (24, .iload_n 3, 25), (25, .iconst 0, 26), (26, .invokestatic 79, 29), (29, .iinc 3 1, 32), (32, .goto (-30), 35), (35, .iconst 0, 36), (36, .istore_n 3, 37), (37, .iload_n 3, 38), (38, .iload_n 2, 39), (39, .if_icmp .ge 35, 42), (42, .aload_n 0, 43), (43, .invokevirtual 134, 46), (46, .istore 4, 48), (48, .aload_n 0, 49), (49, .getfield 35, 52), (52, .iload 4, 54), (54, .aload_n 0, 55), (55, .getfield 35, 58), (58, .iload 4, 60), (60, .invokestatic 137, 63), (63, .iconst 1, 64), (64, .iadd, 65), (65, .invokestatic 79, 68), (68, .iinc 3 1, 71), (71, .goto (-34), 74), (74, .aload_n 0, 75)] : List (Nat × Instr × Nat)).all (fun q => decide (pm_code 60 q.1 = some q.2)) = true := by decide +kernel
theorem c60_0 : pm_code 60 0 = some (.iconst 0, 1) := pm_of cl60_0 0 (q := (0, .iconst 0, 1)) rfl
theorem c60_1 : pm_code 60 1 = some (.istore_n 3, 2) := pm_of cl60_0 1 (q := (1, .istore_n 3, 2)) rfl
theorem c60_2 : pm_code 60 2 = some (.iload_n 3, 3) := pm_of cl60_0 2 (q := (2, .iload_n 3, 3)) rfl
theorem c60_3 : pm_code 60 3 = some (.iconst 5, 4) := pm_of cl60_0 3 (q := (3, .iconst 5, 4)) rfl
theorem c60_4 : pm_code 60 4 = some (.if_icmp .ge 31, 7) := pm_of cl60_0 4 (q := (4, .if_icmp .ge 31, 7)) rfl
theorem c60_7 : pm_code 60 7 = some (.aload_n 0, 8) := pm_of cl60_0 5 (q := (7, .aload_n 0, 8)) rfl
theorem c60_8 : pm_code 60 8 = some (.getfield 32, 11) := pm_of cl60_0 6 (q := (8, .getfield 32, 11)) rfl
theorem c60_11 : pm_code 60 11 = some (.iload_n 3, 12) := pm_of cl60_0 7 (q := (11, .iload_n 3, 12)) rfl
theorem c60_12 : pm_code 60 12 = some (.aload_n 0, 13) := pm_of cl60_0 8 (q := (12, .aload_n 0, 13)) rfl
theorem c60_13 : pm_code 60 13 = some (.iload_n 3, 14) := pm_of cl60_0 9 (q := (13, .iload_n 3, 14)) rfl
theorem c60_14 : pm_code 60 14 = some (.invokevirtual 68, 17) := pm_of cl60_0 10 (q := (14, .invokevirtual 68, 17)) rfl
theorem c60_17 : pm_code 60 17 = some (.invokestatic 79, 20) := pm_of cl60_0 11 (q := (17, .invokestatic 79, 20)) rfl
theorem c60_20 : pm_code 60 20 = some (.aload_n 0, 21) := pm_of cl60_0 12 (q := (20, .aload_n 0, 21)) rfl
theorem c60_21 : pm_code 60 21 = some (.getfield 35, 24) := pm_of cl60_0 13 (q := (21, .getfield 35, 24)) rfl
theorem c60_24 : pm_code 60 24 = some (.iload_n 3, 25) := pm_of cl60_0 14 (q := (24, .iload_n 3, 25)) rfl
theorem c60_25 : pm_code 60 25 = some (.iconst 0, 26) := pm_of cl60_0 15 (q := (25, .iconst 0, 26)) rfl
theorem c60_26 : pm_code 60 26 = some (.invokestatic 79, 29) := pm_of cl60_0 16 (q := (26, .invokestatic 79, 29)) rfl
theorem c60_29 : pm_code 60 29 = some (.iinc 3 1, 32) := pm_of cl60_0 17 (q := (29, .iinc 3 1, 32)) rfl
theorem c60_32 : pm_code 60 32 = some (.goto (-30), 35) := pm_of cl60_0 18 (q := (32, .goto (-30), 35)) rfl
theorem c60_35 : pm_code 60 35 = some (.iconst 0, 36) := pm_of cl60_0 19 (q := (35, .iconst 0, 36)) rfl
theorem c60_36 : pm_code 60 36 = some (.istore_n 3, 37) := pm_of cl60_0 20 (q := (36, .istore_n 3, 37)) rfl
theorem c60_37 : pm_code 60 37 = some (.iload_n 3, 38) := pm_of cl60_0 21 (q := (37, .iload_n 3, 38)) rfl
theorem c60_38 : pm_code 60 38 = some (.iload_n 2, 39) := pm_of cl60_0 22 (q := (38, .iload_n 2, 39)) rfl
theorem c60_39 : pm_code 60 39 = some (.if_icmp .ge 35, 42) := pm_of cl60_0 23 (q := (39, .if_icmp .ge 35, 42)) rfl
theorem c60_42 : pm_code 60 42 = some (.aload_n 0, 43) := pm_of cl60_0 24 (q := (42, .aload_n 0, 43)) rfl
theorem c60_43 : pm_code 60 43 = some (.invokevirtual 134, 46) := pm_of cl60_0 25 (q := (43, .invokevirtual 134, 46)) rfl
theorem c60_46 : pm_code 60 46 = some (.istore 4, 48) := pm_of cl60_0 26 (q := (46, .istore 4, 48)) rfl
theorem c60_48 : pm_code 60 48 = some (.aload_n 0, 49) := pm_of cl60_0 27 (q := (48, .aload_n 0, 49)) rfl
theorem c60_49 : pm_code 60 49 = some (.getfield 35, 52) := pm_of cl60_0 28 (q := (49, .getfield 35, 52)) rfl
theorem c60_52 : pm_code 60 52 = some (.iload 4, 54) := pm_of cl60_0 29 (q := (52, .iload 4, 54)) rfl
theorem c60_54 : pm_code 60 54 = some (.aload_n 0, 55) := pm_of cl60_0 30 (q := (54, .aload_n 0, 55)) rfl
theorem c60_55 : pm_code 60 55 = some (.getfield 35, 58) := pm_of cl60_0 31 (q := (55, .getfield 35, 58)) rfl
theorem c60_58 : pm_code 60 58 = some (.iload 4, 60) := pm_of cl60_0 32 (q := (58, .iload 4, 60)) rfl
theorem c60_60 : pm_code 60 60 = some (.invokestatic 137, 63) := pm_of cl60_0 33 (q := (60, .invokestatic 137, 63)) rfl
theorem c60_63 : pm_code 60 63 = some (.iconst 1, 64) := pm_of cl60_0 34 (q := (63, .iconst 1, 64)) rfl
theorem c60_64 : pm_code 60 64 = some (.iadd, 65) := pm_of cl60_0 35 (q := (64, .iadd, 65)) rfl
theorem c60_65 : pm_code 60 65 = some (.invokestatic 79, 68) := pm_of cl60_0 36 (q := (65, .invokestatic 79, 68)) rfl
theorem c60_68 : pm_code 60 68 = some (.iinc 3 1, 71) := pm_of cl60_0 37 (q := (68, .iinc 3 1, 71)) rfl
theorem c60_71 : pm_code 60 71 = some (.goto (-34), 74) := pm_of cl60_0 38 (q := (71, .goto (-34), 74)) rfl
theorem c60_74 : pm_code 60 74 = some (.aload_n 0, 75) := pm_of cl60_0 39 (q := (74, .aload_n 0, 75)) rfl
theorem cl60_1 : ([(75, .getfield 35, 78), (78, .iload_n 1, 79), (79, .invokestatic 137, 82), (82, .ireturn, 83)] : List (Nat × Instr × Nat)).all (fun q => decide (pm_code 60 q.1 = some q.2)) = true := by decide +kernel
theorem c60_75 : pm_code 60 75 = some (.getfield 35, 78) := pm_of cl60_1 0 (q := (75, .getfield 35, 78)) rfl
theorem c60_78 : pm_code 60 78 = some (.iload_n 1, 79) := pm_of cl60_1 1 (q := (78, .iload_n 1, 79)) rfl
theorem c60_79 : pm_code 60 79 = some (.invokestatic 137, 82) := pm_of cl60_1 2 (q := (79, .invokestatic 137, 82)) rfl
theorem c60_82 : pm_code 60 82 = some (.ireturn, 83) := pm_of cl60_1 3 (q := (82, .ireturn, 83)) rfl
theorem k61 : pm_k 61 = 3 := by decide +kernel
theorem ml61 : pm_ml 61 = 3 := by decide +kernel
theorem rt61 : pm_rt 61 = (some .int) := by decide +kernel
theorem hh61 : pm_hh 61 = [] := by decide +kernel
theorem rc61 : pm_cl 3 = (pm_y 61).cls := by decide +kernel
theorem cl61_0 : ([(0, .iconst (-1), 1), (1, .istore_n 1, 2), (2, .iconst 0, 3), (3, .istore_n 2, 4), (4, .iload_n 2, 5), (5, .aload_n 0, 6), (6, .getfield 41, 9), (9, .invokevirtual 141, 12), (12, .if_icmp .ge 68, 15), (15, .aload_n 0, 16), (16, .getfield 32, 19), (19, .iload_n 2, 20), (20, .invokestatic 137, 23), (23, .ifCond .le 51, 26), (26, .iload_n 1, 27), (27, .iconst (-1), 28), (28, .if_icmp .eq 44, 31), (31, .aload_n 0, 32), (32, .getfield 32, 35), (35, .iload_n 2, 36), (36, .invokestatic 137, 39), (39, .iconst 1, 40), (40, .aload_n 0, 41), (41, .getfield 35, 44), (44, .iload_n 1, 45), (45, .invokestatic 137, 48), (48, .iadd, 49), (49, .imul, 50), (50, .aload_n 0, 51), (51, .getfield 32, 54), (54, .iload_n 1, 55), (55, .invokestatic 137, 58), (58, .iconst 1, 59), (59, .aload_n 0, 60), (60, .getfield 35, 63), (63, .iload_n 2, 64), (64, .invokestatic 137, 67), (67, .iadd, 68), (68, .imul, 69), (69, .if_icmp .le 5, 72)] : List (Nat × Instr × Nat)).all (fun q => decide (pm_code 61 q.1 = some q.2)) = true := by decide +kernel
theorem c61_0 : pm_code 61 0 = some (.iconst (-1), 1) := pm_of cl61_0 0 (q := (0, .iconst (-1), 1)) rfl
theorem c61_1 : pm_code 61 1 = some (.istore_n 1, 2) := pm_of cl61_0 1 (q := (1, .istore_n 1, 2)) rfl
theorem c61_2 : pm_code 61 2 = some (.iconst 0, 3) := pm_of cl61_0 2 (q := (2, .iconst 0, 3)) rfl
theorem c61_3 : pm_code 61 3 = some (.istore_n 2, 4) := pm_of cl61_0 3 (q := (3, .istore_n 2, 4)) rfl
theorem c61_4 : pm_code 61 4 = some (.iload_n 2, 5) := pm_of cl61_0 4 (q := (4, .iload_n 2, 5)) rfl
theorem c61_5 : pm_code 61 5 = some (.aload_n 0, 6) := pm_of cl61_0 5 (q := (5, .aload_n 0, 6)) rfl
theorem c61_6 : pm_code 61 6 = some (.getfield 41, 9) := pm_of cl61_0 6 (q := (6, .getfield 41, 9)) rfl
theorem c61_9 : pm_code 61 9 = some (.invokevirtual 141, 12) := pm_of cl61_0 7 (q := (9, .invokevirtual 141, 12)) rfl
theorem c61_12 : pm_code 61 12 = some (.if_icmp .ge 68, 15) := pm_of cl61_0 8 (q := (12, .if_icmp .ge 68, 15)) rfl
theorem c61_15 : pm_code 61 15 = some (.aload_n 0, 16) := pm_of cl61_0 9 (q := (15, .aload_n 0, 16)) rfl
theorem c61_16 : pm_code 61 16 = some (.getfield 32, 19) := pm_of cl61_0 10 (q := (16, .getfield 32, 19)) rfl
theorem c61_19 : pm_code 61 19 = some (.iload_n 2, 20) := pm_of cl61_0 11 (q := (19, .iload_n 2, 20)) rfl
theorem c61_20 : pm_code 61 20 = some (.invokestatic 137, 23) := pm_of cl61_0 12 (q := (20, .invokestatic 137, 23)) rfl
theorem c61_23 : pm_code 61 23 = some (.ifCond .le 51, 26) := pm_of cl61_0 13 (q := (23, .ifCond .le 51, 26)) rfl
theorem c61_26 : pm_code 61 26 = some (.iload_n 1, 27) := pm_of cl61_0 14 (q := (26, .iload_n 1, 27)) rfl
theorem c61_27 : pm_code 61 27 = some (.iconst (-1), 28) := pm_of cl61_0 15 (q := (27, .iconst (-1), 28)) rfl
theorem c61_28 : pm_code 61 28 = some (.if_icmp .eq 44, 31) := pm_of cl61_0 16 (q := (28, .if_icmp .eq 44, 31)) rfl
theorem c61_31 : pm_code 61 31 = some (.aload_n 0, 32) := pm_of cl61_0 17 (q := (31, .aload_n 0, 32)) rfl
theorem c61_32 : pm_code 61 32 = some (.getfield 32, 35) := pm_of cl61_0 18 (q := (32, .getfield 32, 35)) rfl
theorem c61_35 : pm_code 61 35 = some (.iload_n 2, 36) := pm_of cl61_0 19 (q := (35, .iload_n 2, 36)) rfl
theorem c61_36 : pm_code 61 36 = some (.invokestatic 137, 39) := pm_of cl61_0 20 (q := (36, .invokestatic 137, 39)) rfl
theorem c61_39 : pm_code 61 39 = some (.iconst 1, 40) := pm_of cl61_0 21 (q := (39, .iconst 1, 40)) rfl
theorem c61_40 : pm_code 61 40 = some (.aload_n 0, 41) := pm_of cl61_0 22 (q := (40, .aload_n 0, 41)) rfl
theorem c61_41 : pm_code 61 41 = some (.getfield 35, 44) := pm_of cl61_0 23 (q := (41, .getfield 35, 44)) rfl
theorem c61_44 : pm_code 61 44 = some (.iload_n 1, 45) := pm_of cl61_0 24 (q := (44, .iload_n 1, 45)) rfl
theorem c61_45 : pm_code 61 45 = some (.invokestatic 137, 48) := pm_of cl61_0 25 (q := (45, .invokestatic 137, 48)) rfl
theorem c61_48 : pm_code 61 48 = some (.iadd, 49) := pm_of cl61_0 26 (q := (48, .iadd, 49)) rfl
theorem c61_49 : pm_code 61 49 = some (.imul, 50) := pm_of cl61_0 27 (q := (49, .imul, 50)) rfl
theorem c61_50 : pm_code 61 50 = some (.aload_n 0, 51) := pm_of cl61_0 28 (q := (50, .aload_n 0, 51)) rfl
theorem c61_51 : pm_code 61 51 = some (.getfield 32, 54) := pm_of cl61_0 29 (q := (51, .getfield 32, 54)) rfl
theorem c61_54 : pm_code 61 54 = some (.iload_n 1, 55) := pm_of cl61_0 30 (q := (54, .iload_n 1, 55)) rfl
theorem c61_55 : pm_code 61 55 = some (.invokestatic 137, 58) := pm_of cl61_0 31 (q := (55, .invokestatic 137, 58)) rfl
theorem c61_58 : pm_code 61 58 = some (.iconst 1, 59) := pm_of cl61_0 32 (q := (58, .iconst 1, 59)) rfl
theorem c61_59 : pm_code 61 59 = some (.aload_n 0, 60) := pm_of cl61_0 33 (q := (59, .aload_n 0, 60)) rfl
theorem c61_60 : pm_code 61 60 = some (.getfield 35, 63) := pm_of cl61_0 34 (q := (60, .getfield 35, 63)) rfl
theorem c61_63 : pm_code 61 63 = some (.iload_n 2, 64) := pm_of cl61_0 35 (q := (63, .iload_n 2, 64)) rfl
theorem c61_64 : pm_code 61 64 = some (.invokestatic 137, 67) := pm_of cl61_0 36 (q := (64, .invokestatic 137, 67)) rfl
theorem c61_67 : pm_code 61 67 = some (.iadd, 68) := pm_of cl61_0 37 (q := (67, .iadd, 68)) rfl
theorem c61_68 : pm_code 61 68 = some (.imul, 69) := pm_of cl61_0 38 (q := (68, .imul, 69)) rfl
theorem c61_69 : pm_code 61 69 = some (.if_icmp .le 5, 72) := pm_of cl61_0 39 (q := (69, .if_icmp .le 5, 72)) rfl
theorem cl61_1 : ([(72, .iload_n 2, 73), (73, .istore_n 1, 74), (74, .iinc 2 1, 77), (77, .goto (-73), 80), (80, .iload_n 1, 81), (81, .ireturn, 82)] : List (Nat × Instr × Nat)).all (fun q => decide (pm_code 61 q.1 = some q.2)) = true := by decide +kernel
theorem c61_72 : pm_code 61 72 = some (.iload_n 2, 73) := pm_of cl61_1 0 (q := (72, .iload_n 2, 73)) rfl
theorem c61_73 : pm_code 61 73 = some (.istore_n 1, 74) := pm_of cl61_1 1 (q := (73, .istore_n 1, 74)) rfl
theorem c61_74 : pm_code 61 74 = some (.iinc 2 1, 77) := pm_of cl61_1 2 (q := (74, .iinc 2 1, 77)) rfl
theorem c61_77 : pm_code 61 77 = some (.goto (-73), 80) := pm_of cl61_1 3 (q := (77, .goto (-73), 80)) rfl
theorem c61_80 : pm_code 61 80 = some (.iload_n 1, 81) := pm_of cl61_1 4 (q := (80, .iload_n 1, 81)) rfl
theorem c61_81 : pm_code 61 81 = some (.ireturn, 82) := pm_of cl61_1 5 (q := (81, .ireturn, 82)) rfl
theorem k62 : pm_k 62 = 4 := by decide +kernel
theorem ml62 : pm_ml 62 = 1 := by decide +kernel
theorem rt62 : pm_rt 62 = none := by decide +kernel
theorem hh62 : pm_hh 62 = [] := by decide +kernel
theorem rc62 : pm_cl 4 = (pm_y 62).cls := by decide +kernel
theorem cl62_0 : ([(0, .aload_n 0, 1), (1, .invokespecial 3, 4), (4, .aload_n 0, 5), (5, .sipush 3125, 8), (8, .newarray .long, 10), (10, .putfield 11, 13), (13, .aload_n 0, 14), (14, .bipush 8, 16), (16, .newarray .int, 18), (18, .putfield 15, 21), (21, .aload_n 0, 22), (22, .bipush 8, 24), (24, .newarray .int, 26), (26, .putfield 19, 29), (29, .aload_n 0, 30), (30, .bipush 40, 32), (32, .newarray .int, 34), (34, .putfield 22, 37), (37, .aload_n 0, 38), (38, .iconst 5, 39), (39, .newarray .int, 41), (41, .putfield 25, 44), (44, .aload_n 0, 45), (45, .iconst 5, 46), (46, .newarray .int, 48), (48, .putfield 28, 51), (51, .aload_n 0, 52), (52, .iconst 5, 53), (53, .newarray .int, 55), (55, .putfield 31, 58), (58, .aload_n 0, 59), (59, .iconst 0, 60), (60, .putfield 34, 63), (63, .aload_n 0, 64), (64, .iconst 0, 65), (65, .putfield 38, 68), (68, .aload_n 0, 69), (69, .iconst 0, 70), (70, .putfield 41, 73), (73, .aload_n 0, 74)] : List (Nat × Instr × Nat)).all (fun q => decide (pm_code 62 q.1 = some q.2)) = true := by decide +kernel
theorem c62_0 : pm_code 62 0 = some (.aload_n 0, 1) := pm_of cl62_0 0 (q := (0, .aload_n 0, 1)) rfl
theorem c62_1 : pm_code 62 1 = some (.invokespecial 3, 4) := pm_of cl62_0 1 (q := (1, .invokespecial 3, 4)) rfl
theorem c62_4 : pm_code 62 4 = some (.aload_n 0, 5) := pm_of cl62_0 2 (q := (4, .aload_n 0, 5)) rfl
theorem c62_5 : pm_code 62 5 = some (.sipush 3125, 8) := pm_of cl62_0 3 (q := (5, .sipush 3125, 8)) rfl
theorem c62_8 : pm_code 62 8 = some (.newarray .long, 10) := pm_of cl62_0 4 (q := (8, .newarray .long, 10)) rfl
theorem c62_10 : pm_code 62 10 = some (.putfield 11, 13) := pm_of cl62_0 5 (q := (10, .putfield 11, 13)) rfl
theorem c62_13 : pm_code 62 13 = some (.aload_n 0, 14) := pm_of cl62_0 6 (q := (13, .aload_n 0, 14)) rfl
theorem c62_14 : pm_code 62 14 = some (.bipush 8, 16) := pm_of cl62_0 7 (q := (14, .bipush 8, 16)) rfl
theorem c62_16 : pm_code 62 16 = some (.newarray .int, 18) := pm_of cl62_0 8 (q := (16, .newarray .int, 18)) rfl
theorem c62_18 : pm_code 62 18 = some (.putfield 15, 21) := pm_of cl62_0 9 (q := (18, .putfield 15, 21)) rfl
theorem c62_21 : pm_code 62 21 = some (.aload_n 0, 22) := pm_of cl62_0 10 (q := (21, .aload_n 0, 22)) rfl
theorem c62_22 : pm_code 62 22 = some (.bipush 8, 24) := pm_of cl62_0 11 (q := (22, .bipush 8, 24)) rfl
theorem c62_24 : pm_code 62 24 = some (.newarray .int, 26) := pm_of cl62_0 12 (q := (24, .newarray .int, 26)) rfl
theorem c62_26 : pm_code 62 26 = some (.putfield 19, 29) := pm_of cl62_0 13 (q := (26, .putfield 19, 29)) rfl
theorem c62_29 : pm_code 62 29 = some (.aload_n 0, 30) := pm_of cl62_0 14 (q := (29, .aload_n 0, 30)) rfl
theorem c62_30 : pm_code 62 30 = some (.bipush 40, 32) := pm_of cl62_0 15 (q := (30, .bipush 40, 32)) rfl
theorem c62_32 : pm_code 62 32 = some (.newarray .int, 34) := pm_of cl62_0 16 (q := (32, .newarray .int, 34)) rfl
theorem c62_34 : pm_code 62 34 = some (.putfield 22, 37) := pm_of cl62_0 17 (q := (34, .putfield 22, 37)) rfl
theorem c62_37 : pm_code 62 37 = some (.aload_n 0, 38) := pm_of cl62_0 18 (q := (37, .aload_n 0, 38)) rfl
theorem c62_38 : pm_code 62 38 = some (.iconst 5, 39) := pm_of cl62_0 19 (q := (38, .iconst 5, 39)) rfl
theorem c62_39 : pm_code 62 39 = some (.newarray .int, 41) := pm_of cl62_0 20 (q := (39, .newarray .int, 41)) rfl
theorem c62_41 : pm_code 62 41 = some (.putfield 25, 44) := pm_of cl62_0 21 (q := (41, .putfield 25, 44)) rfl
theorem c62_44 : pm_code 62 44 = some (.aload_n 0, 45) := pm_of cl62_0 22 (q := (44, .aload_n 0, 45)) rfl
theorem c62_45 : pm_code 62 45 = some (.iconst 5, 46) := pm_of cl62_0 23 (q := (45, .iconst 5, 46)) rfl
theorem c62_46 : pm_code 62 46 = some (.newarray .int, 48) := pm_of cl62_0 24 (q := (46, .newarray .int, 48)) rfl
theorem c62_48 : pm_code 62 48 = some (.putfield 28, 51) := pm_of cl62_0 25 (q := (48, .putfield 28, 51)) rfl
theorem c62_51 : pm_code 62 51 = some (.aload_n 0, 52) := pm_of cl62_0 26 (q := (51, .aload_n 0, 52)) rfl
theorem c62_52 : pm_code 62 52 = some (.iconst 5, 53) := pm_of cl62_0 27 (q := (52, .iconst 5, 53)) rfl
theorem c62_53 : pm_code 62 53 = some (.newarray .int, 55) := pm_of cl62_0 28 (q := (53, .newarray .int, 55)) rfl
theorem c62_55 : pm_code 62 55 = some (.putfield 31, 58) := pm_of cl62_0 29 (q := (55, .putfield 31, 58)) rfl
theorem c62_58 : pm_code 62 58 = some (.aload_n 0, 59) := pm_of cl62_0 30 (q := (58, .aload_n 0, 59)) rfl
theorem c62_59 : pm_code 62 59 = some (.iconst 0, 60) := pm_of cl62_0 31 (q := (59, .iconst 0, 60)) rfl
theorem c62_60 : pm_code 62 60 = some (.putfield 34, 63) := pm_of cl62_0 32 (q := (60, .putfield 34, 63)) rfl
theorem c62_63 : pm_code 62 63 = some (.aload_n 0, 64) := pm_of cl62_0 33 (q := (63, .aload_n 0, 64)) rfl
theorem c62_64 : pm_code 62 64 = some (.iconst 0, 65) := pm_of cl62_0 34 (q := (64, .iconst 0, 65)) rfl
theorem c62_65 : pm_code 62 65 = some (.putfield 38, 68) := pm_of cl62_0 35 (q := (65, .putfield 38, 68)) rfl
theorem c62_68 : pm_code 62 68 = some (.aload_n 0, 69) := pm_of cl62_0 36 (q := (68, .aload_n 0, 69)) rfl
theorem c62_69 : pm_code 62 69 = some (.iconst 0, 70) := pm_of cl62_0 37 (q := (69, .iconst 0, 70)) rfl
theorem c62_70 : pm_code 62 70 = some (.putfield 41, 73) := pm_of cl62_0 38 (q := (70, .putfield 41, 73)) rfl
theorem c62_73 : pm_code 62 73 = some (.aload_n 0, 74) := pm_of cl62_0 39 (q := (73, .aload_n 0, 74)) rfl
theorem cl62_1 : ([(74, .iconst 0, 75), (75, .putfield 44, 78), (78, .aload_n 0, 79), (79, .iconst 0, 80), (80, .putfield 47, 83), (83, .aload_n 0, 84), (84, .iconst 0, 85), (85, .putfield 50, 88), (88, .return_, 89)] : List (Nat × Instr × Nat)).all (fun q => decide (pm_code 62 q.1 = some q.2)) = true := by decide +kernel
theorem c62_74 : pm_code 62 74 = some (.iconst 0, 75) := pm_of cl62_1 0 (q := (74, .iconst 0, 75)) rfl
theorem c62_75 : pm_code 62 75 = some (.putfield 44, 78) := pm_of cl62_1 1 (q := (75, .putfield 44, 78)) rfl
theorem c62_78 : pm_code 62 78 = some (.aload_n 0, 79) := pm_of cl62_1 2 (q := (78, .aload_n 0, 79)) rfl
theorem c62_79 : pm_code 62 79 = some (.iconst 0, 80) := pm_of cl62_1 3 (q := (79, .iconst 0, 80)) rfl
theorem c62_80 : pm_code 62 80 = some (.putfield 47, 83) := pm_of cl62_1 4 (q := (80, .putfield 47, 83)) rfl
theorem c62_83 : pm_code 62 83 = some (.aload_n 0, 84) := pm_of cl62_1 5 (q := (83, .aload_n 0, 84)) rfl
theorem c62_84 : pm_code 62 84 = some (.iconst 0, 85) := pm_of cl62_1 6 (q := (84, .iconst 0, 85)) rfl
theorem c62_85 : pm_code 62 85 = some (.putfield 50, 88) := pm_of cl62_1 7 (q := (85, .putfield 50, 88)) rfl
theorem c62_88 : pm_code 62 88 = some (.return_, 89) := pm_of cl62_1 8 (q := (88, .return_, 89)) rfl
theorem k63 : pm_k 63 = 4 := by decide +kernel
theorem ml63 : pm_ml 63 = 5 := by decide +kernel
theorem rt63 : pm_rt 63 = none := by decide +kernel
theorem hh63 : pm_hh 63 = [] := by decide +kernel
theorem rc63 : pm_cl 4 = (pm_y 63).cls := by decide +kernel
theorem cl63_0 : ([(0, .aload_n 0, 1), (1, .aload_n 1, 2), (2, .invokevirtual 57, 5), (5, .aload_n 0, 6), (6, .aload_n 1, 7), (7, .invokevirtual 61, 10), (10, .iconst 1, 11), (11, .isub, 12), (12, .istore_n 2, 13), (13, .iconst 0, 14), (14, .istore_n 3, 15), (15, .iload_n 3, 16), (16, .iload_n 2, 17), (17, .if_icmp .gt 25, 20), (20, .iload_n 3, 21), (21, .aload_n 0, 22), (22, .getfield 11, 25), (25, .arraylength, 26), (26, .if_icmp .ge 16, 29), (29, .aload_n 0, 30), (30, .getfield 11, 33), (33, .iload_n 3, 34), (34, .lconst 0, 35), (35, .lastore, 36), (36, .iinc 3 1, 39), (39, .goto (-24), 42), (42, .aload_n 1, 43), (43, .iconst 1, 44), (44, .invokevirtual 65, 47), (47, .istore_n 3, 48), (48, .aload_n 0, 49), (49, .getfield 34, 52), (52, .iconst 1, 53), (53, .isub, 54), (54, .istore 4, 56), (56, .iload 4, 58), (58, .ifCond .lt 29, 61), (61, .iload_n 3, 62), (62, .aload_n 0, 63), (63, .getfield 19, 66)] : List (Nat × Instr × Nat)).all (fun q => decide (pm_code 63 q.1 = some q.2)) = true := by decide +kernel
theorem c63_0 : pm_code 63 0 = some (.aload_n 0, 1) := pm_of cl63_0 0 (q := (0, .aload_n 0, 1)) rfl
theorem c63_1 : pm_code 63 1 = some (.aload_n 1, 2) := pm_of cl63_0 1 (q := (1, .aload_n 1, 2)) rfl
theorem c63_2 : pm_code 63 2 = some (.invokevirtual 57, 5) := pm_of cl63_0 2 (q := (2, .invokevirtual 57, 5)) rfl
theorem c63_5 : pm_code 63 5 = some (.aload_n 0, 6) := pm_of cl63_0 3 (q := (5, .aload_n 0, 6)) rfl
theorem c63_6 : pm_code 63 6 = some (.aload_n 1, 7) := pm_of cl63_0 4 (q := (6, .aload_n 1, 7)) rfl
theorem c63_7 : pm_code 63 7 = some (.invokevirtual 61, 10) := pm_of cl63_0 5 (q := (7, .invokevirtual 61, 10)) rfl
theorem c63_10 : pm_code 63 10 = some (.iconst 1, 11) := pm_of cl63_0 6 (q := (10, .iconst 1, 11)) rfl
theorem c63_11 : pm_code 63 11 = some (.isub, 12) := pm_of cl63_0 7 (q := (11, .isub, 12)) rfl
theorem c63_12 : pm_code 63 12 = some (.istore_n 2, 13) := pm_of cl63_0 8 (q := (12, .istore_n 2, 13)) rfl
theorem c63_13 : pm_code 63 13 = some (.iconst 0, 14) := pm_of cl63_0 9 (q := (13, .iconst 0, 14)) rfl
theorem c63_14 : pm_code 63 14 = some (.istore_n 3, 15) := pm_of cl63_0 10 (q := (14, .istore_n 3, 15)) rfl
theorem c63_15 : pm_code 63 15 = some (.iload_n 3, 16) := pm_of cl63_0 11 (q := (15, .iload_n 3, 16)) rfl
theorem c63_16 : pm_code 63 16 = some (.iload_n 2, 17) := pm_of cl63_0 12 (q := (16, .iload_n 2, 17)) rfl
theorem c63_17 : pm_code 63 17 = some (.if_icmp .gt 25, 20) := pm_of cl63_0 13 (q := (17, .if_icmp .gt 25, 20)) rfl
theorem c63_20 : pm_code 63 20 = some (.iload_n 3, 21) := pm_of cl63_0 14 (q := (20, .iload_n 3, 21)) rfl
theorem c63_21 : pm_code 63 21 = some (.aload_n 0, 22) := pm_of cl63_0 15 (q := (21, .aload_n 0, 22)) rfl
theorem c63_22 : pm_code 63 22 = some (.getfield 11, 25) := pm_of cl63_0 16 (q := (22, .getfield 11, 25)) rfl
theorem c63_25 : pm_code 63 25 = some (.arraylength, 26) := pm_of cl63_0 17 (q := (25, .arraylength, 26)) rfl
theorem c63_26 : pm_code 63 26 = some (.if_icmp .ge 16, 29) := pm_of cl63_0 18 (q := (26, .if_icmp .ge 16, 29)) rfl
theorem c63_29 : pm_code 63 29 = some (.aload_n 0, 30) := pm_of cl63_0 19 (q := (29, .aload_n 0, 30)) rfl
theorem c63_30 : pm_code 63 30 = some (.getfield 11, 33) := pm_of cl63_0 20 (q := (30, .getfield 11, 33)) rfl
theorem c63_33 : pm_code 63 33 = some (.iload_n 3, 34) := pm_of cl63_0 21 (q := (33, .iload_n 3, 34)) rfl
theorem c63_34 : pm_code 63 34 = some (.lconst 0, 35) := pm_of cl63_0 22 (q := (34, .lconst 0, 35)) rfl
theorem c63_35 : pm_code 63 35 = some (.lastore, 36) := pm_of cl63_0 23 (q := (35, .lastore, 36)) rfl
theorem c63_36 : pm_code 63 36 = some (.iinc 3 1, 39) := pm_of cl63_0 24 (q := (36, .iinc 3 1, 39)) rfl
theorem c63_39 : pm_code 63 39 = some (.goto (-24), 42) := pm_of cl63_0 25 (q := (39, .goto (-24), 42)) rfl
theorem c63_42 : pm_code 63 42 = some (.aload_n 1, 43) := pm_of cl63_0 26 (q := (42, .aload_n 1, 43)) rfl
theorem c63_43 : pm_code 63 43 = some (.iconst 1, 44) := pm_of cl63_0 27 (q := (43, .iconst 1, 44)) rfl
theorem c63_44 : pm_code 63 44 = some (.invokevirtual 65, 47) := pm_of cl63_0 28 (q := (44, .invokevirtual 65, 47)) rfl
theorem c63_47 : pm_code 63 47 = some (.istore_n 3, 48) := pm_of cl63_0 29 (q := (47, .istore_n 3, 48)) rfl
theorem c63_48 : pm_code 63 48 = some (.aload_n 0, 49) := pm_of cl63_0 30 (q := (48, .aload_n 0, 49)) rfl
theorem c63_49 : pm_code 63 49 = some (.getfield 34, 52) := pm_of cl63_0 31 (q := (49, .getfield 34, 52)) rfl
theorem c63_52 : pm_code 63 52 = some (.iconst 1, 53) := pm_of cl63_0 32 (q := (52, .iconst 1, 53)) rfl
theorem c63_53 : pm_code 63 53 = some (.isub, 54) := pm_of cl63_0 33 (q := (53, .isub, 54)) rfl
theorem c63_54 : pm_code 63 54 = some (.istore 4, 56) := pm_of cl63_0 34 (q := (54, .istore 4, 56)) rfl
theorem c63_56 : pm_code 63 56 = some (.iload 4, 58) := pm_of cl63_0 35 (q := (56, .iload 4, 58)) rfl
theorem c63_58 : pm_code 63 58 = some (.ifCond .lt 29, 61) := pm_of cl63_0 36 (q := (58, .ifCond .lt 29, 61)) rfl
theorem c63_61 : pm_code 63 61 = some (.iload_n 3, 62) := pm_of cl63_0 37 (q := (61, .iload_n 3, 62)) rfl
theorem c63_62 : pm_code 63 62 = some (.aload_n 0, 63) := pm_of cl63_0 38 (q := (62, .aload_n 0, 63)) rfl
theorem c63_63 : pm_code 63 63 = some (.getfield 19, 66) := pm_of cl63_0 39 (q := (63, .getfield 19, 66)) rfl
theorem cl63_1 : ([(66, .iload 4, 68), (68, .invokestatic 70, 71), (71, .isub, 72), (72, .istore_n 3, 73), (73, .aload_n 0, 74), (74, .iload 4, 76), (76, .iload_n 2, 77), (77, .iload_n 3, 78), (78, .invokevirtual 74, 81), (81, .iinc 4 (-1), 84), (84, .goto (-28), 87), (87, .aload_n 0, 88), (88, .iload_n 2, 89), (89, .ifCond .lt 21, 92), (92, .iload_n 2, 93), (93, .aload_n 0, 94), (94, .getfield 11, 97), (97, .arraylength, 98), (98, .if_icmp .ge 12, 101), (101, .aload_n 0, 102), (102, .getfield 11, 105), (105, .iload_n 2, 106), (106, .laload, 107), (107, .goto 4, 110), (110, .lconst 0, 111), (111, .invokevirtual 78, 114), (114, .return_, 115)] : List (Nat × Instr × Nat)).all (fun q => decide (pm_code 63 q.1 = some q.2)) = true := by decide +kernel
theorem c63_66 : pm_code 63 66 = some (.iload 4, 68) := pm_of cl63_1 0 (q := (66, .iload 4, 68)) rfl
theorem c63_68 : pm_code 63 68 = some (.invokestatic 70, 71) := pm_of cl63_1 1 (q := (68, .invokestatic 70, 71)) rfl
theorem c63_71 : pm_code 63 71 = some (.isub, 72) := pm_of cl63_1 2 (q := (71, .isub, 72)) rfl
theorem c63_72 : pm_code 63 72 = some (.istore_n 3, 73) := pm_of cl63_1 3 (q := (72, .istore_n 3, 73)) rfl
theorem c63_73 : pm_code 63 73 = some (.aload_n 0, 74) := pm_of cl63_1 4 (q := (73, .aload_n 0, 74)) rfl
theorem c63_74 : pm_code 63 74 = some (.iload 4, 76) := pm_of cl63_1 5 (q := (74, .iload 4, 76)) rfl
theorem c63_76 : pm_code 63 76 = some (.iload_n 2, 77) := pm_of cl63_1 6 (q := (76, .iload_n 2, 77)) rfl
theorem c63_77 : pm_code 63 77 = some (.iload_n 3, 78) := pm_of cl63_1 7 (q := (77, .iload_n 3, 78)) rfl
theorem c63_78 : pm_code 63 78 = some (.invokevirtual 74, 81) := pm_of cl63_1 8 (q := (78, .invokevirtual 74, 81)) rfl
theorem c63_81 : pm_code 63 81 = some (.iinc 4 (-1), 84) := pm_of cl63_1 9 (q := (81, .iinc 4 (-1), 84)) rfl
theorem c63_84 : pm_code 63 84 = some (.goto (-28), 87) := pm_of cl63_1 10 (q := (84, .goto (-28), 87)) rfl
theorem c63_87 : pm_code 63 87 = some (.aload_n 0, 88) := pm_of cl63_1 11 (q := (87, .aload_n 0, 88)) rfl
theorem c63_88 : pm_code 63 88 = some (.iload_n 2, 89) := pm_of cl63_1 12 (q := (88, .iload_n 2, 89)) rfl
theorem c63_89 : pm_code 63 89 = some (.ifCond .lt 21, 92) := pm_of cl63_1 13 (q := (89, .ifCond .lt 21, 92)) rfl
theorem c63_92 : pm_code 63 92 = some (.iload_n 2, 93) := pm_of cl63_1 14 (q := (92, .iload_n 2, 93)) rfl
theorem c63_93 : pm_code 63 93 = some (.aload_n 0, 94) := pm_of cl63_1 15 (q := (93, .aload_n 0, 94)) rfl
theorem c63_94 : pm_code 63 94 = some (.getfield 11, 97) := pm_of cl63_1 16 (q := (94, .getfield 11, 97)) rfl
theorem c63_97 : pm_code 63 97 = some (.arraylength, 98) := pm_of cl63_1 17 (q := (97, .arraylength, 98)) rfl
theorem c63_98 : pm_code 63 98 = some (.if_icmp .ge 12, 101) := pm_of cl63_1 18 (q := (98, .if_icmp .ge 12, 101)) rfl
theorem c63_101 : pm_code 63 101 = some (.aload_n 0, 102) := pm_of cl63_1 19 (q := (101, .aload_n 0, 102)) rfl
theorem c63_102 : pm_code 63 102 = some (.getfield 11, 105) := pm_of cl63_1 20 (q := (102, .getfield 11, 105)) rfl
theorem c63_105 : pm_code 63 105 = some (.iload_n 2, 106) := pm_of cl63_1 21 (q := (105, .iload_n 2, 106)) rfl
theorem c63_106 : pm_code 63 106 = some (.laload, 107) := pm_of cl63_1 22 (q := (106, .laload, 107)) rfl
theorem c63_107 : pm_code 63 107 = some (.goto 4, 110) := pm_of cl63_1 23 (q := (107, .goto 4, 110)) rfl
theorem c63_110 : pm_code 63 110 = some (.lconst 0, 111) := pm_of cl63_1 24 (q := (110, .lconst 0, 111)) rfl
theorem c63_111 : pm_code 63 111 = some (.invokevirtual 78, 114) := pm_of cl63_1 25 (q := (111, .invokevirtual 78, 114)) rfl
theorem c63_114 : pm_code 63 114 = some (.return_, 115) := pm_of cl63_1 26 (q := (114, .return_, 115)) rfl
theorem k64 : pm_k 64 = 4 := by decide +kernel
theorem ml64 : pm_ml 64 = 3 := by decide +kernel
theorem rt64 : pm_rt 64 = none := by decide +kernel
theorem hh64 : pm_hh 64 = [] := by decide +kernel
theorem rc64 : pm_cl 4 = (pm_y 64).cls := by decide +kernel
theorem cl64_0 : ([(0, .aload_n 0, 1), (1, .iconst 0, 2), (2, .putfield 34, 5), (5, .aload_n 0, 6), (6, .aload_n 1, 7), (7, .invokevirtual 82, 10), (10, .invokevirtual 86, 13), (13, .putfield 38, 16), (16, .iconst 0, 17), (17, .istore_n 2, 18), (18, .iload_n 2, 19), (19, .bipush 8, 21), (21, .if_icmp .ge 44, 24), (24, .aload_n 0, 25), (25, .getfield 15, 28), (28, .iload_n 2, 29), (29, .iconst (-1), 30), (30, .invokestatic 91, 33), (33, .iload_n 2, 34), (34, .aload_n 1, 35), (35, .invokevirtual 82, 38), (38, .invokevirtual 95, 41), (41, .if_icmp .ge 18, 44), (44, .aload_n 1, 45), (45, .iload_n 2, 46), (46, .iconst 1, 47), (47, .invokevirtual 98, 50), (50, .ifCond .eq 9, 53), (53, .aload_n 0, 54), (54, .aload_n 1, 55), (55, .iload_n 2, 56), (56, .invokevirtual 102, 59), (59, .iinc 2 1, 62), (62, .goto (-44), 65), (65, .return_, 66)] : List (Nat × Instr × Nat)).all (fun q => decide (pm_code 64 q.1 = some q.2)) = true := by decide +kernel
theorem c64_0 : pm_code 64 0 = some (.aload_n 0, 1) := pm_of cl64_0 0 (q := (0, .aload_n 0, 1)) rfl
theorem c64_1 : pm_code 64 1 = some (.iconst 0, 2) := pm_of cl64_0 1 (q := (1, .iconst 0, 2)) rfl
theorem c64_2 : pm_code 64 2 = some (.putfield 34, 5) := pm_of cl64_0 2 (q := (2, .putfield 34, 5)) rfl
theorem c64_5 : pm_code 64 5 = some (.aload_n 0, 6) := pm_of cl64_0 3 (q := (5, .aload_n 0, 6)) rfl
theorem c64_6 : pm_code 64 6 = some (.aload_n 1, 7) := pm_of cl64_0 4 (q := (6, .aload_n 1, 7)) rfl
theorem c64_7 : pm_code 64 7 = some (.invokevirtual 82, 10) := pm_of cl64_0 5 (q := (7, .invokevirtual 82, 10)) rfl
theorem c64_10 : pm_code 64 10 = some (.invokevirtual 86, 13) := pm_of cl64_0 6 (q := (10, .invokevirtual 86, 13)) rfl
theorem c64_13 : pm_code 64 13 = some (.putfield 38, 16) := pm_of cl64_0 7 (q := (13, .putfield 38, 16)) rfl
theorem c64_16 : pm_code 64 16 = some (.iconst 0, 17) := pm_of cl64_0 8 (q := (16, .iconst 0, 17)) rfl
theorem c64_17 : pm_code 64 17 = some (.istore_n 2, 18) := pm_of cl64_0 9 (q := (17, .istore_n 2, 18)) rfl
theorem c64_18 : pm_code 64 18 = some (.iload_n 2, 19) := pm_of cl64_0 10 (q := (18, .iload_n 2, 19)) rfl
theorem c64_19 : pm_code 64 19 = some (.bipush 8, 21) := pm_of cl64_0 11 (q := (19, .bipush 8, 21)) rfl
theorem c64_21 : pm_code 64 21 = some (.if_icmp .ge 44, 24) := pm_of cl64_0 12 (q := (21, .if_icmp .ge 44, 24)) rfl
theorem c64_24 : pm_code 64 24 = some (.aload_n 0, 25) := pm_of cl64_0 13 (q := (24, .aload_n 0, 25)) rfl
theorem c64_25 : pm_code 64 25 = some (.getfield 15, 28) := pm_of cl64_0 14 (q := (25, .getfield 15, 28)) rfl
theorem c64_28 : pm_code 64 28 = some (.iload_n 2, 29) := pm_of cl64_0 15 (q := (28, .iload_n 2, 29)) rfl
theorem c64_29 : pm_code 64 29 = some (.iconst (-1), 30) := pm_of cl64_0 16 (q := (29, .iconst (-1), 30)) rfl
theorem c64_30 : pm_code 64 30 = some (.invokestatic 91, 33) := pm_of cl64_0 17 (q := (30, .invokestatic 91, 33)) rfl
theorem c64_33 : pm_code 64 33 = some (.iload_n 2, 34) := pm_of cl64_0 18 (q := (33, .iload_n 2, 34)) rfl
theorem c64_34 : pm_code 64 34 = some (.aload_n 1, 35) := pm_of cl64_0 19 (q := (34, .aload_n 1, 35)) rfl
theorem c64_35 : pm_code 64 35 = some (.invokevirtual 82, 38) := pm_of cl64_0 20 (q := (35, .invokevirtual 82, 38)) rfl
theorem c64_38 : pm_code 64 38 = some (.invokevirtual 95, 41) := pm_of cl64_0 21 (q := (38, .invokevirtual 95, 41)) rfl
theorem c64_41 : pm_code 64 41 = some (.if_icmp .ge 18, 44) := pm_of cl64_0 22 (q := (41, .if_icmp .ge 18, 44)) rfl
theorem c64_44 : pm_code 64 44 = some (.aload_n 1, 45) := pm_of cl64_0 23 (q := (44, .aload_n 1, 45)) rfl
theorem c64_45 : pm_code 64 45 = some (.iload_n 2, 46) := pm_of cl64_0 24 (q := (45, .iload_n 2, 46)) rfl
theorem c64_46 : pm_code 64 46 = some (.iconst 1, 47) := pm_of cl64_0 25 (q := (46, .iconst 1, 47)) rfl
theorem c64_47 : pm_code 64 47 = some (.invokevirtual 98, 50) := pm_of cl64_0 26 (q := (47, .invokevirtual 98, 50)) rfl
theorem c64_50 : pm_code 64 50 = some (.ifCond .eq 9, 53) := pm_of cl64_0 27 (q := (50, .ifCond .eq 9, 53)) rfl
theorem c64_53 : pm_code 64 53 = some (.aload_n 0, 54) := pm_of cl64_0 28 (q := (53, .aload_n 0, 54)) rfl
theorem c64_54 : pm_code 64 54 = some (.aload_n 1, 55) := pm_of cl64_0 29 (q := (54, .aload_n 1, 55)) rfl
theorem c64_55 : pm_code 64 55 = some (.iload_n 2, 56) := pm_of cl64_0 30 (q := (55, .iload_n 2, 56)) rfl
theorem c64_56 : pm_code 64 56 = some (.invokevirtual 102, 59) := pm_of cl64_0 31 (q := (56, .invokevirtual 102, 59)) rfl
theorem c64_59 : pm_code 64 59 = some (.iinc 2 1, 62) := pm_of cl64_0 32 (q := (59, .iinc 2 1, 62)) rfl
theorem c64_62 : pm_code 64 62 = some (.goto (-44), 65) := pm_of cl64_0 33 (q := (62, .goto (-44), 65)) rfl
theorem c64_65 : pm_code 64 65 = some (.return_, 66) := pm_of cl64_0 34 (q := (65, .return_, 66)) rfl
theorem k65 : pm_k 65 = 4 := by decide +kernel
theorem ml65 : pm_ml 65 = 7 := by decide +kernel
theorem rt65 : pm_rt 65 = none := by decide +kernel
theorem hh65 : pm_hh 65 = [] := by decide +kernel
theorem rc65 : pm_cl 4 = (pm_y 65).cls := by decide +kernel
theorem cl65_0 : ([(0, .aload_n 0, 1), (1, .aload_n 1, 2), (2, .invokevirtual 82, 5), (5, .iload_n 2, 6), (6, .invokevirtual 106, 9), (9, .istore_n 3, 10), (10, .iload_n 3, 11), (11, .iconst (-1), 12), (12, .if_icmp .ne 56, 15), (15, .aload_n 0, 16), (16, .getfield 34, 19), (19, .istore_n 3, 20), (20, .aload_n 0, 21), (21, .dup, 22), (22, .getfield 34, 25), (25, .iconst 1, 26), (26, .iadd, 27), (27, .putfield 34, 30), (30, .aload_n 0, 31), (31, .getfield 19, 34), (34, .iload_n 3, 35), (35, .iconst 0, 36), (36, .invokestatic 91, 39), (39, .iconst 0, 40), (40, .istore 4, 42), (42, .iload 4, 44), (44, .iconst 5, 45), (45, .if_icmp .ge 23, 48), (48, .aload_n 0, 49), (49, .getfield 22, 52), (52, .iload_n 3, 53), (53, .iconst 5, 54), (54, .imul, 55), (55, .iload 4, 57), (57, .iadd, 58), (58, .iconst 0, 59), (59, .invokestatic 91, 62), (62, .iinc 4 1, 65), (65, .goto (-23), 68), (68, .aload_n 0, 69)] : List (Nat × Instr × Nat)).all (fun q => decide (pm_code 65 q.1 = some q.2)) = true := by decide +kernel
theorem c65_0 : pm_code 65 0 = some (.aload_n 0, 1) := pm_of cl65_0 0 (q := (0, .aload_n 0, 1)) rfl
theorem c65_1 : pm_code 65 1 = some (.aload_n 1, 2) := pm_of cl65_0 1 (q := (1, .aload_n 1, 2)) rfl
theorem c65_2 : pm_code 65 2 = some (.invokevirtual 82, 5) := pm_of cl65_0 2 (q := (2, .invokevirtual 82, 5)) rfl
theorem c65_5 : pm_code 65 5 = some (.iload_n 2, 6) := pm_of cl65_0 3 (q := (5, .iload_n 2, 6)) rfl
theorem c65_6 : pm_code 65 6 = some (.invokevirtual 106, 9) := pm_of cl65_0 4 (q := (6, .invokevirtual 106, 9)) rfl
theorem c65_9 : pm_code 65 9 = some (.istore_n 3, 10) := pm_of cl65_0 5 (q := (9, .istore_n 3, 10)) rfl
theorem c65_10 : pm_code 65 10 = some (.iload_n 3, 11) := pm_of cl65_0 6 (q := (10, .iload_n 3, 11)) rfl
theorem c65_11 : pm_code 65 11 = some (.iconst (-1), 12) := pm_of cl65_0 7 (q := (11, .iconst (-1), 12)) rfl
theorem c65_12 : pm_code 65 12 = some (.if_icmp .ne 56, 15) := pm_of cl65_0 8 (q := (12, .if_icmp .ne 56, 15)) rfl
theorem c65_15 : pm_code 65 15 = some (.aload_n 0, 16) := pm_of cl65_0 9 (q := (15, .aload_n 0, 16)) rfl
theorem c65_16 : pm_code 65 16 = some (.getfield 34, 19) := pm_of cl65_0 10 (q := (16, .getfield 34, 19)) rfl
theorem c65_19 : pm_code 65 19 = some (.istore_n 3, 20) := pm_of cl65_0 11 (q := (19, .istore_n 3, 20)) rfl
theorem c65_20 : pm_code 65 20 = some (.aload_n 0, 21) := pm_of cl65_0 12 (q := (20, .aload_n 0, 21)) rfl
theorem c65_21 : pm_code 65 21 = some (.dup, 22) := pm_of cl65_0 13 (q := (21, .dup, 22)) rfl
theorem c65_22 : pm_code 65 22 = some (.getfield 34, 25) := pm_of cl65_0 14 (q := (22, .getfield 34, 25)) rfl
theorem c65_25 : pm_code 65 25 = some (.iconst 1, 26) := pm_of cl65_0 15 (q := (25, .iconst 1, 26)) rfl
theorem c65_26 : pm_code 65 26 = some (.iadd, 27) := pm_of cl65_0 16 (q := (26, .iadd, 27)) rfl
theorem c65_27 : pm_code 65 27 = some (.putfield 34, 30) := pm_of cl65_0 17 (q := (27, .putfield 34, 30)) rfl
theorem c65_30 : pm_code 65 30 = some (.aload_n 0, 31) := pm_of cl65_0 18 (q := (30, .aload_n 0, 31)) rfl
theorem c65_31 : pm_code 65 31 = some (.getfield 19, 34) := pm_of cl65_0 19 (q := (31, .getfield 19, 34)) rfl
theorem c65_34 : pm_code 65 34 = some (.iload_n 3, 35) := pm_of cl65_0 20 (q := (34, .iload_n 3, 35)) rfl
theorem c65_35 : pm_code 65 35 = some (.iconst 0, 36) := pm_of cl65_0 21 (q := (35, .iconst 0, 36)) rfl
theorem c65_36 : pm_code 65 36 = some (.invokestatic 91, 39) := pm_of cl65_0 22 (q := (36, .invokestatic 91, 39)) rfl
theorem c65_39 : pm_code 65 39 = some (.iconst 0, 40) := pm_of cl65_0 23 (q := (39, .iconst 0, 40)) rfl
theorem c65_40 : pm_code 65 40 = some (.istore 4, 42) := pm_of cl65_0 24 (q := (40, .istore 4, 42)) rfl
theorem c65_42 : pm_code 65 42 = some (.iload 4, 44) := pm_of cl65_0 25 (q := (42, .iload 4, 44)) rfl
theorem c65_44 : pm_code 65 44 = some (.iconst 5, 45) := pm_of cl65_0 26 (q := (44, .iconst 5, 45)) rfl
theorem c65_45 : pm_code 65 45 = some (.if_icmp .ge 23, 48) := pm_of cl65_0 27 (q := (45, .if_icmp .ge 23, 48)) rfl
theorem c65_48 : pm_code 65 48 = some (.aload_n 0, 49) := pm_of cl65_0 28 (q := (48, .aload_n 0, 49)) rfl
theorem c65_49 : pm_code 65 49 = some (.getfield 22, 52) := pm_of cl65_0 29 (q := (49, .getfield 22, 52)) rfl
theorem c65_52 : pm_code 65 52 = some (.iload_n 3, 53) := pm_of cl65_0 30 (q := (52, .iload_n 3, 53)) rfl
theorem c65_53 : pm_code 65 53 = some (.iconst 5, 54) := pm_of cl65_0 31 (q := (53, .iconst 5, 54)) rfl
theorem c65_54 : pm_code 65 54 = some (.imul, 55) := pm_of cl65_0 32 (q := (54, .imul, 55)) rfl
theorem c65_55 : pm_code 65 55 = some (.iload 4, 57) := pm_of cl65_0 33 (q := (55, .iload 4, 57)) rfl
theorem c65_57 : pm_code 65 57 = some (.iadd, 58) := pm_of cl65_0 34 (q := (57, .iadd, 58)) rfl
theorem c65_58 : pm_code 65 58 = some (.iconst 0, 59) := pm_of cl65_0 35 (q := (58, .iconst 0, 59)) rfl
theorem c65_59 : pm_code 65 59 = some (.invokestatic 91, 62) := pm_of cl65_0 36 (q := (59, .invokestatic 91, 62)) rfl
theorem c65_62 : pm_code 65 62 = some (.iinc 4 1, 65) := pm_of cl65_0 37 (q := (62, .iinc 4 1, 65)) rfl
theorem c65_65 : pm_code 65 65 = some (.goto (-23), 68) := pm_of cl65_0 38 (q := (65, .goto (-23), 68)) rfl
theorem c65_68 : pm_code 65 68 = some (.aload_n 0, 69) := pm_of cl65_0 39 (q := (68, .aload_n 0, 69)) rfl
theorem cl65_1 : ([(69, .getfield 15, 72), (72, .iload_n 2, 73), (73, .iload_n 3, 74), (74, .invokestatic 91, 77), (77, .aload_n 0, 78), (78, .getfield 19, 81), (81, .iload_n 3, 82), (82, .aload_n 0, 83), (83, .getfield 19, 86), (86, .iload_n 3, 87), (87, .invokestatic 70, 90), (90, .iconst 1, 91), (91, .iadd, 92), (92, .invokestatic 91, 95), (95, .aload_n 1, 96), (96, .iload_n 2, 97), (97, .invokevirtual 110, 100), (100, .istore 4, 102), (102, .iconst 0, 103), (103, .istore 5, 105), (105, .iload 5, 107), (107, .aload_n 0, 108), (108, .getfield 38, 111), (111, .if_icmp .ge 45, 114), (114, .iload_n 3, 115), (115, .iconst 5, 116), (116, .imul, 117), (117, .iload 5, 119), (119, .iadd, 120), (120, .istore 6, 122), (122, .aload_n 0, 123), (123, .getfield 22, 126), (126, .iload 6, 128), (128, .aload_n 0, 129), (129, .getfield 22, 132), (132, .iload 6, 134), (134, .invokestatic 70, 137), (137, .aload_n 1, 138), (138, .iload_n 2, 139), (139, .iload 4, 141)] : List (Nat × Instr × Nat)).all (fun q => decide (pm_code 65 q.1 = some q.2)) = true := by decide +kernel
theorem c65_69 : pm_code 65 69 = some (.getfield 15, 72) := pm_of cl65_1 0 (q := (69, .getfield 15, 72)) rfl
theorem c65_72 : pm_code 65 72 = some (.iload_n 2, 73) := pm_of cl65_1 1 (q := (72, .iload_n 2, 73)) rfl
theorem c65_73 : pm_code 65 73 = some (.iload_n 3, 74) := pm_of cl65_1 2 (q := (73, .iload_n 3, 74)) rfl
theorem c65_74 : pm_code 65 74 = some (.invokestatic 91, 77) := pm_of cl65_1 3 (q := (74, .invokestatic 91, 77)) rfl
theorem c65_77 : pm_code 65 77 = some (.aload_n 0, 78) := pm_of cl65_1 4 (q := (77, .aload_n 0, 78)) rfl
theorem c65_78 : pm_code 65 78 = some (.getfield 19, 81) := pm_of cl65_1 5 (q := (78, .getfield 19, 81)) rfl
theorem c65_81 : pm_code 65 81 = some (.iload_n 3, 82) := pm_of cl65_1 6 (q := (81, .iload_n 3, 82)) rfl
theorem c65_82 : pm_code 65 82 = some (.aload_n 0, 83) := pm_of cl65_1 7 (q := (82, .aload_n 0, 83)) rfl
theorem c65_83 : pm_code 65 83 = some (.getfield 19, 86) := pm_of cl65_1 8 (q := (83, .getfield 19, 86)) rfl
theorem c65_86 : pm_code 65 86 = some (.iload_n 3, 87) := pm_of cl65_1 9 (q := (86, .iload_n 3, 87)) rfl
theorem c65_87 : pm_code 65 87 = some (.invokestatic 70, 90) := pm_of cl65_1 10 (q := (87, .invokestatic 70, 90)) rfl
theorem c65_90 : pm_code 65 90 = some (.iconst 1, 91) := pm_of cl65_1 11 (q := (90, .iconst 1, 91)) rfl
theorem c65_91 : pm_code 65 91 = some (.iadd, 92) := pm_of cl65_1 12 (q := (91, .iadd, 92)) rfl
theorem c65_92 : pm_code 65 92 = some (.invokestatic 91, 95) := pm_of cl65_1 13 (q := (92, .invokestatic 91, 95)) rfl
theorem c65_95 : pm_code 65 95 = some (.aload_n 1, 96) := pm_of cl65_1 14 (q := (95, .aload_n 1, 96)) rfl
theorem c65_96 : pm_code 65 96 = some (.iload_n 2, 97) := pm_of cl65_1 15 (q := (96, .iload_n 2, 97)) rfl
theorem c65_97 : pm_code 65 97 = some (.invokevirtual 110, 100) := pm_of cl65_1 16 (q := (97, .invokevirtual 110, 100)) rfl
theorem c65_100 : pm_code 65 100 = some (.istore 4, 102) := pm_of cl65_1 17 (q := (100, .istore 4, 102)) rfl
theorem c65_102 : pm_code 65 102 = some (.iconst 0, 103) := pm_of cl65_1 18 (q := (102, .iconst 0, 103)) rfl
theorem c65_103 : pm_code 65 103 = some (.istore 5, 105) := pm_of cl65_1 19 (q := (103, .istore 5, 105)) rfl
theorem c65_105 : pm_code 65 105 = some (.iload 5, 107) := pm_of cl65_1 20 (q := (105, .iload 5, 107)) rfl
theorem c65_107 : pm_code 65 107 = some (.aload_n 0, 108) := pm_of cl65_1 21 (q := (107, .aload_n 0, 108)) rfl
theorem c65_108 : pm_code 65 108 = some (.getfield 38, 111) := pm_of cl65_1 22 (q := (108, .getfield 38, 111)) rfl
theorem c65_111 : pm_code 65 111 = some (.if_icmp .ge 45, 114) := pm_of cl65_1 23 (q := (111, .if_icmp .ge 45, 114)) rfl
theorem c65_114 : pm_code 65 114 = some (.iload_n 3, 115) := pm_of cl65_1 24 (q := (114, .iload_n 3, 115)) rfl
theorem c65_115 : pm_code 65 115 = some (.iconst 5, 116) := pm_of cl65_1 25 (q := (115, .iconst 5, 116)) rfl
theorem c65_116 : pm_code 65 116 = some (.imul, 117) := pm_of cl65_1 26 (q := (116, .imul, 117)) rfl
theorem c65_117 : pm_code 65 117 = some (.iload 5, 119) := pm_of cl65_1 27 (q := (117, .iload 5, 119)) rfl
theorem c65_119 : pm_code 65 119 = some (.iadd, 120) := pm_of cl65_1 28 (q := (119, .iadd, 120)) rfl
theorem c65_120 : pm_code 65 120 = some (.istore 6, 122) := pm_of cl65_1 29 (q := (120, .istore 6, 122)) rfl
theorem c65_122 : pm_code 65 122 = some (.aload_n 0, 123) := pm_of cl65_1 30 (q := (122, .aload_n 0, 123)) rfl
theorem c65_123 : pm_code 65 123 = some (.getfield 22, 126) := pm_of cl65_1 31 (q := (123, .getfield 22, 126)) rfl
theorem c65_126 : pm_code 65 126 = some (.iload 6, 128) := pm_of cl65_1 32 (q := (126, .iload 6, 128)) rfl
theorem c65_128 : pm_code 65 128 = some (.aload_n 0, 129) := pm_of cl65_1 33 (q := (128, .aload_n 0, 129)) rfl
theorem c65_129 : pm_code 65 129 = some (.getfield 22, 132) := pm_of cl65_1 34 (q := (129, .getfield 22, 132)) rfl
theorem c65_132 : pm_code 65 132 = some (.iload 6, 134) := pm_of cl65_1 35 (q := (132, .iload 6, 134)) rfl
theorem c65_134 : pm_code 65 134 = some (.invokestatic 70, 137) := pm_of cl65_1 36 (q := (134, .invokestatic 70, 137)) rfl
theorem c65_137 : pm_code 65 137 = some (.aload_n 1, 138) := pm_of cl65_1 37 (q := (137, .aload_n 1, 138)) rfl
theorem c65_138 : pm_code 65 138 = some (.iload_n 2, 139) := pm_of cl65_1 38 (q := (138, .iload_n 2, 139)) rfl
theorem c65_139 : pm_code 65 139 = some (.iload 4, 141) := pm_of cl65_1 39 (q := (139, .iload 4, 141)) rfl
theorem cl65_2 : ([(141, .iload 5, 143), (143, .invokevirtual 113, 146), (146, .iadd, 147), (147, .invokestatic 91, 150), (150, .iinc 5 1, 153), (153, .goto (-48), 156), (156, .return_, 157)] : List (Nat × Instr × Nat)).all (fun q => decide (pm_code 65 q.1 = some q.2)) = true := by decide +kernel
theorem c65_141 : pm_code 65 141 = some (.iload 5, 143) := pm_of cl65_2 0 (q := (141, .iload 5, 143)) rfl
theorem c65_143 : pm_code 65 143 = some (.invokevirtual 113, 146) := pm_of cl65_2 1 (q := (143, .invokevirtual 113, 146)) rfl
theorem c65_146 : pm_code 65 146 = some (.iadd, 147) := pm_of cl65_2 2 (q := (146, .iadd, 147)) rfl
theorem c65_147 : pm_code 65 147 = some (.invokestatic 91, 150) := pm_of cl65_2 3 (q := (147, .invokestatic 91, 150)) rfl
theorem c65_150 : pm_code 65 150 = some (.iinc 5 1, 153) := pm_of cl65_2 4 (q := (150, .iinc 5 1, 153)) rfl
theorem c65_153 : pm_code 65 153 = some (.goto (-48), 156) := pm_of cl65_2 5 (q := (153, .goto (-48), 156)) rfl
theorem c65_156 : pm_code 65 156 = some (.return_, 157) := pm_of cl65_2 6 (q := (156, .return_, 157)) rfl
theorem k66 : pm_k 66 = 4 := by decide +kernel
theorem ml66 : pm_ml 66 = 4 := by decide +kernel
theorem rt66 : pm_rt 66 = (some .int) := by decide +kernel
theorem hh66 : pm_hh 66 = [] := by decide +kernel
theorem rc66 : pm_cl 4 = (pm_y 66).cls := by decide +kernel
theorem cl66_0 : ([(0, .iconst 0, 1), (1, .istore_n 3, 2), (2, .iload_n 3, 3), (3, .iload_n 2, 4), (4, .if_icmp .ge 39, 7), (7, .aload_n 1, 8), (8, .iload_n 2, 9), (9, .iload_n 3, 10), (10, .invokevirtual 117, 13), (13, .ifCond .eq 24, 16), (16, .aload_n 0, 17), (17, .getfield 15, 20), (20, .iload_n 3, 21), (21, .invokestatic 70, 24), (24, .iconst (-1), 25), (25, .if_icmp .eq 12, 28), (28, .aload_n 0, 29), (29, .getfield 15, 32), (32, .iload_n 3, 33), (33, .invokestatic 70, 36), (36, .ireturn, 37), (37, .iinc 3 1, 40), (40, .goto (-38), 43), (43, .iconst (-1), 44), (44, .ireturn, 45)] : List (Nat × Instr × Nat)).all (fun q => decide (pm_code 66 q.1 = some q.2)) = true := by decide +kernel
theorem c66_0 : pm_code 66 0 = some (.iconst 0, 1) := pm_of cl66_0 0 (q := (0, .iconst 0, 1)) rfl
theorem c66_1 : pm_code 66 1 = some (.istore_n 3, 2) := pm_of cl66_0 1 (q := (1, .istore_n 3, 2)) rfl
theorem c66_2 : pm_code 66 2 = some (.iload_n 3, 3) := pm_of cl66_0 2 (q := (2, .iload_n 3, 3)) rfl
theorem c66_3 : pm_code 66 3 = some (.iload_n 2, 4) := pm_of cl66_0 3 (q := (3, .iload_n 2, 4)) rfl
theorem c66_4 : pm_code 66 4 = some (.if_icmp .ge 39, 7) := pm_of cl66_0 4 (q := (4, .if_icmp .ge 39, 7)) rfl
theorem c66_7 : pm_code 66 7 = some (.aload_n 1, 8) := pm_of cl66_0 5 (q := (7, .aload_n 1, 8)) rfl
theorem c66_8 : pm_code 66 8 = some (.iload_n 2, 9) := pm_of cl66_0 6 (q := (8, .iload_n 2, 9)) rfl
theorem c66_9 : pm_code 66 9 = some (.iload_n 3, 10) := pm_of cl66_0 7 (q := (9, .iload_n 3, 10)) rfl
theorem c66_10 : pm_code 66 10 = some (.invokevirtual 117, 13) := pm_of cl66_0 8 (q := (10, .invokevirtual 117, 13)) rfl
theorem c66_13 : pm_code 66 13 = some (.ifCond .eq 24, 16) := pm_of cl66_0 9 (q := (13, .ifCond .eq 24, 16)) rfl
theorem c66_16 : pm_code 66 16 = some (.aload_n 0, 17) := pm_of cl66_0 10 (q := (16, .aload_n 0, 17)) rfl
theorem c66_17 : pm_code 66 17 = some (.getfield 15, 20) := pm_of cl66_0 11 (q := (17, .getfield 15, 20)) rfl
theorem c66_20 : pm_code 66 20 = some (.iload_n 3, 21) := pm_of cl66_0 12 (q := (20, .iload_n 3, 21)) rfl
theorem c66_21 : pm_code 66 21 = some (.invokestatic 70, 24) := pm_of cl66_0 13 (q := (21, .invokestatic 70, 24)) rfl
theorem c66_24 : pm_code 66 24 = some (.iconst (-1), 25) := pm_of cl66_0 14 (q := (24, .iconst (-1), 25)) rfl
theorem c66_25 : pm_code 66 25 = some (.if_icmp .eq 12, 28) := pm_of cl66_0 15 (q := (25, .if_icmp .eq 12, 28)) rfl
theorem c66_28 : pm_code 66 28 = some (.aload_n 0, 29) := pm_of cl66_0 16 (q := (28, .aload_n 0, 29)) rfl
theorem c66_29 : pm_code 66 29 = some (.getfield 15, 32) := pm_of cl66_0 17 (q := (29, .getfield 15, 32)) rfl
theorem c66_32 : pm_code 66 32 = some (.iload_n 3, 33) := pm_of cl66_0 18 (q := (32, .iload_n 3, 33)) rfl
theorem c66_33 : pm_code 66 33 = some (.invokestatic 70, 36) := pm_of cl66_0 19 (q := (33, .invokestatic 70, 36)) rfl
theorem c66_36 : pm_code 66 36 = some (.ireturn, 37) := pm_of cl66_0 20 (q := (36, .ireturn, 37)) rfl
theorem c66_37 : pm_code 66 37 = some (.iinc 3 1, 40) := pm_of cl66_0 21 (q := (37, .iinc 3 1, 40)) rfl
theorem c66_40 : pm_code 66 40 = some (.goto (-38), 43) := pm_of cl66_0 22 (q := (40, .goto (-38), 43)) rfl
theorem c66_43 : pm_code 66 43 = some (.iconst (-1), 44) := pm_of cl66_0 23 (q := (43, .iconst (-1), 44)) rfl
theorem c66_44 : pm_code 66 44 = some (.ireturn, 45) := pm_of cl66_0 24 (q := (44, .ireturn, 45)) rfl
theorem k67 : pm_k 67 = 4 := by decide +kernel
theorem ml67 : pm_ml 67 = 5 := by decide +kernel
theorem rt67 : pm_rt 67 = (some .int) := by decide +kernel
theorem hh67 : pm_hh 67 = [] := by decide +kernel
theorem rc67 : pm_cl 4 = (pm_y 67).cls := by decide +kernel
theorem cl67_0 : ([(0, .aload_n 1, 1), (1, .iconst 1, 2), (2, .invokevirtual 65, 5), (5, .istore_n 2, 6), (6, .iconst 1, 7), (7, .istore_n 3, 8), (8, .iconst 0, 9), (9, .istore 4, 11), (11, .iload 4, 13), (13, .aload_n 0, 14), (14, .getfield 38, 17), (17, .if_icmp .ge 52, 20), (20, .aload_n 0, 21), (21, .getfield 25, 24), (24, .iload 4, 26), (26, .iload_n 2, 27), (27, .aload_n 1, 28), (28, .iload 4, 30), (30, .invokevirtual 120, 33), (33, .invokestatic 123, 36), (36, .invokestatic 91, 39), (39, .aload_n 0, 40), (40, .getfield 31, 43), (43, .iload 4, 45), (45, .iload_n 3, 46), (46, .invokestatic 91, 49), (49, .iload_n 3, 50), (50, .aload_n 0, 51), (51, .getfield 25, 54), (54, .iload 4, 56), (56, .invokestatic 70, 59), (59, .iconst 1, 60), (60, .iadd, 61), (61, .imul, 62), (62, .istore_n 3, 63), (63, .iinc 4 1, 66), (66, .goto (-55), 69), (69, .sipush 3125, 72), (72, .iload_n 3, 73), (73, .invokestatic 123, 76)] : List (Nat × Instr × Nat)).all (fun q => decide (pm_code 67 q.1 = some q.2)) = true := by decide +kernel
theorem c67_0 : pm_code 67 0 = some (.aload_n 1, 1) := pm_of cl67_0 0 (q := (0, .aload_n 1, 1)) rfl
theorem c67_1 : pm_code 67 1 = some (.iconst 1, 2) := pm_of cl67_0 1 (q := (1, .iconst 1, 2)) rfl
theorem c67_2 : pm_code 67 2 = some (.invokevirtual 65, 5) := pm_of cl67_0 2 (q := (2, .invokevirtual 65, 5)) rfl
theorem c67_5 : pm_code 67 5 = some (.istore_n 2, 6) := pm_of cl67_0 3 (q := (5, .istore_n 2, 6)) rfl
theorem c67_6 : pm_code 67 6 = some (.iconst 1, 7) := pm_of cl67_0 4 (q := (6, .iconst 1, 7)) rfl
theorem c67_7 : pm_code 67 7 = some (.istore_n 3, 8) := pm_of cl67_0 5 (q := (7, .istore_n 3, 8)) rfl
theorem c67_8 : pm_code 67 8 = some (.iconst 0, 9) := pm_of cl67_0 6 (q := (8, .iconst 0, 9)) rfl
theorem c67_9 : pm_code 67 9 = some (.istore 4, 11) := pm_of cl67_0 7 (q := (9, .istore 4, 11)) rfl
theorem c67_11 : pm_code 67 11 = some (.iload 4, 13) := pm_of cl67_0 8 (q := (11, .iload 4, 13)) rfl
theorem c67_13 : pm_code 67 13 = some (.aload_n 0, 14) := pm_of cl67_0 9 (q := (13, .aload_n 0, 14)) rfl
theorem c67_14 : pm_code 67 14 = some (.getfield 38, 17) := pm_of cl67_0 10 (q := (14, .getfield 38, 17)) rfl
theorem c67_17 : pm_code 67 17 = some (.if_icmp .ge 52, 20) := pm_of cl67_0 11 (q := (17, .if_icmp .ge 52, 20)) rfl
theorem c67_20 : pm_code 67 20 = some (.aload_n 0, 21) := pm_of cl67_0 12 (q := (20, .aload_n 0, 21)) rfl
theorem c67_21 : pm_code 67 21 = some (.getfield 25, 24) := pm_of cl67_0 13 (q := (21, .getfield 25, 24)) rfl
theorem c67_24 : pm_code 67 24 = some (.iload 4, 26) := pm_of cl67_0 14 (q := (24, .iload 4, 26)) rfl
theorem c67_26 : pm_code 67 26 = some (.iload_n 2, 27) := pm_of cl67_0 15 (q := (26, .iload_n 2, 27)) rfl
theorem c67_27 : pm_code 67 27 = some (.aload_n 1, 28) := pm_of cl67_0 16 (q := (27, .aload_n 1, 28)) rfl
theorem c67_28 : pm_code 67 28 = some (.iload 4, 30) := pm_of cl67_0 17 (q := (28, .iload 4, 30)) rfl
theorem c67_30 : pm_code 67 30 = some (.invokevirtual 120, 33) := pm_of cl67_0 18 (q := (30, .invokevirtual 120, 33)) rfl
theorem c67_33 : pm_code 67 33 = some (.invokestatic 123, 36) := pm_of cl67_0 19 (q := (33, .invokestatic 123, 36)) rfl
theorem c67_36 : pm_code 67 36 = some (.invokestatic 91, 39) := pm_of cl67_0 20 (q := (36, .invokestatic 91, 39)) rfl
theorem c67_39 : pm_code 67 39 = some (.aload_n 0, 40) := pm_of cl67_0 21 (q := (39, .aload_n 0, 40)) rfl
theorem c67_40 : pm_code 67 40 = some (.getfield 31, 43) := pm_of cl67_0 22 (q := (40, .getfield 31, 43)) rfl
theorem c67_43 : pm_code 67 43 = some (.iload 4, 45) := pm_of cl67_0 23 (q := (43, .iload 4, 45)) rfl
theorem c67_45 : pm_code 67 45 = some (.iload_n 3, 46) := pm_of cl67_0 24 (q := (45, .iload_n 3, 46)) rfl
theorem c67_46 : pm_code 67 46 = some (.invokestatic 91, 49) := pm_of cl67_0 25 (q := (46, .invokestatic 91, 49)) rfl
theorem c67_49 : pm_code 67 49 = some (.iload_n 3, 50) := pm_of cl67_0 26 (q := (49, .iload_n 3, 50)) rfl
theorem c67_50 : pm_code 67 50 = some (.aload_n 0, 51) := pm_of cl67_0 27 (q := (50, .aload_n 0, 51)) rfl
theorem c67_51 : pm_code 67 51 = some (.getfield 25, 54) := pm_of cl67_0 28 (q := (51, .getfield 25, 54)) rfl
theorem c67_54 : pm_code 67 54 = some (.iload 4, 56) := pm_of cl67_0 29 (q := (54, .iload 4, 56)) rfl
theorem c67_56 : pm_code 67 56 = some (.invokestatic 70, 59) := pm_of cl67_0 30 (q := (56, .invokestatic 70, 59)) rfl
theorem c67_59 : pm_code 67 59 = some (.iconst 1, 60) := pm_of cl67_0 31 (q := (59, .iconst 1, 60)) rfl
theorem c67_60 : pm_code 67 60 = some (.iadd, 61) := pm_of cl67_0 32 (q := (60, .iadd, 61)) rfl
theorem c67_61 : pm_code 67 61 = some (.imul, 62) := pm_of cl67_0 33 (q := (61, .imul, 62)) rfl
theorem c67_62 : pm_code 67 62 = some (.istore_n 3, 63) := pm_of cl67_0 34 (q := (62, .istore_n 3, 63)) rfl
theorem c67_63 : pm_code 67 63 = some (.iinc 4 1, 66) := pm_of cl67_0 35 (q := (63, .iinc 4 1, 66)) rfl
theorem c67_66 : pm_code 67 66 = some (.goto (-55), 69) := pm_of cl67_0 36 (q := (66, .goto (-55), 69)) rfl
theorem c67_69 : pm_code 67 69 = some (.sipush 3125, 72) := pm_of cl67_0 37 (q := (69, .sipush 3125, 72)) rfl
theorem c67_72 : pm_code 67 72 = some (.iload_n 3, 73) := pm_of cl67_0 38 (q := (72, .iload_n 3, 73)) rfl
theorem c67_73 : pm_code 67 73 = some (.invokestatic 123, 76) := pm_of cl67_0 39 (q := (73, .invokestatic 123, 76)) rfl
theorem cl67_1 : ([(76, .ireturn, 77)] : List (Nat × Instr × Nat)).all (fun q => decide (pm_code 67 q.1 = some q.2)) = true := by decide +kernel
theorem c67_76 : pm_code 67 76 = some (.ireturn, 77) := pm_of cl67_1 0 (q := (76, .ireturn, 77)) rfl
theorem k68 : pm_k 68 = 4 := by decide +kernel
theorem ml68 : pm_ml 68 = 5 := by decide +kernel
theorem rt68 : pm_rt 68 = none := by decide +kernel
theorem hh68 : pm_hh 68 = [] := by decide +kernel
theorem rc68 : pm_cl 4 = (pm_y 68).cls := by decide +kernel
theorem cl68_0 : ([(0, .aload_n 0, 1), (1, .iconst 0, 2), (2, .putfield 41, 5), (5, .iconst 0, 6), (6, .istore 4, 8), (8, .iload 4, 10), (10, .aload_n 0, 11), (11, .getfield 38, 14), (14, .if_icmp .ge 27, 17), (17, .aload_n 0, 18), (18, .getfield 28, 21), (21, .iload 4, 23), (23, .aload_n 0, 24), (24, .getfield 25, 27), (27, .iload 4, 29), (29, .invokestatic 70, 32), (32, .invokestatic 91, 35), (35, .iinc 4 1, 38), (38, .goto (-30), 41), (41, .iload_n 2, 42), (42, .istore 4, 44), (44, .iload 4, 46), (46, .ifCond .lt 45, 49), (49, .aload_n 0, 50), (50, .getfield 41, 53), (53, .iload_n 3, 54), (54, .if_icmp .gt 27, 57), (57, .iload 4, 59), (59, .aload_n 0, 60), (60, .getfield 11, 63), (63, .arraylength, 64), (64, .if_icmp .ge 17, 67), (67, .aload_n 0, 68), (68, .getfield 11, 71), (71, .iload 4, 73), (73, .aload_n 0, 74), (74, .iload_n 1, 75), (75, .iload 4, 77), (77, .invokevirtual 129, 80), (80, .lastore, 81)] : List (Nat × Instr × Nat)).all (fun q => decide (pm_code 68 q.1 = some q.2)) = true := by decide +kernel
theorem c68_0 : pm_code 68 0 = some (.aload_n 0, 1) := pm_of cl68_0 0 (q := (0, .aload_n 0, 1)) rfl
theorem c68_1 : pm_code 68 1 = some (.iconst 0, 2) := pm_of cl68_0 1 (q := (1, .iconst 0, 2)) rfl
theorem c68_2 : pm_code 68 2 = some (.putfield 41, 5) := pm_of cl68_0 2 (q := (2, .putfield 41, 5)) rfl
theorem c68_5 : pm_code 68 5 = some (.iconst 0, 6) := pm_of cl68_0 3 (q := (5, .iconst 0, 6)) rfl
theorem c68_6 : pm_code 68 6 = some (.istore 4, 8) := pm_of cl68_0 4 (q := (6, .istore 4, 8)) rfl
theorem c68_8 : pm_code 68 8 = some (.iload 4, 10) := pm_of cl68_0 5 (q := (8, .iload 4, 10)) rfl
theorem c68_10 : pm_code 68 10 = some (.aload_n 0, 11) := pm_of cl68_0 6 (q := (10, .aload_n 0, 11)) rfl
theorem c68_11 : pm_code 68 11 = some (.getfield 38, 14) := pm_of cl68_0 7 (q := (11, .getfield 38, 14)) rfl
theorem c68_14 : pm_code 68 14 = some (.if_icmp .ge 27, 17) := pm_of cl68_0 8 (q := (14, .if_icmp .ge 27, 17)) rfl
theorem c68_17 : pm_code 68 17 = some (.aload_n 0, 18) := pm_of cl68_0 9 (q := (17, .aload_n 0, 18)) rfl
theorem c68_18 : pm_code 68 18 = some (.getfield 28, 21) := pm_of cl68_0 10 (q := (18, .getfield 28, 21)) rfl
theorem c68_21 : pm_code 68 21 = some (.iload 4, 23) := pm_of cl68_0 11 (q := (21, .iload 4, 23)) rfl
theorem c68_23 : pm_code 68 23 = some (.aload_n 0, 24) := pm_of cl68_0 12 (q := (23, .aload_n 0, 24)) rfl
theorem c68_24 : pm_code 68 24 = some (.getfield 25, 27) := pm_of cl68_0 13 (q := (24, .getfield 25, 27)) rfl
theorem c68_27 : pm_code 68 27 = some (.iload 4, 29) := pm_of cl68_0 14 (q := (27, .iload 4, 29)) rfl
theorem c68_29 : pm_code 68 29 = some (.invokestatic 70, 32) := pm_of cl68_0 15 (q := (29, .invokestatic 70, 32)) rfl
theorem c68_32 : pm_code 68 32 = some (.invokestatic 91, 35) := pm_of cl68_0 16 (q := (32, .invokestatic 91, 35)) rfl
theorem c68_35 : pm_code 68 35 = some (.iinc 4 1, 38) := pm_of cl68_0 17 (q := (35, .iinc 4 1, 38)) rfl
theorem c68_38 : pm_code 68 38 = some (.goto (-30), 41) := pm_of cl68_0 18 (q := (38, .goto (-30), 41)) rfl
theorem c68_41 : pm_code 68 41 = some (.iload_n 2, 42) := pm_of cl68_0 19 (q := (41, .iload_n 2, 42)) rfl
theorem c68_42 : pm_code 68 42 = some (.istore 4, 44) := pm_of cl68_0 20 (q := (42, .istore 4, 44)) rfl
theorem c68_44 : pm_code 68 44 = some (.iload 4, 46) := pm_of cl68_0 21 (q := (44, .iload 4, 46)) rfl
theorem c68_46 : pm_code 68 46 = some (.ifCond .lt 45, 49) := pm_of cl68_0 22 (q := (46, .ifCond .lt 45, 49)) rfl
theorem c68_49 : pm_code 68 49 = some (.aload_n 0, 50) := pm_of cl68_0 23 (q := (49, .aload_n 0, 50)) rfl
theorem c68_50 : pm_code 68 50 = some (.getfield 41, 53) := pm_of cl68_0 24 (q := (50, .getfield 41, 53)) rfl
theorem c68_53 : pm_code 68 53 = some (.iload_n 3, 54) := pm_of cl68_0 25 (q := (53, .iload_n 3, 54)) rfl
theorem c68_54 : pm_code 68 54 = some (.if_icmp .gt 27, 57) := pm_of cl68_0 26 (q := (54, .if_icmp .gt 27, 57)) rfl
theorem c68_57 : pm_code 68 57 = some (.iload 4, 59) := pm_of cl68_0 27 (q := (57, .iload 4, 59)) rfl
theorem c68_59 : pm_code 68 59 = some (.aload_n 0, 60) := pm_of cl68_0 28 (q := (59, .aload_n 0, 60)) rfl
theorem c68_60 : pm_code 68 60 = some (.getfield 11, 63) := pm_of cl68_0 29 (q := (60, .getfield 11, 63)) rfl
theorem c68_63 : pm_code 68 63 = some (.arraylength, 64) := pm_of cl68_0 30 (q := (63, .arraylength, 64)) rfl
theorem c68_64 : pm_code 68 64 = some (.if_icmp .ge 17, 67) := pm_of cl68_0 31 (q := (64, .if_icmp .ge 17, 67)) rfl
theorem c68_67 : pm_code 68 67 = some (.aload_n 0, 68) := pm_of cl68_0 32 (q := (67, .aload_n 0, 68)) rfl
theorem c68_68 : pm_code 68 68 = some (.getfield 11, 71) := pm_of cl68_0 33 (q := (68, .getfield 11, 71)) rfl
theorem c68_71 : pm_code 68 71 = some (.iload 4, 73) := pm_of cl68_0 34 (q := (71, .iload 4, 73)) rfl
theorem c68_73 : pm_code 68 73 = some (.aload_n 0, 74) := pm_of cl68_0 35 (q := (73, .aload_n 0, 74)) rfl
theorem c68_74 : pm_code 68 74 = some (.iload_n 1, 75) := pm_of cl68_0 36 (q := (74, .iload_n 1, 75)) rfl
theorem c68_75 : pm_code 68 75 = some (.iload 4, 77) := pm_of cl68_0 37 (q := (75, .iload 4, 77)) rfl
theorem c68_77 : pm_code 68 77 = some (.invokevirtual 129, 80) := pm_of cl68_0 38 (q := (77, .invokevirtual 129, 80)) rfl
theorem c68_80 : pm_code 68 80 = some (.lastore, 81) := pm_of cl68_0 39 (q := (80, .lastore, 81)) rfl
theorem cl68_1 : ([(81, .aload_n 0, 82), (82, .invokevirtual 133, 85), (85, .iinc 4 (-1), 88), (88, .goto (-44), 91), (91, .return_, 92)] : List (Nat × Instr × Nat)).all (fun q => decide (pm_code 68 q.1 = some q.2)) = true := by decide +kernel
theorem c68_81 : pm_code 68 81 = some (.aload_n 0, 82) := pm_of cl68_1 0 (q := (81, .aload_n 0, 82)) rfl
theorem c68_82 : pm_code 68 82 = some (.invokevirtual 133, 85) := pm_of cl68_1 1 (q := (82, .invokevirtual 133, 85)) rfl
theorem c68_85 : pm_code 68 85 = some (.iinc 4 (-1), 88) := pm_of cl68_1 2 (q := (85, .iinc 4 (-1), 88)) rfl
theorem c68_88 : pm_code 68 88 = some (.goto (-44), 91) := pm_of cl68_1 3 (q := (88, .goto (-44), 91)) rfl
theorem c68_91 : pm_code 68 91 = some (.return_, 92) := pm_of cl68_1 4 (q := (91, .return_, 92)) rfl
theorem k69 : pm_k 69 = 4 := by decide +kernel
theorem ml69 : pm_ml 69 = 13 := by decide +kernel
theorem rt69 : pm_rt 69 = (some .long) := by decide +kernel
theorem hh69 : pm_hh 69 = [] := by decide +kernel
theorem rc69 : pm_cl 4 = (pm_y 69).cls := by decide +kernel
theorem cl69_0 : ([(0, .aload_n 0, 1), (1, .iload_n 2, 2), (2, .invokevirtual 136, 5), (5, .lstore_n 3, 6), (6, .iload_n 1, 7), (7, .invokestatic 140, 10), (10, .istore 5, 12), (12, .iconst 0, 13), (13, .istore 6, 15), (15, .iload 6, 17), (17, .aload_n 0, 18), (18, .getfield 38, 21), (21, .if_icmp .ge 97, 24), (24, .aload_n 0, 25), (25, .getfield 28, 28), (28, .iload 6, 30), (30, .invokestatic 70, 33), (33, .aload_n 0, 34), (34, .getfield 19, 37), (37, .iload_n 1, 38), (38, .invokestatic 70, 41), (41, .if_icmp .lt 71, 44), (44, .aload_n 0, 45), (45, .getfield 22, 48), (48, .iload_n 1, 49), (49, .iconst 5, 50), (50, .imul, 51), (51, .iload 6, 53), (53, .iadd, 54), (54, .invokestatic 70, 57), (57, .i2l, 58), (58, .bipush 24, 60), (60, .lshl, 61), (61, .lstore 7, 63), (63, .iload 6, 65), (65, .iconst 1, 66), (66, .iadd, 67), (67, .i2l, 68), (68, .iload 5, 70), (70, .lshl, 71)] : List (Nat × Instr × Nat)).all (fun q => decide (pm_code 69 q.1 = some q.2)) = true := by decide +kernel
theorem c69_0 : pm_code 69 0 = some (.aload_n 0, 1) := pm_of cl69_0 0 (q := (0, .aload_n 0, 1)) rfl
theorem c69_1 : pm_code 69 1 = some (.iload_n 2, 2) := pm_of cl69_0 1 (q := (1, .iload_n 2, 2)) rfl
theorem c69_2 : pm_code 69 2 = some (.invokevirtual 136, 5) := pm_of cl69_0 2 (q := (2, .invokevirtual 136, 5)) rfl
theorem c69_5 : pm_code 69 5 = some (.lstore_n 3, 6) := pm_of cl69_0 3 (q := (5, .lstore_n 3, 6)) rfl
theorem c69_6 : pm_code 69 6 = some (.iload_n 1, 7) := pm_of cl69_0 4 (q := (6, .iload_n 1, 7)) rfl
theorem c69_7 : pm_code 69 7 = some (.invokestatic 140, 10) := pm_of cl69_0 5 (q := (7, .invokestatic 140, 10)) rfl
theorem c69_10 : pm_code 69 10 = some (.istore 5, 12) := pm_of cl69_0 6 (q := (10, .istore 5, 12)) rfl
theorem c69_12 : pm_code 69 12 = some (.iconst 0, 13) := pm_of cl69_0 7 (q := (12, .iconst 0, 13)) rfl
theorem c69_13 : pm_code 69 13 = some (.istore 6, 15) := pm_of cl69_0 8 (q := (13, .istore 6, 15)) rfl
theorem c69_15 : pm_code 69 15 = some (.iload 6, 17) := pm_of cl69_0 9 (q := (15, .iload 6, 17)) rfl
theorem c69_17 : pm_code 69 17 = some (.aload_n 0, 18) := pm_of cl69_0 10 (q := (17, .aload_n 0, 18)) rfl
theorem c69_18 : pm_code 69 18 = some (.getfield 38, 21) := pm_of cl69_0 11 (q := (18, .getfield 38, 21)) rfl
theorem c69_21 : pm_code 69 21 = some (.if_icmp .ge 97, 24) := pm_of cl69_0 12 (q := (21, .if_icmp .ge 97, 24)) rfl
theorem c69_24 : pm_code 69 24 = some (.aload_n 0, 25) := pm_of cl69_0 13 (q := (24, .aload_n 0, 25)) rfl
theorem c69_25 : pm_code 69 25 = some (.getfield 28, 28) := pm_of cl69_0 14 (q := (25, .getfield 28, 28)) rfl
theorem c69_28 : pm_code 69 28 = some (.iload 6, 30) := pm_of cl69_0 15 (q := (28, .iload 6, 30)) rfl
theorem c69_30 : pm_code 69 30 = some (.invokestatic 70, 33) := pm_of cl69_0 16 (q := (30, .invokestatic 70, 33)) rfl
theorem c69_33 : pm_code 69 33 = some (.aload_n 0, 34) := pm_of cl69_0 17 (q := (33, .aload_n 0, 34)) rfl
theorem c69_34 : pm_code 69 34 = some (.getfield 19, 37) := pm_of cl69_0 18 (q := (34, .getfield 19, 37)) rfl
theorem c69_37 : pm_code 69 37 = some (.iload_n 1, 38) := pm_of cl69_0 19 (q := (37, .iload_n 1, 38)) rfl
theorem c69_38 : pm_code 69 38 = some (.invokestatic 70, 41) := pm_of cl69_0 20 (q := (38, .invokestatic 70, 41)) rfl
theorem c69_41 : pm_code 69 41 = some (.if_icmp .lt 71, 44) := pm_of cl69_0 21 (q := (41, .if_icmp .lt 71, 44)) rfl
theorem c69_44 : pm_code 69 44 = some (.aload_n 0, 45) := pm_of cl69_0 22 (q := (44, .aload_n 0, 45)) rfl
theorem c69_45 : pm_code 69 45 = some (.getfield 22, 48) := pm_of cl69_0 23 (q := (45, .getfield 22, 48)) rfl
theorem c69_48 : pm_code 69 48 = some (.iload_n 1, 49) := pm_of cl69_0 24 (q := (48, .iload_n 1, 49)) rfl
theorem c69_49 : pm_code 69 49 = some (.iconst 5, 50) := pm_of cl69_0 25 (q := (49, .iconst 5, 50)) rfl
theorem c69_50 : pm_code 69 50 = some (.imul, 51) := pm_of cl69_0 26 (q := (50, .imul, 51)) rfl
theorem c69_51 : pm_code 69 51 = some (.iload 6, 53) := pm_of cl69_0 27 (q := (51, .iload 6, 53)) rfl
theorem c69_53 : pm_code 69 53 = some (.iadd, 54) := pm_of cl69_0 28 (q := (53, .iadd, 54)) rfl
theorem c69_54 : pm_code 69 54 = some (.invokestatic 70, 57) := pm_of cl69_0 29 (q := (54, .invokestatic 70, 57)) rfl
theorem c69_57 : pm_code 69 57 = some (.i2l, 58) := pm_of cl69_0 30 (q := (57, .i2l, 58)) rfl
theorem c69_58 : pm_code 69 58 = some (.bipush 24, 60) := pm_of cl69_0 31 (q := (58, .bipush 24, 60)) rfl
theorem c69_60 : pm_code 69 60 = some (.lshl, 61) := pm_of cl69_0 32 (q := (60, .lshl, 61)) rfl
theorem c69_61 : pm_code 69 61 = some (.lstore 7, 63) := pm_of cl69_0 33 (q := (61, .lstore 7, 63)) rfl
theorem c69_63 : pm_code 69 63 = some (.iload 6, 65) := pm_of cl69_0 34 (q := (63, .iload 6, 65)) rfl
theorem c69_65 : pm_code 69 65 = some (.iconst 1, 66) := pm_of cl69_0 35 (q := (65, .iconst 1, 66)) rfl
theorem c69_66 : pm_code 69 66 = some (.iadd, 67) := pm_of cl69_0 36 (q := (66, .iadd, 67)) rfl
theorem c69_67 : pm_code 69 67 = some (.i2l, 68) := pm_of cl69_0 37 (q := (67, .i2l, 68)) rfl
theorem c69_68 : pm_code 69 68 = some (.iload 5, 70) := pm_of cl69_0 38 (q := (68, .iload 5, 70)) rfl
theorem c69_70 : pm_code 69 70 = some (.lshl, 71) := pm_of cl69_0 39 (q := (70, .lshl, 71)) rfl
theorem cl69_1 : ([(71, .lstore 9, 73), (73, .aload_n 0, 74), (74, .iload_n 2, 75), (75, .aload_n 0, 76), (76, .getfield 19, 79), (79, .iload_n 1, 80), (80, .invokestatic 70, 83), (83, .aload_n 0, 84), (84, .getfield 31, 87), (87, .iload 6, 89), (89, .invokestatic 70, 92), (92, .imul, 93), (93, .isub, 94), (94, .invokevirtual 136, 97), (97, .lstore 11, 99), (99, .lload_n 3, 100), (100, .lload 11, 102), (102, .lload 7, 104), (104, .ladd, 105), (105, .lload 9, 107), (107, .lsub, 108), (108, .invokestatic 143, 111), (111, .lstore_n 3, 112), (112, .iinc 6 1, 115), (115, .goto (-100), 118), (118, .lload_n 3, 119), (119, .lreturn, 120)] : List (Nat × Instr × Nat)).all (fun q => decide (pm_code 69 q.1 = some q.2)) = true := by decide +kernel
theorem c69_71 : pm_code 69 71 = some (.lstore 9, 73) := pm_of cl69_1 0 (q := (71, .lstore 9, 73)) rfl
theorem c69_73 : pm_code 69 73 = some (.aload_n 0, 74) := pm_of cl69_1 1 (q := (73, .aload_n 0, 74)) rfl
theorem c69_74 : pm_code 69 74 = some (.iload_n 2, 75) := pm_of cl69_1 2 (q := (74, .iload_n 2, 75)) rfl
theorem c69_75 : pm_code 69 75 = some (.aload_n 0, 76) := pm_of cl69_1 3 (q := (75, .aload_n 0, 76)) rfl
theorem c69_76 : pm_code 69 76 = some (.getfield 19, 79) := pm_of cl69_1 4 (q := (76, .getfield 19, 79)) rfl
theorem c69_79 : pm_code 69 79 = some (.iload_n 1, 80) := pm_of cl69_1 5 (q := (79, .iload_n 1, 80)) rfl
theorem c69_80 : pm_code 69 80 = some (.invokestatic 70, 83) := pm_of cl69_1 6 (q := (80, .invokestatic 70, 83)) rfl
theorem c69_83 : pm_code 69 83 = some (.aload_n 0, 84) := pm_of cl69_1 7 (q := (83, .aload_n 0, 84)) rfl
theorem c69_84 : pm_code 69 84 = some (.getfield 31, 87) := pm_of cl69_1 8 (q := (84, .getfield 31, 87)) rfl
theorem c69_87 : pm_code 69 87 = some (.iload 6, 89) := pm_of cl69_1 9 (q := (87, .iload 6, 89)) rfl
theorem c69_89 : pm_code 69 89 = some (.invokestatic 70, 92) := pm_of cl69_1 10 (q := (89, .invokestatic 70, 92)) rfl
theorem c69_92 : pm_code 69 92 = some (.imul, 93) := pm_of cl69_1 11 (q := (92, .imul, 93)) rfl
theorem c69_93 : pm_code 69 93 = some (.isub, 94) := pm_of cl69_1 12 (q := (93, .isub, 94)) rfl
theorem c69_94 : pm_code 69 94 = some (.invokevirtual 136, 97) := pm_of cl69_1 13 (q := (94, .invokevirtual 136, 97)) rfl
theorem c69_97 : pm_code 69 97 = some (.lstore 11, 99) := pm_of cl69_1 14 (q := (97, .lstore 11, 99)) rfl
theorem c69_99 : pm_code 69 99 = some (.lload_n 3, 100) := pm_of cl69_1 15 (q := (99, .lload_n 3, 100)) rfl
theorem c69_100 : pm_code 69 100 = some (.lload 11, 102) := pm_of cl69_1 16 (q := (100, .lload 11, 102)) rfl
theorem c69_102 : pm_code 69 102 = some (.lload 7, 104) := pm_of cl69_1 17 (q := (102, .lload 7, 104)) rfl
theorem c69_104 : pm_code 69 104 = some (.ladd, 105) := pm_of cl69_1 18 (q := (104, .ladd, 105)) rfl
theorem c69_105 : pm_code 69 105 = some (.lload 9, 107) := pm_of cl69_1 19 (q := (105, .lload 9, 107)) rfl
theorem c69_107 : pm_code 69 107 = some (.lsub, 108) := pm_of cl69_1 20 (q := (107, .lsub, 108)) rfl
theorem c69_108 : pm_code 69 108 = some (.invokestatic 143, 111) := pm_of cl69_1 21 (q := (108, .invokestatic 143, 111)) rfl
theorem c69_111 : pm_code 69 111 = some (.lstore_n 3, 112) := pm_of cl69_1 22 (q := (111, .lstore_n 3, 112)) rfl
theorem c69_112 : pm_code 69 112 = some (.iinc 6 1, 115) := pm_of cl69_1 23 (q := (112, .iinc 6 1, 115)) rfl
theorem c69_115 : pm_code 69 115 = some (.goto (-100), 118) := pm_of cl69_1 24 (q := (115, .goto (-100), 118)) rfl
theorem c69_118 : pm_code 69 118 = some (.lload_n 3, 119) := pm_of cl69_1 25 (q := (118, .lload_n 3, 119)) rfl
theorem c69_119 : pm_code 69 119 = some (.lreturn, 120) := pm_of cl69_1 26 (q := (119, .lreturn, 120)) rfl
theorem k70 : pm_k 70 = 4 := by decide +kernel
theorem ml70 : pm_ml 70 = 2 := by decide +kernel
theorem rt70 : pm_rt 70 = (some .long) := by decide +kernel
theorem hh70 : pm_hh 70 = [] := by decide +kernel
theorem rc70 : pm_cl 4 = (pm_y 70).cls := by decide +kernel
theorem cl70_0 : ([(0, .iload_n 1, 1), (1, .ifCond .lt 21, 4), (4, .iload_n 1, 5), (5, .aload_n 0, 6), (6, .getfield 11, 9), (9, .arraylength, 10), (10, .if_icmp .ge 12, 13), (13, .aload_n 0, 14), (14, .getfield 11, 17), (17, .iload_n 1, 18), (18, .laload, 19), (19, .goto 4, 22), (22, .lconst 0, 23), (23, .lreturn, 24)] : List (Nat × Instr × Nat)).all (fun q => decide (pm_code 70 q.1 = some q.2)) = true := by decide +kernel
theorem c70_0 : pm_code 70 0 = some (.iload_n 1, 1) := pm_of cl70_0 0 (q := (0, .iload_n 1, 1)) rfl
theorem c70_1 : pm_code 70 1 = some (.ifCond .lt 21, 4) := pm_of cl70_0 1 (q := (1, .ifCond .lt 21, 4)) rfl
theorem c70_4 : pm_code 70 4 = some (.iload_n 1, 5) := pm_of cl70_0 2 (q := (4, .iload_n 1, 5)) rfl
theorem c70_5 : pm_code 70 5 = some (.aload_n 0, 6) := pm_of cl70_0 3 (q := (5, .aload_n 0, 6)) rfl
theorem c70_6 : pm_code 70 6 = some (.getfield 11, 9) := pm_of cl70_0 4 (q := (6, .getfield 11, 9)) rfl
theorem c70_9 : pm_code 70 9 = some (.arraylength, 10) := pm_of cl70_0 5 (q := (9, .arraylength, 10)) rfl
theorem c70_10 : pm_code 70 10 = some (.if_icmp .ge 12, 13) := pm_of cl70_0 6 (q := (10, .if_icmp .ge 12, 13)) rfl
theorem c70_13 : pm_code 70 13 = some (.aload_n 0, 14) := pm_of cl70_0 7 (q := (13, .aload_n 0, 14)) rfl
theorem c70_14 : pm_code 70 14 = some (.getfield 11, 17) := pm_of cl70_0 8 (q := (14, .getfield 11, 17)) rfl
theorem c70_17 : pm_code 70 17 = some (.iload_n 1, 18) := pm_of cl70_0 9 (q := (17, .iload_n 1, 18)) rfl
theorem c70_18 : pm_code 70 18 = some (.laload, 19) := pm_of cl70_0 10 (q := (18, .laload, 19)) rfl
theorem c70_19 : pm_code 70 19 = some (.goto 4, 22) := pm_of cl70_0 11 (q := (19, .goto 4, 22)) rfl
theorem c70_22 : pm_code 70 22 = some (.lconst 0, 23) := pm_of cl70_0 12 (q := (22, .lconst 0, 23)) rfl
theorem c70_23 : pm_code 70 23 = some (.lreturn, 24) := pm_of cl70_0 13 (q := (23, .lreturn, 24)) rfl
theorem k71 : pm_k 71 = 4 := by decide +kernel
theorem ml71 : pm_ml 71 = 1 := by decide +kernel
theorem rt71 : pm_rt 71 = (some .int) := by decide +kernel
theorem hh71 : pm_hh 71 = [] := by decide +kernel
theorem rc71 : pm_cl 4 = (pm_y 71).cls := by decide +kernel
theorem cl71_0 : ([(0, .iconst 3, 1), (1, .bipush 7, 3), (3, .iload_n 0, 4), (4, .isub, 5), (5, .imul, 6), (6, .ireturn, 7)] : List (Nat × Instr × Nat)).all (fun q => decide (pm_code 71 q.1 = some q.2)) = true := by decide +kernel
theorem c71_0 : pm_code 71 0 = some (.iconst 3, 1) := pm_of cl71_0 0 (q := (0, .iconst 3, 1)) rfl
theorem c71_1 : pm_code 71 1 = some (.bipush 7, 3) := pm_of cl71_0 1 (q := (1, .bipush 7, 3)) rfl
theorem c71_3 : pm_code 71 3 = some (.iload_n 0, 4) := pm_of cl71_0 2 (q := (3, .iload_n 0, 4)) rfl
theorem c71_4 : pm_code 71 4 = some (.isub, 5) := pm_of cl71_0 3 (q := (4, .isub, 5)) rfl
theorem c71_5 : pm_code 71 5 = some (.imul, 6) := pm_of cl71_0 4 (q := (5, .imul, 6)) rfl
theorem c71_6 : pm_code 71 6 = some (.ireturn, 7) := pm_of cl71_0 5 (q := (6, .ireturn, 7)) rfl
theorem k72 : pm_k 72 = 4 := by decide +kernel
theorem ml72 : pm_ml 72 = 3 := by decide +kernel
theorem rt72 : pm_rt 72 = none := by decide +kernel
theorem hh72 : pm_hh 72 = [] := by decide +kernel
theorem rc72 : pm_cl 4 = (pm_y 72).cls := by decide +kernel
theorem cl72_0 : ([(0, .iconst 0, 1), (1, .istore_n 1, 2), (2, .iload_n 1, 3), (3, .aload_n 0, 4), (4, .getfield 38, 7), (7, .if_icmp .ge 77, 10), (10, .aload_n 0, 11), (11, .getfield 28, 14), (14, .iload_n 1, 15), (15, .invokestatic 70, 18), (18, .istore_n 2, 19), (19, .iload_n 2, 20), (20, .ifCond .le 25, 23), (23, .aload_n 0, 24), (24, .getfield 28, 27), (27, .iload_n 1, 28), (28, .iload_n 2, 29), (29, .iconst 1, 30), (30, .isub, 31), (31, .invokestatic 91, 34), (34, .aload_n 0, 35), (35, .dup, 36), (36, .getfield 41, 39), (39, .iconst 1, 40), (40, .iadd, 41), (41, .putfield 41, 44), (44, .return_, 45), (45, .aload_n 0, 46), (46, .getfield 28, 49), (49, .iload_n 1, 50), (50, .aload_n 0, 51), (51, .getfield 25, 54), (54, .iload_n 1, 55), (55, .invokestatic 70, 58), (58, .invokestatic 91, 61), (61, .aload_n 0, 62), (62, .dup, 63), (63, .getfield 41, 66), (66, .aload_n 0, 67), (67, .getfield 25, 70)] : List (Nat × Instr × Nat)).all (fun q => decide (pm_code 72 q.1 = some q.2)) = true := by decide +kernel
theorem c72_0 : pm_code 72 0 = some (.iconst 0, 1) := pm_of cl72_0 0 (q := (0, .iconst 0, 1)) rfl
theorem c72_1 : pm_code 72 1 = some (.istore_n 1, 2) := pm_of cl72_0 1 (q := (1, .istore_n 1, 2)) rfl
theorem c72_2 : pm_code 72 2 = some (.iload_n 1, 3) := pm_of cl72_0 2 (q := (2, .iload_n 1, 3)) rfl
theorem c72_3 : pm_code 72 3 = some (.aload_n 0, 4) := pm_of cl72_0 3 (q := (3, .aload_n 0, 4)) rfl
theorem c72_4 : pm_code 72 4 = some (.getfield 38, 7) := pm_of cl72_0 4 (q := (4, .getfield 38, 7)) rfl
theorem c72_7 : pm_code 72 7 = some (.if_icmp .ge 77, 10) := pm_of cl72_0 5 (q := (7, .if_icmp .ge 77, 10)) rfl
theorem c72_10 : pm_code 72 10 = some (.aload_n 0, 11) := pm_of cl72_0 6 (q := (10, .aload_n 0, 11)) rfl
theorem c72_11 : pm_code 72 11 = some (.getfield 28, 14) := pm_of cl72_0 7 (q := (11, .getfield 28, 14)) rfl
theorem c72_14 : pm_code 72 14 = some (.iload_n 1, 15) := pm_of cl72_0 8 (q := (14, .iload_n 1, 15)) rfl
theorem c72_15 : pm_code 72 15 = some (.invokestatic 70, 18) := pm_of cl72_0 9 (q := (15, .invokestatic 70, 18)) rfl
theorem c72_18 : pm_code 72 18 = some (.istore_n 2, 19) := pm_of cl72_0 10 (q := (18, .istore_n 2, 19)) rfl
theorem c72_19 : pm_code 72 19 = some (.iload_n 2, 20) := pm_of cl72_0 11 (q := (19, .iload_n 2, 20)) rfl
theorem c72_20 : pm_code 72 20 = some (.ifCond .le 25, 23) := pm_of cl72_0 12 (q := (20, .ifCond .le 25, 23)) rfl
theorem c72_23 : pm_code 72 23 = some (.aload_n 0, 24) := pm_of cl72_0 13 (q := (23, .aload_n 0, 24)) rfl
theorem c72_24 : pm_code 72 24 = some (.getfield 28, 27) := pm_of cl72_0 14 (q := (24, .getfield 28, 27)) rfl
theorem c72_27 : pm_code 72 27 = some (.iload_n 1, 28) := pm_of cl72_0 15 (q := (27, .iload_n 1, 28)) rfl
theorem c72_28 : pm_code 72 28 = some (.iload_n 2, 29) := pm_of cl72_0 16 (q := (28, .iload_n 2, 29)) rfl
theorem c72_29 : pm_code 72 29 = some (.iconst 1, 30) := pm_of cl72_0 17 (q := (29, .iconst 1, 30)) rfl
theorem c72_30 : pm_code 72 30 = some (.isub, 31) := pm_of cl72_0 18 (q := (30, .isub, 31)) rfl
theorem c72_31 : pm_code 72 31 = some (.invokestatic 91, 34) := pm_of cl72_0 19 (q := (31, .invokestatic 91, 34)) rfl
theorem c72_34 : pm_code 72 34 = some (.aload_n 0, 35) := pm_of cl72_0 20 (q := (34, .aload_n 0, 35)) rfl
theorem c72_35 : pm_code 72 35 = some (.dup, 36) := pm_of cl72_0 21 (q := (35, .dup, 36)) rfl
theorem c72_36 : pm_code 72 36 = some (.getfield 41, 39) := pm_of cl72_0 22 (q := (36, .getfield 41, 39)) rfl
theorem c72_39 : pm_code 72 39 = some (.iconst 1, 40) := pm_of cl72_0 23 (q := (39, .iconst 1, 40)) rfl
theorem c72_40 : pm_code 72 40 = some (.iadd, 41) := pm_of cl72_0 24 (q := (40, .iadd, 41)) rfl
theorem c72_41 : pm_code 72 41 = some (.putfield 41, 44) := pm_of cl72_0 25 (q := (41, .putfield 41, 44)) rfl
theorem c72_44 : pm_code 72 44 = some (.return_, 45) := pm_of cl72_0 26 (q := (44, .return_, 45)) rfl
theorem c72_45 : pm_code 72 45 = some (.aload_n 0, 46) := pm_of cl72_0 27 (q := (45, .aload_n 0, 46)) rfl
theorem c72_46 : pm_code 72 46 = some (.getfield 28, 49) := pm_of cl72_0 28 (q := (46, .getfield 28, 49)) rfl
theorem c72_49 : pm_code 72 49 = some (.iload_n 1, 50) := pm_of cl72_0 29 (q := (49, .iload_n 1, 50)) rfl
theorem c72_50 : pm_code 72 50 = some (.aload_n 0, 51) := pm_of cl72_0 30 (q := (50, .aload_n 0, 51)) rfl
theorem c72_51 : pm_code 72 51 = some (.getfield 25, 54) := pm_of cl72_0 31 (q := (51, .getfield 25, 54)) rfl
theorem c72_54 : pm_code 72 54 = some (.iload_n 1, 55) := pm_of cl72_0 32 (q := (54, .iload_n 1, 55)) rfl
theorem c72_55 : pm_code 72 55 = some (.invokestatic 70, 58) := pm_of cl72_0 33 (q := (55, .invokestatic 70, 58)) rfl
theorem c72_58 : pm_code 72 58 = some (.invokestatic 91, 61) := pm_of cl72_0 34 (q := (58, .invokestatic 91, 61)) rfl
theorem c72_61 : pm_code 72 61 = some (.aload_n 0, 62) := pm_of cl72_0 35 (q := (61, .aload_n 0, 62)) rfl
theorem c72_62 : pm_code 72 62 = some (.dup, 63) := pm_of cl72_0 36 (q := (62, .dup, 63)) rfl
theorem c72_63 : pm_code 72 63 = some (.getfield 41, 66) := pm_of cl72_0 37 (q := (63, .getfield 41, 66)) rfl
theorem c72_66 : pm_code 72 66 = some (.aload_n 0, 67) := pm_of cl72_0 38 (q := (66, .aload_n 0, 67)) rfl
theorem c72_67 : pm_code 72 67 = some (.getfield 25, 70) := pm_of cl72_0 39 (q := (67, .getfield 25, 70)) rfl
theorem cl72_1 : ([(70, .iload_n 1, 71), (71, .invokestatic 70, 74), (74, .isub, 75), (75, .putfield 41, 78), (78, .iinc 1 1, 81), (81, .goto (-79), 84), (84, .return_, 85)] : List (Nat × Instr × Nat)).all (fun q => decide (pm_code 72 q.1 = some q.2)) = true := by decide +kernel
theorem c72_70 : pm_code 72 70 = some (.iload_n 1, 71) := pm_of cl72_1 0 (q := (70, .iload_n 1, 71)) rfl
theorem c72_71 : pm_code 72 71 = some (.invokestatic 70, 74) := pm_of cl72_1 1 (q := (71, .invokestatic 70, 74)) rfl
theorem c72_74 : pm_code 72 74 = some (.isub, 75) := pm_of cl72_1 2 (q := (74, .isub, 75)) rfl
theorem c72_75 : pm_code 72 75 = some (.putfield 41, 78) := pm_of cl72_1 3 (q := (75, .putfield 41, 78)) rfl
theorem c72_78 : pm_code 72 78 = some (.iinc 1 1, 81) := pm_of cl72_1 4 (q := (78, .iinc 1 1, 81)) rfl
theorem c72_81 : pm_code 72 81 = some (.goto (-79), 84) := pm_of cl72_1 5 (q := (81, .goto (-79), 84)) rfl
theorem c72_84 : pm_code 72 84 = some (.return_, 85) := pm_of cl72_1 6 (q := (84, .return_, 85)) rfl
theorem k73 : pm_k 73 = 4 := by decide +kernel
theorem ml73 : pm_ml 73 = 4 := by decide +kernel
theorem rt73 : pm_rt 73 = none := by decide +kernel
theorem hh73 : pm_hh 73 = [] := by decide +kernel
theorem rc73 : pm_cl 4 = (pm_y 73).cls := by decide +kernel
theorem cl73_0 : ([(0, .aload_n 0, 1), (1, .lload_n 1, 2), (2, .lneg, 3), (3, .ldc2_w 147, 6), (6, .land, 7), (7, .l2i, 8), (8, .putfield 50, 11), (11, .aload_n 0, 12), (12, .lload_n 1, 13), (13, .aload_n 0, 14), (14, .getfield 50, 17), (17, .i2l, 18), (18, .ladd, 19), (19, .bipush 24, 21), (21, .lshr, 22), (22, .l2i, 23), (23, .putfield 44, 26), (26, .aload_n 0, 27), (27, .iconst 0, 28), (28, .putfield 47, 31), (31, .iconst 0, 32), (32, .istore_n 3, 33), (33, .iload_n 3, 34), (34, .aload_n 0, 35), (35, .getfield 34, 38), (38, .if_icmp .ge 35, 41), (41, .aload_n 0, 42), (42, .iload_n 3, 43), (43, .invokevirtual 53, 46), (46, .iconst (-1), 47), (47, .if_icmp .eq 20, 50), (50, .aload_n 0, 51), (51, .dup, 52), (52, .getfield 47, 55), (55, .aload_n 0, 56), (56, .getfield 19, 59), (59, .iload_n 3, 60), (60, .invokestatic 70, 63), (63, .iadd, 64), (64, .putfield 47, 67)] : List (Nat × Instr × Nat)).all (fun q => decide (pm_code 73 q.1 = some q.2)) = true := by decide +kernel
theorem c73_0 : pm_code 73 0 = some (.aload_n 0, 1) := pm_of cl73_0 0 (q := (0, .aload_n 0, 1)) rfl
theorem c73_1 : pm_code 73 1 = some (.lload_n 1, 2) := pm_of cl73_0 1 (q := (1, .lload_n 1, 2)) rfl
theorem c73_2 : pm_code 73 2 = some (.lneg, 3) := pm_of cl73_0 2 (q := (2, .lneg, 3)) rfl
theorem c73_3 : pm_code 73 3 = some (.ldc2_w 147, 6) := pm_of cl73_0 3 (q := (3, .ldc2_w 147, 6)) rfl
theorem c73_6 : pm_code 73 6 = some (.land, 7) := pm_of cl73_0 4 (q := (6, .land, 7)) rfl
theorem c73_7 : pm_code 73 7 = some (.l2i, 8) := pm_of cl73_0 5 (q := (7, .l2i, 8)) rfl
theorem c73_8 : pm_code 73 8 = some (.putfield 50, 11) := pm_of cl73_0 6 (q := (8, .putfield 50, 11)) rfl
theorem c73_11 : pm_code 73 11 = some (.aload_n 0, 12) := pm_of cl73_0 7 (q := (11, .aload_n 0, 12)) rfl
theorem c73_12 : pm_code 73 12 = some (.lload_n 1, 13) := pm_of cl73_0 8 (q := (12, .lload_n 1, 13)) rfl
theorem c73_13 : pm_code 73 13 = some (.aload_n 0, 14) := pm_of cl73_0 9 (q := (13, .aload_n 0, 14)) rfl
theorem c73_14 : pm_code 73 14 = some (.getfield 50, 17) := pm_of cl73_0 10 (q := (14, .getfield 50, 17)) rfl
theorem c73_17 : pm_code 73 17 = some (.i2l, 18) := pm_of cl73_0 11 (q := (17, .i2l, 18)) rfl
theorem c73_18 : pm_code 73 18 = some (.ladd, 19) := pm_of cl73_0 12 (q := (18, .ladd, 19)) rfl
theorem c73_19 : pm_code 73 19 = some (.bipush 24, 21) := pm_of cl73_0 13 (q := (19, .bipush 24, 21)) rfl
theorem c73_21 : pm_code 73 21 = some (.lshr, 22) := pm_of cl73_0 14 (q := (21, .lshr, 22)) rfl
theorem c73_22 : pm_code 73 22 = some (.l2i, 23) := pm_of cl73_0 15 (q := (22, .l2i, 23)) rfl
theorem c73_23 : pm_code 73 23 = some (.putfield 44, 26) := pm_of cl73_0 16 (q := (23, .putfield 44, 26)) rfl
theorem c73_26 : pm_code 73 26 = some (.aload_n 0, 27) := pm_of cl73_0 17 (q := (26, .aload_n 0, 27)) rfl
theorem c73_27 : pm_code 73 27 = some (.iconst 0, 28) := pm_of cl73_0 18 (q := (27, .iconst 0, 28)) rfl
theorem c73_28 : pm_code 73 28 = some (.putfield 47, 31) := pm_of cl73_0 19 (q := (28, .putfield 47, 31)) rfl
theorem c73_31 : pm_code 73 31 = some (.iconst 0, 32) := pm_of cl73_0 20 (q := (31, .iconst 0, 32)) rfl
theorem c73_32 : pm_code 73 32 = some (.istore_n 3, 33) := pm_of cl73_0 21 (q := (32, .istore_n 3, 33)) rfl
theorem c73_33 : pm_code 73 33 = some (.iload_n 3, 34) := pm_of cl73_0 22 (q := (33, .iload_n 3, 34)) rfl
theorem c73_34 : pm_code 73 34 = some (.aload_n 0, 35) := pm_of cl73_0 23 (q := (34, .aload_n 0, 35)) rfl
theorem c73_35 : pm_code 73 35 = some (.getfield 34, 38) := pm_of cl73_0 24 (q := (35, .getfield 34, 38)) rfl
theorem c73_38 : pm_code 73 38 = some (.if_icmp .ge 35, 41) := pm_of cl73_0 25 (q := (38, .if_icmp .ge 35, 41)) rfl
theorem c73_41 : pm_code 73 41 = some (.aload_n 0, 42) := pm_of cl73_0 26 (q := (41, .aload_n 0, 42)) rfl
theorem c73_42 : pm_code 73 42 = some (.iload_n 3, 43) := pm_of cl73_0 27 (q := (42, .iload_n 3, 43)) rfl
theorem c73_43 : pm_code 73 43 = some (.invokevirtual 53, 46) := pm_of cl73_0 28 (q := (43, .invokevirtual 53, 46)) rfl
theorem c73_46 : pm_code 73 46 = some (.iconst (-1), 47) := pm_of cl73_0 29 (q := (46, .iconst (-1), 47)) rfl
theorem c73_47 : pm_code 73 47 = some (.if_icmp .eq 20, 50) := pm_of cl73_0 30 (q := (47, .if_icmp .eq 20, 50)) rfl
theorem c73_50 : pm_code 73 50 = some (.aload_n 0, 51) := pm_of cl73_0 31 (q := (50, .aload_n 0, 51)) rfl
theorem c73_51 : pm_code 73 51 = some (.dup, 52) := pm_of cl73_0 32 (q := (51, .dup, 52)) rfl
theorem c73_52 : pm_code 73 52 = some (.getfield 47, 55) := pm_of cl73_0 33 (q := (52, .getfield 47, 55)) rfl
theorem c73_55 : pm_code 73 55 = some (.aload_n 0, 56) := pm_of cl73_0 34 (q := (55, .aload_n 0, 56)) rfl
theorem c73_56 : pm_code 73 56 = some (.getfield 19, 59) := pm_of cl73_0 35 (q := (56, .getfield 19, 59)) rfl
theorem c73_59 : pm_code 73 59 = some (.iload_n 3, 60) := pm_of cl73_0 36 (q := (59, .iload_n 3, 60)) rfl
theorem c73_60 : pm_code 73 60 = some (.invokestatic 70, 63) := pm_of cl73_0 37 (q := (60, .invokestatic 70, 63)) rfl
theorem c73_63 : pm_code 73 63 = some (.iadd, 64) := pm_of cl73_0 38 (q := (63, .iadd, 64)) rfl
theorem c73_64 : pm_code 73 64 = some (.putfield 47, 67) := pm_of cl73_0 39 (q := (64, .putfield 47, 67)) rfl
theorem cl73_1 : ([(67, .iinc 3 1, 70), (70, .goto (-37), 73), (73, .return_, 74)] : List (Nat × Instr × Nat)).all (fun q => decide (pm_code 73 q.1 = some q.2)) = true := by decide +kernel
theorem c73_67 : pm_code 73 67 = some (.iinc 3 1, 70) := pm_of cl73_1 0 (q := (67, .iinc 3 1, 70)) rfl
theorem c73_70 : pm_code 73 70 = some (.goto (-37), 73) := pm_of cl73_1 1 (q := (70, .goto (-37), 73)) rfl
theorem c73_73 : pm_code 73 73 = some (.return_, 74) := pm_of cl73_1 2 (q := (73, .return_, 74)) rfl
theorem k74 : pm_k 74 = 4 := by decide +kernel
theorem ml74 : pm_ml 74 = 2 := by decide +kernel
theorem rt74 : pm_rt 74 = (some .int) := by decide +kernel
theorem hh74 : pm_hh 74 = [] := by decide +kernel
theorem rc74 : pm_cl 4 = (pm_y 74).cls := by decide +kernel
theorem cl74_0 : ([(0, .iload_n 1, 1), (1, .ifCond .ge 7, 4), (4, .iconst (-1), 5), (5, .goto 17, 8), (8, .aload_n 0, 9), (9, .getfield 50, 12), (12, .iload_n 1, 13), (13, .invokestatic 140, 16), (16, .ishr, 17), (17, .bipush 7, 19), (19, .iand, 20), (20, .iconst 1, 21), (21, .isub, 22), (22, .ireturn, 23)] : List (Nat × Instr × Nat)).all (fun q => decide (pm_code 74 q.1 = some q.2)) = true := by decide +kernel
theorem c74_0 : pm_code 74 0 = some (.iload_n 1, 1) := pm_of cl74_0 0 (q := (0, .iload_n 1, 1)) rfl
theorem c74_1 : pm_code 74 1 = some (.ifCond .ge 7, 4) := pm_of cl74_0 1 (q := (1, .ifCond .ge 7, 4)) rfl
theorem c74_4 : pm_code 74 4 = some (.iconst (-1), 5) := pm_of cl74_0 2 (q := (4, .iconst (-1), 5)) rfl
theorem c74_5 : pm_code 74 5 = some (.goto 17, 8) := pm_of cl74_0 3 (q := (5, .goto 17, 8)) rfl
theorem c74_8 : pm_code 74 8 = some (.aload_n 0, 9) := pm_of cl74_0 4 (q := (8, .aload_n 0, 9)) rfl
theorem c74_9 : pm_code 74 9 = some (.getfield 50, 12) := pm_of cl74_0 5 (q := (9, .getfield 50, 12)) rfl
theorem c74_12 : pm_code 74 12 = some (.iload_n 1, 13) := pm_of cl74_0 6 (q := (12, .iload_n 1, 13)) rfl
theorem c74_13 : pm_code 74 13 = some (.invokestatic 140, 16) := pm_of cl74_0 7 (q := (13, .invokestatic 140, 16)) rfl
theorem c74_16 : pm_code 74 16 = some (.ishr, 17) := pm_of cl74_0 8 (q := (16, .ishr, 17)) rfl
theorem c74_17 : pm_code 74 17 = some (.bipush 7, 19) := pm_of cl74_0 9 (q := (17, .bipush 7, 19)) rfl
theorem c74_19 : pm_code 74 19 = some (.iand, 20) := pm_of cl74_0 10 (q := (19, .iand, 20)) rfl
theorem c74_20 : pm_code 74 20 = some (.iconst 1, 21) := pm_of cl74_0 11 (q := (20, .iconst 1, 21)) rfl
theorem c74_21 : pm_code 74 21 = some (.isub, 22) := pm_of cl74_0 12 (q := (21, .isub, 22)) rfl
theorem c74_22 : pm_code 74 22 = some (.ireturn, 23) := pm_of cl74_0 13 (q := (22, .ireturn, 23)) rfl
theorem k75 : pm_k 75 = 4 := by decide +kernel
theorem ml75 : pm_ml 75 = 1 := by decide +kernel
theorem rt75 : pm_rt 75 = (some .int) := by decide +kernel
theorem hh75 : pm_hh 75 = [] := by decide +kernel
theorem rc75 : pm_cl 4 = (pm_y 75).cls := by decide +kernel
theorem cl75_0 : ([(0, .aload_n 0, 1), (1, .getfield 44, 4), (4, .ireturn, 5)] : List (Nat × Instr × Nat)).all (fun q => decide (pm_code 75 q.1 = some q.2)) = true := by decide +kernel
theorem c75_0 : pm_code 75 0 = some (.aload_n 0, 1) := pm_of cl75_0 0 (q := (0, .aload_n 0, 1)) rfl
theorem c75_1 : pm_code 75 1 = some (.getfield 44, 4) := pm_of cl75_0 1 (q := (1, .getfield 44, 4)) rfl
theorem c75_4 : pm_code 75 4 = some (.ireturn, 5) := pm_of cl75_0 2 (q := (4, .ireturn, 5)) rfl
theorem k76 : pm_k 76 = 4 := by decide +kernel
theorem ml76 : pm_ml 76 = 1 := by decide +kernel
theorem rt76 : pm_rt 76 = (some .int) := by decide +kernel
theorem hh76 : pm_hh 76 = [] := by decide +kernel
theorem rc76 : pm_cl 4 = (pm_y 76).cls := by decide +kernel
theorem cl76_0 : ([(0, .aload_n 0, 1), (1, .getfield 47, 4), (4, .ireturn, 5)] : List (Nat × Instr × Nat)).all (fun q => decide (pm_code 76 q.1 = some q.2)) = true := by decide +kernel
theorem c76_0 : pm_code 76 0 = some (.aload_n 0, 1) := pm_of cl76_0 0 (q := (0, .aload_n 0, 1)) rfl
theorem c76_1 : pm_code 76 1 = some (.getfield 47, 4) := pm_of cl76_0 1 (q := (1, .getfield 47, 4)) rfl
theorem c76_4 : pm_code 76 4 = some (.ireturn, 5) := pm_of cl76_0 2 (q := (4, .ireturn, 5)) rfl
theorem k77 : pm_k 77 = 4 := by decide +kernel
theorem ml77 : pm_ml 77 = 2 := by decide +kernel
theorem rt77 : pm_rt 77 = (some .int) := by decide +kernel
theorem hh77 : pm_hh 77 = [] := by decide +kernel
theorem rc77 : pm_cl 4 = (pm_y 77).cls := by decide +kernel
theorem cl77_0 : ([(0, .iload_n 1, 1), (1, .ifCond .lt 25, 4), (4, .iload_n 1, 5), (5, .aload_n 0, 6), (6, .getfield 15, 9), (9, .arraylength, 10), (10, .if_icmp .ge 16, 13), (13, .aload_n 0, 14), (14, .aload_n 0, 15), (15, .getfield 15, 18), (18, .iload_n 1, 19), (19, .iaload, 20), (20, .invokevirtual 53, 23), (23, .goto 4, 26), (26, .iconst (-1), 27), (27, .ireturn, 28)] : List (Nat × Instr × Nat)).all (fun q => decide (pm_code 77 q.1 = some q.2)) = true := by decide +kernel
theorem c77_0 : pm_code 77 0 = some (.iload_n 1, 1) := pm_of cl77_0 0 (q := (0, .iload_n 1, 1)) rfl
theorem c77_1 : pm_code 77 1 = some (.ifCond .lt 25, 4) := pm_of cl77_0 1 (q := (1, .ifCond .lt 25, 4)) rfl
theorem c77_4 : pm_code 77 4 = some (.iload_n 1, 5) := pm_of cl77_0 2 (q := (4, .iload_n 1, 5)) rfl
theorem c77_5 : pm_code 77 5 = some (.aload_n 0, 6) := pm_of cl77_0 3 (q := (5, .aload_n 0, 6)) rfl
theorem c77_6 : pm_code 77 6 = some (.getfield 15, 9) := pm_of cl77_0 4 (q := (6, .getfield 15, 9)) rfl
theorem c77_9 : pm_code 77 9 = some (.arraylength, 10) := pm_of cl77_0 5 (q := (9, .arraylength, 10)) rfl
theorem c77_10 : pm_code 77 10 = some (.if_icmp .ge 16, 13) := pm_of cl77_0 6 (q := (10, .if_icmp .ge 16, 13)) rfl
theorem c77_13 : pm_code 77 13 = some (.aload_n 0, 14) := pm_of cl77_0 7 (q := (13, .aload_n 0, 14)) rfl
theorem c77_14 : pm_code 77 14 = some (.aload_n 0, 15) := pm_of cl77_0 8 (q := (14, .aload_n 0, 15)) rfl
theorem c77_15 : pm_code 77 15 = some (.getfield 15, 18) := pm_of cl77_0 9 (q := (15, .getfield 15, 18)) rfl
theorem c77_18 : pm_code 77 18 = some (.iload_n 1, 19) := pm_of cl77_0 10 (q := (18, .iload_n 1, 19)) rfl
theorem c77_19 : pm_code 77 19 = some (.iaload, 20) := pm_of cl77_0 11 (q := (19, .iaload, 20)) rfl
theorem c77_20 : pm_code 77 20 = some (.invokevirtual 53, 23) := pm_of cl77_0 12 (q := (20, .invokevirtual 53, 23)) rfl
theorem c77_23 : pm_code 77 23 = some (.goto 4, 26) := pm_of cl77_0 13 (q := (23, .goto 4, 26)) rfl
theorem c77_26 : pm_code 77 26 = some (.iconst (-1), 27) := pm_of cl77_0 14 (q := (26, .iconst (-1), 27)) rfl
theorem c77_27 : pm_code 77 27 = some (.ireturn, 28) := pm_of cl77_0 15 (q := (27, .ireturn, 28)) rfl
theorem k78 : pm_k 78 = 5 := by decide +kernel
theorem ml78 : pm_ml 78 = 1 := by decide +kernel
theorem rt78 : pm_rt 78 = none := by decide +kernel
theorem hh78 : pm_hh 78 = [] := by decide +kernel
theorem rc78 : pm_cl 5 = (pm_y 78).cls := by decide +kernel
theorem cl78_0 : ([(0, .aload_n 0, 1), (1, .invokespecial 3, 4), (4, .aload_n 0, 5), (5, .bipush 8, 7), (7, .newarray .int, 9), (9, .putfield 9, 12), (12, .aload_n 0, 13), (13, .bipush 8, 15), (15, .newarray .int, 17), (17, .putfield 15, 20), (20, .aload_n 0, 21), (21, .bipush 8, 23), (23, .newarray .int, 25), (25, .putfield 18, 28), (28, .aload_n 0, 29), (29, .bipush 8, 31), (31, .newarray .int, 33), (33, .putfield 21, 36), (36, .aload_n 0, 37), (37, .iconst 5, 38), (38, .newarray .int, 40), (40, .putfield 24, 43), (43, .aload_n 0, 44), (44, .iconst 5, 45), (45, .newarray .int, 47), (47, .putfield 27, 50), (50, .aload_n 0, 51), (51, .iconst 5, 52), (52, .newarray .int, 54), (54, .putfield 30, 57), (57, .aload_n 0, 58), (58, .iconst 0, 59), (59, .putfield 33, 62), (62, .aload_n 0, 63), (63, .iconst 0, 64), (64, .putfield 37, 67), (67, .aload_n 0, 68), (68, .bipush 60, 70), (70, .putfield 40, 73), (73, .aload_n 0, 74)] : List (Nat × Instr × Nat)).all (fun q => decide (pm_code 78 q.1 = some q.2)) = true := by decide +kernel
theorem c78_0 : pm_code 78 0 = some (.aload_n 0, 1) := pm_of cl78_0 0 (q := (0, .aload_n 0, 1)) rfl
theorem c78_1 : pm_code 78 1 = some (.invokespecial 3, 4) := pm_of cl78_0 1 (q := (1, .invokespecial 3, 4)) rfl
theorem c78_4 : pm_code 78 4 = some (.aload_n 0, 5) := pm_of cl78_0 2 (q := (4, .aload_n 0, 5)) rfl
theorem c78_5 : pm_code 78 5 = some (.bipush 8, 7) := pm_of cl78_0 3 (q := (5, .bipush 8, 7)) rfl
theorem c78_7 : pm_code 78 7 = some (.newarray .int, 9) := pm_of cl78_0 4 (q := (7, .newarray .int, 9)) rfl
theorem c78_9 : pm_code 78 9 = some (.putfield 9, 12) := pm_of cl78_0 5 (q := (9, .putfield 9, 12)) rfl
theorem c78_12 : pm_code 78 12 = some (.aload_n 0, 13) := pm_of cl78_0 6 (q := (12, .aload_n 0, 13)) rfl
theorem c78_13 : pm_code 78 13 = some (.bipush 8, 15) := pm_of cl78_0 7 (q := (13, .bipush 8, 15)) rfl
theorem c78_15 : pm_code 78 15 = some (.newarray .int, 17) := pm_of cl78_0 8 (q := (15, .newarray .int, 17)) rfl
theorem c78_17 : pm_code 78 17 = some (.putfield 15, 20) := pm_of cl78_0 9 (q := (17, .putfield 15, 20)) rfl
theorem c78_20 : pm_code 78 20 = some (.aload_n 0, 21) := pm_of cl78_0 10 (q := (20, .aload_n 0, 21)) rfl
theorem c78_21 : pm_code 78 21 = some (.bipush 8, 23) := pm_of cl78_0 11 (q := (21, .bipush 8, 23)) rfl
theorem c78_23 : pm_code 78 23 = some (.newarray .int, 25) := pm_of cl78_0 12 (q := (23, .newarray .int, 25)) rfl
theorem c78_25 : pm_code 78 25 = some (.putfield 18, 28) := pm_of cl78_0 13 (q := (25, .putfield 18, 28)) rfl
theorem c78_28 : pm_code 78 28 = some (.aload_n 0, 29) := pm_of cl78_0 14 (q := (28, .aload_n 0, 29)) rfl
theorem c78_29 : pm_code 78 29 = some (.bipush 8, 31) := pm_of cl78_0 15 (q := (29, .bipush 8, 31)) rfl
theorem c78_31 : pm_code 78 31 = some (.newarray .int, 33) := pm_of cl78_0 16 (q := (31, .newarray .int, 33)) rfl
theorem c78_33 : pm_code 78 33 = some (.putfield 21, 36) := pm_of cl78_0 17 (q := (33, .putfield 21, 36)) rfl
theorem c78_36 : pm_code 78 36 = some (.aload_n 0, 37) := pm_of cl78_0 18 (q := (36, .aload_n 0, 37)) rfl
theorem c78_37 : pm_code 78 37 = some (.iconst 5, 38) := pm_of cl78_0 19 (q := (37, .iconst 5, 38)) rfl
theorem c78_38 : pm_code 78 38 = some (.newarray .int, 40) := pm_of cl78_0 20 (q := (38, .newarray .int, 40)) rfl
theorem c78_40 : pm_code 78 40 = some (.putfield 24, 43) := pm_of cl78_0 21 (q := (40, .putfield 24, 43)) rfl
theorem c78_43 : pm_code 78 43 = some (.aload_n 0, 44) := pm_of cl78_0 22 (q := (43, .aload_n 0, 44)) rfl
theorem c78_44 : pm_code 78 44 = some (.iconst 5, 45) := pm_of cl78_0 23 (q := (44, .iconst 5, 45)) rfl
theorem c78_45 : pm_code 78 45 = some (.newarray .int, 47) := pm_of cl78_0 24 (q := (45, .newarray .int, 47)) rfl
theorem c78_47 : pm_code 78 47 = some (.putfield 27, 50) := pm_of cl78_0 25 (q := (47, .putfield 27, 50)) rfl
theorem c78_50 : pm_code 78 50 = some (.aload_n 0, 51) := pm_of cl78_0 26 (q := (50, .aload_n 0, 51)) rfl
theorem c78_51 : pm_code 78 51 = some (.iconst 5, 52) := pm_of cl78_0 27 (q := (51, .iconst 5, 52)) rfl
theorem c78_52 : pm_code 78 52 = some (.newarray .int, 54) := pm_of cl78_0 28 (q := (52, .newarray .int, 54)) rfl
theorem c78_54 : pm_code 78 54 = some (.putfield 30, 57) := pm_of cl78_0 29 (q := (54, .putfield 30, 57)) rfl
theorem c78_57 : pm_code 78 57 = some (.aload_n 0, 58) := pm_of cl78_0 30 (q := (57, .aload_n 0, 58)) rfl
theorem c78_58 : pm_code 78 58 = some (.iconst 0, 59) := pm_of cl78_0 31 (q := (58, .iconst 0, 59)) rfl
theorem c78_59 : pm_code 78 59 = some (.putfield 33, 62) := pm_of cl78_0 32 (q := (59, .putfield 33, 62)) rfl
theorem c78_62 : pm_code 78 62 = some (.aload_n 0, 63) := pm_of cl78_0 33 (q := (62, .aload_n 0, 63)) rfl
theorem c78_63 : pm_code 78 63 = some (.iconst 0, 64) := pm_of cl78_0 34 (q := (63, .iconst 0, 64)) rfl
theorem c78_64 : pm_code 78 64 = some (.putfield 37, 67) := pm_of cl78_0 35 (q := (64, .putfield 37, 67)) rfl
theorem c78_67 : pm_code 78 67 = some (.aload_n 0, 68) := pm_of cl78_0 36 (q := (67, .aload_n 0, 68)) rfl
theorem c78_68 : pm_code 78 68 = some (.bipush 60, 70) := pm_of cl78_0 37 (q := (68, .bipush 60, 70)) rfl
theorem c78_70 : pm_code 78 70 = some (.putfield 40, 73) := pm_of cl78_0 38 (q := (70, .putfield 40, 73)) rfl
theorem c78_73 : pm_code 78 73 = some (.aload_n 0, 74) := pm_of cl78_0 39 (q := (73, .aload_n 0, 74)) rfl
theorem cl78_1 : ([(74, .bipush 8, 76), (76, .putfield 43, 79), (79, .return_, 80)] : List (Nat × Instr × Nat)).all (fun q => decide (pm_code 78 q.1 = some q.2)) = true := by decide +kernel
theorem c78_74 : pm_code 78 74 = some (.bipush 8, 76) := pm_of cl78_1 0 (q := (74, .bipush 8, 76)) rfl
theorem c78_76 : pm_code 78 76 = some (.putfield 43, 79) := pm_of cl78_1 1 (q := (76, .putfield 43, 79)) rfl
theorem c78_79 : pm_code 78 79 = some (.return_, 80) := pm_of cl78_1 2 (q := (79, .return_, 80)) rfl
theorem k79 : pm_k 79 = 5 := by decide +kernel
theorem ml79 : pm_ml 79 = 2 := by decide +kernel
theorem rt79 : pm_rt 79 = (some .int) := by decide +kernel
theorem hh79 : pm_hh 79 = [] := by decide +kernel
theorem rc79 : pm_cl 5 = (pm_y 79).cls := by decide +kernel
theorem cl79_0 : ([(0, .aload_n 0, 1), (1, .getfield 21, 4), (4, .iload_n 1, 5), (5, .invokestatic 46, 8), (8, .ireturn, 9)] : List (Nat × Instr × Nat)).all (fun q => decide (pm_code 79 q.1 = some q.2)) = true := by decide +kernel
theorem c79_0 : pm_code 79 0 = some (.aload_n 0, 1) := pm_of cl79_0 0 (q := (0, .aload_n 0, 1)) rfl
theorem c79_1 : pm_code 79 1 = some (.getfield 21, 4) := pm_of cl79_0 1 (q := (1, .getfield 21, 4)) rfl
theorem c79_4 : pm_code 79 4 = some (.iload_n 1, 5) := pm_of cl79_0 2 (q := (4, .iload_n 1, 5)) rfl
theorem c79_5 : pm_code 79 5 = some (.invokestatic 46, 8) := pm_of cl79_0 3 (q := (5, .invokestatic 46, 8)) rfl
theorem c79_8 : pm_code 79 8 = some (.ireturn, 9) := pm_of cl79_0 4 (q := (8, .ireturn, 9)) rfl
theorem k80 : pm_k 80 = 5 := by decide +kernel
theorem ml80 : pm_ml 80 = 1 := by decide +kernel
theorem rt80 : pm_rt 80 = (some .int) := by decide +kernel
theorem hh80 : pm_hh 80 = [] := by decide +kernel
theorem rc80 : pm_cl 5 = (pm_y 80).cls := by decide +kernel
theorem cl80_0 : ([(0, .aload_n 0, 1), (1, .getfield 40, 4), (4, .ireturn, 5)] : List (Nat × Instr × Nat)).all (fun q => decide (pm_code 80 q.1 = some q.2)) = true := by decide +kernel
theorem c80_0 : pm_code 80 0 = some (.aload_n 0, 1) := pm_of cl80_0 0 (q := (0, .aload_n 0, 1)) rfl
theorem c80_1 : pm_code 80 1 = some (.getfield 40, 4) := pm_of cl80_0 1 (q := (1, .getfield 40, 4)) rfl
theorem c80_4 : pm_code 80 4 = some (.ireturn, 5) := pm_of cl80_0 2 (q := (4, .ireturn, 5)) rfl
theorem k81 : pm_k 81 = 5 := by decide +kernel
theorem ml81 : pm_ml 81 = 1 := by decide +kernel
theorem rt81 : pm_rt 81 = (some .int) := by decide +kernel
theorem hh81 : pm_hh 81 = [] := by decide +kernel
theorem rc81 : pm_cl 5 = (pm_y 81).cls := by decide +kernel
theorem cl81_0 : ([(0, .aload_n 0, 1), (1, .getfield 33, 4), (4, .ireturn, 5)] : List (Nat × Instr × Nat)).all (fun q => decide (pm_code 81 q.1 = some q.2)) = true := by decide +kernel
theorem c81_0 : pm_code 81 0 = some (.aload_n 0, 1) := pm_of cl81_0 0 (q := (0, .aload_n 0, 1)) rfl
theorem c81_1 : pm_code 81 1 = some (.getfield 33, 4) := pm_of cl81_0 1 (q := (1, .getfield 33, 4)) rfl
theorem c81_4 : pm_code 81 4 = some (.ireturn, 5) := pm_of cl81_0 2 (q := (4, .ireturn, 5)) rfl
theorem k82 : pm_k 82 = 5 := by decide +kernel
theorem ml82 : pm_ml 82 = 2 := by decide +kernel
theorem rt82 : pm_rt 82 = (some .int) := by decide +kernel
theorem hh82 : pm_hh 82 = [] := by decide +kernel
theorem rc82 : pm_cl 5 = (pm_y 82).cls := by decide +kernel
theorem cl82_0 : ([(0, .aload_n 0, 1), (1, .getfield 9, 4), (4, .iload_n 1, 5), (5, .invokestatic 46, 8), (8, .ireturn, 9)] : List (Nat × Instr × Nat)).all (fun q => decide (pm_code 82 q.1 = some q.2)) = true := by decide +kernel
theorem c82_0 : pm_code 82 0 = some (.aload_n 0, 1) := pm_of cl82_0 0 (q := (0, .aload_n 0, 1)) rfl
theorem c82_1 : pm_code 82 1 = some (.getfield 9, 4) := pm_of cl82_0 1 (q := (1, .getfield 9, 4)) rfl
theorem c82_4 : pm_code 82 4 = some (.iload_n 1, 5) := pm_of cl82_0 2 (q := (4, .iload_n 1, 5)) rfl
theorem c82_5 : pm_code 82 5 = some (.invokestatic 46, 8) := pm_of cl82_0 3 (q := (5, .invokestatic 46, 8)) rfl
theorem c82_8 : pm_code 82 8 = some (.ireturn, 9) := pm_of cl82_0 4 (q := (8, .ireturn, 9)) rfl
theorem k83 : pm_k 83 = 5 := by decide +kernel
theorem ml83 : pm_ml 83 = 2 := by decide +kernel
theorem rt83 : pm_rt 83 = (some .int) := by decide +kernel
theorem hh83 : pm_hh 83 = [] := by decide +kernel
theorem rc83 : pm_cl 5 = (pm_y 83).cls := by decide +kernel
theorem cl83_0 : ([(0, .aload_n 0, 1), (1, .getfield 15, 4), (4, .iload_n 1, 5), (5, .invokestatic 46, 8), (8, .ireturn, 9)] : List (Nat × Instr × Nat)).all (fun q => decide (pm_code 83 q.1 = some q.2)) = true := by decide +kernel
theorem c83_0 : pm_code 83 0 = some (.aload_n 0, 1) := pm_of cl83_0 0 (q := (0, .aload_n 0, 1)) rfl
theorem c83_1 : pm_code 83 1 = some (.getfield 15, 4) := pm_of cl83_0 1 (q := (1, .getfield 15, 4)) rfl
theorem c83_4 : pm_code 83 4 = some (.iload_n 1, 5) := pm_of cl83_0 2 (q := (4, .iload_n 1, 5)) rfl
theorem c83_5 : pm_code 83 5 = some (.invokestatic 46, 8) := pm_of cl83_0 3 (q := (5, .invokestatic 46, 8)) rfl
theorem c83_8 : pm_code 83 8 = some (.ireturn, 9) := pm_of cl83_0 4 (q := (8, .ireturn, 9)) rfl
theorem k84 : pm_k 84 = 5 := by decide +kernel
theorem ml84 : pm_ml 84 = 5 := by decide +kernel
theorem rt84 : pm_rt 84 = (some .int) := by decide +kernel
theorem hh84 : pm_hh 84 = [] := by decide +kernel
theorem rc84 : pm_cl 5 = (pm_y 84).cls := by decide +kernel
theorem cl84_0 : ([(0, .aload_n 0, 1), (1, .getfield 18, 4), (4, .iload_n 1, 5), (5, .invokestatic 46, 8), (8, .istore_n 2, 9), (9, .iconst 0, 10), (10, .istore_n 3, 11), (11, .iconst 0, 12), (12, .istore 4, 14), (14, .iload 4, 16), (16, .aload_n 0, 17), (17, .getfield 33, 20), (20, .if_icmp .ge 39, 23), (23, .iload_n 2, 24), (24, .ifCond .eq 29, 27), (27, .iload 4, 29), (29, .iload_n 1, 30), (30, .if_icmp .eq 23, 33), (33, .aload_n 0, 34), (34, .getfield 18, 37), (37, .iload 4, 39), (39, .invokestatic 46, 42), (42, .iload_n 2, 43), (43, .if_icmp .ne 10, 46), (46, .iload_n 3, 47), (47, .iconst 1, 48), (48, .iload 4, 50), (50, .ishl, 51), (51, .ior, 52), (52, .istore_n 3, 53), (53, .iinc 4 1, 56), (56, .goto (-42), 59), (59, .iload_n 3, 60), (60, .ireturn, 61)] : List (Nat × Instr × Nat)).all (fun q => decide (pm_code 84 q.1 = some q.2)) = true := by decide +kernel
theorem c84_0 : pm_code 84 0 = some (.aload_n 0, 1) := pm_of cl84_0 0 (q := (0, .aload_n 0, 1)) rfl
theorem c84_1 : pm_code 84 1 = some (.getfield 18, 4) := pm_of cl84_0 1 (q := (1, .getfield 18, 4)) rfl
theorem c84_4 : pm_code 84 4 = some (.iload_n 1, 5) := pm_of cl84_0 2 (q := (4, .iload_n 1, 5)) rfl
theorem c84_5 : pm_code 84 5 = some (.invokestatic 46, 8) := pm_of cl84_0 3 (q := (5, .invokestatic 46, 8)) rfl
theorem c84_8 : pm_code 84 8 = some (.istore_n 2, 9) := pm_of cl84_0 4 (q := (8, .istore_n 2, 9)) rfl
theorem c84_9 : pm_code 84 9 = some (.iconst 0, 10) := pm_of cl84_0 5 (q := (9, .iconst 0, 10)) rfl
theorem c84_10 : pm_code 84 10 = some (.istore_n 3, 11) := pm_of cl84_0 6 (q := (10, .istore_n 3, 11)) rfl
theorem c84_11 : pm_code 84 11 = some (.iconst 0, 12) := pm_of cl84_0 7 (q := (11, .iconst 0, 12)) rfl
theorem c84_12 : pm_code 84 12 = some (.istore 4, 14) := pm_of cl84_0 8 (q := (12, .istore 4, 14)) rfl
theorem c84_14 : pm_code 84 14 = some (.iload 4, 16) := pm_of cl84_0 9 (q := (14, .iload 4, 16)) rfl
theorem c84_16 : pm_code 84 16 = some (.aload_n 0, 17) := pm_of cl84_0 10 (q := (16, .aload_n 0, 17)) rfl
theorem c84_17 : pm_code 84 17 = some (.getfield 33, 20) := pm_of cl84_0 11 (q := (17, .getfield 33, 20)) rfl
theorem c84_20 : pm_code 84 20 = some (.if_icmp .ge 39, 23) := pm_of cl84_0 12 (q := (20, .if_icmp .ge 39, 23)) rfl
theorem c84_23 : pm_code 84 23 = some (.iload_n 2, 24) := pm_of cl84_0 13 (q := (23, .iload_n 2, 24)) rfl
theorem c84_24 : pm_code 84 24 = some (.ifCond .eq 29, 27) := pm_of cl84_0 14 (q := (24, .ifCond .eq 29, 27)) rfl
theorem c84_27 : pm_code 84 27 = some (.iload 4, 29) := pm_of cl84_0 15 (q := (27, .iload 4, 29)) rfl
theorem c84_29 : pm_code 84 29 = some (.iload_n 1, 30) := pm_of cl84_0 16 (q := (29, .iload_n 1, 30)) rfl
theorem c84_30 : pm_code 84 30 = some (.if_icmp .eq 23, 33) := pm_of cl84_0 17 (q := (30, .if_icmp .eq 23, 33)) rfl
theorem c84_33 : pm_code 84 33 = some (.aload_n 0, 34) := pm_of cl84_0 18 (q := (33, .aload_n 0, 34)) rfl
theorem c84_34 : pm_code 84 34 = some (.getfield 18, 37) := pm_of cl84_0 19 (q := (34, .getfield 18, 37)) rfl
theorem c84_37 : pm_code 84 37 = some (.iload 4, 39) := pm_of cl84_0 20 (q := (37, .iload 4, 39)) rfl
theorem c84_39 : pm_code 84 39 = some (.invokestatic 46, 42) := pm_of cl84_0 21 (q := (39, .invokestatic 46, 42)) rfl
theorem c84_42 : pm_code 84 42 = some (.iload_n 2, 43) := pm_of cl84_0 22 (q := (42, .iload_n 2, 43)) rfl
theorem c84_43 : pm_code 84 43 = some (.if_icmp .ne 10, 46) := pm_of cl84_0 23 (q := (43, .if_icmp .ne 10, 46)) rfl
theorem c84_46 : pm_code 84 46 = some (.iload_n 3, 47) := pm_of cl84_0 24 (q := (46, .iload_n 3, 47)) rfl
theorem c84_47 : pm_code 84 47 = some (.iconst 1, 48) := pm_of cl84_0 25 (q := (47, .iconst 1, 48)) rfl
theorem c84_48 : pm_code 84 48 = some (.iload 4, 50) := pm_of cl84_0 26 (q := (48, .iload 4, 50)) rfl
theorem c84_50 : pm_code 84 50 = some (.ishl, 51) := pm_of cl84_0 27 (q := (50, .ishl, 51)) rfl
theorem c84_51 : pm_code 84 51 = some (.ior, 52) := pm_of cl84_0 28 (q := (51, .ior, 52)) rfl
theorem c84_52 : pm_code 84 52 = some (.istore_n 3, 53) := pm_of cl84_0 29 (q := (52, .istore_n 3, 53)) rfl
theorem c84_53 : pm_code 84 53 = some (.iinc 4 1, 56) := pm_of cl84_0 30 (q := (53, .iinc 4 1, 56)) rfl
theorem c84_56 : pm_code 84 56 = some (.goto (-42), 59) := pm_of cl84_0 31 (q := (56, .goto (-42), 59)) rfl
theorem c84_59 : pm_code 84 59 = some (.iload_n 3, 60) := pm_of cl84_0 32 (q := (59, .iload_n 3, 60)) rfl
theorem c84_60 : pm_code 84 60 = some (.ireturn, 61) := pm_of cl84_0 33 (q := (60, .ireturn, 61)) rfl
theorem k85 : pm_k 85 = 5 := by decide +kernel
theorem ml85 : pm_ml 85 = 3 := by decide +kernel
theorem rt85 : pm_rt 85 = (some .boolean) := by decide +kernel
theorem hh85 : pm_hh 85 = [] := by decide +kernel
theorem rc85 : pm_cl 5 = (pm_y 85).cls := by decide +kernel
theorem cl85_0 : ([(0, .aload_n 0, 1), (1, .iload_n 1, 2), (2, .invokevirtual 50, 5), (5, .iload_n 2, 6), (6, .ishr, 7), (7, .iconst 1, 8), (8, .iand, 9), (9, .iconst 1, 10), (10, .if_icmp .ne 7, 13), (13, .iconst 1, 14), (14, .goto 4, 17), (17, .iconst 0, 18), (18, .ireturn, 19)] : List (Nat × Instr × Nat)).all (fun q => decide (pm_code 85 q.1 = some q.2)) = true := by decide +kernel
theorem c85_0 : pm_code 85 0 = some (.aload_n 0, 1) := pm_of cl85_0 0 (q := (0, .aload_n 0, 1)) rfl
theorem c85_1 : pm_code 85 1 = some (.iload_n 1, 2) := pm_of cl85_0 1 (q := (1, .iload_n 1, 2)) rfl
theorem c85_2 : pm_code 85 2 = some (.invokevirtual 50, 5) := pm_of cl85_0 2 (q := (2, .invokevirtual 50, 5)) rfl
theorem c85_5 : pm_code 85 5 = some (.iload_n 2, 6) := pm_of cl85_0 3 (q := (5, .iload_n 2, 6)) rfl
theorem c85_6 : pm_code 85 6 = some (.ishr, 7) := pm_of cl85_0 4 (q := (6, .ishr, 7)) rfl
theorem c85_7 : pm_code 85 7 = some (.iconst 1, 8) := pm_of cl85_0 5 (q := (7, .iconst 1, 8)) rfl
theorem c85_8 : pm_code 85 8 = some (.iand, 9) := pm_of cl85_0 6 (q := (8, .iand, 9)) rfl
theorem c85_9 : pm_code 85 9 = some (.iconst 1, 10) := pm_of cl85_0 7 (q := (9, .iconst 1, 10)) rfl
theorem c85_10 : pm_code 85 10 = some (.if_icmp .ne 7, 13) := pm_of cl85_0 8 (q := (10, .if_icmp .ne 7, 13)) rfl
theorem c85_13 : pm_code 85 13 = some (.iconst 1, 14) := pm_of cl85_0 9 (q := (13, .iconst 1, 14)) rfl
theorem c85_14 : pm_code 85 14 = some (.goto 4, 17) := pm_of cl85_0 10 (q := (14, .goto 4, 17)) rfl
theorem c85_17 : pm_code 85 17 = some (.iconst 0, 18) := pm_of cl85_0 11 (q := (17, .iconst 0, 18)) rfl
theorem c85_18 : pm_code 85 18 = some (.ireturn, 19) := pm_of cl85_0 12 (q := (18, .ireturn, 19)) rfl
theorem k86 : pm_k 86 = 5 := by decide +kernel
theorem ml86 : pm_ml 86 = 3 := by decide +kernel
theorem rt86 : pm_rt 86 = none := by decide +kernel
theorem hh86 : pm_hh 86 = [] := by decide +kernel
theorem rc86 : pm_cl 5 = (pm_y 86).cls := by decide +kernel
theorem cl86_0 : ([(0, .aload_n 0, 1), (1, .iconst 0, 2), (2, .putfield 33, 5), (5, .aload_n 0, 6), (6, .iconst 0, 7), (7, .putfield 37, 10), (10, .aload_n 0, 11), (11, .bipush 60, 13), (13, .putfield 40, 16), (16, .aload_n 0, 17), (17, .bipush 8, 19), (19, .putfield 43, 22), (22, .iconst 0, 23), (23, .istore_n 2, 24), (24, .iload_n 2, 25), (25, .bipush 60, 27), (27, .if_icmp .gt 32, 30), (30, .aload_n 1, 31), (31, .invokevirtual 54, 34), (34, .ifCond .eq 25, 37), (37, .aload_n 0, 38), (38, .aload_n 1, 39), (39, .iload_n 2, 40), (40, .bipush 60, 42), (42, .if_icmp .ne 7, 45), (45, .iconst 1, 46), (46, .goto 4, 49), (49, .iconst 0, 50), (50, .invokevirtual 60, 53), (53, .iinc 2 1, 56), (56, .goto (-32), 59), (59, .return_, 60)] : List (Nat × Instr × Nat)).all (fun q => decide (pm_code 86 q.1 = some q.2)) = true := by decide +kernel
theorem c86_0 : pm_code 86 0 = some (.aload_n 0, 1) := pm_of cl86_0 0 (q := (0, .aload_n 0, 1)) rfl
theorem c86_1 : pm_code 86 1 = some (.iconst 0, 2) := pm_of cl86_0 1 (q := (1, .iconst 0, 2)) rfl
theorem c86_2 : pm_code 86 2 = some (.putfield 33, 5) := pm_of cl86_0 2 (q := (2, .putfield 33, 5)) rfl
theorem c86_5 : pm_code 86 5 = some (.aload_n 0, 6) := pm_of cl86_0 3 (q := (5, .aload_n 0, 6)) rfl
theorem c86_6 : pm_code 86 6 = some (.iconst 0, 7) := pm_of cl86_0 4 (q := (6, .iconst 0, 7)) rfl
theorem c86_7 : pm_code 86 7 = some (.putfield 37, 10) := pm_of cl86_0 5 (q := (7, .putfield 37, 10)) rfl
theorem c86_10 : pm_code 86 10 = some (.aload_n 0, 11) := pm_of cl86_0 6 (q := (10, .aload_n 0, 11)) rfl
theorem c86_11 : pm_code 86 11 = some (.bipush 60, 13) := pm_of cl86_0 7 (q := (11, .bipush 60, 13)) rfl
theorem c86_13 : pm_code 86 13 = some (.putfield 40, 16) := pm_of cl86_0 8 (q := (13, .putfield 40, 16)) rfl
theorem c86_16 : pm_code 86 16 = some (.aload_n 0, 17) := pm_of cl86_0 9 (q := (16, .aload_n 0, 17)) rfl
theorem c86_17 : pm_code 86 17 = some (.bipush 8, 19) := pm_of cl86_0 10 (q := (17, .bipush 8, 19)) rfl
theorem c86_19 : pm_code 86 19 = some (.putfield 43, 22) := pm_of cl86_0 11 (q := (19, .putfield 43, 22)) rfl
theorem c86_22 : pm_code 86 22 = some (.iconst 0, 23) := pm_of cl86_0 12 (q := (22, .iconst 0, 23)) rfl
theorem c86_23 : pm_code 86 23 = some (.istore_n 2, 24) := pm_of cl86_0 13 (q := (23, .istore_n 2, 24)) rfl
theorem c86_24 : pm_code 86 24 = some (.iload_n 2, 25) := pm_of cl86_0 14 (q := (24, .iload_n 2, 25)) rfl
theorem c86_25 : pm_code 86 25 = some (.bipush 60, 27) := pm_of cl86_0 15 (q := (25, .bipush 60, 27)) rfl
theorem c86_27 : pm_code 86 27 = some (.if_icmp .gt 32, 30) := pm_of cl86_0 16 (q := (27, .if_icmp .gt 32, 30)) rfl
theorem c86_30 : pm_code 86 30 = some (.aload_n 1, 31) := pm_of cl86_0 17 (q := (30, .aload_n 1, 31)) rfl
theorem c86_31 : pm_code 86 31 = some (.invokevirtual 54, 34) := pm_of cl86_0 18 (q := (31, .invokevirtual 54, 34)) rfl
theorem c86_34 : pm_code 86 34 = some (.ifCond .eq 25, 37) := pm_of cl86_0 19 (q := (34, .ifCond .eq 25, 37)) rfl
theorem c86_37 : pm_code 86 37 = some (.aload_n 0, 38) := pm_of cl86_0 20 (q := (37, .aload_n 0, 38)) rfl
theorem c86_38 : pm_code 86 38 = some (.aload_n 1, 39) := pm_of cl86_0 21 (q := (38, .aload_n 1, 39)) rfl
theorem c86_39 : pm_code 86 39 = some (.iload_n 2, 40) := pm_of cl86_0 22 (q := (39, .iload_n 2, 40)) rfl
theorem c86_40 : pm_code 86 40 = some (.bipush 60, 42) := pm_of cl86_0 23 (q := (40, .bipush 60, 42)) rfl
theorem c86_42 : pm_code 86 42 = some (.if_icmp .ne 7, 45) := pm_of cl86_0 24 (q := (42, .if_icmp .ne 7, 45)) rfl
theorem c86_45 : pm_code 86 45 = some (.iconst 1, 46) := pm_of cl86_0 25 (q := (45, .iconst 1, 46)) rfl
theorem c86_46 : pm_code 86 46 = some (.goto 4, 49) := pm_of cl86_0 26 (q := (46, .goto 4, 49)) rfl
theorem c86_49 : pm_code 86 49 = some (.iconst 0, 50) := pm_of cl86_0 27 (q := (49, .iconst 0, 50)) rfl
theorem c86_50 : pm_code 86 50 = some (.invokevirtual 60, 53) := pm_of cl86_0 28 (q := (50, .invokevirtual 60, 53)) rfl
theorem c86_53 : pm_code 86 53 = some (.iinc 2 1, 56) := pm_of cl86_0 29 (q := (53, .iinc 2 1, 56)) rfl
theorem c86_56 : pm_code 86 56 = some (.goto (-32), 59) := pm_of cl86_0 30 (q := (56, .goto (-32), 59)) rfl
theorem c86_59 : pm_code 86 59 = some (.return_, 60) := pm_of cl86_0 31 (q := (59, .return_, 60)) rfl
theorem k87 : pm_k 87 = 5 := by decide +kernel
theorem ml87 : pm_ml 87 = 4 := by decide +kernel
theorem rt87 : pm_rt 87 = none := by decide +kernel
theorem hh87 : pm_hh 87 = [] := by decide +kernel
theorem rc87 : pm_cl 5 = (pm_y 87).cls := by decide +kernel
theorem cl87_0 : ([(0, .aload_n 1, 1), (1, .invokestatic 64, 4), (4, .istore_n 3, 5), (5, .iload_n 3, 6), (6, .iconst (-1), 7), (7, .if_icmp .ne 9, 10), (10, .aload_n 1, 11), (11, .iconst 1, 12), (12, .invokevirtual 68, 15), (15, .return_, 16), (16, .iload_n 2, 17), (17, .ifCond .ne 29, 20), (20, .iload_n 3, 21), (21, .ifCond .ne 12, 24), (24, .aload_n 0, 25), (25, .getfield 33, 28), (28, .bipush 8, 30), (30, .if_icmp .ge 16, 33), (33, .iload_n 3, 34), (34, .iconst 1, 35), (35, .if_icmp .ne 17, 38), (38, .aload_n 0, 39), (39, .getfield 37, 42), (42, .iconst 5, 43), (43, .if_icmp .lt 9, 46), (46, .aload_n 1, 47), (47, .iconst 3, 48), (48, .invokevirtual 68, 51), (51, .return_, 52), (52, .aload_n 1, 53), (53, .invokevirtual 72, 56), (56, .iload_n 3, 57), (57, .tableswitch 70 0 3 #[31, 39, 47, 55], 88), (88, .aload_n 0, 89), (89, .aload_n 1, 90), (90, .invokevirtual 75, 93), (93, .goto 45, 96), (96, .aload_n 0, 97), (97, .aload_n 1, 98), (98, .invokevirtual 79, 101)] : List (Nat × Instr × Nat)).all (fun q => decide (pm_code 87 q.1 = some q.2)) = true := by decide +kernel
theorem c87_0 : pm_code 87 0 = some (.aload_n 1, 1) := pm_of cl87_0 0 (q := (0, .aload_n 1, 1)) rfl
theorem c87_1 : pm_code 87 1 = some (.invokestatic 64, 4) := pm_of cl87_0 1 (q := (1, .invokestatic 64, 4)) rfl
theorem c87_4 : pm_code 87 4 = some (.istore_n 3, 5) := pm_of cl87_0 2 (q := (4, .istore_n 3, 5)) rfl
theorem c87_5 : pm_code 87 5 = some (.iload_n 3, 6) := pm_of cl87_0 3 (q := (5, .iload_n 3, 6)) rfl
theorem c87_6 : pm_code 87 6 = some (.iconst (-1), 7) := pm_of cl87_0 4 (q := (6, .iconst (-1), 7)) rfl
theorem c87_7 : pm_code 87 7 = some (.if_icmp .ne 9, 10) := pm_of cl87_0 5 (q := (7, .if_icmp .ne 9, 10)) rfl
theorem c87_10 : pm_code 87 10 = some (.aload_n 1, 11) := pm_of cl87_0 6 (q := (10, .aload_n 1, 11)) rfl
theorem c87_11 : pm_code 87 11 = some (.iconst 1, 12) := pm_of cl87_0 7 (q := (11, .iconst 1, 12)) rfl
theorem c87_12 : pm_code 87 12 = some (.invokevirtual 68, 15) := pm_of cl87_0 8 (q := (12, .invokevirtual 68, 15)) rfl
theorem c87_15 : pm_code 87 15 = some (.return_, 16) := pm_of cl87_0 9 (q := (15, .return_, 16)) rfl
theorem c87_16 : pm_code 87 16 = some (.iload_n 2, 17) := pm_of cl87_0 10 (q := (16, .iload_n 2, 17)) rfl
theorem c87_17 : pm_code 87 17 = some (.ifCond .ne 29, 20) := pm_of cl87_0 11 (q := (17, .ifCond .ne 29, 20)) rfl
theorem c87_20 : pm_code 87 20 = some (.iload_n 3, 21) := pm_of cl87_0 12 (q := (20, .iload_n 3, 21)) rfl
theorem c87_21 : pm_code 87 21 = some (.ifCond .ne 12, 24) := pm_of cl87_0 13 (q := (21, .ifCond .ne 12, 24)) rfl
theorem c87_24 : pm_code 87 24 = some (.aload_n 0, 25) := pm_of cl87_0 14 (q := (24, .aload_n 0, 25)) rfl
theorem c87_25 : pm_code 87 25 = some (.getfield 33, 28) := pm_of cl87_0 15 (q := (25, .getfield 33, 28)) rfl
theorem c87_28 : pm_code 87 28 = some (.bipush 8, 30) := pm_of cl87_0 16 (q := (28, .bipush 8, 30)) rfl
theorem c87_30 : pm_code 87 30 = some (.if_icmp .ge 16, 33) := pm_of cl87_0 17 (q := (30, .if_icmp .ge 16, 33)) rfl
theorem c87_33 : pm_code 87 33 = some (.iload_n 3, 34) := pm_of cl87_0 18 (q := (33, .iload_n 3, 34)) rfl
theorem c87_34 : pm_code 87 34 = some (.iconst 1, 35) := pm_of cl87_0 19 (q := (34, .iconst 1, 35)) rfl
theorem c87_35 : pm_code 87 35 = some (.if_icmp .ne 17, 38) := pm_of cl87_0 20 (q := (35, .if_icmp .ne 17, 38)) rfl
theorem c87_38 : pm_code 87 38 = some (.aload_n 0, 39) := pm_of cl87_0 21 (q := (38, .aload_n 0, 39)) rfl
theorem c87_39 : pm_code 87 39 = some (.getfield 37, 42) := pm_of cl87_0 22 (q := (39, .getfield 37, 42)) rfl
theorem c87_42 : pm_code 87 42 = some (.iconst 5, 43) := pm_of cl87_0 23 (q := (42, .iconst 5, 43)) rfl
theorem c87_43 : pm_code 87 43 = some (.if_icmp .lt 9, 46) := pm_of cl87_0 24 (q := (43, .if_icmp .lt 9, 46)) rfl
theorem c87_46 : pm_code 87 46 = some (.aload_n 1, 47) := pm_of cl87_0 25 (q := (46, .aload_n 1, 47)) rfl
theorem c87_47 : pm_code 87 47 = some (.iconst 3, 48) := pm_of cl87_0 26 (q := (47, .iconst 3, 48)) rfl
theorem c87_48 : pm_code 87 48 = some (.invokevirtual 68, 51) := pm_of cl87_0 27 (q := (48, .invokevirtual 68, 51)) rfl
theorem c87_51 : pm_code 87 51 = some (.return_, 52) := pm_of cl87_0 28 (q := (51, .return_, 52)) rfl
theorem c87_52 : pm_code 87 52 = some (.aload_n 1, 53) := pm_of cl87_0 29 (q := (52, .aload_n 1, 53)) rfl
theorem c87_53 : pm_code 87 53 = some (.invokevirtual 72, 56) := pm_of cl87_0 30 (q := (53, .invokevirtual 72, 56)) rfl
theorem c87_56 : pm_code 87 56 = some (.iload_n 3, 57) := pm_of cl87_0 31 (q := (56, .iload_n 3, 57)) rfl
theorem c87_57 : pm_code 87 57 = some (.tableswitch 70 0 3 #[31, 39, 47, 55], 88) := pm_of cl87_0 32 (q := (57, .tableswitch 70 0 3 #[31, 39, 47, 55], 88)) rfl
theorem c87_88 : pm_code 87 88 = some (.aload_n 0, 89) := pm_of cl87_0 33 (q := (88, .aload_n 0, 89)) rfl
theorem c87_89 : pm_code 87 89 = some (.aload_n 1, 90) := pm_of cl87_0 34 (q := (89, .aload_n 1, 90)) rfl
theorem c87_90 : pm_code 87 90 = some (.invokevirtual 75, 93) := pm_of cl87_0 35 (q := (90, .invokevirtual 75, 93)) rfl
theorem c87_93 : pm_code 87 93 = some (.goto 45, 96) := pm_of cl87_0 36 (q := (93, .goto 45, 96)) rfl
theorem c87_96 : pm_code 87 96 = some (.aload_n 0, 97) := pm_of cl87_0 37 (q := (96, .aload_n 0, 97)) rfl
theorem c87_97 : pm_code 87 97 = some (.aload_n 1, 98) := pm_of cl87_0 38 (q := (97, .aload_n 1, 98)) rfl
theorem c87_98 : pm_code 87 98 = some (.invokevirtual 79, 101) := pm_of cl87_0 39 (q := (98, .invokevirtual 79, 101)) rfl
theorem cl87_1 : ([(101, .goto 37, 104), (104, .aload_n 0, 105), (105, .aload_n 1, 106), (106, .invokevirtual 82, 109), (109, .goto 29, 112), (112, .aload_n 0, 113), (113, .aload_n 1, 114), (114, .iconst 0, 115), (115, .sipush 400, 118), (118, .invokevirtual 85, 121), (121, .putfield 40, 124), (124, .goto 14, 127), (127, .aload_n 0, 128), (128, .aload_n 1, 129), (129, .iconst 0, 130), (130, .bipush 20, 132), (132, .invokevirtual 85, 135), (135, .putfield 43, 138), (138, .aload_n 1, 139), (139, .bipush 59, 141), (141, .invokevirtual 89, 144), (144, .return_, 145)] : List (Nat × Instr × Nat)).all (fun q => decide (pm_code 87 q.1 = some q.2)) = true := by decide +kernel
theorem c87_101 : pm_code 87 101 = some (.goto 37, 104) := pm_of cl87_1 0 (q := (101, .goto 37, 104)) rfl
theorem c87_104 : pm_code 87 104 = some (.aload_n 0, 105) := pm_of cl87_1 1 (q := (104, .aload_n 0, 105)) rfl
theorem c87_105 : pm_code 87 105 = some (.aload_n 1, 106) := pm_of cl87_1 2 (q := (105, .aload_n 1, 106)) rfl
theorem c87_106 : pm_code 87 106 = some (.invokevirtual 82, 109) := pm_of cl87_1 3 (q := (106, .invokevirtual 82, 109)) rfl
theorem c87_109 : pm_code 87 109 = some (.goto 29, 112) := pm_of cl87_1 4 (q := (109, .goto 29, 112)) rfl
theorem c87_112 : pm_code 87 112 = some (.aload_n 0, 113) := pm_of cl87_1 5 (q := (112, .aload_n 0, 113)) rfl
theorem c87_113 : pm_code 87 113 = some (.aload_n 1, 114) := pm_of cl87_1 6 (q := (113, .aload_n 1, 114)) rfl
theorem c87_114 : pm_code 87 114 = some (.iconst 0, 115) := pm_of cl87_1 7 (q := (114, .iconst 0, 115)) rfl
theorem c87_115 : pm_code 87 115 = some (.sipush 400, 118) := pm_of cl87_1 8 (q := (115, .sipush 400, 118)) rfl
theorem c87_118 : pm_code 87 118 = some (.invokevirtual 85, 121) := pm_of cl87_1 9 (q := (118, .invokevirtual 85, 121)) rfl
theorem c87_121 : pm_code 87 121 = some (.putfield 40, 124) := pm_of cl87_1 10 (q := (121, .putfield 40, 124)) rfl
theorem c87_124 : pm_code 87 124 = some (.goto 14, 127) := pm_of cl87_1 11 (q := (124, .goto 14, 127)) rfl
theorem c87_127 : pm_code 87 127 = some (.aload_n 0, 128) := pm_of cl87_1 12 (q := (127, .aload_n 0, 128)) rfl
theorem c87_128 : pm_code 87 128 = some (.aload_n 1, 129) := pm_of cl87_1 13 (q := (128, .aload_n 1, 129)) rfl
theorem c87_129 : pm_code 87 129 = some (.iconst 0, 130) := pm_of cl87_1 14 (q := (129, .iconst 0, 130)) rfl
theorem c87_130 : pm_code 87 130 = some (.bipush 20, 132) := pm_of cl87_1 15 (q := (130, .bipush 20, 132)) rfl
theorem c87_132 : pm_code 87 132 = some (.invokevirtual 85, 135) := pm_of cl87_1 16 (q := (132, .invokevirtual 85, 135)) rfl
theorem c87_135 : pm_code 87 135 = some (.putfield 43, 138) := pm_of cl87_1 17 (q := (135, .putfield 43, 138)) rfl
theorem c87_138 : pm_code 87 138 = some (.aload_n 1, 139) := pm_of cl87_1 18 (q := (138, .aload_n 1, 139)) rfl
theorem c87_139 : pm_code 87 139 = some (.bipush 59, 141) := pm_of cl87_1 19 (q := (139, .bipush 59, 141)) rfl
theorem c87_141 : pm_code 87 141 = some (.invokevirtual 89, 144) := pm_of cl87_1 20 (q := (141, .invokevirtual 89, 144)) rfl
theorem c87_144 : pm_code 87 144 = some (.return_, 145) := pm_of cl87_1 21 (q := (144, .return_, 145)) rfl
